theorem zset_zset (μ : zMu) (k : Nat) (a b : Int → Int) : zset (zset μ k a) k b = zset μ k b := by
  funext j; unfold zset; by_cases h : j = k <;> simp [h]
theorem zset_id (μ : zMu) (k : Nat) : zset μ k (μ k) = μ := by
  funext j; unfold zset; by_cases h : j = k <;> simp [h]
/-- a number between two others, a part of the way -/
theorem zmid {x y k m lo hi : Int} (hx : lo ≤ x ∧ x ≤ hi) (hy : lo ≤ y ∧ y ≤ hi) (hk : 0 ≤ k ∧ k ≤ m) (hm : 0 < m) : lo ≤ x + ((y - x) * k) / m ∧ x + ((y - x) * k) / m ≤ hi := by
  have h1 : (lo - x) * m ≤ (y - x) * k := by
    have a1 : (lo - x) * m ≤ (lo - x) * k := Int.mul_le_mul_of_nonpos_left (by omega) hk.2
    have a2 : (lo - x) * k ≤ (y - x) * k := Int.mul_le_mul_of_nonneg_right (by omega) hk.1
    omega
  have h2 : (y - x) * k ≤ (hi - x) * m := by
    have a1 : (hi - x) * k ≤ (hi - x) * m := Int.mul_le_mul_of_nonneg_left hk.2 (by omega)
    have a2 : (y - x) * k ≤ (hi - x) * k := Int.mul_le_mul_of_nonneg_right (by omega) hk.1
    omega
  have h3 := Int.le_ediv_of_mul_le hm h1
  have h4 : ((y - x) * k) / m ≤ hi - x := by
    have := Int.ediv_le_ediv hm h2
    rwa [Int.mul_ediv_cancel _ (Int.ne_of_gt hm)] at this
  omega
/-- (y - x) * k stays small -/
theorem zprod {y x k : Int} (h1 : -100 ≤ y - x ∧ y - x ≤ 100) (h2 : 0 ≤ k ∧ k ≤ 100) : -10000 ≤ (y - x) * k ∧ (y - x) * k ≤ 10000 := by
  have a1 : (y - x) * k ≤ 100 * k := Int.mul_le_mul_of_nonneg_right h1.2 h2.1
  have a2 : -100 * k ≤ (y - x) * k := Int.mul_le_mul_of_nonneg_right h1.1 h2.1
  omega
/-- the last hour not behind n - 1 that is 0, or -1 -/
def spBef (F : Int → Int) (a : Int) : Nat → Int
  | 0 => -1
  | n + 1 => if F (a + n) ≠ 0 then spBef F a n else n
/-- the first hour from 24 - k on that is 0, or 24 -/
def spBeh (F : Int → Int) (a : Int) : Nat → Int
  | 0 => 24
  | k + 1 => if F (a + (23 - k)) ≠ 0 then spBeh F a k else 23 - k
theorem spBef_s (F : Int → Int) (a : Int) {b : Int} (h : 0 ≤ b) : spBef F a (b + 1).toNat = if F (a + b) ≠ 0 then spBef F a b.toNat else b := by
  have e : (b + 1).toNat = b.toNat + 1 := by omega
  rw [e]
  show (if F (a + (b.toNat : Int)) ≠ 0 then _ else (b.toNat : Int)) = _
  rw [Int.toNat_of_nonneg h]
theorem spBeh_s (F : Int → Int) (a : Int) {b : Int} (h : b < 24) : spBeh F a (24 - b).toNat = if F (a + b) ≠ 0 then spBeh F a (24 - (b + 1)).toNat else b := by
  have e : (24 - b).toNat = (24 - (b + 1)).toNat + 1 := by omega
  rw [e]
  show (if F (a + (23 - ((24 - (b + 1)).toNat : Int))) ≠ 0 then _ else 23 - ((24 - (b + 1)).toNat : Int)) = _
  rw [Int.toNat_of_nonneg (by omega), show 23 - (24 - (b + 1)) = b by omega]
theorem spBef_rng (F : Int → Int) (a : Int) : ∀ n : Nat, -1 ≤ spBef F a n ∧ spBef F a n < n
  | 0 => ⟨Int.le_refl _, by show (-1 : Int) < ((0 : Nat) : Int); decide⟩
  | n + 1 => by
    have := spBef_rng F a n
    unfold spBef
    split <;> omega
theorem spBeh_rng (F : Int → Int) (a : Int) : ∀ k : Nat, 24 - k ≤ spBeh F a k ∧ spBeh F a k ≤ 24
  | 0 => ⟨by simp [spBeh], by simp [spBeh]⟩
  | k + 1 => by
    have := spBeh_rng F a k
    unfold spBeh
    split <;> omega
def spB (μ : zMu) (g d h : Int) : Int := spBef (μ 11) (240 * g + 24 * d) (h + 1).toNat
def spE (μ : zMu) (g d h : Int) : Int := spBeh (μ 11) (240 * g + 24 * d) (24 - h).toNat
/-- what a gauge tells, or NO -/
def spTells (μ : zMu) (g d h : Int) : Int :=
  if spB μ g d h = h then spWater μ (μ 8 g) d h
  else if spB μ g d h < 0 ∨ spE μ g d h = 24 ∨ spE μ g d h - spB μ g d h > 6 then zNO
  else spWater μ (μ 8 g) d (spB μ g d h) + ((spWater μ (μ 8 g) d (spE μ g d h) - spWater μ (μ 8 g) d (spB μ g d h)) * (h - spB μ g d h)) / (spE μ g d h - spB μ g d h)
theorem spB_rng (μ : zMu) (g d : Int) {h : Int} (h0 : 0 ≤ h) : -1 ≤ spB μ g d h ∧ spB μ g d h ≤ h := by
  have := spBef_rng (μ 11) (240 * g + 24 * d) (h + 1).toNat
  unfold spB
  omega
theorem spE_rng (μ : zMu) (g d : Int) {h : Int} (h0 : 0 ≤ h) (h1 : h ≤ 23) : h ≤ spE μ g d h ∧ spE μ g d h ≤ 24 := by
  have := spBeh_rng (μ 11) (240 * g + 24 * d) (24 - h).toNat
  unfold spE
  omega
theorem spE_B (μ : zMu) (g d : Int) {h : Int} (h0 : 0 ≤ h) (h1 : h ≤ 23) (hb : spB μ g d h ≠ h) : h < spE μ g d h := by
  have h2 := spE_rng μ g d h0 h1
  rcases Int.lt_or_eq_of_le h2.1 with q | q
  · exact q
  · exfalso
    have e1 := spBef_s (μ 11) (240 * g + 24 * d) h0
    have e2 := spBeh_s (μ 11) (240 * g + 24 * d) (b := h) (by omega)
    by_cases hf : μ 11 (240 * g + 24 * d + h) ≠ 0
    · rw [if_pos hf] at e2
      have := spBeh_rng (μ 11) (240 * g + 24 * d) (24 - (h + 1)).toNat
      unfold spE at q
      omega
    · rw [if_neg hf] at e1
      exact hb e1
theorem spTells_rng {μ : zMu} (hI : MI μ) {g d h : Int} (hg : 0 ≤ g ∧ g ≤ 2) (hd : 0 ≤ d ∧ d ≤ 9) (hh : 0 ≤ h ∧ h ≤ 23) : spTells μ g d h = zNO ∨ (-10 ≤ spTells μ g d h ∧ spTells μ g d h ≤ 39) := by
  have h8 := hI.b8 g (by omega) (by omega)
  have hb := spB_rng μ g d hh.1
  have he := spE_rng μ g d hh.1 hh.2
  unfold spTells
  split
  · exact Or.inr (spWater_rng hI.J h8 hd hh)
  · rename_i hne
    have hlt := spE_B μ g d hh.1 hh.2 hne
    split
    · exact Or.inl rfl
    · exact Or.inr (zmid (spWater_rng hI.J h8 hd (by omega)) (spWater_rng hI.J h8 hd (by omega)) (by omega) (by omega))

def spLo (a : Int → Int) (c g lo : Int) : Int := if a g < c ∧ (lo < 0 ∨ a lo < a g) then g else lo
def spHi (a : Int → Int) (c g hi : Int) : Int := if c < a g ∧ (hi < 0 ∨ a g < a hi) then g else hi
def spFin (T a : Int → Int) (c lo hi : Int) : Int := if lo < 0 ∧ hi < 0 then zNO else if lo < 0 then T hi else if hi < 0 then T lo else T lo + ((T hi - T lo) * (c - a lo)) / (a hi - a lo)
def spTd (T a : Int → Int) (c : Int) : Nat → Int → Int → Int → Int
  | 0, _, lo, hi => spFin T a c lo hi
  | n + 1, g, lo, hi => if T g = zNO then spTd T a c n (g + 1) lo hi else if a g = c then T g else spTd T a c n (g + 1) (spLo a c g lo) (spHi a c g hi)
theorem spTd_s (T a : Int → Int) (c : Int) {n g lo hi : Int} (h : g < n) : spTd T a c (n - g).toNat g lo hi = if T g = zNO then spTd T a c (n - (g + 1)).toNat (g + 1) lo hi else if a g = c then T g else spTd T a c (n - (g + 1)).toNat (g + 1) (spLo a c g lo) (spHi a c g hi) := by
  have e : (n - g).toNat = (n - (g + 1)).toNat + 1 := by omega
  rw [e, spTd]
theorem spTd_0 (T a : Int → Int) (c : Int) {n g lo hi : Int} (h : n ≤ g) : spTd T a c (n - g).toNat g lo hi = spFin T a c lo hi := by
  have e : (n - g).toNat = 0 := by omega
  rw [e, spTd]
/-- the tide in a column, or NO -/
def spTide (μ : zMu) (c d h : Int) : Int := spTd (fun g => spTells μ g d h) (μ 8) c (μ 1 0 - 0).toNat 0 (-1) (-1)
/-- what stands of the two nearest gauges -/
def spTI (T a : Int → Int) (c g lo hi : Int) : Prop := -1 ≤ lo ∧ lo < g ∧ -1 ≤ hi ∧ hi < g ∧ (0 ≤ lo → T lo ≠ zNO ∧ a lo < c) ∧ (0 ≤ hi → T hi ≠ zNO ∧ c < a hi)
theorem spTI_s {T a : Int → Int} {c g lo hi : Int} (hg : 0 ≤ g) (h : spTI T a c g lo hi) (hT : T g ≠ zNO) : spTI T a c (g + 1) (spLo a c g lo) (spHi a c g hi) := by
  obtain ⟨h1, h2, h3, h4, h5, h6⟩ := h
  unfold spTI spLo spHi
  refine ⟨by split <;> omega, by split <;> omega, by split <;> omega, by split <;> omega, ?_, ?_⟩
  · split
    · rename_i q; exact fun _ => ⟨hT, q.1⟩
    · exact h5
  · split
    · rename_i q; exact fun _ => ⟨hT, q.1⟩
    · exact h6
theorem spTI_n {T a : Int → Int} {c g lo hi : Int} (h : spTI T a c g lo hi) : spTI T a c (g + 1) lo hi := by
  obtain ⟨h1, h2, h3, h4, h5, h6⟩ := h
  exact ⟨h1, by omega, h3, by omega, h5, h6⟩
theorem spTd_rng {T a : Int → Int} {c n : Int} (hT : ∀ g, 0 ≤ g → g < n → T g = zNO ∨ (-10 ≤ T g ∧ T g ≤ 39)) : ∀ (k : Nat) (g lo hi : Int), 0 ≤ g → g + k = n → spTI T a c g lo hi → spTd T a c k g lo hi = zNO ∨ (-10 ≤ spTd T a c k g lo hi ∧ spTd T a c k g lo hi ≤ 39) := by
  intro k
  induction k with
  | zero =>
    intro g lo hi hg hk ⟨h1, h2, h3, h4, h5, h6⟩
    rw [spTd, spFin]
    split
    · exact Or.inl rfl
    · split
      · exact hT hi (by omega) (by omega)
      · split
        · exact hT lo (by omega) (by omega)
        · have q5 := h5 (by omega)
          have q6 := h6 (by omega)
          have r5 := (hT lo (by omega) (by omega)).resolve_left q5.1
          have r6 := (hT hi (by omega) (by omega)).resolve_left q6.1
          exact Or.inr (zmid r5 r6 (by omega) (by omega))
  | succ k ih =>
    intro g lo hi hg hk h
    rw [spTd]
    split
    · exact ih _ _ _ (by omega) (by omega) (spTI_n h)
    · rename_i q
      split
      · exact hT g hg (by omega)
      · exact ih _ _ _ (by omega) (by omega) (spTI_s hg h q)
theorem spTide_rng {μ : zMu} (hI : MI μ) {c d h : Int} (hd : 0 ≤ d ∧ d ≤ 9) (hh : 0 ≤ h ∧ h ≤ 23) : spTide μ c d h = zNO ∨ (-10 ≤ spTide μ c d h ∧ spTide μ c d h ≤ 39) := by
  have hn := hI.n
  exact spTd_rng (n := μ 1 0) (fun g q0 q1 => spTells_rng hI (by omega) hd hh) _ _ _ _ (by omega) (by omega) ⟨by omega, by omega, by omega, by omega, fun q => by omega, fun q => by omega⟩
def o_told (μ : zMu) (g d h : Int) : Int × Int × zMu := if 0 ≤ g ∧ g < μ 1 0 then (if 0 ≤ d ∧ d ≤ 9 ∧ 0 ≤ h ∧ h ≤ 23 then (if spTells μ g d h = zNO then (3, 0, μ) else (0, spTells μ g d h, μ)) else (2, 0, μ)) else (1, 0, μ)
def o_tide (μ : zMu) (c d h : Int) : Int × Int × zMu := if 0 ≤ c ∧ c ≤ 19 ∧ 0 ≤ d ∧ d ≤ 9 ∧ 0 ≤ h ∧ h ≤ 23 then (if spTide μ c d h = zNO then (2, 0, μ) else (0, spTide μ c d h, μ)) else (1, 0, μ)
