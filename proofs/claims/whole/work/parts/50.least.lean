/-! ===== the least depth over the lines is the chart's ===== -/
theorem zfold_ind {α : Type} {φ : Int → α → α} {P : Int → α → Prop} {u : α} (h0 : P 0 u) : ∀ {n : Nat}, (∀ i : Int, 0 ≤ i → i < n → ∀ w, P i w → P (i + 1) (φ i w)) → P n (zfold φ n u)
  | 0, _ => h0
  | n + 1, h => by
    have a := h n (by omega) (by omega) _ (zfold_ind h0 (n := n) (fun i q0 q1 => h i q0 (by omega)))
    have e : ((n + 1 : Nat) : Int) = (n : Int) + 1 := by omega
    rw [e]
    exact a
/-- only the i0-th step is seen -/
theorem zfold_one {α β : Type} {φ : Int → α → α} {g : α → β} {F : β → β} {i0 : Int} : ∀ {n : Nat} (u : α), (∀ i : Int, 0 ≤ i → i < n → ∀ w, i ≠ i0 → g (φ i w) = g w) → (0 ≤ i0 → i0 < n → ∀ w, g (φ i0 w) = F (g w)) → g (zfold φ n u) = if 0 ≤ i0 ∧ i0 < n then F (g u) else g u
  | 0, u, _, _ => by rw [if_neg (by omega)]; rfl
  | n + 1, u, h1, h2 => by
    have ih := zfold_one (n := n) u (fun i q0 q1 => h1 i q0 (by omega)) (fun q0 q1 => h2 q0 (by omega))
    show g (φ (n : Int) (zfold φ n u)) = _
    by_cases q : (n : Int) = i0
    · rw [q, h2 (by omega) (by omega), ih, if_neg (by omega), if_pos (by omega)]
    · rw [h1 n (by omega) (by omega) _ q, ih]
      by_cases q2 : 0 ≤ i0 ∧ i0 < n
      · rw [if_pos q2, if_pos (by omega)]
      · rw [if_neg q2, if_neg (by omega)]
def zmin (w v : Int) : Int := if w = zNO ∨ v < w then v else w
abbrev zgd (μ : zMu) (l k s : Int) : Prop := spRed μ l k s ≠ zNO ∧ ¬ spSpike μ l k s
theorem spCu_at (μ : zMu) (l k s : Int) (u : Int → Int) (x : Int) : (zgd μ l k s ∧ spCell μ l k s = x → spCu μ l k s u x = zmin (u x) (spRed μ l k s)) ∧ (¬ (zgd μ l k s ∧ spCell μ l k s = x) → spCu μ l k s u x = u x) := by
  unfold spCu zmin
  refine ⟨fun ⟨h1, h2⟩ => ?_, fun h => ?_⟩
  · rw [if_neg (fun z => by rcases z with z | z; exact h1.1 z; exact h1.2 z), h2]
    split
    · rw [zup_s]
    · rfl
  · by_cases q : spRed μ l k s = zNO ∨ spSpike μ l k s
    · rw [if_pos q]
    · rw [if_neg q]
      have hx : spCell μ l k s ≠ x := fun z => h ⟨⟨fun z2 => q (Or.inl z2), fun z2 => q (Or.inr z2)⟩, z⟩
      split
      · rw [zup_n _ _ (fun z => hx z.symm)]
      · rfl
theorem spAt_along {μ : zMu} {l i : Int} (h : 0 ≤ spAt μ l i) : spAlong μ l (spAt μ l i) = i := by
  unfold spAt at h ⊢
  unfold spAlong
  by_cases q : (μ 14 l ≤ i ∧ i ≤ μ 15 l) ∨ (μ 15 l ≤ i ∧ i ≤ μ 14 l)
  · rw [if_pos q] at h ⊢
    split <;> split <;> omega
  · rw [if_neg q] at h; omega
/-- a line's cell and side that lie over a place -/
def zpk (μ : zMu) (l c r : Int) : Int := if μ 12 l = 0 then spAt μ l r else spAt μ l c
def zps (μ : zMu) (l c r : Int) : Int := if μ 12 l = 0 then c - μ 13 l else r - μ 13 l
theorem zgd_on {μ : zMu} (hI : MI μ) (hK : MK μ) {l k s : Int} (hl : 0 ≤ l ∧ l < μ 2 0) (hs : -3 ≤ s ∧ s ≤ 3) (h : zgd μ l k s) : (0 ≤ k ∧ k < spSize μ l) ∧ spOn μ l k s := by
  have a := spRed_has h.1
  have hz := spSize_rng hI.J (l := l) ⟨hl.1, by have := hI.n; omega⟩
  exact ⟨⟨a.1, a.2.1⟩, (hK l k s hl.1 hl.2 a.1 (by omega) hs.1 hs.2 a.2.2).2⟩
theorem zgd_pk {μ : zMu} (hI : MI μ) (hK : MK μ) {l k s c r : Int} (hl : 0 ≤ l ∧ l < μ 2 0) (hs : -3 ≤ s ∧ s ≤ 3) (hc : zOn c r) (h : zgd μ l k s) : spCell μ l k s = 20 * r + c ↔ k = zpk μ l c r ∧ s = zps μ l c r := by
  obtain ⟨h1, h2⟩ := zgd_on hI hK hl hs h
  have hl16 : 0 ≤ l ∧ l < 16 := ⟨hl.1, by have := hI.n; omega⟩
  unfold spOn at h2
  unfold zOn at hc
  have e : spCell μ l k s = 20 * r + c ↔ spCol μ l k s = c ∧ spRow μ l k s = r := by unfold spCell; omega
  rw [e]
  unfold zpk zps
  by_cases q : μ 12 l = 0
  · rw [if_pos q, if_pos q]
    have ec : spCol μ l k s = μ 13 l + s := by unfold spCol; rw [if_pos q]
    have er : spRow μ l k s = spAlong μ l k := by unfold spRow; rw [if_pos q]
    rw [ec, er]
    constructor
    · intro ⟨z1, z2⟩
      exact ⟨(spAt_eq hI.J hl16 h1 z2).symm, by omega⟩
    · intro ⟨z1, z2⟩
      have a := spAt_along (μ := μ) (l := l) (i := r) (by omega)
      rw [← z1] at a
      exact ⟨by omega, a⟩
  · rw [if_neg q, if_neg q]
    have ec : spCol μ l k s = spAlong μ l k := by unfold spCol; rw [if_neg q]
    have er : spRow μ l k s = μ 13 l + s := by unfold spRow; rw [if_neg q]
    rw [ec, er]
    constructor
    · intro ⟨z1, z2⟩
      exact ⟨(spAt_eq hI.J hl16 h1 z1).symm, by omega⟩
    · intro ⟨z1, z2⟩
      have a := spAt_along (μ := μ) (l := l) (i := c) (by omega)
      rw [← z1] at a
      exact ⟨a, by omega⟩
theorem zover_eq {μ : zMu} {l : Int} (hs : 0 ≤ spSize μ l ∧ spSize μ l ≤ 20) (c r : Int) : zover μ l (zrl μ l) c r = zif (-3 ≤ zps μ l c r ∧ zps μ l c r ≤ 3 ∧ zgd μ l (zpk μ l c r) (zps μ l c r)) (spRed μ l (zpk μ l c r) (zps μ l c r)) zNO := by
  have e : zover μ l (zrl μ l) c r = if zgood2 (zrl μ l) (zpk μ l c r) (zps μ l c r) then zls (zrl μ l) (zpk μ l c r) (zps μ l c r) else zNO := by
    unfold zover zpk zps
    by_cases q : μ 12 l = 0
    · rw [if_pos q, if_pos q, if_pos q]
    · rw [if_neg q, if_neg q, if_neg q]
  rw [e]
  by_cases h : -3 ≤ zps μ l c r ∧ zps μ l c r ≤ 3
  · by_cases g : zgd μ l (zpk μ l c r) (zps μ l c r)
    · rw [if_pos ((zgood_iff hs _ h).mpr g), zif_pos ⟨h.1, h.2, g⟩, zls_zrl hs _ h]
    · rw [if_neg (fun z => g ((zgood_iff hs _ h).mp z)), zif_neg (fun z => g z.2.2)]
  · have z0 : zls (zrl μ l) (zpk μ l c r) (zps μ l c r) = zNO := if_neg (fun z => h ⟨z.2.2.1, z.2.2.2⟩)
    rw [if_neg (fun z => z.1 z0), zif_neg (fun z => h ⟨z.1, z.2.1⟩)]
/-- one line drawn, seen at a place -/
theorem spC2_at {μ : zMu} (hI : MI μ) (hK : MK μ) {l c r : Int} (hl : 0 ≤ l ∧ l < μ 2 0) (hc : zOn c r) (u : Int → Int) : spC2 μ l (spSize μ l).toNat u (20 * r + c) = if zover μ l (zrl μ l) c r = zNO then u (20 * r + c) else zmin (u (20 * r + c)) (zover μ l (zrl μ l) c r) := by
  have hz := spSize_rng hI.J (l := l) ⟨hl.1, by have := hI.n; omega⟩
  have inner : ∀ (k : Int) (w : Int → Int), spC3 μ l k 7 w (20 * r + c) = zif (k = zpk μ l c r ∧ -3 ≤ zps μ l c r ∧ zps μ l c r ≤ 3 ∧ zgd μ l (zpk μ l c r) (zps μ l c r)) (zmin (w (20 * r + c)) (spRed μ l (zpk μ l c r) (zps μ l c r))) (w (20 * r + c)) := by
    intro k w
    by_cases hk : k = zpk μ l c r
    · have a := zfold_one (φ := fun j => spCu μ l k (j - 3)) (g := fun u : Int → Int => u (20 * r + c)) (F := fun v => zif (zgd μ l (zpk μ l c r) (zps μ l c r)) (zmin v (spRed μ l (zpk μ l c r) (zps μ l c r))) v) (i0 := zps μ l c r + 3) (n := 7) w
        (fun j q0 q1 v hj => (spCu_at μ l k (j - 3) v _).2 (fun z => by have := (zgd_pk hI hK hl (by omega) hc z.1).mp z.2; omega))
        (fun q0 q1 v => by
          rw [show zps μ l c r + 3 - 3 = zps μ l c r by omega, hk]
          by_cases g : zgd μ l (zpk μ l c r) (zps μ l c r)
          · rw [zif_pos g]
            exact (spCu_at μ l _ _ v _).1 ⟨g, (zgd_pk hI hK hl (by omega) hc g).mpr ⟨rfl, rfl⟩⟩
          · rw [zif_neg g]
            exact (spCu_at μ l _ _ v _).2 (fun z => g z.1))
      have a : spC3 μ l k 7 w (20 * r + c) = _ := a
      rw [a]
      by_cases h : -3 ≤ zps μ l c r ∧ zps μ l c r ≤ 3
      · rw [if_pos (by omega)]
        by_cases g : zgd μ l (zpk μ l c r) (zps μ l c r)
        · rw [zif_pos g, zif_pos ⟨hk, h.1, h.2, g⟩]
        · rw [zif_neg g, zif_neg (fun z => g z.2.2.2)]
      · rw [if_neg (by omega), zif_neg (fun z => h ⟨z.2.1, z.2.2.1⟩)]
    · rw [zif_neg (fun z => hk z.1)]
      have a := zfold_one (φ := fun j => spCu μ l k (j - 3)) (g := fun u : Int → Int => u (20 * r + c)) (F := fun v => v) (i0 := -1) (n := 7) w
        (fun j q0 q1 v hj => (spCu_at μ l k (j - 3) v _).2 (fun z => hk ((zgd_pk hI hK hl (by omega) hc z.1).mp z.2).1)) (fun q0 _ _ => by omega)
      rw [if_neg (by omega)] at a
      exact a
  have b := zfold_one (φ := fun k => spC3 μ l k 7) (g := fun u : Int → Int => u (20 * r + c)) (F := fun v => zif (-3 ≤ zps μ l c r ∧ zps μ l c r ≤ 3 ∧ zgd μ l (zpk μ l c r) (zps μ l c r)) (zmin v (spRed μ l (zpk μ l c r) (zps μ l c r))) v) (i0 := zpk μ l c r) (n := (spSize μ l).toNat) u
    (fun k q0 q1 v hk => by rw [inner k v, zif_neg (fun z => hk z.1)])
    (fun q0 q1 v => by
      rw [inner]
      by_cases g : -3 ≤ zps μ l c r ∧ zps μ l c r ≤ 3 ∧ zgd μ l (zpk μ l c r) (zps μ l c r)
      · rw [zif_pos g, zif_pos ⟨rfl, g⟩]
      · rw [zif_neg g, zif_neg (fun z => g z.2)])
  have b : spC2 μ l (spSize μ l).toNat u (20 * r + c) = _ := b
  rw [b, zover_eq ⟨by omega, hz.2.1⟩]
  by_cases g : -3 ≤ zps μ l c r ∧ zps μ l c r ≤ 3 ∧ zgd μ l (zpk μ l c r) (zps μ l c r)
  · have hk := (spRed_has g.2.2.1)
    rw [zif_pos g, zif_pos g, if_pos (by omega), if_neg g.2.2.1]
  · rw [zif_neg g, zif_neg g, if_pos rfl]
    split <;> rfl
noncomputable def spLeast (μ : zMu) (c r : Int) (n : Nat) : Int := zfold (fun l w => if zover μ l (zrl μ l) c r = zNO then w else zmin w (zover μ l (zrl μ l) c r)) n zNO
theorem spLeast_s (μ : zMu) (c r : Int) {k : Int} (hk : 0 ≤ k) : spLeast μ c r (k + 1).toNat = if zover μ k (zrl μ k) c r = zNO then spLeast μ c r k.toNat else zmin (spLeast μ c r k.toNat) (zover μ k (zrl μ k) c r) := zfold_s _ hk _
theorem spC1_least {μ : zMu} (hI : MI μ) (hK : MK μ) {c r : Int} (hc : zOn c r) : ∀ n : Nat, (n : Int) ≤ μ 2 0 → spC1 μ n zU0 (20 * r + c) = spLeast μ c r n
  | 0, _ => rfl
  | n + 1, h => by
    have ih := spC1_least hI hK hc n (by omega)
    show spC2 μ n (spSize μ n).toNat (spC1 μ n zU0) (20 * r + c) = if zover μ n (zrl μ n) c r = zNO then spLeast μ c r n else zmin (spLeast μ c r n) (zover μ n (zrl μ n) c r)
    rw [spC2_at hI hK ⟨by omega, by omega⟩ hc, ih]
/-- .. of all lines -/
theorem spLeast_chart {μ : zMu} (hI : MI μ) (hK : MK μ) {c r : Int} (hc : zOn c r) : spLeast μ c r (μ 2 0).toNat = spChart μ (20 * r + c) := (spC1_least hI hK hc _ (by have := hI.n; omega)).symm
theorem zover_cr {μ : zMu} (hI : MI μ) {l : Int} (hl : 0 ≤ l ∧ l < 16) (c r : Int) : zover μ l (zrl μ l) c r = zNO ∨ (-108 ≤ zover μ l (zrl μ l) c r ∧ zover μ l (zrl μ l) c r ≤ 208) := by
  have hz := spSize_rng hI.J hl
  rw [zover_eq ⟨by omega, hz.2.1⟩]
  by_cases g : -3 ≤ zps μ l c r ∧ zps μ l c r ≤ 3 ∧ zgd μ l (zpk μ l c r) (zps μ l c r)
  · rw [zif_pos g]; exact spRed_rng hI _ hl ⟨g.1, g.2.1⟩
  · rw [zif_neg g]; exact Or.inl rfl
theorem spLeast_cr {μ : zMu} (hI : MI μ) (c r : Int) {n : Nat} (hn : n ≤ 16) : spLeast μ c r n = zNO ∨ (-108 ≤ spLeast μ c r n ∧ spLeast μ c r n ≤ 208) := zfold_inv (P := fun w => w = zNO ∨ (-108 ≤ w ∧ w ≤ 208)) (Or.inl rfl) (fun i q0 q1 w hw => by
  have := zover_cr hI (l := i) ⟨q0, by omega⟩ c r
  unfold zmin
  split
  · exact hw
  · split
    · rename_i q2 q3; exact this
    · exact hw)
