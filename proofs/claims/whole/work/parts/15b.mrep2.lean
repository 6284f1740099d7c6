theorem zA_cong {G : zG} {t a n : Nat} {L : List Nat} {f : Nat → va_E} {σ σ' : Int → Int} (h : zA G t L f a n σ) (hs : ∀ i : Int, 0 ≤ i → i < n → σ i = σ' i) : zA G t L f a n σ' := by
  obtain ⟨h1, φ, h2, h3⟩ := h
  exact ⟨h1, φ, h2, fun j hj => by rw [h3 j hj, hs j (by omega) (by omega)]⟩
theorem MR_u {G : zG} {L : List Nat} {f : Nat → va_E} {o : Nat} {ad : Nat → Nat} {μ : zMu} {t : Int} {u v u' : Int → Int} (h : MR G L f o ad μ t u v) (hu : ∀ i : Int, 0 ≤ i → i < 240 → u i = u' i) : MR G L f o ad μ t u' v := by
  obtain ⟨h1, h3, h4, a4, a5, a6, a7, a8, a9, a10⟩ := h
  exact ⟨h1, h3, h4, a4, a5, a6, a7, a8, zA_cong a9 hu, a10⟩
theorem MR_v {G : zG} {L : List Nat} {f : Nat → va_E} {o : Nat} {ad : Nat → Nat} {μ : zMu} {t : Int} {u v v' : Int → Int} (h : MR G L f o ad μ t u v) (hu : ∀ i : Int, 0 ≤ i → i < 240 → v i = v' i) : MR G L f o ad μ t u v' := by
  obtain ⟨h1, h3, h4, a4, a5, a6, a7, a8, a9, a10, a11⟩ := h
  exact ⟨h1, h3, h4, a4, a5, a6, a7, a8, a9, zA_cong a10 hu, a11⟩
/-! the chart -/
/-- soundings that are there lie on their line and in the chart -/
def MK (μ : zMu) : Prop := ∀ l k s : Int, 0 ≤ l → l < μ 2 0 → 0 ≤ k → k < 20 → -3 ≤ s → s ≤ 3 → spHas μ l k s → k < spSize μ l ∧ spOn μ l k s
def zfold {α : Type} (φ : Int → α → α) : Nat → α → α
  | 0, u => u
  | n + 1, u => φ n (zfold φ n u)
theorem zfold_s {α : Type} (φ : Int → α → α) {k : Int} (h : 0 ≤ k) (u : α) : zfold φ (k + 1).toNat u = φ k (zfold φ k.toNat u) := by
  have e : (k + 1).toNat = k.toNat + 1 := by omega
  rw [e]
  show φ (k.toNat : Int) (zfold φ k.toNat u) = _
  rw [Int.toNat_of_nonneg h]
theorem zfold_inv {α : Type} {φ : Int → α → α} {P : α → Prop} {u : α} (h0 : P u) : ∀ {n : Nat}, (∀ i : Int, 0 ≤ i → i < n → ∀ w, P w → P (φ i w)) → P (zfold φ n u)
  | 0, _ => h0
  | n + 1, h => h n (by omega) (by omega) _ (zfold_inv h0 (fun i q0 q1 => h i q0 (by omega)))
noncomputable def spCu (μ : zMu) (l k s : Int) (u : Int → Int) : Int → Int := if spRed μ l k s = zNO ∨ spSpike μ l k s then u else if u (spCell μ l k s) = zNO ∨ spRed μ l k s < u (spCell μ l k s) then zup u (spCell μ l k s) (spRed μ l k s) else u
noncomputable def spC3 (μ : zMu) (l k : Int) (n : Nat) (u : Int → Int) : Int → Int := zfold (fun j => spCu μ l k (j - 3)) n u
noncomputable def spC2 (μ : zMu) (l : Int) (n : Nat) (u : Int → Int) : Int → Int := zfold (fun k => spC3 μ l k 7) n u
noncomputable def spC1 (μ : zMu) (n : Nat) (u : Int → Int) : Int → Int := zfold (fun l => spC2 μ l (spSize μ l).toNat) n u
def zU0 : Int → Int := fun _ => zNO
noncomputable def spChart (μ : zMu) : Int → Int := spC1 μ (μ 2 0).toNat zU0
def zCr (u : Int → Int) : Prop := ∀ i, u i = zNO ∨ (-108 ≤ u i ∧ u i ≤ 208)
theorem zCr_b {u : Int → Int} (h : zCr u) : ∀ i : Int, 0 ≤ i → i < 240 → -2147483648 ≤ u i ∧ u i ≤ 208 := fun i _ _ => by
  have := h i
  have e : zNO = -2147483648 := rfl
  omega
theorem spCu_r {μ : zMu} (hI : MI μ) {l k s : Int} (hl : 0 ≤ l ∧ l < 16) (hs : -3 ≤ s ∧ s ≤ 3) {u : Int → Int} (h : zCr u) : zCr (spCu μ l k s u) := by
  unfold spCu
  split
  · exact h
  · split
    · intro i
      unfold zup
      split
      · exact spRed_rng hI k hl hs
      · exact h i
    · exact h
theorem spC3_r {μ : zMu} (hI : MI μ) {l k : Int} (hl : 0 ≤ l ∧ l < 16) {n : Nat} (hn : n ≤ 7) {u : Int → Int} (h : zCr u) : zCr (spC3 μ l k n u) := zfold_inv h (fun i q0 q1 w hw => spCu_r hI hl (by omega) hw)
theorem spC2_r {μ : zMu} (hI : MI μ) {l : Int} (hl : 0 ≤ l ∧ l < 16) (n : Nat) {u : Int → Int} (h : zCr u) : zCr (spC2 μ l n u) := zfold_inv h (fun i q0 q1 w hw => spC3_r hI hl (Nat.le_refl _) hw)
theorem spC1_r {μ : zMu} (hI : MI μ) {n : Nat} (hn : n ≤ 16) {u : Int → Int} (h : zCr u) : zCr (spC1 μ n u) := zfold_inv h (fun i q0 q1 w hw => spC2_r hI (by omega) _ hw)
theorem zU0_r : zCr zU0 := fun _ => Or.inl rfl
theorem spChart_r {μ : zMu} (hI : MI μ) : zCr (spChart μ) := spC1_r hI (by have := hI.n; omega) zU0_r
theorem spRed_has {μ : zMu} {l k s : Int} (h : spRed μ l k s ≠ zNO) : 0 ≤ k ∧ k < spSize μ l ∧ spHas μ l k s := by
  unfold spRed at h
  by_cases q : k < 0 ∨ spSize μ l ≤ k ∨ μ 18 (7 * (20 * l + k) + s + 3) = zNO
  · rw [if_pos q] at h; exact absurd rfl h
  · exact ⟨by omega, by omega, fun z => q (Or.inr (Or.inr z))⟩
theorem spOn_cell {μ : zMu} {l k s : Int} (h : spOn μ l k s) : 0 ≤ spCell μ l k s ∧ spCell μ l k s < 240 := by
  unfold spOn at h
  unfold spCell
  omega
noncomputable def spCharted (μ : zMu) : Int := zsum (fun c => bI (spChart μ c ≠ zNO)) 240
theorem spCharted_rng (μ : zMu) (n : Nat) : 0 ≤ zsum (fun c => bI (spChart μ c ≠ zNO)) n ∧ zsum (fun c => bI (spChart μ c ≠ zNO)) n ≤ 1 * n := zsum_rng (by decide) (fun i => bI_rng _) n
noncomputable def o_depth (μ : zMu) (c r : Int) : Int × Int × zMu := if 0 ≤ c ∧ c ≤ 19 ∧ 0 ≤ r ∧ r ≤ 11 then (if spChart μ (20 * r + c) = zNO then (2, 0, μ) else (0, spChart μ (20 * r + c), μ)) else (1, 0, μ)
/-- the n last cells from c on, m gaps passed: the code of the gap of that index, or NO -/
def spGp (u : Int → Int) (i : Int) : Nat → Int → Int → Int
  | 0, _, _ => zNO
  | n + 1, c, m => if u c = zNO then (if m = i then 100 * (c / 20) + c % 20 else spGp u i n (c + 1) (m + 1)) else spGp u i n (c + 1) m
theorem spGp_s (u : Int → Int) (i : Int) {c m : Int} (h : c < 240) : spGp u i (240 - c).toNat c m = if u c = zNO then (if m = i then 100 * (c / 20) + c % 20 else spGp u i (240 - (c + 1)).toNat (c + 1) (m + 1)) else spGp u i (240 - (c + 1)).toNat (c + 1) m := by
  have e : (240 - c).toNat = (240 - (c + 1)).toNat + 1 := by omega
  rw [e, spGp]
noncomputable def spGap (μ : zMu) (i : Int) : Int := spGp (spChart μ) i ((240 : Int) - 0).toNat 0 0
noncomputable def o_gap (μ : zMu) (i : Int) : Int × Int × zMu := if spGap μ i = zNO then (1, 0, μ) else (0, spGap μ i, μ)
abbrev spGc (μ : zMu) (u : Int → Int) (r c s : Int) : Prop := (-spReach (μ 4 (20 * r + c)) ≤ s ∧ s ≤ spReach (μ 4 (20 * r + c))) ∧ (0 ≤ r + s ∧ r + s ≤ 11) ∧ u (20 * (r + s) + c) = zNO
def spGs (μ : zMu) (u : Int → Int) (r c : Int) : Int → Int := fun j => bI (spGc μ u r c (j - 3))
def spGain (μ : zMu) (u : Int → Int) (r : Int) : Int := zsum (fun c => zsum (spGs μ u r c) 7) 20
theorem spGs_rng (μ : zMu) (u : Int → Int) (r c : Int) (n : Nat) : 0 ≤ zsum (spGs μ u r c) n ∧ zsum (spGs μ u r c) n ≤ n := by
  have := zsum_rng (c := 1) (by decide) (fun i => bI_rng (spGc μ u r c (i - 3))) n
  have e : zsum (fun i => bI (spGc μ u r c (i - 3))) n = zsum (spGs μ u r c) n := rfl
  omega
theorem spGss_rng (μ : zMu) (u : Int → Int) (r : Int) (n : Nat) : 0 ≤ zsum (fun c => zsum (spGs μ u r c) 7) n ∧ zsum (fun c => zsum (spGs μ u r c) 7) n ≤ 7 * n := zsum_rng (c := 7) (by decide) (fun i => spGs_rng μ u r i 7) n
theorem spGain_rng (μ : zMu) (u : Int → Int) (r : Int) : 0 ≤ spGain μ u r ∧ spGain μ u r ≤ 140 := spGss_rng μ u r 20
def spBst (g : Int → Int) : Nat → Int
  | 0 => 0
  | n + 1 => if g (n + 1) > g (spBst g n) then n + 1 else spBst g n
theorem spBst_s (g : Int → Int) {r : Int} (h : 1 ≤ r) : spBst g r.toNat = if g r > g (spBst g (r - 1).toNat) then r else spBst g (r - 1).toNat := by
  have e : r.toNat = (r - 1).toNat + 1 := by omega
  rw [e]
  show (if g (((r - 1).toNat : Int) + 1) > _ then (((r - 1).toNat : Int) + 1) else _) = _
  rw [show ((r - 1).toNat : Int) + 1 = r by omega]
theorem spBst_rng (g : Int → Int) : ∀ n : Nat, 0 ≤ spBst g n ∧ spBst g n ≤ n
  | 0 => ⟨Int.le_refl _, Int.le_refl _⟩
  | n + 1 => by
    have := spBst_rng g n
    unfold spBst
    split <;> omega
noncomputable def o_bestRow (μ : zMu) : Int × Int × zMu := if spCharted μ = 240 then (1, 0, μ) else (0, spBst (spGain μ (spChart μ)) 11, μ)
def spToRun (μ : zMu) : Int := zsum (fun l => bI (0 < spLost μ l)) (μ 2 0).toNat
def spAt (μ : zMu) (l i : Int) : Int := if (μ 14 l ≤ i ∧ i ≤ μ 15 l) ∨ (μ 15 l ≤ i ∧ i ≤ μ 14 l) then (if i < μ 14 l then μ 14 l - i else i - μ 14 l) else -1
theorem spAt_rng {μ : zMu} (hI : MJ μ) {l : Int} (hl : 0 ≤ l ∧ l < 16) (i : Int) : -1 ≤ spAt μ l i ∧ spAt μ l i < spSize μ l := by
  have := hI.b12 l hl.1 hl.2
  unfold spAt spSize
  split <;> split <;> (try split) <;> omega
abbrev spX (μ : zMu) (l m : Int) : Prop := μ 12 l ≠ μ 12 m ∧ 0 ≤ spAt μ l (μ 13 m) ∧ 0 ≤ spAt μ m (μ 13 l)
def spOwn (μ : zMu) (l m : Int) : Int := spRed μ l (spAt μ l (μ 13 m)) 0
def o_cross (μ : zMu) (l m : Int) : Int × Int × zMu := if spLine μ l ∧ spLine μ m then (if l ≠ m ∧ spX μ l m then (if spOwn μ l m ≠ zNO ∧ spOwn μ m l ≠ zNO then (0, spOwn μ l m - spOwn μ m l, μ) else (3, 0, μ)) else (2, 0, μ)) else (1, 0, μ)
def spWu (μ : zMu) (l m w : Int) : Int := if spX μ l m ∧ spOwn μ l m ≠ zNO ∧ spOwn μ m l ≠ zNO ∧ w < spOwn μ l m - spOwn μ m l then spOwn μ l m - spOwn μ m l else w
def spWm (μ : zMu) (l : Int) (n : Nat) (w : Int) : Int := zfold (fun m => spWu μ l m) n w
def spWorst (μ : zMu) : Int := zfold (fun l => spWm μ l (μ 2 0).toNat) (μ 2 0).toNat (-1)
def o_worst (μ : zMu) : Int × Int × zMu := if spWorst μ < 0 then (1, 0, μ) else (0, spWorst μ, μ)
theorem spWu_r {μ : zMu} (hI : MI μ) {l m w : Int} (hl : 0 ≤ l ∧ l < 16) (hm : 0 ≤ m ∧ m < 16) (h : -1 ≤ w ∧ w ≤ 1000) : -1 ≤ spWu μ l m w ∧ spWu μ l m w ≤ 1000 := by
  unfold spWu
  split
  · rename_i q
    have h1 := spRed_rng hI (spAt μ l (μ 13 m)) hl (s := 0) (by omega)
    have h2 := spRed_rng hI (spAt μ m (μ 13 l)) hm (s := 0) (by omega)
    unfold spOwn at q ⊢
    omega
  · exact h
theorem spWm_r {μ : zMu} (hI : MI μ) {l : Int} (hl : 0 ≤ l ∧ l < 16) {n : Nat} (hn : n ≤ 16) {w : Int} (h : -1 ≤ w ∧ w ≤ 1000) : -1 ≤ spWm μ l n w ∧ spWm μ l n w ≤ 1000 := zfold_inv (P := fun w => -1 ≤ w ∧ w ≤ 1000) h (fun i q0 q1 w hw => spWu_r hI hl (by omega) hw)
theorem spWl_r {μ : zMu} (hI : MI μ) {n : Nat} (hn : n ≤ 16) : -1 ≤ zfold (fun l => spWm μ l (μ 2 0).toNat) n (-1) ∧ zfold (fun l => spWm μ l (μ 2 0).toNat) n (-1) ≤ 1000 := zfold_inv (P := fun w => -1 ≤ w ∧ w ≤ 1000) (by omega) (fun i q0 q1 w hw => spWm_r hI (by omega) (by have := hI.n; omega) hw)
def spHr (μ : zMu) (d : Int) : Int → Int := fun l => if μ 16 l = d then 0 + (spSize μ l - 1) / 5 + 1 else 0
def spHours (μ : zMu) (d : Int) : Int := zsum (spHr μ d) (μ 2 0).toNat
def o_hours (μ : zMu) (d : Int) : Int × Int × zMu := if 0 ≤ d ∧ d ≤ 9 then (0, spHours μ d, μ) else (1, 0, μ)
theorem zsum_rng2 {φ : Int → Int} {c : Int} (hc : 0 ≤ c) : ∀ {n : Nat}, (∀ i : Int, 0 ≤ i → i < n → 0 ≤ φ i ∧ φ i ≤ c) → 0 ≤ zsum φ n ∧ zsum φ n ≤ c * n
  | 0, _ => ⟨Int.le_refl _, by simp [zsum]⟩
  | n + 1, h => by
    have h1 := zsum_rng2 hc (n := n) (fun i q0 q1 => h i q0 (by omega))
    have h2 := h n (by omega) (by omega)
    have e : c * ((n + 1 : Nat) : Int) = c * n + c := by rw [Int.natCast_add, Int.mul_add]; simp
    rw [e]
    show 0 ≤ zsum φ n + φ n ∧ zsum φ n + φ n ≤ c * n + c
    omega
theorem spHr_rng {μ : zMu} (hI : MJ μ) (d : Int) {n : Nat} (hn : n ≤ 16) : 0 ≤ zsum (spHr μ d) n ∧ zsum (spHr μ d) n ≤ 4 * n := zsum_rng2 (by decide) (fun i q0 q1 => by
  have := spSize_rng hI (l := i) (by omega)
  unfold spHr
  split <;> omega)
def o_textAt (μ : zMu) (i : Int) : Int × Int × zMu := if 0 ≤ i ∧ i < μ 3 0 then (0, μ 20 i, μ) else (1, 0, μ)
theorem spC3_s (μ : zMu) (l k : Int) {n : Int} {u : Int → Int} (h : 0 ≤ n) : spC3 μ l k (n + 1).toNat u = spCu μ l k (n - 3) (spC3 μ l k n.toNat u) := by
  unfold spC3
  rw [zfold_s _ h]
