/-- what is seen of the columns before c, and of column c above the row of shift s -/
abbrev zVs (v : Int → Int) (r c s : Int) : Prop := ∀ i, 0 ≤ i → i < 240 → (0 ≤ v i ∧ v i ≤ 1) ∧ (v i = 1 → i % 20 < c ∨ (i % 20 = c ∧ i < 20 * (r + s) + c))
theorem zVs_0 {v : Int → Int} {r c : Int} (h : 240 ≤ c) : zVs (zfill v 0 c 0) r 0 (-3) := fun i q0 q1 => by
  unfold zfill; rw [if_pos (by omega)]; exact ⟨by omega, fun z => absurd z (by decide)⟩
theorem zVs_s {v : Int → Int} {r c s : Int} (h : zVs v r c s) : zVs v r c (s + 1) := fun i q0 q1 => by
  have q := h i q0 q1
  refine ⟨q.1, fun z => ?_⟩
  rcases q.2 z with w | w
  · exact Or.inl w
  · exact Or.inr (by omega)
theorem zVs_c {v : Int → Int} {r c s : Int} (h : zVs v r c s) (hs : s = 4) : zVs v r (c + 1) (-3) := fun i q0 q1 => by
  have q := h i q0 q1
  refine ⟨q.1, fun z => Or.inl ?_⟩
  rcases q.2 z with w | w <;> omega
theorem zVs_w {v : Int → Int} {r c s x : Int} (h : zVs v r c s) (hx : x = 20 * (r + s) + c) (hc : 0 ≤ c ∧ c < 20) : zVs (zup v x 1) r c (s + 1) := fun i q0 q1 => by
  unfold zup
  by_cases e : i = x
  · rw [if_pos e]; exact ⟨by omega, fun _ => Or.inr (by omega)⟩
  · rw [if_neg e]; exact zVs_s h i q0 q1
theorem zVs_n {v : Int → Int} {r c s x : Int} (h : zVs v r c s) (hx : x = 20 * (r + s) + c) (hc : 0 ≤ c ∧ c < 20) (h0 : 0 ≤ x ∧ x < 240) : v x = 0 := by
  have q := h x h0.1 h0.2
  by_cases e : v x = 1
  · rcases q.2 e with w | w <;> omega
  · omega
theorem spGs_s (μ : zMu) (u : Int → Int) (r c : Int) {s : Int} (h : -3 ≤ s) : zsum (spGs μ u r c) (s + 1 + 3).toNat = zsum (spGs μ u r c) (s + 3).toNat + bI (spGc μ u r c s) := by
  rw [show s + 1 + 3 = s + 3 + 1 by omega, zsum_s _ (by omega)]
  unfold spGs
  rw [show s + 3 - 3 = s by omega]
theorem spAt_eq {μ : zMu} (hI : MJ μ) {l k i : Int} (hl : 0 ≤ l ∧ l < 16) (hk : 0 ≤ k ∧ k < spSize μ l) (h : spAlong μ l k = i) : spAt μ l i = k := by
  have := hI.b12 l hl.1 hl.2
  unfold spAlong at h
  unfold spSize at hk
  unfold spAt
  split at h <;> split at hk <;> split <;> (try split) <;> omega
theorem spAt_no {μ : zMu} (hI : MJ μ) {l i : Int} (hl : 0 ≤ l ∧ l < 16) (h : ∀ k, 0 ≤ k → k < spSize μ l → spAlong μ l k ≠ i) : spAt μ l i = -1 := by
  have := hI.b12 l hl.1 hl.2
  unfold spAt
  by_cases q : (μ 14 l ≤ i ∧ i ≤ μ 15 l) ∨ (μ 15 l ≤ i ∧ i ≤ μ 14 l)
  · exfalso
    refine h (if i < μ 14 l then μ 14 l - i else i - μ 14 l) (by split <;> omega) (by unfold spSize; split <;> split <;> omega) ?_
    unfold spAlong
    split <;> split <;> omega
  · rw [if_neg q]
