/-! ===== the greatest misfit ===== -/
abbrev zQp (μ : zMu) (l m : Int) : Prop := spX μ l m ∧ spOwn μ l m ≠ zNO ∧ spOwn μ m l ≠ zNO
def zDf (μ : zMu) (l m : Int) : Int := spOwn μ l m - spOwn μ m l
theorem zQp_sym {μ : zMu} {l m : Int} (h : zQp μ l m) : zQp μ m l := ⟨⟨fun z => h.1.1 z.symm, h.1.2.2, h.1.2.1⟩, h.2.2, h.2.1⟩
theorem zQp_ne {μ : zMu} {l m : Int} (h : zQp μ l m) : l ≠ m := fun z => h.1.1 (by rw [z])
theorem zDf_sym (μ : zMu) (l m : Int) : zDf μ m l = - zDf μ l m := by unfold zDf; omega
/-- w the greatest misfit over the pairs before (k, j) -/
def zWst (μ : zMu) (k j w : Int) : Prop := (∀ l m : Int, 0 ≤ l → l < m → m < μ 2 0 → (l < k ∨ l = k ∧ m < j) → zQp μ l m → zDf μ l m ≤ w ∧ - zDf μ l m ≤ w) ∧ (w = -1000000 ∨ 0 ≤ w ∧ ∃ l m : Int, 0 ≤ l ∧ l < m ∧ m < μ 2 0 ∧ zQp μ l m ∧ (w = zDf μ l m ∨ w = - zDf μ l m))
theorem zWst_0 (μ : zMu) : zWst μ 0 1 (-1000000) := ⟨fun l m h1 h2 h3 h4 _ => by omega, Or.inl rfl⟩
theorem zWst_k {μ : zMu} {k j w : Int} (h : zWst μ k j w) (hj : μ 2 0 ≤ j) : zWst μ (k + 1) (k + 2) w := ⟨fun l m h1 h2 h3 h4 h5 => h.1 l m h1 h2 h3 (by omega) h5, h.2⟩
theorem zWst_rng {μ : zMu} {k j w : Int} (h : zWst μ k j w) : w = -1000000 ∨ 0 ≤ w := h.2.elim Or.inl (fun q => Or.inr q.1)
theorem zWst_s {μ : zMu} {k j w w' z : Int} (h : zWst μ k j w) (hk : 0 ≤ k) (hj : k < j) (hn : j < μ 2 0) (hz : (z = -1000000 ∧ ¬ zQp μ k j) ∨ (zQp μ k j ∧ 0 ≤ z ∧ (z = zDf μ k j ∨ z = - zDf μ k j))) (hw : (w' = w ∧ z ≤ w) ∨ (w' = z ∧ w ≤ z)) : zWst μ k (j + 1) w' := by
  refine ⟨fun l m h1 h2 h3 h4 h5 => ?_, ?_⟩
  · by_cases e : l = k ∧ m = j
    · obtain ⟨e1, e2⟩ := e
      subst e1
      subst e2
      rcases hz with ⟨z1, z2⟩ | ⟨z1, z2, z3⟩
      · exact absurd h5 z2
      · clear h h5 z1; omega
    · have a := h.1 l m h1 h2 h3 (by clear h hz h5; omega) h5
      clear h hz h5
      omega
  · rcases hz with ⟨z1, z2⟩ | ⟨z1, z2, z3⟩
    · have hr := zWst_rng h
      have e : w' = w := by clear h; omega
      rw [e]
      exact h.2
    · rcases hw with ⟨w1, w2⟩ | ⟨w1, w2⟩
      · rw [w1]; exact h.2
      · rw [w1]
        exact Or.inr ⟨z2, k, j, hk, hj, hn, z1, z3⟩
theorem spWm_spec (μ : zMu) (l w0 : Int) (n : Nat) : w0 ≤ spWm μ l n w0 ∧ (∀ m : Int, 0 ≤ m → m < n → zQp μ l m → zDf μ l m ≤ spWm μ l n w0) ∧ (spWm μ l n w0 = w0 ∨ ∃ m : Int, 0 ≤ m ∧ m < n ∧ zQp μ l m ∧ spWm μ l n w0 = zDf μ l m) := by
  unfold spWm
  refine zfold_ind (φ := fun m => spWu μ l m) (P := fun (i w : Int) => w0 ≤ w ∧ (∀ m : Int, 0 ≤ m → m < i → zQp μ l m → zDf μ l m ≤ w) ∧ (w = w0 ∨ ∃ m : Int, 0 ≤ m ∧ m < i ∧ zQp μ l m ∧ w = zDf μ l m)) ⟨Int.le_refl _, fun m h1 h2 _ => by omega, Or.inl rfl⟩ (fun i q0 q1 w hw => ?_)
  obtain ⟨a1, a2, a3⟩ := hw
  by_cases c : zQp μ l i ∧ w < zDf μ l i
  · have e : spWu μ l i w = zDf μ l i := by unfold spWu; exact if_pos ⟨c.1.1, c.1.2.1, c.1.2.2, c.2⟩
    rw [e]
    refine ⟨by have := c.2; omega, fun m h1 h2 h3 => ?_, Or.inr ⟨i, q0, by omega, c.1, rfl⟩⟩
    by_cases em : m = i
    · rw [em]; exact Int.le_refl _
    · have := a2 m h1 (by omega) h3
      have := c.2
      omega
  · have e : spWu μ l i w = w := by unfold spWu; exact if_neg (fun z => c ⟨⟨z.1, z.2.1, z.2.2.1⟩, z.2.2.2⟩)
    rw [e]
    refine ⟨a1, fun m h1 h2 h3 => ?_, a3.elim Or.inl (fun ⟨m, b1, b2, b3⟩ => Or.inr ⟨m, b1, by omega, b3⟩)⟩
    by_cases em : m = i
    · subst em
      exact Int.not_lt.mp (fun z => c ⟨h3, z⟩)
    · exact a2 m h1 (by omega) h3
theorem spWorst_spec (μ : zMu) : -1 ≤ spWorst μ ∧ (∀ l m : Int, 0 ≤ l → l < ((μ 2 0).toNat : Int) → 0 ≤ m → m < ((μ 2 0).toNat : Int) → zQp μ l m → zDf μ l m ≤ spWorst μ) ∧ (spWorst μ = -1 ∨ ∃ l m : Int, 0 ≤ l ∧ l < ((μ 2 0).toNat : Int) ∧ 0 ≤ m ∧ m < ((μ 2 0).toNat : Int) ∧ zQp μ l m ∧ spWorst μ = zDf μ l m) := by
  unfold spWorst
  refine zfold_ind (φ := fun l => spWm μ l (μ 2 0).toNat) (P := fun (i w : Int) => -1 ≤ w ∧ (∀ l m : Int, 0 ≤ l → l < i → 0 ≤ m → m < ((μ 2 0).toNat : Int) → zQp μ l m → zDf μ l m ≤ w) ∧ (w = -1 ∨ ∃ l m : Int, 0 ≤ l ∧ l < i ∧ 0 ≤ m ∧ m < ((μ 2 0).toNat : Int) ∧ zQp μ l m ∧ w = zDf μ l m)) ⟨Int.le_refl _, fun l m h1 h2 _ _ _ => by omega, Or.inl rfl⟩ (fun i q0 q1 w hw => ?_)
  obtain ⟨a1, a2, a3⟩ := hw
  obtain ⟨b1, b2, b3⟩ := spWm_spec μ i w (μ 2 0).toNat
  refine ⟨by omega, fun l m h1 h2 h3 h4 h5 => ?_, ?_⟩
  · by_cases e : l = i
    · subst e; exact b2 m h3 h4 h5
    · have := a2 l m h1 (by omega) h3 h4 h5
      omega
  · rcases b3 with e | ⟨m, c1, c2, c3, c4⟩
    · rw [e]
      exact a3.elim Or.inl (fun ⟨l, m, d1, d2, d3⟩ => Or.inr ⟨l, m, d1, by omega, d3⟩)
    · exact Or.inr ⟨i, m, q0, by omega, c1, c2, c3, c4⟩
theorem zWst_end {μ : zMu} {j w : Int} (hn : 0 ≤ μ 2 0) (h : zWst μ (μ 2 0) j w) : (w = -1000000 ∧ spWorst μ < 0) ∨ (0 ≤ w ∧ ¬ spWorst μ < 0 ∧ w = spWorst μ) := by
  obtain ⟨a1, a2, a3⟩ := spWorst_spec μ
  obtain ⟨b1, b2⟩ := h
  have eN : ((μ 2 0).toNat : Int) = μ 2 0 := Int.toNat_of_nonneg hn
  rw [eN] at a2 a3
  have up : ∀ l m : Int, 0 ≤ l → l < μ 2 0 → 0 ≤ m → m < μ 2 0 → zQp μ l m → zDf μ l m ≤ w ∧ 0 ≤ w := by
    intro l m h1 h2 h3 h4 h5
    have hne := zQp_ne h5
    rcases Int.lt_or_lt_of_ne hne with q | q
    · have c := b1 l m h1 q h4 (Or.inl h2) h5
      clear b1 b2 a2 a3 h5
      omega
    · have c := b1 m l h3 q h2 (Or.inl h4) (zQp_sym h5)
      have e := zDf_sym μ l m
      clear b1 b2 a2 a3 h5
      omega
  rcases b2 with e | ⟨e, l, m, c1, c2, c3, c4, c5⟩
  · left
    refine ⟨e, ?_⟩
    rcases a3 with q | ⟨l, m, d1, d2, d3, d4, d5, d6⟩
    · omega
    · have c := up l m d1 d2 d3 d4 d5
      omega
  · right
    have g1 := a2 l m c1 (by omega) (by omega) c3 c4
    have g2 := a2 m l (by omega) c3 c1 (by omega) (zQp_sym c4)
    have e2 := zDf_sym μ l m
    have g3 : w ≤ spWorst μ := by
      clear a2 a3 b1 up c4
      omega
    refine ⟨e, by omega, ?_⟩
    rcases a3 with q | ⟨l2, m2, d1, d2, d3, d4, d5, d6⟩
    · omega
    · have c := up l2 m2 d1 d2 d3 d4 d5
      omega
theorem zls_own {μ : zMu} (hI : MI μ) {l : Int} (hl : 0 ≤ l ∧ l < 16) (m : Int) : zls (zrl μ l) (spAt μ l (μ 13 m)) 0 = spOwn μ l m := by
  have hz := spSize_rng hI.J hl
  exact zls_zrl ⟨by omega, hz.2.1⟩ _ ⟨by decide, by decide⟩
theorem zMis_q {μ : zMu} (hI : MI μ) {l m z : Int} (hl : 0 ≤ l ∧ l < 16) (hm : 0 ≤ m ∧ m < 16) (h : (z = -1000000 ∧ ¬ (spX μ l m ∧ zls (zrl μ l) (spAt μ l (μ 13 m)) 0 ≠ zNO ∧ zls (zrl μ m) (spAt μ m (μ 13 l)) 0 ≠ zNO)) ∨ ((spX μ l m ∧ zls (zrl μ l) (spAt μ l (μ 13 m)) 0 ≠ zNO ∧ zls (zrl μ m) (spAt μ m (μ 13 l)) 0 ≠ zNO) ∧ 0 ≤ z ∧ (z = zls (zrl μ l) (spAt μ l (μ 13 m)) 0 - zls (zrl μ m) (spAt μ m (μ 13 l)) 0 ∨ z = zls (zrl μ m) (spAt μ m (μ 13 l)) 0 - zls (zrl μ l) (spAt μ l (μ 13 m)) 0))) :
    (z = -1000000 ∧ ¬ zQp μ l m) ∨ (zQp μ l m ∧ 0 ≤ z ∧ (z = zDf μ l m ∨ z = - zDf μ l m)) := by
  rw [zls_own hI hl, zls_own hI hm] at h
  rcases h with h | ⟨h1, h2, h3⟩
  · exact Or.inl h
  · refine Or.inr ⟨h1, h2, ?_⟩
    unfold zDf
    clear h1
    omega
