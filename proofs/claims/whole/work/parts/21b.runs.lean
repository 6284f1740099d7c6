/-! ===== a line run ===== -/
def zline (μ : zMu) (l x12 x13 x14 x15 x16 x17 : Int) : zMu := zset (zset (zset (zset (zset (zset μ 12 (zup (μ 12) l x12)) 13 (zup (μ 13) l x13)) 14 (zup (μ 14) l x14)) 15 (zup (μ 15) l x15)) 16 (zup (μ 16) l x16)) 17 (zup (μ 17) l x17)
theorem zup_id (σ : Int → Int) (i : Int) : zup σ i (σ i) = σ := by
  funext j; unfold zup; by_cases h : j = i
  · rw [if_pos h, h]
  · rw [if_neg h]
theorem zline_anew (μ : zMu) (l d h : Int) : zline μ l (μ 12 l) (μ 13 l) (μ 14 l) (μ 15 l) d h = zset (zset μ 16 (zup (μ 16) l d)) 17 (zup (μ 17) l h) := by
  unfold zline
  rw [zup_id, zup_id, zup_id, zup_id, zset_id, zset_id, zset_id, zset_id]
def spSz (a b : Int) : Int := (if b < a then a - b else b - a) + 1
theorem MJ_zline {μ : zMu} (hI : MJ μ) {l x12 x13 x14 x15 x16 x17 : Int} (h1 : 0 ≤ x12 ∧ x12 ≤ 1 ∧ 0 ≤ x13 ∧ x13 ≤ 19 ∧ 0 ≤ x14 ∧ x14 ≤ 19 ∧ 0 ≤ x15 ∧ x15 ≤ 19 ∧ 0 ≤ x16 ∧ x16 ≤ 9 ∧ 0 ≤ x17 ∧ x17 ≤ 23) (h2 : (x12 = 0 → x14 ≤ 11 ∧ x15 ≤ 11) ∧ (x12 ≠ 0 → x13 ≤ 11)) (h3 : 5 * x17 + (x14 - x15) < 120 ∧ 5 * x17 + (x15 - x14) < 120) : MJ (zline μ l x12 x13 x14 x15 x16 x17) := by
  refine ⟨hI.1, hI.2.1, hI.2.2.1, hI.2.2.2.1, hI.2.2.2.2.1, hI.2.2.2.2.2.1, hI.2.2.2.2.2.2.1, fun i q0 q1 => ?_, fun i q0 q1 => ?_, fun i q0 q1 => ?_⟩
  · show 0 ≤ zup (μ 12) l x12 i ∧ zup (μ 12) l x12 i ≤ 1 ∧ 0 ≤ zup (μ 13) l x13 i ∧ zup (μ 13) l x13 i ≤ 19 ∧ 0 ≤ zup (μ 14) l x14 i ∧ zup (μ 14) l x14 i ≤ 19 ∧ 0 ≤ zup (μ 15) l x15 i ∧ zup (μ 15) l x15 i ≤ 19 ∧ 0 ≤ zup (μ 16) l x16 i ∧ zup (μ 16) l x16 i ≤ 9 ∧ 0 ≤ zup (μ 17) l x17 i ∧ zup (μ 17) l x17 i ≤ 23
    have := hI.b12 i q0 q1
    by_cases h : i = l
    · rw [h, zup_s, zup_s, zup_s, zup_s, zup_s, zup_s]; exact h1
    · rw [zup_n _ _ h, zup_n _ _ h, zup_n _ _ h, zup_n _ _ h, zup_n _ _ h, zup_n _ _ h]; exact this
  · show (zup (μ 12) l x12 i = 0 → zup (μ 14) l x14 i ≤ 11 ∧ zup (μ 15) l x15 i ≤ 11) ∧ (zup (μ 12) l x12 i ≠ 0 → zup (μ 13) l x13 i ≤ 11)
    have := hI.c12 i q0 q1
    by_cases h : i = l
    · rw [h, zup_s, zup_s, zup_s, zup_s]; exact h2
    · rw [zup_n _ _ h, zup_n _ _ h, zup_n _ _ h, zup_n _ _ h]; exact this
  · show 5 * zup (μ 17) l x17 i + (zup (μ 14) l x14 i - zup (μ 15) l x15 i) < 120 ∧ 5 * zup (μ 17) l x17 i + (zup (μ 15) l x15 i - zup (μ 14) l x14 i) < 120
    have := hI.h17 i q0 q1
    by_cases h : i = l
    · rw [h, zup_s, zup_s, zup_s]; exact h3
    · rw [zup_n _ _ h, zup_n _ _ h, zup_n _ _ h]; exact this
theorem spSv_has {μ : zMu} {l k s : Int} (h : spSv μ l k s ≠ zNO) : k < spSize μ l ∧ spOn μ l k s := by
  unfold spSv at h
  by_cases q : k < spSize μ l ∧ spOn μ l k s ∧ -spReach (μ 4 (spCell μ l k 0)) ≤ s ∧ s ≤ spReach (μ 4 (spCell μ l k 0))
  · exact ⟨q.1, q.2.1⟩
  · rw [zif_neg q] at h; exact absurd rfl h
theorem spOn_cell0 {μ : zMu} {l k s : Int} (h : spOn μ l k s) : 0 ≤ spCell μ l k s ∧ spCell μ l k s < 240 := by
  unfold spOn at h
  unfold spCell
  omega
theorem spSv_rng {μ : zMu} (hI : MJ μ) {l k s : Int} (hl : 0 ≤ l ∧ l < 16) (hk : 0 ≤ k) : spSv μ l k s = zNO ∨ (-9 ≤ spSv μ l k s ∧ spSv μ l k s ≤ 138) := by
  unfold spSv
  by_cases q : k < spSize μ l ∧ spOn μ l k s ∧ -spReach (μ 4 (spCell μ l k 0)) ≤ s ∧ s ≤ spReach (μ 4 (spCell μ l k 0))
  · rw [zif_pos q]
    right
    have h1 := spOn_own hI hl (k := k) ⟨hk, q.1⟩
    have h2 := spOn_cell0 q.2.1
    have h3 := hI.b4 _ h2.1 h2.2
    have h4 := spSize_rng hI hl
    have h5 := hI.b12 l hl.1 hl.2
    have h6 := spWater_rng hI (c := spCol μ l k 0) (d := μ 16 l) (h := μ 17 l + k / 5) (by omega) (by omega) (by omega)
    omega
  · rw [zif_neg q]; exact Or.inl rfl
theorem MI_SM {μ : zMu} (hJ : MJ μ) (ht : ∀ i, μ 1 0 * 240 ≤ i → i < 720 → μ 11 i = 0) (h18 : ∀ i, 0 ≤ i → i < 2240 → (μ 18 i = zNO ∨ (-9 ≤ μ 18 i ∧ μ 18 i ≤ 138)) ∧ -60 ≤ μ 19 i ∧ μ 19 i ≤ 60) (h20 : ∀ i, 0 ≤ i → i < 40 → 0 ≤ μ 20 i ∧ μ 20 i ≤ 127) {l : Int} (hl : 0 ≤ l ∧ l < 16) (b : Int) : MI (spSM μ l b) := by
  refine ⟨hJ.1, hJ.2.1, hJ.2.2.1, hJ.2.2.2.1, hJ.2.2.2.2.1, hJ.2.2.2.2.2.1, hJ.2.2.2.2.2.2.1, ht, hJ.2.2.2.2.2.2.2.1, hJ.2.2.2.2.2.2.2.2.1, hJ.2.2.2.2.2.2.2.2.2, fun i q0 q1 => ?_, h20⟩
  show (spSF μ l b i = zNO ∨ (-9 ≤ spSF μ l b i ∧ spSF μ l b i ≤ 138)) ∧ -60 ≤ zfill (μ 19) (140 * l) b 0 i ∧ zfill (μ 19) (140 * l) b 0 i ≤ 60
  have h9 := h18 i q0 q1
  unfold spSF zfill
  by_cases q : 140 * l ≤ i ∧ i < b
  · rw [if_pos q, if_pos q]
    exact ⟨spSv_rng hJ hl (by omega), by omega, by omega⟩
  · rw [if_neg q, if_neg q]; exact h9
/-- soundings on their lines: for all lines before n but l -/
def MKx (μ : zMu) (n l : Int) : Prop := ∀ j k s : Int, 0 ≤ j → j < n → j ≠ l → 0 ≤ k → k < 20 → -3 ≤ s → s ≤ 3 → spHas μ j k s → k < spSize μ j ∧ spOn μ j k s
theorem MK_SM {μ : zMu} {n l : Int} (hK : MKx μ n l) (hl : 0 ≤ l) : ∀ j k s : Int, 0 ≤ j → j < n → 0 ≤ k → k < 20 → -3 ≤ s → s ≤ 3 → spHas (spSM μ l (140 * l + 140)) j k s → k < spSize μ j ∧ spOn μ j k s := by
  intro j k s h1 h2 h3 h4 h5 h6 hh
  have hh : spSF μ l (140 * l + 140) (7 * (20 * j + k) + s + 3) ≠ zNO := hh
  unfold spSF at hh
  by_cases q : j = l
  · rw [if_pos (by omega), q, show (7 * (20 * l + k) + s + 3 - 140 * l) / 7 = k by omega, show (7 * (20 * l + k) + s + 3 - 140 * l) % 7 - 3 = s by omega] at hh
    rw [q]
    exact spSv_has hh
  · rw [if_neg (by omega)] at hh
    exact hK j k s h1 h2 q h3 h4 h5 h6 hh
theorem zline_keep (μ : zMu) {l j x12 x13 x14 x15 x16 x17 : Int} (h : j ≠ l) (k s : Int) : spSize (zline μ l x12 x13 x14 x15 x16 x17) j = spSize μ j ∧ (spOn (zline μ l x12 x13 x14 x15 x16 x17) j k s ↔ spOn μ j k s) := by
  have e12 : zline μ l x12 x13 x14 x15 x16 x17 12 j = μ 12 j := zup_n _ _ h
  have e13 : zline μ l x12 x13 x14 x15 x16 x17 13 j = μ 13 j := zup_n _ _ h
  have e14 : zline μ l x12 x13 x14 x15 x16 x17 14 j = μ 14 j := zup_n _ _ h
  have e15 : zline μ l x12 x13 x14 x15 x16 x17 15 j = μ 15 j := zup_n _ _ h
  unfold spSize spOn spCol spRow spAlong
  rw [e12, e13, e14, e15]
  exact ⟨rfl, Iff.rfl⟩
theorem MKx_zline {μ : zMu} (hK : MK μ) {n l x12 x13 x14 x15 x16 x17 : Int} (hn : ∀ j, j < n → j ≠ l → j < μ 2 0) : MKx (zline μ l x12 x13 x14 x15 x16 x17) n l := by
  intro j k s h1 h2 h3 h4 h5 h6 h7 hh
  obtain ⟨e1, e2⟩ := zline_keep μ (x12 := x12) (x13 := x13) (x14 := x14) (x15 := x15) (x16 := x16) (x17 := x17) h3 k s
  rw [e1, e2]
  exact hK j k s h1 (hn j h2 h3) h4 h5 h6 h7 hh
abbrev spBusy (μ : zMu) (w d b n : Int) : Prop := ∃ l, 0 ≤ l ∧ l < μ 2 0 ∧ l ≠ w ∧ μ 16 l = d ∧ μ 17 l ≤ n ∧ b ≤ μ 17 l + (spSize μ l - 1) / 5
noncomputable def spRunS (μ : zMu) (c i a b d h : Int) : zMu := spSM (zline μ (μ 2 0) (bI (c = 114)) i a b d h) (μ 2 0) (140 * μ 2 0 + 140)
noncomputable def spRunM (μ : zMu) (c i a b d h : Int) : zMu := zset (spRunS μ c i a b d h) 2 (fun _ => μ 2 0 + 1)
noncomputable def spAnewM (μ : zMu) (l d h : Int) : zMu := spSM (zset (zset μ 16 (zup (μ 16) l d)) 17 (zup (μ 17) l h)) l (140 * l + 140)
abbrev spWay (c i a b d h : Int) : Prop := (0 ≤ i ∧ i ≤ (if c = 114 then 12 else 20) - 1) ∧ (0 ≤ a ∧ a ≤ (if c = 114 then 20 else 12) - 1) ∧ (0 ≤ b ∧ b ≤ (if c = 114 then 20 else 12) - 1) ∧ (0 ≤ d ∧ d ≤ 9) ∧ 0 ≤ h ∧ h ≤ 23
noncomputable def o_run (μ : zMu) (c i a b d h : Int) : Int × Int × zMu :=
  if c = 114 ∨ c = 99 then (if spWay c i a b d h then (if μ 7 d ≤ 4 then (if μ 2 0 ≠ 16 ∧ h + (spSz a b - 1) / 5 < 24 then zif (spBusy μ (-1) d h (h + (spSz a b - 1) / 5)) (4, 0, μ) (0, μ 2 0, spRunM μ c i a b d h) else (4, 0, μ)) else (3, 0, μ)) else (2, 0, μ)) else (1, 0, μ)
noncomputable def o_runAnew (μ : zMu) (l d h : Int) : Int × Int × zMu :=
  if spLine μ l then (if (0 ≤ d ∧ d ≤ 9) ∧ 0 ≤ h ∧ h ≤ 23 then (if μ 7 d ≤ 4 then (if h + (spSize μ l - 1) / 5 < 24 then zif (spBusy μ l d h (h + (spSize μ l - 1) / 5)) (4, 0, μ) (0, spCharted (spAnewM μ l d h), spAnewM μ l d h) else (4, 0, μ)) else (3, 0, μ)) else (2, 0, μ)) else (1, 0, μ)
theorem MJ_run {μ : zMu} (hI : MI μ) {c i a b d h : Int} (hc : c = 114 ∨ c = 99) (hw : spWay c i a b d h) (h24 : h + (spSz a b - 1) / 5 < 24) : MJ (zline μ (μ 2 0) (bI (c = 114)) i a b d h) := by
  obtain ⟨h1, h2, h3, h4, h5⟩ := hw
  unfold spSz at h24
  unfold bI
  refine MJ_zline hI.J ?_ ?_ ?_
  · split <;> simp_all <;> omega
  · split <;> simp_all <;> omega
  · split at h24 <;> omega
theorem MI_run {μ : zMu} (hI : MI μ) {c i a b d h : Int} (hc : c = 114 ∨ c = 99) (hw : spWay c i a b d h) (h24 : h + (spSz a b - 1) / 5 < 24) (h16 : μ 2 0 ≠ 16) : MI (spRunM μ c i a b d h) := by
  have hn := hI.n
  have q : MI (spRunS μ c i a b d h) := MI_SM (MJ_run hI hc hw h24) hI.2.2.2.2.2.2.2.1 hI.b18 hI.b20 (by omega) _
  exact ⟨⟨hn.1, hn.2.1, show 0 ≤ μ 2 0 + 1 by omega, show μ 2 0 + 1 ≤ 16 by omega, hn.2.2.2.2.1, hn.2.2.2.2.2⟩, q.2⟩
theorem MK_run {μ : zMu} (hI : MI μ) (hK : MK μ) (c i a b d h : Int) : MK (spRunM μ c i a b d h) := by
  have hn := hI.n
  intro j k s h1 h2 h3 h4 h5 h6 hh
  have h2 : j < μ 2 0 + 1 := h2
  exact MK_SM (MKx_zline hK (n := μ 2 0 + 1) (l := μ 2 0) (x12 := bI (c = 114)) (x13 := i) (x14 := a) (x15 := b) (x16 := d) (x17 := h) (fun j q1 q2 => by omega)) (by omega) j k s h1 h2 h3 h4 h5 h6 hh
theorem MJ_anew {μ : zMu} (hI : MI μ) {l d h : Int} (hl : 0 ≤ l ∧ l < 16) (hd : (0 ≤ d ∧ d ≤ 9) ∧ 0 ≤ h ∧ h ≤ 23) (h24 : h + (spSize μ l - 1) / 5 < 24) : MJ (zset (zset μ 16 (zup (μ 16) l d)) 17 (zup (μ 17) l h)) := by
  rw [← zline_anew]
  have h1 := hI.b12 l hl.1 hl.2
  unfold spSize at h24
  exact MJ_zline hI.J (by omega) (hI.J.c12 l hl.1 hl.2) (by split at h24 <;> omega)
theorem MI_anew {μ : zMu} (hI : MI μ) {l d h : Int} (hl : 0 ≤ l ∧ l < 16) (hd : (0 ≤ d ∧ d ≤ 9) ∧ 0 ≤ h ∧ h ≤ 23) (h24 : h + (spSize μ l - 1) / 5 < 24) : MI (spAnewM μ l d h) :=
  MI_SM (MJ_anew hI hl hd h24) hI.2.2.2.2.2.2.2.1 hI.b18 hI.b20 hl _
theorem MK_anew {μ : zMu} (hK : MK μ) {l d h : Int} (hl : 0 ≤ l ∧ l < μ 2 0) : MK (spAnewM μ l d h) := by
  intro j k s h1 h2 h3 h4 h5 h6 hh
  have e : zset (zset μ 16 (zup (μ 16) l d)) 17 (zup (μ 17) l h) = zline μ l (μ 12 l) (μ 13 l) (μ 14 l) (μ 15 l) d h := (zline_anew μ l d h).symm
  unfold spAnewM at hh h2 ⊢
  rw [e] at hh h2 ⊢
  exact MK_SM (MKx_zline hK (n := μ 2 0) (fun j q1 q2 => q1)) hl.1 j k s h1 h2 h3 h4 h5 h6 hh
