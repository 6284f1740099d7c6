/-! ===== the reference's text ===== -/
/-- letters behind the text -/
def zapp (μ : zMu) (t : List Int) : zMu := zset (zset μ 20 (fun i => if μ 3 0 ≤ i ∧ i < μ 3 0 + t.length then t.getD (i - μ 3 0).toNat 0 else μ 20 i)) 3 (fun _ => μ 3 0 + t.length)
theorem zapp_3 (μ : zMu) (t : List Int) : zapp μ t 3 = fun _ => μ 3 0 + t.length := zset_s _ _ _
theorem zapp_20 (μ : zMu) (t : List Int) : zapp μ t 20 = fun i => if μ 3 0 ≤ i ∧ i < μ 3 0 + t.length then t.getD (i - μ 3 0).toNat 0 else μ 20 i := by
  unfold zapp; rw [zset_n _ _ (by decide), zset_s]
theorem zapp_n (μ : zMu) (t : List Int) {k : Nat} (h : k ≠ 3) (h2 : k ≠ 20) : zapp μ t k = μ k := by
  unfold zapp; rw [zset_n _ _ h, zset_n _ _ h2]
theorem zapp_0 (μ : zMu) (h : ∀ i, μ 3 i = μ 3 0) : zapp μ [] = μ := by
  funext k
  by_cases h3 : k = 3
  · subst h3; rw [zapp_3]; funext i; rw [h i]; exact Int.add_zero _
  · by_cases h20 : k = 20
    · subst h20; rw [zapp_20]; funext i; rw [if_neg (by simp)]
    · exact zapp_n μ [] h3 h20
theorem zapp_1 (μ : zMu) (c : Int) : zset (zset μ 20 (zup (μ 20) (μ 3 0) c)) 3 (fun _ => μ 3 0 + 1) = zapp μ [c] := by
  unfold zapp
  have e : zup (μ 20) (μ 3 0) c = fun i => if μ 3 0 ≤ i ∧ i < μ 3 0 + ([c] : List Int).length then ([c] : List Int).getD (i - μ 3 0).toNat 0 else μ 20 i := by
    funext i
    unfold zup
    have hl : (([c] : List Int).length : Int) = 1 := rfl
    by_cases h : i = μ 3 0
    · rw [if_pos h, if_pos (by omega), show (i - μ 3 0).toNat = 0 by omega]; rfl
    · rw [if_neg h, if_neg (by omega)]
  rw [e]
  rfl
theorem zapp_app (μ : zMu) (t1 t2 : List Int) : zapp (zapp μ t1) t2 = zapp μ (t1 ++ t2) := by
  have hl : ((t1 ++ t2).length : Int) = t1.length + t2.length := by rw [List.length_append]; omega
  funext k
  by_cases h3 : k = 3
  · subst h3
    rw [zapp_3, zapp_3, zapp_3, hl]
    funext i
    dsimp only
    omega
  · by_cases h20 : k = 20
    · subst h20
      rw [zapp_20, zapp_20, zapp_20, zapp_3]
      funext i
      dsimp only
      by_cases q : μ 3 0 ≤ i ∧ i < μ 3 0 + t1.length
      · rw [if_neg (by omega), if_pos q, if_pos (by omega), List.getD_eq_getElem?_getD, List.getD_eq_getElem?_getD, List.getElem?_append_left (by omega)]
      · by_cases q2 : μ 3 0 + t1.length ≤ i ∧ i < μ 3 0 + t1.length + t2.length
        · rw [if_pos q2, if_pos (by omega), List.getD_eq_getElem?_getD, List.getD_eq_getElem?_getD, List.getElem?_append_right (by omega), show (i - μ 3 0).toNat - t1.length = (i - (μ 3 0 + t1.length)).toNat by omega]
        · rw [if_neg q2, if_neg q, if_neg (by omega)]
    · rw [zapp_n _ _ h3 h20, zapp_n _ _ h3 h20, zapp_n _ _ h3 h20]
/-- the digits of a number below 100 -/
def zdig (n : Int) : List Int := if n ≤ 9 then [48 + n] else [48 + n / 10, 48 + n % 10]
def zgood (t : List Int) : Prop := ∀ j, 0 ≤ t.getD j 0 ∧ t.getD j 0 < 128
theorem zgood_app {t1 t2 : List Int} (h1 : zgood t1) (h2 : zgood t2) : zgood (t1 ++ t2) := fun j => by
  have q1 := h1 j
  have q2 := h2 (j - t1.length)
  rw [List.getD_eq_getElem?_getD] at q1 q2 ⊢
  by_cases h : j < t1.length
  · rw [List.getElem?_append_left h]; exact q1
  · rw [List.getElem?_append_right (by omega)]; exact q2
theorem zgood_1 {c : Int} (h : 0 ≤ c ∧ c < 128) : zgood [c] := fun j => by
  cases j with
  | zero => exact h
  | succ j => exact ⟨Int.le_refl 0, by show (0 : Int) < 128; decide⟩
theorem zgood_dig {n : Int} (h : 0 ≤ n ∧ n ≤ 99) : zgood (zdig n) := by
  unfold zdig
  split
  · exact zgood_1 (by omega)
  · exact zgood_app (t1 := [48 + n / 10]) (t2 := [48 + n % 10]) (zgood_1 (by omega)) (zgood_1 (by omega))
theorem zdig_len {n : Int} : 1 ≤ (zdig n).length ∧ (zdig n).length ≤ 2 := by
  unfold zdig; split <;> simp
def spWord (μ : zMu) (l : Int) : List Int := if spLost μ l = 0 then [103, 111, 111, 100] else if spLost μ l = spCount μ l then [98, 97, 100] else [112, 97, 114, 116]
theorem spWord_len (μ : zMu) (l : Int) : 3 ≤ (spWord μ l).length ∧ (spWord μ l).length ≤ 4 := by
  unfold spWord; split <;> (try split) <;> simp
def spText (μ : zMu) (l : Int) : List Int := [if μ 12 l ≠ 0 then 114 else 99] ++ zdig (μ 13 l) ++ [58] ++ zdig (μ 14 l) ++ [45] ++ zdig (μ 15 l) ++ [64] ++ zdig (μ 16 l) ++ [47] ++ zdig (μ 17 l) ++ ([32] ++ spWord μ l)
def o_writeLine (μ : zMu) (l : Int) : Int × Int × zMu := if spLine μ l then (0, (spText μ l).length, zapp (zset μ 3 (fun _ => 0)) (spText μ l)) else (1, 0, μ)
/-- the invariant, letters added -/
theorem MI_app {μ : zMu} (hI : MI μ) {t : List Int} (hg : zgood t) (h : μ 3 0 + t.length ≤ 40) : MI (zapp μ t) := by
  refine ⟨?_, ?_⟩
  · rw [zapp_3, zapp_n _ _ (show 1 ≠ 3 by decide) (by decide), zapp_n _ _ (show 2 ≠ 3 by decide) (by decide)]
    have := hI.n
    dsimp only
    omega
  · refine ⟨hI.2.1, hI.2.2.1, hI.2.2.2.1, hI.2.2.2.2.1, hI.2.2.2.2.2.1, hI.2.2.2.2.2.2.1, hI.2.2.2.2.2.2.2.1, hI.2.2.2.2.2.2.2.2.1, hI.2.2.2.2.2.2.2.2.2.1, hI.2.2.2.2.2.2.2.2.2.2.1, hI.2.2.2.2.2.2.2.2.2.2.2.1, fun i q0 q1 => ?_⟩
    rw [zapp_20]
    dsimp only
    split
    · have := hg (i - μ 3 0).toNat
      omega
    · exact hI.b20 i q0 q1
theorem spLost_app (μ : zMu) (t : List Int) (l : Int) : spLost (zapp μ t) l = spLost μ l := rfl
theorem spCount_app (μ : zMu) (t : List Int) (l : Int) : spCount (zapp μ t) l = spCount μ l := rfl
theorem spLine_app (μ : zMu) (t : List Int) (l : Int) : spLine (zapp μ t) l = spLine μ l := rfl
