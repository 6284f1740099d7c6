/-! ===== running a line, anew, and its text ===== -/
theorem spText_good {μ : zMu} (hI : MI μ) {l : Int} (hl : 0 ≤ l ∧ l < 16) : zgood (spText μ l) ∧ (spText μ l).length ≤ 40 := by
  have hB : zLB μ l := hI.J.b12 l hl.1 hl.2
  have d13 := zdig_len (n := μ 13 l)
  have d14 := zdig_len (n := μ 14 l)
  have d15 := zdig_len (n := μ 15 l)
  have d16 := zdig_len (n := μ 16 l)
  have d17 := zdig_len (n := μ 17 l)
  have dw := spWord_len μ l
  unfold spText
  refine ⟨zgood_app (zgood_app (zgood_app (zgood_app (zgood_app (zgood_app (zgood_app (zgood_app (zgood_app (zgood_app (zgood_1 ?_) (zgood_dig (by omega))) (zgood_1 (by decide))) (zgood_dig (by omega))) (zgood_1 (by decide))) (zgood_dig (by omega))) (zgood_1 (by decide))) (zgood_dig (by omega))) (zgood_1 (by decide))) (zgood_dig (by omega))) (zgood_app (zgood_1 (by decide)) ?_), ?_⟩
  · split <;> decide
  · unfold spWord
    split
    · exact zgood_lit _ (by decide)
    · split
      · exact zgood_lit _ (by decide)
      · exact zgood_lit _ (by decide)
  · simp only [List.length_append, List.length_cons, List.length_nil]
    omega
section ZRUN
variable {G : zG} {L L' : List Nat} {f f' : Nat → va_E} {o : Nat} {ω : Nat → Nat → Nat} {μ M : zMu} {ch : Int → Int} {rd : Nat → Int → Int} {tx : List Int}
/-- the addresses with the text's bytes b, m of them -/
def zwB (ω : Nat → Nat → Nat) (b m : Nat) : Nat → Nat → Nat := fun i j => if i = 2 ∧ j = 5 then b else if i = 0 ∧ j = 6 then m else ω i j
theorem SR_wb (h : SR G L f o ω μ ch rd tx) {b' m' : Nat} {tx' : List Int} (hs : zSb G L' f' (ω 0 5) b' m' tx') (hp : zSbP L f (ω 0 5) (ω 2 5) L' f' b') (h3 : μ 1 0 ≤ 3) (hg0 : 0 ≤ μ 1 0) : SR G L' f' o (zwB ω b' m') μ ch rd tx' := SR_wsb h hs hp h3 hg0
theorem SRC_app (h : SR G L f o ω μ (spChart μ) (fun l => zrl μ l) tx) : SRC G L f o ω (zapp (zset μ 3 (fun _ => 0)) tx) := by
  unfold SRC
  rw [spTx_app]
  exact h
theorem SR_free (h : SR G L f o ω μ ch rd tx) {n : Nat} {l : Int} (hl : (n : Int) = l) (hn : (n : Int) < μ 2 0) : ∀ j : Nat, (j : Int) < μ 2 0 → (ω 5 j = ω 5 n ↔ (j : Int) = l) := fun j hj =>
  ⟨fun e => Classical.byContradiction fun q => h.lin hj hn (by omega) e, fun e => by rw [show j = n by omega]⟩
theorem zif_no {α : Type} {A B : Prop} [Decidable A] {a b : α} (h : ¬ (A ∧ ¬ B)) : (if A then zif B a b else a) = a := by
  by_cases q : A
  · rw [if_pos q]; exact zif_pos (Classical.byContradiction fun z => h ⟨q, z⟩)
  · rw [if_neg q]
theorem zif_yes {α : Type} {A B : Prop} [Decidable A] {a b : α} (h : A) (h2 : ¬ B) : (if A then zif B a b else a) = b := by
  rw [if_pos h]; exact zif_neg h2
theorem zSm_size {n : Int} (hz : zSm μ M n) {l : Int} (h0 : 0 ≤ l) (h1 : l < μ 2 0) (h2 : l ≠ n) : spSize M l = spSize μ l := by
  obtain ⟨q, -⟩ := hz.2 l h0 h1 h2
  unfold spSize
  rw [q 14 (by omega) (by omega), q 15 (by omega) (by omega)]
theorem zSm_anew (μ : zMu) (l d h : Int) : zSm μ (spAnewM μ l d h) l := by
  refine ⟨fun k h1 h2 => ?_, fun j h1 h2 h3 => ⟨fun k k1 k2 => ?_, fun p q0 q1 => ⟨?_, ?_⟩⟩⟩
  · unfold spAnewM spSM
    rw [zset_n _ _ (by omega), zset_n _ _ (by omega), zset_n _ _ (by omega), zset_n _ _ (by omega)]
  · unfold spAnewM spSM
    rw [zset_n _ _ (by omega), zset_n _ _ (by omega)]
    by_cases e : k = 17
    · rw [e, zset_s, zup_n _ _ h3]
    · rw [zset_n _ _ e]
      by_cases e2 : k = 16
      · rw [e2, zset_s, zup_n _ _ h3]
      · rw [zset_n _ _ e2]
  · unfold spAnewM spSM
    rw [zset_s]
    unfold spSF
    rw [if_neg (by omega)]
    rfl
  · unfold spAnewM spSM
    rw [zset_n _ _ (by decide), zset_s]
    unfold zfill
    rw [if_neg (by omega)]
    rfl
theorem zline_at (μ : zMu) (l x12 x13 x14 x15 x16 x17 : Int) : zline μ l x12 x13 x14 x15 x16 x17 12 l = x12 ∧ zline μ l x12 x13 x14 x15 x16 x17 13 l = x13 ∧ zline μ l x12 x13 x14 x15 x16 x17 14 l = x14 ∧ zline μ l x12 x13 x14 x15 x16 x17 15 l = x15 ∧ zline μ l x12 x13 x14 x15 x16 x17 16 l = x16 ∧ zline μ l x12 x13 x14 x15 x16 x17 17 l = x17 :=
  ⟨zup_s _ _ _, zup_s _ _ _, zup_s _ _ _, zup_s _ _ _, zup_s _ _ _, zup_s _ _ _⟩
theorem zline_size (μ : zMu) (l x12 x13 x14 x15 x16 x17 : Int) : spSize (zline μ l x12 x13 x14 x15 x16 x17) l = spSz x14 x15 := by
  obtain ⟨-, -, h14, h15, -, -⟩ := zline_at μ l x12 x13 x14 x15 x16 x17
  unfold spSize spSz
  rw [h14, h15]
theorem zup_2 (σ : Int → Int) (i x y : Int) : zup (zup σ i x) i y = zup σ i y := by
  funext j; unfold zup; by_cases h : j = i
  · rw [if_pos h, if_pos h]
  · rw [if_neg h, if_neg h, if_neg h]
theorem zanew_zline (μ : zMu) (l x12 x13 x14 x15 x16 x17 d h : Int) : zanew (zline μ l x12 x13 x14 x15 x16 x17) l d h = zline μ l x12 x13 x14 x15 d h := by
  funext k
  have e16 : zline μ l x12 x13 x14 x15 x16 x17 16 = zup (μ 16) l x16 := rfl
  have e17 : zline μ l x12 x13 x14 x15 x16 x17 17 = zup (μ 17) l x17 := rfl
  unfold zanew
  rw [e16, e17, zup_2, zup_2]
  unfold zline
  by_cases h17 : k = 17
  · rw [h17, zset_s, zset_s]
  · rw [zset_n _ _ h17, zset_n _ _ h17]
    by_cases h16 : k = 16
    · rw [h16, zset_s, zset_s]
    · rw [zset_n _ _ h16, zset_n _ _ h16, zset_n _ _ h17, zset_n _ _ h16]
theorem zLn_new {q r0 r1 r2 a0 a1 a2 : Nat} {y i x w l : Int} (hob : zOb L f q 7 [.int (iI y), .int (iI i), .int (iI x), .int (iI w), .int (iI (spSz x w)), .int (iI 0), .int (iI 0), .ref r0, .ref r1, .ref r2]) (h0 : zRow G L f r0 a0 140 (-1000000) (fun _ => -1000000)) (h1 : zRow G L f r1 a1 140 0 (fun _ => 0)) (h2 : zRow G L f r2 a2 140 (-1000000) (fun _ => -1000000)) :
    zLn G L f q (zline μ l y i x w 0 0) l r0 r1 r2 a0 a1 a2 (fun _ => zNO) (fun _ => 0) (fun _ => zNO) := by
  obtain ⟨e12, e13, e14, e15, e16, e17⟩ := zline_at μ l y i x w 0 0
  unfold zLn
  rw [zline_size, e12, e13, e14, e15, e16, e17]
  exact ⟨hob, ⟨h0.1, zA_cong h0.2 (fun _ _ _ => cN_no.symm)⟩, h1, ⟨h2.1, zA_cong h2.2 (fun _ _ _ => cN_no.symm)⟩⟩
theorem zSm_run (μ : zMu) (c i a b d h : Int) : zSm μ (spRunM μ c i a b d h) (μ 2 0) := by
  refine ⟨fun k h1 h2 => ?_, fun j h1 h2 h3 => ⟨fun k k1 k2 => ?_, fun p q0 q1 => ⟨?_, ?_⟩⟩⟩
  · unfold spRunM spRunS spSM zline
    rw [zset_n _ _ h2, zset_n _ _ (by omega), zset_n _ _ (by omega), zset_n _ _ (by omega), zset_n _ _ (by omega), zset_n _ _ (by omega), zset_n _ _ (by omega), zset_n _ _ (by omega), zset_n _ _ (by omega)]
  · unfold spRunM spRunS spSM zline
    rw [zset_n _ _ (by omega), zset_n _ _ (by omega), zset_n _ _ (by omega)]
    have hc : ∀ (ν : zMu) (m : Nat) (x : Int), ν m j = μ m j → zset ν m (zup (μ m) (μ 2 0) x) k j = ν k j := fun ν m x hm => by
      by_cases e : k = m
      · rw [e, zset_s, zup_n _ _ h3, hm]
      · rw [zset_n _ _ e]
    refine (hc _ 17 _ ?_).trans ((hc _ 16 _ ?_).trans ((hc _ 15 _ ?_).trans ((hc _ 14 _ ?_).trans ((hc _ 13 _ ?_).trans (hc _ 12 _ ?_))))) <;> rfl
  · unfold spRunM spRunS spSM
    rw [zset_n _ _ (by decide), zset_s]
    unfold spSF
    rw [if_neg (by omega)]
    rfl
  · unfold spRunM spRunS spSM
    rw [zset_n _ _ (by decide), zset_n _ _ (by decide), zset_s]
    unfold zfill
    rw [if_neg (by omega)]
    rfl
theorem spWay_iff {c i a b d h : Int} : spWay c i a b d h ↔ ((c = 114 ∧ zOn a i ∧ zOn b i) ∨ (c ≠ 114 ∧ zOn i a ∧ zOn i b)) ∧ (0 ≤ d ∧ d ≤ 9 ∧ 0 ≤ h ∧ h ≤ 23) := by
  unfold spWay
  by_cases q : c = 114
  · rw [if_pos q, if_pos q]; omega
  · rw [if_neg q, if_neg q]; omega
theorem spWay_ab {c i a b d h : Int} (w : spWay c i a b d h) : (0 ≤ a ∧ a ≤ 19) ∧ (0 ≤ b ∧ b ≤ 19) ∧ 1 ≤ spSz a b ∧ spSz a b ≤ 20 := by
  have q := (spWay_iff.mp w).1
  have e : (0 ≤ a ∧ a ≤ 19) ∧ (0 ≤ b ∧ b ≤ 19) := by unfold zOn at q; omega
  refine ⟨e.1, e.2, ?_⟩
  unfold spSz
  split <;> omega
/-- the line run: what o, the lines' row and the new cells have become -/
theorem SR_run (h : SR G L f o ω μ ch rd tx) (h3 : μ 1 0 ≤ 3) (hg0 : 0 ≤ μ 1 0) {n q r0 r1 r2 a0 a1 a2 : Nat} {L3 : List Nat} {f3 f4 f5 f6 : Nat → va_E} {γ : Nat → Option Nat} (hn : (n : Int) = μ 2 0) (hz : zSm μ M n) (h2 : M 2 0 = μ 2 0 + 1) (hE : zExt L f L3 f3)
    (hγ : γ = va_up (fun l => if (l : Int) < μ 2 0 then some (ω 5 l) else none) n (some q)) (hP4 : zP G 7 L3 f4 (ω 0 3) 16 γ) (hk4 : ∀ b, b ≠ ω 0 3 → f4 b = f3 b)
    (hf5 : f5 o = .inr (10, [.ref (ω 0 0), .ref (ω 0 1), .ref (ω 0 3), .int (iI (μ 2 0 + 1)), .ref (ω 0 4), .ref (ω 0 5)])) (hk5 : ∀ b, b ≠ o → f5 b = f4 b)
    {r : Int → Int} (hln : zLn G L3 f6 q M n r0 r1 r2 a0 a1 a2 (zsl M n) (zel M n) r) (hk6 : ∀ c, c ≠ q → c ≠ a0 → c ≠ a1 → f6 c = f5 c) (hq : q ∉ L) (ha : a0 ∉ L ∧ a1 ∉ L ∧ a2 ∉ L) (hd : a0 ≠ a1 ∧ a0 ≠ a2 ∧ a1 ≠ a2) :
    SR G L3 f6 o (zwL ω n q r0 r1 r2 a0 a1 a2) M ch (fun l => if l = n then r else rd l) tx := by
  have k6 : ∀ c ∈ L, f6 c = f5 c := fun c hc => hk6 c (fun z => hq (z ▸ hc)) (fun z => ha.1 (z ▸ hc)) (fun z => ha.2.1 (z ▸ hc))
  have hkp : zKp L f L3 f6 o (ω 0 3) := fun c hc => ⟨(hE c hc).1, fun h1 h2 => by rw [k6 c hc, hk5 _ h1, hk4 _ h2]; exact (hE c hc).2⟩
  refine SR_addL h h3 hg0 hn hz h2 hkp ⟨(hE _ h.ob.1).1, by rw [k6 _ h.ob.1]; exact hf5⟩ ?_ hln hq ha hd
  rw [← hγ]
  exact zP_kept hP4 (fun _ q => q) (by rw [k6 _ h.la.1, hk5 _ (zne_P h.ob.2 h.la).symm])
theorem SR_kp (h : SR G L f o ω μ ch rd tx) {f4 f5 : Nat → va_E} (hk4 : ∀ b, b ≠ ω 0 3 → f4 b = f b) (hk5 : ∀ b, b ≠ o → f5 b = f4 b) : zKp L f L f5 o (ω 0 3) := fun c hc => ⟨hc, fun h1 h2 => by rw [hk5 _ h1, hk4 _ h2]⟩
end ZRUN
