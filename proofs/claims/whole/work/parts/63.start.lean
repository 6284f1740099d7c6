/-! ===== the survey made ===== -/
theorem zMuS_n : zMuS 1 0 = 0 ∧ zMuS 2 0 = 0 ∧ zMuS 3 0 = 0 := ⟨rfl, rfl, rfl⟩
theorem zMuS_4 {i : Int} (h : 0 ≤ i ∧ i < 240) : zMuS 4 i = 20 := by
  show zfill (fun _ => 0) 0 240 20 i = 20
  unfold zfill; rw [if_pos h]
theorem MI_S : MI zMuS := by
  refine ⟨by decide, fun i h0 h1 => by rw [zMuS_4 ⟨h0, h1⟩]; decide, fun i _ _ => ?_, fun i _ _ => ?_, fun i _ _ => ?_, fun i _ _ => ?_, fun i _ _ => ?_, fun i _ _ => rfl, fun i _ _ => ?_, fun i _ _ => ?_, fun i _ _ => ?_, fun i _ _ => ?_, fun i _ _ => ?_⟩
  · show 0 ≤ (0 : Int) ∧ (0 : Int) ≤ 30; decide
  · show -2 ≤ (0 : Int) ∧ (0 : Int) ≤ 2; decide
  · show 0 ≤ (0 : Int) ∧ (0 : Int) ≤ 9; decide
  · show 0 ≤ (0 : Int) ∧ (0 : Int) ≤ 19; decide
  · show 0 ≤ (0 : Int) ∧ (0 : Int) ≤ 1; decide
  · show 0 ≤ (0 : Int) ∧ (0 : Int) ≤ 1 ∧ 0 ≤ (0 : Int) ∧ (0 : Int) ≤ 19 ∧ 0 ≤ (0 : Int) ∧ (0 : Int) ≤ 19 ∧ 0 ≤ (0 : Int) ∧ (0 : Int) ≤ 19 ∧ 0 ≤ (0 : Int) ∧ (0 : Int) ≤ 9 ∧ 0 ≤ (0 : Int) ∧ (0 : Int) ≤ 23; decide
  · show ((0 : Int) = 0 → (0 : Int) ≤ 11 ∧ (0 : Int) ≤ 11) ∧ ((0 : Int) ≠ 0 → (0 : Int) ≤ 11); decide
  · show 5 * (0 : Int) + ((0 : Int) - 0) < 120 ∧ 5 * (0 : Int) + ((0 : Int) - 0) < 120; decide
  · show ((0 : Int) = zNO ∨ (-9 ≤ (0 : Int) ∧ (0 : Int) ≤ 138)) ∧ -60 ≤ (0 : Int) ∧ (0 : Int) ≤ 60; decide
  · show 0 ≤ (0 : Int) ∧ (0 : Int) ≤ 127; decide
theorem MK_S : MK zMuS := fun l k s h0 h1 => by
  have h1 : l < 0 := h1
  omega
theorem spChart_S : spChart zMuS = fun _ => zNO := rfl
theorem spTx_S : spTx zMuS = [] := rfl
theorem zSea_mem {G : zG} {L : List Nat} {f : Nat → va_E} {w : Nat} {xr xa : Nat → Nat} {κ : zMu} (h : zSea G L f w xr xa κ) (i : Nat) (hi : i < 4) : xa i ∈ L := by
  match i, hi with
  | 0, _ => exact h.2.1.2.1
  | 1, _ => exact h.2.2.1.2.1
  | 2, _ => exact h.2.2.2.1.2.1
  | 3, _ => exact h.2.2.2.2.2.1
theorem zSb_mem {G : zG} {L : List Nat} {f : Nat → va_E} {w b m : Nat} {t : List Int} (h : zSb G L f w b m t) : b ∈ L := by
  obtain ⟨τ, e⟩ := zSb_a h
  exact e.1
theorem SR_start {G : zG} {L : List Nat} {f : Nat → va_E} {o s g p ls c t r a b : Nat} {xr xa : Nat → Nat} (hob : zOb L f o 10 [.ref s, .ref g, .ref ls, .int (iI 0), .ref c, .ref t]) (hS : zSea G L f s xr xa (fun i _ => if i = 0 then 20 else 0)) (hGo : zOb L f g 6 [.ref p, .int (iI 0)]) (hGp : zP G 6 L f p 3 (fun _ => none)) (hls : zP G 7 L f ls 16 (fun _ => none)) (hC : zCh G L f c r a (fun _ => zNO)) (hT : zSb G L f t b 16 [])
    (hx : ∀ i j, i < 4 → j < 4 → i ≠ j → xa i ≠ xa j) (ha : ∀ i, i < 4 → xa i ≠ a) (hb : ∀ i, i < 4 → xa i ≠ b) (hab : a ≠ b) (hp : p ≠ ls) : CSx G L f o zMuS := by
  refine ⟨fun i j => if i = 0 then [s, g, p, ls, c, t, 16, r].getD j 0 else if i = 1 then xr j else if i = 2 then (if j < 4 then xa j else if j = 4 then a else b) else 0, ⟨hob, ?_, ⟨hGo, ?_, fun g hg => ?_⟩, ?_, hC, hT, fun l hl => ?_, fun i j hi hj hij => ?_, fun i j hi => ?_, hp⟩, MI_S, MK_S⟩
  · exact ⟨hS.1, ⟨hS.2.1.1, zA_cong hS.2.1.2 (fun i q0 q1 => (zMuS_4 ⟨q0, q1⟩).symm)⟩, hS.2.2.1, hS.2.2.2.1, hS.2.2.2.2⟩
  · have e : (fun g : Nat => if (g : Int) < zMuS 1 0 then some 0 else none) = (fun _ => none : Nat → Option Nat) := funext (fun g => if_neg (by rw [zMuS_n.1]; omega))
    have q := hGp
    rw [← e] at q
    exact q
  · rw [zMuS_n.1] at hg; omega
  · have e : (fun l : Nat => if (l : Int) < zMuS 2 0 then some 0 else none) = (fun _ => none : Nat → Option Nat) := funext (fun g => if_neg (by rw [zMuS_n.2.1]; omega))
    have q := hls
    rw [← e] at q
    exact q
  · rw [zMuS_n.2.1] at hl; omega
  · have hu : ∀ i, zUsed zMuS i → i < 6 := fun i h => by
      unfold zUsed at h
      rw [zMuS_n.1, zMuS_n.2.1] at h
      omega
    have hi := hu i hi
    have hj := hu j hj
    have hij : (if i < 4 then xa i else if i = 4 then a else b) = (if j < 4 then xa j else if j = 4 then a else b) := hij
    by_cases i4 : i < 4
    · by_cases j4 : j < 4
      · rw [if_pos i4, if_pos j4] at hij
        exact Classical.byContradiction fun z => hx i j i4 j4 z hij
      · rw [if_pos i4, if_neg j4] at hij
        by_cases e : j = 4
        · rw [if_pos e] at hij; exact absurd hij (ha i i4)
        · rw [if_neg e] at hij; exact absurd hij (hb i i4)
    · by_cases j4 : j < 4
      · rw [if_neg i4, if_pos j4] at hij
        by_cases e : i = 4
        · rw [if_pos e] at hij; exact absurd hij.symm (ha j j4)
        · rw [if_neg e] at hij; exact absurd hij.symm (hb j j4)
      · rw [if_neg i4, if_neg j4] at hij
        by_cases e : i = 4 <;> by_cases e2 : j = 4
        · omega
        · rw [if_pos e, if_neg e2] at hij; exact absurd hij hab
        · rw [if_neg e, if_pos e2] at hij; exact absurd hij.symm hab
        · omega
  · rw [zMuS_n.2.1] at hi; omega
