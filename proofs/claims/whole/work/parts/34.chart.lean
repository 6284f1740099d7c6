set_option maxRecDepth 100000 in
set_option maxHeartbeats 200000 in
theorem c_forget {la : Launch} {G : zG} {X : (Nat → Prop) → State → Prop} (hX : zX X) {L : List Nat} {f : Nat → va_E} {w r a : Nat} {u : Int → Int} (hC : zCh G L f w r a u)   : zM la G X yX0_forget (.code yX0_forget cX0_forget 1 none :: zT) 2 0 0 [.ref w] L f zeV (fun _ L' f' => L = L' ∧ zA G 0 L f' a 240 (fun _ => -1000000) ∧ ∀ c, c ≠ a → f' c = f c) := by
  refine zM_intro hX (by decide) (Nat.le_of_ble_eq_true rfl) (fun pZ eZ sZ mZ aZ bZ hZ cZ AZ C hini => ?_)
  change ZW G pZ la eZ (zRm 2 0 0) sZ mZ aZ bZ hZ cZ AZ 1 0 0 _ L f 0 [(0, .ref w)] []
  have hNO : zNO = -2147483648 := rfl
  
  refine z_aload_n C 0 dX0_forget_0 rfl ?_
  refine z_getf C 0 zin_X0 (hC.1.1) (hC.1.2) rfl (Nat.le_of_ble_eq_true rfl) zl_1_102 rfl rfl dX0_forget_1 ?_
  refine z_cV (As := []) C zc_X4_clear (c_clear hX (hC.2) (by decide)) zl_3_27 (Nat.le_of_ble_eq_true rfl) (Nat.le_of_ble_eq_true rfl) (Nat.le_of_ble_eq_true rfl) (hC.2.1.1) (hC.2.1.2) rfl rfl rfl rfl (Nat.le_of_ble_eq_true rfl) dX0_forget_4 (fun z2 L3 f4 hz5 => ?_)
  obtain ⟨rfl, hc1a, hc1k⟩ := hz5
  change ZW G pZ la eZ (zRm 2 0 0) sZ mZ aZ bZ hZ cZ AZ 1 0 0 _ L f4 7 [(0, .ref w)] []
  exact z_vreturn C dX0_forget_7 (Nat.le_of_ble_eq_true rfl) (Nat.le_of_ble_eq_true rfl) ⟨rfl, hc1a, hc1k⟩

set_option maxRecDepth 100000 in
set_option maxHeartbeats 200000 in
theorem c_depthIn {la : Launch} {G : zG} {X : (Nat → Prop) → State → Prop} (hX : zX X) {L : List Nat} {f : Nat → va_E} {w r a : Nat} {u : Int → Int} (hC : zCh G L f w r a u) (c r0 : Int) (hu : zCr u) (hc : zR c) (hr : zR r0) : zM la G X yX0_depthIn (.code yX0_depthIn cX0_depthIn 3 (some .int) :: zT) 2 0 0 [.ref w, .int (iI c), .int (iI r0)] L f zeI (zRd L f (fun z => z = if zOn c r0 then cN (u (20 * r0 + c)) else -1000000)) := by
  refine zM_intro hX (by decide) (Nat.le_of_ble_eq_true rfl) (fun pZ eZ sZ mZ aZ bZ hZ cZ AZ C hini => ?_)
  change ZW G pZ la eZ (zRm 2 0 0) sZ mZ aZ bZ hZ cZ AZ 3 0 0 _ L f 0 [(0, .ref w), (1, .int (iI c)), (2, .int (iI r0))] []
  have hNO : zNO = -2147483648 := rfl
  
  refine z_aload_n C 0 dX0_depthIn_0 rfl ?_
  refine z_getf C 0 zin_X0 (hC.1.1) (hC.1.2) rfl (Nat.le_of_ble_eq_true rfl) zl_1_102 rfl rfl dX0_depthIn_1 ?_
  refine z_iload_n C 1 dX0_depthIn_4 rfl ?_
  refine z_iload_n C 2 dX0_depthIn_5 rfl ?_
  refine z_cSN (As := [.int (iI c), .int (iI r0)]) C zc_X6_cellNumber (c_cellNumber hX c r0 (by omega) (by omega)) zn_24_RX0 (Nat.le_of_ble_eq_true rfl) (Nat.le_of_ble_eq_true rfl) (Nat.le_of_ble_eq_true rfl) rfl rfl (Nat.le_of_ble_eq_true rfl) dX0_depthIn_6 (fun z2 L3 f4 hz5 => ?_)
  obtain ⟨hz5, rfl, rfl⟩ := hz5
  subst hz5
  have hr1 := zcell_rng c r0
  change ZW G pZ la eZ (zRm 2 0 0) sZ mZ aZ bZ hZ cZ AZ 3 0 0 _ L f 9 [(0, .ref w), (1, .int (iI c)), (2, .int (iI r0))] [.int (iI (zcell c r0)), .ref r]
  refine z_cV (As := [.int (iI (zcell c r0))]) C zc_X4_read (c_read hX (hC.2) (zcell c r0) (by decide) (by omega)) zl_1_166 (Nat.le_of_ble_eq_true rfl) (Nat.le_of_ble_eq_true rfl) (Nat.le_of_ble_eq_true rfl) (hC.2.1.1) (hC.2.1.2) rfl rfl rfl rfl (Nat.le_of_ble_eq_true rfl) dX0_depthIn_9 (fun z6 L7 f8 hz9 => ?_)
  obtain ⟨hz9, rfl, rfl⟩ := hz9
  subst hz9
  have hv : zrd 240 (-1000000) (fun i => cN (u i)) (zcell c r0) = if zOn c r0 then cN (u (20 * r0 + c)) else -1000000 := zrd_cell _ _ c r0
  have hcs := cN_cs (hu (20 * r0 + c))
  have hv2 : (zOn c r0 ∧ zrd 240 (-1000000) (fun i => cN (u i)) (zcell c r0) = cN (u (20 * r0 + c))) ∨ (¬ zOn c r0 ∧ zrd 240 (-1000000) (fun i => cN (u i)) (zcell c r0) = -1000000) := by
    by_cases q : zOn c r0
    · rw [if_pos q] at hv; exact Or.inl ⟨q, hv⟩
    · rw [if_neg q] at hv; exact Or.inr ⟨q, hv⟩
  change ZW G pZ la eZ (zRm 2 0 0) sZ mZ aZ bZ hZ cZ AZ 3 0 0 _ L f 12 [(0, .ref w), (1, .int (iI c)), (2, .int (iI r0))] [.int (iI (zrd 240 (-1000000) (fun i => cN (u i)) (zcell c r0)))]
  exact z_ireturn C dX0_depthIn_12 (Nat.le_of_ble_eq_true rfl) (Nat.le_of_ble_eq_true rfl) ⟨by rw [← hv], rfl, rfl⟩

set_option maxRecDepth 100000 in
set_option maxHeartbeats 200000 in
theorem c_lacks {la : Launch} {G : zG} {X : (Nat → Prop) → State → Prop} (hX : zX X) {L : List Nat} {f : Nat → va_E} {w r a : Nat} {u : Int → Int} (hC : zCh G L f w r a u) (c r0 : Int) (hu : zCr u) (hc : zR c) (hr : zR r0) : zM la G X yX0_lacks (.code yX0_lacks cX0_lacks 3 (some .boolean) :: zT) 3 0 0 [.ref w, .int (iI c), .int (iI r0)] L f zeI (zRd L f (fun z => z = bI (zOn c r0 ∧ u (20 * r0 + c) = zNO))) := by
  refine zM_intro hX (by decide) (Nat.le_of_ble_eq_true rfl) (fun pZ eZ sZ mZ aZ bZ hZ cZ AZ C hini => ?_)
  change ZW G pZ la eZ (zRm 3 0 0) sZ mZ aZ bZ hZ cZ AZ 3 0 0 _ L f 0 [(0, .ref w), (1, .int (iI c)), (2, .int (iI r0))] []
  have hNO : zNO = -2147483648 := rfl
  
  refine z_iload_n C 1 dX0_lacks_0 rfl ?_
  refine z_iload_n C 2 dX0_lacks_1 rfl ?_
  refine z_cSN (As := [.int (iI c), .int (iI r0)]) C zc_X6_cellNumber (c_cellNumber hX c r0 (by omega) (by omega)) zn_24_RX0 (Nat.le_of_ble_eq_true rfl) (Nat.le_of_ble_eq_true rfl) (Nat.le_of_ble_eq_true rfl) rfl rfl (Nat.le_of_ble_eq_true rfl) dX0_lacks_2 (fun z2 L3 f4 hz5 => ?_)
  obtain ⟨hz5, rfl, rfl⟩ := hz5
  subst hz5
  have hr1 := zcell_rng c r0
  change ZW G pZ la eZ (zRm 3 0 0) sZ mZ aZ bZ hZ cZ AZ 3 0 0 _ L f 5 [(0, .ref w), (1, .int (iI c)), (2, .int (iI r0))] [.int (iI (zcell c r0))]
  have hzc : (zOn c r0 ∧ zcell c r0 = 20 * r0 + c) ∨ (¬ zOn c r0 ∧ zcell c r0 = -1) := by
    unfold zcell
    by_cases q : zOn c r0
    · rw [if_pos q]; exact Or.inl ⟨q, rfl⟩
    · rw [if_neg q]; exact Or.inr ⟨q, rfl⟩
  refine z_if_lt C 23 dX0_lacks_5 (by decide) (by omega) (fun h5 => ?_) (fun h5 => ?_)
  · refine z_iconst C dX0_lacks_23 ?_
    exact z_zreturn C (by first | omega | (unfold bI; split <;> omega)) dX0_lacks_24 (Nat.le_of_ble_eq_true rfl) (Nat.le_of_ble_eq_true rfl) ⟨by unfold bI; first | (rw [if_pos (by omega)]; done) | (rw [if_neg (by omega)]; done), rfl, rfl⟩
  · refine z_aload_n C 0 dX0_lacks_8 rfl ?_
    refine z_iload_n C 1 dX0_lacks_9 rfl ?_
    refine z_iload_n C 2 dX0_lacks_10 rfl ?_
    refine z_cV (As := [.int (iI c), .int (iI r0)]) C zc_X0_depthIn (c_depthIn hX hC c r0 hu (by omega) (by omega)) zl_4_189 (Nat.le_of_ble_eq_true rfl) (Nat.le_of_ble_eq_true rfl) (Nat.le_of_ble_eq_true rfl) (hC.1.1) (hC.1.2) rfl rfl rfl rfl (Nat.le_of_ble_eq_true rfl) dX0_lacks_11 (fun zd L6 f7 hzd => ?_)
    obtain ⟨hzd, rfl, rfl⟩ := hzd
    have hcs := cN_cs (hu (20 * r0 + c))
    have hzd : zd = if zOn c r0 then cN (u (20 * r0 + c)) else -1000000 := hzd
    have hv2 : (zOn c r0 ∧ zd = cN (u (20 * r0 + c))) ∨ (¬ zOn c r0 ∧ zd = -1000000) := by
      by_cases q : zOn c r0
      · rw [if_pos q] at hzd; exact Or.inl ⟨q, hzd⟩
      · rw [if_neg q] at hzd; exact Or.inr ⟨q, hzd⟩
    change ZW G pZ la eZ (zRm 3 0 0) sZ mZ aZ bZ hZ cZ AZ 3 0 0 _ L f 14 [(0, .ref w), (1, .int (iI c)), (2, .int (iI r0))] [.int (iI zd)]
    refine z_ldc (n := (-1000000)) C zl_1_100 rfl dX0_lacks_14 ?_
    refine z_icmp_ne C 23 dX0_lacks_16 (by decide) (by omega) (by omega) (fun h16 => ?_) (fun h16 => ?_)
    · refine z_iconst C dX0_lacks_23 ?_
      exact z_zreturn C (by first | omega | (unfold bI; split <;> omega)) dX0_lacks_24 (Nat.le_of_ble_eq_true rfl) (Nat.le_of_ble_eq_true rfl) ⟨by unfold bI; first | (rw [if_pos (by omega)]; done) | (rw [if_neg (by omega)]; done), rfl, rfl⟩
    · refine z_iconst C dX0_lacks_19 ?_
      refine z_goto C 24 dX0_lacks_20 (by decide) ?_
      exact z_zreturn C (by first | omega | (unfold bI; split <;> omega)) dX0_lacks_24 (Nat.le_of_ble_eq_true rfl) (Nat.le_of_ble_eq_true rfl) ⟨by unfold bI; first | (rw [if_pos (by omega)]; done) | (rw [if_neg (by omega)]; done), rfl, rfl⟩

set_option maxRecDepth 100000 in
set_option maxHeartbeats 200000 in
theorem c_countDepths {la : Launch} {G : zG} {X : (Nat → Prop) → State → Prop} (hX : zX X) {L : List Nat} {f : Nat → va_E} {w r a : Nat} {u : Int → Int} (hC : zCh G L f w r a u)  (hu : zCr u) : zM la G X yX0_countDepths (.code yX0_countDepths cX0_countDepths 3 (some .int) :: zT) 2 0 0 [.ref w] L f zeI (zRd L f (fun z => z = zsum (fun c => bI (u c ≠ zNO)) 240)) := by
  refine zM_intro hX (by decide) (Nat.le_of_ble_eq_true rfl) (fun pZ eZ sZ mZ aZ bZ hZ cZ AZ C hini => ?_)
  change ZW G pZ la eZ (zRm 2 0 0) sZ mZ aZ bZ hZ cZ AZ 3 0 0 _ L f 0 [(0, .ref w)] []
  have hNO : zNO = -2147483648 := rfl
  
  refine z_iconst C dX0_countDepths_0 ?_
  refine z_istore_n (ls' := [(1, .int (iI 0)), (0, .ref w)]) C dX0_countDepths_1 (Nat.le_of_ble_eq_true rfl) rfl ?_
  refine z_iconst C dX0_countDepths_2 ?_
  refine z_istore_n (ls' := [(2, .int (iI 0)), (1, .int (iI 0)), (0, .ref w)]) C dX0_countDepths_3 (Nat.le_of_ble_eq_true rfl) rfl ?_
  have key4 : ∀ (n4 : Nat) (m : Int) (c : Int) , (0 ≤ c ∧ c ≤ 240 ∧ m = zsum (fun c => bI (u c ≠ zNO)) c.toNat) → 240 - c < (n4 : Int) → ZW G pZ la eZ (zRm 2 0 0) sZ mZ aZ bZ hZ cZ AZ 3 0 0 (MQ bZ (zQ G zeI (zRd L f (fun z => z = zsum (fun c => bI (u c ≠ zNO)) 240)) AZ) aZ sZ 0 0 AZ) L f 4 [(0, .ref w), (1, .int (iI m)), (2, .int (iI c))] [] := by
    intro n4
    induction n4 with
    | zero => intro m c  hi4 hn4; exfalso; omega
    | succ n4 ih4 =>
      intro m c  hi4 hn4
      obtain ⟨hc0, hc1, hm⟩ := hi4
      refine z_iload_n C 2 dX0_countDepths_4 rfl ?_
      refine z_sipush C dX0_countDepths_5 (by decide) ?_
      refine z_icmp_ge C 38 dX0_countDepths_8 (by decide) (by omega) (by omega) (fun h8 => ?_) (fun h8 => ?_)
      · refine z_iload_n C 1 dX0_countDepths_38 rfl ?_
        exact z_ireturn C dX0_countDepths_39 (Nat.le_of_ble_eq_true rfl) (Nat.le_of_ble_eq_true rfl) ⟨by rw [hm, show c = 240 by omega]; rfl, rfl, rfl⟩
      · have rg : 0 ≤ zsum (fun c => bI (u c ≠ zNO)) c.toNat ∧ zsum (fun c => bI (u c ≠ zNO)) c.toNat ≤ 1 * c.toNat := zsum_rng (by decide) (fun i => bI_rng _) _
        refine z_iload_n C 1 dX0_countDepths_11 rfl ?_
        refine z_aload_n C 0 dX0_countDepths_12 rfl ?_
        refine z_getf C 0 zin_X0 (hC.1.1) (hC.1.2) rfl (Nat.le_of_ble_eq_true rfl) zl_1_102 rfl rfl dX0_countDepths_13 ?_
        refine z_iload_n C 2 dX0_countDepths_16 rfl ?_
        refine z_cV (As := [.int (iI c)]) C zc_X4_read (c_read hX (hC.2) c (by decide) (by omega)) zl_1_166 (Nat.le_of_ble_eq_true rfl) (Nat.le_of_ble_eq_true rfl) (Nat.le_of_ble_eq_true rfl) (hC.2.1.1) (hC.2.1.2) rfl rfl rfl rfl (Nat.le_of_ble_eq_true rfl) dX0_countDepths_17 (fun z1 L2 f3 hz4 => ?_)
        obtain ⟨hz4, rfl, rfl⟩ := hz4
        subst hz4
        have hv : zrd 240 (-1000000) (fun i => cN (u i)) c = cN (u c) := zrd_in (by omega)
        have hcs := cN_cs (hu c)
        change ZW G pZ la eZ (zRm 2 0 0) sZ mZ aZ bZ hZ cZ AZ 3 0 0 _ L f 20 [(0, .ref w), (1, .int (iI m)), (2, .int (iI c))] [.int (iI (zrd 240 (-1000000) (fun i => cN (u i)) c)), .int (iI m)]
        refine z_ldc (n := (-1000000)) C zl_1_100 rfl dX0_countDepths_20 ?_
        refine z_icmp_eq C 29 dX0_countDepths_22 (by decide) (by omega) (by omega) (fun h22 => ?_) (fun h22 => ?_)
        · refine z_iconst C dX0_countDepths_29 ?_
          refine z_iadd C dX0_countDepths_30 ?_
          refine z_nm (fun x5 hx5 => ?_)
          refine z_istore_n (ls' := [(1, .int (iI x5)), (0, .ref w), (2, .int (iI c))]) C dX0_countDepths_31 (Nat.le_of_ble_eq_true rfl) rfl ?_
          refine z_iinc (ls' := [(2, .int (iI (c + 1))), (1, .int (iI x5)), (0, .ref w)]) C 2 dX0_countDepths_32 rfl (Nat.le_of_ble_eq_true rfl) rfl ?_
          refine z_goto C 4 dX0_countDepths_35 (by decide) ?_
          refine z_perm [2, 1, 0] rfl ?_
          exact ih4 _ _  ⟨by omega, by omega, by rw [zsum_s _ hc0, ← hm]; first | (rw [bI_1 (by omega)] <;> omega) | (rw [bI_0 (by omega)] <;> omega)⟩ (by omega)
        · refine z_iconst C dX0_countDepths_25 ?_
          refine z_goto C 30 dX0_countDepths_26 (by decide) ?_
          refine z_iadd C dX0_countDepths_30 ?_
          refine z_nm (fun x6 hx6 => ?_)
          refine z_istore_n (ls' := [(1, .int (iI x6)), (0, .ref w), (2, .int (iI c))]) C dX0_countDepths_31 (Nat.le_of_ble_eq_true rfl) rfl ?_
          refine z_iinc (ls' := [(2, .int (iI (c + 1))), (1, .int (iI x6)), (0, .ref w)]) C 2 dX0_countDepths_32 rfl (Nat.le_of_ble_eq_true rfl) rfl ?_
          refine z_goto C 4 dX0_countDepths_35 (by decide) ?_
          refine z_perm [2, 1, 0] rfl ?_
          exact ih4 _ _  ⟨by omega, by omega, by rw [zsum_s _ hc0, ← hm]; first | (rw [bI_1 (by omega)] <;> omega) | (rw [bI_0 (by omega)] <;> omega)⟩ (by omega)
  refine z_perm [2, 1, 0] rfl ?_
  exact key4 2000 _ _  ⟨by omega, by omega, rfl⟩ (by omega)

set_option maxRecDepth 100000 in
set_option maxHeartbeats 200000 in
theorem c_sumOfDepths {la : Launch} {G : zG} {X : (Nat → Prop) → State → Prop} (hX : zX X) {L : List Nat} {f : Nat → va_E} {w r a : Nat} {u : Int → Int} (hC : zCh G L f w r a u)  (hu : zCr u) : zM la G X yX0_sumOfDepths (.code yX0_sumOfDepths cX0_sumOfDepths 4 (some .int) :: zT) 2 0 0 [.ref w] L f zeI (zRd L f (fun z => z = zsum (fun c => if u c = zNO then 0 else u c) 240)) := by
  refine zM_intro hX (by decide) (Nat.le_of_ble_eq_true rfl) (fun pZ eZ sZ mZ aZ bZ hZ cZ AZ C hini => ?_)
  change ZW G pZ la eZ (zRm 2 0 0) sZ mZ aZ bZ hZ cZ AZ 4 0 0 _ L f 0 [(0, .ref w)] []
  have hNO : zNO = -2147483648 := rfl
  
  refine z_iconst C dX0_sumOfDepths_0 ?_
  refine z_istore_n (ls' := [(1, .int (iI 0)), (0, .ref w)]) C dX0_sumOfDepths_1 (Nat.le_of_ble_eq_true rfl) rfl ?_
  refine z_iconst C dX0_sumOfDepths_2 ?_
  refine z_istore_n (ls' := [(2, .int (iI 0)), (1, .int (iI 0)), (0, .ref w)]) C dX0_sumOfDepths_3 (Nat.le_of_ble_eq_true rfl) rfl ?_
  have key4 : ∀ (n4 : Nat) (m : Int) (c : Int) , (0 ≤ c ∧ c ≤ 240 ∧ m = zsum (fun c => if u c = zNO then 0 else u c) c.toNat) → 240 - c < (n4 : Int) → ZW G pZ la eZ (zRm 2 0 0) sZ mZ aZ bZ hZ cZ AZ 4 0 0 (MQ bZ (zQ G zeI (zRd L f (fun z => z = zsum (fun c => if u c = zNO then 0 else u c) 240)) AZ) aZ sZ 0 0 AZ) L f 4 [(0, .ref w), (1, .int (iI m)), (2, .int (iI c))] [] := by
    intro n4
    induction n4 with
    | zero => intro m c  hi4 hn4; exfalso; omega
    | succ n4 ih4 =>
      intro m c  hi4 hn4
      obtain ⟨hc0, hc1, hm⟩ := hi4
      refine z_iload_n C 2 dX0_sumOfDepths_4 rfl ?_
      refine z_sipush C dX0_sumOfDepths_5 (by decide) ?_
      refine z_icmp_ge C 40 dX0_sumOfDepths_8 (by decide) (by omega) (by omega) (fun h8 => ?_) (fun h8 => ?_)
      · refine z_iload_n C 1 dX0_sumOfDepths_40 rfl ?_
        exact z_ireturn C dX0_sumOfDepths_41 (Nat.le_of_ble_eq_true rfl) (Nat.le_of_ble_eq_true rfl) ⟨by rw [hm, show c = 240 by omega]; rfl, rfl, rfl⟩
      · refine z_aload_n C 0 dX0_sumOfDepths_11 rfl ?_
        refine z_getf C 0 zin_X0 (hC.1.1) (hC.1.2) rfl (Nat.le_of_ble_eq_true rfl) zl_1_102 rfl rfl dX0_sumOfDepths_12 ?_
        refine z_iload_n C 2 dX0_sumOfDepths_15 rfl ?_
        refine z_cV (As := [.int (iI c)]) C zc_X4_read (c_read hX (hC.2) c (by decide) (by omega)) zl_1_166 (Nat.le_of_ble_eq_true rfl) (Nat.le_of_ble_eq_true rfl) (Nat.le_of_ble_eq_true rfl) (hC.2.1.1) (hC.2.1.2) rfl rfl rfl rfl (Nat.le_of_ble_eq_true rfl) dX0_sumOfDepths_16 (fun z1 L2 f3 hz4 => ?_)
        obtain ⟨hz4, rfl, rfl⟩ := hz4
        subst hz4
        have hv : zrd 240 (-1000000) (fun i => cN (u i)) c = cN (u c) := zrd_in (by omega)
        have hcs := cN_cs (hu c)
        change ZW G pZ la eZ (zRm 2 0 0) sZ mZ aZ bZ hZ cZ AZ 4 0 0 _ L f 19 [(0, .ref w), (1, .int (iI m)), (2, .int (iI c))] [.int (iI (zrd 240 (-1000000) (fun i => cN (u i)) c))]
        refine z_nm (fun dd hdd => ?_)
        refine z_istore_n (ls' := [(3, .int (iI dd)), (0, .ref w), (1, .int (iI m)), (2, .int (iI c))]) C dX0_sumOfDepths_19 (Nat.le_of_ble_eq_true rfl) rfl ?_
        refine z_iload_n C 2 dX0_sumOfDepths_20 rfl ?_
        refine z_iload_n C 0 dX0_sumOfDepths_21 rfl ?_
        refine z_ldc (n := (-1000000)) C zl_1_100 rfl dX0_sumOfDepths_22 ?_
        refine z_icmp_eq C 31 dX0_sumOfDepths_24 (by decide) (by omega) (by omega) (fun h24 => ?_) (fun h24 => ?_)
        · refine z_iconst C dX0_sumOfDepths_31 ?_
          refine z_iadd C dX0_sumOfDepths_32 ?_
          refine z_nm (fun x5 hx5 => ?_)
          refine z_istore_n (ls' := [(1, .int (iI x5)), (3, .int (iI dd)), (0, .ref w), (2, .int (iI c))]) C dX0_sumOfDepths_33 (Nat.le_of_ble_eq_true rfl) rfl ?_
          refine z_iinc (ls' := [(2, .int (iI (c + 1))), (1, .int (iI x5)), (3, .int (iI dd)), (0, .ref w)]) C 3 dX0_sumOfDepths_34 rfl (Nat.le_of_ble_eq_true rfl) rfl ?_
          refine z_goto C 4 dX0_sumOfDepths_37 (by decide) ?_
          refine z_perm [3, 1, 0] rfl ?_
          exact ih4 _ _  ⟨by omega, by omega, by rw [zsum_s _ hc0, ← hm]; first | (rw [if_pos (by omega)] <;> omega) | (rw [if_neg (by omega)] <;> omega)⟩ (by omega)
        · refine z_iload_n C 0 dX0_sumOfDepths_27 rfl ?_
          refine z_goto C 32 dX0_sumOfDepths_28 (by decide) ?_
          refine z_iadd C dX0_sumOfDepths_32 ?_
          refine z_nm (fun x6 hx6 => ?_)
          refine z_istore_n (ls' := [(1, .int (iI x6)), (3, .int (iI dd)), (0, .ref w), (2, .int (iI c))]) C dX0_sumOfDepths_33 (Nat.le_of_ble_eq_true rfl) rfl ?_
          refine z_iinc (ls' := [(2, .int (iI (c + 1))), (1, .int (iI x6)), (3, .int (iI dd)), (0, .ref w)]) C 3 dX0_sumOfDepths_34 rfl (Nat.le_of_ble_eq_true rfl) rfl ?_
          refine z_goto C 4 dX0_sumOfDepths_37 (by decide) ?_
          refine z_perm [3, 1, 0] rfl ?_
          exact ih4 _ _  ⟨by omega, by omega, by rw [zsum_s _ hc0, ← hm]; first | (rw [if_pos (by omega)] <;> omega) | (rw [if_neg (by omega)] <;> omega)⟩ (by omega)
  refine z_perm [2, 1, 0] rfl ?_
  exact key4 2000 _ _  ⟨by omega, by omega, rfl⟩ (by omega)

set_option maxRecDepth 100000 in
set_option maxHeartbeats 200000 in
theorem c_emptyCell {la : Launch} {G : zG} {X : (Nat → Prop) → State → Prop} (hX : zX X) {L : List Nat} {f : Nat → va_E} {w r a : Nat} {u : Int → Int} (hC : zCh G L f w r a u) (i : Int) (hu : zCr u) (hi : zR i) : zM la G X yX0_emptyCell (.code yX0_emptyCell cX0_emptyCell 4 (some .int) :: zT) 2 0 0 [.ref w, .int (iI i)] L f zeI (zRd L f (fun z => z = cN (spGp u i ((240 : Int) - 0).toNat 0 0))) := by
  refine zM_intro hX (by decide) (Nat.le_of_ble_eq_true rfl) (fun pZ eZ sZ mZ aZ bZ hZ cZ AZ C hini => ?_)
  change ZW G pZ la eZ (zRm 2 0 0) sZ mZ aZ bZ hZ cZ AZ 4 0 0 _ L f 0 [(0, .ref w), (1, .int (iI i))] []
  have hNO : zNO = -2147483648 := rfl
  
  refine z_iconst C dX0_emptyCell_0 ?_
  refine z_istore_n (ls' := [(2, .int (iI 0)), (0, .ref w), (1, .int (iI i))]) C dX0_emptyCell_1 (Nat.le_of_ble_eq_true rfl) rfl ?_
  refine z_iconst C dX0_emptyCell_2 ?_
  refine z_istore_n (ls' := [(3, .int (iI 0)), (2, .int (iI 0)), (0, .ref w), (1, .int (iI i))]) C dX0_emptyCell_3 (Nat.le_of_ble_eq_true rfl) rfl ?_
  have key4 : ∀ (n4 : Nat) (m : Int) (c : Int) , (0 ≤ c ∧ c ≤ 240 ∧ 0 ≤ m ∧ m ≤ c ∧ spGp u i (240 - c).toNat c m = spGp u i ((240 : Int) - 0).toNat 0 0) → 240 - c < (n4 : Int) → ZW G pZ la eZ (zRm 2 0 0) sZ mZ aZ bZ hZ cZ AZ 4 0 0 (MQ bZ (zQ G zeI (zRd L f (fun z => z = cN (spGp u i ((240 : Int) - 0).toNat 0 0))) AZ) aZ sZ 0 0 AZ) L f 4 [(0, .ref w), (1, .int (iI i)), (2, .int (iI m)), (3, .int (iI c))] [] := by
    intro n4
    induction n4 with
    | zero => intro m c  hi4 hn4; exfalso; omega
    | succ n4 ih4 =>
      intro m c  hi4 hn4
      obtain ⟨hc0, hc1, hm0, hm1, hg⟩ := hi4
      refine z_iload_n C 3 dX0_emptyCell_4 rfl ?_
      refine z_sipush C dX0_emptyCell_5 (by decide) ?_
      refine z_icmp_ge C 51 dX0_emptyCell_8 (by decide) (by omega) (by omega) (fun h8 => ?_) (fun h8 => ?_)
      · refine z_ldc (n := (-1000000)) C zl_1_100 rfl dX0_emptyCell_51 ?_
        exact z_ireturn C dX0_emptyCell_53 (Nat.le_of_ble_eq_true rfl) (Nat.le_of_ble_eq_true rfl) ⟨by rw [show (240 - c).toNat = 0 by omega] at hg; rw [← hg]; rfl, rfl, rfl⟩
      · refine z_aload_n C 0 dX0_emptyCell_11 rfl ?_
        refine z_getf C 0 zin_X0 (hC.1.1) (hC.1.2) rfl (Nat.le_of_ble_eq_true rfl) zl_1_102 rfl rfl dX0_emptyCell_12 ?_
        refine z_iload_n C 3 dX0_emptyCell_15 rfl ?_
        refine z_cV (As := [.int (iI c)]) C zc_X4_read (c_read hX (hC.2) c (by decide) (by omega)) zl_1_166 (Nat.le_of_ble_eq_true rfl) (Nat.le_of_ble_eq_true rfl) (Nat.le_of_ble_eq_true rfl) (hC.2.1.1) (hC.2.1.2) rfl rfl rfl rfl (Nat.le_of_ble_eq_true rfl) dX0_emptyCell_16 (fun z1 L2 f3 hz4 => ?_)
        obtain ⟨hz4, rfl, rfl⟩ := hz4
        subst hz4
        have hv : zrd 240 (-1000000) (fun i => cN (u i)) c = cN (u c) := zrd_in (by omega)
        have hcs := cN_cs (hu c)
        change ZW G pZ la eZ (zRm 2 0 0) sZ mZ aZ bZ hZ cZ AZ 4 0 0 _ L f 19 [(0, .ref w), (1, .int (iI i)), (2, .int (iI m)), (3, .int (iI c))] [.int (iI (zrd 240 (-1000000) (fun i => cN (u i)) c))]
        refine z_ldc (n := (-1000000)) C zl_1_100 rfl dX0_emptyCell_19 ?_
        refine z_icmp_ne C 45 dX0_emptyCell_21 (by decide) (by omega) (by omega) (fun h21 => ?_) (fun h21 => ?_)
        · refine z_iinc (ls' := [(3, .int (iI (c + 1))), (0, .ref w), (1, .int (iI i)), (2, .int (iI m))]) C 3 dX0_emptyCell_45 rfl (Nat.le_of_ble_eq_true rfl) rfl ?_
          refine z_goto C 4 dX0_emptyCell_48 (by decide) ?_
          refine z_perm [1, 2, 3, 0] rfl ?_
          exact ih4 _ _  ⟨by omega, by omega, by omega, by omega, by rw [spGp_s _ _ (by omega)] at hg; first | (rw [if_neg (by omega)] at hg; exact hg) | (rw [if_pos (by omega), if_neg (by omega)] at hg; exact hg)⟩ (by omega)
        · refine z_iload_n C 2 dX0_emptyCell_24 rfl ?_
          refine z_iload_n C 1 dX0_emptyCell_25 rfl ?_
          refine z_icmp_ne C 42 dX0_emptyCell_26 (by decide) (by omega) (by omega) (fun h26 => ?_) (fun h26 => ?_)
          · refine z_iinc (ls' := [(2, .int (iI (m + 1))), (0, .ref w), (1, .int (iI i)), (3, .int (iI c))]) C 2 dX0_emptyCell_42 rfl (Nat.le_of_ble_eq_true rfl) rfl ?_
            refine z_iinc (ls' := [(3, .int (iI (c + 1))), (2, .int (iI (m + 1))), (0, .ref w), (1, .int (iI i))]) C 3 dX0_emptyCell_45 rfl (Nat.le_of_ble_eq_true rfl) rfl ?_
            refine z_goto C 4 dX0_emptyCell_48 (by decide) ?_
            refine z_perm [2, 3, 1, 0] rfl ?_
            exact ih4 _ _  ⟨by omega, by omega, by omega, by omega, by rw [spGp_s _ _ (by omega)] at hg; first | (rw [if_neg (by omega)] at hg; exact hg) | (rw [if_pos (by omega), if_neg (by omega)] at hg; exact hg)⟩ (by omega)
          · refine z_bipush C dX0_emptyCell_29 (by decide) ?_
            refine z_iload_n C 3 dX0_emptyCell_31 rfl ?_
            refine z_bipush C dX0_emptyCell_32 (by decide) ?_
            refine z_idivP C dX0_emptyCell_34 (by omega) (by omega) ?_
            refine z_imul C dX0_emptyCell_35 ?_
            refine z_iload_n C 3 dX0_emptyCell_36 rfl ?_
            refine z_bipush C dX0_emptyCell_37 (by decide) ?_
            refine z_iremP C dX0_emptyCell_39 (by omega) (by omega) ?_
            refine z_iadd C dX0_emptyCell_40 ?_
            exact z_ireturn C dX0_emptyCell_41 (Nat.le_of_ble_eq_true rfl) (Nat.le_of_ble_eq_true rfl) ⟨by rw [spGp_s _ _ (by omega), if_pos (by omega), if_pos (by omega)] at hg; rw [← hg, cN_in (by omega)], rfl, rfl⟩
  refine z_perm [2, 3, 1, 0] rfl ?_
  exact key4 2000 _ _  ⟨by omega, by omega, by omega, by omega, rfl⟩ (by omega)

set_option maxRecDepth 100000 in
set_option maxHeartbeats 200000 in
theorem c_lower {la : Launch} {G : zG} {X : (Nat → Prop) → State → Prop} (hX : zX X) {L : List Nat} {f : Nat → va_E} {w r a : Nat} {u : Int → Int} (hC : zCh G L f w r a u) (c r0 x : Int) (hu : zCr u) (hon : zOn c r0) (hx : -108 ≤ x ∧ x ≤ 208) : zM la G X yX0_lower (.code yX0_lower cX0_lower 6 none :: zT) 2 0 0 [.ref w, .int (iI c), .int (iI r0), .int (iI x)] L f zeV (fun _ L' f' => L = L' ∧ zA G 0 L f' a 240 (fun i => cN (zlow u (20 * r0 + c) x i)) ∧ ∀ c, c ≠ a → f' c = f c) := by
  refine zM_intro hX (by decide) (Nat.le_of_ble_eq_true rfl) (fun pZ eZ sZ mZ aZ bZ hZ cZ AZ C hini => ?_)
  change ZW G pZ la eZ (zRm 2 0 0) sZ mZ aZ bZ hZ cZ AZ 6 0 0 _ L f 0 [(0, .ref w), (1, .int (iI c)), (2, .int (iI r0)), (3, .int (iI x))] []
  have hNO : zNO = -2147483648 := rfl
  
  refine z_iload_n C 1 dX0_lower_0 rfl ?_
  refine z_iload_n C 2 dX0_lower_1 rfl ?_
  refine z_cSN (As := [.int (iI c), .int (iI r0)]) C zc_X6_cellNumber (c_cellNumber hX c r0 (by omega) (by omega)) zn_24_RX0 (Nat.le_of_ble_eq_true rfl) (Nat.le_of_ble_eq_true rfl) (Nat.le_of_ble_eq_true rfl) rfl rfl (Nat.le_of_ble_eq_true rfl) dX0_lower_2 (fun z2 L3 f4 hz5 => ?_)
  obtain ⟨hz5, rfl, rfl⟩ := hz5
  subst hz5
  have hr1 := zcell_rng c r0
  change ZW G pZ la eZ (zRm 2 0 0) sZ mZ aZ bZ hZ cZ AZ 6 0 0 _ L f 5 [(0, .ref w), (1, .int (iI c)), (2, .int (iI r0)), (3, .int (iI x))] [.int (iI (zcell c r0))]
  refine z_nm (fun cn hcn => ?_)
  refine z_istore (ls' := [(4, .int (iI cn)), (0, .ref w), (1, .int (iI c)), (2, .int (iI r0)), (3, .int (iI x))]) C dX0_lower_5 (Nat.le_of_ble_eq_true rfl) rfl ?_
  refine z_aload_n C 1 dX0_lower_7 rfl ?_
  refine z_getf C 0 zin_X0 (hC.1.1) (hC.1.2) rfl (Nat.le_of_ble_eq_true rfl) zl_1_102 rfl rfl dX0_lower_8 ?_
  refine z_iload C 0 dX0_lower_11 rfl ?_
  refine z_cV (As := [.int (iI cn)]) C zc_X4_read (c_read hX (hC.2) cn (by decide) (by omega)) zl_1_166 (Nat.le_of_ble_eq_true rfl) (Nat.le_of_ble_eq_true rfl) (Nat.le_of_ble_eq_true rfl) (hC.2.1.1) (hC.2.1.2) rfl rfl rfl rfl (Nat.le_of_ble_eq_true rfl) dX0_lower_13 (fun z6 L7 f8 hz9 => ?_)
  obtain ⟨hz9, rfl, rfl⟩ := hz9
  subst hz9
  have hcc : zcell c r0 = 20 * r0 + c := zcell_in hon
  have hv : zrd 240 (-1000000) (fun i => cN (u i)) cn = cN (u (20 * r0 + c)) := by rw [show cn = 20 * r0 + c by omega]; exact zrd_in (by omega)
  have hcs := cN_cs (hu (20 * r0 + c))
  change ZW G pZ la eZ (zRm 2 0 0) sZ mZ aZ bZ hZ cZ AZ 6 0 0 _ L f 16 [(4, .int (iI cn)), (0, .ref w), (1, .int (iI c)), (2, .int (iI r0)), (3, .int (iI x))] [.int (iI (zrd 240 (-1000000) (fun i => cN (u i)) cn))]
  refine z_nm (fun bf hbf => ?_)
  refine z_istore (ls' := [(5, .int (iI bf)), (4, .int (iI cn)), (0, .ref w), (1, .int (iI c)), (2, .int (iI r0)), (3, .int (iI x))]) C dX0_lower_16 (Nat.le_of_ble_eq_true rfl) rfl ?_
  refine z_iload C 0 dX0_lower_18 rfl ?_
  refine z_ldc (n := (-1000000)) C zl_1_100 rfl dX0_lower_20 ?_
  refine z_icmp_eq C 31 dX0_lower_22 (by decide) (by omega) (by omega) (fun h22 => ?_) (fun h22 => ?_)
  · refine z_aload_n C 2 dX0_lower_31 rfl ?_
    refine z_getf C 0 zin_X0 (hC.1.1) (hC.1.2) rfl (Nat.le_of_ble_eq_true rfl) zl_1_102 rfl rfl dX0_lower_32 ?_
    refine z_iload C 1 dX0_lower_35 rfl ?_
    refine z_iload_n C 5 dX0_lower_37 rfl ?_
    refine z_cV (As := [.int (iI cn), .int (iI x)]) C zc_X4_write (c_write hX (hC.2) cn x (by decide) (by omega) (by omega)) zl_3_43 (Nat.le_of_ble_eq_true rfl) (Nat.le_of_ble_eq_true rfl) (Nat.le_of_ble_eq_true rfl) (hC.2.1.1) (hC.2.1.2) rfl rfl rfl rfl (Nat.le_of_ble_eq_true rfl) dX0_lower_38 (fun z11 L12 f13 hz14 => ?_)
    obtain ⟨rfl, hw10a, hw10k, hw10z⟩ := hz14
    change ZW G pZ la eZ (zRm 2 0 0) sZ mZ aZ bZ hZ cZ AZ 6 0 0 _ L f13 41 [(5, .int (iI bf)), (4, .int (iI cn)), (0, .ref w), (1, .int (iI c)), (2, .int (iI r0)), (3, .int (iI x))] [.int (iI z11)]
    refine z_pop C dX0_lower_41 rfl ?_
    exact z_vreturn C dX0_lower_42 (Nat.le_of_ble_eq_true rfl) (Nat.le_of_ble_eq_true rfl) ⟨rfl, by have q := hw10a; unfold zwr at q; rw [if_pos (by omega), cN_up _ _ hx] at q; unfold zlow; rw [if_pos (by omega), show 20 * r0 + c = cn by omega]; exact q, hw10k⟩
  · refine z_iload_n C 5 dX0_lower_25 rfl ?_
    refine z_iload C 0 dX0_lower_26 rfl ?_
    refine z_icmp_ge C 42 dX0_lower_28 (by decide) (by omega) (by omega) (fun h28 => ?_) (fun h28 => ?_)
    · exact z_vreturn C dX0_lower_42 (Nat.le_of_ble_eq_true rfl) (Nat.le_of_ble_eq_true rfl) ⟨rfl, by unfold zlow; rw [if_neg (by omega)]; exact hC.2.2, fun c _ => rfl⟩
    · refine z_aload_n C 2 dX0_lower_31 rfl ?_
      refine z_getf C 0 zin_X0 (hC.1.1) (hC.1.2) rfl (Nat.le_of_ble_eq_true rfl) zl_1_102 rfl rfl dX0_lower_32 ?_
      refine z_iload C 1 dX0_lower_35 rfl ?_
      refine z_iload_n C 5 dX0_lower_37 rfl ?_
      refine z_cV (As := [.int (iI cn), .int (iI x)]) C zc_X4_write (c_write hX (hC.2) cn x (by decide) (by omega) (by omega)) zl_3_43 (Nat.le_of_ble_eq_true rfl) (Nat.le_of_ble_eq_true rfl) (Nat.le_of_ble_eq_true rfl) (hC.2.1.1) (hC.2.1.2) rfl rfl rfl rfl (Nat.le_of_ble_eq_true rfl) dX0_lower_38 (fun z16 L17 f18 hz19 => ?_)
      obtain ⟨rfl, hw15a, hw15k, hw15z⟩ := hz19
      change ZW G pZ la eZ (zRm 2 0 0) sZ mZ aZ bZ hZ cZ AZ 6 0 0 _ L f18 41 [(5, .int (iI bf)), (4, .int (iI cn)), (0, .ref w), (1, .int (iI c)), (2, .int (iI r0)), (3, .int (iI x))] [.int (iI z16)]
      refine z_pop C dX0_lower_41 rfl ?_
      exact z_vreturn C dX0_lower_42 (Nat.le_of_ble_eq_true rfl) (Nat.le_of_ble_eq_true rfl) ⟨rfl, by have q := hw15a; unfold zwr at q; rw [if_pos (by omega), cN_up _ _ hx] at q; unfold zlow; rw [if_pos (by omega), show 20 * r0 + c = cn by omega]; exact q, hw15k⟩
