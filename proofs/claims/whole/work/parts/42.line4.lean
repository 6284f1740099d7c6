set_option maxRecDepth 100000 in
set_option maxHeartbeats 200000 in
theorem c_depthOver {la : Launch} {G : zG} {X : (Nat → Prop) → State → Prop} (hX : zX X) {L : List Nat} {f : Nat → va_E} {w : Nat} {μ : zMu} {l : Int} {r0 r1 r2 a0 a1 a2 : Nat} {s e rd : Int → Int} (hLn : zLn G L f w μ l r0 r1 r2 a0 a1 a2 s e rd) (c r : Int) (hB : zLB μ l) (hrd : zCr rd) (hc : -100 ≤ c ∧ c ≤ 100) (hr : -100 ≤ r ∧ r ≤ 100) : zM la G X yX3_depthOver (.code yX3_depthOver cX3_depthOver 5 (some .int) :: zT) 4 0 0 [.ref w, .int (iI c), .int (iI r)] L f zeI (zRd L f (fun z => z = cN (zover μ l rd c r))) := by
  refine zM_intro hX (by decide) (Nat.le_of_ble_eq_true rfl) (fun pZ eZ sZ mZ aZ bZ hZ cZ AZ C hini => ?_)
  change ZW G pZ la eZ (zRm 4 0 0) sZ mZ aZ bZ hZ cZ AZ 5 0 0 _ L f 0 [(0, .ref w), (1, .int (iI c)), (2, .int (iI r))] []
  have hNO : zNO = -2147483648 := rfl
  have hsz := zLB_sz hB
  
  refine z_aload_n C 0 dX3_depthOver_0 rfl ?_
  refine z_aload_n C 0 dX3_depthOver_1 rfl ?_
  refine z_getf C 0 zin_X3 (hLn.1.1) (hLn.1.2) rfl (Nat.le_of_ble_eq_true rfl) zl_4_12 rfl rfl dX3_depthOver_2 ?_
  refine z_if_eq C 12 dX3_depthOver_5 (by decide) (by omega) (fun h5 => ?_) (fun h5 => ?_)
  · refine z_iload_n C 2 dX3_depthOver_12 rfl ?_
    refine z_cV (As := [.int (iI r)]) C zc_X3_cellAt (c_lcellAt hX hLn r hB (by omega)) zl_2_95 (Nat.le_of_ble_eq_true rfl) (Nat.le_of_ble_eq_true rfl) (Nat.le_of_ble_eq_true rfl) (hLn.1.1) (hLn.1.2) rfl rfl rfl rfl (Nat.le_of_ble_eq_true rfl) dX3_depthOver_13 (fun z2 L3 f4 hz5 => ?_)
    obtain ⟨hz5, rfl, rfl⟩ := hz5
    subst hz5
    have hr1 := zspAt hB r
    change ZW G pZ la eZ (zRm 4 0 0) sZ mZ aZ bZ hZ cZ AZ 5 0 0 _ L f 16 [(0, .ref w), (1, .int (iI c)), (2, .int (iI r))] [.int (iI (spAt μ l r))]
    refine z_nm (fun cl hcl => ?_)
    refine z_istore_n (ls' := [(3, .int (iI cl)), (0, .ref w), (1, .int (iI c)), (2, .int (iI r))]) C dX3_depthOver_16 (Nat.le_of_ble_eq_true rfl) rfl ?_
    refine z_aload_n C 1 dX3_depthOver_17 rfl ?_
    refine z_getf C 0 zin_X3 (hLn.1.1) (hLn.1.2) rfl (Nat.le_of_ble_eq_true rfl) zl_4_12 rfl rfl dX3_depthOver_18 ?_
    refine z_if_eq C 33 dX3_depthOver_21 (by decide) (by omega) (fun h21 => ?_) (fun h21 => ?_)
    · refine z_iload_n C 2 dX3_depthOver_33 rfl ?_
      refine z_aload_n C 1 dX3_depthOver_34 rfl ?_
      refine z_getf C 1 zin_X3 (hLn.1.1) (hLn.1.2) rfl (Nat.le_of_ble_eq_true rfl) zl_4_13 rfl rfl dX3_depthOver_35 ?_
      refine z_isub C dX3_depthOver_38 ?_
      refine z_nm (fun sd hsd => ?_)
      refine z_istore (ls' := [(4, .int (iI sd)), (3, .int (iI cl)), (0, .ref w), (1, .int (iI c)), (2, .int (iI r))]) C dX3_depthOver_39 (Nat.le_of_ble_eq_true rfl) rfl ?_
      refine z_aload_n C 2 dX3_depthOver_41 rfl ?_
      refine z_iload_n C 1 dX3_depthOver_42 rfl ?_
      refine z_iload C 0 dX3_depthOver_43 rfl ?_
      refine z_cV (As := [.int (iI cl), .int (iI sd)]) C zc_X3_isGood (c_isGood hX hLn cl sd hB (by omega) (by omega) hrd) zl_2_104 (Nat.le_of_ble_eq_true rfl) (Nat.le_of_ble_eq_true rfl) (Nat.le_of_ble_eq_true rfl) (hLn.1.1) (hLn.1.2) rfl rfl rfl rfl (Nat.le_of_ble_eq_true rfl) dX3_depthOver_45 (fun z6 L7 f8 hz9 => ?_)
      obtain ⟨hz9, rfl, rfl⟩ := hz9
      subst hz9
      change ZW G pZ la eZ (zRm 4 0 0) sZ mZ aZ bZ hZ cZ AZ 5 0 0 _ L f 48 [(4, .int (iI sd)), (3, .int (iI cl)), (0, .ref w), (1, .int (iI c)), (2, .int (iI r))] [.int (iI (bI (zgood2 rd cl sd)))]
      refine z_if_eq_b C 61 dX3_depthOver_48 (by decide) (fun h48 => ?_) (fun h48 => ?_)
      · refine z_ldc (n := (-1000000)) C zl_1_194 rfl dX3_depthOver_61 ?_
        exact z_ireturn C dX3_depthOver_63 (Nat.le_of_ble_eq_true rfl) (Nat.le_of_ble_eq_true rfl) ⟨by first | (exfalso; omega) | (unfold zover; (first | (rw [if_pos (show μ 12 l = 0 by omega), ← hcl, ← hsd]) | (rw [if_neg (show ¬ μ 12 l = 0 by omega), ← hcl, ← hsd])); (first | (rw [if_pos (by assumption)]; omega) | (rw [if_neg (by assumption), cN_no]))), rfl, rfl⟩
      · refine z_aload_n C 2 dX3_depthOver_51 rfl ?_
        refine z_iload_n C 1 dX3_depthOver_52 rfl ?_
        refine z_iload C 0 dX3_depthOver_53 rfl ?_
        refine z_cV (As := [.int (iI cl), .int (iI sd)]) C zc_X3_reducedAt (c_reducedAt hX hLn cl sd hB (by omega) (by omega)) zl_1_195 (Nat.le_of_ble_eq_true rfl) (Nat.le_of_ble_eq_true rfl) (Nat.le_of_ble_eq_true rfl) (hLn.1.1) (hLn.1.2) rfl rfl rfl rfl (Nat.le_of_ble_eq_true rfl) dX3_depthOver_55 (fun zr10 L12 f13 hz11 => ?_)
        obtain ⟨hz11, rfl, rfl⟩ := hz11
        have hz11c := cN_cs (zls_cr hrd cl sd)
        have hz11d : (zls rd cl sd = zNO ∧ zr10 = -1000000) ∨ (-108 ≤ zls rd cl sd ∧ zls rd cl sd ≤ 208 ∧ zls rd cl sd ≠ zNO ∧ zr10 = zls rd cl sd) := by rw [hz11]; exact hz11c
        change ZW G pZ la eZ (zRm 4 0 0) sZ mZ aZ bZ hZ cZ AZ 5 0 0 _ L f 58 [(4, .int (iI sd)), (3, .int (iI cl)), (0, .ref w), (1, .int (iI c)), (2, .int (iI r))] [.int (iI zr10)]
        refine z_goto C 63 dX3_depthOver_58 (by decide) ?_
        exact z_ireturn C dX3_depthOver_63 (Nat.le_of_ble_eq_true rfl) (Nat.le_of_ble_eq_true rfl) ⟨by first | (exfalso; omega) | (unfold zover; (first | (rw [if_pos (show μ 12 l = 0 by omega), ← hcl, ← hsd]) | (rw [if_neg (show ¬ μ 12 l = 0 by omega), ← hcl, ← hsd])); (first | (rw [if_pos (by assumption)]; omega) | (rw [if_neg (by assumption), cN_no]))), rfl, rfl⟩
    · refine z_iload_n C 3 dX3_depthOver_24 rfl ?_
      refine z_aload_n C 1 dX3_depthOver_25 rfl ?_
      refine z_getf C 1 zin_X3 (hLn.1.1) (hLn.1.2) rfl (Nat.le_of_ble_eq_true rfl) zl_4_13 rfl rfl dX3_depthOver_26 ?_
      refine z_isub C dX3_depthOver_29 ?_
      refine z_goto C 39 dX3_depthOver_30 (by decide) ?_
      refine z_nm (fun sd hsd => ?_)
      refine z_istore (ls' := [(4, .int (iI sd)), (3, .int (iI cl)), (0, .ref w), (1, .int (iI c)), (2, .int (iI r))]) C dX3_depthOver_39 (Nat.le_of_ble_eq_true rfl) rfl ?_
      refine z_aload_n C 2 dX3_depthOver_41 rfl ?_
      refine z_iload_n C 1 dX3_depthOver_42 rfl ?_
      refine z_iload C 0 dX3_depthOver_43 rfl ?_
      refine z_cV (As := [.int (iI cl), .int (iI sd)]) C zc_X3_isGood (c_isGood hX hLn cl sd hB (by omega) (by omega) hrd) zl_2_104 (Nat.le_of_ble_eq_true rfl) (Nat.le_of_ble_eq_true rfl) (Nat.le_of_ble_eq_true rfl) (hLn.1.1) (hLn.1.2) rfl rfl rfl rfl (Nat.le_of_ble_eq_true rfl) dX3_depthOver_45 (fun z14 L15 f16 hz17 => ?_)
      obtain ⟨hz17, rfl, rfl⟩ := hz17
      subst hz17
      change ZW G pZ la eZ (zRm 4 0 0) sZ mZ aZ bZ hZ cZ AZ 5 0 0 _ L f 48 [(4, .int (iI sd)), (3, .int (iI cl)), (0, .ref w), (1, .int (iI c)), (2, .int (iI r))] [.int (iI (bI (zgood2 rd cl sd)))]
      refine z_if_eq_b C 61 dX3_depthOver_48 (by decide) (fun h48 => ?_) (fun h48 => ?_)
      · refine z_ldc (n := (-1000000)) C zl_1_194 rfl dX3_depthOver_61 ?_
        exact z_ireturn C dX3_depthOver_63 (Nat.le_of_ble_eq_true rfl) (Nat.le_of_ble_eq_true rfl) ⟨by first | (exfalso; omega) | (unfold zover; (first | (rw [if_pos (show μ 12 l = 0 by omega), ← hcl, ← hsd]) | (rw [if_neg (show ¬ μ 12 l = 0 by omega), ← hcl, ← hsd])); (first | (rw [if_pos (by assumption)]; omega) | (rw [if_neg (by assumption), cN_no]))), rfl, rfl⟩
      · refine z_aload_n C 2 dX3_depthOver_51 rfl ?_
        refine z_iload_n C 1 dX3_depthOver_52 rfl ?_
        refine z_iload C 0 dX3_depthOver_53 rfl ?_
        refine z_cV (As := [.int (iI cl), .int (iI sd)]) C zc_X3_reducedAt (c_reducedAt hX hLn cl sd hB (by omega) (by omega)) zl_1_195 (Nat.le_of_ble_eq_true rfl) (Nat.le_of_ble_eq_true rfl) (Nat.le_of_ble_eq_true rfl) (hLn.1.1) (hLn.1.2) rfl rfl rfl rfl (Nat.le_of_ble_eq_true rfl) dX3_depthOver_55 (fun zr18 L20 f21 hz19 => ?_)
        obtain ⟨hz19, rfl, rfl⟩ := hz19
        have hz19c := cN_cs (zls_cr hrd cl sd)
        have hz19d : (zls rd cl sd = zNO ∧ zr18 = -1000000) ∨ (-108 ≤ zls rd cl sd ∧ zls rd cl sd ≤ 208 ∧ zls rd cl sd ≠ zNO ∧ zr18 = zls rd cl sd) := by rw [hz19]; exact hz19c
        change ZW G pZ la eZ (zRm 4 0 0) sZ mZ aZ bZ hZ cZ AZ 5 0 0 _ L f 58 [(4, .int (iI sd)), (3, .int (iI cl)), (0, .ref w), (1, .int (iI c)), (2, .int (iI r))] [.int (iI zr18)]
        refine z_goto C 63 dX3_depthOver_58 (by decide) ?_
        exact z_ireturn C dX3_depthOver_63 (Nat.le_of_ble_eq_true rfl) (Nat.le_of_ble_eq_true rfl) ⟨by first | (exfalso; omega) | (unfold zover; (first | (rw [if_pos (show μ 12 l = 0 by omega), ← hcl, ← hsd]) | (rw [if_neg (show ¬ μ 12 l = 0 by omega), ← hcl, ← hsd])); (first | (rw [if_pos (by assumption)]; omega) | (rw [if_neg (by assumption), cN_no]))), rfl, rfl⟩
  · refine z_iload_n C 1 dX3_depthOver_8 rfl ?_
    refine z_goto C 13 dX3_depthOver_9 (by decide) ?_
    refine z_cV (As := [.int (iI c)]) C zc_X3_cellAt (c_lcellAt hX hLn c hB (by omega)) zl_2_95 (Nat.le_of_ble_eq_true rfl) (Nat.le_of_ble_eq_true rfl) (Nat.le_of_ble_eq_true rfl) (hLn.1.1) (hLn.1.2) rfl rfl rfl rfl (Nat.le_of_ble_eq_true rfl) dX3_depthOver_13 (fun z23 L24 f25 hz26 => ?_)
    obtain ⟨hz26, rfl, rfl⟩ := hz26
    subst hz26
    have hr22 := zspAt hB c
    change ZW G pZ la eZ (zRm 4 0 0) sZ mZ aZ bZ hZ cZ AZ 5 0 0 _ L f 16 [(0, .ref w), (1, .int (iI c)), (2, .int (iI r))] [.int (iI (spAt μ l c))]
    refine z_nm (fun cl hcl => ?_)
    refine z_istore_n (ls' := [(3, .int (iI cl)), (0, .ref w), (1, .int (iI c)), (2, .int (iI r))]) C dX3_depthOver_16 (Nat.le_of_ble_eq_true rfl) rfl ?_
    refine z_aload_n C 1 dX3_depthOver_17 rfl ?_
    refine z_getf C 0 zin_X3 (hLn.1.1) (hLn.1.2) rfl (Nat.le_of_ble_eq_true rfl) zl_4_12 rfl rfl dX3_depthOver_18 ?_
    refine z_if_eq C 33 dX3_depthOver_21 (by decide) (by omega) (fun h21 => ?_) (fun h21 => ?_)
    · refine z_iload_n C 2 dX3_depthOver_33 rfl ?_
      refine z_aload_n C 1 dX3_depthOver_34 rfl ?_
      refine z_getf C 1 zin_X3 (hLn.1.1) (hLn.1.2) rfl (Nat.le_of_ble_eq_true rfl) zl_4_13 rfl rfl dX3_depthOver_35 ?_
      refine z_isub C dX3_depthOver_38 ?_
      refine z_nm (fun sd hsd => ?_)
      refine z_istore (ls' := [(4, .int (iI sd)), (3, .int (iI cl)), (0, .ref w), (1, .int (iI c)), (2, .int (iI r))]) C dX3_depthOver_39 (Nat.le_of_ble_eq_true rfl) rfl ?_
      refine z_aload_n C 2 dX3_depthOver_41 rfl ?_
      refine z_iload_n C 1 dX3_depthOver_42 rfl ?_
      refine z_iload C 0 dX3_depthOver_43 rfl ?_
      refine z_cV (As := [.int (iI cl), .int (iI sd)]) C zc_X3_isGood (c_isGood hX hLn cl sd hB (by omega) (by omega) hrd) zl_2_104 (Nat.le_of_ble_eq_true rfl) (Nat.le_of_ble_eq_true rfl) (Nat.le_of_ble_eq_true rfl) (hLn.1.1) (hLn.1.2) rfl rfl rfl rfl (Nat.le_of_ble_eq_true rfl) dX3_depthOver_45 (fun z27 L28 f29 hz30 => ?_)
      obtain ⟨hz30, rfl, rfl⟩ := hz30
      subst hz30
      change ZW G pZ la eZ (zRm 4 0 0) sZ mZ aZ bZ hZ cZ AZ 5 0 0 _ L f 48 [(4, .int (iI sd)), (3, .int (iI cl)), (0, .ref w), (1, .int (iI c)), (2, .int (iI r))] [.int (iI (bI (zgood2 rd cl sd)))]
      refine z_if_eq_b C 61 dX3_depthOver_48 (by decide) (fun h48 => ?_) (fun h48 => ?_)
      · refine z_ldc (n := (-1000000)) C zl_1_194 rfl dX3_depthOver_61 ?_
        exact z_ireturn C dX3_depthOver_63 (Nat.le_of_ble_eq_true rfl) (Nat.le_of_ble_eq_true rfl) ⟨by first | (exfalso; omega) | (unfold zover; (first | (rw [if_pos (show μ 12 l = 0 by omega), ← hcl, ← hsd]) | (rw [if_neg (show ¬ μ 12 l = 0 by omega), ← hcl, ← hsd])); (first | (rw [if_pos (by assumption)]; omega) | (rw [if_neg (by assumption), cN_no]))), rfl, rfl⟩
      · refine z_aload_n C 2 dX3_depthOver_51 rfl ?_
        refine z_iload_n C 1 dX3_depthOver_52 rfl ?_
        refine z_iload C 0 dX3_depthOver_53 rfl ?_
        refine z_cV (As := [.int (iI cl), .int (iI sd)]) C zc_X3_reducedAt (c_reducedAt hX hLn cl sd hB (by omega) (by omega)) zl_1_195 (Nat.le_of_ble_eq_true rfl) (Nat.le_of_ble_eq_true rfl) (Nat.le_of_ble_eq_true rfl) (hLn.1.1) (hLn.1.2) rfl rfl rfl rfl (Nat.le_of_ble_eq_true rfl) dX3_depthOver_55 (fun zr31 L33 f34 hz32 => ?_)
        obtain ⟨hz32, rfl, rfl⟩ := hz32
        have hz32c := cN_cs (zls_cr hrd cl sd)
        have hz32d : (zls rd cl sd = zNO ∧ zr31 = -1000000) ∨ (-108 ≤ zls rd cl sd ∧ zls rd cl sd ≤ 208 ∧ zls rd cl sd ≠ zNO ∧ zr31 = zls rd cl sd) := by rw [hz32]; exact hz32c
        change ZW G pZ la eZ (zRm 4 0 0) sZ mZ aZ bZ hZ cZ AZ 5 0 0 _ L f 58 [(4, .int (iI sd)), (3, .int (iI cl)), (0, .ref w), (1, .int (iI c)), (2, .int (iI r))] [.int (iI zr31)]
        refine z_goto C 63 dX3_depthOver_58 (by decide) ?_
        exact z_ireturn C dX3_depthOver_63 (Nat.le_of_ble_eq_true rfl) (Nat.le_of_ble_eq_true rfl) ⟨by first | (exfalso; omega) | (unfold zover; (first | (rw [if_pos (show μ 12 l = 0 by omega), ← hcl, ← hsd]) | (rw [if_neg (show ¬ μ 12 l = 0 by omega), ← hcl, ← hsd])); (first | (rw [if_pos (by assumption)]; omega) | (rw [if_neg (by assumption), cN_no]))), rfl, rfl⟩
    · refine z_iload_n C 3 dX3_depthOver_24 rfl ?_
      refine z_aload_n C 1 dX3_depthOver_25 rfl ?_
      refine z_getf C 1 zin_X3 (hLn.1.1) (hLn.1.2) rfl (Nat.le_of_ble_eq_true rfl) zl_4_13 rfl rfl dX3_depthOver_26 ?_
      refine z_isub C dX3_depthOver_29 ?_
      refine z_goto C 39 dX3_depthOver_30 (by decide) ?_
      refine z_nm (fun sd hsd => ?_)
      refine z_istore (ls' := [(4, .int (iI sd)), (3, .int (iI cl)), (0, .ref w), (1, .int (iI c)), (2, .int (iI r))]) C dX3_depthOver_39 (Nat.le_of_ble_eq_true rfl) rfl ?_
      refine z_aload_n C 2 dX3_depthOver_41 rfl ?_
      refine z_iload_n C 1 dX3_depthOver_42 rfl ?_
      refine z_iload C 0 dX3_depthOver_43 rfl ?_
      refine z_cV (As := [.int (iI cl), .int (iI sd)]) C zc_X3_isGood (c_isGood hX hLn cl sd hB (by omega) (by omega) hrd) zl_2_104 (Nat.le_of_ble_eq_true rfl) (Nat.le_of_ble_eq_true rfl) (Nat.le_of_ble_eq_true rfl) (hLn.1.1) (hLn.1.2) rfl rfl rfl rfl (Nat.le_of_ble_eq_true rfl) dX3_depthOver_45 (fun z35 L36 f37 hz38 => ?_)
      obtain ⟨hz38, rfl, rfl⟩ := hz38
      subst hz38
      change ZW G pZ la eZ (zRm 4 0 0) sZ mZ aZ bZ hZ cZ AZ 5 0 0 _ L f 48 [(4, .int (iI sd)), (3, .int (iI cl)), (0, .ref w), (1, .int (iI c)), (2, .int (iI r))] [.int (iI (bI (zgood2 rd cl sd)))]
      refine z_if_eq_b C 61 dX3_depthOver_48 (by decide) (fun h48 => ?_) (fun h48 => ?_)
      · refine z_ldc (n := (-1000000)) C zl_1_194 rfl dX3_depthOver_61 ?_
        exact z_ireturn C dX3_depthOver_63 (Nat.le_of_ble_eq_true rfl) (Nat.le_of_ble_eq_true rfl) ⟨by first | (exfalso; omega) | (unfold zover; (first | (rw [if_pos (show μ 12 l = 0 by omega), ← hcl, ← hsd]) | (rw [if_neg (show ¬ μ 12 l = 0 by omega), ← hcl, ← hsd])); (first | (rw [if_pos (by assumption)]; omega) | (rw [if_neg (by assumption), cN_no]))), rfl, rfl⟩
      · refine z_aload_n C 2 dX3_depthOver_51 rfl ?_
        refine z_iload_n C 1 dX3_depthOver_52 rfl ?_
        refine z_iload C 0 dX3_depthOver_53 rfl ?_
        refine z_cV (As := [.int (iI cl), .int (iI sd)]) C zc_X3_reducedAt (c_reducedAt hX hLn cl sd hB (by omega) (by omega)) zl_1_195 (Nat.le_of_ble_eq_true rfl) (Nat.le_of_ble_eq_true rfl) (Nat.le_of_ble_eq_true rfl) (hLn.1.1) (hLn.1.2) rfl rfl rfl rfl (Nat.le_of_ble_eq_true rfl) dX3_depthOver_55 (fun zr39 L41 f42 hz40 => ?_)
        obtain ⟨hz40, rfl, rfl⟩ := hz40
        have hz40c := cN_cs (zls_cr hrd cl sd)
        have hz40d : (zls rd cl sd = zNO ∧ zr39 = -1000000) ∨ (-108 ≤ zls rd cl sd ∧ zls rd cl sd ≤ 208 ∧ zls rd cl sd ≠ zNO ∧ zr39 = zls rd cl sd) := by rw [hz40]; exact hz40c
        change ZW G pZ la eZ (zRm 4 0 0) sZ mZ aZ bZ hZ cZ AZ 5 0 0 _ L f 58 [(4, .int (iI sd)), (3, .int (iI cl)), (0, .ref w), (1, .int (iI c)), (2, .int (iI r))] [.int (iI zr39)]
        refine z_goto C 63 dX3_depthOver_58 (by decide) ?_
        exact z_ireturn C dX3_depthOver_63 (Nat.le_of_ble_eq_true rfl) (Nat.le_of_ble_eq_true rfl) ⟨by first | (exfalso; omega) | (unfold zover; (first | (rw [if_pos (show μ 12 l = 0 by omega), ← hcl, ← hsd]) | (rw [if_neg (show ¬ μ 12 l = 0 by omega), ← hcl, ← hsd])); (first | (rw [if_pos (by assumption)]; omega) | (rw [if_neg (by assumption), cN_no]))), rfl, rfl⟩

set_option maxRecDepth 100000 in
set_option maxHeartbeats 200000 in
theorem c_meets {la : Launch} {G : zG} {X : (Nat → Prop) → State → Prop} (hX : zX X) {L : List Nat} {f : Nat → va_E} {w : Nat} {μ : zMu} {l : Int} {r0 r1 r2 a0 a1 a2 : Nat} {s e rd : Int → Int} (hLn : zLn G L f w μ l r0 r1 r2 a0 a1 a2 s e rd) {v : Nat} {m : Int} {r3 r4 r5 a3 a4 a5 : Nat} {s2 e2 rd2 : Int → Int} (hLm : zLn G L f v μ m r3 r4 r5 a3 a4 a5 s2 e2 rd2)  (hB : zLB μ l) (hB2 : zLB μ m) : zM la G X yX3_meets (.code yX3_meets cX3_meets 2 (some .boolean) :: zT) 2 0 0 [.ref w, .ref v] L f zeI (zRd L f (fun z => z = 0 ∧ ¬ spX μ l m ∨ z = 1 ∧ spX μ l m)) := by
  refine zM_intro hX (by decide) (Nat.le_of_ble_eq_true rfl) (fun pZ eZ sZ mZ aZ bZ hZ cZ AZ C hini => ?_)
  change ZW G pZ la eZ (zRm 2 0 0) sZ mZ aZ bZ hZ cZ AZ 2 0 0 _ L f 0 [(0, .ref w), (1, .ref v)] []
  have hNO : zNO = -2147483648 := rfl
  have hsz := zLB_sz hB
  have hsz2 := zLB_sz hB2
  refine z_aload_n C 0 dX3_meets_0 rfl ?_
  refine z_getf C 0 zin_X3 (hLn.1.1) (hLn.1.2) rfl (Nat.le_of_ble_eq_true rfl) zl_4_12 rfl rfl dX3_meets_1 ?_
  refine z_aload_n C 1 dX3_meets_4 rfl ?_
  refine z_getf C 0 zin_X3 (hLm.1.1) (hLm.1.2) rfl (Nat.le_of_ble_eq_true rfl) zl_4_12 rfl rfl dX3_meets_5 ?_
  refine z_icmp_eq C 37 dX3_meets_8 (by decide) (by omega) (by omega) (fun h8 => ?_) (fun h8 => ?_)
  · refine z_iconst C dX3_meets_37 ?_
    exact z_zreturn C (by first | omega | (unfold bI; split <;> omega)) dX3_meets_38 (Nat.le_of_ble_eq_true rfl) (Nat.le_of_ble_eq_true rfl) ⟨by unfold spX; omega, rfl, rfl⟩
  · refine z_aload_n C 0 dX3_meets_11 rfl ?_
    refine z_aload_n C 1 dX3_meets_12 rfl ?_
    refine z_getf C 1 zin_X3 (hLm.1.1) (hLm.1.2) rfl (Nat.le_of_ble_eq_true rfl) zl_4_13 rfl rfl dX3_meets_13 ?_
    refine z_cV (As := [.int (iI (μ 13 m))]) C zc_X3_cellAt (c_lcellAt hX hLn (μ 13 m) hB (by omega)) zl_2_95 (Nat.le_of_ble_eq_true rfl) (Nat.le_of_ble_eq_true rfl) (Nat.le_of_ble_eq_true rfl) (hLn.1.1) (hLn.1.2) rfl rfl rfl rfl (Nat.le_of_ble_eq_true rfl) dX3_meets_16 (fun z2 L3 f4 hz5 => ?_)
    obtain ⟨hz5, rfl, rfl⟩ := hz5
    subst hz5
    have hr1 := zspAt hB (μ 13 m)
    change ZW G pZ la eZ (zRm 2 0 0) sZ mZ aZ bZ hZ cZ AZ 2 0 0 _ L f 19 [(0, .ref w), (1, .ref v)] [.int (iI (spAt μ l (μ 13 m)))]
    refine z_if_lt C 37 dX3_meets_19 (by decide) (by omega) (fun h19 => ?_) (fun h19 => ?_)
    · refine z_iconst C dX3_meets_37 ?_
      exact z_zreturn C (by first | omega | (unfold bI; split <;> omega)) dX3_meets_38 (Nat.le_of_ble_eq_true rfl) (Nat.le_of_ble_eq_true rfl) ⟨by unfold spX; omega, rfl, rfl⟩
    · refine z_aload_n C 1 dX3_meets_22 rfl ?_
      refine z_aload_n C 0 dX3_meets_23 rfl ?_
      refine z_getf C 1 zin_X3 (hLn.1.1) (hLn.1.2) rfl (Nat.le_of_ble_eq_true rfl) zl_4_13 rfl rfl dX3_meets_24 ?_
      refine z_cV (As := [.int (iI (μ 13 l))]) C zc_X3_cellAt (c_lcellAt hX hLm (μ 13 l) hB2 (by omega)) zl_2_95 (Nat.le_of_ble_eq_true rfl) (Nat.le_of_ble_eq_true rfl) (Nat.le_of_ble_eq_true rfl) (hLm.1.1) (hLm.1.2) rfl rfl rfl rfl (Nat.le_of_ble_eq_true rfl) dX3_meets_27 (fun z7 L8 f9 hz10 => ?_)
      obtain ⟨hz10, rfl, rfl⟩ := hz10
      subst hz10
      have hr6 := zspAt hB2 (μ 13 l)
      change ZW G pZ la eZ (zRm 2 0 0) sZ mZ aZ bZ hZ cZ AZ 2 0 0 _ L f 30 [(0, .ref w), (1, .ref v)] [.int (iI (spAt μ m (μ 13 l)))]
      refine z_if_lt C 37 dX3_meets_30 (by decide) (by omega) (fun h30 => ?_) (fun h30 => ?_)
      · refine z_iconst C dX3_meets_37 ?_
        exact z_zreturn C (by first | omega | (unfold bI; split <;> omega)) dX3_meets_38 (Nat.le_of_ble_eq_true rfl) (Nat.le_of_ble_eq_true rfl) ⟨by unfold spX; omega, rfl, rfl⟩
      · refine z_iconst C dX3_meets_33 ?_
        refine z_goto C 38 dX3_meets_34 (by decide) ?_
        exact z_zreturn C (by first | omega | (unfold bI; split <;> omega)) dX3_meets_38 (Nat.le_of_ble_eq_true rfl) (Nat.le_of_ble_eq_true rfl) ⟨by unfold spX; omega, rfl, rfl⟩

set_option maxRecDepth 100000 in
set_option maxHeartbeats 200000 in
theorem c_misfitTo {la : Launch} {G : zG} {X : (Nat → Prop) → State → Prop} (hX : zX X) {L : List Nat} {f : Nat → va_E} {w : Nat} {μ : zMu} {l : Int} {r0 r1 r2 a0 a1 a2 : Nat} {s e rd : Int → Int} (hLn : zLn G L f w μ l r0 r1 r2 a0 a1 a2 s e rd) {v : Nat} {m : Int} {r3 r4 r5 a3 a4 a5 : Nat} {s2 e2 rd2 : Int → Int} (hLm : zLn G L f v μ m r3 r4 r5 a3 a4 a5 s2 e2 rd2)  (hB : zLB μ l) (hB2 : zLB μ m) (hrd : zCr rd) (hrd2 : zCr rd2) : zM la G X yX3_misfitTo (.code yX3_misfitTo cX3_misfitTo 4 (some .int) :: zT) 2 0 0 [.ref w, .ref v] L f zeI (zRd L f (fun z => z = if zls rd (spAt μ l (μ 13 m)) 0 ≠ zNO ∧ zls rd2 (spAt μ m (μ 13 l)) 0 ≠ zNO then zls rd (spAt μ l (μ 13 m)) 0 - zls rd2 (spAt μ m (μ 13 l)) 0 else -1000000)) := by
  refine zM_intro hX (by decide) (Nat.le_of_ble_eq_true rfl) (fun pZ eZ sZ mZ aZ bZ hZ cZ AZ C hini => ?_)
  change ZW G pZ la eZ (zRm 2 0 0) sZ mZ aZ bZ hZ cZ AZ 4 0 0 _ L f 0 [(0, .ref w), (1, .ref v)] []
  have hNO : zNO = -2147483648 := rfl
  have hsz := zLB_sz hB
  have hsz2 := zLB_sz hB2
  refine z_aload_n C 0 dX3_misfitTo_0 rfl ?_
  refine z_aload_n C 0 dX3_misfitTo_1 rfl ?_
  refine z_aload_n C 1 dX3_misfitTo_2 rfl ?_
  refine z_getf C 1 zin_X3 (hLm.1.1) (hLm.1.2) rfl (Nat.le_of_ble_eq_true rfl) zl_4_13 rfl rfl dX3_misfitTo_3 ?_
  refine z_cV (As := [.int (iI (μ 13 m))]) C zc_X3_cellAt (c_lcellAt hX hLn (μ 13 m) hB (by omega)) zl_2_95 (Nat.le_of_ble_eq_true rfl) (Nat.le_of_ble_eq_true rfl) (Nat.le_of_ble_eq_true rfl) (hLn.1.1) (hLn.1.2) rfl rfl rfl rfl (Nat.le_of_ble_eq_true rfl) dX3_misfitTo_6 (fun z2 L3 f4 hz5 => ?_)
  obtain ⟨hz5, rfl, rfl⟩ := hz5
  subst hz5
  have hr1 := zspAt hB (μ 13 m)
  change ZW G pZ la eZ (zRm 2 0 0) sZ mZ aZ bZ hZ cZ AZ 4 0 0 _ L f 9 [(0, .ref w), (1, .ref v)] [.int (iI (spAt μ l (μ 13 m))), .ref w]
  refine z_iconst C dX3_misfitTo_9 ?_
  refine z_cV (As := [.int (iI (spAt μ l (μ 13 m))), .int (iI 0)]) C zc_X3_reducedAt (c_reducedAt hX hLn (spAt μ l (μ 13 m)) 0 hB (by omega) (by omega)) zl_1_195 (Nat.le_of_ble_eq_true rfl) (Nat.le_of_ble_eq_true rfl) (Nat.le_of_ble_eq_true rfl) (hLn.1.1) (hLn.1.2) rfl rfl rfl rfl (Nat.le_of_ble_eq_true rfl) dX3_misfitTo_10 (fun zr6 L8 f9 hz7 => ?_)
  obtain ⟨hz7, rfl, rfl⟩ := hz7
  have hz7c := cN_cs (zls_cr hrd (spAt μ l (μ 13 m)) 0)
  have hz7d : (zls rd (spAt μ l (μ 13 m)) 0 = zNO ∧ zr6 = -1000000) ∨ (-108 ≤ zls rd (spAt μ l (μ 13 m)) 0 ∧ zls rd (spAt μ l (μ 13 m)) 0 ≤ 208 ∧ zls rd (spAt μ l (μ 13 m)) 0 ≠ zNO ∧ zr6 = zls rd (spAt μ l (μ 13 m)) 0) := by rw [hz7]; exact hz7c
  change ZW G pZ la eZ (zRm 2 0 0) sZ mZ aZ bZ hZ cZ AZ 4 0 0 _ L f 13 [(0, .ref w), (1, .ref v)] [.int (iI zr6)]
  refine z_istore_n (ls' := [(2, .int (iI zr6)), (0, .ref w), (1, .ref v)]) C dX3_misfitTo_13 (Nat.le_of_ble_eq_true rfl) rfl ?_
  refine z_aload_n C 2 dX3_misfitTo_14 rfl ?_
  refine z_aload_n C 2 dX3_misfitTo_15 rfl ?_
  refine z_aload_n C 1 dX3_misfitTo_16 rfl ?_
  refine z_getf C 1 zin_X3 (hLn.1.1) (hLn.1.2) rfl (Nat.le_of_ble_eq_true rfl) zl_4_13 rfl rfl dX3_misfitTo_17 ?_
  refine z_cV (As := [.int (iI (μ 13 l))]) C zc_X3_cellAt (c_lcellAt hX hLm (μ 13 l) hB2 (by omega)) zl_2_95 (Nat.le_of_ble_eq_true rfl) (Nat.le_of_ble_eq_true rfl) (Nat.le_of_ble_eq_true rfl) (hLm.1.1) (hLm.1.2) rfl rfl rfl rfl (Nat.le_of_ble_eq_true rfl) dX3_misfitTo_20 (fun z11 L12 f13 hz14 => ?_)
  obtain ⟨hz14, rfl, rfl⟩ := hz14
  subst hz14
  have hr10 := zspAt hB2 (μ 13 l)
  change ZW G pZ la eZ (zRm 2 0 0) sZ mZ aZ bZ hZ cZ AZ 4 0 0 _ L f 23 [(2, .int (iI zr6)), (0, .ref w), (1, .ref v)] [.int (iI (spAt μ m (μ 13 l))), .ref v]
  refine z_iconst C dX3_misfitTo_23 ?_
  refine z_cV (As := [.int (iI (spAt μ m (μ 13 l))), .int (iI 0)]) C zc_X3_reducedAt (c_reducedAt hX hLm (spAt μ m (μ 13 l)) 0 hB2 (by omega) (by omega)) zl_1_195 (Nat.le_of_ble_eq_true rfl) (Nat.le_of_ble_eq_true rfl) (Nat.le_of_ble_eq_true rfl) (hLm.1.1) (hLm.1.2) rfl rfl rfl rfl (Nat.le_of_ble_eq_true rfl) dX3_misfitTo_24 (fun zr15 L17 f18 hz16 => ?_)
  obtain ⟨hz16, rfl, rfl⟩ := hz16
  have hz16c := cN_cs (zls_cr hrd2 (spAt μ m (μ 13 l)) 0)
  have hz16d : (zls rd2 (spAt μ m (μ 13 l)) 0 = zNO ∧ zr15 = -1000000) ∨ (-108 ≤ zls rd2 (spAt μ m (μ 13 l)) 0 ∧ zls rd2 (spAt μ m (μ 13 l)) 0 ≤ 208 ∧ zls rd2 (spAt μ m (μ 13 l)) 0 ≠ zNO ∧ zr15 = zls rd2 (spAt μ m (μ 13 l)) 0) := by rw [hz16]; exact hz16c
  change ZW G pZ la eZ (zRm 2 0 0) sZ mZ aZ bZ hZ cZ AZ 4 0 0 _ L f 27 [(2, .int (iI zr6)), (0, .ref w), (1, .ref v)] [.int (iI zr15)]
  refine z_istore_n (ls' := [(3, .int (iI zr15)), (2, .int (iI zr6)), (0, .ref w), (1, .ref v)]) C dX3_misfitTo_27 (Nat.le_of_ble_eq_true rfl) rfl ?_
  refine z_iload_n C 1 dX3_misfitTo_28 rfl ?_
  refine z_ldc (n := (-1000000)) C zl_1_194 rfl dX3_misfitTo_29 ?_
  refine z_icmp_eq C 40 dX3_misfitTo_31 (by decide) (by omega) (by omega) (fun h31 => ?_) (fun h31 => ?_)
  · refine z_ldc (n := (-1000000)) C zl_1_194 rfl dX3_misfitTo_40 ?_
    refine z_goto C 48 dX3_misfitTo_42 (by decide) ?_
    exact z_ireturn C dX3_misfitTo_48 (Nat.le_of_ble_eq_true rfl) (Nat.le_of_ble_eq_true rfl) ⟨by first | (rw [if_pos (by omega)]; omega) | (rw [if_neg (by omega)]; done), rfl, rfl⟩
  · refine z_iload_n C 0 dX3_misfitTo_34 rfl ?_
    refine z_ldc (n := (-1000000)) C zl_1_194 rfl dX3_misfitTo_35 ?_
    refine z_icmp_ne C 45 dX3_misfitTo_37 (by decide) (by omega) (by omega) (fun h37 => ?_) (fun h37 => ?_)
    · refine z_iload_n C 1 dX3_misfitTo_45 rfl ?_
      refine z_iload_n C 0 dX3_misfitTo_46 rfl ?_
      refine z_isub C dX3_misfitTo_47 ?_
      exact z_ireturn C dX3_misfitTo_48 (Nat.le_of_ble_eq_true rfl) (Nat.le_of_ble_eq_true rfl) ⟨by first | (rw [if_pos (by omega)]; omega) | (rw [if_neg (by omega)]; done), rfl, rfl⟩
    · refine z_ldc (n := (-1000000)) C zl_1_194 rfl dX3_misfitTo_40 ?_
      refine z_goto C 48 dX3_misfitTo_42 (by decide) ?_
      exact z_ireturn C dX3_misfitTo_48 (Nat.le_of_ble_eq_true rfl) (Nat.le_of_ble_eq_true rfl) ⟨by first | (rw [if_pos (by omega)]; omega) | (rw [if_neg (by omega)]; done), rfl, rfl⟩
