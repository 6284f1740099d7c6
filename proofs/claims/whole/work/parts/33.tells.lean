set_option maxRecDepth 100000 in
set_option maxHeartbeats 200000 in
theorem c_tellsIn {la : Launch} {G : zG} {X : (Nat → Prop) → State → Prop} (hX : zX X) {L : List Nat} {f : Nat → va_E} {w r a : Nat} {k : Int} {σ : Int → Int} (hG : zGau G L f w k r a σ) {v : Nat} {xr xa : Nat → Nat} {κ : zMu} (hS : zSea G L f v xr xa κ) (d h : Int) (hK : zSK κ) (h01 : ∀ i, 0 ≤ i → i < 240 → 0 ≤ σ i ∧ σ i ≤ 1) (hd : 0 ≤ d ∧ d ≤ 9) (hh : 0 ≤ h ∧ h ≤ 23) (hk : 0 ≤ k ∧ k ≤ 19) : zM la G X yX1_tellsIn (.code yX1_tellsIn cX1_tellsIn 8 (some .int) :: zT) 3 0 0 [.ref w, .ref v, .int (iI d), .int (iI h)] L f zeI (zRd L f (fun z => z = cN (zTl σ (24 * d) (fun h => zWt κ k d h) h))) := by
  refine zM_intro hX (by decide) (Nat.le_of_ble_eq_true rfl) (fun pZ eZ sZ mZ aZ bZ hZ cZ AZ C hini => ?_)
  change ZW G pZ la eZ (zRm 3 0 0) sZ mZ aZ bZ hZ cZ AZ 8 0 0 _ L f 0 [(0, .ref w), (1, .ref v), (2, .int (iI d)), (3, .int (iI h))] []
  refine z_aload_n C 0 dX1_tellsIn_0 rfl ?_
  refine z_getf C 1 zin_X1 (hG.1.1) (hG.1.2) rfl (Nat.le_of_ble_eq_true rfl) zl_3_144 rfl rfl dX1_tellsIn_1 ?_
  refine z_iload_n C 2 dX1_tellsIn_4 rfl ?_
  refine z_iload_n C 3 dX1_tellsIn_5 rfl ?_
  refine z_cSN (As := [.int (iI d), .int (iI h)]) C zc_X6_hourNumber (c_hourNumber hX d h (by omega) (by omega)) zn_24_RX1 (Nat.le_of_ble_eq_true rfl) (Nat.le_of_ble_eq_true rfl) (Nat.le_of_ble_eq_true rfl) rfl rfl (Nat.le_of_ble_eq_true rfl) dX1_tellsIn_6 (fun z2 L3 f4 hz5 => ?_)
  obtain ⟨hz5, rfl, rfl⟩ := hz5
  subst hz5
  have hr1 := zhour_rng d h
  change ZW G pZ la eZ (zRm 3 0 0) sZ mZ aZ bZ hZ cZ AZ 8 0 0 _ L f 9 [(0, .ref w), (1, .ref v), (2, .int (iI d)), (3, .int (iI h))] [.int (iI (zhour d h)), .ref r]
  refine z_cV (As := [.int (iI (zhour d h))]) C zc_X4_read (c_read hX (hG.2) (zhour d h) (by decide) (by omega)) zl_2_43 (Nat.le_of_ble_eq_true rfl) (Nat.le_of_ble_eq_true rfl) (Nat.le_of_ble_eq_true rfl) (hG.2.1.1) (hG.2.1.2) rfl rfl rfl rfl (Nat.le_of_ble_eq_true rfl) dX1_tellsIn_9 (fun z6 L7 f8 hz9 => ?_)
  obtain ⟨hz9, rfl, rfl⟩ := hz9
  subst hz9
  have hv1 : zrd 240 0 σ (zhour d h) = σ (24 * d + h) := by rw [zhour_in (by omega), zrd_in (by omega)]
  have hv2 := h01 (24 * d + h) (by omega) (by omega)
  change ZW G pZ la eZ (zRm 3 0 0) sZ mZ aZ bZ hZ cZ AZ 8 0 0 _ L f 12 [(0, .ref w), (1, .ref v), (2, .int (iI d)), (3, .int (iI h))] [.int (iI (zrd 240 0 σ (zhour d h)))]
  refine z_if_ne C 26 dX1_tellsIn_12 (by decide) (by omega) (fun h12 => ?_) (fun h12 => ?_)
  · refine z_aload_n C 0 dX1_tellsIn_26 rfl ?_
    refine z_iload_n C 2 dX1_tellsIn_27 rfl ?_
    refine z_iload_n C 3 dX1_tellsIn_28 rfl ?_
    refine z_cV (As := [.int (iI d), .int (iI h)]) C zc_X1_workedBefore (c_workedBefore hX hG d h h01 (by omega) (by omega)) zl_2_52 (Nat.le_of_ble_eq_true rfl) (Nat.le_of_ble_eq_true rfl) (Nat.le_of_ble_eq_true rfl) (hG.1.1) (hG.1.2) rfl rfl rfl rfl (Nat.le_of_ble_eq_true rfl) dX1_tellsIn_29 (fun z10 L11 f12 hz13 => ?_)
    obtain ⟨hz13, rfl, rfl⟩ := hz13
    subst hz13
    have hrb := spBef_rng σ (24 * d) h.toNat
    change ZW G pZ la eZ (zRm 3 0 0) sZ mZ aZ bZ hZ cZ AZ 8 0 0 _ L f 32 [(0, .ref w), (1, .ref v), (2, .int (iI d)), (3, .int (iI h))] [.int (iI (spBef σ (24 * d) (h).toNat))]
    refine z_nm (fun b hb => ?_)
    refine z_istore (ls' := [(4, .int (iI b)), (0, .ref w), (1, .ref v), (2, .int (iI d)), (3, .int (iI h))]) C dX1_tellsIn_32 (Nat.le_of_ble_eq_true rfl) rfl ?_
    refine z_aload_n C 1 dX1_tellsIn_34 rfl ?_
    refine z_iload_n C 3 dX1_tellsIn_35 rfl ?_
    refine z_iload_n C 4 dX1_tellsIn_36 rfl ?_
    refine z_cV (As := [.int (iI d), .int (iI h)]) C zc_X1_workedBehind (c_workedBehind hX hG d h h01 (by omega) (by omega)) zl_2_57 (Nat.le_of_ble_eq_true rfl) (Nat.le_of_ble_eq_true rfl) (Nat.le_of_ble_eq_true rfl) (hG.1.1) (hG.1.2) rfl rfl rfl rfl (Nat.le_of_ble_eq_true rfl) dX1_tellsIn_37 (fun e L14 f15 he => ?_)
    obtain ⟨he, rfl, rfl⟩ := he
    have hre := spBeh_rng σ (24 * d) (24 - (h + 1)).toNat
    have he : e = if spBeh σ (24 * d) (24 - (h + 1)).toNat = 24 then -1 else spBeh σ (24 * d) (24 - (h + 1)).toNat := he
    have he2 : (spBeh σ (24 * d) (24 - (h + 1)).toNat = 24 ∧ e = -1) ∨ (spBeh σ (24 * d) (24 - (h + 1)).toNat ≠ 24 ∧ e = spBeh σ (24 * d) (24 - (h + 1)).toNat) := by rw [he]; split <;> omega
    change ZW G pZ la eZ (zRm 3 0 0) sZ mZ aZ bZ hZ cZ AZ 8 0 0 _ L f 40 [(4, .int (iI b)), (0, .ref w), (1, .ref v), (2, .int (iI d)), (3, .int (iI h))] [.int (iI e)]
    refine z_istore (ls' := [(5, .int (iI e)), (4, .int (iI b)), (0, .ref w), (1, .ref v), (2, .int (iI d)), (3, .int (iI h))]) C dX1_tellsIn_40 (Nat.le_of_ble_eq_true rfl) rfl ?_
    refine z_iload C 1 dX1_tellsIn_42 rfl ?_
    refine z_if_lt C 62 dX1_tellsIn_44 (by decide) (by omega) (fun h44 => ?_) (fun h44 => ?_)
    · refine z_ldc (n := (-1000000)) C zl_2_61 rfl dX1_tellsIn_62 ?_
      exact z_ireturn C dX1_tellsIn_64 (Nat.le_of_ble_eq_true rfl) (Nat.le_of_ble_eq_true rfl) ⟨by rw [zTl_1 _ hh (by omega) hb rfl, if_pos (by omega)]; rfl, rfl, rfl⟩
    · refine z_iload C 0 dX1_tellsIn_47 rfl ?_
      refine z_if_lt C 62 dX1_tellsIn_49 (by decide) (by omega) (fun h49 => ?_) (fun h49 => ?_)
      · refine z_ldc (n := (-1000000)) C zl_2_61 rfl dX1_tellsIn_62 ?_
        exact z_ireturn C dX1_tellsIn_64 (Nat.le_of_ble_eq_true rfl) (Nat.le_of_ble_eq_true rfl) ⟨by rw [zTl_1 _ hh (by omega) hb rfl, if_pos (by omega)]; rfl, rfl, rfl⟩
      · refine z_iload C 0 dX1_tellsIn_52 rfl ?_
        refine z_iload C 1 dX1_tellsIn_54 rfl ?_
        refine z_isub C dX1_tellsIn_56 ?_
        refine z_bipush C dX1_tellsIn_57 (by decide) ?_
        refine z_icmp_le C 65 dX1_tellsIn_59 (by decide) (by omega) (by omega) (fun h59 => ?_) (fun h59 => ?_)
        · refine z_aload_n C 3 dX1_tellsIn_65 rfl ?_
          refine z_aload_n C 2 dX1_tellsIn_66 rfl ?_
          refine z_getf C 0 zin_X1 (hG.1.1) (hG.1.2) rfl (Nat.le_of_ble_eq_true rfl) zl_3_143 rfl rfl dX1_tellsIn_67 ?_
          refine z_iload_n C 4 dX1_tellsIn_70 rfl ?_
          refine z_iload C 1 dX1_tellsIn_71 rfl ?_
          refine z_cV (As := [.int (iI k), .int (iI d), .int (iI b)]) C zc_X5_waterIn (c_waterIn hX hS k d b hK (by omega) (by omega) (by omega)) zl_2_44 (Nat.le_of_ble_eq_true rfl) (Nat.le_of_ble_eq_true rfl) (Nat.le_of_ble_eq_true rfl) (hS.1.1) (hS.1.2) rfl rfl rfl rfl (Nat.le_of_ble_eq_true rfl) dX1_tellsIn_73 (fun z17 L18 f19 hz20 => ?_)
          obtain ⟨hz20, rfl, rfl⟩ := hz20
          subst hz20
          have hr16 := zWt_rng hK (k := k) (d := d) (h := b) (by omega) (by omega) (by omega)
          change ZW G pZ la eZ (zRm 3 0 0) sZ mZ aZ bZ hZ cZ AZ 8 0 0 _ L f 76 [(5, .int (iI e)), (4, .int (iI b)), (0, .ref w), (1, .ref v), (2, .int (iI d)), (3, .int (iI h))] [.int (iI (zWt κ k d b))]
          refine z_nm (fun wa hwa => ?_)
          refine z_istore (ls' := [(6, .int (iI wa)), (5, .int (iI e)), (4, .int (iI b)), (0, .ref w), (1, .ref v), (2, .int (iI d)), (3, .int (iI h))]) C dX1_tellsIn_76 (Nat.le_of_ble_eq_true rfl) rfl ?_
          refine z_aload_n C 4 dX1_tellsIn_78 rfl ?_
          refine z_aload_n C 3 dX1_tellsIn_79 rfl ?_
          refine z_getf C 0 zin_X1 (hG.1.1) (hG.1.2) rfl (Nat.le_of_ble_eq_true rfl) zl_3_143 rfl rfl dX1_tellsIn_80 ?_
          refine z_iload_n C 5 dX1_tellsIn_83 rfl ?_
          refine z_iload C 1 dX1_tellsIn_84 rfl ?_
          refine z_cV (As := [.int (iI k), .int (iI d), .int (iI e)]) C zc_X5_waterIn (c_waterIn hX hS k d e hK (by omega) (by omega) (by omega)) zl_2_44 (Nat.le_of_ble_eq_true rfl) (Nat.le_of_ble_eq_true rfl) (Nat.le_of_ble_eq_true rfl) (hS.1.1) (hS.1.2) rfl rfl rfl rfl (Nat.le_of_ble_eq_true rfl) dX1_tellsIn_86 (fun z22 L23 f24 hz25 => ?_)
          obtain ⟨hz25, rfl, rfl⟩ := hz25
          subst hz25
          have hr21 := zWt_rng hK (k := k) (d := d) (h := e) (by omega) (by omega) (by omega)
          change ZW G pZ la eZ (zRm 3 0 0) sZ mZ aZ bZ hZ cZ AZ 8 0 0 _ L f 89 [(6, .int (iI wa)), (5, .int (iI e)), (4, .int (iI b)), (0, .ref w), (1, .ref v), (2, .int (iI d)), (3, .int (iI h))] [.int (iI (zWt κ k d e))]
          refine z_nm (fun wb hwb => ?_)
          refine z_istore (ls' := [(7, .int (iI wb)), (6, .int (iI wa)), (5, .int (iI e)), (4, .int (iI b)), (0, .ref w), (1, .ref v), (2, .int (iI d)), (3, .int (iI h))]) C dX1_tellsIn_89 (Nat.le_of_ble_eq_true rfl) rfl ?_
          have hq := zprod (y := wb) (x := wa) (k := h - b) (by omega) (by omega)
          refine z_iload C 1 dX1_tellsIn_91 rfl ?_
          refine z_iload C 0 dX1_tellsIn_93 rfl ?_
          refine z_iload_n C 7 dX1_tellsIn_95 rfl ?_
          refine z_iload C 3 dX1_tellsIn_96 rfl ?_
          refine z_isub C dX1_tellsIn_98 ?_
          refine z_iload C 2 dX1_tellsIn_99 rfl ?_
          refine z_iload C 3 dX1_tellsIn_101 rfl ?_
          refine z_isub C dX1_tellsIn_103 ?_
          refine z_cSN (As := [.int (iI wa), .int (iI wb), .int (iI (h - b)), .int (iI (e - b))]) C zc_X6_between (c_between hX wa wb (h - b) (e - b) (by omega) (by omega) (by omega) (by have q := zprod (y := wb) (x := wa) (k := h - b) (by omega) (by omega); omega) (by omega)) zn_48_RX1 (Nat.le_of_ble_eq_true rfl) (Nat.le_of_ble_eq_true rfl) (Nat.le_of_ble_eq_true rfl) rfl rfl (Nat.le_of_ble_eq_true rfl) dX1_tellsIn_104 (fun z26 L27 f28 hz29 => ?_)
          obtain ⟨hz29, rfl, rfl⟩ := hz29
          subst hz29
          change ZW G pZ la eZ (zRm 3 0 0) sZ mZ aZ bZ hZ cZ AZ 8 0 0 _ L f 107 [(7, .int (iI wb)), (6, .int (iI wa)), (5, .int (iI e)), (4, .int (iI b)), (0, .ref w), (1, .ref v), (2, .int (iI d)), (3, .int (iI h))] [.int (iI (wa + ((wb - wa) * (h - b)) / (e - b)))]
          exact z_ireturn C dX1_tellsIn_107 (Nat.le_of_ble_eq_true rfl) (Nat.le_of_ble_eq_true rfl) ⟨by rw [zTl_1 _ hh (by omega) hb (show e = _ by omega), if_neg (by omega), ← hwa, ← hwb, cN_in (zbtw (by omega) (by omega) (by omega) (by omega))], rfl, rfl⟩
        · refine z_ldc (n := (-1000000)) C zl_2_61 rfl dX1_tellsIn_62 ?_
          exact z_ireturn C dX1_tellsIn_64 (Nat.le_of_ble_eq_true rfl) (Nat.le_of_ble_eq_true rfl) ⟨by rw [zTl_1 _ hh (by omega) hb rfl, if_pos (by omega)]; rfl, rfl, rfl⟩
  · refine z_aload_n C 1 dX1_tellsIn_15 rfl ?_
    refine z_aload_n C 0 dX1_tellsIn_16 rfl ?_
    refine z_getf C 0 zin_X1 (hG.1.1) (hG.1.2) rfl (Nat.le_of_ble_eq_true rfl) zl_3_143 rfl rfl dX1_tellsIn_17 ?_
    refine z_iload_n C 2 dX1_tellsIn_20 rfl ?_
    refine z_iload_n C 3 dX1_tellsIn_21 rfl ?_
    refine z_cV (As := [.int (iI k), .int (iI d), .int (iI h)]) C zc_X5_waterIn (c_waterIn hX hS k d h hK (by omega) (by omega) (by omega)) zl_2_44 (Nat.le_of_ble_eq_true rfl) (Nat.le_of_ble_eq_true rfl) (Nat.le_of_ble_eq_true rfl) (hS.1.1) (hS.1.2) rfl rfl rfl rfl (Nat.le_of_ble_eq_true rfl) dX1_tellsIn_22 (fun z31 L32 f33 hz34 => ?_)
    obtain ⟨hz34, rfl, rfl⟩ := hz34
    subst hz34
    have hr30 := zWt_rng hK (k := k) (d := d) (h := h) (by omega) (by omega) (by omega)
    change ZW G pZ la eZ (zRm 3 0 0) sZ mZ aZ bZ hZ cZ AZ 8 0 0 _ L f 25 [(0, .ref w), (1, .ref v), (2, .int (iI d)), (3, .int (iI h))] [.int (iI (zWt κ k d h))]
    exact z_ireturn C dX1_tellsIn_25 (Nat.le_of_ble_eq_true rfl) (Nat.le_of_ble_eq_true rfl) ⟨by rw [zTl_0 _ hh (by omega), cN_in (by omega)], rfl, rfl⟩
