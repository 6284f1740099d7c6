set_option maxRecDepth 100000 in
set_option maxHeartbeats 200000 in
theorem c_place {la : Launch} {G : zG} {X : (Nat → Prop) → State → Prop} (hX : zX X) {L : List Nat} {f : Nat → va_E} {w r a : Nat} {k : Int} {σ : Int → Int} (hG : zGau G L f w k r a σ)   : zM la G X yX1_place (.code yX1_place cX1_place 1 (some .int) :: zT) 0 0 0 [.ref w] L f zeI (zRd L f (fun z => z = k)) := by
  refine zM_intro hX (by decide) (Nat.le_of_ble_eq_true rfl) (fun pZ eZ sZ mZ aZ bZ hZ cZ AZ C hini => ?_)
  change ZW G pZ la eZ (zRm 0 0 0) sZ mZ aZ bZ hZ cZ AZ 1 0 0 _ L f 0 [(0, .ref w)] []
  refine z_aload_n C 0 dX1_place_0 rfl ?_
  refine z_getf C 0 zin_X1 (hG.1.1) (hG.1.2) rfl (Nat.le_of_ble_eq_true rfl) zl_3_143 rfl rfl dX1_place_1 ?_
  exact z_ireturn C dX1_place_4 (Nat.le_of_ble_eq_true rfl) (Nat.le_of_ble_eq_true rfl) ⟨rfl, rfl, rfl⟩

set_option maxRecDepth 100000 in
set_option maxHeartbeats 200000 in
theorem c_failedHours {la : Launch} {G : zG} {X : (Nat → Prop) → State → Prop} (hX : zX X) {L : List Nat} {f : Nat → va_E} {w r a : Nat} {k : Int} {σ : Int → Int} (hG : zGau G L f w k r a σ) (d : Int) (h01 : ∀ i, 0 ≤ i → i < 240 → 0 ≤ σ i ∧ σ i ≤ 1) (hd : 0 ≤ d ∧ d ≤ 9) : zM la G X yX1_failedHours (.code yX1_failedHours cX1_failedHours 4 (some .int) :: zT) 2 0 0 [.ref w, .int (iI d)] L f zeI (zRd L f (fun z => z = zcnt σ (24 * d) 24)) := by
  refine zM_intro hX (by decide) (Nat.le_of_ble_eq_true rfl) (fun pZ eZ sZ mZ aZ bZ hZ cZ AZ C hini => ?_)
  change ZW G pZ la eZ (zRm 2 0 0) sZ mZ aZ bZ hZ cZ AZ 4 0 0 _ L f 0 [(0, .ref w), (1, .int (iI d))] []
  refine z_iconst C dX1_failedHours_0 ?_
  refine z_istore_n (ls' := [(2, .int (iI 0)), (0, .ref w), (1, .int (iI d))]) C dX1_failedHours_1 (Nat.le_of_ble_eq_true rfl) rfl ?_
  refine z_iconst C dX1_failedHours_2 ?_
  refine z_istore_n (ls' := [(3, .int (iI 0)), (2, .int (iI 0)), (0, .ref w), (1, .int (iI d))]) C dX1_failedHours_3 (Nat.le_of_ble_eq_true rfl) rfl ?_
  have key4 : ∀ (n4 : Nat) (m : Int) (h : Int) , (0 ≤ h ∧ h ≤ 24 ∧ m = zcnt σ (24 * d) h.toNat) → 24 - h < (n4 : Int) → ZW G pZ la eZ (zRm 2 0 0) sZ mZ aZ bZ hZ cZ AZ 4 0 0 (MQ bZ (zQ G zeI (zRd L f (fun z => z = zcnt σ (24 * d) 24)) AZ) aZ sZ 0 0 AZ) L f 4 [(0, .ref w), (1, .int (iI d)), (2, .int (iI m)), (3, .int (iI h))] [] := by
    intro n4
    induction n4 with
    | zero => intro m h  hi4 hn4; exfalso; omega
    | succ n4 ih4 =>
      intro m h  hi4 hn4
      obtain ⟨hh0, hh1, hm⟩ := hi4
      refine z_iload_n C 3 dX1_failedHours_4 rfl ?_
      refine z_bipush C dX1_failedHours_5 (by decide) ?_
      refine z_icmp_ge C 31 dX1_failedHours_7 (by decide) (by omega) (by omega) (fun h7 => ?_) (fun h7 => ?_)
      · refine z_iload_n C 2 dX1_failedHours_31 rfl ?_
        exact z_ireturn C dX1_failedHours_32 (Nat.le_of_ble_eq_true rfl) (Nat.le_of_ble_eq_true rfl) ⟨by rw [hm, show h = 24 by omega]; rfl, rfl, rfl⟩
      · have rg := zcnt_rng σ (24 * d) h.toNat
        refine z_iload_n C 2 dX1_failedHours_10 rfl ?_
        refine z_aload_n C 0 dX1_failedHours_11 rfl ?_
        refine z_getf C 1 zin_X1 (hG.1.1) (hG.1.2) rfl (Nat.le_of_ble_eq_true rfl) zl_3_144 rfl rfl dX1_failedHours_12 ?_
        refine z_iload_n C 1 dX1_failedHours_15 rfl ?_
        refine z_iload_n C 3 dX1_failedHours_16 rfl ?_
        refine z_cSN (As := [.int (iI d), .int (iI h)]) C zc_X6_hourNumber (c_hourNumber hX d h (by omega) (by omega)) zn_24_RX1 (Nat.le_of_ble_eq_true rfl) (Nat.le_of_ble_eq_true rfl) (Nat.le_of_ble_eq_true rfl) rfl rfl (Nat.le_of_ble_eq_true rfl) dX1_failedHours_17 (fun z2 L3 f4 hz5 => ?_)
        obtain ⟨hz5, rfl, rfl⟩ := hz5
        subst hz5
        have hr1 := zhour_rng d h
        change ZW G pZ la eZ (zRm 2 0 0) sZ mZ aZ bZ hZ cZ AZ 4 0 0 _ L f 20 [(0, .ref w), (1, .int (iI d)), (2, .int (iI m)), (3, .int (iI h))] [.int (iI (zhour d h)), .ref r, .int (iI m)]
        refine z_cV (As := [.int (iI (zhour d h))]) C zc_X4_read (c_read hX (hG.2) (zhour d h) (by decide) (by omega)) zl_2_43 (Nat.le_of_ble_eq_true rfl) (Nat.le_of_ble_eq_true rfl) (Nat.le_of_ble_eq_true rfl) (hG.2.1.1) (hG.2.1.2) rfl rfl rfl rfl (Nat.le_of_ble_eq_true rfl) dX1_failedHours_20 (fun z6 L7 f8 hz9 => ?_)
        obtain ⟨hz9, rfl, rfl⟩ := hz9
        subst hz9
        have hv1 : zrd 240 0 σ (zhour d h) = σ (24 * d + h) := by rw [zhour_in (by omega), zrd_in (by omega)]
        have hv2 := h01 (24 * d + h) (by omega) (by omega)
        change ZW G pZ la eZ (zRm 2 0 0) sZ mZ aZ bZ hZ cZ AZ 4 0 0 _ L f 23 [(0, .ref w), (1, .int (iI d)), (2, .int (iI m)), (3, .int (iI h))] [.int (iI (zrd 240 0 σ (zhour d h))), .int (iI m)]
        refine z_iadd C dX1_failedHours_23 ?_
        refine z_nm (fun x10 hx10 => ?_)
        refine z_istore_n (ls' := [(2, .int (iI x10)), (0, .ref w), (1, .int (iI d)), (3, .int (iI h))]) C dX1_failedHours_24 (Nat.le_of_ble_eq_true rfl) rfl ?_
        refine z_iinc (ls' := [(3, .int (iI (h + 1))), (2, .int (iI x10)), (0, .ref w), (1, .int (iI d))]) C 3 dX1_failedHours_25 rfl (Nat.le_of_ble_eq_true rfl) rfl ?_
        refine z_goto C 4 dX1_failedHours_28 (by decide) ?_
        refine z_perm [2, 3, 1, 0] rfl ?_
        exact ih4 _ _  ⟨by omega, by omega, by rw [zcnt_s _ _ hh0, ← hm]; split <;> omega⟩ (by omega)
  refine z_perm [2, 3, 1, 0] rfl ?_
  exact key4 2000 _ _  ⟨by omega, by omega, rfl⟩ (by omega)

set_option maxRecDepth 100000 in
set_option maxHeartbeats 200000 in
theorem c_workedBefore {la : Launch} {G : zG} {X : (Nat → Prop) → State → Prop} (hX : zX X) {L : List Nat} {f : Nat → va_E} {w r a : Nat} {k : Int} {σ : Int → Int} (hG : zGau G L f w k r a σ) (d h : Int) (h01 : ∀ i, 0 ≤ i → i < 240 → 0 ≤ σ i ∧ σ i ≤ 1) (hd : 0 ≤ d ∧ d ≤ 9) (hh : 0 ≤ h ∧ h ≤ 23) : zM la G X yX1_workedBefore (.code yX1_workedBefore cX1_workedBefore 4 (some .int) :: zT) 2 0 0 [.ref w, .int (iI d), .int (iI h)] L f zeI (zRd L f (fun z => z = spBef σ (24 * d) h.toNat)) := by
  refine zM_intro hX (by decide) (Nat.le_of_ble_eq_true rfl) (fun pZ eZ sZ mZ aZ bZ hZ cZ AZ C hini => ?_)
  change ZW G pZ la eZ (zRm 2 0 0) sZ mZ aZ bZ hZ cZ AZ 4 0 0 _ L f 0 [(0, .ref w), (1, .int (iI d)), (2, .int (iI h))] []
  refine z_iload_n C 2 dX1_workedBefore_0 rfl ?_
  refine z_iconst C dX1_workedBefore_1 ?_
  refine z_isub C dX1_workedBefore_2 ?_
  refine z_istore_n (ls' := [(3, .int (iI (h - 1))), (0, .ref w), (1, .int (iI d)), (2, .int (iI h))]) C dX1_workedBefore_3 (Nat.le_of_ble_eq_true rfl) rfl ?_
  have key4 : ∀ (n4 : Nat) (b : Int) , (-1 ≤ b ∧ b < h ∧ spBef σ (24 * d) (b + 1).toNat = spBef σ (24 * d) h.toNat) → b + 1 < (n4 : Int) → ZW G pZ la eZ (zRm 2 0 0) sZ mZ aZ bZ hZ cZ AZ 4 0 0 (MQ bZ (zQ G zeI (zRd L f (fun z => z = spBef σ (24 * d) h.toNat)) AZ) aZ sZ 0 0 AZ) L f 4 [(0, .ref w), (1, .int (iI d)), (2, .int (iI h)), (3, .int (iI b))] [] := by
    intro n4
    induction n4 with
    | zero => intro b  hi4 hn4; exfalso; omega
    | succ n4 ih4 =>
      intro b  hi4 hn4
      obtain ⟨hb0, hb1, hbe⟩ := hi4
      refine z_iload_n C 3 dX1_workedBefore_4 rfl ?_
      refine z_if_lt C 31 dX1_workedBefore_5 (by decide) (by omega) (fun h5 => ?_) (fun h5 => ?_)
      · refine z_iconst C dX1_workedBefore_31 ?_
        exact z_ireturn C dX1_workedBefore_32 (Nat.le_of_ble_eq_true rfl) (Nat.le_of_ble_eq_true rfl) ⟨by rw [← hbe, show (b + 1).toNat = 0 by omega]; rfl, rfl, rfl⟩
      · refine z_aload_n C 0 dX1_workedBefore_8 rfl ?_
        refine z_getf C 1 zin_X1 (hG.1.1) (hG.1.2) rfl (Nat.le_of_ble_eq_true rfl) zl_3_144 rfl rfl dX1_workedBefore_9 ?_
        refine z_iload_n C 1 dX1_workedBefore_12 rfl ?_
        refine z_iload_n C 3 dX1_workedBefore_13 rfl ?_
        refine z_cSN (As := [.int (iI d), .int (iI b)]) C zc_X6_hourNumber (c_hourNumber hX d b (by omega) (by omega)) zn_24_RX1 (Nat.le_of_ble_eq_true rfl) (Nat.le_of_ble_eq_true rfl) (Nat.le_of_ble_eq_true rfl) rfl rfl (Nat.le_of_ble_eq_true rfl) dX1_workedBefore_14 (fun z2 L3 f4 hz5 => ?_)
        obtain ⟨hz5, rfl, rfl⟩ := hz5
        subst hz5
        have hr1 := zhour_rng d b
        change ZW G pZ la eZ (zRm 2 0 0) sZ mZ aZ bZ hZ cZ AZ 4 0 0 _ L f 17 [(0, .ref w), (1, .int (iI d)), (2, .int (iI h)), (3, .int (iI b))] [.int (iI (zhour d b)), .ref r]
        refine z_cV (As := [.int (iI (zhour d b))]) C zc_X4_read (c_read hX (hG.2) (zhour d b) (by decide) (by omega)) zl_2_43 (Nat.le_of_ble_eq_true rfl) (Nat.le_of_ble_eq_true rfl) (Nat.le_of_ble_eq_true rfl) (hG.2.1.1) (hG.2.1.2) rfl rfl rfl rfl (Nat.le_of_ble_eq_true rfl) dX1_workedBefore_17 (fun z6 L7 f8 hz9 => ?_)
        obtain ⟨hz9, rfl, rfl⟩ := hz9
        subst hz9
        have hv1 : zrd 240 0 σ (zhour d b) = σ (24 * d + b) := by rw [zhour_in (by omega), zrd_in (by omega)]
        have hv2 := h01 (24 * d + b) (by omega) (by omega)
        change ZW G pZ la eZ (zRm 2 0 0) sZ mZ aZ bZ hZ cZ AZ 4 0 0 _ L f 20 [(0, .ref w), (1, .int (iI d)), (2, .int (iI h)), (3, .int (iI b))] [.int (iI (zrd 240 0 σ (zhour d b)))]
        refine z_if_ne C 25 dX1_workedBefore_20 (by decide) (by omega) (fun h20 => ?_) (fun h20 => ?_)
        · refine z_iinc (ls' := [(3, .int (iI (b + (-1)))), (0, .ref w), (1, .int (iI d)), (2, .int (iI h))]) C 3 dX1_workedBefore_25 rfl (Nat.le_of_ble_eq_true rfl) rfl ?_
          refine z_goto C 4 dX1_workedBefore_28 (by decide) ?_
          refine z_perm [1, 2, 3, 0] rfl ?_
          exact ih4 _  ⟨by omega, by omega, by rw [spBef_s _ _ (by omega), if_pos (by omega)] at hbe; rw [show (b + (-1) + 1).toNat = b.toNat by omega]; exact hbe⟩ (by omega)
        · refine z_iload_n C 3 dX1_workedBefore_23 rfl ?_
          exact z_ireturn C dX1_workedBefore_24 (Nat.le_of_ble_eq_true rfl) (Nat.le_of_ble_eq_true rfl) ⟨by rw [← hbe, spBef_s _ _ (by omega), if_neg (by omega)], rfl, rfl⟩
  refine z_perm [1, 2, 3, 0] rfl ?_
  exact key4 2000 _  ⟨by omega, by omega, by rw [show h - 1 + 1 = h by omega]⟩ (by omega)

set_option maxRecDepth 100000 in
set_option maxHeartbeats 200000 in
theorem c_workedBehind {la : Launch} {G : zG} {X : (Nat → Prop) → State → Prop} (hX : zX X) {L : List Nat} {f : Nat → va_E} {w r a : Nat} {k : Int} {σ : Int → Int} (hG : zGau G L f w k r a σ) (d h : Int) (h01 : ∀ i, 0 ≤ i → i < 240 → 0 ≤ σ i ∧ σ i ≤ 1) (hd : 0 ≤ d ∧ d ≤ 9) (hh : 0 ≤ h ∧ h ≤ 23) : zM la G X yX1_workedBehind (.code yX1_workedBehind cX1_workedBehind 4 (some .int) :: zT) 2 0 0 [.ref w, .int (iI d), .int (iI h)] L f zeI (zRd L f (fun z => z = if spBeh σ (24 * d) (24 - (h + 1)).toNat = 24 then -1 else spBeh σ (24 * d) (24 - (h + 1)).toNat)) := by
  refine zM_intro hX (by decide) (Nat.le_of_ble_eq_true rfl) (fun pZ eZ sZ mZ aZ bZ hZ cZ AZ C hini => ?_)
  change ZW G pZ la eZ (zRm 2 0 0) sZ mZ aZ bZ hZ cZ AZ 4 0 0 _ L f 0 [(0, .ref w), (1, .int (iI d)), (2, .int (iI h))] []
  refine z_iload_n C 2 dX1_workedBehind_0 rfl ?_
  refine z_iconst C dX1_workedBehind_1 ?_
  refine z_iadd C dX1_workedBehind_2 ?_
  refine z_istore_n (ls' := [(3, .int (iI (h + 1))), (0, .ref w), (1, .int (iI d)), (2, .int (iI h))]) C dX1_workedBehind_3 (Nat.le_of_ble_eq_true rfl) rfl ?_
  have key4 : ∀ (n4 : Nat) (e : Int) , (h < e ∧ e ≤ 24 ∧ spBeh σ (24 * d) (24 - e).toNat = spBeh σ (24 * d) (24 - (h + 1)).toNat) → 24 - e < (n4 : Int) → ZW G pZ la eZ (zRm 2 0 0) sZ mZ aZ bZ hZ cZ AZ 4 0 0 (MQ bZ (zQ G zeI (zRd L f (fun z => z = if spBeh σ (24 * d) (24 - (h + 1)).toNat = 24 then -1 else spBeh σ (24 * d) (24 - (h + 1)).toNat)) AZ) aZ sZ 0 0 AZ) L f 4 [(0, .ref w), (1, .int (iI d)), (2, .int (iI h)), (3, .int (iI e))] [] := by
    intro n4
    induction n4 with
    | zero => intro e  hi4 hn4; exfalso; omega
    | succ n4 ih4 =>
      intro e  hi4 hn4
      obtain ⟨he0, he1, hee⟩ := hi4
      refine z_iload_n C 3 dX1_workedBehind_4 rfl ?_
      refine z_bipush C dX1_workedBehind_5 (by decide) ?_
      refine z_icmp_ge C 33 dX1_workedBehind_7 (by decide) (by omega) (by omega) (fun h7 => ?_) (fun h7 => ?_)
      · refine z_iconst C dX1_workedBehind_33 ?_
        exact z_ireturn C dX1_workedBehind_34 (Nat.le_of_ble_eq_true rfl) (Nat.le_of_ble_eq_true rfl) ⟨by rw [← hee, show (24 - e).toNat = 0 by omega]; rfl, rfl, rfl⟩
      · refine z_aload_n C 0 dX1_workedBehind_10 rfl ?_
        refine z_getf C 1 zin_X1 (hG.1.1) (hG.1.2) rfl (Nat.le_of_ble_eq_true rfl) zl_3_144 rfl rfl dX1_workedBehind_11 ?_
        refine z_iload_n C 1 dX1_workedBehind_14 rfl ?_
        refine z_iload_n C 3 dX1_workedBehind_15 rfl ?_
        refine z_cSN (As := [.int (iI d), .int (iI e)]) C zc_X6_hourNumber (c_hourNumber hX d e (by omega) (by omega)) zn_24_RX1 (Nat.le_of_ble_eq_true rfl) (Nat.le_of_ble_eq_true rfl) (Nat.le_of_ble_eq_true rfl) rfl rfl (Nat.le_of_ble_eq_true rfl) dX1_workedBehind_16 (fun z2 L3 f4 hz5 => ?_)
        obtain ⟨hz5, rfl, rfl⟩ := hz5
        subst hz5
        have hr1 := zhour_rng d e
        change ZW G pZ la eZ (zRm 2 0 0) sZ mZ aZ bZ hZ cZ AZ 4 0 0 _ L f 19 [(0, .ref w), (1, .int (iI d)), (2, .int (iI h)), (3, .int (iI e))] [.int (iI (zhour d e)), .ref r]
        refine z_cV (As := [.int (iI (zhour d e))]) C zc_X4_read (c_read hX (hG.2) (zhour d e) (by decide) (by omega)) zl_2_43 (Nat.le_of_ble_eq_true rfl) (Nat.le_of_ble_eq_true rfl) (Nat.le_of_ble_eq_true rfl) (hG.2.1.1) (hG.2.1.2) rfl rfl rfl rfl (Nat.le_of_ble_eq_true rfl) dX1_workedBehind_19 (fun z6 L7 f8 hz9 => ?_)
        obtain ⟨hz9, rfl, rfl⟩ := hz9
        subst hz9
        have hv1 : zrd 240 0 σ (zhour d e) = σ (24 * d + e) := by rw [zhour_in (by omega), zrd_in (by omega)]
        have hv2 := h01 (24 * d + e) (by omega) (by omega)
        change ZW G pZ la eZ (zRm 2 0 0) sZ mZ aZ bZ hZ cZ AZ 4 0 0 _ L f 22 [(0, .ref w), (1, .int (iI d)), (2, .int (iI h)), (3, .int (iI e))] [.int (iI (zrd 240 0 σ (zhour d e)))]
        refine z_if_ne C 27 dX1_workedBehind_22 (by decide) (by omega) (fun h22 => ?_) (fun h22 => ?_)
        · refine z_iinc (ls' := [(3, .int (iI (e + 1))), (0, .ref w), (1, .int (iI d)), (2, .int (iI h))]) C 3 dX1_workedBehind_27 rfl (Nat.le_of_ble_eq_true rfl) rfl ?_
          refine z_goto C 4 dX1_workedBehind_30 (by decide) ?_
          refine z_perm [1, 2, 3, 0] rfl ?_
          exact ih4 _  ⟨by omega, by omega, by rw [spBeh_s _ _ (by omega), if_pos (by omega)] at hee; exact hee⟩ (by omega)
        · refine z_iload_n C 3 dX1_workedBehind_25 rfl ?_
          exact z_ireturn C dX1_workedBehind_26 (Nat.le_of_ble_eq_true rfl) (Nat.le_of_ble_eq_true rfl) ⟨by rw [← hee, spBeh_s _ _ (by omega), if_neg (by omega), if_neg (by omega)], rfl, rfl⟩
  refine z_perm [1, 2, 3, 0] rfl ?_
  exact key4 2000 _  ⟨by omega, by omega, rfl⟩ (by omega)

set_option maxRecDepth 100000 in
set_option maxHeartbeats 200000 in
theorem c_breakDown {la : Launch} {G : zG} {X : (Nat → Prop) → State → Prop} (hX : zX X) {L : List Nat} {f : Nat → va_E} {w r a : Nat} {k : Int} {σ : Int → Int} (hG : zGau G L f w k r a σ) (d h e : Int) (hd : 0 ≤ d ∧ d ≤ 9) (hh : 0 ≤ h ∧ h ≤ 23) (he : h < e ∧ e ≤ 24) : zM la G X yX1_breakDown (.code yX1_breakDown cX1_breakDown 5 none :: zT) 2 0 0 [.ref w, .int (iI d), .int (iI h), .int (iI e)] L f zeV (fun _ L' f' => L = L' ∧ zA G 0 L f' a 240 (zfill σ (24 * d + h) (24 * d + e) 1) ∧ ∀ c, c ≠ a → f' c = f c) := by
  refine zM_intro hX (by decide) (Nat.le_of_ble_eq_true rfl) (fun pZ eZ sZ mZ aZ bZ hZ cZ AZ C hini => ?_)
  change ZW G pZ la eZ (zRm 2 0 0) sZ mZ aZ bZ hZ cZ AZ 5 0 0 _ L f 0 [(0, .ref w), (1, .int (iI d)), (2, .int (iI h)), (3, .int (iI e))] []
  have hwa : w ≠ a := zGau_ne hG
  refine z_iload_n C 2 dX1_breakDown_0 rfl ?_
  refine z_istore (ls' := [(4, .int (iI h)), (0, .ref w), (1, .int (iI d)), (2, .int (iI h)), (3, .int (iI e))]) C dX1_breakDown_1 (Nat.le_of_ble_eq_true rfl) rfl ?_
  have key3 : ∀ (n3 : Nat) (j : Int) (f9 : Nat → va_E), (h ≤ j ∧ j ≤ e ∧ (w ∈ L ∧ f9 w = .inr (5, [.int (iI k), .ref r])) ∧ zRow G L f9 r a 240 0 (zfill σ (24 * d + h) (24 * d + j) 1) ∧ ∀ c, c ≠ a → f9 c = f c) → e - j < (n3 : Int) → ZW G pZ la eZ (zRm 2 0 0) sZ mZ aZ bZ hZ cZ AZ 5 0 0 (MQ bZ (zQ G zeV (fun _ L' f' => L = L' ∧ zA G 0 L f' a 240 (zfill σ (24 * d + h) (24 * d + e) 1) ∧ ∀ c, c ≠ a → f' c = f c) AZ) aZ sZ 0 0 AZ) L f9 3 [(0, .ref w), (1, .int (iI d)), (2, .int (iI h)), (3, .int (iI e)), (4, .int (iI j))] [] := by
    intro n3
    induction n3 with
    | zero => intro j f9 hi3 hn3; exfalso; omega
    | succ n3 ih3 =>
      intro j f9 hi3 hn3
      obtain ⟨hj0, hj1, hG9, hR9, hk9⟩ := hi3
      refine z_iload C 4 dX1_breakDown_3 rfl ?_
      refine z_iload_n C 3 dX1_breakDown_5 rfl ?_
      refine z_icmp_ge C 37 dX1_breakDown_6 (by decide) (by omega) (by omega) (fun h6 => ?_) (fun h6 => ?_)
      · exact z_vreturn C dX1_breakDown_37 (Nat.le_of_ble_eq_true rfl) (Nat.le_of_ble_eq_true rfl) ⟨rfl, by have q := hR9.2; rw [show j = e by omega] at q; exact q, hk9⟩
      · refine z_iload C 4 dX1_breakDown_9 rfl ?_
        refine z_bipush C dX1_breakDown_11 (by decide) ?_
        refine z_icmp_ge C 37 dX1_breakDown_13 (by decide) (by omega) (by omega) (fun h13 => ?_) (fun h13 => ?_)
        · exfalso; omega
        · refine z_aload_n C 0 dX1_breakDown_16 rfl ?_
          refine z_getf C 1 zin_X1 (hG9.1) (hG9.2) rfl (Nat.le_of_ble_eq_true rfl) zl_3_144 rfl rfl dX1_breakDown_17 ?_
          refine z_iload_n C 1 dX1_breakDown_20 rfl ?_
          refine z_iload C 4 dX1_breakDown_21 rfl ?_
          refine z_cSN (As := [.int (iI d), .int (iI j)]) C zc_X6_hourNumber (c_hourNumber hX d j (by omega) (by omega)) zn_24_RX1 (Nat.le_of_ble_eq_true rfl) (Nat.le_of_ble_eq_true rfl) (Nat.le_of_ble_eq_true rfl) rfl rfl (Nat.le_of_ble_eq_true rfl) dX1_breakDown_23 (fun z2 L3 f4 hz5 => ?_)
          obtain ⟨hz5, rfl, rfl⟩ := hz5
          subst hz5
          have hr1 := zhour_rng d j
          change ZW G pZ la eZ (zRm 2 0 0) sZ mZ aZ bZ hZ cZ AZ 5 0 0 _ L f9 26 [(0, .ref w), (1, .int (iI d)), (2, .int (iI h)), (3, .int (iI e)), (4, .int (iI j))] [.int (iI (zhour d j)), .ref r]
          refine z_iconst C dX1_breakDown_26 ?_
          refine z_cV (As := [.int (iI (zhour d j)), .int (iI 1)]) C zc_X4_write (c_write hX hR9 (zhour d j) 1 (by decide) (by omega) (by omega)) zl_3_184 (Nat.le_of_ble_eq_true rfl) (Nat.le_of_ble_eq_true rfl) (Nat.le_of_ble_eq_true rfl) (hR9.1.1) (hR9.1.2) rfl rfl rfl rfl (Nat.le_of_ble_eq_true rfl) dX1_breakDown_27 (fun z7 L8 f9 hz10 => ?_)
          obtain ⟨rfl, hw6a, hw6k, hw6z⟩ := hz10
          skip
          change ZW G pZ la eZ (zRm 2 0 0) sZ mZ aZ bZ hZ cZ AZ 5 0 0 _ L f9 30 [(0, .ref w), (1, .int (iI d)), (2, .int (iI h)), (3, .int (iI e)), (4, .int (iI j))] [.int (iI z7)]
          refine z_pop C dX1_breakDown_30 rfl ?_
          refine z_iinc (ls' := [(4, .int (iI (j + 1))), (0, .ref w), (1, .int (iI d)), (2, .int (iI h)), (3, .int (iI e))]) C 4 dX1_breakDown_31 rfl (Nat.le_of_ble_eq_true rfl) rfl ?_
          refine z_goto C 3 dX1_breakDown_34 (by decide) ?_
          refine z_perm [1, 2, 3, 4, 0] rfl ?_
          exact ih3 _ _ ⟨by omega, by omega, ⟨hG9.1, by rw [hw6k w hwa]; exact hG9.2⟩, by have q := zRow_w hR9 hw6a hw6k; unfold zwr at q; rw [zhour_in (by omega), if_pos (by omega), zfill_1 _ (by omega), show 24 * d + j + 1 = 24 * d + (j + 1) by omega] at q; exact q, fun c hc => by rw [hw6k c hc]; exact hk9 c hc⟩ (by omega)
  refine z_perm [1, 2, 3, 4, 0] rfl ?_
  exact key3 2000 _ _ ⟨by omega, by omega, hG.1, by rw [zfill_0]; exact hG.2, fun c _ => rfl⟩ (by omega)

set_option maxRecDepth 100000 in
set_option maxHeartbeats 200000 in
theorem c_repair {la : Launch} {G : zG} {X : (Nat → Prop) → State → Prop} (hX : zX X) {L : List Nat} {f : Nat → va_E} {w r a : Nat} {k : Int} {σ : Int → Int} (hG : zGau G L f w k r a σ) (d : Int) (hd : 0 ≤ d ∧ d ≤ 9) : zM la G X yX1_repair (.code yX1_repair cX1_repair 3 none :: zT) 2 0 0 [.ref w, .int (iI d)] L f zeV (fun _ L' f' => L = L' ∧ zA G 0 L f' a 240 (zfill σ (24 * d + 0) (24 * d + 24) 0) ∧ ∀ c, c ≠ a → f' c = f c) := by
  refine zM_intro hX (by decide) (Nat.le_of_ble_eq_true rfl) (fun pZ eZ sZ mZ aZ bZ hZ cZ AZ C hini => ?_)
  change ZW G pZ la eZ (zRm 2 0 0) sZ mZ aZ bZ hZ cZ AZ 3 0 0 _ L f 0 [(0, .ref w), (1, .int (iI d))] []
  have hwa : w ≠ a := zGau_ne hG
  refine z_iconst C dX1_repair_0 ?_
  refine z_istore_n (ls' := [(2, .int (iI 0)), (0, .ref w), (1, .int (iI d))]) C dX1_repair_1 (Nat.le_of_ble_eq_true rfl) rfl ?_
  have key2 : ∀ (n2 : Nat) (j : Int) (f9 : Nat → va_E), (0 ≤ j ∧ j ≤ 24 ∧ (w ∈ L ∧ f9 w = .inr (5, [.int (iI k), .ref r])) ∧ zRow G L f9 r a 240 0 (zfill σ (24 * d + 0) (24 * d + j) 0) ∧ ∀ c, c ≠ a → f9 c = f c) → 24 - j < (n2 : Int) → ZW G pZ la eZ (zRm 2 0 0) sZ mZ aZ bZ hZ cZ AZ 3 0 0 (MQ bZ (zQ G zeV (fun _ L' f' => L = L' ∧ zA G 0 L f' a 240 (zfill σ (24 * d + 0) (24 * d + 24) 0) ∧ ∀ c, c ≠ a → f' c = f c) AZ) aZ sZ 0 0 AZ) L f9 2 [(0, .ref w), (1, .int (iI d)), (2, .int (iI j))] [] := by
    intro n2
    induction n2 with
    | zero => intro j f9 hi2 hn2; exfalso; omega
    | succ n2 ih2 =>
      intro j f9 hi2 hn2
      obtain ⟨hj0, hj1, hG9, hR9, hk9⟩ := hi2
      refine z_iload_n C 2 dX1_repair_2 rfl ?_
      refine z_bipush C dX1_repair_3 (by decide) ?_
      refine z_icmp_ge C 28 dX1_repair_5 (by decide) (by omega) (by omega) (fun h5 => ?_) (fun h5 => ?_)
      · exact z_vreturn C dX1_repair_28 (Nat.le_of_ble_eq_true rfl) (Nat.le_of_ble_eq_true rfl) ⟨rfl, by have q := hR9.2; rw [show j = 24 by omega] at q; exact q, hk9⟩
      · refine z_aload_n C 0 dX1_repair_8 rfl ?_
        refine z_getf C 1 zin_X1 (hG9.1) (hG9.2) rfl (Nat.le_of_ble_eq_true rfl) zl_3_144 rfl rfl dX1_repair_9 ?_
        refine z_iload_n C 1 dX1_repair_12 rfl ?_
        refine z_iload_n C 2 dX1_repair_13 rfl ?_
        refine z_cSN (As := [.int (iI d), .int (iI j)]) C zc_X6_hourNumber (c_hourNumber hX d j (by omega) (by omega)) zn_24_RX1 (Nat.le_of_ble_eq_true rfl) (Nat.le_of_ble_eq_true rfl) (Nat.le_of_ble_eq_true rfl) rfl rfl (Nat.le_of_ble_eq_true rfl) dX1_repair_14 (fun z2 L3 f4 hz5 => ?_)
        obtain ⟨hz5, rfl, rfl⟩ := hz5
        subst hz5
        have hr1 := zhour_rng d j
        change ZW G pZ la eZ (zRm 2 0 0) sZ mZ aZ bZ hZ cZ AZ 3 0 0 _ L f9 17 [(0, .ref w), (1, .int (iI d)), (2, .int (iI j))] [.int (iI (zhour d j)), .ref r]
        refine z_iconst C dX1_repair_17 ?_
        refine z_cV (As := [.int (iI (zhour d j)), .int (iI 0)]) C zc_X4_write (c_write hX hR9 (zhour d j) 0 (by decide) (by omega) (by omega)) zl_3_184 (Nat.le_of_ble_eq_true rfl) (Nat.le_of_ble_eq_true rfl) (Nat.le_of_ble_eq_true rfl) (hR9.1.1) (hR9.1.2) rfl rfl rfl rfl (Nat.le_of_ble_eq_true rfl) dX1_repair_18 (fun z7 L8 f9 hz10 => ?_)
        obtain ⟨rfl, hw6a, hw6k, hw6z⟩ := hz10
        skip
        change ZW G pZ la eZ (zRm 2 0 0) sZ mZ aZ bZ hZ cZ AZ 3 0 0 _ L f9 21 [(0, .ref w), (1, .int (iI d)), (2, .int (iI j))] [.int (iI z7)]
        refine z_pop C dX1_repair_21 rfl ?_
        refine z_iinc (ls' := [(2, .int (iI (j + 1))), (0, .ref w), (1, .int (iI d))]) C 2 dX1_repair_22 rfl (Nat.le_of_ble_eq_true rfl) rfl ?_
        refine z_goto C 2 dX1_repair_25 (by decide) ?_
        refine z_perm [1, 2, 0] rfl ?_
        exact ih2 _ _ ⟨by omega, by omega, ⟨hG9.1, by rw [hw6k w hwa]; exact hG9.2⟩, by have q := zRow_w hR9 hw6a hw6k; unfold zwr at q; rw [zhour_in (by omega), if_pos (by omega), zfill_1 _ (by omega), show 24 * d + j + 1 = 24 * d + (j + 1) by omega] at q; exact q, fun c hc => by rw [hw6k c hc]; exact hk9 c hc⟩ (by omega)
  refine z_perm [1, 2, 0] rfl ?_
  exact key2 2000 _ _ ⟨by omega, by omega, hG.1, by rw [zfill_0]; exact hG.2, fun c _ => rfl⟩ (by omega)
