set_option maxRecDepth 100000 in
set_option maxHeartbeats 200000 in
theorem c_sb_isL {la : Launch} {G : zG} {X : (Nat → Prop) → State → Prop} (hX : zX X) {L : List Nat} {f : Nat → va_E} {ax : Nat → Nat × Nat} {w b : Nat} {x n : Int} (hob : zOb L f w 1 [.ref b, .int (iI 0), .int (iI x), .int (iI n)]) (hT : zT1 X ax)  : zM la G X yJ5_isLatin1_aae02 (.code yJ5_isLatin1_aae02 cJ5_isLatin1_aae02 1 (some .boolean) :: zT) 0 0 0 [.ref w] L f zeI (zRd L f (fun z => z = 1)) := by
  refine zM_intro hX (by decide) (Nat.le_of_ble_eq_true rfl) (fun pZ eZ sZ mZ aZ bZ hZ cZ AZ C hini => ?_)
  change ZW G pZ la eZ (zRm 0 0 0) sZ mZ aZ bZ hZ cZ AZ 1 0 0 _ L f 0 [(0, .ref w)] []
  refine z_gets C (hT _ _ C.x).2.1 zl_1_115 dJ5_isLatin1_aae02_0 ?_
  refine z_if_eq C 17 dJ5_isLatin1_aae02_3 (by decide) (by omega) (fun h3 => ?_) (fun h3 => ?_)
  · exfalso; omega
  · refine z_aload_n C 0 dJ5_isLatin1_aae02_6 rfl ?_
    refine z_getf C 1 zin_J4 (hob.1) (hob.2) rfl (Nat.le_of_ble_eq_true rfl) zl_1_125 rfl rfl dJ5_isLatin1_aae02_7 ?_
    refine z_if_ne C 17 dJ5_isLatin1_aae02_10 (by decide) (by omega) (fun h10 => ?_) (fun h10 => ?_)
    · exfalso; omega
    · refine z_iconst C dJ5_isLatin1_aae02_13 ?_
      refine z_goto C 18 dJ5_isLatin1_aae02_14 (by decide) ?_
      exact z_zreturn C (by first | omega | (unfold bI; split <;> omega)) dJ5_isLatin1_aae02_18 (Nat.le_of_ble_eq_true rfl) (Nat.le_of_ble_eq_true rfl) ⟨rfl, rfl, rfl⟩

set_option maxRecDepth 100000 in
set_option maxHeartbeats 200000 in
theorem c_canEncode {la : Launch} {G : zG} {X : (Nat → Prop) → State → Prop} (hX : zX X) {L : List Nat} {f : Nat → va_E} (c : Int) (hc : 0 ≤ c ∧ c < 128) : zM la G X yJ1_canEncode_fc78d (.code yJ1_canEncode_fc78d cJ1_canEncode_fc78d 1 (some .boolean) :: zT) 0 0 0 [.int (iI c)] L f zeI (zRd L f (fun z => z = 1)) := by
  refine zM_intro hX (by decide) (Nat.le_of_ble_eq_true rfl) (fun pZ eZ sZ mZ aZ bZ hZ cZ AZ C hini => ?_)
  change ZW G pZ la eZ (zRm 0 0 0) sZ mZ aZ bZ hZ cZ AZ 1 0 0 _ L f 0 [(0, .int (iI c))] []
  refine z_iload_n C 0 dJ1_canEncode_fc78d_0 rfl ?_
  refine z_sipush C dJ1_canEncode_fc78d_1 (by decide) ?_
  refine z_icmp_gt C 11 dJ1_canEncode_fc78d_4 (by decide) (by omega) (by omega) (fun h4 => ?_) (fun h4 => ?_)
  · exfalso; omega
  · refine z_iconst C dJ1_canEncode_fc78d_7 ?_
    refine z_goto C 12 dJ1_canEncode_fc78d_8 (by decide) ?_
    exact z_zreturn C (by first | omega | (unfold bI; split <;> omega)) dJ1_canEncode_fc78d_12 (Nat.le_of_ble_eq_true rfl) (Nat.le_of_ble_eq_true rfl) ⟨rfl, rfl, rfl⟩

set_option maxRecDepth 100000 in
set_option maxHeartbeats 200000 in
theorem c_newLength {la : Launch} {G : zG} {X : (Nat → Prop) → State → Prop} (hX : zX X) {L : List Nat} {f : Nat → va_E} (a b c : Int) (ha : 0 ≤ a ∧ a ≤ 1000) (hb : 0 ≤ b ∧ b ≤ 1000) (hc : 0 ≤ c ∧ c ≤ 1000) : zM la G X yJ8_newLength_cabcc (.code yJ8_newLength_cabcc cJ8_newLength_cabcc 4 (some .int) :: zT) 1 0 0 [.int (iI a), .int (iI b), .int (iI c)] L f zeI (zRd L f (fun z => b ≤ c ∧ z = a + c ∨ c ≤ b ∧ z = a + b)) := by
  refine zM_intro hX (by decide) (Nat.le_of_ble_eq_true rfl) (fun pZ eZ sZ mZ aZ bZ hZ cZ AZ C hini => ?_)
  change ZW G pZ la eZ (zRm 1 0 0) sZ mZ aZ bZ hZ cZ AZ 4 0 0 _ L f 0 [(0, .int (iI a)), (1, .int (iI b)), (2, .int (iI c))] []
  refine z_iload_n C 0 dJ8_newLength_cabcc_0 rfl ?_
  refine z_iload_n C 1 dJ8_newLength_cabcc_1 rfl ?_
  refine z_iload_n C 2 dJ8_newLength_cabcc_2 rfl ?_
  refine z_mmax C zl_5_60 (Nat.le_of_ble_eq_true rfl) (Nat.le_of_ble_eq_true rfl) (Nat.le_of_ble_eq_true rfl) (by omega) (by omega) (Nat.le_of_ble_eq_true rfl) dJ8_newLength_cabcc_3 (fun w1 hw2 => ?_)
  refine z_iadd C dJ8_newLength_cabcc_6 ?_
  refine z_nm (fun x3 hx3 => ?_)
  refine z_istore_n (ls' := [(3, .int (iI x3)), (0, .int (iI a)), (1, .int (iI b)), (2, .int (iI c))]) C dJ8_newLength_cabcc_7 (Nat.le_of_ble_eq_true rfl) rfl ?_
  refine z_iconst C dJ8_newLength_cabcc_8 ?_
  refine z_iload_n C 0 dJ8_newLength_cabcc_9 rfl ?_
  refine z_icmp_ge C 21 dJ8_newLength_cabcc_10 (by decide) (by omega) (by omega) (fun h10 => ?_) (fun h10 => ?_)
  · exfalso; omega
  · refine z_iload_n C 0 dJ8_newLength_cabcc_13 rfl ?_
    refine z_ldc (n := 2147483639) C zl_5_61 rfl dJ8_newLength_cabcc_14 ?_
    refine z_icmp_gt C 21 dJ8_newLength_cabcc_16 (by decide) (by omega) (by omega) (fun h16 => ?_) (fun h16 => ?_)
    · exfalso; omega
    · refine z_iload_n C 0 dJ8_newLength_cabcc_19 rfl ?_
      exact z_ireturn C dJ8_newLength_cabcc_20 (Nat.le_of_ble_eq_true rfl) (Nat.le_of_ble_eq_true rfl) ⟨by omega, rfl, rfl⟩

set_option maxRecDepth 100000 in
set_option maxHeartbeats 200000 in
theorem c_sb_newCap {la : Launch} {G : zG} {X : (Nat → Prop) → State → Prop} (hX : zX X) {L : List Nat} {f : Nat → va_E} {ax : Nat → Nat × Nat} {w b : Nat} {x n : Int} {τ : Int → Int} (hob : zOb L f w 1 [.ref b, .int (iI 0), .int (iI x), .int (iI n)]) (hA : zA G 3 L f b 16 τ) (q : Int) (hq : 17 ≤ q ∧ q ≤ 34) : zM la G X yJ5_newCapacity_0f7a4 (.code yJ5_newCapacity_0f7a4 cJ5_newCapacity_0f7a4 6 (some .int) :: zT) 2 0 0 [.ref w, .int (iI q)] L f zeI (zRd L f (fun z => z = 34)) := by
  refine zM_intro hX (by decide) (Nat.le_of_ble_eq_true rfl) (fun pZ eZ sZ mZ aZ bZ hZ cZ AZ C hini => ?_)
  change ZW G pZ la eZ (zRm 2 0 0) sZ mZ aZ bZ hZ cZ AZ 6 0 0 _ L f 0 [(0, .ref w), (1, .int (iI q))] []
  refine z_aload_n C 0 dJ5_newCapacity_0f7a4_0 rfl ?_
  refine z_getf C 0 zin_J4 (hob.1) (hob.2) rfl (Nat.le_of_ble_eq_true rfl) zl_1_124 rfl rfl dJ5_newCapacity_0f7a4_1 ?_
  refine z_alen C (hA) rfl dJ5_newCapacity_0f7a4_4 ?_
  refine z_nm (fun x1 hx1 => ?_)
  refine z_istore_n (ls' := [(2, .int (iI x1)), (0, .ref w), (1, .int (iI q))]) C dJ5_newCapacity_0f7a4_5 (Nat.le_of_ble_eq_true rfl) rfl ?_
  refine z_iload_n C 2 dJ5_newCapacity_0f7a4_6 rfl ?_
  refine z_aload_n C 1 dJ5_newCapacity_0f7a4_7 rfl ?_
  refine z_getf C 1 zin_J4 (hob.1) (hob.2) rfl (Nat.le_of_ble_eq_true rfl) zl_1_125 rfl rfl dJ5_newCapacity_0f7a4_8 ?_
  refine z_ishl0 C dJ5_newCapacity_0f7a4_11 ?_
  refine z_istore_n (ls' := [(3, .int (iI q)), (2, .int (iI x1)), (0, .ref w), (1, .int (iI q))]) C dJ5_newCapacity_0f7a4_12 (Nat.le_of_ble_eq_true rfl) rfl ?_
  refine z_iload_n C 0 dJ5_newCapacity_0f7a4_13 rfl ?_
  refine z_iload_n C 1 dJ5_newCapacity_0f7a4_14 rfl ?_
  refine z_isub C dJ5_newCapacity_0f7a4_15 ?_
  refine z_nm (fun x2 hx2 => ?_)
  refine z_istore (ls' := [(4, .int (iI x2)), (3, .int (iI q)), (2, .int (iI x1)), (0, .ref w), (1, .int (iI q))]) C dJ5_newCapacity_0f7a4_16 (Nat.le_of_ble_eq_true rfl) rfl ?_
  refine z_iload_n C 2 dJ5_newCapacity_0f7a4_18 rfl ?_
  refine z_iload C 0 dJ5_newCapacity_0f7a4_19 rfl ?_
  refine z_iload_n C 2 dJ5_newCapacity_0f7a4_21 rfl ?_
  refine z_iconst C dJ5_newCapacity_0f7a4_22 ?_
  refine z_aload_n C 3 dJ5_newCapacity_0f7a4_23 rfl ?_
  refine z_getf C 1 zin_J4 (hob.1) (hob.2) rfl (Nat.le_of_ble_eq_true rfl) zl_1_125 rfl rfl dJ5_newCapacity_0f7a4_24 ?_
  refine z_ishl0 C dJ5_newCapacity_0f7a4_27 ?_
  refine z_iadd C dJ5_newCapacity_0f7a4_28 ?_
  refine z_cS (As := [.int (iI x1), .int (iI x2), .int (iI (x1 + 2))]) C zc_J8_newLength_cabcc (c_newLength hX x1 x2 (x1 + 2) (by omega) (by omega) (by omega)) zl_5_57 (Nat.le_of_ble_eq_true rfl) (Nat.le_of_ble_eq_true rfl) (Nat.le_of_ble_eq_true rfl) rfl rfl (Nat.le_of_ble_eq_true rfl) dJ5_newCapacity_0f7a4_29 (fun zl L3 f4 hzl => ?_)
  obtain ⟨hzl, rfl, rfl⟩ := hzl
  change ZW G pZ la eZ (zRm 2 0 0) sZ mZ aZ bZ hZ cZ AZ 6 0 0 _ L f 32 [(4, .int (iI x2)), (3, .int (iI q)), (2, .int (iI x1)), (0, .ref w), (1, .int (iI q))] [.int (iI zl)]
  refine z_istore (ls' := [(5, .int (iI zl)), (4, .int (iI x2)), (3, .int (iI q)), (2, .int (iI x1)), (0, .ref w), (1, .int (iI q))]) C dJ5_newCapacity_0f7a4_32 (Nat.le_of_ble_eq_true rfl) rfl ?_
  refine z_iload C 0 dJ5_newCapacity_0f7a4_34 rfl ?_
  refine z_ldc (n := 2147483647) C zl_5_65 rfl dJ5_newCapacity_0f7a4_36 ?_
  refine z_icmp_ne C 51 dJ5_newCapacity_0f7a4_38 (by decide) (by omega) (by omega) (fun h38 => ?_) (fun h38 => ?_)
  · refine z_iload C 0 dJ5_newCapacity_0f7a4_51 rfl ?_
    refine z_aload_n C 4 dJ5_newCapacity_0f7a4_53 rfl ?_
    refine z_getf C 1 zin_J4 (hob.1) (hob.2) rfl (Nat.le_of_ble_eq_true rfl) zl_1_125 rfl rfl dJ5_newCapacity_0f7a4_54 ?_
    refine z_ishr0 C dJ5_newCapacity_0f7a4_57 ?_
    exact z_ireturn C dJ5_newCapacity_0f7a4_58 (Nat.le_of_ble_eq_true rfl) (Nat.le_of_ble_eq_true rfl) ⟨by omega, rfl, rfl⟩
  · exfalso; omega

set_option maxRecDepth 100000 in
set_option maxHeartbeats 200000 in
theorem c_sb_copyOf {la : Launch} {G : zG} {X : (Nat → Prop) → State → Prop} (hX : zX X) {L : List Nat} {f : Nat → va_E} {ax : Nat → Nat × Nat} {a : Nat} {τ : Int → Int} (hA : zA G 3 L f a 16 τ)  (hbd : ∀ j : Int, 0 ≤ j → j < 16 → 0 ≤ τ j ∧ τ j < 128) : zM la G X yJ7_copyOf_9075b (.code yJ7_copyOf_9075b cJ7_copyOf_9075b 3 (some (.array .byte)) :: zT) 2 1 34 [.ref a, .int (iI 34)] L f zeQ (fun z L' f' => ∃ q, z = some q ∧ q ∉ L ∧ zExt L f L' f' ∧ zA G 3 L' f' q 34 (zcpy τ (fun _ => 0) 0 16)) := by
  refine zM_intro hX (by decide) (Nat.le_of_ble_eq_true rfl) (fun pZ eZ sZ mZ aZ bZ hZ cZ AZ C hini => ?_)
  change ZW G pZ la eZ (zRm 2 1 34) sZ mZ aZ bZ hZ cZ AZ 3 0 0 _ L f 0 [(0, .ref a), (1, .int (iI 34))] []
  refine z_iload_n C 1 dJ7_copyOf_9075b_0 rfl ?_
  refine z_aload_n C 0 dJ7_copyOf_9075b_1 rfl ?_
  refine z_alen C (hA) rfl dJ7_copyOf_9075b_2 ?_
  refine z_icmp_ne C 14 dJ7_copyOf_9075b_3 (by decide) (by omega) (by omega) (fun h3 => ?_) (fun h3 => ?_)
  · refine z_iload_n C 1 dJ7_copyOf_9075b_14 rfl ?_
    refine z_newa (ty := .byte) C 3 34 zl_1_138 rfl rfl rfl (fun U cA h => h) rfl (Nat.le_of_ble_eq_true rfl) (Nat.le_of_ble_eq_true rfl) (Nat.le_of_ble_eq_true rfl) (Nat.le_of_ble_eq_true rfl) dJ7_copyOf_9075b_15 (fun q1 L2 f3 hq4 hL5 hA6 hk7 => ?_)
    have hE8 := zExt_q hq4 hL5 hk7
    have hA9 := zA_e hA hE8
    change ZW G pZ la eZ (zRm 2 1 34) sZ mZ aZ bZ hZ cZ AZ 3 1 34 _ L2 f3 17 [(0, .ref a), (1, .int (iI 34))] [.ref q1]
    refine z_astore_n (ls' := [(2, .ref q1), (0, .ref a), (1, .int (iI 34))]) C dJ7_copyOf_9075b_17 (Nat.le_of_ble_eq_true rfl) rfl ?_
    refine z_aload_n C 1 dJ7_copyOf_9075b_18 rfl ?_
    refine z_iconst C dJ7_copyOf_9075b_19 ?_
    refine z_aload_n C 0 dJ7_copyOf_9075b_20 rfl ?_
    refine z_iconst C dJ7_copyOf_9075b_21 ?_
    refine z_aload_n C 1 dJ7_copyOf_9075b_22 rfl ?_
    refine z_alen C (hA9) rfl dJ7_copyOf_9075b_23 ?_
    refine z_iload_n C 2 dJ7_copyOf_9075b_24 rfl ?_
    refine z_mmin C zl_5_76 (Nat.le_of_ble_eq_true rfl) (Nat.le_of_ble_eq_true rfl) (Nat.le_of_ble_eq_true rfl) (by omega) (by omega) (Nat.le_of_ble_eq_true rfl) dJ7_copyOf_9075b_25 (fun w10 hw11 => ?_)
    refine z_copyB C hA9 hA6 zl_5_77 (by omega) (fun j q0 q1 => hbd j q0 (by omega)) (Nat.le_of_ble_eq_true rfl) (Nat.le_of_ble_eq_true rfl) dJ7_copyOf_9075b_28 (fun f12 ha13 hk14 => ?_)
    refine z_aload_n C 0 dJ7_copyOf_9075b_31 rfl ?_
    change ZW G pZ la eZ (zRm 2 1 34) sZ mZ aZ bZ hZ cZ AZ 3 _ _ _ _ _ _ _ [va_rf (some q1)]
    exact z_qreturnA C dJ7_copyOf_9075b_32 (Nat.le_of_ble_eq_true rfl) (Nat.le_of_ble_eq_true rfl) ⟨_, rfl, hq4, (fun c hc => ⟨(hE8 c hc).1, (hk14 c (fun w => hq4 (w ▸ hc))).trans (hE8 c hc).2⟩), by rw [show (16 : Int) = w10 by omega]; exact ha13⟩
  · exfalso; omega

set_option maxRecDepth 100000 in
set_option maxHeartbeats 200000 in
theorem c_sb_ensure {la : Launch} {G : zG} {X : (Nat → Prop) → State → Prop} (hX : zX X) {L : List Nat} {f : Nat → va_E} {ax : Nat → Nat × Nat} {w b m : Nat} {x n : Int} {τ : Int → Int} (hob : zOb L f w 1 [.ref b, .int (iI 0), .int (iI x), .int (iI n)]) (hA : zA G 3 L f b m τ) (q : Int) (hm : m = 16 ∨ m = 34) (hbd : ∀ j : Int, 0 ≤ j → j < m → 0 ≤ τ j ∧ τ j < 128) (hq : 0 ≤ q ∧ q ≤ 34) : zM la G X yJ5_ensureCapacityInternal_d00df (.code yJ5_ensureCapacityInternal_d00df cJ5_ensureCapacityInternal_d00df 3 none :: zT) 3 1 34 [.ref w, .int (iI q)] L f zeV (fun _ L' f' => ∃ (b' m' : Nat) (τ' : Int → Int), zOb L' f' w 1 [.ref b', .int (iI 0), .int (iI x), .int (iI n)] ∧ zA G 3 L' f' b' m' τ' ∧ (m' = 16 ∨ m' = 34) ∧ q ≤ m' ∧ m ≤ m' ∧ (∀ j : Int, 0 ≤ j → j < m → τ' j = τ j) ∧ (∀ j : Int, 0 ≤ j → j < m' → 0 ≤ τ' j ∧ τ' j < 128) ∧ zSbP L f w b L' f' b') := by
  refine zM_intro hX (by decide) (Nat.le_of_ble_eq_true rfl) (fun pZ eZ sZ mZ aZ bZ hZ cZ AZ C hini => ?_)
  change ZW G pZ la eZ (zRm 3 1 34) sZ mZ aZ bZ hZ cZ AZ 3 0 0 _ L f 0 [(0, .ref w), (1, .int (iI q))] []
  have hP0 := zSbP_r L f w b
  refine z_aload_n C 0 dJ5_ensureCapacityInternal_d00df_0 rfl ?_
  refine z_getf C 0 zin_J4 (hob.1) (hob.2) rfl (Nat.le_of_ble_eq_true rfl) zl_1_124 rfl rfl dJ5_ensureCapacityInternal_d00df_1 ?_
  refine z_alen C (hA) rfl dJ5_ensureCapacityInternal_d00df_4 ?_
  refine z_aload_n C 0 dJ5_ensureCapacityInternal_d00df_5 rfl ?_
  refine z_getf C 1 zin_J4 (hob.1) (hob.2) rfl (Nat.le_of_ble_eq_true rfl) zl_1_125 rfl rfl dJ5_ensureCapacityInternal_d00df_6 ?_
  refine z_ishr0 C dJ5_ensureCapacityInternal_d00df_9 ?_
  refine z_nm (fun x1 hx1 => ?_)
  refine z_istore_n (ls' := [(2, .int (iI x1)), (0, .ref w), (1, .int (iI q))]) C dJ5_ensureCapacityInternal_d00df_10 (Nat.le_of_ble_eq_true rfl) rfl ?_
  refine z_iload_n C 2 dJ5_ensureCapacityInternal_d00df_11 rfl ?_
  refine z_iload_n C 0 dJ5_ensureCapacityInternal_d00df_12 rfl ?_
  refine z_isub C dJ5_ensureCapacityInternal_d00df_13 ?_
  refine z_if_le C 38 dJ5_ensureCapacityInternal_d00df_14 (by decide) (by omega) (fun h14 => ?_) (fun h14 => ?_)
  · exact z_vreturn C dJ5_ensureCapacityInternal_d00df_38 (Nat.le_of_ble_eq_true rfl) (Nat.le_of_ble_eq_true rfl) ⟨b, m, τ, hob, hA, hm, by omega, Nat.le_refl _, fun j _ _ => rfl, hbd, hP0⟩
  · obtain rfl : m = 16 := by omega
    refine z_aload_n C 1 dJ5_ensureCapacityInternal_d00df_17 rfl ?_
    refine z_aload_n C 1 dJ5_ensureCapacityInternal_d00df_18 rfl ?_
    refine z_getf C 0 zin_J4 (hob.1) (hob.2) rfl (Nat.le_of_ble_eq_true rfl) zl_1_124 rfl rfl dJ5_ensureCapacityInternal_d00df_19 ?_
    refine z_aload_n C 1 dJ5_ensureCapacityInternal_d00df_22 rfl ?_
    refine z_iload_n C 2 dJ5_ensureCapacityInternal_d00df_23 rfl ?_
    refine z_cVS (As := [.int (iI q)]) C (z_selP C.2.2.2.2.1 rfl (C.w zl_5_54 rfl) (C.w zl_5_55 rfl)) zl_5_56 zl_5_55 zl_1_7 ⟨by decide +kernel, by decide +kernel, by decide +kernel⟩ (by decide) (c_sb_newCap hX hob hA q (by omega)) zl_5_53 (Nat.le_of_ble_eq_true rfl) (Nat.le_of_ble_eq_true rfl) (Nat.le_of_ble_eq_true rfl) hob rfl rfl (Nat.le_of_ble_eq_true rfl) dJ5_ensureCapacityInternal_d00df_24 (fun z2 L3 f4 hz5 => ?_)
    obtain ⟨hz5, rfl, rfl⟩ := hz5
    subst hz5
    change ZW G pZ la eZ (zRm 3 1 34) sZ mZ aZ bZ hZ cZ AZ 3 0 0 _ L f 27 [(2, .int (iI x1)), (0, .ref w), (1, .int (iI q))] [.int (iI 34), .ref b, .ref w]
    refine z_aload_n C 1 dJ5_ensureCapacityInternal_d00df_27 rfl ?_
    refine z_getf C 1 zin_J4 (hob.1) (hob.2) rfl (Nat.le_of_ble_eq_true rfl) zl_1_125 rfl rfl dJ5_ensureCapacityInternal_d00df_28 ?_
    refine z_ishl0 C dJ5_ensureCapacityInternal_d00df_31 ?_
    refine z_cS (As := [.ref b, .int (iI 34)]) C zc_J7_copyOf_9075b (c_sb_copyOf hX hA hbd) zl_5_66 (Nat.le_of_ble_eq_true rfl) (Nat.le_of_ble_eq_true rfl) (Nat.le_of_ble_eq_true rfl) rfl rfl (Nat.le_of_ble_eq_true rfl) dJ5_ensureCapacityInternal_d00df_32 (fun z6 L7 f8 hz9 => ?_)
    obtain ⟨q9, rfl, hq9, he9, hA9⟩ := hz9
    have hob10 := zOb_e hob he9
    have hP11 : zSbP L f w b L7 f8 q9 := zSbP_e he9 hq9
    change ZW G pZ la eZ (zRm 3 1 34) sZ mZ aZ bZ hZ cZ AZ 3 1 34 _ L7 f8 35 [(2, .int (iI x1)), (0, .ref w), (1, .int (iI q))] [.ref q9, .ref w]
    refine z_putG C 0 zin_J4 tyJ4_ok nmJ4 hob10.1 hob10.2 rfl (Nat.le_of_ble_eq_true rfl) zl_1_124 rfl rfl rfl rfl rfl (Nat.le_of_ble_eq_true rfl) dJ5_ensureCapacityInternal_d00df_35 (fun f12 hf13 hk14 => ?_)
    have hob15 : zOb L7 f12 w 1 [.ref q9, .int (iI 0), .int (iI x), .int (iI n)] := ⟨hob10.1, hf13⟩
    have hA17 := zA_wO hA9 hob10.2 hk14
    have hP16 := zSbP_o hP11 hk14
    exact z_vreturn C dJ5_ensureCapacityInternal_d00df_38 (Nat.le_of_ble_eq_true rfl) (Nat.le_of_ble_eq_true rfl) ⟨q9, 34, _, hob15, hA17, Or.inr rfl, by omega, by omega, fun j q0 q1 => by unfold zcpy; rw [if_pos (by omega), show j - 0 = j by omega], fun j q0 q1 => by unfold zcpy; split; exact hbd _ (by omega) (by omega); omega, hP16⟩

set_option maxRecDepth 100000 in
set_option maxHeartbeats 200000 in
theorem c_sb_app5C {la : Launch} {G : zG} {X : (Nat → Prop) → State → Prop} (hX : zX X) {L : List Nat} {f : Nat → va_E} {ax : Nat → Nat × Nat} {w b m : Nat} {t : List Int} (hSb : zSb G L f w b m t) (hT : zT1 X ax) (c : Int) (hc : 0 ≤ c ∧ c < 128) (hl : t.length < 34) : zM la G X yJ5_append_3fe6f (.code yJ5_append_3fe6f cJ5_append_3fe6f 2 (some (.object "java/lang/AbstractStringBuilder")) :: zT) 4 1 34 [.ref w, .int (iI c)] L f zeQ (fun z L' f' => z = some w ∧ ∃ b' m' : Nat, zSb G L' f' w b' m' (t ++ [c]) ∧ zSbP L f w b L' f' b') := by
  refine zM_intro hX (by decide) (Nat.le_of_ble_eq_true rfl) (fun pZ eZ sZ mZ aZ bZ hZ cZ AZ C hini => ?_)
  change ZW G pZ la eZ (zRm 4 1 34) sZ mZ aZ bZ hZ cZ AZ 2 0 0 _ L f 0 [(0, .ref w), (1, .int (iI c))] []
  obtain ⟨x, τ, hob, hA, hm, hlt, hτ, hbd, hx⟩ := hSb
  have hP0 := zSbP_r L f w b
  refine z_aload_n C 0 dJ5_append_3fe6f_0 rfl ?_
  refine z_aload_n C 0 dJ5_append_3fe6f_1 rfl ?_
  refine z_getf C 3 zin_J4 (hob.1) (hob.2) rfl (Nat.le_of_ble_eq_true rfl) zl_1_128 rfl rfl dJ5_append_3fe6f_2 ?_
  refine z_iconst C dJ5_append_3fe6f_5 ?_
  refine z_iadd C dJ5_append_3fe6f_6 ?_
  refine z_cVS (As := [.int (iI ((t.length : Int) + 1))]) C (z_selP C.2.2.2.2.1 rfl (C.w zl_5_50 rfl) (C.w zl_5_51 rfl)) zl_5_52 zl_5_51 zl_1_7 ⟨by decide +kernel, by decide +kernel, by decide +kernel⟩ (by decide) (c_sb_ensure hX hob hA ((t.length : Int) + 1) hm hbd (by omega)) zl_5_49 (Nat.le_of_ble_eq_true rfl) (Nat.le_of_ble_eq_true rfl) (Nat.le_of_ble_eq_true rfl) hob rfl rfl (Nat.le_of_ble_eq_true rfl) dJ5_append_3fe6f_7 (fun z1 L2 f3 hz4 => ?_)
  obtain ⟨b8, m8, τ8, hob8, hA8, hm8, hq8, hmm8, ht8, hbd8, hP8⟩ := hz4
  change ZW G pZ la eZ (zRm 4 1 34) sZ mZ aZ bZ hZ cZ AZ 2 1 34 _ L2 f3 10 [(0, .ref w), (1, .int (iI c))] []
  refine z_aload_n C 0 dJ5_append_3fe6f_10 rfl ?_
  refine z_cVS (As := []) C (C.w zl_5_83 rfl) zl_5_84 zl_5_81 zl_1_7 ⟨by decide +kernel, by decide +kernel, by decide +kernel⟩ (by decide) (c_sb_isL hX hob8 hT) zl_5_80 (Nat.le_of_ble_eq_true rfl) (Nat.le_of_ble_eq_true rfl) (Nat.le_of_ble_eq_true rfl) hob8 rfl rfl (Nat.le_of_ble_eq_true rfl) dJ5_append_3fe6f_11 (fun z5 L6 f7 hz8 => ?_)
  obtain ⟨hz8, rfl, rfl⟩ := hz8
  subst hz8
  change ZW G pZ la eZ (zRm 4 1 34) sZ mZ aZ bZ hZ cZ AZ 2 1 34 _ L2 f3 14 [(0, .ref w), (1, .int (iI c))] [.int (iI 1)]
  refine z_if_eq C 45 dJ5_append_3fe6f_14 (by decide) (by omega) (fun h14 => ?_) (fun h14 => ?_)
  · exfalso; omega
  · refine z_iload_n C 1 dJ5_append_3fe6f_17 rfl ?_
    refine z_cS (As := [.int (iI c)]) C zc_J1_canEncode_fc78d (c_canEncode hX c (by omega)) zl_6_47 (Nat.le_of_ble_eq_true rfl) (Nat.le_of_ble_eq_true rfl) (Nat.le_of_ble_eq_true rfl) rfl rfl (Nat.le_of_ble_eq_true rfl) dJ5_append_3fe6f_18 (fun z9 L10 f11 hz12 => ?_)
    obtain ⟨hz12, rfl, rfl⟩ := hz12
    subst hz12
    change ZW G pZ la eZ (zRm 4 1 34) sZ mZ aZ bZ hZ cZ AZ 2 1 34 _ L2 f3 21 [(0, .ref w), (1, .int (iI c))] [.int (iI 1)]
    refine z_if_eq C 45 dJ5_append_3fe6f_21 (by decide) (by omega) (fun h21 => ?_) (fun h21 => ?_)
    · exfalso; omega
    · refine z_aload_n C 0 dJ5_append_3fe6f_24 rfl ?_
      refine z_getf C 0 zin_J4 (hob8.1) (hob8.2) rfl (Nat.le_of_ble_eq_true rfl) zl_1_124 rfl rfl dJ5_append_3fe6f_25 ?_
      refine z_aload_n C 0 dJ5_append_3fe6f_28 rfl ?_
      refine z_dup C dJ5_append_3fe6f_29 rfl ?_
      refine z_getf C 3 zin_J4 (hob8.1) (hob8.2) rfl (Nat.le_of_ble_eq_true rfl) zl_1_128 rfl rfl dJ5_append_3fe6f_30 ?_
      refine z_dup_x1 C dJ5_append_3fe6f_33 rfl rfl ?_
      refine z_iconst C dJ5_append_3fe6f_34 ?_
      refine z_iadd C dJ5_append_3fe6f_35 ?_
      refine z_putG C 3 zin_J4 tyJ4_ok nmJ4 hob8.1 hob8.2 rfl (Nat.le_of_ble_eq_true rfl) zl_1_128 rfl rfl rfl rfl rfl (Nat.le_of_ble_eq_true rfl) dJ5_append_3fe6f_36 (fun f13 hf14 hk15 => ?_)
      have hob16 : zOb L2 f13 w 1 [.ref b8, .int (iI 0), .int (iI x), .int (iI ((t.length : Int) + 1))] := ⟨hob8.1, hf14⟩
      have hA18 := zA_wO hA8 hob8.2 hk15
      have hP17 := zSbP_o hP8 hk15
      refine z_iload_n C 1 dJ5_append_3fe6f_39 rfl ?_
      refine z_i2b C (by omega) dJ5_append_3fe6f_40 ?_
      refine z_bast C (hA18) (by omega) (by omega) (by omega) (z_nar8 (by omega)) dJ5_append_3fe6f_41 (fun f19 ha20 hk21 => ?_)
      have hob22 : zOb L2 f19 w 1 [.ref b8, .int (iI 0), .int (iI x), .int (iI ((t.length : Int) + 1))] := ⟨hob16.1, by rw [hk21 _ (zne_A hob16.2 hA18)]; exact hob16.2⟩
      have hP23 := zSbP_a hP17 hk21
      refine z_goto C 75 dJ5_append_3fe6f_42 (by decide) ?_
      refine z_aload_n C 0 dJ5_append_3fe6f_75 rfl ?_
      change ZW G pZ la eZ (zRm 4 1 34) sZ mZ aZ bZ hZ cZ AZ 2 _ _ _ _ _ _ _ [va_rf (some w)]
      exact z_qreturn C dJ5_append_3fe6f_76 (Nat.le_of_ble_eq_true rfl) (Nat.le_of_ble_eq_true rfl) ⟨rfl, _, _, zSb_of (τ := τ8) hob22 ha20 hm8 (by simp; try omega) (by omega) (fun j q0 q1 => (ht8 j q0 (by omega)).trans (hτ j q0 q1)) hbd8 hx (zgood_1 hc) (fun j q0 q1 => by unfold zup; by_cases q : j = (t.length : Int); (rw [if_pos q, if_pos (by omega), q, show ((t.length : Int) - t.length).toNat = 0 by omega]; rfl); (rw [if_neg q, if_neg (by omega)])), hP23⟩
