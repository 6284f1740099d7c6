set_option maxRecDepth 100000 in
set_option maxHeartbeats 200000 in
theorem c_sb_isL {la : Launch} {G : zG} {X : (Nat → Prop) → State → Prop} (hX : zX X) {L : List Nat} {f : Nat → va_E} {ax : Nat → Nat × Nat} {w b : Nat} {x n : Int} (hob : zOb L f w 1 [.ref b, .int (iI 0), .int (iI x), .int (iI n)]) (hT : zT1 X ax)  : zM la G X yJ5_isLatin1_aae02 (.code yJ5_isLatin1_aae02 cJ5_isLatin1_aae02 1 (some .boolean) :: zT) 0 0 0 [.ref w] L f zeI (zRd L f (fun z => z = 1)) := by
  refine zM_intro hX (by decide) (Nat.le_of_ble_eq_true rfl) (fun pZ eZ sZ mZ aZ bZ hZ cZ AZ C hini => ?_)
  change ZW G pZ la eZ (zRm 0 0 0) sZ mZ aZ bZ hZ cZ AZ 1 0 0 _ L f 0 [(0, .ref w)] []
  refine z_gets C (hT _ _ C.x).2.1 zl_1_115 dJ5_isLatin1_aae02_0 ?_
  refine z_if_eq C 17 dJ5_isLatin1_aae02_3 (by decide) (by omega) (fun h3 => ?_) (fun h3 => ?_)
  · exfalso; omega
  · refine z_aload_n C 0 dJ5_isLatin1_aae02_6 rfl ?_
    refine z_getf C 1 zin_J4 (hob.1) (hob.2) rfl (Nat.le_of_ble_eq_true rfl) zl_1_125 rfl rfl dJ5_isLatin1_aae02_7 ?_
    refine z_if_ne C 17 dJ5_isLatin1_aae02_10 (by decide) (by omega) (fun h10 => ?_) (fun h10 => ?_)
    · exfalso; omega
    · refine z_iconst C dJ5_isLatin1_aae02_13 ?_
      refine z_goto C 18 dJ5_isLatin1_aae02_14 (by decide) ?_
      exact z_zreturn C (by first | omega | (unfold bI; split <;> omega)) dJ5_isLatin1_aae02_18 (Nat.le_of_ble_eq_true rfl) (Nat.le_of_ble_eq_true rfl) ⟨rfl, rfl, rfl⟩

set_option maxRecDepth 100000 in
set_option maxHeartbeats 200000 in
theorem c_canEncode {la : Launch} {G : zG} {X : (Nat → Prop) → State → Prop} (hX : zX X) {L : List Nat} {f : Nat → va_E} (c : Int) (hc : 0 ≤ c ∧ c < 128) : zM la G X yJ1_canEncode_fc78d (.code yJ1_canEncode_fc78d cJ1_canEncode_fc78d 1 (some .boolean) :: zT) 0 0 0 [.int (iI c)] L f zeI (zRd L f (fun z => z = 1)) := by
  refine zM_intro hX (by decide) (Nat.le_of_ble_eq_true rfl) (fun pZ eZ sZ mZ aZ bZ hZ cZ AZ C hini => ?_)
  change ZW G pZ la eZ (zRm 0 0 0) sZ mZ aZ bZ hZ cZ AZ 1 0 0 _ L f 0 [(0, .int (iI c))] []
  refine z_iload_n C 0 dJ1_canEncode_fc78d_0 rfl ?_
  refine z_sipush C dJ1_canEncode_fc78d_1 (by decide) ?_
  refine z_icmp_gt C 11 dJ1_canEncode_fc78d_4 (by decide) (by omega) (by omega) (fun h4 => ?_) (fun h4 => ?_)
  · exfalso; omega
  · refine z_iconst C dJ1_canEncode_fc78d_7 ?_
    refine z_goto C 12 dJ1_canEncode_fc78d_8 (by decide) ?_
    exact z_zreturn C (by first | omega | (unfold bI; split <;> omega)) dJ1_canEncode_fc78d_12 (Nat.le_of_ble_eq_true rfl) (Nat.le_of_ble_eq_true rfl) ⟨rfl, rfl, rfl⟩

set_option maxRecDepth 100000 in
set_option maxHeartbeats 200000 in
theorem c_newLength {la : Launch} {G : zG} {X : (Nat → Prop) → State → Prop} (hX : zX X) {L : List Nat} {f : Nat → va_E} (a b c : Int) (ha : 1 ≤ a ∧ a ≤ 1000) (hb : 0 ≤ b ∧ b ≤ 1000) (hc : 0 ≤ c ∧ c ≤ 1000) : zM la G X yJ8_newLength_cabcc (.code yJ8_newLength_cabcc cJ8_newLength_cabcc 4 (some .int) :: zT) 1 0 0 [.int (iI a), .int (iI b), .int (iI c)] L f zeI (zRd L f (fun z => b ≤ c ∧ z = a + c ∨ c ≤ b ∧ z = a + b)) := by
  refine zM_intro hX (by decide) (Nat.le_of_ble_eq_true rfl) (fun pZ eZ sZ mZ aZ bZ hZ cZ AZ C hini => ?_)
  change ZW G pZ la eZ (zRm 1 0 0) sZ mZ aZ bZ hZ cZ AZ 4 0 0 _ L f 0 [(0, .int (iI a)), (1, .int (iI b)), (2, .int (iI c))] []
  refine z_iload_n C 0 dJ8_newLength_cabcc_0 rfl ?_
  refine z_iload_n C 1 dJ8_newLength_cabcc_1 rfl ?_
  refine z_iload_n C 2 dJ8_newLength_cabcc_2 rfl ?_
  refine z_mmax C zl_5_64 (Nat.le_of_ble_eq_true rfl) (Nat.le_of_ble_eq_true rfl) (Nat.le_of_ble_eq_true rfl) (by omega) (by omega) (Nat.le_of_ble_eq_true rfl) dJ8_newLength_cabcc_3 (fun w1 hw2 => ?_)
  refine z_iadd C dJ8_newLength_cabcc_6 ?_
  refine z_nm (fun x3 hx3 => ?_)
  refine z_istore_n (ls' := [(3, .int (iI x3)), (0, .int (iI a)), (1, .int (iI b)), (2, .int (iI c))]) C dJ8_newLength_cabcc_7 (Nat.le_of_ble_eq_true rfl) rfl ?_
  refine z_iconst C dJ8_newLength_cabcc_8 ?_
  refine z_iload_n C 0 dJ8_newLength_cabcc_9 rfl ?_
  refine z_icmp_ge C 21 dJ8_newLength_cabcc_10 (by decide) (by omega) (by omega) (fun h10 => ?_) (fun h10 => ?_)
  · exfalso; omega
  · refine z_iload_n C 0 dJ8_newLength_cabcc_13 rfl ?_
    refine z_ldc (n := 2147483639) C zl_5_65 rfl dJ8_newLength_cabcc_14 ?_
    refine z_icmp_gt C 21 dJ8_newLength_cabcc_16 (by decide) (by omega) (by omega) (fun h16 => ?_) (fun h16 => ?_)
    · exfalso; omega
    · refine z_iload_n C 0 dJ8_newLength_cabcc_19 rfl ?_
      exact z_ireturn C dJ8_newLength_cabcc_20 (Nat.le_of_ble_eq_true rfl) (Nat.le_of_ble_eq_true rfl) ⟨by omega, rfl, rfl⟩

set_option maxRecDepth 100000 in
set_option maxHeartbeats 200000 in
theorem c_sb_newCap {la : Launch} {G : zG} {X : (Nat → Prop) → State → Prop} (hX : zX X) {L : List Nat} {f : Nat → va_E} {w b : Nat} {x n : Int} {τ : Int → Int} (hob : zOb L f w 1 [.ref b, .int (iI 0), .int (iI x), .int (iI n)]) (hA : zA G 3 L f b 16 τ) (q : Int) (hq : 17 ≤ q ∧ q ≤ 34) : zM la G X yJ5_newCapacity_0f7a4 (.code yJ5_newCapacity_0f7a4 cJ5_newCapacity_0f7a4 6 (some .int) :: zT) 2 0 0 [.ref w, .int (iI q)] L f zeI (zRd L f (fun z => z = 34)) := by
  refine zM_intro hX (by decide) (Nat.le_of_ble_eq_true rfl) (fun pZ eZ sZ mZ aZ bZ hZ cZ AZ C hini => ?_)
  change ZW G pZ la eZ (zRm 2 0 0) sZ mZ aZ bZ hZ cZ AZ 6 0 0 _ L f 0 [(0, .ref w), (1, .int (iI q))] []
  refine z_aload_n C 0 dJ5_newCapacity_0f7a4_0 rfl ?_
  refine z_getf C 0 zin_J4 (hob.1) (hob.2) rfl (Nat.le_of_ble_eq_true rfl) zl_1_124 rfl rfl dJ5_newCapacity_0f7a4_1 ?_
  refine z_alen C (hA) rfl dJ5_newCapacity_0f7a4_4 ?_
  refine z_nm (fun x1 hx1 => ?_)
  refine z_istore_n (ls' := [(2, .int (iI x1)), (0, .ref w), (1, .int (iI q))]) C dJ5_newCapacity_0f7a4_5 (Nat.le_of_ble_eq_true rfl) rfl ?_
  refine z_iload_n C 2 dJ5_newCapacity_0f7a4_6 rfl ?_
  refine z_aload_n C 1 dJ5_newCapacity_0f7a4_7 rfl ?_
  refine z_getf C 1 zin_J4 (hob.1) (hob.2) rfl (Nat.le_of_ble_eq_true rfl) zl_1_125 rfl rfl dJ5_newCapacity_0f7a4_8 ?_
  refine z_ishl0 C dJ5_newCapacity_0f7a4_11 ?_
  refine z_istore_n (ls' := [(3, .int (iI q)), (2, .int (iI x1)), (0, .ref w), (1, .int (iI q))]) C dJ5_newCapacity_0f7a4_12 (Nat.le_of_ble_eq_true rfl) rfl ?_
  refine z_iload_n C 0 dJ5_newCapacity_0f7a4_13 rfl ?_
  refine z_iload_n C 1 dJ5_newCapacity_0f7a4_14 rfl ?_
  refine z_isub C dJ5_newCapacity_0f7a4_15 ?_
  refine z_nm (fun x2 hx2 => ?_)
  refine z_istore (ls' := [(4, .int (iI x2)), (3, .int (iI q)), (2, .int (iI x1)), (0, .ref w), (1, .int (iI q))]) C dJ5_newCapacity_0f7a4_16 (Nat.le_of_ble_eq_true rfl) rfl ?_
  refine z_iload_n C 2 dJ5_newCapacity_0f7a4_18 rfl ?_
  refine z_iload C 0 dJ5_newCapacity_0f7a4_19 rfl ?_
  refine z_iload_n C 2 dJ5_newCapacity_0f7a4_21 rfl ?_
  refine z_iconst C dJ5_newCapacity_0f7a4_22 ?_
  refine z_aload_n C 3 dJ5_newCapacity_0f7a4_23 rfl ?_
  refine z_getf C 1 zin_J4 (hob.1) (hob.2) rfl (Nat.le_of_ble_eq_true rfl) zl_1_125 rfl rfl dJ5_newCapacity_0f7a4_24 ?_
  refine z_ishl0 C dJ5_newCapacity_0f7a4_27 ?_
  refine z_iadd C dJ5_newCapacity_0f7a4_28 ?_
  refine z_cS (As := [.int (iI x1), .int (iI x2), .int (iI (x1 + 2))]) C zc_J8_newLength_cabcc (c_newLength hX x1 x2 (x1 + 2) (by omega) (by omega) (by omega)) zl_5_61 (Nat.le_of_ble_eq_true rfl) (Nat.le_of_ble_eq_true rfl) (Nat.le_of_ble_eq_true rfl) rfl rfl (Nat.le_of_ble_eq_true rfl) dJ5_newCapacity_0f7a4_29 (fun zl L3 f4 hzl => ?_)
  obtain ⟨hzl, rfl, rfl⟩ := hzl
  change ZW G pZ la eZ (zRm 2 0 0) sZ mZ aZ bZ hZ cZ AZ 6 0 0 _ L f 32 [(4, .int (iI x2)), (3, .int (iI q)), (2, .int (iI x1)), (0, .ref w), (1, .int (iI q))] [.int (iI zl)]
  refine z_istore (ls' := [(5, .int (iI zl)), (4, .int (iI x2)), (3, .int (iI q)), (2, .int (iI x1)), (0, .ref w), (1, .int (iI q))]) C dJ5_newCapacity_0f7a4_32 (Nat.le_of_ble_eq_true rfl) rfl ?_
  refine z_iload C 0 dJ5_newCapacity_0f7a4_34 rfl ?_
  refine z_ldc (n := 2147483647) C zl_5_69 rfl dJ5_newCapacity_0f7a4_36 ?_
  refine z_icmp_ne C 51 dJ5_newCapacity_0f7a4_38 (by decide) (by omega) (by omega) (fun h38 => ?_) (fun h38 => ?_)
  · refine z_iload C 0 dJ5_newCapacity_0f7a4_51 rfl ?_
    refine z_aload_n C 4 dJ5_newCapacity_0f7a4_53 rfl ?_
    refine z_getf C 1 zin_J4 (hob.1) (hob.2) rfl (Nat.le_of_ble_eq_true rfl) zl_1_125 rfl rfl dJ5_newCapacity_0f7a4_54 ?_
    refine z_ishr0 C dJ5_newCapacity_0f7a4_57 ?_
    exact z_ireturn C dJ5_newCapacity_0f7a4_58 (Nat.le_of_ble_eq_true rfl) (Nat.le_of_ble_eq_true rfl) ⟨by omega, rfl, rfl⟩
  · exfalso; omega

set_option maxRecDepth 100000 in
set_option maxHeartbeats 200000 in
theorem c_sb_copyOf {la : Launch} {G : zG} {X : (Nat → Prop) → State → Prop} (hX : zX X) {L : List Nat} {f : Nat → va_E} {a : Nat} {τ : Int → Int} (hA : zA G 3 L f a 16 τ)  (hbd : ∀ j : Int, 0 ≤ j → j < 16 → 0 ≤ τ j ∧ τ j < 128) : zM la G X yJ7_copyOf_9075b (.code yJ7_copyOf_9075b cJ7_copyOf_9075b 3 (some (.array .byte)) :: zT) 2 1 34 [.ref a, .int (iI 34)] L f zeQ (fun z L' f' => ∃ q, z = some q ∧ q ∉ L ∧ zExt L f L' f' ∧ zA G 3 L' f' q 34 (zcpy τ (fun _ => 0) 0 16)) := by
  refine zM_intro hX (by decide) (Nat.le_of_ble_eq_true rfl) (fun pZ eZ sZ mZ aZ bZ hZ cZ AZ C hini => ?_)
  change ZW G pZ la eZ (zRm 2 1 34) sZ mZ aZ bZ hZ cZ AZ 3 0 0 _ L f 0 [(0, .ref a), (1, .int (iI 34))] []
  refine z_iload_n C 1 dJ7_copyOf_9075b_0 rfl ?_
  refine z_aload_n C 0 dJ7_copyOf_9075b_1 rfl ?_
  refine z_alen C (hA) rfl dJ7_copyOf_9075b_2 ?_
  refine z_icmp_ne C 14 dJ7_copyOf_9075b_3 (by decide) (by omega) (by omega) (fun h3 => ?_) (fun h3 => ?_)
  · refine z_iload_n C 1 dJ7_copyOf_9075b_14 rfl ?_
    refine z_newa (ty := .byte) C 3 34 zl_1_138 rfl rfl rfl (fun U cA h => h) rfl (Nat.le_of_ble_eq_true rfl) (Nat.le_of_ble_eq_true rfl) (Nat.le_of_ble_eq_true rfl) (Nat.le_of_ble_eq_true rfl) dJ7_copyOf_9075b_15 (fun q1 L2 f3 hq4 hL5 hA6 hk7 => ?_)
    have hE8 := zExt_q hq4 hL5 hk7
    have hA9 := zA_e hA hE8
    change ZW G pZ la eZ (zRm 2 1 34) sZ mZ aZ bZ hZ cZ AZ 3 1 34 _ L2 f3 17 [(0, .ref a), (1, .int (iI 34))] [.ref q1]
    refine z_astore_n (ls' := [(2, .ref q1), (0, .ref a), (1, .int (iI 34))]) C dJ7_copyOf_9075b_17 (Nat.le_of_ble_eq_true rfl) rfl ?_
    refine z_aload_n C 1 dJ7_copyOf_9075b_18 rfl ?_
    refine z_iconst C dJ7_copyOf_9075b_19 ?_
    refine z_aload_n C 0 dJ7_copyOf_9075b_20 rfl ?_
    refine z_iconst C dJ7_copyOf_9075b_21 ?_
    refine z_aload_n C 1 dJ7_copyOf_9075b_22 rfl ?_
    refine z_alen C (hA9) rfl dJ7_copyOf_9075b_23 ?_
    refine z_iload_n C 2 dJ7_copyOf_9075b_24 rfl ?_
    refine z_mmin C zl_5_80 (Nat.le_of_ble_eq_true rfl) (Nat.le_of_ble_eq_true rfl) (Nat.le_of_ble_eq_true rfl) (by omega) (by omega) (Nat.le_of_ble_eq_true rfl) dJ7_copyOf_9075b_25 (fun w10 hw11 => ?_)
    refine z_copyB C hA9 hA6 zl_5_81 (by omega) (fun j q0 q1 => hbd j q0 (by omega)) (Nat.le_of_ble_eq_true rfl) (Nat.le_of_ble_eq_true rfl) dJ7_copyOf_9075b_28 (fun f12 ha13 hk14 => ?_)
    refine z_aload_n C 0 dJ7_copyOf_9075b_31 rfl ?_
    change ZW G pZ la eZ (zRm 2 1 34) sZ mZ aZ bZ hZ cZ AZ 3 _ _ _ _ _ _ _ [va_rf (some q1)]
    exact z_qreturnA C dJ7_copyOf_9075b_32 (Nat.le_of_ble_eq_true rfl) (Nat.le_of_ble_eq_true rfl) ⟨_, rfl, hq4, (fun c hc => ⟨(hE8 c hc).1, (hk14 c (fun w => hq4 (w ▸ hc))).trans (hE8 c hc).2⟩), by rw [show (16 : Int) = w10 by omega]; exact ha13⟩
  · exfalso; omega

set_option maxRecDepth 100000 in
set_option maxHeartbeats 200000 in
theorem c_sb_ensure {la : Launch} {G : zG} {X : (Nat → Prop) → State → Prop} (hX : zX X) {L : List Nat} {f : Nat → va_E} {w b m : Nat} {x n : Int} {τ : Int → Int} (hob : zOb L f w 1 [.ref b, .int (iI 0), .int (iI x), .int (iI n)]) (hA : zA G 3 L f b m τ) (hP : zT3 X) (q : Int) (hm : m = 16 ∨ m = 34) (hbd : ∀ j : Int, 0 ≤ j → j < m → 0 ≤ τ j ∧ τ j < 128) (hq : 0 ≤ q ∧ q ≤ 34) : zM la G X yJ5_ensureCapacityInternal_d00df (.code yJ5_ensureCapacityInternal_d00df cJ5_ensureCapacityInternal_d00df 3 none :: zT) 3 1 34 [.ref w, .int (iI q)] L f zeV (fun _ L' f' => ∃ (b' m' : Nat) (τ' : Int → Int), zOb L' f' w 1 [.ref b', .int (iI 0), .int (iI x), .int (iI n)] ∧ zA G 3 L' f' b' m' τ' ∧ (m' = 16 ∨ m' = 34) ∧ q ≤ m' ∧ m ≤ m' ∧ (∀ j : Int, 0 ≤ j → j < m → τ' j = τ j) ∧ (∀ j : Int, 0 ≤ j → j < m' → 0 ≤ τ' j ∧ τ' j < 128) ∧ zSbP L f w b L' f' b') := by
  refine zM_intro hX (by decide) (Nat.le_of_ble_eq_true rfl) (fun pZ eZ sZ mZ aZ bZ hZ cZ AZ C hini => ?_)
  change ZW G pZ la eZ (zRm 3 1 34) sZ mZ aZ bZ hZ cZ AZ 3 0 0 _ L f 0 [(0, .ref w), (1, .int (iI q))] []
  have hP0 := zSbP_r L f w b
  refine z_aload_n C 0 dJ5_ensureCapacityInternal_d00df_0 rfl ?_
  refine z_getf C 0 zin_J4 (hob.1) (hob.2) rfl (Nat.le_of_ble_eq_true rfl) zl_1_124 rfl rfl dJ5_ensureCapacityInternal_d00df_1 ?_
  refine z_alen C (hA) rfl dJ5_ensureCapacityInternal_d00df_4 ?_
  refine z_aload_n C 0 dJ5_ensureCapacityInternal_d00df_5 rfl ?_
  refine z_getf C 1 zin_J4 (hob.1) (hob.2) rfl (Nat.le_of_ble_eq_true rfl) zl_1_125 rfl rfl dJ5_ensureCapacityInternal_d00df_6 ?_
  refine z_ishr0 C dJ5_ensureCapacityInternal_d00df_9 ?_
  refine z_nm (fun x1 hx1 => ?_)
  refine z_istore_n (ls' := [(2, .int (iI x1)), (0, .ref w), (1, .int (iI q))]) C dJ5_ensureCapacityInternal_d00df_10 (Nat.le_of_ble_eq_true rfl) rfl ?_
  refine z_iload_n C 2 dJ5_ensureCapacityInternal_d00df_11 rfl ?_
  refine z_iload_n C 0 dJ5_ensureCapacityInternal_d00df_12 rfl ?_
  refine z_isub C dJ5_ensureCapacityInternal_d00df_13 ?_
  refine z_if_le C 38 dJ5_ensureCapacityInternal_d00df_14 (by decide) (by omega) (fun h14 => ?_) (fun h14 => ?_)
  · exact z_vreturn C dJ5_ensureCapacityInternal_d00df_38 (Nat.le_of_ble_eq_true rfl) (Nat.le_of_ble_eq_true rfl) ⟨b, m, τ, hob, hA, hm, by omega, Nat.le_refl _, fun j _ _ => rfl, hbd, hP0⟩
  · obtain rfl : m = 16 := by omega
    refine z_aload_n C 1 dJ5_ensureCapacityInternal_d00df_17 rfl ?_
    refine z_aload_n C 1 dJ5_ensureCapacityInternal_d00df_18 rfl ?_
    refine z_getf C 0 zin_J4 (hob.1) (hob.2) rfl (Nat.le_of_ble_eq_true rfl) zl_1_124 rfl rfl dJ5_ensureCapacityInternal_d00df_19 ?_
    refine z_aload_n C 1 dJ5_ensureCapacityInternal_d00df_22 rfl ?_
    refine z_iload_n C 2 dJ5_ensureCapacityInternal_d00df_23 rfl ?_
    refine z_cVS (n := 1) (As := [.int (iI q)]) C (va_Nw.use rfl (hP _ _ C.x _ (List.mem_of_getElem? (i := 1) rfl))) zl_5_60 zl_5_59 zl_1_7 ⟨by decide +kernel, by decide +kernel, by decide +kernel⟩ (by decide) (c_sb_newCap hX hob hA q (by omega)) zl_5_57 (Nat.le_of_ble_eq_true rfl) (Nat.le_of_ble_eq_true rfl) (Nat.le_of_ble_eq_true rfl) hob rfl rfl (Nat.le_of_ble_eq_true rfl) dJ5_ensureCapacityInternal_d00df_24 (fun z2 L3 f4 hz5 => ?_)
    obtain ⟨hz5, rfl, rfl⟩ := hz5
    subst hz5
    change ZW G pZ la eZ (zRm 3 1 34) sZ mZ aZ bZ hZ cZ AZ 3 0 0 _ L f 27 [(2, .int (iI x1)), (0, .ref w), (1, .int (iI q))] [.int (iI 34), .ref b, .ref w]
    refine z_aload_n C 1 dJ5_ensureCapacityInternal_d00df_27 rfl ?_
    refine z_getf C 1 zin_J4 (hob.1) (hob.2) rfl (Nat.le_of_ble_eq_true rfl) zl_1_125 rfl rfl dJ5_ensureCapacityInternal_d00df_28 ?_
    refine z_ishl0 C dJ5_ensureCapacityInternal_d00df_31 ?_
    refine z_cS (As := [.ref b, .int (iI 34)]) C zc_J7_copyOf_9075b (c_sb_copyOf hX hA hbd) zl_5_70 (Nat.le_of_ble_eq_true rfl) (Nat.le_of_ble_eq_true rfl) (Nat.le_of_ble_eq_true rfl) rfl rfl (Nat.le_of_ble_eq_true rfl) dJ5_ensureCapacityInternal_d00df_32 (fun z6 L7 f8 hz9 => ?_)
    obtain ⟨q9, rfl, hq9, he9, hA9⟩ := hz9
    have hob10 := zOb_e hob he9
    have hP11 : zSbP L f w b L7 f8 q9 := zSbP_e he9 hq9
    change ZW G pZ la eZ (zRm 3 1 34) sZ mZ aZ bZ hZ cZ AZ 3 1 34 _ L7 f8 35 [(2, .int (iI x1)), (0, .ref w), (1, .int (iI q))] [.ref q9, .ref w]
    refine z_putG C 0 zin_J4 tyJ4_ok nmJ4 hob10.1 hob10.2 rfl (Nat.le_of_ble_eq_true rfl) zl_1_124 rfl rfl rfl rfl rfl (Nat.le_of_ble_eq_true rfl) dJ5_ensureCapacityInternal_d00df_35 (fun f12 hf13 hk14 => ?_)
    have hob15 : zOb L7 f12 w 1 [.ref q9, .int (iI 0), .int (iI x), .int (iI n)] := ⟨hob10.1, hf13⟩
    have hA17 := zA_wO hA9 hob10.2 hk14
    have hP16 := zSbP_o hP11 hk14
    exact z_vreturn C dJ5_ensureCapacityInternal_d00df_38 (Nat.le_of_ble_eq_true rfl) (Nat.le_of_ble_eq_true rfl) ⟨q9, 34, _, hob15, hA17, Or.inr rfl, by omega, by omega, fun j q0 q1 => by unfold zcpy; rw [if_pos (by omega), show j - 0 = j by omega], fun j q0 q1 => by unfold zcpy; split; exact hbd _ (by omega) (by omega); exact ⟨by show (0 : Int) ≤ 0; decide, by show (0 : Int) < 128; decide⟩, hP16⟩

set_option maxRecDepth 100000 in
set_option maxHeartbeats 200000 in
theorem c_sb_app5C {la : Launch} {G : zG} {X : (Nat → Prop) → State → Prop} (hX : zX X) {L : List Nat} {f : Nat → va_E} {ax : Nat → Nat × Nat} {w b m : Nat} {t : List Int} (hSb : zSb G L f w b m t) (hT : zT1 X ax) (hP : zT3 X) (c : Int) (hc : 0 ≤ c ∧ c < 128) (hl : t.length < 34) : zM la G X yJ5_append_3fe6f (.code yJ5_append_3fe6f cJ5_append_3fe6f 2 (some (.object "java/lang/AbstractStringBuilder")) :: zT) 4 1 34 [.ref w, .int (iI c)] L f zeQ (fun z L' f' => z = some w ∧ ∃ b' m' : Nat, zSb G L' f' w b' m' (t ++ [c]) ∧ zSbP L f w b L' f' b') := by
  refine zM_intro hX (by decide) (Nat.le_of_ble_eq_true rfl) (fun pZ eZ sZ mZ aZ bZ hZ cZ AZ C hini => ?_)
  change ZW G pZ la eZ (zRm 4 1 34) sZ mZ aZ bZ hZ cZ AZ 2 0 0 _ L f 0 [(0, .ref w), (1, .int (iI c))] []
  obtain ⟨x, τ, hob, hA, hm, hlt, hτ, hbd, hx⟩ := hSb
  have hP0 := zSbP_r L f w b
  refine z_aload_n C 0 dJ5_append_3fe6f_0 rfl ?_
  refine z_aload_n C 0 dJ5_append_3fe6f_1 rfl ?_
  refine z_getf C 3 zin_J4 (hob.1) (hob.2) rfl (Nat.le_of_ble_eq_true rfl) zl_1_128 rfl rfl dJ5_append_3fe6f_2 ?_
  refine z_iconst C dJ5_append_3fe6f_5 ?_
  refine z_iadd C dJ5_append_3fe6f_6 ?_
  refine z_cVS (n := 1) (As := [.int (iI ((t.length : Int) + 1))]) C (va_Nw.use rfl (hP _ _ C.x _ (List.mem_of_getElem? (i := 0) rfl))) zl_5_56 zl_5_55 zl_1_7 ⟨by decide +kernel, by decide +kernel, by decide +kernel⟩ (by decide) (c_sb_ensure hX hob hA hP ((t.length : Int) + 1) hm hbd (by omega)) zl_5_53 (Nat.le_of_ble_eq_true rfl) (Nat.le_of_ble_eq_true rfl) (Nat.le_of_ble_eq_true rfl) hob rfl rfl (Nat.le_of_ble_eq_true rfl) dJ5_append_3fe6f_7 (fun z1 L2 f3 hz4 => ?_)
  obtain ⟨bE, mE, τE, hobE, hAE, hmE, hqE, hmmE, htE, hbdE, hPE⟩ := hz4
  change ZW G pZ la eZ (zRm 4 1 34) sZ mZ aZ bZ hZ cZ AZ 2 1 34 _ L2 f3 10 [(0, .ref w), (1, .int (iI c))] []
  refine z_aload_n C 0 dJ5_append_3fe6f_10 rfl ?_
  refine z_cVS (n := 0) (As := []) C (C.w zl_5_87 rfl) zl_5_88 zl_5_85 zl_1_7 ⟨by decide +kernel, by decide +kernel, by decide +kernel⟩ (by decide) (c_sb_isL hX hobE hT) zl_5_84 (Nat.le_of_ble_eq_true rfl) (Nat.le_of_ble_eq_true rfl) (Nat.le_of_ble_eq_true rfl) hobE rfl rfl (Nat.le_of_ble_eq_true rfl) dJ5_append_3fe6f_11 (fun z5 L6 f7 hz8 => ?_)
  obtain ⟨hz8, rfl, rfl⟩ := hz8
  subst hz8
  change ZW G pZ la eZ (zRm 4 1 34) sZ mZ aZ bZ hZ cZ AZ 2 1 34 _ L2 f3 14 [(0, .ref w), (1, .int (iI c))] [.int (iI 1)]
  refine z_if_eq C 45 dJ5_append_3fe6f_14 (by decide) (by omega) (fun h14 => ?_) (fun h14 => ?_)
  · exfalso; omega
  · refine z_iload_n C 1 dJ5_append_3fe6f_17 rfl ?_
    refine z_cS (As := [.int (iI c)]) C zc_J1_canEncode_fc78d (c_canEncode hX c (by omega)) zl_6_51 (Nat.le_of_ble_eq_true rfl) (Nat.le_of_ble_eq_true rfl) (Nat.le_of_ble_eq_true rfl) rfl rfl (Nat.le_of_ble_eq_true rfl) dJ5_append_3fe6f_18 (fun z9 L10 f11 hz12 => ?_)
    obtain ⟨hz12, rfl, rfl⟩ := hz12
    subst hz12
    change ZW G pZ la eZ (zRm 4 1 34) sZ mZ aZ bZ hZ cZ AZ 2 1 34 _ L2 f3 21 [(0, .ref w), (1, .int (iI c))] [.int (iI 1)]
    refine z_if_eq C 45 dJ5_append_3fe6f_21 (by decide) (by omega) (fun h21 => ?_) (fun h21 => ?_)
    · exfalso; omega
    · refine z_aload_n C 0 dJ5_append_3fe6f_24 rfl ?_
      refine z_getf C 0 zin_J4 (hobE.1) (hobE.2) rfl (Nat.le_of_ble_eq_true rfl) zl_1_124 rfl rfl dJ5_append_3fe6f_25 ?_
      refine z_aload_n C 0 dJ5_append_3fe6f_28 rfl ?_
      refine z_dup C dJ5_append_3fe6f_29 rfl ?_
      refine z_getf C 3 zin_J4 (hobE.1) (hobE.2) rfl (Nat.le_of_ble_eq_true rfl) zl_1_128 rfl rfl dJ5_append_3fe6f_30 ?_
      refine z_dup_x1 C dJ5_append_3fe6f_33 rfl rfl ?_
      refine z_iconst C dJ5_append_3fe6f_34 ?_
      refine z_iadd C dJ5_append_3fe6f_35 ?_
      refine z_putG C 3 zin_J4 tyJ4_ok nmJ4 hobE.1 hobE.2 rfl (Nat.le_of_ble_eq_true rfl) zl_1_128 rfl rfl rfl rfl rfl (Nat.le_of_ble_eq_true rfl) dJ5_append_3fe6f_36 (fun f13 hf14 hk15 => ?_)
      have hob16 : zOb L2 f13 w 1 [.ref bE, .int (iI 0), .int (iI x), .int (iI ((t.length : Int) + 1))] := ⟨hobE.1, hf14⟩
      have hA18 := zA_wO hAE hobE.2 hk15
      have hP17 := zSbP_o hPE hk15
      refine z_iload_n C 1 dJ5_append_3fe6f_39 rfl ?_
      refine z_i2b C (by omega) dJ5_append_3fe6f_40 ?_
      refine z_bast C (hA18) (by omega) (by omega) (by omega) (z_nar8 (by omega)) dJ5_append_3fe6f_41 (fun f19 ha20 hk21 => ?_)
      have hob22 : zOb L2 f19 w 1 [.ref bE, .int (iI 0), .int (iI x), .int (iI ((t.length : Int) + 1))] := ⟨hob16.1, by rw [hk21 _ (zne_A hob16.2 hA18)]; exact hob16.2⟩
      have hP23 := zSbP_a hP17 hk21
      refine z_goto C 75 dJ5_append_3fe6f_42 (by decide) ?_
      refine z_aload_n C 0 dJ5_append_3fe6f_75 rfl ?_
      change ZW G pZ la eZ (zRm 4 1 34) sZ mZ aZ bZ hZ cZ AZ 2 _ _ _ _ _ _ _ [va_rf (some w)]
      exact z_qreturn C dJ5_append_3fe6f_76 (Nat.le_of_ble_eq_true rfl) (Nat.le_of_ble_eq_true rfl) ⟨rfl, _, _, zSb_of (τ := τE) hob22 ha20 hmE (by first | omega | (simp; try omega)) (by omega) (fun j q0 q1 => (htE j q0 (by omega)).trans (hτ j q0 q1)) hbdE hx (zgood_1 hc) (fun j q0 q1 => by unfold zup; by_cases q : j = (t.length : Int); (rw [if_pos q, if_pos (by omega), q, show ((t.length : Int) - t.length).toNat = 0 by omega]; rfl); (rw [if_neg q, if_neg (by omega)])), hP23⟩

set_option maxRecDepth 100000 in
set_option maxHeartbeats 200000 in
theorem c_strSize {la : Launch} {G : zG} {X : (Nat → Prop) → State → Prop} (hX : zX X) {L : List Nat} {f : Nat → va_E} (n : Int) (hn : 0 ≤ n ∧ n ≤ 99) : zM la G X yJ6_stringSize_0f7a4 (.code yJ6_stringSize_0f7a4 cJ6_stringSize_0f7a4 4 (some .int) :: zT) 0 0 0 [.int (iI n)] L f zeI (zRd L f (fun z => z = (zdig n).length)) := by
  refine zM_intro hX (by decide) (Nat.le_of_ble_eq_true rfl) (fun pZ eZ sZ mZ aZ bZ hZ cZ AZ C hini => ?_)
  change ZW G pZ la eZ (zRm 0 0 0) sZ mZ aZ bZ hZ cZ AZ 4 0 0 _ L f 0 [(0, .int (iI n))] []
  have hdl : (n ≤ 9 ∧ ((zdig n).length : Int) = 1) ∨ (10 ≤ n ∧ ((zdig n).length : Int) = 2) := by unfold zdig; split <;> simp <;> omega
  refine z_iconst C dJ6_stringSize_0f7a4_0 ?_
  refine z_istore_n (ls' := [(1, .int (iI 1)), (0, .int (iI n))]) C dJ6_stringSize_0f7a4_1 (Nat.le_of_ble_eq_true rfl) rfl ?_
  refine z_iload_n C 1 dJ6_stringSize_0f7a4_2 rfl ?_
  refine z_if_lt C 11 dJ6_stringSize_0f7a4_3 (by decide) (by omega) (fun h3 => ?_) (fun h3 => ?_)
  · exfalso; omega
  · refine z_iconst C dJ6_stringSize_0f7a4_6 ?_
    refine z_istore_n (ls' := [(1, .int (iI 0)), (0, .int (iI n))]) C dJ6_stringSize_0f7a4_7 (Nat.le_of_ble_eq_true rfl) rfl ?_
    refine z_iload_n C 1 dJ6_stringSize_0f7a4_8 rfl ?_
    refine z_ineg C dJ6_stringSize_0f7a4_9 ?_
    refine z_nm (fun x1 hx1 => ?_)
    refine z_istore_n (ls' := [(0, .int (iI x1)), (1, .int (iI 0))]) C dJ6_stringSize_0f7a4_10 (Nat.le_of_ble_eq_true rfl) rfl ?_
    refine z_bipush C dJ6_stringSize_0f7a4_11 (by decide) ?_
    refine z_istore_n (ls' := [(2, .int (iI (-10))), (0, .int (iI x1)), (1, .int (iI 0))]) C dJ6_stringSize_0f7a4_13 (Nat.le_of_ble_eq_true rfl) rfl ?_
    refine z_iconst C dJ6_stringSize_0f7a4_14 ?_
    refine z_istore_n (ls' := [(3, .int (iI 1)), (2, .int (iI (-10))), (0, .int (iI x1)), (1, .int (iI 0))]) C dJ6_stringSize_0f7a4_15 (Nat.le_of_ble_eq_true rfl) rfl ?_
    have key16 : ∀ (n16 : Nat) (p : Int) (i : Int) , (i = 1 ∧ p = -10 ∨ i = 2 ∧ p = -100 ∧ 10 ≤ n) → 10 - i < (n16 : Int) → ZW G pZ la eZ (zRm 0 0 0) sZ mZ aZ bZ hZ cZ AZ 4 0 0 (MQ bZ (zQ G zeI (zRd L f (fun z => z = (zdig n).length)) AZ) aZ sZ 0 0 AZ) L f 16 [(0, .int (iI x1)), (1, .int (iI 0)), (2, .int (iI p)), (3, .int (iI i))] [] := by
      intro n16
      induction n16 with
      | zero => intro p i  hi16 hn16; exfalso; omega
      | succ n16 ih16 =>
        intro p i  hi16 hn16
        have hip := hi16
        refine z_iload_n C 3 dJ6_stringSize_0f7a4_16 rfl ?_
        refine z_bipush C dJ6_stringSize_0f7a4_17 (by decide) ?_
        refine z_icmp_ge C 42 dJ6_stringSize_0f7a4_19 (by decide) (by omega) (by omega) (fun h19 => ?_) (fun h19 => ?_)
        · refine z_bipush C dJ6_stringSize_0f7a4_42 (by decide) ?_
          refine z_iload_n C 1 dJ6_stringSize_0f7a4_44 rfl ?_
          refine z_iadd C dJ6_stringSize_0f7a4_45 ?_
          exact z_ireturn C dJ6_stringSize_0f7a4_46 (Nat.le_of_ble_eq_true rfl) (Nat.le_of_ble_eq_true rfl) ⟨by omega, rfl, rfl⟩
        · refine z_iload_n C 0 dJ6_stringSize_0f7a4_22 rfl ?_
          refine z_iload_n C 2 dJ6_stringSize_0f7a4_23 rfl ?_
          refine z_icmp_le C 31 dJ6_stringSize_0f7a4_24 (by decide) (by omega) (by omega) (fun h24 => ?_) (fun h24 => ?_)
          · refine z_bipush C dJ6_stringSize_0f7a4_31 (by decide) ?_
            refine z_iload_n C 2 dJ6_stringSize_0f7a4_33 rfl ?_
            refine z_imul C dJ6_stringSize_0f7a4_34 ?_
            refine z_istore_n (ls' := [(2, .int (iI (10 * p))), (0, .int (iI x1)), (1, .int (iI 0)), (3, .int (iI i))]) C dJ6_stringSize_0f7a4_35 (Nat.le_of_ble_eq_true rfl) rfl ?_
            refine z_iinc (ls' := [(3, .int (iI (i + 1))), (2, .int (iI (10 * p))), (0, .int (iI x1)), (1, .int (iI 0))]) C 3 dJ6_stringSize_0f7a4_36 rfl (Nat.le_of_ble_eq_true rfl) rfl ?_
            refine z_goto C 16 dJ6_stringSize_0f7a4_39 (by decide) ?_
            refine z_perm [2, 3, 1, 0] rfl ?_
            exact ih16 _ _  (by omega) (by omega)
          · refine z_iload_n C 3 dJ6_stringSize_0f7a4_27 rfl ?_
            refine z_iload_n C 1 dJ6_stringSize_0f7a4_28 rfl ?_
            refine z_iadd C dJ6_stringSize_0f7a4_29 ?_
            exact z_ireturn C dJ6_stringSize_0f7a4_30 (Nat.le_of_ble_eq_true rfl) (Nat.le_of_ble_eq_true rfl) ⟨by omega, rfl, rfl⟩
    refine z_perm [2, 3, 1, 0] rfl ?_
    exact key16 2000 _ _  (by omega) (by omega)

set_option maxRecDepth 100000 in
set_option maxHeartbeats 200000 in
theorem c_getChars {la : Launch} {G : zG} {X : (Nat → Prop) → State → Prop} (hX : zX X) {L : List Nat} {f : Nat → va_E} {ax : Nat → Nat × Nat} (hT : zT1 X ax) {b m : Nat} {τ : Int → Int} (hA : zA G 3 L f b m τ) (n e : Int) (hn : 0 ≤ n ∧ n ≤ 99) (he : (zdig n).length ≤ e ∧ e ≤ m) (hm : m < 1000) : zM la G X yJ6_getChars_ba4f3 (.code yJ6_getChars_ba4f3 cJ6_getChars_ba4f3 7 (some .int) :: zT) 0 0 0 [.int (iI n), .int (iI e), .ref b] L f zeI (fun _ L' f' => L = L' ∧ zA G 3 L f' b m (zcpy (fun j => (zdig n).getD j.toNat 0) τ (e - (zdig n).length) (zdig n).length) ∧ ∀ c, c ≠ b → f' c = f c) := by
  refine zM_intro hX (by decide) (Nat.le_of_ble_eq_true rfl) (fun pZ eZ sZ mZ aZ bZ hZ cZ AZ C hini => ?_)
  change ZW G pZ la eZ (zRm 0 0 0) sZ mZ aZ bZ hZ cZ AZ 7 0 0 _ L f 0 [(0, .int (iI n)), (1, .int (iI e)), (2, .ref b)] []
  have hdl : (n ≤ 9 ∧ ((zdig n).length : Int) = 1) ∨ (10 ≤ n ∧ ((zdig n).length : Int) = 2) := by unfold zdig; split <;> simp <;> omega
  refine z_iload_n C 1 dJ6_getChars_ba4f3_0 rfl ?_
  refine z_istore (ls' := [(5, .int (iI e)), (0, .int (iI n)), (1, .int (iI e)), (2, .ref b)]) C dJ6_getChars_ba4f3_1 (Nat.le_of_ble_eq_true rfl) rfl ?_
  refine z_iload_n C 1 dJ6_getChars_ba4f3_3 rfl ?_
  refine z_if_ge C 11 dJ6_getChars_ba4f3_4 (by decide) (by omega) (fun h4 => ?_) (fun h4 => ?_)
  · refine z_iconst C dJ6_getChars_ba4f3_11 ?_
    refine z_istore (ls' := [(6, .int (iI 0)), (5, .int (iI e)), (0, .int (iI n)), (1, .int (iI e)), (2, .ref b)]) C dJ6_getChars_ba4f3_12 (Nat.le_of_ble_eq_true rfl) rfl ?_
    refine z_iload C 0 dJ6_getChars_ba4f3_14 rfl ?_
    refine z_if_ne C 22 dJ6_getChars_ba4f3_16 (by decide) (by omega) (fun h16 => ?_) (fun h16 => ?_)
    · exfalso; omega
    · refine z_iload_n C 2 dJ6_getChars_ba4f3_19 rfl ?_
      refine z_ineg C dJ6_getChars_ba4f3_20 ?_
      refine z_nm (fun x1 hx1 => ?_)
      refine z_istore_n (ls' := [(0, .int (iI x1)), (6, .int (iI 0)), (5, .int (iI e)), (1, .int (iI e)), (2, .ref b)]) C dJ6_getChars_ba4f3_21 (Nat.le_of_ble_eq_true rfl) rfl ?_
      refine z_iload_n C 0 dJ6_getChars_ba4f3_22 rfl ?_
      refine z_bipush C dJ6_getChars_ba4f3_23 (by decide) ?_
      refine z_icmp_gt C 72 dJ6_getChars_ba4f3_25 (by decide) (by omega) (by omega) (fun h25 => ?_) (fun h25 => ?_)
      · refine z_aload_n C 4 dJ6_getChars_ba4f3_72 rfl ?_
        refine z_iinc (ls' := [(5, .int (iI (e + (-1)))), (0, .int (iI x1)), (6, .int (iI 0)), (1, .int (iI e)), (2, .ref b)]) C 2 dJ6_getChars_ba4f3_73 rfl (Nat.le_of_ble_eq_true rfl) rfl ?_
        refine z_iload C 0 dJ6_getChars_ba4f3_76 rfl ?_
        refine z_gets C (hT _ _ C.x).2.2.2.1.1 zl_5_171 dJ6_getChars_ba4f3_78 ?_
        refine z_iload_n C 1 dJ6_getChars_ba4f3_81 rfl ?_
        refine z_ineg C dJ6_getChars_ba4f3_82 ?_
        refine z_tb (x := (48 + ((-x1).toNat : Int) % 10)) C ((hT _ _ C.x).2.2.2.1.2) (by omega) (by omega) (by omega) rfl dJ6_getChars_ba4f3_83 ?_
        have hdo : 48 + ((-x1).toNat : Int) % 10 = 48 + (-x1) % 10 := by rw [Int.toNat_of_nonneg (by omega)]
        refine z_bast C (hA) (by omega) (by omega) (by omega) (z_nar8 (by omega)) dJ6_getChars_ba4f3_84 (fun f2 ha3 hk4 => ?_)
        have hkk5 : ∀ c, c ≠ b → f2 c = f c := fun c q => by rw [hk4 c q]
        refine z_iload_n C 1 dJ6_getChars_ba4f3_85 rfl ?_
        refine z_bipush C dJ6_getChars_ba4f3_86 (by decide) ?_
        refine z_icmp_ge C 104 dJ6_getChars_ba4f3_88 (by decide) (by omega) (by omega) (fun h88 => ?_) (fun h88 => ?_)
        · refine z_iload C 2 dJ6_getChars_ba4f3_104 rfl ?_
          refine z_if_eq C 118 dJ6_getChars_ba4f3_106 (by decide) (by omega) (fun h106 => ?_) (fun h106 => ?_)
          · refine z_iload C 0 dJ6_getChars_ba4f3_118 rfl ?_
            exact z_ireturn C dJ6_getChars_ba4f3_120 (Nat.le_of_ble_eq_true rfl) (Nat.le_of_ble_eq_true rfl) ⟨rfl, zA_cong ha3 (fun j q0 q1 => by first | exact zdig_w1 (by omega) (by omega) _ j | exact zdig_w2 (by omega) (by omega) (by omega) _ j), hkk5⟩
          · exfalso; omega
        · refine z_aload_n C 4 dJ6_getChars_ba4f3_91 rfl ?_
          refine z_iinc (ls' := [(5, .int (iI (e + (-1) + (-1)))), (0, .int (iI x1)), (6, .int (iI 0)), (1, .int (iI e)), (2, .ref b)]) C 0 dJ6_getChars_ba4f3_92 rfl (Nat.le_of_ble_eq_true rfl) rfl ?_
          refine z_iload C 0 dJ6_getChars_ba4f3_95 rfl ?_
          refine z_gets C (hT _ _ C.x).2.2.2.2.1 zl_5_173 dJ6_getChars_ba4f3_97 ?_
          refine z_iload_n C 1 dJ6_getChars_ba4f3_100 rfl ?_
          refine z_ineg C dJ6_getChars_ba4f3_101 ?_
          refine z_tb (x := (48 + ((-x1).toNat : Int) / 10)) C ((hT _ _ C.x).2.2.2.2.2) (by omega) (by omega) (by omega) rfl dJ6_getChars_ba4f3_102 ?_
          have hdt : 48 + ((-x1).toNat : Int) / 10 = 48 + (-x1) / 10 := by rw [Int.toNat_of_nonneg (by omega)]
          refine z_bast C (ha3) (by omega) (by omega) (by omega) (z_nar8 (by omega)) dJ6_getChars_ba4f3_103 (fun f6 ha7 hk8 => ?_)
          have hkk9 : ∀ c, c ≠ b → f6 c = f c := fun c q => by rw [hk8 c q]; exact hkk5 c q
          refine z_iload C 2 dJ6_getChars_ba4f3_104 rfl ?_
          refine z_if_eq C 118 dJ6_getChars_ba4f3_106 (by decide) (by omega) (fun h106 => ?_) (fun h106 => ?_)
          · refine z_iload C 0 dJ6_getChars_ba4f3_118 rfl ?_
            exact z_ireturn C dJ6_getChars_ba4f3_120 (Nat.le_of_ble_eq_true rfl) (Nat.le_of_ble_eq_true rfl) ⟨rfl, zA_cong ha7 (fun j q0 q1 => by first | exact zdig_w1 (by omega) (by omega) _ j | exact zdig_w2 (by omega) (by omega) (by omega) _ j), hkk9⟩
          · exfalso; omega
      · exfalso; omega
  · exfalso; omega

set_option maxRecDepth 100000 in
set_option maxHeartbeats 200000 in
theorem c_sb_app5I {la : Launch} {G : zG} {X : (Nat → Prop) → State → Prop} (hX : zX X) {L : List Nat} {f : Nat → va_E} {ax : Nat → Nat × Nat} {w b m : Nat} {t : List Int} (hSb : zSb G L f w b m t) (hT : zT1 X ax) (hP : zT3 X) (c : Int) (hc : 0 ≤ c ∧ c ≤ 99) (hl : t.length < 30) : zM la G X yJ5_append_c97b9 (.code yJ5_append_c97b9 cJ5_append_c97b9 4 (some (.object "java/lang/AbstractStringBuilder")) :: zT) 4 1 34 [.ref w, .int (iI c)] L f zeQ (fun z L' f' => z = some w ∧ ∃ b' m' : Nat, zSb G L' f' w b' m' (t ++ zdig c) ∧ zSbP L f w b L' f' b') := by
  refine zM_intro hX (by decide) (Nat.le_of_ble_eq_true rfl) (fun pZ eZ sZ mZ aZ bZ hZ cZ AZ C hini => ?_)
  change ZW G pZ la eZ (zRm 4 1 34) sZ mZ aZ bZ hZ cZ AZ 4 0 0 _ L f 0 [(0, .ref w), (1, .int (iI c))] []
  obtain ⟨x, τ, hob, hA, hm, hlt, hτ, hbd, hx⟩ := hSb
  have hP0 := zSbP_r L f w b
  have hdl := zdig_len (n := c)
  refine z_aload_n C 0 dJ5_append_c97b9_0 rfl ?_
  refine z_getf C 3 zin_J4 (hob.1) (hob.2) rfl (Nat.le_of_ble_eq_true rfl) zl_1_128 rfl rfl dJ5_append_c97b9_1 ?_
  refine z_nm (fun x1 hx1 => ?_)
  refine z_istore_n (ls' := [(2, .int (iI x1)), (0, .ref w), (1, .int (iI c))]) C dJ5_append_c97b9_4 (Nat.le_of_ble_eq_true rfl) rfl ?_
  refine z_iload_n C 0 dJ5_append_c97b9_5 rfl ?_
  refine z_iload_n C 2 dJ5_append_c97b9_6 rfl ?_
  refine z_cS (As := [.int (iI c)]) C zc_J6_stringSize_0f7a4 (c_strSize hX c (by omega)) zl_5_165 (Nat.le_of_ble_eq_true rfl) (Nat.le_of_ble_eq_true rfl) (Nat.le_of_ble_eq_true rfl) rfl rfl (Nat.le_of_ble_eq_true rfl) dJ5_append_c97b9_7 (fun z2 L3 f4 hz5 => ?_)
  obtain ⟨hz5, rfl, rfl⟩ := hz5
  subst hz5
  change ZW G pZ la eZ (zRm 4 1 34) sZ mZ aZ bZ hZ cZ AZ 4 0 0 _ L f 10 [(2, .int (iI x1)), (0, .ref w), (1, .int (iI c))] [.int (iI ((zdig c).length : Int)), .int (iI x1)]
  refine z_iadd C dJ5_append_c97b9_10 ?_
  refine z_nm (fun e9 he9 => ?_)
  refine z_istore_n (ls' := [(3, .int (iI e9)), (2, .int (iI x1)), (0, .ref w), (1, .int (iI c))]) C dJ5_append_c97b9_11 (Nat.le_of_ble_eq_true rfl) rfl ?_
  refine z_aload_n C 2 dJ5_append_c97b9_12 rfl ?_
  refine z_iload_n C 0 dJ5_append_c97b9_13 rfl ?_
  refine z_cVS (n := 1) (As := [.int (iI e9)]) C (va_Nw.use rfl (hP _ _ C.x _ (List.mem_of_getElem? (i := 0) rfl))) zl_5_56 zl_5_55 zl_1_7 ⟨by decide +kernel, by decide +kernel, by decide +kernel⟩ (by decide) (c_sb_ensure hX hob hA hP e9 hm hbd (by omega)) zl_5_53 (Nat.le_of_ble_eq_true rfl) (Nat.le_of_ble_eq_true rfl) (Nat.le_of_ble_eq_true rfl) hob rfl rfl (Nat.le_of_ble_eq_true rfl) dJ5_append_c97b9_14 (fun z6 L7 f8 hz9 => ?_)
  obtain ⟨bE, mE, τE, hobE, hAE, hmE, hqE, hmmE, htE, hbdE, hPE⟩ := hz9
  change ZW G pZ la eZ (zRm 4 1 34) sZ mZ aZ bZ hZ cZ AZ 4 1 34 _ L7 f8 17 [(3, .int (iI e9)), (2, .int (iI x1)), (0, .ref w), (1, .int (iI c))] []
  refine z_aload_n C 2 dJ5_append_c97b9_17 rfl ?_
  refine z_cVS (n := 0) (As := []) C (C.w zl_5_87 rfl) zl_5_88 zl_5_85 zl_1_7 ⟨by decide +kernel, by decide +kernel, by decide +kernel⟩ (by decide) (c_sb_isL hX hobE hT) zl_5_84 (Nat.le_of_ble_eq_true rfl) (Nat.le_of_ble_eq_true rfl) (Nat.le_of_ble_eq_true rfl) hobE rfl rfl (Nat.le_of_ble_eq_true rfl) dJ5_append_c97b9_18 (fun z10 L11 f12 hz13 => ?_)
  obtain ⟨hz13, rfl, rfl⟩ := hz13
  subst hz13
  change ZW G pZ la eZ (zRm 4 1 34) sZ mZ aZ bZ hZ cZ AZ 4 1 34 _ L7 f8 21 [(3, .int (iI e9)), (2, .int (iI x1)), (0, .ref w), (1, .int (iI c))] [.int (iI 1)]
  refine z_if_eq C 37 dJ5_append_c97b9_21 (by decide) (by omega) (fun h21 => ?_) (fun h21 => ?_)
  · exfalso; omega
  · refine z_iload_n C 3 dJ5_append_c97b9_24 rfl ?_
    refine z_iload_n C 0 dJ5_append_c97b9_25 rfl ?_
    refine z_aload_n C 2 dJ5_append_c97b9_26 rfl ?_
    refine z_getf C 0 zin_J4 (hobE.1) (hobE.2) rfl (Nat.le_of_ble_eq_true rfl) zl_1_124 rfl rfl dJ5_append_c97b9_27 ?_
    refine z_cS (As := [.int (iI c), .int (iI e9), .ref bE]) C zc_J6_getChars_ba4f3 (c_getChars hX hT hAE c e9 (by omega) (by omega) (by omega)) zl_5_168 (Nat.le_of_ble_eq_true rfl) (Nat.le_of_ble_eq_true rfl) (Nat.le_of_ble_eq_true rfl) rfl rfl (Nat.le_of_ble_eq_true rfl) dJ5_append_c97b9_30 (fun z14 L15 f16 hz17 => ?_)
    obtain ⟨rfl, hgA, hgk⟩ := hz17
    have hob18 : zOb L7 f16 w 1 [.ref bE, .int (iI 0), .int (iI x), .int (iI (t.length : Int))] := ⟨hobE.1, by rw [hgk _ (zne_A hobE.2 hAE)]; exact hobE.2⟩
    have hP19 := zSbP_a hPE hgk
    change ZW G pZ la eZ (zRm 4 1 34) sZ mZ aZ bZ hZ cZ AZ 4 1 34 _ L7 f16 33 [(3, .int (iI e9)), (2, .int (iI x1)), (0, .ref w), (1, .int (iI c))] [.int (iI z14)]
    refine z_pop C dJ5_append_c97b9_33 rfl ?_
    refine z_goto C 48 dJ5_append_c97b9_34 (by decide) ?_
    refine z_aload_n C 2 dJ5_append_c97b9_48 rfl ?_
    refine z_iload_n C 0 dJ5_append_c97b9_49 rfl ?_
    refine z_putG C 3 zin_J4 tyJ4_ok nmJ4 hob18.1 hob18.2 rfl (Nat.le_of_ble_eq_true rfl) zl_1_128 rfl rfl rfl rfl rfl (Nat.le_of_ble_eq_true rfl) dJ5_append_c97b9_50 (fun f20 hf21 hk22 => ?_)
    have hob23 : zOb L7 f20 w 1 [.ref bE, .int (iI 0), .int (iI x), .int (iI e9)] := ⟨hob18.1, hf21⟩
    have hA25 := zA_wO hgA hob18.2 hk22
    have hP24 := zSbP_o hP19 hk22
    refine z_aload_n C 2 dJ5_append_c97b9_53 rfl ?_
    change ZW G pZ la eZ (zRm 4 1 34) sZ mZ aZ bZ hZ cZ AZ 4 _ _ _ _ _ _ _ [va_rf (some w)]
    exact z_qreturn C dJ5_append_c97b9_54 (Nat.le_of_ble_eq_true rfl) (Nat.le_of_ble_eq_true rfl) ⟨rfl, _, _, zSb_of (τ := τE) hob23 hA25 hmE (by first | omega | (simp; try omega)) (by omega) (fun j q0 q1 => (htE j q0 (by omega)).trans (hτ j q0 q1)) hbdE hx (zgood_dig hc) (fun j q0 q1 => by unfold zcpy; by_cases q : (t.length : Int) ≤ j ∧ j < e9; (rw [if_pos (by omega), if_pos (by omega), show j - (e9 - (zdig c).length) = j - t.length by omega]); (rw [if_neg (by omega), if_neg (by omega)])), hP24⟩

set_option maxRecDepth 100000 in
set_option maxHeartbeats 200000 in
theorem c_s_getBytes {la : Launch} {G : zG} {X : (Nat → Prop) → State → Prop} (hX : zX X) {L : List Nat} {f : Nat → va_E} {ax : Nat → Nat × Nat} {a v : Nat} {s : List Int} (hSt : ∀ A S, X A S → zSt a v s A S) (hT : zT1 X ax) {b m : Nat} {τ : Int → Int} (hA : zA G 3 L f b m τ) (d : Int) (hg : zgood s) (hd : 0 ≤ d ∧ d + s.length ≤ m) (hm : m < 1000) : zM la G X yJ0_getBytes_840e7 (.code yJ0_getBytes_840e7 cJ0_getBytes_840e7 4 none :: zT) 2 0 0 [.ref a, .ref b, .int (iI d), .int (iI 0)] L f zeV (fun _ L' f' => L = L' ∧ zA G 3 L f' b m (zcpy (fun j => s.getD j.toNat 0) τ d s.length) ∧ ∀ c, c ≠ b → f' c = f c) := by
  refine zM_intro hX (by decide) (Nat.le_of_ble_eq_true rfl) (fun pZ eZ sZ mZ aZ bZ hZ cZ AZ C hini => ?_)
  change ZW G pZ la eZ (zRm 2 0 0) sZ mZ aZ bZ hZ cZ AZ 4 0 0 _ L f 0 [(0, .ref a), (1, .ref b), (2, .int (iI d)), (3, .int (iI 0))] []
  refine z_aload_n C 0 dJ0_getBytes_840e7_0 rfl ?_
  refine z_cVO (As := []) C zc_J0_coder_7d493 (c_s_coder hX hT hSt) zl_5_119 (Nat.le_of_ble_eq_true rfl) (Nat.le_of_ble_eq_true rfl) (Nat.le_of_ble_eq_true rfl) ((hSt _ _ C.x).1) rfl rfl (Nat.le_of_ble_eq_true rfl) dJ0_getBytes_840e7_1 (fun z1 L2 f3 hz4 => ?_)
  obtain ⟨hz4, rfl, rfl⟩ := hz4
  subst hz4
  change ZW G pZ la eZ (zRm 2 0 0) sZ mZ aZ bZ hZ cZ AZ 4 0 0 _ L f 4 [(0, .ref a), (1, .ref b), (2, .int (iI d)), (3, .int (iI 0))] [.int (iI 0)]
  refine z_iload_n C 3 dJ0_getBytes_840e7_4 rfl ?_
  refine z_icmp_ne C 28 dJ0_getBytes_840e7_5 (by decide) (by omega) (by omega) (fun h5 => ?_) (fun h5 => ?_)
  · exfalso; omega
  · refine z_aload_n C 0 dJ0_getBytes_840e7_8 rfl ?_
    refine z_sget C (hSt _ _ C.x).2.2.1 zl_5_239 dJ0_getBytes_840e7_9 ?_
    refine z_iconst C dJ0_getBytes_840e7_12 ?_
    refine z_aload_n C 1 dJ0_getBytes_840e7_13 rfl ?_
    refine z_iload_n C 2 dJ0_getBytes_840e7_14 rfl ?_
    refine z_iload_n C 3 dJ0_getBytes_840e7_15 rfl ?_
    refine z_ishl0 C dJ0_getBytes_840e7_16 ?_
    refine z_aload_n C 0 dJ0_getBytes_840e7_17 rfl ?_
    refine z_sget C (hSt _ _ C.x).2.2.1 zl_5_239 dJ0_getBytes_840e7_18 ?_
    refine z_tlen C ((hSt _ _ C.x).2.2.2) dJ0_getBytes_840e7_21 ?_
    refine z_copyS C (hSt _ _ C.x).2.2.2 hA zl_5_156 (by omega) hg (Nat.le_of_ble_eq_true rfl) (Nat.le_of_ble_eq_true rfl) dJ0_getBytes_840e7_22 (fun f5 ha6 hk7 => ?_)
    refine z_goto C 43 dJ0_getBytes_840e7_25 (by decide) ?_
    exact z_vreturn C dJ0_getBytes_840e7_43 (Nat.le_of_ble_eq_true rfl) (Nat.le_of_ble_eq_true rfl) ⟨rfl, ha6, hk7⟩

set_option maxRecDepth 100000 in
set_option maxHeartbeats 200000 in
theorem c_sb_infl {la : Launch} {G : zG} {X : (Nat → Prop) → State → Prop} (hX : zX X) {L : List Nat} {f : Nat → va_E} {ax : Nat → Nat × Nat} {w b : Nat} {x n : Int} (hob : zOb L f w 1 [.ref b, .int (iI 0), .int (iI x), .int (iI n)]) {a v : Nat} {s : List Int} (hSt : ∀ A S, X A S → zSt a v s A S) (hT : zT1 X ax)  : zM la G X yJ5_inflateIfNeededFor_a7421 (.code yJ5_inflateIfNeededFor_a7421 cJ5_inflateIfNeededFor_a7421 2 none :: zT) 1 0 0 [.ref w, .ref a] L f zeV (zRd L f (fun _ => True)) := by
  refine zM_intro hX (by decide) (Nat.le_of_ble_eq_true rfl) (fun pZ eZ sZ mZ aZ bZ hZ cZ AZ C hini => ?_)
  change ZW G pZ la eZ (zRm 1 0 0) sZ mZ aZ bZ hZ cZ AZ 2 0 0 _ L f 0 [(0, .ref w), (1, .ref a)] []
  refine z_gets C (hT _ _ C.x).2.1 zl_1_115 dJ5_inflateIfNeededFor_a7421_0 ?_
  refine z_if_eq C 21 dJ5_inflateIfNeededFor_a7421_3 (by decide) (by omega) (fun h3 => ?_) (fun h3 => ?_)
  · exfalso; omega
  · refine z_aload_n C 0 dJ5_inflateIfNeededFor_a7421_6 rfl ?_
    refine z_getf C 1 zin_J4 (hob.1) (hob.2) rfl (Nat.le_of_ble_eq_true rfl) zl_1_125 rfl rfl dJ5_inflateIfNeededFor_a7421_7 ?_
    refine z_aload_n C 1 dJ5_inflateIfNeededFor_a7421_10 rfl ?_
    refine z_cVO (As := []) C zc_J0_coder_7d493 (c_s_coder hX hT hSt) zl_5_132 (Nat.le_of_ble_eq_true rfl) (Nat.le_of_ble_eq_true rfl) (Nat.le_of_ble_eq_true rfl) ((hSt _ _ C.x).1) rfl rfl (Nat.le_of_ble_eq_true rfl) dJ5_inflateIfNeededFor_a7421_11 (fun z1 L2 f3 hz4 => ?_)
    obtain ⟨hz4, rfl, rfl⟩ := hz4
    subst hz4
    change ZW G pZ la eZ (zRm 1 0 0) sZ mZ aZ bZ hZ cZ AZ 2 0 0 _ L f 14 [(0, .ref w), (1, .ref a)] [.int (iI 0), .int (iI 0)]
    refine z_icmp_eq C 21 dJ5_inflateIfNeededFor_a7421_14 (by decide) (by omega) (by omega) (fun h14 => ?_) (fun h14 => ?_)
    · exact z_vreturn C dJ5_inflateIfNeededFor_a7421_21 (Nat.le_of_ble_eq_true rfl) (Nat.le_of_ble_eq_true rfl) ⟨trivial, rfl, rfl⟩
    · exfalso; omega

set_option maxRecDepth 100000 in
set_option maxHeartbeats 200000 in
theorem c_sb_putAt {la : Launch} {G : zG} {X : (Nat → Prop) → State → Prop} (hX : zX X) {L : List Nat} {f : Nat → va_E} {ax : Nat → Nat × Nat} {w b m : Nat} {x n : Int} {τ : Int → Int} (hob : zOb L f w 1 [.ref b, .int (iI 0), .int (iI x), .int (iI n)]) (hA : zA G 3 L f b m τ) {a v : Nat} {s : List Int} (hSt : ∀ A S, X A S → zSt a v s A S) (hT : zT1 X ax) (hP : zT3 X) (d : Int) (hg : zgood s) (hd : 0 ≤ d ∧ d + s.length ≤ m) (hm : m < 1000) : zM la G X yJ5_putStringAt_47b60 (.code yJ5_putStringAt_47b60 cJ5_putStringAt_47b60 3 none :: zT) 3 0 0 [.ref w, .int (iI d), .ref a] L f zeV (fun _ L' f' => L = L' ∧ zOb L f' w 1 [.ref b, .int (iI 0), .int (iI x), .int (iI n)] ∧ zA G 3 L f' b m (zcpy (fun j => s.getD j.toNat 0) τ d s.length) ∧ ∀ c, c ≠ b → f' c = f c) := by
  refine zM_intro hX (by decide) (Nat.le_of_ble_eq_true rfl) (fun pZ eZ sZ mZ aZ bZ hZ cZ AZ C hini => ?_)
  change ZW G pZ la eZ (zRm 3 0 0) sZ mZ aZ bZ hZ cZ AZ 3 0 0 _ L f 0 [(0, .ref w), (1, .int (iI d)), (2, .ref a)] []
  have hP0 := zSbP_r L f w b
  refine z_aload_n C 0 dJ5_putStringAt_47b60_0 rfl ?_
  refine z_aload_n C 2 dJ5_putStringAt_47b60_1 rfl ?_
  refine z_cVS (n := 1) (As := [.ref a]) C (va_Nw.use rfl (hP _ _ C.x _ (List.mem_of_getElem? (i := 3) rfl))) zl_5_131 zl_5_130 zl_1_7 ⟨by decide +kernel, by decide +kernel, by decide +kernel⟩ (by decide) (c_sb_infl hX hob hSt hT) zl_5_128 (Nat.le_of_ble_eq_true rfl) (Nat.le_of_ble_eq_true rfl) (Nat.le_of_ble_eq_true rfl) hob rfl rfl (Nat.le_of_ble_eq_true rfl) dJ5_putStringAt_47b60_2 (fun z1 L2 f3 hz4 => ?_)
  obtain ⟨hz4, rfl, rfl⟩ := hz4
  change ZW G pZ la eZ (zRm 3 0 0) sZ mZ aZ bZ hZ cZ AZ 3 0 0 _ L f 5 [(0, .ref w), (1, .int (iI d)), (2, .ref a)] []
  refine z_aload_n C 2 dJ5_putStringAt_47b60_5 rfl ?_
  refine z_aload_n C 0 dJ5_putStringAt_47b60_6 rfl ?_
  refine z_getf C 0 zin_J4 (hob.1) (hob.2) rfl (Nat.le_of_ble_eq_true rfl) zl_1_124 rfl rfl dJ5_putStringAt_47b60_7 ?_
  refine z_iload_n C 1 dJ5_putStringAt_47b60_10 rfl ?_
  refine z_aload_n C 0 dJ5_putStringAt_47b60_11 rfl ?_
  refine z_getf C 1 zin_J4 (hob.1) (hob.2) rfl (Nat.le_of_ble_eq_true rfl) zl_1_125 rfl rfl dJ5_putStringAt_47b60_12 ?_
  refine z_cVO (As := [.ref b, .int (iI d), .int (iI 0)]) C zc_J0_getBytes_840e7 (c_s_getBytes hX hSt hT hA d hg (by omega) (by omega)) zl_5_152 (Nat.le_of_ble_eq_true rfl) (Nat.le_of_ble_eq_true rfl) (Nat.le_of_ble_eq_true rfl) ((hSt _ _ C.x).1) rfl rfl (Nat.le_of_ble_eq_true rfl) dJ5_putStringAt_47b60_15 (fun z5 L6 f7 hz8 => ?_)
  obtain ⟨rfl, hgA, hgk⟩ := hz8
  have hob9 : zOb L f7 w 1 [.ref b, .int (iI 0), .int (iI x), .int (iI n)] := ⟨hob.1, by rw [hgk _ (zne_A hob.2 hA)]; exact hob.2⟩
  have hP10 := zSbP_a hP0 hgk
  change ZW G pZ la eZ (zRm 3 0 0) sZ mZ aZ bZ hZ cZ AZ 3 0 0 _ L f7 18 [(0, .ref w), (1, .int (iI d)), (2, .ref a)] []
  exact z_vreturn C dJ5_putStringAt_47b60_18 (Nat.le_of_ble_eq_true rfl) (Nat.le_of_ble_eq_true rfl) ⟨rfl, hob9, hgA, hgk⟩

set_option maxRecDepth 100000 in
set_option maxHeartbeats 200000 in
theorem c_sb_app5S {la : Launch} {G : zG} {X : (Nat → Prop) → State → Prop} (hX : zX X) {L : List Nat} {f : Nat → va_E} {ax : Nat → Nat × Nat} {w b m : Nat} {t : List Int} (hSb : zSb G L f w b m t) {a v : Nat} {s : List Int} (hSt : ∀ A S, X A S → zSt a v s A S) (hT : zT1 X ax) (hP : zT3 X) (hg : zgood s) (hl : t.length + s.length ≤ 34) : zM la G X yJ5_append_cf1ce (.code yJ5_append_cf1ce cJ5_append_cf1ce 3 (some (.object "java/lang/AbstractStringBuilder")) :: zT) 4 1 34 [.ref w, .ref a] L f zeQ (fun z L' f' => z = some w ∧ ∃ b' m' : Nat, zSb G L' f' w b' m' (t ++ s) ∧ zSbP L f w b L' f' b') := by
  refine zM_intro hX (by decide) (Nat.le_of_ble_eq_true rfl) (fun pZ eZ sZ mZ aZ bZ hZ cZ AZ C hini => ?_)
  change ZW G pZ la eZ (zRm 4 1 34) sZ mZ aZ bZ hZ cZ AZ 3 0 0 _ L f 0 [(0, .ref w), (1, .ref a)] []
  obtain ⟨x, τ, hob, hA, hm, hlt, hτ, hbd, hx⟩ := hSb
  have hP0 := zSbP_r L f w b
  refine z_aload_n C 1 dJ5_append_cf1ce_0 rfl ?_
  refine z_ifnonnullr C 9 dJ5_append_cf1ce_1 (by decide) ?_
  refine z_aload_n C 1 dJ5_append_cf1ce_9 rfl ?_
  refine z_cVO (As := []) C zc_J0_length_8abf5 (c_s_length hX hT hSt) zl_5_115 (Nat.le_of_ble_eq_true rfl) (Nat.le_of_ble_eq_true rfl) (Nat.le_of_ble_eq_true rfl) ((hSt _ _ C.x).1) rfl rfl (Nat.le_of_ble_eq_true rfl) dJ5_append_cf1ce_10 (fun z1 L2 f3 hz4 => ?_)
  obtain ⟨hz4, rfl, rfl⟩ := hz4
  subst hz4
  change ZW G pZ la eZ (zRm 4 1 34) sZ mZ aZ bZ hZ cZ AZ 3 0 0 _ L f 13 [(0, .ref w), (1, .ref a)] [.int (iI (s.length : Int))]
  refine z_nm (fun x5 hx5 => ?_)
  refine z_istore_n (ls' := [(2, .int (iI x5)), (0, .ref w), (1, .ref a)]) C dJ5_append_cf1ce_13 (Nat.le_of_ble_eq_true rfl) rfl ?_
  refine z_aload_n C 1 dJ5_append_cf1ce_14 rfl ?_
  refine z_aload_n C 1 dJ5_append_cf1ce_15 rfl ?_
  refine z_getf C 3 zin_J4 (hob.1) (hob.2) rfl (Nat.le_of_ble_eq_true rfl) zl_1_128 rfl rfl dJ5_append_cf1ce_16 ?_
  refine z_iload_n C 0 dJ5_append_cf1ce_19 rfl ?_
  refine z_iadd C dJ5_append_cf1ce_20 ?_
  refine z_cVS (n := 1) (As := [.int (iI ((t.length : Int) + x5))]) C (va_Nw.use rfl (hP _ _ C.x _ (List.mem_of_getElem? (i := 0) rfl))) zl_5_56 zl_5_55 zl_1_7 ⟨by decide +kernel, by decide +kernel, by decide +kernel⟩ (by decide) (c_sb_ensure hX hob hA hP ((t.length : Int) + x5) hm hbd (by omega)) zl_5_53 (Nat.le_of_ble_eq_true rfl) (Nat.le_of_ble_eq_true rfl) (Nat.le_of_ble_eq_true rfl) hob rfl rfl (Nat.le_of_ble_eq_true rfl) dJ5_append_cf1ce_21 (fun z6 L7 f8 hz9 => ?_)
  obtain ⟨bE, mE, τE, hobE, hAE, hmE, hqE, hmmE, htE, hbdE, hPE⟩ := hz9
  change ZW G pZ la eZ (zRm 4 1 34) sZ mZ aZ bZ hZ cZ AZ 3 1 34 _ L7 f8 24 [(2, .int (iI x5)), (0, .ref w), (1, .ref a)] []
  refine z_aload_n C 1 dJ5_append_cf1ce_24 rfl ?_
  refine z_aload_n C 1 dJ5_append_cf1ce_25 rfl ?_
  refine z_getf C 3 zin_J4 (hobE.1) (hobE.2) rfl (Nat.le_of_ble_eq_true rfl) zl_1_128 rfl rfl dJ5_append_cf1ce_26 ?_
  refine z_aload_n C 2 dJ5_append_cf1ce_29 rfl ?_
  refine z_cVS (n := 2) (As := [.int (iI (t.length : Int)), .ref a]) C (va_Nw.use rfl (hP _ _ C.x _ (List.mem_of_getElem? (i := 2) rfl))) zl_5_127 zl_5_126 zl_1_7 ⟨by decide +kernel, by decide +kernel, by decide +kernel⟩ (by decide) (c_sb_putAt hX hobE hAE hSt hT hP (t.length : Int) hg (by omega) (by omega)) zl_5_124 (Nat.le_of_ble_eq_true rfl) (Nat.le_of_ble_eq_true rfl) (Nat.le_of_ble_eq_true rfl) hobE rfl rfl (Nat.le_of_ble_eq_true rfl) dJ5_append_cf1ce_30 (fun z10 L11 f12 hz13 => ?_)
  obtain ⟨rfl, hpo, hpA, hpk⟩ := hz13
  have hP14 := zSbP_a hPE hpk
  change ZW G pZ la eZ (zRm 4 1 34) sZ mZ aZ bZ hZ cZ AZ 3 1 34 _ L7 f12 33 [(2, .int (iI x5)), (0, .ref w), (1, .ref a)] []
  refine z_aload_n C 1 dJ5_append_cf1ce_33 rfl ?_
  refine z_dup C dJ5_append_cf1ce_34 rfl ?_
  refine z_getf C 3 zin_J4 (hpo.1) (hpo.2) rfl (Nat.le_of_ble_eq_true rfl) zl_1_128 rfl rfl dJ5_append_cf1ce_35 ?_
  refine z_iload_n C 0 dJ5_append_cf1ce_38 rfl ?_
  refine z_iadd C dJ5_append_cf1ce_39 ?_
  refine z_putG C 3 zin_J4 tyJ4_ok nmJ4 hpo.1 hpo.2 rfl (Nat.le_of_ble_eq_true rfl) zl_1_128 rfl rfl rfl rfl rfl (Nat.le_of_ble_eq_true rfl) dJ5_append_cf1ce_40 (fun f15 hf16 hk17 => ?_)
  have hob18 : zOb L7 f15 w 1 [.ref bE, .int (iI 0), .int (iI x), .int (iI ((t.length : Int) + x5))] := ⟨hpo.1, hf16⟩
  have hA20 := zA_wO hpA hpo.2 hk17
  have hP19 := zSbP_o hP14 hk17
  refine z_aload_n C 1 dJ5_append_cf1ce_43 rfl ?_
  change ZW G pZ la eZ (zRm 4 1 34) sZ mZ aZ bZ hZ cZ AZ 3 _ _ _ _ _ _ _ [va_rf (some w)]
  exact z_qreturn C dJ5_append_cf1ce_44 (Nat.le_of_ble_eq_true rfl) (Nat.le_of_ble_eq_true rfl) ⟨rfl, _, _, zSb_of (τ := τE) hob18 hA20 hmE (by first | omega | (simp; try omega)) (by omega) (fun j q0 q1 => (htE j q0 (by omega)).trans (hτ j q0 q1)) hbdE hx hg (fun j q0 q1 => by unfold zcpy; by_cases q : (t.length : Int) ≤ j ∧ j < t.length + s.length; (rw [if_pos (by omega), if_pos (by omega)]); (rw [if_neg (by omega), if_neg (by omega)])), hP19⟩

set_option maxRecDepth 100000 in
set_option maxHeartbeats 200000 in
theorem c_sb_appC {la : Launch} {G : zG} {X : (Nat → Prop) → State → Prop} (hX : zX X) {L : List Nat} {f : Nat → va_E} {ax : Nat → Nat × Nat} {w b m : Nat} {t : List Int} (hSb : zSb G L f w b m t) (hT : zT1 X ax) (hP : zT3 X) (c : Int) (hc : 0 ≤ c ∧ c < 128) (hl : t.length < 34) : zM la G X yJ4_append_cf468 (.code yJ4_append_cf468 cJ4_append_cf468 2 (some (.object "java/lang/StringBuilder")) :: zT) 5 1 34 [.ref w, .int (iI c)] L f zeQ (fun z L' f' => z = some w ∧ ∃ b' m' : Nat, zSb G L' f' w b' m' (t ++ [c]) ∧ zSbP L f w b L' f' b') := by
  refine zM_intro hX (by decide) (Nat.le_of_ble_eq_true rfl) (fun pZ eZ sZ mZ aZ bZ hZ cZ AZ C hini => ?_)
  change ZW G pZ la eZ (zRm 5 1 34) sZ mZ aZ bZ hZ cZ AZ 2 0 0 _ L f 0 [(0, .ref w), (1, .int (iI c))] []
  have hSb0 := hSb
  obtain ⟨x, τ, hob, hA, hm, hlt, hτ, hbd, hx⟩ := hSb0
  have hP0 := zSbP_r L f w b
  refine z_aload_n C 0 dJ4_append_cf468_0 rfl ?_
  refine z_iload_n C 1 dJ4_append_cf468_1 rfl ?_
  refine z_cSU (n := 1) (As := [.int (iI c)]) C zl_6_50 zl_6_49 zl_8_13 zl_1_137 zl_1_7 ⟨by decide +kernel, by decide +kernel⟩ (by decide) (c_sb_app5C hX hSb hT hP c hc hl) zl_6_48 (Nat.le_of_ble_eq_true rfl) (Nat.le_of_ble_eq_true rfl) (Nat.le_of_ble_eq_true rfl) hob rfl rfl (Nat.le_of_ble_eq_true rfl) dJ4_append_cf468_2 (fun z1 L2 f3 hz4 => ?_)
  obtain ⟨rfl, hR⟩ := hz4
  change ZW G pZ la eZ (zRm 5 1 34) sZ mZ aZ bZ hZ cZ AZ 2 1 34 _ L2 f3 5 [(0, .ref w), (1, .int (iI c))] [.ref w]
  refine z_pop C dJ4_append_cf468_5 rfl ?_
  refine z_aload_n C 0 dJ4_append_cf468_6 rfl ?_
  change ZW G pZ la eZ (zRm 5 1 34) sZ mZ aZ bZ hZ cZ AZ 2 _ _ _ _ _ _ _ [va_rf (some w)]
  exact z_qreturn C dJ4_append_cf468_7 (Nat.le_of_ble_eq_true rfl) (Nat.le_of_ble_eq_true rfl) ⟨rfl, hR⟩

set_option maxRecDepth 100000 in
set_option maxHeartbeats 200000 in
theorem c_sb_appI {la : Launch} {G : zG} {X : (Nat → Prop) → State → Prop} (hX : zX X) {L : List Nat} {f : Nat → va_E} {ax : Nat → Nat × Nat} {w b m : Nat} {t : List Int} (hSb : zSb G L f w b m t) (hT : zT1 X ax) (hP : zT3 X) (c : Int) (hc : 0 ≤ c ∧ c ≤ 99) (hl : t.length < 30) : zM la G X yJ4_append_bf812 (.code yJ4_append_bf812 cJ4_append_bf812 2 (some (.object "java/lang/StringBuilder")) :: zT) 5 1 34 [.ref w, .int (iI c)] L f zeQ (fun z L' f' => z = some w ∧ ∃ b' m' : Nat, zSb G L' f' w b' m' (t ++ zdig c) ∧ zSbP L f w b L' f' b') := by
  refine zM_intro hX (by decide) (Nat.le_of_ble_eq_true rfl) (fun pZ eZ sZ mZ aZ bZ hZ cZ AZ C hini => ?_)
  change ZW G pZ la eZ (zRm 5 1 34) sZ mZ aZ bZ hZ cZ AZ 2 0 0 _ L f 0 [(0, .ref w), (1, .int (iI c))] []
  have hSb0 := hSb
  obtain ⟨x, τ, hob, hA, hm, hlt, hτ, hbd, hx⟩ := hSb0
  have hP0 := zSbP_r L f w b
  refine z_aload_n C 0 dJ4_append_bf812_0 rfl ?_
  refine z_iload_n C 1 dJ4_append_bf812_1 rfl ?_
  refine z_cSU (n := 1) (As := [.int (iI c)]) C zl_5_164 zl_5_163 zl_8_12 zl_1_137 zl_1_7 ⟨by decide +kernel, by decide +kernel⟩ (by decide) (c_sb_app5I hX hSb hT hP c hc hl) zl_5_162 (Nat.le_of_ble_eq_true rfl) (Nat.le_of_ble_eq_true rfl) (Nat.le_of_ble_eq_true rfl) hob rfl rfl (Nat.le_of_ble_eq_true rfl) dJ4_append_bf812_2 (fun z1 L2 f3 hz4 => ?_)
  obtain ⟨rfl, hR⟩ := hz4
  change ZW G pZ la eZ (zRm 5 1 34) sZ mZ aZ bZ hZ cZ AZ 2 1 34 _ L2 f3 5 [(0, .ref w), (1, .int (iI c))] [.ref w]
  refine z_pop C dJ4_append_bf812_5 rfl ?_
  refine z_aload_n C 0 dJ4_append_bf812_6 rfl ?_
  change ZW G pZ la eZ (zRm 5 1 34) sZ mZ aZ bZ hZ cZ AZ 2 _ _ _ _ _ _ _ [va_rf (some w)]
  exact z_qreturn C dJ4_append_bf812_7 (Nat.le_of_ble_eq_true rfl) (Nat.le_of_ble_eq_true rfl) ⟨rfl, hR⟩

set_option maxRecDepth 100000 in
set_option maxHeartbeats 200000 in
theorem c_sb_appS {la : Launch} {G : zG} {X : (Nat → Prop) → State → Prop} (hX : zX X) {L : List Nat} {f : Nat → va_E} {ax : Nat → Nat × Nat} {w b m : Nat} {t : List Int} (hSb : zSb G L f w b m t) {a v : Nat} {s : List Int} (hSt : ∀ A S, X A S → zSt a v s A S) (hT : zT1 X ax) (hP : zT3 X) (hg : zgood s) (hl : t.length + s.length ≤ 34) : zM la G X yJ4_append_15ec4 (.code yJ4_append_15ec4 cJ4_append_15ec4 2 (some (.object "java/lang/StringBuilder")) :: zT) 5 1 34 [.ref w, .ref a] L f zeQ (fun z L' f' => z = some w ∧ ∃ b' m' : Nat, zSb G L' f' w b' m' (t ++ s) ∧ zSbP L f w b L' f' b') := by
  refine zM_intro hX (by decide) (Nat.le_of_ble_eq_true rfl) (fun pZ eZ sZ mZ aZ bZ hZ cZ AZ C hini => ?_)
  change ZW G pZ la eZ (zRm 5 1 34) sZ mZ aZ bZ hZ cZ AZ 2 0 0 _ L f 0 [(0, .ref w), (1, .ref a)] []
  have hSb0 := hSb
  obtain ⟨x, τ, hob, hA, hm, hlt, hτ, hbd, hx⟩ := hSb0
  have hP0 := zSbP_r L f w b
  refine z_aload_n C 0 dJ4_append_15ec4_0 rfl ?_
  refine z_aload_n C 1 dJ4_append_15ec4_1 rfl ?_
  refine z_cSU (n := 1) (As := [.ref a]) C zl_5_48 zl_5_47 zl_8_5 zl_1_137 zl_1_7 ⟨by decide +kernel, by decide +kernel⟩ (by decide) (c_sb_app5S hX hSb hSt hT hP hg hl) zl_5_46 (Nat.le_of_ble_eq_true rfl) (Nat.le_of_ble_eq_true rfl) (Nat.le_of_ble_eq_true rfl) hob rfl rfl (Nat.le_of_ble_eq_true rfl) dJ4_append_15ec4_2 (fun z1 L2 f3 hz4 => ?_)
  obtain ⟨rfl, hR⟩ := hz4
  change ZW G pZ la eZ (zRm 5 1 34) sZ mZ aZ bZ hZ cZ AZ 2 1 34 _ L2 f3 5 [(0, .ref w), (1, .ref a)] [.ref w]
  refine z_pop C dJ4_append_15ec4_5 rfl ?_
  refine z_aload_n C 0 dJ4_append_15ec4_6 rfl ?_
  change ZW G pZ la eZ (zRm 5 1 34) sZ mZ aZ bZ hZ cZ AZ 2 _ _ _ _ _ _ _ [va_rf (some w)]
  exact z_qreturn C dJ4_append_15ec4_7 (Nat.le_of_ble_eq_true rfl) (Nat.le_of_ble_eq_true rfl) ⟨rfl, hR⟩

set_option maxRecDepth 100000 in
set_option maxHeartbeats 200000 in
theorem c_sb_len5 {la : Launch} {G : zG} {X : (Nat → Prop) → State → Prop} (hX : zX X) {L : List Nat} {f : Nat → va_E} {w b m : Nat} {t : List Int} (hSb : zSb G L f w b m t)   : zM la G X yJ5_length_8abf5 (.code yJ5_length_8abf5 cJ5_length_8abf5 1 (some .int) :: zT) 0 0 0 [.ref w] L f zeI (zRd L f (fun z => z = (t.length : Int))) := by
  refine zM_intro hX (by decide) (Nat.le_of_ble_eq_true rfl) (fun pZ eZ sZ mZ aZ bZ hZ cZ AZ C hini => ?_)
  change ZW G pZ la eZ (zRm 0 0 0) sZ mZ aZ bZ hZ cZ AZ 1 0 0 _ L f 0 [(0, .ref w)] []
  obtain ⟨x, τ, hob, hA, hm, hlt, hτ, hbd, hx⟩ := hSb
  have hP0 := zSbP_r L f w b
  refine z_aload_n C 0 dJ5_length_8abf5_0 rfl ?_
  refine z_getf C 3 zin_J4 (hob.1) (hob.2) rfl (Nat.le_of_ble_eq_true rfl) zl_1_128 rfl rfl dJ5_length_8abf5_1 ?_
  exact z_ireturn C dJ5_length_8abf5_4 (Nat.le_of_ble_eq_true rfl) (Nat.le_of_ble_eq_true rfl) ⟨rfl, rfl, rfl⟩

set_option maxRecDepth 100000 in
set_option maxHeartbeats 200000 in
theorem c_sb_len {la : Launch} {G : zG} {X : (Nat → Prop) → State → Prop} (hX : zX X) {L : List Nat} {f : Nat → va_E} {w b m : Nat} {t : List Int} (hSb : zSb G L f w b m t)   : zM la G X yJ4_length_8abf5 (.code yJ4_length_8abf5 cJ4_length_8abf5 1 (some .int) :: zT) 1 0 0 [.ref w] L f zeI (zRd L f (fun z => z = (t.length : Int))) := by
  refine zM_intro hX (by decide) (Nat.le_of_ble_eq_true rfl) (fun pZ eZ sZ mZ aZ bZ hZ cZ AZ C hini => ?_)
  change ZW G pZ la eZ (zRm 1 0 0) sZ mZ aZ bZ hZ cZ AZ 1 0 0 _ L f 0 [(0, .ref w)] []
  have hSb0 := hSb
  obtain ⟨x, τ, hob, hA, hm, hlt, hτ, hbd, hx⟩ := hSb0
  have hP0 := zSbP_r L f w b
  refine z_aload_n C 0 dJ4_length_8abf5_0 rfl ?_
  refine z_cSU (n := 0) (As := []) C zl_5_207 zl_5_201 zl_5_202 zl_1_137 zl_1_7 ⟨by decide +kernel, by decide +kernel⟩ (by decide) (c_sb_len5 hX hSb) zl_5_206 (Nat.le_of_ble_eq_true rfl) (Nat.le_of_ble_eq_true rfl) (Nat.le_of_ble_eq_true rfl) hob rfl rfl (Nat.le_of_ble_eq_true rfl) dJ4_length_8abf5_1 (fun z1 L2 f3 hz4 => ?_)
  obtain ⟨hz4, rfl, rfl⟩ := hz4
  subst hz4
  change ZW G pZ la eZ (zRm 1 0 0) sZ mZ aZ bZ hZ cZ AZ 1 0 0 _ L f 4 [(0, .ref w)] [.int (iI (t.length : Int))]
  exact z_ireturn C dJ4_length_8abf5_4 (Nat.le_of_ble_eq_true rfl) (Nat.le_of_ble_eq_true rfl) ⟨rfl, rfl, rfl⟩

set_option maxRecDepth 100000 in
set_option maxHeartbeats 200000 in
theorem c_sb_at5 {la : Launch} {G : zG} {X : (Nat → Prop) → State → Prop} (hX : zX X) {L : List Nat} {f : Nat → va_E} {ax : Nat → Nat × Nat} {w b m : Nat} {t : List Int} (hSb : zSb G L f w b m t) (hT : zT1 X ax) (i : Int) (hi : 0 ≤ i ∧ i < t.length) : zM la G X yJ5_charAt_5068e (.code yJ5_charAt_5068e cJ5_charAt_5068e 5 (some .char) :: zT) 2 0 0 [.ref w, .int (iI i)] L f zeI (zRd L f (fun z => z = t.getD i.toNat 0)) := by
  refine zM_intro hX (by decide) (Nat.le_of_ble_eq_true rfl) (fun pZ eZ sZ mZ aZ bZ hZ cZ AZ C hini => ?_)
  change ZW G pZ la eZ (zRm 2 0 0) sZ mZ aZ bZ hZ cZ AZ 5 0 0 _ L f 0 [(0, .ref w), (1, .int (iI i))] []
  obtain ⟨x, τ, hob, hA, hm, hlt, hτ, hbd, hx⟩ := hSb
  have hP0 := zSbP_r L f w b
  have hti := hτ i hi.1 hi.2
  have hbi := hbd i hi.1 (by omega)
  refine z_aload_n C 0 dJ5_charAt_5068e_0 rfl ?_
  refine z_getf C 1 zin_J4 (hob.1) (hob.2) rfl (Nat.le_of_ble_eq_true rfl) zl_1_125 rfl rfl dJ5_charAt_5068e_1 ?_
  refine z_istore_n (ls' := [(2, .int (iI 0)), (0, .ref w), (1, .int (iI i))]) C dJ5_charAt_5068e_4 (Nat.le_of_ble_eq_true rfl) rfl ?_
  refine z_aload_n C 1 dJ5_charAt_5068e_5 rfl ?_
  refine z_getf C 0 zin_J4 (hob.1) (hob.2) rfl (Nat.le_of_ble_eq_true rfl) zl_1_124 rfl rfl dJ5_charAt_5068e_6 ?_
  refine z_astore_n (ls' := [(3, .ref b), (2, .int (iI 0)), (0, .ref w), (1, .int (iI i))]) C dJ5_charAt_5068e_9 (Nat.le_of_ble_eq_true rfl) rfl ?_
  refine z_aload_n C 2 dJ5_charAt_5068e_10 rfl ?_
  refine z_getf C 3 zin_J4 (hob.1) (hob.2) rfl (Nat.le_of_ble_eq_true rfl) zl_1_128 rfl rfl dJ5_charAt_5068e_11 ?_
  refine z_aload_n C 0 dJ5_charAt_5068e_14 rfl ?_
  refine z_alen C (hA) rfl dJ5_charAt_5068e_15 ?_
  refine z_iload_n C 1 dJ5_charAt_5068e_16 rfl ?_
  refine z_ishr0 C dJ5_charAt_5068e_17 ?_
  refine z_mmin C zl_6_89 (Nat.le_of_ble_eq_true rfl) (Nat.le_of_ble_eq_true rfl) (Nat.le_of_ble_eq_true rfl) (by omega) (by omega) (Nat.le_of_ble_eq_true rfl) dJ5_charAt_5068e_18 (fun w1 hw2 => ?_)
  refine z_istore (ls' := [(4, .int (iI w1)), (3, .ref b), (2, .int (iI 0)), (0, .ref w), (1, .int (iI i))]) C dJ5_charAt_5068e_21 (Nat.le_of_ble_eq_true rfl) rfl ?_
  refine z_iload_n C 4 dJ5_charAt_5068e_23 rfl ?_
  refine z_iload C 0 dJ5_charAt_5068e_24 rfl ?_
  refine z_cS (As := [.int (iI i), .int (iI w1)]) C zc_J0_checkIndex_df160 (c_J0_checkIndex hX hT i w1 (by omega) (by omega)) zl_6_90 (Nat.le_of_ble_eq_true rfl) (Nat.le_of_ble_eq_true rfl) (Nat.le_of_ble_eq_true rfl) rfl rfl (Nat.le_of_ble_eq_true rfl) dJ5_charAt_5068e_26 (fun z3 L4 f5 hz6 => ?_)
  obtain ⟨hz6, rfl, rfl⟩ := hz6
  change ZW G pZ la eZ (zRm 2 0 0) sZ mZ aZ bZ hZ cZ AZ 5 0 0 _ L f 29 [(4, .int (iI w1)), (3, .ref b), (2, .int (iI 0)), (0, .ref w), (1, .int (iI i))] []
  refine z_iload_n C 2 dJ5_charAt_5068e_29 rfl ?_
  refine z_if_ne C 42 dJ5_charAt_5068e_30 (by decide) (by omega) (fun h30 => ?_) (fun h30 => ?_)
  · exfalso; omega
  · refine z_aload_n C 1 dJ5_charAt_5068e_33 rfl ?_
    refine z_iload_n C 4 dJ5_charAt_5068e_34 rfl ?_
    refine z_bald C (hA) (by omega) (by omega) (by omega) dJ5_charAt_5068e_35 ?_
    refine z_sipush C dJ5_charAt_5068e_36 (by decide) ?_
    refine z_iand8 C (by omega) dJ5_charAt_5068e_39 ?_
    refine z_i2c C dJ5_charAt_5068e_40 (by omega) ?_
    exact z_creturn C (by omega) dJ5_charAt_5068e_41 (Nat.le_of_ble_eq_true rfl) (Nat.le_of_ble_eq_true rfl) ⟨hti, rfl, rfl⟩

set_option maxRecDepth 100000 in
set_option maxHeartbeats 200000 in
theorem c_sb_at {la : Launch} {G : zG} {X : (Nat → Prop) → State → Prop} (hX : zX X) {L : List Nat} {f : Nat → va_E} {ax : Nat → Nat × Nat} {w b m : Nat} {t : List Int} (hSb : zSb G L f w b m t) (hT : zT1 X ax) (i : Int) (hi : 0 ≤ i ∧ i < t.length) : zM la G X yJ4_charAt_5068e (.code yJ4_charAt_5068e cJ4_charAt_5068e 2 (some .char) :: zT) 3 0 0 [.ref w, .int (iI i)] L f zeI (zRd L f (fun z => z = t.getD i.toNat 0)) := by
  refine zM_intro hX (by decide) (Nat.le_of_ble_eq_true rfl) (fun pZ eZ sZ mZ aZ bZ hZ cZ AZ C hini => ?_)
  change ZW G pZ la eZ (zRm 3 0 0) sZ mZ aZ bZ hZ cZ AZ 2 0 0 _ L f 0 [(0, .ref w), (1, .int (iI i))] []
  have hSb0 := hSb
  obtain ⟨x, τ, hob, hA, hm, hlt, hτ, hbd, hx⟩ := hSb0
  have hP0 := zSbP_r L f w b
  have hti := hτ i hi.1 hi.2
  have hbi := hbd i hi.1 (by omega)
  refine z_aload_n C 0 dJ4_charAt_5068e_0 rfl ?_
  refine z_iload_n C 1 dJ4_charAt_5068e_1 rfl ?_
  refine z_cSU (n := 1) (As := [.int (iI i)]) C zl_6_88 zl_6_87 zl_8_15 zl_1_137 zl_1_7 ⟨by decide +kernel, by decide +kernel⟩ (by decide) (c_sb_at5 hX hSb hT i hi) zl_6_86 (Nat.le_of_ble_eq_true rfl) (Nat.le_of_ble_eq_true rfl) (Nat.le_of_ble_eq_true rfl) hob rfl rfl (Nat.le_of_ble_eq_true rfl) dJ4_charAt_5068e_2 (fun z1 L2 f3 hz4 => ?_)
  obtain ⟨hz4, rfl, rfl⟩ := hz4
  subst hz4
  change ZW G pZ la eZ (zRm 3 0 0) sZ mZ aZ bZ hZ cZ AZ 2 0 0 _ L f 5 [(0, .ref w), (1, .int (iI i))] [.int (iI (t.getD (i).toNat 0))]
  exact z_creturn C (by omega) dJ4_charAt_5068e_5 (Nat.le_of_ble_eq_true rfl) (Nat.le_of_ble_eq_true rfl) ⟨rfl, rfl, rfl⟩

set_option maxRecDepth 100000 in
set_option maxHeartbeats 200000 in
theorem c_sb_setL5 {la : Launch} {G : zG} {X : (Nat → Prop) → State → Prop} (hX : zX X) {L : List Nat} {f : Nat → va_E} {w b m : Nat} {t : List Int} (hSb : zSb G L f w b m t) (hP : zT3 X)  : zM la G X yJ5_setLength_d00df (.code yJ5_setLength_d00df cJ5_setLength_d00df 2 none :: zT) 4 1 34 [.ref w, .int (iI 0)] L f zeV (fun _ L' f' => ∃ b' m' : Nat, zSb G L' f' w b' m' [] ∧ zSbP L f w b L' f' b') := by
  refine zM_intro hX (by decide) (Nat.le_of_ble_eq_true rfl) (fun pZ eZ sZ mZ aZ bZ hZ cZ AZ C hini => ?_)
  change ZW G pZ la eZ (zRm 4 1 34) sZ mZ aZ bZ hZ cZ AZ 2 0 0 _ L f 0 [(0, .ref w), (1, .int (iI 0))] []
  obtain ⟨x, τ, hob, hA, hm, hlt, hτ, hbd, hx⟩ := hSb
  have hP0 := zSbP_r L f w b
  refine z_iload_n C 1 dJ5_setLength_d00df_0 rfl ?_
  refine z_if_ge C 13 dJ5_setLength_d00df_1 (by decide) (by omega) (fun h1 => ?_) (fun h1 => ?_)
  · refine z_aload_n C 0 dJ5_setLength_d00df_13 rfl ?_
    refine z_iload_n C 1 dJ5_setLength_d00df_14 rfl ?_
    refine z_cVS (n := 1) (As := [.int (iI 0)]) C (va_Nw.use rfl (hP _ _ C.x _ (List.mem_of_getElem? (i := 0) rfl))) zl_5_56 zl_5_55 zl_1_7 ⟨by decide +kernel, by decide +kernel, by decide +kernel⟩ (by decide) (c_sb_ensure hX hob hA hP 0 hm hbd (by omega)) zl_5_53 (Nat.le_of_ble_eq_true rfl) (Nat.le_of_ble_eq_true rfl) (Nat.le_of_ble_eq_true rfl) hob rfl rfl (Nat.le_of_ble_eq_true rfl) dJ5_setLength_d00df_15 (fun z1 L2 f3 hz4 => ?_)
    obtain ⟨bE, mE, τE, hobE, hAE, hmE, hqE, hmmE, htE, hbdE, hPE⟩ := hz4
    change ZW G pZ la eZ (zRm 4 1 34) sZ mZ aZ bZ hZ cZ AZ 2 1 34 _ L2 f3 18 [(0, .ref w), (1, .int (iI 0))] []
    refine z_aload_n C 0 dJ5_setLength_d00df_18 rfl ?_
    refine z_getf C 3 zin_J4 (hobE.1) (hobE.2) rfl (Nat.le_of_ble_eq_true rfl) zl_1_128 rfl rfl dJ5_setLength_d00df_19 ?_
    refine z_iload_n C 1 dJ5_setLength_d00df_22 rfl ?_
    refine z_icmp_ge C 63 dJ5_setLength_d00df_23 (by decide) (by omega) (by omega) (fun h23 => ?_) (fun h23 => ?_)
    · refine z_aload_n C 0 dJ5_setLength_d00df_63 rfl ?_
      refine z_getf C 3 zin_J4 (hobE.1) (hobE.2) rfl (Nat.le_of_ble_eq_true rfl) zl_1_128 rfl rfl dJ5_setLength_d00df_64 ?_
      refine z_iload_n C 1 dJ5_setLength_d00df_67 rfl ?_
      refine z_icmp_le C 76 dJ5_setLength_d00df_68 (by decide) (by omega) (by omega) (fun h68 => ?_) (fun h68 => ?_)
      · refine z_aload_n C 0 dJ5_setLength_d00df_76 rfl ?_
        refine z_iload_n C 1 dJ5_setLength_d00df_77 rfl ?_
        refine z_putG C 3 zin_J4 tyJ4_ok nmJ4 hobE.1 hobE.2 rfl (Nat.le_of_ble_eq_true rfl) zl_1_128 rfl rfl rfl rfl rfl (Nat.le_of_ble_eq_true rfl) dJ5_setLength_d00df_78 (fun f5 hf6 hk7 => ?_)
        have hob8 : zOb L2 f5 w 1 [.ref bE, .int (iI 0), .int (iI x), .int (iI 0)] := ⟨hobE.1, hf6⟩
        have hA10 := zA_wO hAE hobE.2 hk7
        have hP9 := zSbP_o hPE hk7
        exact z_vreturn C dJ5_setLength_d00df_81 (Nat.le_of_ble_eq_true rfl) (Nat.le_of_ble_eq_true rfl) ⟨_, _, ⟨_, _, hob8, hA10, hmE, Nat.zero_le _, fun j q0 q1 => absurd q1 (by show ¬ j < 0; omega), hbdE, hx⟩, hP9⟩
      · refine z_aload_n C 0 dJ5_setLength_d00df_71 rfl ?_
        refine z_iconst C dJ5_setLength_d00df_72 ?_
        refine z_putG C 2 zin_J4 tyJ4_ok nmJ4 hobE.1 hobE.2 rfl (Nat.le_of_ble_eq_true rfl) zl_1_126 rfl rfl rfl rfl rfl (Nat.le_of_ble_eq_true rfl) dJ5_setLength_d00df_73 (fun f11 hf12 hk13 => ?_)
        have hob14 : zOb L2 f11 w 1 [.ref bE, .int (iI 0), .int (iI 1), .int (iI (t.length : Int))] := ⟨hobE.1, hf12⟩
        have hA16 := zA_wO hAE hobE.2 hk13
        have hP15 := zSbP_o hPE hk13
        refine z_aload_n C 0 dJ5_setLength_d00df_76 rfl ?_
        refine z_iload_n C 1 dJ5_setLength_d00df_77 rfl ?_
        refine z_putG C 3 zin_J4 tyJ4_ok nmJ4 hob14.1 hob14.2 rfl (Nat.le_of_ble_eq_true rfl) zl_1_128 rfl rfl rfl rfl rfl (Nat.le_of_ble_eq_true rfl) dJ5_setLength_d00df_78 (fun f17 hf18 hk19 => ?_)
        have hob20 : zOb L2 f17 w 1 [.ref bE, .int (iI 0), .int (iI 1), .int (iI 0)] := ⟨hob14.1, hf18⟩
        have hA22 := zA_wO hA16 hob14.2 hk19
        have hP21 := zSbP_o hP15 hk19
        exact z_vreturn C dJ5_setLength_d00df_81 (Nat.le_of_ble_eq_true rfl) (Nat.le_of_ble_eq_true rfl) ⟨_, _, ⟨_, _, hob20, hA22, hmE, Nat.zero_le _, fun j q0 q1 => absurd q1 (by show ¬ j < 0; omega), hbdE, Or.inr rfl⟩, hP21⟩
    · exfalso; omega
  · exfalso; omega

set_option maxRecDepth 100000 in
set_option maxHeartbeats 200000 in
theorem c_sb_setL {la : Launch} {G : zG} {X : (Nat → Prop) → State → Prop} (hX : zX X) {L : List Nat} {f : Nat → va_E} {w b m : Nat} {t : List Int} (hSb : zSb G L f w b m t) (hP : zT3 X)  : zM la G X yJ4_setLength_d00df (.code yJ4_setLength_d00df cJ4_setLength_d00df 2 none :: zT) 5 1 34 [.ref w, .int (iI 0)] L f zeV (fun _ L' f' => ∃ b' m' : Nat, zSb G L' f' w b' m' [] ∧ zSbP L f w b L' f' b') := by
  refine zM_intro hX (by decide) (Nat.le_of_ble_eq_true rfl) (fun pZ eZ sZ mZ aZ bZ hZ cZ AZ C hini => ?_)
  change ZW G pZ la eZ (zRm 5 1 34) sZ mZ aZ bZ hZ cZ AZ 2 0 0 _ L f 0 [(0, .ref w), (1, .int (iI 0))] []
  have hSb0 := hSb
  obtain ⟨x, τ, hob, hA, hm, hlt, hτ, hbd, hx⟩ := hSb0
  have hP0 := zSbP_r L f w b
  refine z_aload_n C 0 dJ4_setLength_d00df_0 rfl ?_
  refine z_iload_n C 1 dJ4_setLength_d00df_1 rfl ?_
  refine z_cSU (n := 1) (As := [.int (iI 0)]) C zl_5_33 zl_5_32 zl_8_4 zl_1_137 zl_1_7 ⟨by decide +kernel, by decide +kernel⟩ (by decide) (c_sb_setL5 hX hSb hP) zl_5_31 (Nat.le_of_ble_eq_true rfl) (Nat.le_of_ble_eq_true rfl) (Nat.le_of_ble_eq_true rfl) hob rfl rfl (Nat.le_of_ble_eq_true rfl) dJ4_setLength_d00df_2 (fun z1 L2 f3 hz4 => ?_)
  obtain ⟨b9, hR⟩ := hz4
  change ZW G pZ la eZ (zRm 5 1 34) sZ mZ aZ bZ hZ cZ AZ 2 1 34 _ L2 f3 5 [(0, .ref w), (1, .int (iI 0))] []
  exact z_vreturn C dJ4_setLength_d00df_5 (Nat.le_of_ble_eq_true rfl) (Nat.le_of_ble_eq_true rfl) ⟨b9, hR⟩

set_option maxRecDepth 100000 in
set_option maxHeartbeats 200000 in
theorem c_newSb5 {la : Launch} {G : zG} {X : (Nat → Prop) → State → Prop} (hX : zX X) {L : List Nat} {f : Nat → va_E} {ax : Nat → Nat × Nat} {o : Nat} (ho : zOb L f o 1 [.null, .int 0, .int 0, .int 0]) (hT : zT1 X ax)  : zM la G X yJ5_init_d00df (.code yJ5_init_d00df cJ5_init_d00df 2 none :: zT) 1 1 16 [.ref o, .int (iI 16)] L f zeV (fun _ L' f' => ∃ b, b ∉ L ∧ zSb G L' f' o b 16 [] ∧ zFr L f L' f' o) := by
  refine zM_intro hX (by decide) (Nat.le_of_ble_eq_true rfl) (fun pZ eZ sZ mZ aZ bZ hZ cZ AZ C hini => ?_)
  change ZW G pZ la eZ (zRm 1 1 16) sZ mZ aZ bZ hZ cZ AZ 2 0 0 _ L f 0 [(0, .ref o), (1, .int (iI 16))] []
  have hfr0 := zFr_r L f o
  refine z_aload_n C 0 dJ5_init_d00df_0 rfl ?_
  refine z_objInit C zl_1_114 (Nat.le_of_ble_eq_true rfl) (Nat.le_of_ble_eq_true rfl) dJ5_init_d00df_1 ?_
  refine z_gets C (hT _ _ C.x).2.1 zl_1_115 dJ5_init_d00df_4 ?_
  refine z_if_eq C 25 dJ5_init_d00df_7 (by decide) (by omega) (fun h7 => ?_) (fun h7 => ?_)
  · exfalso; omega
  · refine z_aload_n C 0 dJ5_init_d00df_10 rfl ?_
    refine z_iload_n C 1 dJ5_init_d00df_11 rfl ?_
    refine z_newa (ty := .byte) C 3 16 zl_1_138 rfl rfl rfl (fun U cA h => h) rfl (Nat.le_of_ble_eq_true rfl) (Nat.le_of_ble_eq_true rfl) (Nat.le_of_ble_eq_true rfl) (Nat.le_of_ble_eq_true rfl) dJ5_init_d00df_12 (fun q1 L2 f3 hq4 hL5 hp6 hk7 => ?_)
    have hE8 := zExt_q hq4 hL5 hk7
    have hqn : q1 ∉ L := zFr_no hfr0 hq4
    have ho9 := zOb_e ho hE8
    have hfr10 := zFr_e hfr0 hE8
    change ZW G pZ la eZ (zRm 1 1 16) sZ mZ aZ bZ hZ cZ AZ 2 1 16 _ L2 f3 14 [(0, .ref o), (1, .int (iI 16))] [.ref q1, .ref o]
    refine z_putG C 0 zin_J4 tyJ4_ok nmJ4 ho9.1 ho9.2 rfl (Nat.le_of_ble_eq_true rfl) zl_1_124 rfl rfl rfl rfl rfl (Nat.le_of_ble_eq_true rfl) dJ5_init_d00df_14 (fun f11 hf12 hk13 => ?_)
    have hp14 := zA_wO hp6 ho9.2 hk13
    have ho15 : zOb L2 f11 o 1 [.ref q1, .int 0, .int 0, .int 0] := ⟨ho9.1, hf12⟩
    have hfr16 := zFr_o hfr10 hk13
    refine z_aload_n C 0 dJ5_init_d00df_17 rfl ?_
    refine z_iconst C dJ5_init_d00df_18 ?_
    refine z_putG C 1 zin_J4 tyJ4_ok nmJ4 ho15.1 ho15.2 rfl (Nat.le_of_ble_eq_true rfl) zl_1_125 rfl rfl rfl rfl rfl (Nat.le_of_ble_eq_true rfl) dJ5_init_d00df_19 (fun f17 hf18 hk19 => ?_)
    have hp20 := zA_wO hp14 ho15.2 hk19
    have ho21 : zOb L2 f17 o 1 [.ref q1, .int (iI 0), .int 0, .int 0] := ⟨ho15.1, hf18⟩
    have hfr22 := zFr_o hfr16 hk19
    refine z_goto C 38 dJ5_init_d00df_22 (by decide) ?_
    exact z_vreturn C dJ5_init_d00df_38 (Nat.le_of_ble_eq_true rfl) (Nat.le_of_ble_eq_true rfl) ⟨_, hqn, ⟨0, _, ho21, hp20, Or.inl rfl, Nat.zero_le _, fun j q0 q1 => absurd q1 (by show ¬ j < 0; omega), fun j q0 q1 => ⟨by show (0 : Int) ≤ 0; decide, by show (0 : Int) < 128; decide⟩, Or.inl rfl⟩, hfr22⟩

set_option maxRecDepth 100000 in
set_option maxHeartbeats 200000 in
theorem c_newSb {la : Launch} {G : zG} {X : (Nat → Prop) → State → Prop} (hX : zX X) {L : List Nat} {f : Nat → va_E} {ax : Nat → Nat × Nat} {o : Nat} (ho : zOb L f o 1 [.null, .int 0, .int 0, .int 0]) (hT : zT1 X ax)  : zM la G X yJ4_init_da8c8 (.code yJ4_init_da8c8 cJ4_init_da8c8 1 none :: zT) 2 1 16 [.ref o] L f zeV (fun _ L' f' => ∃ b, b ∉ L ∧ zSb G L' f' o b 16 [] ∧ zFr L f L' f' o) := by
  refine zM_intro hX (by decide) (Nat.le_of_ble_eq_true rfl) (fun pZ eZ sZ mZ aZ bZ hZ cZ AZ C hini => ?_)
  change ZW G pZ la eZ (zRm 2 1 16) sZ mZ aZ bZ hZ cZ AZ 1 0 0 _ L f 0 [(0, .ref o)] []
  refine z_aload_n C 0 dJ4_init_da8c8_0 rfl ?_
  refine z_bipush C dJ4_init_da8c8_1 (by decide) ?_
  refine z_cI (As := [.int (iI 16)]) C zc_J5_init_d00df (c_newSb5 hX ho hT) zl_1_111 (Nat.le_of_ble_eq_true rfl) (Nat.le_of_ble_eq_true rfl) (Nat.le_of_ble_eq_true rfl) rfl rfl (Nat.le_of_ble_eq_true rfl) dJ4_init_da8c8_3 (fun z1 L2 f3 hz4 => ?_)
  obtain ⟨b9, hR⟩ := hz4
  change ZW G pZ la eZ (zRm 2 1 16) sZ mZ aZ bZ hZ cZ AZ 1 1 16 _ L2 f3 6 [(0, .ref o)] []
  exact z_vreturn C dJ4_init_da8c8_6 (Nat.le_of_ble_eq_true rfl) (Nat.le_of_ble_eq_true rfl) ⟨b9, hR⟩
