set_option maxRecDepth 100000 in
set_option maxHeartbeats 200000 in
theorem c_s_isLatin1 {la : Launch} {G : zG} {X : (Nat → Prop) → State → Prop} (hX : zX X) {L : List Nat} {f : Nat → va_E} {ax : Nat → Nat × Nat} {a v : Nat} {t : List Int} (hT : zT1 X ax) (hSt : ∀ A s, X A s → zSt a v t A s)   : zM la G X yJ0_isLatin1_aae02 (.code yJ0_isLatin1_aae02 cJ0_isLatin1_aae02 1 (some .boolean) :: zT) 0 0 0 [.ref a] L f zeI (zRd L f (fun z => z = 1)) := by
  refine zM_intro hX (by decide) (Nat.le_of_ble_eq_true rfl) (fun pZ eZ sZ mZ aZ bZ hZ cZ AZ C hini => ?_)
  change ZW G pZ la eZ (zRm 0 0 0) sZ mZ aZ bZ hZ cZ AZ 1 0 0 _ L f 0 [(0, .ref a)] []
  refine z_gets C (hT _ _ C.x).2.1 zl_5_123 dJ0_isLatin1_aae02_0 ?_
  refine z_if_eq C 17 dJ0_isLatin1_aae02_3 (by decide) (by omega) (fun h3 => ?_) (fun h3 => ?_)
  · exfalso; omega
  · refine z_aload_n C 0 dJ0_isLatin1_aae02_6 rfl ?_
    refine z_sget C (hSt _ _ C.x).2.1 zl_6_0 dJ0_isLatin1_aae02_7 ?_
    refine z_if_ne C 17 dJ0_isLatin1_aae02_10 (by decide) (by omega) (fun h10 => ?_) (fun h10 => ?_)
    · exfalso; omega
    · refine z_iconst C dJ0_isLatin1_aae02_13 ?_
      refine z_goto C 18 dJ0_isLatin1_aae02_14 (by decide) ?_
      exact z_zreturn C (by first | omega | (unfold bI; split <;> omega)) dJ0_isLatin1_aae02_18 (Nat.le_of_ble_eq_true rfl) (Nat.le_of_ble_eq_true rfl) ⟨rfl, rfl, rfl⟩

set_option maxRecDepth 100000 in
set_option maxHeartbeats 200000 in
theorem c_s_coder {la : Launch} {G : zG} {X : (Nat → Prop) → State → Prop} (hX : zX X) {L : List Nat} {f : Nat → va_E} {ax : Nat → Nat × Nat} {a v : Nat} {t : List Int} (hT : zT1 X ax) (hSt : ∀ A s, X A s → zSt a v t A s)   : zM la G X yJ0_coder_7d493 (.code yJ0_coder_7d493 cJ0_coder_7d493 1 (some .byte) :: zT) 0 0 0 [.ref a] L f zeI (zRd L f (fun z => z = 0)) := by
  refine zM_intro hX (by decide) (Nat.le_of_ble_eq_true rfl) (fun pZ eZ sZ mZ aZ bZ hZ cZ AZ C hini => ?_)
  change ZW G pZ la eZ (zRm 0 0 0) sZ mZ aZ bZ hZ cZ AZ 1 0 0 _ L f 0 [(0, .ref a)] []
  refine z_gets C (hT _ _ C.x).2.1 zl_5_123 dJ0_coder_7d493_0 ?_
  refine z_if_eq C 13 dJ0_coder_7d493_3 (by decide) (by omega) (fun h3 => ?_) (fun h3 => ?_)
  · exfalso; omega
  · refine z_aload_n C 0 dJ0_coder_7d493_6 rfl ?_
    refine z_sget C (hSt _ _ C.x).2.1 zl_6_0 dJ0_coder_7d493_7 ?_
    refine z_goto C 14 dJ0_coder_7d493_10 (by decide) ?_
    exact z_b0return C dJ0_coder_7d493_14 (Nat.le_of_ble_eq_true rfl) (Nat.le_of_ble_eq_true rfl) ⟨rfl, rfl, rfl⟩

set_option maxRecDepth 100000 in
set_option maxHeartbeats 200000 in
theorem c_s_length {la : Launch} {G : zG} {X : (Nat → Prop) → State → Prop} (hX : zX X) {L : List Nat} {f : Nat → va_E} {ax : Nat → Nat × Nat} {a v : Nat} {t : List Int} (hT : zT1 X ax) (hSt : ∀ A s, X A s → zSt a v t A s)   : zM la G X yJ0_length_8abf5 (.code yJ0_length_8abf5 cJ0_length_8abf5 1 (some .int) :: zT) 1 0 0 [.ref a] L f zeI (zRd L f (fun z => z = (t.length : Int))) := by
  refine zM_intro hX (by decide) (Nat.le_of_ble_eq_true rfl) (fun pZ eZ sZ mZ aZ bZ hZ cZ AZ C hini => ?_)
  change ZW G pZ la eZ (zRm 1 0 0) sZ mZ aZ bZ hZ cZ AZ 1 0 0 _ L f 0 [(0, .ref a)] []
  refine z_aload_n C 0 dJ0_length_8abf5_0 rfl ?_
  refine z_sget C (hSt _ _ C.x).2.2.1 zl_5_239 dJ0_length_8abf5_1 ?_
  refine z_tlen C ((hSt _ _ C.x).2.2.2) dJ0_length_8abf5_4 ?_
  refine z_aload_n C 0 dJ0_length_8abf5_5 rfl ?_
  refine z_cVO (As := []) C zc_J0_coder_7d493 (c_s_coder hX hT hSt) zl_5_119 (Nat.le_of_ble_eq_true rfl) (Nat.le_of_ble_eq_true rfl) (Nat.le_of_ble_eq_true rfl) ((hSt _ _ C.x).1) rfl rfl (Nat.le_of_ble_eq_true rfl) dJ0_length_8abf5_6 (fun z1 L2 f3 hz4 => ?_)
  obtain ⟨hz4, rfl, rfl⟩ := hz4
  subst hz4
  change ZW G pZ la eZ (zRm 1 0 0) sZ mZ aZ bZ hZ cZ AZ 1 0 0 _ L f 9 [(0, .ref a)] [.int (iI 0), .int (iI (t.length : Int))]
  refine z_ishr0 C dJ0_length_8abf5_9 ?_
  exact z_ireturn C dJ0_length_8abf5_10 (Nat.le_of_ble_eq_true rfl) (Nat.le_of_ble_eq_true rfl) ⟨rfl, rfl, rfl⟩

set_option maxRecDepth 100000 in
set_option maxHeartbeats 200000 in
theorem c_J3_checkIndex_n {la : Launch} {G : zG} {X : (Nat → Prop) → State → Prop} (hX : zX X) {L : List Nat} {f : Nat → va_E} (i n : Int) (hi : 0 ≤ i ∧ i < n) (hn : zR n) : zM la G X yJ3_checkIndex_8e157 (.code yJ3_checkIndex_8e157 cJ3_checkIndex_8e157 3 (some .int) :: zT) 0 0 0 [.int (iI i), .int (iI n), .null] L f zeI (zRd L f (fun z => z = i)) := by
  refine zM_intro hX (by decide) (Nat.le_of_ble_eq_true rfl) (fun pZ eZ sZ mZ aZ bZ hZ cZ AZ C hini => ?_)
  change ZW G pZ la eZ (zRm 0 0 0) sZ mZ aZ bZ hZ cZ AZ 3 0 0 _ L f 0 [(0, .int (iI i)), (1, .int (iI n)), (2, .null)] []
  refine z_iload_n C 0 dJ3_checkIndex_8e157_0 rfl ?_
  refine z_if_lt C 9 dJ3_checkIndex_8e157_1 (by decide) (by omega) (fun h1 => ?_) (fun h1 => ?_)
  · exfalso; omega
  · refine z_iload_n C 0 dJ3_checkIndex_8e157_4 rfl ?_
    refine z_iload_n C 1 dJ3_checkIndex_8e157_5 rfl ?_
    refine z_icmp_lt C 16 dJ3_checkIndex_8e157_6 (by decide) (by omega) (by omega) (fun h6 => ?_) (fun h6 => ?_)
    · refine z_iload_n C 0 dJ3_checkIndex_8e157_16 rfl ?_
      exact z_ireturn C dJ3_checkIndex_8e157_17 (Nat.le_of_ble_eq_true rfl) (Nat.le_of_ble_eq_true rfl) ⟨rfl, rfl, rfl⟩
    · exfalso; omega

set_option maxRecDepth 100000 in
set_option maxHeartbeats 200000 in
theorem c_J3_checkIndex_s {la : Launch} {G : zG} {X : (Nat → Prop) → State → Prop} (hX : zX X) {L : List Nat} {f : Nat → va_E} (i n : Int) (x : Nat) (hi : 0 ≤ i ∧ i < n) (hn : zR n) : zM la G X yJ3_checkIndex_8e157 (.code yJ3_checkIndex_8e157 cJ3_checkIndex_8e157 3 (some .int) :: zT) 0 0 0 [.int (iI i), .int (iI n), .ref x] L f zeI (zRd L f (fun z => z = i)) := by
  refine zM_intro hX (by decide) (Nat.le_of_ble_eq_true rfl) (fun pZ eZ sZ mZ aZ bZ hZ cZ AZ C hini => ?_)
  change ZW G pZ la eZ (zRm 0 0 0) sZ mZ aZ bZ hZ cZ AZ 3 0 0 _ L f 0 [(0, .int (iI i)), (1, .int (iI n)), (2, .ref x)] []
  refine z_iload_n C 0 dJ3_checkIndex_8e157_0 rfl ?_
  refine z_if_lt C 9 dJ3_checkIndex_8e157_1 (by decide) (by omega) (fun h1 => ?_) (fun h1 => ?_)
  · exfalso; omega
  · refine z_iload_n C 0 dJ3_checkIndex_8e157_4 rfl ?_
    refine z_iload_n C 1 dJ3_checkIndex_8e157_5 rfl ?_
    refine z_icmp_lt C 16 dJ3_checkIndex_8e157_6 (by decide) (by omega) (by omega) (fun h6 => ?_) (fun h6 => ?_)
    · refine z_iload_n C 0 dJ3_checkIndex_8e157_16 rfl ?_
      exact z_ireturn C dJ3_checkIndex_8e157_17 (Nat.le_of_ble_eq_true rfl) (Nat.le_of_ble_eq_true rfl) ⟨rfl, rfl, rfl⟩
    · exfalso; omega

theorem c_J3_checkIndex {la : Launch} {G : zG} {X : (Nat → Prop) → State → Prop} (hX : zX X) {L : List Nat} {f : Nat → va_E} (i n : Int) (r : Option Nat) (hi : 0 ≤ i ∧ i < n) (hn : zR n) : zM la G X yJ3_checkIndex_8e157 (.code yJ3_checkIndex_8e157 cJ3_checkIndex_8e157 3 (some .int) :: zT) 0 0 0 [.int (iI i), .int (iI n), va_rf r] L f zeI (zRd L f (fun z => z = i)) := by
  cases r with
  | none => exact c_J3_checkIndex_n hX i n hi hn
  | some x => exact c_J3_checkIndex_s hX i n x hi hn

set_option maxRecDepth 100000 in
set_option maxHeartbeats 200000 in
theorem c_J0_checkIndex {la : Launch} {G : zG} {X : (Nat → Prop) → State → Prop} (hX : zX X) {L : List Nat} {f : Nat → va_E} {ax : Nat → Nat × Nat} (hT : zT1 X ax) (i n : Int) (hi : 0 ≤ i ∧ i < n) (hn : zR n) : zM la G X yJ0_checkIndex_df160 (.code yJ0_checkIndex_df160 cJ0_checkIndex_df160 2 none :: zT) 1 0 0 [.int (iI i), .int (iI n)] L f zeV (zRd L f (fun _ => True)) := by
  refine zM_intro hX (by decide) (Nat.le_of_ble_eq_true rfl) (fun pZ eZ sZ mZ aZ bZ hZ cZ AZ C hini => ?_)
  change ZW G pZ la eZ (zRm 1 0 0) sZ mZ aZ bZ hZ cZ AZ 2 0 0 _ L f 0 [(0, .int (iI i)), (1, .int (iI n))] []
  refine z_iload_n C 0 dJ0_checkIndex_df160_0 rfl ?_
  refine z_iload_n C 1 dJ0_checkIndex_df160_1 rfl ?_
  refine z_getsq C (hT _ _ C.x).2.2.1 zl_5_101 dJ0_checkIndex_df160_2 (fun r1 => ?_)
  refine z_cS (As := [.int (iI i), .int (iI n), va_rf r1]) C zc_J3_checkIndex_8e157 (c_J3_checkIndex hX i n r1 (by omega) (by omega)) zl_6_63 (Nat.le_of_ble_eq_true rfl) (Nat.le_of_ble_eq_true rfl) (Nat.le_of_ble_eq_true rfl) rfl rfl (Nat.le_of_ble_eq_true rfl) dJ0_checkIndex_df160_5 (fun z2 L3 f4 hz5 => ?_)
  obtain ⟨hz5, rfl, rfl⟩ := hz5
  have hz5' := hz5.symm; subst hz5'
  change ZW G pZ la eZ (zRm 1 0 0) sZ mZ aZ bZ hZ cZ AZ 2 0 0 _ L f 8 [(0, .int (iI i)), (1, .int (iI n))] [.int (iI i)]
  refine z_pop C dJ0_checkIndex_df160_8 rfl ?_
  exact z_vreturn C dJ0_checkIndex_df160_9 (Nat.le_of_ble_eq_true rfl) (Nat.le_of_ble_eq_true rfl) ⟨trivial, rfl, rfl⟩

set_option maxRecDepth 100000 in
set_option maxHeartbeats 200000 in
theorem c_s_charAt1 {la : Launch} {G : zG} {X : (Nat → Prop) → State → Prop} (hX : zX X) {L : List Nat} {f : Nat → va_E} {ax : Nat → Nat × Nat} {a v : Nat} {t : List Int} (hT : zT1 X ax) (hSt : ∀ A s, X A s → zSt a v t A s) (i : Int) (hg : zgood t) (hi : 0 ≤ i ∧ i < t.length) (ht : t.length < 1000) : zM la G X yJ1_charAt_3b067 (.code yJ1_charAt_3b067 cJ1_charAt_3b067 2 (some .char) :: zT) 2 0 0 [.ref v, .int (iI i)] L f zeI (zRd L f (fun z => z = t.getD i.toNat 0)) := by
  refine zM_intro hX (by decide) (Nat.le_of_ble_eq_true rfl) (fun pZ eZ sZ mZ aZ bZ hZ cZ AZ C hini => ?_)
  change ZW G pZ la eZ (zRm 2 0 0) sZ mZ aZ bZ hZ cZ AZ 2 0 0 _ L f 0 [(0, .ref v), (1, .int (iI i))] []
  refine z_iload_n C 1 dJ1_charAt_3b067_0 rfl ?_
  refine z_aload_n C 0 dJ1_charAt_3b067_1 rfl ?_
  refine z_tlen C ((hSt _ _ C.x).2.2.2) dJ1_charAt_3b067_2 ?_
  refine z_cS (As := [.int (iI i), .int (iI (t.length : Int))]) C zc_J0_checkIndex_df160 (c_J0_checkIndex hX hT i (t.length : Int) (by omega) (by omega)) zl_7_229 (Nat.le_of_ble_eq_true rfl) (Nat.le_of_ble_eq_true rfl) (Nat.le_of_ble_eq_true rfl) rfl rfl (Nat.le_of_ble_eq_true rfl) dJ1_charAt_3b067_3 (fun z1 L2 f3 hz4 => ?_)
  obtain ⟨hz4, rfl, rfl⟩ := hz4
  change ZW G pZ la eZ (zRm 2 0 0) sZ mZ aZ bZ hZ cZ AZ 2 0 0 _ L f 6 [(0, .ref v), (1, .int (iI i))] []
  refine z_aload_n C 0 dJ1_charAt_3b067_6 rfl ?_
  refine z_iload_n C 1 dJ1_charAt_3b067_7 rfl ?_
  refine z_tb (x := t.getD (i).toNat 0) C ((hSt _ _ C.x).2.2.2) (by omega) (by omega) (by omega) rfl dJ1_charAt_3b067_8 ?_
  have hgd := hg (i).toNat
  refine z_sipush C dJ1_charAt_3b067_9 (by decide) ?_
  refine z_iand8 C (by omega) dJ1_charAt_3b067_12 ?_
  refine z_i2c C dJ1_charAt_3b067_13 (by omega) ?_
  exact z_creturn C (by omega) dJ1_charAt_3b067_14 (Nat.le_of_ble_eq_true rfl) (Nat.le_of_ble_eq_true rfl) ⟨rfl, rfl, rfl⟩

set_option maxRecDepth 100000 in
set_option maxHeartbeats 200000 in
theorem c_s_charAt {la : Launch} {G : zG} {X : (Nat → Prop) → State → Prop} (hX : zX X) {L : List Nat} {f : Nat → va_E} {ax : Nat → Nat × Nat} {a v : Nat} {t : List Int} (hT : zT1 X ax) (hSt : ∀ A s, X A s → zSt a v t A s) (i : Int) (hg : zgood t) (hi : 0 ≤ i ∧ i < t.length) (ht : t.length < 1000) : zM la G X yJ0_charAt_5068e (.code yJ0_charAt_5068e cJ0_charAt_5068e 2 (some .char) :: zT) 3 0 0 [.ref a, .int (iI i)] L f zeI (zRd L f (fun z => z = t.getD i.toNat 0)) := by
  refine zM_intro hX (by decide) (Nat.le_of_ble_eq_true rfl) (fun pZ eZ sZ mZ aZ bZ hZ cZ AZ C hini => ?_)
  change ZW G pZ la eZ (zRm 3 0 0) sZ mZ aZ bZ hZ cZ AZ 2 0 0 _ L f 0 [(0, .ref a), (1, .int (iI i))] []
  refine z_aload_n C 0 dJ0_charAt_5068e_0 rfl ?_
  refine z_cVO (As := []) C zc_J0_isLatin1_aae02 (c_s_isLatin1 hX hT hSt) zl_7_222 (Nat.le_of_ble_eq_true rfl) (Nat.le_of_ble_eq_true rfl) (Nat.le_of_ble_eq_true rfl) ((hSt _ _ C.x).1) rfl rfl (Nat.le_of_ble_eq_true rfl) dJ0_charAt_5068e_1 (fun z1 L2 f3 hz4 => ?_)
  obtain ⟨hz4, rfl, rfl⟩ := hz4
  subst hz4
  change ZW G pZ la eZ (zRm 3 0 0) sZ mZ aZ bZ hZ cZ AZ 2 0 0 _ L f 4 [(0, .ref a), (1, .int (iI i))] [.int (iI 1)]
  refine z_if_eq C 16 dJ0_charAt_5068e_4 (by decide) (by omega) (fun h4 => ?_) (fun h4 => ?_)
  · exfalso; omega
  · refine z_aload_n C 0 dJ0_charAt_5068e_7 rfl ?_
    refine z_sget C (hSt _ _ C.x).2.2.1 zl_5_239 dJ0_charAt_5068e_8 ?_
    refine z_iload_n C 1 dJ0_charAt_5068e_11 rfl ?_
    refine z_cS (As := [.ref v, .int (iI i)]) C zc_J1_charAt_3b067 (c_s_charAt1 hX hT hSt i hg (by omega) (by omega)) zl_7_226 (Nat.le_of_ble_eq_true rfl) (Nat.le_of_ble_eq_true rfl) (Nat.le_of_ble_eq_true rfl) rfl rfl (Nat.le_of_ble_eq_true rfl) dJ0_charAt_5068e_12 (fun z5 L6 f7 hz8 => ?_)
    obtain ⟨hz8, rfl, rfl⟩ := hz8
    subst hz8
    have hgd := hg (i).toNat
    change ZW G pZ la eZ (zRm 3 0 0) sZ mZ aZ bZ hZ cZ AZ 2 0 0 _ L f 15 [(0, .ref a), (1, .int (iI i))] [.int (iI (t.getD (i).toNat 0))]
    exact z_creturn C (by omega) dJ0_charAt_5068e_15 (Nat.le_of_ble_eq_true rfl) (Nat.le_of_ble_eq_true rfl) ⟨rfl, rfl, rfl⟩
