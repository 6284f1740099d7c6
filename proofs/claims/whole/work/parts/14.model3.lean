set_option maxRecDepth 100000 in
set_option maxHeartbeats 200000 in
theorem c_X7_last {la : Launch} {G : zG} {X : (Nat → Prop) → State → Prop} (hX : zX X) {L : List Nat} {f : Nat → va_E} (n b : Int) (hn : 1 ≤ n ∧ n ≤ 100) (hb : 0 ≤ b ∧ b ≤ 100) : zM la G X yX7_last (.code yX7_last cX7_last 2 (some .int) :: zT) 0 0 0 [.int (iI n), .int (iI b)] L f zeI (zRd L f (fun z => z = b + (n - 1) / 5)) := by
  refine zM_intro hX (by decide) (Nat.le_of_ble_eq_true rfl) (fun pZ eZ sZ mZ aZ bZ hZ cZ AZ C hini => ?_)
  change ZW G pZ la eZ (zRm 0 0 0) sZ mZ aZ bZ hZ cZ AZ 2 0 0 _ L f 0 [(0, .int (iI n)), (1, .int (iI b))] []
  refine z_iload_n C 1 dX7_last_0 rfl ?_
  refine z_iload_n C 0 dX7_last_1 rfl ?_
  refine z_iconst C dX7_last_2 ?_
  refine z_isub C dX7_last_3 ?_
  refine z_iconst C dX7_last_4 ?_
  refine z_idivP C dX7_last_5 (by omega) (by omega) ?_
  refine z_iadd C dX7_last_6 ?_
  exact z_ireturn C dX7_last_7 (Nat.le_of_ble_eq_true rfl) (Nat.le_of_ble_eq_true rfl) ⟨rfl, rfl, rfl⟩

set_option maxRecDepth 100000 in
set_option maxHeartbeats 200000 in
theorem c_X7_size {la : Launch} {G : zG} {X : (Nat → Prop) → State → Prop} (hX : zX X) {L : List Nat} {f : Nat → va_E} {o : Nat} {ad : Nat → Nat} {μ : zMu} {t : Int} {u v : Int → Int} (hM : MR G L f o ad μ t u v) (hI : MJ μ) (l : Int) (hl : 0 ≤ l ∧ l < 16) : zM la G X yX7_size (.code yX7_size cX7_size 2 (some .int) :: zT) 0 0 0 [.ref o, .int (iI l)] L f zeI (zRd L f (fun z => z = spSize μ l)) := by
  refine zM_intro hX (by decide) (Nat.le_of_ble_eq_true rfl) (fun pZ eZ sZ mZ aZ bZ hZ cZ AZ C hini => ?_)
  change ZW G pZ la eZ (zRm 0 0 0) sZ mZ aZ bZ hZ cZ AZ 2 0 0 _ L f 0 [(0, .ref o), (1, .int (iI l))] []
  have hn9 := hI.n
  have hNO : zNO = -2147483648 := rfl
  
  refine z_aload_n C 0 dX7_size_0 rfl ?_
  refine z_getf C 15 zin_X7 (hM.1.1) (hM.1.2) rfl (Nat.le_of_ble_eq_true rfl) zl_6_113 rfl rfl dX7_size_1 ?_
  refine z_iload_n C 1 dX7_size_4 rfl ?_
  refine z_iald C (MR_a15 hM) (by omega) (by omega) (by omega) dX7_size_5 ?_
  have hb1 := hI.b12 l (by omega) (by omega)
  refine z_aload_n C 0 dX7_size_6 rfl ?_
  refine z_getf C 14 zin_X7 (hM.1.1) (hM.1.2) rfl (Nat.le_of_ble_eq_true rfl) zl_6_112 rfl rfl dX7_size_7 ?_
  refine z_iload_n C 1 dX7_size_10 rfl ?_
  refine z_iald C (MR_a14 hM) (by omega) (by omega) (by omega) dX7_size_11 ?_
  have hb2 := hI.b12 l (by omega) (by omega)
  refine z_icmp_ge C 31 dX7_size_12 (by decide) (by omega) (by omega) (fun h12 => ?_) (fun h12 => ?_)
  · refine z_aload_n C 0 dX7_size_31 rfl ?_
    refine z_getf C 15 zin_X7 (hM.1.1) (hM.1.2) rfl (Nat.le_of_ble_eq_true rfl) zl_6_113 rfl rfl dX7_size_32 ?_
    refine z_iload_n C 1 dX7_size_35 rfl ?_
    refine z_iald C (MR_a15 hM) (by omega) (by omega) (by omega) dX7_size_36 ?_
    have hb3 := hI.b12 l (by omega) (by omega)
    refine z_aload_n C 0 dX7_size_37 rfl ?_
    refine z_getf C 14 zin_X7 (hM.1.1) (hM.1.2) rfl (Nat.le_of_ble_eq_true rfl) zl_6_112 rfl rfl dX7_size_38 ?_
    refine z_iload_n C 1 dX7_size_41 rfl ?_
    refine z_iald C (MR_a14 hM) (by omega) (by omega) (by omega) dX7_size_42 ?_
    have hb4 := hI.b12 l (by omega) (by omega)
    refine z_isub C dX7_size_43 ?_
    refine z_iconst C dX7_size_44 ?_
    refine z_iadd C dX7_size_45 ?_
    exact z_ireturn C dX7_size_46 (Nat.le_of_ble_eq_true rfl) (Nat.le_of_ble_eq_true rfl) ⟨by unfold spSize; first | rw [if_pos (by omega)] | rw [if_neg (by omega)], rfl, rfl⟩
  · refine z_aload_n C 0 dX7_size_15 rfl ?_
    refine z_getf C 14 zin_X7 (hM.1.1) (hM.1.2) rfl (Nat.le_of_ble_eq_true rfl) zl_6_112 rfl rfl dX7_size_16 ?_
    refine z_iload_n C 1 dX7_size_19 rfl ?_
    refine z_iald C (MR_a14 hM) (by omega) (by omega) (by omega) dX7_size_20 ?_
    have hb5 := hI.b12 l (by omega) (by omega)
    refine z_aload_n C 0 dX7_size_21 rfl ?_
    refine z_getf C 15 zin_X7 (hM.1.1) (hM.1.2) rfl (Nat.le_of_ble_eq_true rfl) zl_6_113 rfl rfl dX7_size_22 ?_
    refine z_iload_n C 1 dX7_size_25 rfl ?_
    refine z_iald C (MR_a15 hM) (by omega) (by omega) (by omega) dX7_size_26 ?_
    have hb6 := hI.b12 l (by omega) (by omega)
    refine z_isub C dX7_size_27 ?_
    refine z_goto C 44 dX7_size_28 (by decide) ?_
    refine z_iconst C dX7_size_44 ?_
    refine z_iadd C dX7_size_45 ?_
    exact z_ireturn C dX7_size_46 (Nat.le_of_ble_eq_true rfl) (Nat.le_of_ble_eq_true rfl) ⟨by unfold spSize; first | rw [if_pos (by omega)] | rw [if_neg (by omega)], rfl, rfl⟩

set_option maxRecDepth 100000 in
set_option maxHeartbeats 200000 in
theorem c_X7_along {la : Launch} {G : zG} {X : (Nat → Prop) → State → Prop} (hX : zX X) {L : List Nat} {f : Nat → va_E} {o : Nat} {ad : Nat → Nat} {μ : zMu} {t : Int} {u v : Int → Int} (hM : MR G L f o ad μ t u v) (hI : MJ μ) (l k : Int) (hl : 0 ≤ l ∧ l < 16) (hk : -100 ≤ k ∧ k ≤ 100) : zM la G X yX7_along (.code yX7_along cX7_along 3 (some .int) :: zT) 0 0 0 [.ref o, .int (iI l), .int (iI k)] L f zeI (zRd L f (fun z => z = spAlong μ l k)) := by
  refine zM_intro hX (by decide) (Nat.le_of_ble_eq_true rfl) (fun pZ eZ sZ mZ aZ bZ hZ cZ AZ C hini => ?_)
  change ZW G pZ la eZ (zRm 0 0 0) sZ mZ aZ bZ hZ cZ AZ 3 0 0 _ L f 0 [(0, .ref o), (1, .int (iI l)), (2, .int (iI k))] []
  have hn9 := hI.n
  have hNO : zNO = -2147483648 := rfl
  
  refine z_aload_n C 0 dX7_along_0 rfl ?_
  refine z_getf C 15 zin_X7 (hM.1.1) (hM.1.2) rfl (Nat.le_of_ble_eq_true rfl) zl_6_113 rfl rfl dX7_along_1 ?_
  refine z_iload_n C 1 dX7_along_4 rfl ?_
  refine z_iald C (MR_a15 hM) (by omega) (by omega) (by omega) dX7_along_5 ?_
  have hb1 := hI.b12 l (by omega) (by omega)
  refine z_aload_n C 0 dX7_along_6 rfl ?_
  refine z_getf C 14 zin_X7 (hM.1.1) (hM.1.2) rfl (Nat.le_of_ble_eq_true rfl) zl_6_112 rfl rfl dX7_along_7 ?_
  refine z_iload_n C 1 dX7_along_10 rfl ?_
  refine z_iald C (MR_a14 hM) (by omega) (by omega) (by omega) dX7_along_11 ?_
  have hb2 := hI.b12 l (by omega) (by omega)
  refine z_icmp_ge C 26 dX7_along_12 (by decide) (by omega) (by omega) (fun h12 => ?_) (fun h12 => ?_)
  · refine z_aload_n C 0 dX7_along_26 rfl ?_
    refine z_getf C 14 zin_X7 (hM.1.1) (hM.1.2) rfl (Nat.le_of_ble_eq_true rfl) zl_6_112 rfl rfl dX7_along_27 ?_
    refine z_iload_n C 1 dX7_along_30 rfl ?_
    refine z_iald C (MR_a14 hM) (by omega) (by omega) (by omega) dX7_along_31 ?_
    have hb3 := hI.b12 l (by omega) (by omega)
    refine z_iload_n C 2 dX7_along_32 rfl ?_
    refine z_iadd C dX7_along_33 ?_
    exact z_ireturn C dX7_along_34 (Nat.le_of_ble_eq_true rfl) (Nat.le_of_ble_eq_true rfl) ⟨by unfold spAlong; first | rw [if_pos (by omega)] | rw [if_neg (by omega)], rfl, rfl⟩
  · refine z_aload_n C 0 dX7_along_15 rfl ?_
    refine z_getf C 14 zin_X7 (hM.1.1) (hM.1.2) rfl (Nat.le_of_ble_eq_true rfl) zl_6_112 rfl rfl dX7_along_16 ?_
    refine z_iload_n C 1 dX7_along_19 rfl ?_
    refine z_iald C (MR_a14 hM) (by omega) (by omega) (by omega) dX7_along_20 ?_
    have hb4 := hI.b12 l (by omega) (by omega)
    refine z_iload_n C 2 dX7_along_21 rfl ?_
    refine z_isub C dX7_along_22 ?_
    refine z_goto C 34 dX7_along_23 (by decide) ?_
    exact z_ireturn C dX7_along_34 (Nat.le_of_ble_eq_true rfl) (Nat.le_of_ble_eq_true rfl) ⟨by unfold spAlong; first | rw [if_pos (by omega)] | rw [if_neg (by omega)], rfl, rfl⟩

set_option maxRecDepth 100000 in
set_option maxHeartbeats 200000 in
theorem c_X7_columnOf {la : Launch} {G : zG} {X : (Nat → Prop) → State → Prop} (hX : zX X) {L : List Nat} {f : Nat → va_E} {o : Nat} {ad : Nat → Nat} {μ : zMu} {t : Int} {u v : Int → Int} (hM : MR G L f o ad μ t u v) (hI : MJ μ) (l k s : Int) (hl : 0 ≤ l ∧ l < 16) (hk : -100 ≤ k ∧ k ≤ 100) (hs : -100 ≤ s ∧ s ≤ 100) : zM la G X yX7_columnOf (.code yX7_columnOf cX7_columnOf 4 (some .int) :: zT) 1 0 0 [.ref o, .int (iI l), .int (iI k), .int (iI s)] L f zeI (zRd L f (fun z => z = spCol μ l k s)) := by
  refine zM_intro hX (by decide) (Nat.le_of_ble_eq_true rfl) (fun pZ eZ sZ mZ aZ bZ hZ cZ AZ C hini => ?_)
  change ZW G pZ la eZ (zRm 1 0 0) sZ mZ aZ bZ hZ cZ AZ 4 0 0 _ L f 0 [(0, .ref o), (1, .int (iI l)), (2, .int (iI k)), (3, .int (iI s))] []
  have hn9 := hI.n
  have hNO : zNO = -2147483648 := rfl
  
  refine z_aload_n C 0 dX7_columnOf_0 rfl ?_
  refine z_getf C 12 zin_X7 (hM.1.1) (hM.1.2) rfl (Nat.le_of_ble_eq_true rfl) zl_6_110 rfl rfl dX7_columnOf_1 ?_
  refine z_iload_n C 1 dX7_columnOf_4 rfl ?_
  refine z_zald C (MR_a12 hM) (by omega) (by omega) (by omega) dX7_columnOf_5 ?_
  have hb1 := hI.b12 l (by omega) (by omega)
  refine z_if_eq C 18 dX7_columnOf_6 (by decide) (by omega) (fun h6 => ?_) (fun h6 => ?_)
  · refine z_aload_n C 0 dX7_columnOf_18 rfl ?_
    refine z_getf C 13 zin_X7 (hM.1.1) (hM.1.2) rfl (Nat.le_of_ble_eq_true rfl) zl_6_111 rfl rfl dX7_columnOf_19 ?_
    refine z_iload_n C 1 dX7_columnOf_22 rfl ?_
    refine z_iald C (MR_a13 hM) (by omega) (by omega) (by omega) dX7_columnOf_23 ?_
    have hb2 := hI.b12 l (by omega) (by omega)
    refine z_iload_n C 3 dX7_columnOf_24 rfl ?_
    refine z_iadd C dX7_columnOf_25 ?_
    exact z_ireturn C dX7_columnOf_26 (Nat.le_of_ble_eq_true rfl) (Nat.le_of_ble_eq_true rfl) ⟨by unfold spCol; first | rw [if_pos (by omega)] | rw [if_neg (by omega)], rfl, rfl⟩
  · refine z_aload_n C 0 dX7_columnOf_9 rfl ?_
    refine z_iload_n C 1 dX7_columnOf_10 rfl ?_
    refine z_iload_n C 2 dX7_columnOf_11 rfl ?_
    refine z_cV (As := [.int (iI l), .int (iI k)]) C zc_X7_along (c_X7_along hX hM hI l k (by omega) (by omega)) zl_7_42 (Nat.le_of_ble_eq_true rfl) (Nat.le_of_ble_eq_true rfl) (Nat.le_of_ble_eq_true rfl) (hM.1.1) (hM.1.2) rfl rfl rfl rfl (Nat.le_of_ble_eq_true rfl) dX7_columnOf_12 (fun z4 L5 f6 hz7 => ?_)
    obtain ⟨hz7, rfl, rfl⟩ := hz7
    subst hz7
    have hr3 := spAlong_rng hI (l := l) (by omega) (k := k) (by omega)
    change ZW G pZ la eZ (zRm 1 0 0) sZ mZ aZ bZ hZ cZ AZ 4 0 0 _ L f 15 [(0, .ref o), (1, .int (iI l)), (2, .int (iI k)), (3, .int (iI s))] [.int (iI (spAlong μ l k))]
    refine z_goto C 26 dX7_columnOf_15 (by decide) ?_
    exact z_ireturn C dX7_columnOf_26 (Nat.le_of_ble_eq_true rfl) (Nat.le_of_ble_eq_true rfl) ⟨by unfold spCol; first | rw [if_pos (by omega)] | rw [if_neg (by omega)], rfl, rfl⟩

set_option maxRecDepth 100000 in
set_option maxHeartbeats 200000 in
theorem c_X7_rowOf {la : Launch} {G : zG} {X : (Nat → Prop) → State → Prop} (hX : zX X) {L : List Nat} {f : Nat → va_E} {o : Nat} {ad : Nat → Nat} {μ : zMu} {t : Int} {u v : Int → Int} (hM : MR G L f o ad μ t u v) (hI : MJ μ) (l k s : Int) (hl : 0 ≤ l ∧ l < 16) (hk : -100 ≤ k ∧ k ≤ 100) (hs : -100 ≤ s ∧ s ≤ 100) : zM la G X yX7_rowOf (.code yX7_rowOf cX7_rowOf 4 (some .int) :: zT) 1 0 0 [.ref o, .int (iI l), .int (iI k), .int (iI s)] L f zeI (zRd L f (fun z => z = spRow μ l k s)) := by
  refine zM_intro hX (by decide) (Nat.le_of_ble_eq_true rfl) (fun pZ eZ sZ mZ aZ bZ hZ cZ AZ C hini => ?_)
  change ZW G pZ la eZ (zRm 1 0 0) sZ mZ aZ bZ hZ cZ AZ 4 0 0 _ L f 0 [(0, .ref o), (1, .int (iI l)), (2, .int (iI k)), (3, .int (iI s))] []
  have hn9 := hI.n
  have hNO : zNO = -2147483648 := rfl
  
  refine z_aload_n C 0 dX7_rowOf_0 rfl ?_
  refine z_getf C 12 zin_X7 (hM.1.1) (hM.1.2) rfl (Nat.le_of_ble_eq_true rfl) zl_6_110 rfl rfl dX7_rowOf_1 ?_
  refine z_iload_n C 1 dX7_rowOf_4 rfl ?_
  refine z_zald C (MR_a12 hM) (by omega) (by omega) (by omega) dX7_rowOf_5 ?_
  have hb1 := hI.b12 l (by omega) (by omega)
  refine z_if_eq C 20 dX7_rowOf_6 (by decide) (by omega) (fun h6 => ?_) (fun h6 => ?_)
  · refine z_aload_n C 0 dX7_rowOf_20 rfl ?_
    refine z_iload_n C 1 dX7_rowOf_21 rfl ?_
    refine z_iload_n C 2 dX7_rowOf_22 rfl ?_
    refine z_cV (As := [.int (iI l), .int (iI k)]) C zc_X7_along (c_X7_along hX hM hI l k (by omega) (by omega)) zl_7_42 (Nat.le_of_ble_eq_true rfl) (Nat.le_of_ble_eq_true rfl) (Nat.le_of_ble_eq_true rfl) (hM.1.1) (hM.1.2) rfl rfl rfl rfl (Nat.le_of_ble_eq_true rfl) dX7_rowOf_23 (fun z3 L4 f5 hz6 => ?_)
    obtain ⟨hz6, rfl, rfl⟩ := hz6
    subst hz6
    have hr2 := spAlong_rng hI (l := l) (by omega) (k := k) (by omega)
    change ZW G pZ la eZ (zRm 1 0 0) sZ mZ aZ bZ hZ cZ AZ 4 0 0 _ L f 26 [(0, .ref o), (1, .int (iI l)), (2, .int (iI k)), (3, .int (iI s))] [.int (iI (spAlong μ l k))]
    exact z_ireturn C dX7_rowOf_26 (Nat.le_of_ble_eq_true rfl) (Nat.le_of_ble_eq_true rfl) ⟨by unfold spRow; first | rw [if_pos (by omega)] | rw [if_neg (by omega)], rfl, rfl⟩
  · refine z_aload_n C 0 dX7_rowOf_9 rfl ?_
    refine z_getf C 13 zin_X7 (hM.1.1) (hM.1.2) rfl (Nat.le_of_ble_eq_true rfl) zl_6_111 rfl rfl dX7_rowOf_10 ?_
    refine z_iload_n C 1 dX7_rowOf_13 rfl ?_
    refine z_iald C (MR_a13 hM) (by omega) (by omega) (by omega) dX7_rowOf_14 ?_
    have hb7 := hI.b12 l (by omega) (by omega)
    refine z_iload_n C 3 dX7_rowOf_15 rfl ?_
    refine z_iadd C dX7_rowOf_16 ?_
    refine z_goto C 26 dX7_rowOf_17 (by decide) ?_
    exact z_ireturn C dX7_rowOf_26 (Nat.le_of_ble_eq_true rfl) (Nat.le_of_ble_eq_true rfl) ⟨by unfold spRow; first | rw [if_pos (by omega)] | rw [if_neg (by omega)], rfl, rfl⟩

set_option maxRecDepth 100000 in
set_option maxHeartbeats 200000 in
theorem c_X7_isOn {la : Launch} {G : zG} {X : (Nat → Prop) → State → Prop} (hX : zX X) {L : List Nat} {f : Nat → va_E} {o : Nat} {ad : Nat → Nat} {μ : zMu} {t : Int} {u v : Int → Int} (hM : MR G L f o ad μ t u v) (hI : MJ μ) (l k s : Int) (hl : 0 ≤ l ∧ l < 16) (hk : -100 ≤ k ∧ k ≤ 100) (hs : -100 ≤ s ∧ s ≤ 100) : zM la G X yX7_isOn (.code yX7_isOn cX7_isOn 4 (some .boolean) :: zT) 2 0 0 [.ref o, .int (iI l), .int (iI k), .int (iI s)] L f zeI (zRd L f (fun z => z = 0 ∧ ¬ spOn μ l k s ∨ z = 1 ∧ spOn μ l k s)) := by
  refine zM_intro hX (by decide) (Nat.le_of_ble_eq_true rfl) (fun pZ eZ sZ mZ aZ bZ hZ cZ AZ C hini => ?_)
  change ZW G pZ la eZ (zRm 2 0 0) sZ mZ aZ bZ hZ cZ AZ 4 0 0 _ L f 0 [(0, .ref o), (1, .int (iI l)), (2, .int (iI k)), (3, .int (iI s))] []
  have hn9 := hI.n
  have hNO : zNO = -2147483648 := rfl
  
  refine z_aload_n C 0 dX7_isOn_0 rfl ?_
  refine z_iload_n C 1 dX7_isOn_1 rfl ?_
  refine z_iload_n C 2 dX7_isOn_2 rfl ?_
  refine z_iload_n C 3 dX7_isOn_3 rfl ?_
  refine z_cV (As := [.int (iI l), .int (iI k), .int (iI s)]) C zc_X7_columnOf (c_X7_columnOf hX hM hI l k s (by omega) (by omega) (by omega)) zl_7_38 (Nat.le_of_ble_eq_true rfl) (Nat.le_of_ble_eq_true rfl) (Nat.le_of_ble_eq_true rfl) (hM.1.1) (hM.1.2) rfl rfl rfl rfl (Nat.le_of_ble_eq_true rfl) dX7_isOn_4 (fun z2 L3 f4 hz5 => ?_)
  obtain ⟨hz5, rfl, rfl⟩ := hz5
  subst hz5
  have hr1 := spCol_rng hI (l := l) (k := k) (s := s) (by omega) (by omega) (by omega)
  change ZW G pZ la eZ (zRm 2 0 0) sZ mZ aZ bZ hZ cZ AZ 4 0 0 _ L f 7 [(0, .ref o), (1, .int (iI l)), (2, .int (iI k)), (3, .int (iI s))] [.int (iI (spCol μ l k s))]
  refine z_iconst C dX7_isOn_7 ?_
  refine z_bipush C dX7_isOn_8 (by decide) ?_
  refine z_cS (As := [.int (iI (spCol μ l k s)), .int (iI 0), .int (iI 19)]) C zc_X7_isIn (c_X7_isIn hX (spCol μ l k s) 0 19 (by omega) (by omega) (by omega)) zl_6_176 (Nat.le_of_ble_eq_true rfl) (Nat.le_of_ble_eq_true rfl) (Nat.le_of_ble_eq_true rfl) rfl rfl (Nat.le_of_ble_eq_true rfl) dX7_isOn_10 (fun z6 L7 f8 hz9 => ?_)
  obtain ⟨hz9, rfl, rfl⟩ := hz9
  subst hz9
  change ZW G pZ la eZ (zRm 2 0 0) sZ mZ aZ bZ hZ cZ AZ 4 0 0 _ L f 13 [(0, .ref o), (1, .int (iI l)), (2, .int (iI k)), (3, .int (iI s))] [.int (iI (bI (0 ≤ spCol μ l k s ∧ spCol μ l k s ≤ 19)))]
  refine z_if_eq_b C 36 dX7_isOn_13 (by decide) (fun h13 => ?_) (fun h13 => ?_)
  · refine z_iconst C dX7_isOn_36 ?_
    exact z_zreturn C (by first | omega | (unfold bI; split <;> omega)) dX7_isOn_37 (Nat.le_of_ble_eq_true rfl) (Nat.le_of_ble_eq_true rfl) ⟨by unfold spOn; omega, rfl, rfl⟩
  · refine z_aload_n C 0 dX7_isOn_16 rfl ?_
    refine z_iload_n C 1 dX7_isOn_17 rfl ?_
    refine z_iload_n C 2 dX7_isOn_18 rfl ?_
    refine z_iload_n C 3 dX7_isOn_19 rfl ?_
    refine z_cV (As := [.int (iI l), .int (iI k), .int (iI s)]) C zc_X7_rowOf (c_X7_rowOf hX hM hI l k s (by omega) (by omega) (by omega)) zl_7_46 (Nat.le_of_ble_eq_true rfl) (Nat.le_of_ble_eq_true rfl) (Nat.le_of_ble_eq_true rfl) (hM.1.1) (hM.1.2) rfl rfl rfl rfl (Nat.le_of_ble_eq_true rfl) dX7_isOn_20 (fun z11 L12 f13 hz14 => ?_)
    obtain ⟨hz14, rfl, rfl⟩ := hz14
    subst hz14
    have hr10 := spRow_rng hI (l := l) (k := k) (s := s) (by omega) (by omega) (by omega)
    change ZW G pZ la eZ (zRm 2 0 0) sZ mZ aZ bZ hZ cZ AZ 4 0 0 _ L f 23 [(0, .ref o), (1, .int (iI l)), (2, .int (iI k)), (3, .int (iI s))] [.int (iI (spRow μ l k s))]
    refine z_iconst C dX7_isOn_23 ?_
    refine z_bipush C dX7_isOn_24 (by decide) ?_
    refine z_cS (As := [.int (iI (spRow μ l k s)), .int (iI 0), .int (iI 11)]) C zc_X7_isIn (c_X7_isIn hX (spRow μ l k s) 0 11 (by omega) (by omega) (by omega)) zl_6_176 (Nat.le_of_ble_eq_true rfl) (Nat.le_of_ble_eq_true rfl) (Nat.le_of_ble_eq_true rfl) rfl rfl (Nat.le_of_ble_eq_true rfl) dX7_isOn_26 (fun z15 L16 f17 hz18 => ?_)
    obtain ⟨hz18, rfl, rfl⟩ := hz18
    subst hz18
    change ZW G pZ la eZ (zRm 2 0 0) sZ mZ aZ bZ hZ cZ AZ 4 0 0 _ L f 29 [(0, .ref o), (1, .int (iI l)), (2, .int (iI k)), (3, .int (iI s))] [.int (iI (bI (0 ≤ spRow μ l k s ∧ spRow μ l k s ≤ 11)))]
    refine z_if_eq_b C 36 dX7_isOn_29 (by decide) (fun h29 => ?_) (fun h29 => ?_)
    · refine z_iconst C dX7_isOn_36 ?_
      exact z_zreturn C (by first | omega | (unfold bI; split <;> omega)) dX7_isOn_37 (Nat.le_of_ble_eq_true rfl) (Nat.le_of_ble_eq_true rfl) ⟨by unfold spOn; omega, rfl, rfl⟩
    · refine z_iconst C dX7_isOn_32 ?_
      refine z_goto C 37 dX7_isOn_33 (by decide) ?_
      exact z_zreturn C (by first | omega | (unfold bI; split <;> omega)) dX7_isOn_37 (Nat.le_of_ble_eq_true rfl) (Nat.le_of_ble_eq_true rfl) ⟨by unfold spOn; omega, rfl, rfl⟩

set_option maxRecDepth 100000 in
set_option maxHeartbeats 200000 in
theorem c_X7_cellOf {la : Launch} {G : zG} {X : (Nat → Prop) → State → Prop} (hX : zX X) {L : List Nat} {f : Nat → va_E} {o : Nat} {ad : Nat → Nat} {μ : zMu} {t : Int} {u v : Int → Int} (hM : MR G L f o ad μ t u v) (hI : MJ μ) (l k s : Int) (hl : 0 ≤ l ∧ l < 16) (hk : -100 ≤ k ∧ k ≤ 100) (hs : -100 ≤ s ∧ s ≤ 100) : zM la G X yX7_cellOf (.code yX7_cellOf cX7_cellOf 4 (some .int) :: zT) 2 0 0 [.ref o, .int (iI l), .int (iI k), .int (iI s)] L f zeI (zRd L f (fun z => z = spCell μ l k s)) := by
  refine zM_intro hX (by decide) (Nat.le_of_ble_eq_true rfl) (fun pZ eZ sZ mZ aZ bZ hZ cZ AZ C hini => ?_)
  change ZW G pZ la eZ (zRm 2 0 0) sZ mZ aZ bZ hZ cZ AZ 4 0 0 _ L f 0 [(0, .ref o), (1, .int (iI l)), (2, .int (iI k)), (3, .int (iI s))] []
  have hn9 := hI.n
  have hNO : zNO = -2147483648 := rfl
  
  refine z_bipush C dX7_cellOf_0 (by decide) ?_
  refine z_aload_n C 0 dX7_cellOf_2 rfl ?_
  refine z_iload_n C 1 dX7_cellOf_3 rfl ?_
  refine z_iload_n C 2 dX7_cellOf_4 rfl ?_
  refine z_iload_n C 3 dX7_cellOf_5 rfl ?_
  refine z_cV (As := [.int (iI l), .int (iI k), .int (iI s)]) C zc_X7_rowOf (c_X7_rowOf hX hM hI l k s (by omega) (by omega) (by omega)) zl_7_46 (Nat.le_of_ble_eq_true rfl) (Nat.le_of_ble_eq_true rfl) (Nat.le_of_ble_eq_true rfl) (hM.1.1) (hM.1.2) rfl rfl rfl rfl (Nat.le_of_ble_eq_true rfl) dX7_cellOf_6 (fun z2 L3 f4 hz5 => ?_)
  obtain ⟨hz5, rfl, rfl⟩ := hz5
  subst hz5
  have hr1 := spRow_rng hI (l := l) (k := k) (s := s) (by omega) (by omega) (by omega)
  change ZW G pZ la eZ (zRm 2 0 0) sZ mZ aZ bZ hZ cZ AZ 4 0 0 _ L f 9 [(0, .ref o), (1, .int (iI l)), (2, .int (iI k)), (3, .int (iI s))] [.int (iI (spRow μ l k s)), .int (iI 20)]
  refine z_imul C dX7_cellOf_9 ?_
  refine z_aload_n C 0 dX7_cellOf_10 rfl ?_
  refine z_iload_n C 1 dX7_cellOf_11 rfl ?_
  refine z_iload_n C 2 dX7_cellOf_12 rfl ?_
  refine z_iload_n C 3 dX7_cellOf_13 rfl ?_
  refine z_cV (As := [.int (iI l), .int (iI k), .int (iI s)]) C zc_X7_columnOf (c_X7_columnOf hX hM hI l k s (by omega) (by omega) (by omega)) zl_7_38 (Nat.le_of_ble_eq_true rfl) (Nat.le_of_ble_eq_true rfl) (Nat.le_of_ble_eq_true rfl) (hM.1.1) (hM.1.2) rfl rfl rfl rfl (Nat.le_of_ble_eq_true rfl) dX7_cellOf_14 (fun z7 L8 f9 hz10 => ?_)
  obtain ⟨hz10, rfl, rfl⟩ := hz10
  subst hz10
  have hr6 := spCol_rng hI (l := l) (k := k) (s := s) (by omega) (by omega) (by omega)
  change ZW G pZ la eZ (zRm 2 0 0) sZ mZ aZ bZ hZ cZ AZ 4 0 0 _ L f 17 [(0, .ref o), (1, .int (iI l)), (2, .int (iI k)), (3, .int (iI s))] [.int (iI (spCol μ l k s)), .int (iI (20 * (spRow μ l k s)))]
  refine z_iadd C dX7_cellOf_17 ?_
  exact z_ireturn C dX7_cellOf_18 (Nat.le_of_ble_eq_true rfl) (Nat.le_of_ble_eq_true rfl) ⟨rfl, rfl, rfl⟩

set_option maxRecDepth 100000 in
set_option maxHeartbeats 200000 in
theorem c_X7_reach {la : Launch} {G : zG} {X : (Nat → Prop) → State → Prop} (hX : zX X) {L : List Nat} {f : Nat → va_E} (x : Int) (hx : 1 ≤ x ∧ x ≤ 99) : zM la G X yX7_reach (.code yX7_reach cX7_reach 1 (some .int) :: zT) 0 0 0 [.int (iI x)] L f zeI (zRd L f (fun z => z = spReach x)) := by
  refine zM_intro hX (by decide) (Nat.le_of_ble_eq_true rfl) (fun pZ eZ sZ mZ aZ bZ hZ cZ AZ C hini => ?_)
  change ZW G pZ la eZ (zRm 0 0 0) sZ mZ aZ bZ hZ cZ AZ 1 0 0 _ L f 0 [(0, .int (iI x))] []
  refine z_iload_n C 0 dX7_reach_0 rfl ?_
  refine z_bipush C dX7_reach_1 (by decide) ?_
  refine z_idivP C dX7_reach_3 (by omega) (by omega) ?_
  refine z_iconst C dX7_reach_4 ?_
  refine z_icmp_ge C 15 dX7_reach_5 (by decide) (by omega) (by omega) (fun h5 => ?_) (fun h5 => ?_)
  · refine z_iconst C dX7_reach_15 ?_
    exact z_ireturn C dX7_reach_16 (Nat.le_of_ble_eq_true rfl) (Nat.le_of_ble_eq_true rfl) ⟨by unfold spReach; first | rw [if_pos (by omega)] | rw [if_neg (by omega)], rfl, rfl⟩
  · refine z_iload_n C 0 dX7_reach_8 rfl ?_
    refine z_bipush C dX7_reach_9 (by decide) ?_
    refine z_idivP C dX7_reach_11 (by omega) (by omega) ?_
    refine z_goto C 16 dX7_reach_12 (by decide) ?_
    exact z_ireturn C dX7_reach_16 (Nat.le_of_ble_eq_true rfl) (Nat.le_of_ble_eq_true rfl) ⟨by unfold spReach; first | rw [if_pos (by omega)] | rw [if_neg (by omega)], rfl, rfl⟩

set_option maxRecDepth 100000 in
set_option maxHeartbeats 200000 in
theorem c_X7_place {la : Launch} {G : zG} {X : (Nat → Prop) → State → Prop} (hX : zX X) {L : List Nat} {f : Nat → va_E} {o : Nat} {ad : Nat → Nat} {μ : zMu} {t : Int} {u v : Int → Int} (hM : MR G L f o ad μ t u v) (l k s : Int)  : zM la G X yX7_place (.code yX7_place cX7_place 4 (some .int) :: zT) 0 0 0 [.ref o, .int (iI l), .int (iI k), .int (iI s)] L f zeI (zRd L f (fun z => z = 7 * (20 * l + k) + s + 3)) := by
  refine zM_intro hX (by decide) (Nat.le_of_ble_eq_true rfl) (fun pZ eZ sZ mZ aZ bZ hZ cZ AZ C hini => ?_)
  change ZW G pZ la eZ (zRm 0 0 0) sZ mZ aZ bZ hZ cZ AZ 4 0 0 _ L f 0 [(0, .ref o), (1, .int (iI l)), (2, .int (iI k)), (3, .int (iI s))] []
  have hNO : zNO = -2147483648 := rfl
  
  refine z_bipush C dX7_place_0 (by decide) ?_
  refine z_bipush C dX7_place_2 (by decide) ?_
  refine z_iload_n C 1 dX7_place_4 rfl ?_
  refine z_imul C dX7_place_5 ?_
  refine z_iload_n C 2 dX7_place_6 rfl ?_
  refine z_iadd C dX7_place_7 ?_
  refine z_imul C dX7_place_8 ?_
  refine z_iload_n C 3 dX7_place_9 rfl ?_
  refine z_iadd C dX7_place_10 ?_
  refine z_iconst C dX7_place_11 ?_
  refine z_iadd C dX7_place_12 ?_
  exact z_ireturn C dX7_place_13 (Nat.le_of_ble_eq_true rfl) (Nat.le_of_ble_eq_true rfl) ⟨rfl, rfl, rfl⟩

set_option maxRecDepth 100000 in
set_option maxHeartbeats 200000 in
theorem c_X7_isBusy {la : Launch} {G : zG} {X : (Nat → Prop) → State → Prop} (hX : zX X) {L : List Nat} {f : Nat → va_E} {o : Nat} {ad : Nat → Nat} {μ : zMu} {t : Int} {u v : Int → Int} (hM : MR G L f o ad μ t u v) (hI : MJ μ) (w d b n : Int) (hw : zR w) (hd : zR d) (hb : zR b) (hn : zR n) : zM la G X yX7_isBusy (.code yX7_isBusy cX7_isBusy 6 (some .boolean) :: zT) 1 0 0 [.ref o, .int (iI w), .int (iI d), .int (iI b), .int (iI n)] L f zeI (zRd L f (fun z => z = 1 ∧ (∃ l, 0 ≤ l ∧ l < μ 2 0 ∧ l ≠ w ∧ μ 16 l = d ∧ μ 17 l ≤ n ∧ b ≤ μ 17 l + (spSize μ l - 1) / 5) ∨ z = 0 ∧ ¬ (∃ l, 0 ≤ l ∧ l < μ 2 0 ∧ l ≠ w ∧ μ 16 l = d ∧ μ 17 l ≤ n ∧ b ≤ μ 17 l + (spSize μ l - 1) / 5))) := by
  refine zM_intro hX (by decide) (Nat.le_of_ble_eq_true rfl) (fun pZ eZ sZ mZ aZ bZ hZ cZ AZ C hini => ?_)
  change ZW G pZ la eZ (zRm 1 0 0) sZ mZ aZ bZ hZ cZ AZ 6 0 0 _ L f 0 [(0, .ref o), (1, .int (iI w)), (2, .int (iI d)), (3, .int (iI b)), (4, .int (iI n))] []
  have hn9 := hI.n
  have hNO : zNO = -2147483648 := rfl
  
  refine z_iconst C dX7_isBusy_0 ?_
  refine z_istore (ls' := [(5, .int (iI 0)), (0, .ref o), (1, .int (iI w)), (2, .int (iI d)), (3, .int (iI b)), (4, .int (iI n))]) C dX7_isBusy_1 (Nat.le_of_ble_eq_true rfl) rfl ?_
  have key3 : ∀ (n3 : Nat) (l : Int) , (0 ≤ l ∧ l ≤ μ 2 0 ∧ ∀ j, 0 ≤ j → j < l → ¬ (j ≠ w ∧ μ 16 j = d ∧ μ 17 j ≤ n ∧ b ≤ μ 17 j + (spSize μ j - 1) / 5)) → μ 2 0 - l < (n3 : Int) → ZW G pZ la eZ (zRm 1 0 0) sZ mZ aZ bZ hZ cZ AZ 6 0 0 (MQ bZ (zQ G zeI (zRd L f (fun z => z = 1 ∧ (∃ l, 0 ≤ l ∧ l < μ 2 0 ∧ l ≠ w ∧ μ 16 l = d ∧ μ 17 l ≤ n ∧ b ≤ μ 17 l + (spSize μ l - 1) / 5) ∨ z = 0 ∧ ¬ (∃ l, 0 ≤ l ∧ l < μ 2 0 ∧ l ≠ w ∧ μ 16 l = d ∧ μ 17 l ≤ n ∧ b ≤ μ 17 l + (spSize μ l - 1) / 5))) AZ) aZ sZ 0 0 AZ) L f 3 [(0, .ref o), (1, .int (iI w)), (2, .int (iI d)), (3, .int (iI b)), (4, .int (iI n)), (5, .int (iI l))] [] := by
    intro n3
    induction n3 with
    | zero => intro l  hi3 hn3; exfalso; omega
    | succ n3 ih3 =>
      intro l  hi3 hn3
      obtain ⟨hl0, hl1, hall⟩ := hi3
      refine z_iload C 5 dX7_isBusy_3 rfl ?_
      refine z_aload_n C 0 dX7_isBusy_5 rfl ?_
      refine z_getf C 2 zin_X7 (hM.1.1) (hM.1.2) rfl (Nat.le_of_ble_eq_true rfl) zl_6_100 rfl rfl dX7_isBusy_6 ?_
      refine z_icmp_ge C 69 dX7_isBusy_9 (by decide) (by omega) (by omega) (fun h9 => ?_) (fun h9 => ?_)
      · refine z_iconst C dX7_isBusy_69 ?_
        exact z_zreturn C (by first | omega | (unfold bI; split <;> omega)) dX7_isBusy_70 (Nat.le_of_ble_eq_true rfl) (Nat.le_of_ble_eq_true rfl) ⟨Or.inr ⟨rfl, fun ⟨j, q1, q2, q3⟩ => hall j q1 (by omega) q3⟩, rfl, rfl⟩
      · refine z_iload C 5 dX7_isBusy_12 rfl ?_
        refine z_iload_n C 1 dX7_isBusy_14 rfl ?_
        refine z_icmp_eq C 63 dX7_isBusy_15 (by decide) (by omega) (by omega) (fun h15 => ?_) (fun h15 => ?_)
        · refine z_iinc (ls' := [(5, .int (iI (l + 1))), (0, .ref o), (1, .int (iI w)), (2, .int (iI d)), (3, .int (iI b)), (4, .int (iI n))]) C 5 dX7_isBusy_63 rfl (Nat.le_of_ble_eq_true rfl) rfl ?_
          refine z_goto C 3 dX7_isBusy_66 (by decide) ?_
          refine z_perm [1, 2, 3, 4, 5, 0] rfl ?_
          exact ih3 _  ⟨by omega, by omega, fun j q1 q2 => by rcases Int.lt_or_eq_of_le (show j ≤ l by omega) with q | q; exact hall j q1 q; rw [q]; omega⟩ (by omega)
        · refine z_aload_n C 0 dX7_isBusy_18 rfl ?_
          refine z_getf C 16 zin_X7 (hM.1.1) (hM.1.2) rfl (Nat.le_of_ble_eq_true rfl) zl_6_114 rfl rfl dX7_isBusy_19 ?_
          refine z_iload C 5 dX7_isBusy_22 rfl ?_
          refine z_iald C (MR_a16 hM) (by omega) (by omega) (by omega) dX7_isBusy_24 ?_
          have hb1 := hI.b12 l (by omega) (by omega)
          refine z_iload_n C 2 dX7_isBusy_25 rfl ?_
          refine z_icmp_ne C 63 dX7_isBusy_26 (by decide) (by omega) (by omega) (fun h26 => ?_) (fun h26 => ?_)
          · refine z_iinc (ls' := [(5, .int (iI (l + 1))), (0, .ref o), (1, .int (iI w)), (2, .int (iI d)), (3, .int (iI b)), (4, .int (iI n))]) C 5 dX7_isBusy_63 rfl (Nat.le_of_ble_eq_true rfl) rfl ?_
            refine z_goto C 3 dX7_isBusy_66 (by decide) ?_
            refine z_perm [1, 2, 3, 4, 5, 0] rfl ?_
            exact ih3 _  ⟨by omega, by omega, fun j q1 q2 => by rcases Int.lt_or_eq_of_le (show j ≤ l by omega) with q | q; exact hall j q1 q; rw [q]; omega⟩ (by omega)
          · refine z_aload_n C 0 dX7_isBusy_29 rfl ?_
            refine z_getf C 17 zin_X7 (hM.1.1) (hM.1.2) rfl (Nat.le_of_ble_eq_true rfl) zl_6_115 rfl rfl dX7_isBusy_30 ?_
            refine z_iload C 5 dX7_isBusy_33 rfl ?_
            refine z_iald C (MR_a17 hM) (by omega) (by omega) (by omega) dX7_isBusy_35 ?_
            have hb2 := hI.b12 l (by omega) (by omega)
            refine z_iload C 4 dX7_isBusy_36 rfl ?_
            refine z_icmp_gt C 63 dX7_isBusy_38 (by decide) (by omega) (by omega) (fun h38 => ?_) (fun h38 => ?_)
            · refine z_iinc (ls' := [(5, .int (iI (l + 1))), (0, .ref o), (1, .int (iI w)), (2, .int (iI d)), (3, .int (iI b)), (4, .int (iI n))]) C 5 dX7_isBusy_63 rfl (Nat.le_of_ble_eq_true rfl) rfl ?_
              refine z_goto C 3 dX7_isBusy_66 (by decide) ?_
              refine z_perm [1, 2, 3, 4, 5, 0] rfl ?_
              exact ih3 _  ⟨by omega, by omega, fun j q1 q2 => by rcases Int.lt_or_eq_of_le (show j ≤ l by omega) with q | q; exact hall j q1 q; rw [q]; omega⟩ (by omega)
            · refine z_aload_n C 0 dX7_isBusy_41 rfl ?_
              refine z_iload C 5 dX7_isBusy_42 rfl ?_
              refine z_cV (As := [.int (iI l)]) C zc_X7_size (c_X7_size hX hM hI l (by omega)) zl_7_22 (Nat.le_of_ble_eq_true rfl) (Nat.le_of_ble_eq_true rfl) (Nat.le_of_ble_eq_true rfl) (hM.1.1) (hM.1.2) rfl rfl rfl rfl (Nat.le_of_ble_eq_true rfl) dX7_isBusy_44 (fun z4 L5 f6 hz7 => ?_)
              obtain ⟨hz7, rfl, rfl⟩ := hz7
              subst hz7
              have hr3 := spSize_rng hI (l := l) (by omega)
              change ZW G pZ la eZ (zRm 1 0 0) sZ mZ aZ bZ hZ cZ AZ 6 0 0 _ L f 47 [(0, .ref o), (1, .int (iI w)), (2, .int (iI d)), (3, .int (iI b)), (4, .int (iI n)), (5, .int (iI l))] [.int (iI (spSize μ l))]
              refine z_aload_n C 0 dX7_isBusy_47 rfl ?_
              refine z_getf C 17 zin_X7 (hM.1.1) (hM.1.2) rfl (Nat.le_of_ble_eq_true rfl) zl_6_115 rfl rfl dX7_isBusy_48 ?_
              refine z_iload C 5 dX7_isBusy_51 rfl ?_
              refine z_iald C (MR_a17 hM) (by omega) (by omega) (by omega) dX7_isBusy_53 ?_
              have hb8 := hI.b12 l (by omega) (by omega)
              refine z_cS (As := [.int (iI (spSize μ l)), .int (iI ((μ 17) l))]) C zc_X7_last (c_X7_last hX (spSize μ l) ((μ 17) l) (by omega) (by omega)) zl_7_15 (Nat.le_of_ble_eq_true rfl) (Nat.le_of_ble_eq_true rfl) (Nat.le_of_ble_eq_true rfl) rfl rfl (Nat.le_of_ble_eq_true rfl) dX7_isBusy_54 (fun z9 L10 f11 hz12 => ?_)
              obtain ⟨hz12, rfl, rfl⟩ := hz12
              subst hz12
              change ZW G pZ la eZ (zRm 1 0 0) sZ mZ aZ bZ hZ cZ AZ 6 0 0 _ L f 57 [(0, .ref o), (1, .int (iI w)), (2, .int (iI d)), (3, .int (iI b)), (4, .int (iI n)), (5, .int (iI l))] [.int (iI (((μ 17) l) + ((spSize μ l) - 1) / 5))]
              refine z_iload_n C 3 dX7_isBusy_57 rfl ?_
              refine z_icmp_lt C 63 dX7_isBusy_58 (by decide) (by omega) (by omega) (fun h58 => ?_) (fun h58 => ?_)
              · refine z_iinc (ls' := [(5, .int (iI (l + 1))), (0, .ref o), (1, .int (iI w)), (2, .int (iI d)), (3, .int (iI b)), (4, .int (iI n))]) C 5 dX7_isBusy_63 rfl (Nat.le_of_ble_eq_true rfl) rfl ?_
                refine z_goto C 3 dX7_isBusy_66 (by decide) ?_
                refine z_perm [1, 2, 3, 4, 5, 0] rfl ?_
                exact ih3 _  ⟨by omega, by omega, fun j q1 q2 => by rcases Int.lt_or_eq_of_le (show j ≤ l by omega) with q | q; exact hall j q1 q; rw [q]; omega⟩ (by omega)
              · refine z_iconst C dX7_isBusy_61 ?_
                exact z_zreturn C (by first | omega | (unfold bI; split <;> omega)) dX7_isBusy_62 (Nat.le_of_ble_eq_true rfl) (Nat.le_of_ble_eq_true rfl) ⟨Or.inl ⟨rfl, l, by omega, by omega, by omega, by omega, by omega, by omega⟩, rfl, rfl⟩
  refine z_perm [1, 2, 3, 4, 5, 0] rfl ?_
  exact key3 2000 _  ⟨by omega, by omega, fun j _ _ => by omega⟩ (by omega)

set_option maxRecDepth 100000 in
set_option maxHeartbeats 1000000 in
theorem c_X7_sounds {la : Launch} {G : zG} {X : (Nat → Prop) → State → Prop} (hX : zX X) {L : List Nat} {f : Nat → va_E} {o : Nat} {ad : Nat → Nat} {μ : zMu} {t : Int} {u v : Int → Int} (hM : MR G L f o ad μ t u v) (hI : MJ μ) (l : Int) (hl : 0 ≤ l ∧ l < 16) : zM la G X yX7_sounds (.code yX7_sounds cX7_sounds 6 none :: zT) 4 0 0 [.ref o, .int (iI l)] L f zeV (fun z L' f' => L = L' ∧ MR G L f' o ad (spSM μ l (140 * l + 140)) t u v) := by
  refine zM_intro hX (by decide) (Nat.le_of_ble_eq_true rfl) (fun pZ eZ sZ mZ aZ bZ hZ cZ AZ C hini => ?_)
  change ZW G pZ la eZ (zRm 4 0 0) sZ mZ aZ bZ hZ cZ AZ 6 0 0 _ L f 0 [(0, .ref o), (1, .int (iI l))] []
  have hn9 := hI.n
  have hNO : zNO = -2147483648 := rfl
  have hz9 := spSize_rng hI hl
  refine z_iconst C dX7_sounds_0 ?_
  refine z_istore_n (ls' := [(2, .int (iI 0)), (0, .ref o), (1, .int (iI l))]) C dX7_sounds_1 (Nat.le_of_ble_eq_true rfl) rfl ?_
  have key2 : ∀ (n2 : Nat) (k : Int) (f9 : Nat → va_E), (0 ≤ k ∧ k ≤ 20 ∧ MR G L f9 o ad (spSM μ l (140 * l + 7 * k)) t u v) → 20 - k < (n2 : Int) → ZW G pZ la eZ (zRm 4 0 0) sZ mZ aZ bZ hZ cZ AZ 6 0 0 (MQ bZ (zQ G zeV (fun z L' f' => L = L' ∧ MR G L f' o ad (spSM μ l (140 * l + 140)) t u v) AZ) aZ sZ 0 0 AZ) L f9 2 [(0, .ref o), (1, .int (iI l)), (2, .int (iI k))] [] := by
    intro n2
    induction n2 with
    | zero => intro k f9 hi2 hn2; exfalso; omega
    | succ n2 ih2 =>
      intro k f9 hi2 hn2
      obtain ⟨hk0, hk1, hM9⟩ := hi2
      refine z_iload_n C 2 dX7_sounds_2 rfl ?_
      refine z_bipush C dX7_sounds_3 (by decide) ?_
      refine z_icmp_ge C 155 dX7_sounds_5 (by decide) (by omega) (by omega) (fun h5 => ?_) (fun h5 => ?_)
      · exact z_vreturn C dX7_sounds_155 (Nat.le_of_ble_eq_true rfl) (Nat.le_of_ble_eq_true rfl) ⟨rfl, by have q := hM9; rw [show 140 * l + 7 * k = 140 * l + 140 by omega] at q; exact q⟩
      · refine z_bipush C dX7_sounds_8 (by decide) ?_
        refine z_istore_n (ls' := [(3, .int (iI (-3))), (0, .ref o), (1, .int (iI l)), (2, .int (iI k))]) C dX7_sounds_10 (Nat.le_of_ble_eq_true rfl) rfl ?_
        have key11 : ∀ (n11 : Nat) (s : Int) (f8 : Nat → va_E), (-3 ≤ s ∧ s ≤ 4 ∧ MR G L f8 o ad (spSM μ l (140 * l + 7 * k + (s + 3))) t u v) → 4 - s < (n11 : Int) → ZW G pZ la eZ (zRm 4 0 0) sZ mZ aZ bZ hZ cZ AZ 6 0 0 (MQ bZ (zQ G zeV (fun z L' f' => L = L' ∧ MR G L f' o ad (spSM μ l (140 * l + 140)) t u v) AZ) aZ sZ 0 0 AZ) L f8 11 [(0, .ref o), (1, .int (iI l)), (2, .int (iI k)), (3, .int (iI s))] [] := by
          intro n11
          induction n11 with
          | zero => intro s f8 hi11 hn11; exfalso; omega
          | succ n11 ih11 =>
            intro s f8 hi11 hn11
            obtain ⟨hs0, hs1, hM8⟩ := hi11
            refine z_iload_n C 3 dX7_sounds_11 rfl ?_
            refine z_iconst C dX7_sounds_12 ?_
            refine z_icmp_gt C 149 dX7_sounds_13 (by decide) (by omega) (by omega) (fun h13 => ?_) (fun h13 => ?_)
            · refine z_iinc (ls' := [(2, .int (iI (k + 1))), (0, .ref o), (1, .int (iI l)), (3, .int (iI s))]) C 2 dX7_sounds_149 rfl (Nat.le_of_ble_eq_true rfl) rfl ?_
              refine z_goto C 2 dX7_sounds_152 (by decide) ?_
              refine z_perm [1, 2, 0] rfl ?_
              exact ih2 _ _ ⟨by omega, by omega, by have q := hM8; rw [show 140 * l + 7 * k + (s + 3) = 140 * l + 7 * (k + 1) by omega] at q; exact q⟩ (by omega)
            · refine z_aload_n C 0 dX7_sounds_16 rfl ?_
              refine z_iload_n C 1 dX7_sounds_17 rfl ?_
              refine z_iload_n C 2 dX7_sounds_18 rfl ?_
              refine z_iload_n C 3 dX7_sounds_19 rfl ?_
              refine z_cV (As := [.int (iI l), .int (iI k), .int (iI s)]) C zc_X7_place (c_X7_place hX hM8 l k s) zl_7_30 (Nat.le_of_ble_eq_true rfl) (Nat.le_of_ble_eq_true rfl) (Nat.le_of_ble_eq_true rfl) (hM8.1.1) (hM8.1.2) rfl rfl rfl rfl (Nat.le_of_ble_eq_true rfl) dX7_sounds_20 (fun z1 L2 f3 hz4 => ?_)
              obtain ⟨hz4, rfl, rfl⟩ := hz4
              subst hz4
              change ZW G pZ la eZ (zRm 4 0 0) sZ mZ aZ bZ hZ cZ AZ 6 0 0 _ L f8 23 [(0, .ref o), (1, .int (iI l)), (2, .int (iI k)), (3, .int (iI s))] [.int (iI (7 * (20 * l + k) + s + 3))]
              refine z_istore (ls' := [(4, .int (iI (7 * (20 * l + k) + s + 3))), (0, .ref o), (1, .int (iI l)), (2, .int (iI k)), (3, .int (iI s))]) C dX7_sounds_23 (Nat.le_of_ble_eq_true rfl) rfl ?_
              refine z_aload_n C 1 dX7_sounds_25 rfl ?_
              refine z_getf C 19 zin_X7 (hM8.1.1) (hM8.1.2) rfl (Nat.le_of_ble_eq_true rfl) zl_6_117 rfl rfl dX7_sounds_26 ?_
              refine z_iload C 0 dX7_sounds_29 rfl ?_
              refine z_iconst C dX7_sounds_31 ?_
              refine z_iast C (MR_a19 hM8) (by omega) (by omega) (by omega) dX7_sounds_32 (fun f5 ha6 hk7 => ?_)
              have hM8 := MR_w19 hM8 ha6 hk7
              refine z_aload_n C 1 dX7_sounds_33 rfl ?_
              refine z_getf C 18 zin_X7 (hM8.1.1) (hM8.1.2) rfl (Nat.le_of_ble_eq_true rfl) zl_6_116 rfl rfl dX7_sounds_34 ?_
              refine z_iload C 0 dX7_sounds_37 rfl ?_
              refine z_ldc (n := (-2147483648)) C zl_7_2 rfl dX7_sounds_39 ?_
              refine z_iast C (MR_a18 hM8) (by omega) (by omega) (by omega) dX7_sounds_41 (fun f9 ha10 hk11 => ?_)
              have hM12 := MR_w18 hM8 ha10 hk11
              refine z_iload_n C 3 dX7_sounds_42 rfl ?_
              refine z_aload_n C 1 dX7_sounds_43 rfl ?_
              refine z_iload_n C 2 dX7_sounds_44 rfl ?_
              refine z_cV (As := [.int (iI l)]) C zc_X7_size (c_X7_size hX hM12 hI l (by omega)) zl_7_22 (Nat.le_of_ble_eq_true rfl) (Nat.le_of_ble_eq_true rfl) (Nat.le_of_ble_eq_true rfl) (hM12.1.1) (hM12.1.2) rfl rfl rfl rfl (Nat.le_of_ble_eq_true rfl) dX7_sounds_45 (fun z14 L15 f16 hz17 => ?_)
              obtain ⟨hz17, rfl, rfl⟩ := hz17
              subst hz17
              have hr13 := spSize_rng hI (l := l) (by omega)
              change ZW G pZ la eZ (zRm 4 0 0) sZ mZ aZ bZ hZ cZ AZ 6 0 0 _ L f9 48 [(4, .int (iI (7 * (20 * l + k) + s + 3))), (0, .ref o), (1, .int (iI l)), (2, .int (iI k)), (3, .int (iI s))] [.int (iI (spSize μ l)), .int (iI k)]
              refine z_icmp_ge C 143 dX7_sounds_48 (by decide) (by omega) (by omega) (fun h48 => ?_) (fun h48 => ?_)
              · refine z_iinc (ls' := [(3, .int (iI (s + 1))), (4, .int (iI (7 * (20 * l + k) + s + 3))), (0, .ref o), (1, .int (iI l)), (2, .int (iI k))]) C 4 dX7_sounds_143 rfl (Nat.le_of_ble_eq_true rfl) rfl ?_
                refine z_goto C 11 dX7_sounds_146 (by decide) ?_
                refine z_perm [2, 3, 4, 0] rfl ?_
                exact ih11 _ _ ⟨by omega, by omega, by have q := hM12; rw [show 7 * (20 * l + k) + s + 3 = 140 * l + 7 * k + (s + 3) by omega] at q; rw [spSM_w1 μ rfl (by omega) (by omega) (by omega) (by unfold spSv; first | rw [zif_pos (by refine ⟨by omega, by first | omega | assumption | (have := hon; exact (this.resolve_left (by omega)).2), by omega, by omega⟩)] | (rw [zif_neg (by intro z; have z1 := z.1; have z2 := z.2.1; have z3 := z.2.2; first | omega | (have := hon; exact (this.resolve_right (by omega)).2 z2))]; rfl))] at q; rw [show 140 * l + 7 * k + (s + 1 + 3) = 140 * l + 7 * k + (s + 3) + 1 by omega]; exact q⟩ (by omega)
              · refine z_aload_n C 1 dX7_sounds_51 rfl ?_
                refine z_iload_n C 2 dX7_sounds_52 rfl ?_
                refine z_iload_n C 3 dX7_sounds_53 rfl ?_
                refine z_iload_n C 4 dX7_sounds_54 rfl ?_
                refine z_cV (As := [.int (iI l), .int (iI k), .int (iI s)]) C zc_X7_isOn (c_X7_isOn hX hM12 hI l k s (by omega) (by omega) (by omega)) zl_7_34 (Nat.le_of_ble_eq_true rfl) (Nat.le_of_ble_eq_true rfl) (Nat.le_of_ble_eq_true rfl) (hM12.1.1) (hM12.1.2) rfl rfl rfl rfl (Nat.le_of_ble_eq_true rfl) dX7_sounds_55 (fun zon L18 f19 hon => ?_)
                obtain ⟨hon, rfl, rfl⟩ := hon
                have hon : zon = 0 ∧ ¬ spOn μ l k s ∨ zon = 1 ∧ spOn μ l k s := hon
                change ZW G pZ la eZ (zRm 4 0 0) sZ mZ aZ bZ hZ cZ AZ 6 0 0 _ L f9 58 [(4, .int (iI (7 * (20 * l + k) + s + 3))), (0, .ref o), (1, .int (iI l)), (2, .int (iI k)), (3, .int (iI s))] [.int (iI zon)]
                refine z_if_ne C 64 dX7_sounds_58 (by decide) (by omega) (fun h58 => ?_) (fun h58 => ?_)
                · have hon2 := (hon.resolve_left (by omega)).2
                  unfold spOn at hon2
                  have how := spOn_own hI hl (k := k) (by omega)
                  refine z_iload_n C 4 dX7_sounds_64 rfl ?_
                  refine z_if_ge C 73 dX7_sounds_65 (by decide) (by omega) (fun h65 => ?_) (fun h65 => ?_)
                  · refine z_iload_n C 4 dX7_sounds_73 rfl ?_
                    refine z_istore (ls' := [(5, .int (iI s)), (4, .int (iI (7 * (20 * l + k) + s + 3))), (0, .ref o), (1, .int (iI l)), (2, .int (iI k)), (3, .int (iI s))]) C dX7_sounds_74 (Nat.le_of_ble_eq_true rfl) rfl ?_
                    refine z_iload C 0 dX7_sounds_76 rfl ?_
                    have hc8 : 0 ≤ spCell μ l k 0 ∧ spCell μ l k 0 < 240 := by unfold spCell; omega
                    refine z_aload_n C 2 dX7_sounds_78 rfl ?_
                    skip
                    refine z_getf C 4 zin_X7 (hM12.1.1) (hM12.1.2) rfl (Nat.le_of_ble_eq_true rfl) zl_6_102 rfl rfl dX7_sounds_79 ?_
                    refine z_aload_n C 2 dX7_sounds_82 rfl ?_
                    refine z_iload_n C 3 dX7_sounds_83 rfl ?_
                    refine z_iload_n C 4 dX7_sounds_84 rfl ?_
                    refine z_iconst C dX7_sounds_85 ?_
                    refine z_cV (As := [.int (iI l), .int (iI k), .int (iI 0)]) C zc_X7_cellOf (c_X7_cellOf hX hM12 hI l k 0 (by omega) (by omega) (by omega)) zl_7_50 (Nat.le_of_ble_eq_true rfl) (Nat.le_of_ble_eq_true rfl) (Nat.le_of_ble_eq_true rfl) (hM12.1.1) (hM12.1.2) rfl rfl rfl rfl (Nat.le_of_ble_eq_true rfl) dX7_sounds_86 (fun z21 L22 f23 hz24 => ?_)
                    obtain ⟨hz24, rfl, rfl⟩ := hz24
                    subst hz24
                    change ZW G pZ la eZ (zRm 4 0 0) sZ mZ aZ bZ hZ cZ AZ 6 0 0 _ L f9 89 [(5, .int (iI s)), (4, .int (iI (7 * (20 * l + k) + s + 3))), (0, .ref o), (1, .int (iI l)), (2, .int (iI k)), (3, .int (iI s))] [.int (iI (spCell μ l k 0)), .ref (ad 4), .int (iI s)]
                    refine z_iald C (show zA G 0 L f9 (ad 4) 240 (μ 4) by have q := MR_a4 hM12; exact q) (by omega) (by omega) (by omega) dX7_sounds_89 ?_
                    have hb25 := hI.b4 (spCell μ l k 0) (by omega) (by omega)
                    refine z_cS (As := [.int (iI ((μ 4) (spCell μ l k 0)))]) C zc_X7_reach (c_X7_reach hX ((μ 4) (spCell μ l k 0)) (by omega)) zl_7_54 (Nat.le_of_ble_eq_true rfl) (Nat.le_of_ble_eq_true rfl) (Nat.le_of_ble_eq_true rfl) rfl rfl (Nat.le_of_ble_eq_true rfl) dX7_sounds_90 (fun z27 L28 f29 hz30 => ?_)
                    obtain ⟨hz30, rfl, rfl⟩ := hz30
                    subst hz30
                    have hr26 := spReach_rng (x := ((μ 4) (spCell μ l k 0))) (by omega)
                    change ZW G pZ la eZ (zRm 4 0 0) sZ mZ aZ bZ hZ cZ AZ 6 0 0 _ L f9 93 [(5, .int (iI s)), (4, .int (iI (7 * (20 * l + k) + s + 3))), (0, .ref o), (1, .int (iI l)), (2, .int (iI k)), (3, .int (iI s))] [.int (iI (spReach ((μ 4) (spCell μ l k 0)))), .int (iI s)]
                    refine z_icmp_gt C 143 dX7_sounds_93 (by decide) (by omega) (by omega) (fun h93 => ?_) (fun h93 => ?_)
                    · refine z_iinc (ls' := [(3, .int (iI (s + 1))), (5, .int (iI s)), (4, .int (iI (7 * (20 * l + k) + s + 3))), (0, .ref o), (1, .int (iI l)), (2, .int (iI k))]) C 5 dX7_sounds_143 rfl (Nat.le_of_ble_eq_true rfl) rfl ?_
                      refine z_goto C 11 dX7_sounds_146 (by decide) ?_
                      refine z_perm [3, 4, 5, 0] rfl ?_
                      exact ih11 _ _ ⟨by omega, by omega, by have q := hM12; rw [show 7 * (20 * l + k) + s + 3 = 140 * l + 7 * k + (s + 3) by omega] at q; rw [spSM_w1 μ rfl (by omega) (by omega) (by omega) (by unfold spSv; first | rw [zif_pos (by refine ⟨by omega, by first | omega | assumption | (have := hon; exact (this.resolve_left (by omega)).2), by omega, by omega⟩)] | (rw [zif_neg (by intro z; have z1 := z.1; have z2 := z.2.1; have z3 := z.2.2; first | omega | (have := hon; exact (this.resolve_right (by omega)).2 z2))]; rfl))] at q; rw [show 140 * l + 7 * k + (s + 1 + 3) = 140 * l + 7 * k + (s + 3) + 1 by omega]; exact q⟩ (by omega)
                    · refine z_aload_n C 2 dX7_sounds_96 rfl ?_
                      refine z_getf C 18 zin_X7 (hM12.1.1) (hM12.1.2) rfl (Nat.le_of_ble_eq_true rfl) zl_6_116 rfl rfl dX7_sounds_97 ?_
                      refine z_iload C 1 dX7_sounds_100 rfl ?_
                      refine z_aload_n C 2 dX7_sounds_102 rfl ?_
                      have hc9 : 0 ≤ spCell μ l k s ∧ spCell μ l k s < 240 := by unfold spCell; omega
                      refine z_getf C 4 zin_X7 (hM12.1.1) (hM12.1.2) rfl (Nat.le_of_ble_eq_true rfl) zl_6_102 rfl rfl dX7_sounds_103 ?_
                      refine z_aload_n C 2 dX7_sounds_106 rfl ?_
                      refine z_iload_n C 3 dX7_sounds_107 rfl ?_
                      refine z_iload_n C 4 dX7_sounds_108 rfl ?_
                      refine z_iload_n C 5 dX7_sounds_109 rfl ?_
                      refine z_cV (As := [.int (iI l), .int (iI k), .int (iI s)]) C zc_X7_cellOf (c_X7_cellOf hX hM12 hI l k s (by omega) (by omega) (by omega)) zl_7_50 (Nat.le_of_ble_eq_true rfl) (Nat.le_of_ble_eq_true rfl) (Nat.le_of_ble_eq_true rfl) (hM12.1.1) (hM12.1.2) rfl rfl rfl rfl (Nat.le_of_ble_eq_true rfl) dX7_sounds_110 (fun z32 L33 f34 hz35 => ?_)
                      obtain ⟨hz35, rfl, rfl⟩ := hz35
                      subst hz35
                      change ZW G pZ la eZ (zRm 4 0 0) sZ mZ aZ bZ hZ cZ AZ 6 0 0 _ L f9 113 [(5, .int (iI s)), (4, .int (iI (7 * (20 * l + k) + s + 3))), (0, .ref o), (1, .int (iI l)), (2, .int (iI k)), (3, .int (iI s))] [.int (iI (spCell μ l k s)), .ref (ad 4), .int (iI (7 * (20 * l + k) + s + 3)), .ref (ad 18)]
                      refine z_iald C (show zA G 0 L f9 (ad 4) 240 (μ 4) by have q := MR_a4 hM12; exact q) (by omega) (by omega) (by omega) dX7_sounds_113 ?_
                      have hb36 := hI.b4 (spCell μ l k s) (by omega) (by omega)
                      refine z_aload_n C 2 dX7_sounds_114 rfl ?_
                      refine z_aload_n C 2 dX7_sounds_115 rfl ?_
                      refine z_iload_n C 3 dX7_sounds_116 rfl ?_
                      refine z_iload_n C 4 dX7_sounds_117 rfl ?_
                      refine z_iconst C dX7_sounds_118 ?_
                      refine z_cV (As := [.int (iI l), .int (iI k), .int (iI 0)]) C zc_X7_columnOf (c_X7_columnOf hX hM12 hI l k 0 (by omega) (by omega) (by omega)) zl_7_38 (Nat.le_of_ble_eq_true rfl) (Nat.le_of_ble_eq_true rfl) (Nat.le_of_ble_eq_true rfl) (hM12.1.1) (hM12.1.2) rfl rfl rfl rfl (Nat.le_of_ble_eq_true rfl) dX7_sounds_119 (fun z38 L39 f40 hz41 => ?_)
                      obtain ⟨hz41, rfl, rfl⟩ := hz41
                      subst hz41
                      have hr37 := spCol_rng hI (l := l) (k := k) (s := 0) (by omega) (by omega) (by omega)
                      change ZW G pZ la eZ (zRm 4 0 0) sZ mZ aZ bZ hZ cZ AZ 6 0 0 _ L f9 122 [(5, .int (iI s)), (4, .int (iI (7 * (20 * l + k) + s + 3))), (0, .ref o), (1, .int (iI l)), (2, .int (iI k)), (3, .int (iI s))] [.int (iI (spCol μ l k 0)), .ref o, .int (iI ((μ 4) (spCell μ l k s))), .int (iI (7 * (20 * l + k) + s + 3)), .ref (ad 18)]
                      refine z_aload_n C 2 dX7_sounds_122 rfl ?_
                      refine z_getf C 16 zin_X7 (hM12.1.1) (hM12.1.2) rfl (Nat.le_of_ble_eq_true rfl) zl_6_114 rfl rfl dX7_sounds_123 ?_
                      refine z_iload_n C 3 dX7_sounds_126 rfl ?_
                      refine z_iald C (show zA G 0 L f9 (ad 16) 16 (μ 16) by have q := MR_a16 hM12; exact q) (by omega) (by omega) (by omega) dX7_sounds_127 ?_
                      have hb42 := hI.b12 l (by omega) (by omega)
                      refine z_aload_n C 2 dX7_sounds_128 rfl ?_
                      refine z_getf C 17 zin_X7 (hM12.1.1) (hM12.1.2) rfl (Nat.le_of_ble_eq_true rfl) zl_6_115 rfl rfl dX7_sounds_129 ?_
                      refine z_iload_n C 3 dX7_sounds_132 rfl ?_
                      refine z_iald C (show zA G 0 L f9 (ad 17) 16 (μ 17) by have q := MR_a17 hM12; exact q) (by omega) (by omega) (by omega) dX7_sounds_133 ?_
                      have hb43 := hI.b12 l (by omega) (by omega)
                      refine z_iload_n C 4 dX7_sounds_134 rfl ?_
                      refine z_iconst C dX7_sounds_135 ?_
                      refine z_idivP C dX7_sounds_136 (by omega) (by omega) ?_
                      refine z_iadd C dX7_sounds_137 ?_
                      refine z_cV (As := [.int (iI (spCol μ l k 0)), .int (iI ((μ 16) l)), .int (iI (((μ 17) l) + (k / 5)))]) C zc_X7_water (c_X7_water hX hM12 hI (spCol μ l k 0) ((μ 16) l) (((μ 17) l) + (k / 5)) (by omega) (by omega) (by omega)) zl_6_203 (Nat.le_of_ble_eq_true rfl) (Nat.le_of_ble_eq_true rfl) (Nat.le_of_ble_eq_true rfl) (hM12.1.1) (hM12.1.2) rfl rfl rfl rfl (Nat.le_of_ble_eq_true rfl) dX7_sounds_138 (fun z44 L45 f46 hz47 => ?_)
                      obtain ⟨hz47, rfl, rfl⟩ := hz47
                      subst hz47
                      change ZW G pZ la eZ (zRm 4 0 0) sZ mZ aZ bZ hZ cZ AZ 6 0 0 _ L f9 141 [(5, .int (iI s)), (4, .int (iI (7 * (20 * l + k) + s + 3))), (0, .ref o), (1, .int (iI l)), (2, .int (iI k)), (3, .int (iI s))] [.int (iI (spWater μ (spCol μ l k 0) ((μ 16) l) (((μ 17) l) + (k / 5)))), .int (iI ((μ 4) (spCell μ l k s))), .int (iI (7 * (20 * l + k) + s + 3)), .ref (ad 18)]
                      refine z_iadd C dX7_sounds_141 ?_
                      refine z_iast C (MR_a18 hM12) (by omega) (by omega) (by omega) dX7_sounds_142 (fun f48 ha49 hk50 => ?_)
                      have hM51 := MR_w18 hM12 ha49 hk50
                      refine z_iinc (ls' := [(3, .int (iI (s + 1))), (5, .int (iI s)), (4, .int (iI (7 * (20 * l + k) + s + 3))), (0, .ref o), (1, .int (iI l)), (2, .int (iI k))]) C 5 dX7_sounds_143 rfl (Nat.le_of_ble_eq_true rfl) rfl ?_
                      refine z_goto C 11 dX7_sounds_146 (by decide) ?_
                      refine z_perm [3, 4, 5, 0] rfl ?_
                      exact ih11 _ _ ⟨by omega, by omega, by have q := hM51; rw [show 7 * (20 * l + k) + s + 3 = 140 * l + 7 * k + (s + 3) by omega] at q; rw [spSM_w2 μ rfl (by omega) (by omega) (by omega) (by unfold spSv; first | rw [zif_pos (by refine ⟨by omega, by first | omega | assumption | (have := hon; exact (this.resolve_left (by omega)).2), by omega, by omega⟩)] | (rw [zif_neg (by intro z; have z1 := z.1; have z2 := z.2.1; have z3 := z.2.2; first | omega | (have := hon; exact (this.resolve_right (by omega)).2 z2))]; rfl))] at q; rw [show 140 * l + 7 * k + (s + 1 + 3) = 140 * l + 7 * k + (s + 3) + 1 by omega]; exact q⟩ (by omega)
                  · refine z_iload_n C 4 dX7_sounds_68 rfl ?_
                    refine z_ineg C dX7_sounds_69 ?_
                    refine z_goto C 74 dX7_sounds_70 (by decide) ?_
                    refine z_nm (fun x52 hx52 => ?_)
                    refine z_istore (ls' := [(5, .int (iI x52)), (4, .int (iI (7 * (20 * l + k) + s + 3))), (0, .ref o), (1, .int (iI l)), (2, .int (iI k)), (3, .int (iI s))]) C dX7_sounds_74 (Nat.le_of_ble_eq_true rfl) rfl ?_
                    refine z_iload C 0 dX7_sounds_76 rfl ?_
                    have hc8 : 0 ≤ spCell μ l k 0 ∧ spCell μ l k 0 < 240 := by unfold spCell; omega
                    refine z_aload_n C 2 dX7_sounds_78 rfl ?_
                    skip
                    refine z_getf C 4 zin_X7 (hM12.1.1) (hM12.1.2) rfl (Nat.le_of_ble_eq_true rfl) zl_6_102 rfl rfl dX7_sounds_79 ?_
                    refine z_aload_n C 2 dX7_sounds_82 rfl ?_
                    refine z_iload_n C 3 dX7_sounds_83 rfl ?_
                    refine z_iload_n C 4 dX7_sounds_84 rfl ?_
                    refine z_iconst C dX7_sounds_85 ?_
                    refine z_cV (As := [.int (iI l), .int (iI k), .int (iI 0)]) C zc_X7_cellOf (c_X7_cellOf hX hM12 hI l k 0 (by omega) (by omega) (by omega)) zl_7_50 (Nat.le_of_ble_eq_true rfl) (Nat.le_of_ble_eq_true rfl) (Nat.le_of_ble_eq_true rfl) (hM12.1.1) (hM12.1.2) rfl rfl rfl rfl (Nat.le_of_ble_eq_true rfl) dX7_sounds_86 (fun z54 L55 f56 hz57 => ?_)
                    obtain ⟨hz57, rfl, rfl⟩ := hz57
                    subst hz57
                    change ZW G pZ la eZ (zRm 4 0 0) sZ mZ aZ bZ hZ cZ AZ 6 0 0 _ L f9 89 [(5, .int (iI x52)), (4, .int (iI (7 * (20 * l + k) + s + 3))), (0, .ref o), (1, .int (iI l)), (2, .int (iI k)), (3, .int (iI s))] [.int (iI (spCell μ l k 0)), .ref (ad 4), .int (iI x52)]
                    refine z_iald C (show zA G 0 L f9 (ad 4) 240 (μ 4) by have q := MR_a4 hM12; exact q) (by omega) (by omega) (by omega) dX7_sounds_89 ?_
                    have hb58 := hI.b4 (spCell μ l k 0) (by omega) (by omega)
                    refine z_cS (As := [.int (iI ((μ 4) (spCell μ l k 0)))]) C zc_X7_reach (c_X7_reach hX ((μ 4) (spCell μ l k 0)) (by omega)) zl_7_54 (Nat.le_of_ble_eq_true rfl) (Nat.le_of_ble_eq_true rfl) (Nat.le_of_ble_eq_true rfl) rfl rfl (Nat.le_of_ble_eq_true rfl) dX7_sounds_90 (fun z60 L61 f62 hz63 => ?_)
                    obtain ⟨hz63, rfl, rfl⟩ := hz63
                    subst hz63
                    have hr59 := spReach_rng (x := ((μ 4) (spCell μ l k 0))) (by omega)
                    change ZW G pZ la eZ (zRm 4 0 0) sZ mZ aZ bZ hZ cZ AZ 6 0 0 _ L f9 93 [(5, .int (iI x52)), (4, .int (iI (7 * (20 * l + k) + s + 3))), (0, .ref o), (1, .int (iI l)), (2, .int (iI k)), (3, .int (iI s))] [.int (iI (spReach ((μ 4) (spCell μ l k 0)))), .int (iI x52)]
                    refine z_icmp_gt C 143 dX7_sounds_93 (by decide) (by omega) (by omega) (fun h93 => ?_) (fun h93 => ?_)
                    · refine z_iinc (ls' := [(3, .int (iI (s + 1))), (5, .int (iI x52)), (4, .int (iI (7 * (20 * l + k) + s + 3))), (0, .ref o), (1, .int (iI l)), (2, .int (iI k))]) C 5 dX7_sounds_143 rfl (Nat.le_of_ble_eq_true rfl) rfl ?_
                      refine z_goto C 11 dX7_sounds_146 (by decide) ?_
                      refine z_perm [3, 4, 5, 0] rfl ?_
                      exact ih11 _ _ ⟨by omega, by omega, by have q := hM12; rw [show 7 * (20 * l + k) + s + 3 = 140 * l + 7 * k + (s + 3) by omega] at q; rw [spSM_w1 μ rfl (by omega) (by omega) (by omega) (by unfold spSv; first | rw [zif_pos (by refine ⟨by omega, by first | omega | assumption | (have := hon; exact (this.resolve_left (by omega)).2), by omega, by omega⟩)] | (rw [zif_neg (by intro z; have z1 := z.1; have z2 := z.2.1; have z3 := z.2.2; first | omega | (have := hon; exact (this.resolve_right (by omega)).2 z2))]; rfl))] at q; rw [show 140 * l + 7 * k + (s + 1 + 3) = 140 * l + 7 * k + (s + 3) + 1 by omega]; exact q⟩ (by omega)
                    · refine z_aload_n C 2 dX7_sounds_96 rfl ?_
                      refine z_getf C 18 zin_X7 (hM12.1.1) (hM12.1.2) rfl (Nat.le_of_ble_eq_true rfl) zl_6_116 rfl rfl dX7_sounds_97 ?_
                      refine z_iload C 1 dX7_sounds_100 rfl ?_
                      refine z_aload_n C 2 dX7_sounds_102 rfl ?_
                      have hc9 : 0 ≤ spCell μ l k s ∧ spCell μ l k s < 240 := by unfold spCell; omega
                      refine z_getf C 4 zin_X7 (hM12.1.1) (hM12.1.2) rfl (Nat.le_of_ble_eq_true rfl) zl_6_102 rfl rfl dX7_sounds_103 ?_
                      refine z_aload_n C 2 dX7_sounds_106 rfl ?_
                      refine z_iload_n C 3 dX7_sounds_107 rfl ?_
                      refine z_iload_n C 4 dX7_sounds_108 rfl ?_
                      refine z_iload_n C 5 dX7_sounds_109 rfl ?_
                      refine z_cV (As := [.int (iI l), .int (iI k), .int (iI s)]) C zc_X7_cellOf (c_X7_cellOf hX hM12 hI l k s (by omega) (by omega) (by omega)) zl_7_50 (Nat.le_of_ble_eq_true rfl) (Nat.le_of_ble_eq_true rfl) (Nat.le_of_ble_eq_true rfl) (hM12.1.1) (hM12.1.2) rfl rfl rfl rfl (Nat.le_of_ble_eq_true rfl) dX7_sounds_110 (fun z65 L66 f67 hz68 => ?_)
                      obtain ⟨hz68, rfl, rfl⟩ := hz68
                      subst hz68
                      change ZW G pZ la eZ (zRm 4 0 0) sZ mZ aZ bZ hZ cZ AZ 6 0 0 _ L f9 113 [(5, .int (iI x52)), (4, .int (iI (7 * (20 * l + k) + s + 3))), (0, .ref o), (1, .int (iI l)), (2, .int (iI k)), (3, .int (iI s))] [.int (iI (spCell μ l k s)), .ref (ad 4), .int (iI (7 * (20 * l + k) + s + 3)), .ref (ad 18)]
                      refine z_iald C (show zA G 0 L f9 (ad 4) 240 (μ 4) by have q := MR_a4 hM12; exact q) (by omega) (by omega) (by omega) dX7_sounds_113 ?_
                      have hb69 := hI.b4 (spCell μ l k s) (by omega) (by omega)
                      refine z_aload_n C 2 dX7_sounds_114 rfl ?_
                      refine z_aload_n C 2 dX7_sounds_115 rfl ?_
                      refine z_iload_n C 3 dX7_sounds_116 rfl ?_
                      refine z_iload_n C 4 dX7_sounds_117 rfl ?_
                      refine z_iconst C dX7_sounds_118 ?_
                      refine z_cV (As := [.int (iI l), .int (iI k), .int (iI 0)]) C zc_X7_columnOf (c_X7_columnOf hX hM12 hI l k 0 (by omega) (by omega) (by omega)) zl_7_38 (Nat.le_of_ble_eq_true rfl) (Nat.le_of_ble_eq_true rfl) (Nat.le_of_ble_eq_true rfl) (hM12.1.1) (hM12.1.2) rfl rfl rfl rfl (Nat.le_of_ble_eq_true rfl) dX7_sounds_119 (fun z71 L72 f73 hz74 => ?_)
                      obtain ⟨hz74, rfl, rfl⟩ := hz74
                      subst hz74
                      have hr70 := spCol_rng hI (l := l) (k := k) (s := 0) (by omega) (by omega) (by omega)
                      change ZW G pZ la eZ (zRm 4 0 0) sZ mZ aZ bZ hZ cZ AZ 6 0 0 _ L f9 122 [(5, .int (iI x52)), (4, .int (iI (7 * (20 * l + k) + s + 3))), (0, .ref o), (1, .int (iI l)), (2, .int (iI k)), (3, .int (iI s))] [.int (iI (spCol μ l k 0)), .ref o, .int (iI ((μ 4) (spCell μ l k s))), .int (iI (7 * (20 * l + k) + s + 3)), .ref (ad 18)]
                      refine z_aload_n C 2 dX7_sounds_122 rfl ?_
                      refine z_getf C 16 zin_X7 (hM12.1.1) (hM12.1.2) rfl (Nat.le_of_ble_eq_true rfl) zl_6_114 rfl rfl dX7_sounds_123 ?_
                      refine z_iload_n C 3 dX7_sounds_126 rfl ?_
                      refine z_iald C (show zA G 0 L f9 (ad 16) 16 (μ 16) by have q := MR_a16 hM12; exact q) (by omega) (by omega) (by omega) dX7_sounds_127 ?_
                      have hb75 := hI.b12 l (by omega) (by omega)
                      refine z_aload_n C 2 dX7_sounds_128 rfl ?_
                      refine z_getf C 17 zin_X7 (hM12.1.1) (hM12.1.2) rfl (Nat.le_of_ble_eq_true rfl) zl_6_115 rfl rfl dX7_sounds_129 ?_
                      refine z_iload_n C 3 dX7_sounds_132 rfl ?_
                      refine z_iald C (show zA G 0 L f9 (ad 17) 16 (μ 17) by have q := MR_a17 hM12; exact q) (by omega) (by omega) (by omega) dX7_sounds_133 ?_
                      have hb76 := hI.b12 l (by omega) (by omega)
                      refine z_iload_n C 4 dX7_sounds_134 rfl ?_
                      refine z_iconst C dX7_sounds_135 ?_
                      refine z_idivP C dX7_sounds_136 (by omega) (by omega) ?_
                      refine z_iadd C dX7_sounds_137 ?_
                      refine z_cV (As := [.int (iI (spCol μ l k 0)), .int (iI ((μ 16) l)), .int (iI (((μ 17) l) + (k / 5)))]) C zc_X7_water (c_X7_water hX hM12 hI (spCol μ l k 0) ((μ 16) l) (((μ 17) l) + (k / 5)) (by omega) (by omega) (by omega)) zl_6_203 (Nat.le_of_ble_eq_true rfl) (Nat.le_of_ble_eq_true rfl) (Nat.le_of_ble_eq_true rfl) (hM12.1.1) (hM12.1.2) rfl rfl rfl rfl (Nat.le_of_ble_eq_true rfl) dX7_sounds_138 (fun z77 L78 f79 hz80 => ?_)
                      obtain ⟨hz80, rfl, rfl⟩ := hz80
                      subst hz80
                      change ZW G pZ la eZ (zRm 4 0 0) sZ mZ aZ bZ hZ cZ AZ 6 0 0 _ L f9 141 [(5, .int (iI x52)), (4, .int (iI (7 * (20 * l + k) + s + 3))), (0, .ref o), (1, .int (iI l)), (2, .int (iI k)), (3, .int (iI s))] [.int (iI (spWater μ (spCol μ l k 0) ((μ 16) l) (((μ 17) l) + (k / 5)))), .int (iI ((μ 4) (spCell μ l k s))), .int (iI (7 * (20 * l + k) + s + 3)), .ref (ad 18)]
                      refine z_iadd C dX7_sounds_141 ?_
                      refine z_iast C (MR_a18 hM12) (by omega) (by omega) (by omega) dX7_sounds_142 (fun f81 ha82 hk83 => ?_)
                      have hM84 := MR_w18 hM12 ha82 hk83
                      refine z_iinc (ls' := [(3, .int (iI (s + 1))), (5, .int (iI x52)), (4, .int (iI (7 * (20 * l + k) + s + 3))), (0, .ref o), (1, .int (iI l)), (2, .int (iI k))]) C 5 dX7_sounds_143 rfl (Nat.le_of_ble_eq_true rfl) rfl ?_
                      refine z_goto C 11 dX7_sounds_146 (by decide) ?_
                      refine z_perm [3, 4, 5, 0] rfl ?_
                      exact ih11 _ _ ⟨by omega, by omega, by have q := hM84; rw [show 7 * (20 * l + k) + s + 3 = 140 * l + 7 * k + (s + 3) by omega] at q; rw [spSM_w2 μ rfl (by omega) (by omega) (by omega) (by unfold spSv; first | rw [zif_pos (by refine ⟨by omega, by first | omega | assumption | (have := hon; exact (this.resolve_left (by omega)).2), by omega, by omega⟩)] | (rw [zif_neg (by intro z; have z1 := z.1; have z2 := z.2.1; have z3 := z.2.2; first | omega | (have := hon; exact (this.resolve_right (by omega)).2 z2))]; rfl))] at q; rw [show 140 * l + 7 * k + (s + 1 + 3) = 140 * l + 7 * k + (s + 3) + 1 by omega]; exact q⟩ (by omega)
                · refine z_goto C 143 dX7_sounds_61 (by decide) ?_
                  refine z_iinc (ls' := [(3, .int (iI (s + 1))), (4, .int (iI (7 * (20 * l + k) + s + 3))), (0, .ref o), (1, .int (iI l)), (2, .int (iI k))]) C 4 dX7_sounds_143 rfl (Nat.le_of_ble_eq_true rfl) rfl ?_
                  refine z_goto C 11 dX7_sounds_146 (by decide) ?_
                  refine z_perm [2, 3, 4, 0] rfl ?_
                  exact ih11 _ _ ⟨by omega, by omega, by have q := hM12; rw [show 7 * (20 * l + k) + s + 3 = 140 * l + 7 * k + (s + 3) by omega] at q; rw [spSM_w1 μ rfl (by omega) (by omega) (by omega) (by unfold spSv; first | rw [zif_pos (by refine ⟨by omega, by first | omega | assumption | (have := hon; exact (this.resolve_left (by omega)).2), by omega, by omega⟩)] | (rw [zif_neg (by intro z; have z1 := z.1; have z2 := z.2.1; have z3 := z.2.2; first | omega | (have := hon; exact (this.resolve_right (by omega)).2 z2))]; rfl))] at q; rw [show 140 * l + 7 * k + (s + 1 + 3) = 140 * l + 7 * k + (s + 3) + 1 by omega]; exact q⟩ (by omega)
        refine z_perm [1, 2, 3, 0] rfl ?_
        exact key11 2000 _ _ ⟨by omega, by omega, by rw [show 140 * l + 7 * k + (-3 + 3) = 140 * l + 7 * k by omega]; exact hM9⟩ (by omega)
  refine z_perm [1, 2, 0] rfl ?_
  exact key2 2000 _ _ ⟨by omega, by omega, by rw [show 140 * l + 7 * 0 = 140 * l by omega, spSM_0]; exact hM⟩ (by omega)
