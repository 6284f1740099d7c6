set_option maxRecDepth 100000 in
set_option maxHeartbeats 200000 in
theorem c_reqCell {la : Launch} {G : zG} {X : (Nat → Prop) → State → Prop} (hX : zX X) (h4 : zT4 X) (hfl : la.stackTraces = false) {L : List Nat} {f : Nat → va_E} (c r : Int) (hc : zR c) (hr : zR r) : zMX la G X yX6_requireCell (.code yX6_requireCell cX6_requireCell 2 none :: zT) 6 1 6 [.int (iI c), .int (iI r)] L f zeV (zRd L f (fun _ => zOn c r)) (fun E L' f' => E = "java/lang/IndexOutOfBoundsException" ∧ ¬ zOn c r ∧ L = L' ∧ f = f') := by
  refine zMX_intro hX (by decide) (Nat.le_of_ble_eq_true rfl) (fun pZ eZ sZ mZ aZ bZ hZ cZ AZ C hnt => ?_)
  change ZW G pZ la eZ (zRm 6 1 6) sZ mZ aZ bZ hZ cZ AZ 2 0 0 _ L f 0 [(0, .int (iI c)), (1, .int (iI r))] []
  have hzc : (zOn c r ∧ zcell c r = 20 * r + c) ∨ (¬ zOn c r ∧ zcell c r = -1) := by
    by_cases q : zOn c r
    · exact Or.inl ⟨q, zcell_on q⟩
    · exact Or.inr ⟨q, zcell_no q⟩
  refine z_iload_n C 0 dX6_requireCell_0 rfl ?_
  refine z_iload_n C 1 dX6_requireCell_1 rfl ?_
  refine z_cS (As := [.int (iI c), .int (iI r)]) C zc_X6_cellNumber (c_cellNumber hX c r (by omega) (by omega)) zl_2_206 (Nat.le_of_ble_eq_true rfl) (Nat.le_of_ble_eq_true rfl) (Nat.le_of_ble_eq_true rfl) rfl rfl (Nat.le_of_ble_eq_true rfl) dX6_requireCell_2 (fun z2 L3 f4 hz5 => ?_)
  obtain ⟨hz5, rfl, rfl⟩ := hz5
  subst hz5
  have hr1 := zcell_rng c r
  change ZW G pZ la eZ (zRm 6 1 6) sZ mZ aZ bZ hZ cZ AZ 2 0 0 _ L f 5 [(0, .int (iI c)), (1, .int (iI r))] [.int (iI (zcell c r))]
  refine z_if_ge C 18 dX6_requireCell_5 (by decide) (by omega) (fun h5 => ?_) (fun h5 => ?_)
  · refine z_xr ?_
    exact z_vreturn C dX6_requireCell_18 (Nat.le_of_ble_eq_true rfl) (Nat.le_of_ble_eq_true rfl) ⟨by omega, rfl, rfl⟩
  · exact z_throwS C h4 hfl hnt (by decide +kernel) zl_2_207 zl_1_15 (List.mem_of_getElem? (i := 0) rfl) zthwIOB zthgIOB dX6_requireCell_8 dX6_requireCell_11 dX6_requireCell_12 dX6_requireCell_14 dX6_requireCell_17 (Nat.le_of_ble_eq_true rfl) (Nat.le_of_ble_eq_true rfl) (Nat.le_of_ble_eq_true rfl) (Nat.le_of_ble_eq_true rfl) (⟨rfl, by omega, rfl, rfl⟩)

set_option maxRecDepth 100000 in
set_option maxHeartbeats 200000 in
theorem c_reqColumn {la : Launch} {G : zG} {X : (Nat → Prop) → State → Prop} (hX : zX X) (h4 : zT4 X) (hfl : la.stackTraces = false) {L : List Nat} {f : Nat → va_E} (c : Int) (hc : zR c) : zMX la G X yX6_requireColumn (.code yX6_requireColumn cX6_requireColumn 1 none :: zT) 6 1 6 [.int (iI c)] L f zeV (zRd L f (fun _ => (0 ≤ c ∧ c ≤ 19))) (fun E L' f' => E = "java/lang/IndexOutOfBoundsException" ∧ ¬ (0 ≤ c ∧ c ≤ 19) ∧ L = L' ∧ f = f') := by
  refine zMX_intro hX (by decide) (Nat.le_of_ble_eq_true rfl) (fun pZ eZ sZ mZ aZ bZ hZ cZ AZ C hnt => ?_)
  change ZW G pZ la eZ (zRm 6 1 6) sZ mZ aZ bZ hZ cZ AZ 1 0 0 _ L f 0 [(0, .int (iI c))] []
  refine z_iload_n C 0 dX6_requireColumn_0 rfl ?_
  refine z_if_lt C 10 dX6_requireColumn_1 (by decide) (by omega) (fun h1 => ?_) (fun h1 => ?_)
  · exact z_throwSW C h4 hfl hnt (by decide +kernel) zl_2_207 zl_1_15 (List.mem_of_getElem? (i := 6) rfl) zthwIOB zthgIOB dX6_requireColumn_10 dX6_requireColumn_13 dX6_requireColumn_14 dX6_requireColumn_17 dX6_requireColumn_20 (Nat.le_of_ble_eq_true rfl) (Nat.le_of_ble_eq_true rfl) (Nat.le_of_ble_eq_true rfl) (Nat.le_of_ble_eq_true rfl) (⟨rfl, by omega, rfl, rfl⟩)
  · refine z_iload_n C 0 dX6_requireColumn_4 rfl ?_
    refine z_bipush C dX6_requireColumn_5 (by decide) ?_
    refine z_icmp_lt C 21 dX6_requireColumn_7 (by decide) (by omega) (by omega) (fun h7 => ?_) (fun h7 => ?_)
    · refine z_xr ?_
      exact z_vreturn C dX6_requireColumn_21 (Nat.le_of_ble_eq_true rfl) (Nat.le_of_ble_eq_true rfl) ⟨by omega, rfl, rfl⟩
    · exact z_throwSW C h4 hfl hnt (by decide +kernel) zl_2_207 zl_1_15 (List.mem_of_getElem? (i := 6) rfl) zthwIOB zthgIOB dX6_requireColumn_10 dX6_requireColumn_13 dX6_requireColumn_14 dX6_requireColumn_17 dX6_requireColumn_20 (Nat.le_of_ble_eq_true rfl) (Nat.le_of_ble_eq_true rfl) (Nat.le_of_ble_eq_true rfl) (Nat.le_of_ble_eq_true rfl) (⟨rfl, by omega, rfl, rfl⟩)

set_option maxRecDepth 100000 in
set_option maxHeartbeats 200000 in
theorem c_reqDay {la : Launch} {G : zG} {X : (Nat → Prop) → State → Prop} (hX : zX X) (h4 : zT4 X) (hfl : la.stackTraces = false) {L : List Nat} {f : Nat → va_E} (d : Int) (hd : zR d) : zMX la G X yX6_requireDay (.code yX6_requireDay cX6_requireDay 1 none :: zT) 6 1 6 [.int (iI d)] L f zeV (zRd L f (fun _ => (0 ≤ d ∧ d ≤ 9))) (fun E L' f' => E = "java/lang/IndexOutOfBoundsException" ∧ ¬ (0 ≤ d ∧ d ≤ 9) ∧ L = L' ∧ f = f') := by
  refine zMX_intro hX (by decide) (Nat.le_of_ble_eq_true rfl) (fun pZ eZ sZ mZ aZ bZ hZ cZ AZ C hnt => ?_)
  change ZW G pZ la eZ (zRm 6 1 6) sZ mZ aZ bZ hZ cZ AZ 1 0 0 _ L f 0 [(0, .int (iI d))] []
  refine z_iload_n C 0 dX6_requireDay_0 rfl ?_
  refine z_if_lt C 10 dX6_requireDay_1 (by decide) (by omega) (fun h1 => ?_) (fun h1 => ?_)
  · exact z_throwSW C h4 hfl hnt (by decide +kernel) zl_2_207 zl_1_15 (List.mem_of_getElem? (i := 4) rfl) zthwIOB zthgIOB dX6_requireDay_10 dX6_requireDay_13 dX6_requireDay_14 dX6_requireDay_17 dX6_requireDay_20 (Nat.le_of_ble_eq_true rfl) (Nat.le_of_ble_eq_true rfl) (Nat.le_of_ble_eq_true rfl) (Nat.le_of_ble_eq_true rfl) (⟨rfl, by omega, rfl, rfl⟩)
  · refine z_iload_n C 0 dX6_requireDay_4 rfl ?_
    refine z_bipush C dX6_requireDay_5 (by decide) ?_
    refine z_icmp_lt C 21 dX6_requireDay_7 (by decide) (by omega) (by omega) (fun h7 => ?_) (fun h7 => ?_)
    · refine z_xr ?_
      exact z_vreturn C dX6_requireDay_21 (Nat.le_of_ble_eq_true rfl) (Nat.le_of_ble_eq_true rfl) ⟨by omega, rfl, rfl⟩
    · exact z_throwSW C h4 hfl hnt (by decide +kernel) zl_2_207 zl_1_15 (List.mem_of_getElem? (i := 4) rfl) zthwIOB zthgIOB dX6_requireDay_10 dX6_requireDay_13 dX6_requireDay_14 dX6_requireDay_17 dX6_requireDay_20 (Nat.le_of_ble_eq_true rfl) (Nat.le_of_ble_eq_true rfl) (Nat.le_of_ble_eq_true rfl) (Nat.le_of_ble_eq_true rfl) (⟨rfl, by omega, rfl, rfl⟩)

set_option maxRecDepth 100000 in
set_option maxHeartbeats 200000 in
theorem c_reqHour {la : Launch} {G : zG} {X : (Nat → Prop) → State → Prop} (hX : zX X) (h4 : zT4 X) (hfl : la.stackTraces = false) {L : List Nat} {f : Nat → va_E} (d h : Int) (hd : zR d) (hh : zR h) : zMX la G X yX6_requireHour (.code yX6_requireHour cX6_requireHour 2 none :: zT) 6 1 6 [.int (iI d), .int (iI h)] L f zeV (zRd L f (fun _ => (0 ≤ d ∧ d ≤ 9 ∧ 0 ≤ h ∧ h ≤ 23))) (fun E L' f' => E = "java/lang/IndexOutOfBoundsException" ∧ ¬ (0 ≤ d ∧ d ≤ 9 ∧ 0 ≤ h ∧ h ≤ 23) ∧ L = L' ∧ f = f') := by
  refine zMX_intro hX (by decide) (Nat.le_of_ble_eq_true rfl) (fun pZ eZ sZ mZ aZ bZ hZ cZ AZ C hnt => ?_)
  change ZW G pZ la eZ (zRm 6 1 6) sZ mZ aZ bZ hZ cZ AZ 2 0 0 _ L f 0 [(0, .int (iI d)), (1, .int (iI h))] []
  have hzh : ((0 ≤ d ∧ d ≤ 9 ∧ 0 ≤ h ∧ h ≤ 23) ∧ zhour d h = 24 * d + h) ∨ (¬ (0 ≤ d ∧ d ≤ 9 ∧ 0 ≤ h ∧ h ≤ 23) ∧ zhour d h = -1) := by
    by_cases q : 0 ≤ d ∧ d ≤ 9 ∧ 0 ≤ h ∧ h ≤ 23
    · exact Or.inl ⟨q, zhour_in q⟩
    · exact Or.inr ⟨q, if_neg q⟩
  refine z_iload_n C 0 dX6_requireHour_0 rfl ?_
  refine z_iload_n C 1 dX6_requireHour_1 rfl ?_
  refine z_cS (As := [.int (iI d), .int (iI h)]) C zc_X6_hourNumber (c_hourNumber hX d h (by omega) (by omega)) zl_3_12 (Nat.le_of_ble_eq_true rfl) (Nat.le_of_ble_eq_true rfl) (Nat.le_of_ble_eq_true rfl) rfl rfl (Nat.le_of_ble_eq_true rfl) dX6_requireHour_2 (fun z2 L3 f4 hz5 => ?_)
  obtain ⟨hz5, rfl, rfl⟩ := hz5
  subst hz5
  have hr1 := zhour_rng d h
  change ZW G pZ la eZ (zRm 6 1 6) sZ mZ aZ bZ hZ cZ AZ 2 0 0 _ L f 5 [(0, .int (iI d)), (1, .int (iI h))] [.int (iI (zhour d h))]
  refine z_if_ge C 19 dX6_requireHour_5 (by decide) (by omega) (fun h5 => ?_) (fun h5 => ?_)
  · refine z_xr ?_
    exact z_vreturn C dX6_requireHour_19 (Nat.le_of_ble_eq_true rfl) (Nat.le_of_ble_eq_true rfl) ⟨by omega, rfl, rfl⟩
  · exact z_throwSW C h4 hfl hnt (by decide +kernel) zl_2_207 zl_1_15 (List.mem_of_getElem? (i := 2) rfl) zthwIOB zthgIOB dX6_requireHour_8 dX6_requireHour_11 dX6_requireHour_12 dX6_requireHour_15 dX6_requireHour_18 (Nat.le_of_ble_eq_true rfl) (Nat.le_of_ble_eq_true rfl) (Nat.le_of_ble_eq_true rfl) (Nat.le_of_ble_eq_true rfl) (⟨rfl, by omega, rfl, rfl⟩)

set_option maxRecDepth 100000 in
set_option maxHeartbeats 1000000 in
theorem c_reqWay {la : Launch} {G : zG} {X : (Nat → Prop) → State → Prop} (hX : zX X) (h4 : zT4 X) (hfl : la.stackTraces = false) {L : List Nat} {f : Nat → va_E} (y i a e : Int) (hy : y = 0 ∨ y = 1) (hi : zR i) (ha : zR a) (he : zR e) : zMX la G X yX6_requireWay (.code yX6_requireWay cX6_requireWay 5 none :: zT) 6 1 6 [.int (iI y), .int (iI i), .int (iI a), .int (iI e)] L f zeV (zRd L f (fun _ => ((y ≠ 0 ∧ zOn a i ∧ zOn e i) ∨ (y = 0 ∧ zOn i a ∧ zOn i e)))) (fun E L' f' => E = "java/lang/IndexOutOfBoundsException" ∧ ¬ ((y ≠ 0 ∧ zOn a i ∧ zOn e i) ∨ (y = 0 ∧ zOn i a ∧ zOn i e)) ∧ L = L' ∧ f = f') := by
  refine zMX_intro hX (by decide) (Nat.le_of_ble_eq_true rfl) (fun pZ eZ sZ mZ aZ bZ hZ cZ AZ C hnt => ?_)
  change ZW G pZ la eZ (zRm 6 1 6) sZ mZ aZ bZ hZ cZ AZ 5 0 0 _ L f 0 [(0, .int (iI y)), (1, .int (iI i)), (2, .int (iI a)), (3, .int (iI e))] []
  have hzai : (zOn a i ∧ zcell a i = 20 * i + a) ∨ (¬ zOn a i ∧ zcell a i = -1) := by
    by_cases q : zOn a i
    · exact Or.inl ⟨q, zcell_on q⟩
    · exact Or.inr ⟨q, zcell_no q⟩
  have hzei : (zOn e i ∧ zcell e i = 20 * i + e) ∨ (¬ zOn e i ∧ zcell e i = -1) := by
    by_cases q : zOn e i
    · exact Or.inl ⟨q, zcell_on q⟩
    · exact Or.inr ⟨q, zcell_no q⟩
  have hzia : (zOn i a ∧ zcell i a = 20 * a + i) ∨ (¬ zOn i a ∧ zcell i a = -1) := by
    by_cases q : zOn i a
    · exact Or.inl ⟨q, zcell_on q⟩
    · exact Or.inr ⟨q, zcell_no q⟩
  have hzie : (zOn i e ∧ zcell i e = 20 * e + i) ∨ (¬ zOn i e ∧ zcell i e = -1) := by
    by_cases q : zOn i e
    · exact Or.inl ⟨q, zcell_on q⟩
    · exact Or.inr ⟨q, zcell_no q⟩
  have J49 : ∀ (b : Int)   (hj49 : b = 0 ∧ ¬ ((y ≠ 0 ∧ zOn a i ∧ zOn e i) ∨ (y = 0 ∧ zOn i a ∧ zOn i e)) ∨ b = 1 ∧ ((y ≠ 0 ∧ zOn a i ∧ zOn e i) ∨ (y = 0 ∧ zOn i a ∧ zOn i e))), ZW G pZ la eZ (zRm 6 1 6) sZ mZ aZ bZ hZ cZ AZ 5 0 0 (vx_MQ bZ (zQ G zeV (zRd L f (fun _ => ((y ≠ 0 ∧ zOn a i ∧ zOn e i) ∨ (y = 0 ∧ zOn i a ∧ zOn i e)))) AZ) (zXC G (fun E L' f' => E = "java/lang/IndexOutOfBoundsException" ∧ ¬ ((y ≠ 0 ∧ zOn a i ∧ zOn e i) ∨ (y = 0 ∧ zOn i a ∧ zOn i e)) ∧ L = L' ∧ f = f') AZ) aZ sZ 1 6 AZ) L f 49 [(0, .int (iI y)), (1, .int (iI i)), (2, .int (iI a)), (3, .int (iI e))] [.int (iI b)] := by
    intro b   hj49
    have hb := hj49
    refine z_istore (ls' := [(4, .int (iI b)), (0, .int (iI y)), (1, .int (iI i)), (2, .int (iI a)), (3, .int (iI e))]) C dX6_requireWay_49 (Nat.le_of_ble_eq_true rfl) rfl ?_
    refine z_iload C 0 dX6_requireWay_51 rfl ?_
    refine z_if_ne C 67 dX6_requireWay_53 (by decide) (by omega) (fun h53 => ?_) (fun h53 => ?_)
    · refine z_xr ?_
      exact z_vreturn C dX6_requireWay_67 (Nat.le_of_ble_eq_true rfl) (Nat.le_of_ble_eq_true rfl) ⟨by omega, rfl, rfl⟩
    · exact z_throwSW C h4 hfl hnt (by decide +kernel) zl_2_207 zl_1_15 (List.mem_of_getElem? (i := 15) rfl) zthwIOB zthgIOB dX6_requireWay_56 dX6_requireWay_59 dX6_requireWay_60 dX6_requireWay_63 dX6_requireWay_66 (Nat.le_of_ble_eq_true rfl) (Nat.le_of_ble_eq_true rfl) (Nat.le_of_ble_eq_true rfl) (Nat.le_of_ble_eq_true rfl) (⟨rfl, by omega, rfl, rfl⟩)
  refine z_iload_n C 0 dX6_requireWay_0 rfl ?_
  refine z_if_eq C 28 dX6_requireWay_1 (by decide) (by omega) (fun h1 => ?_) (fun h1 => ?_)
  · refine z_iload_n C 1 dX6_requireWay_28 rfl ?_
    refine z_iload_n C 2 dX6_requireWay_29 rfl ?_
    refine z_cS (As := [.int (iI i), .int (iI a)]) C zc_X6_cellNumber (c_cellNumber hX i a (by omega) (by omega)) zl_2_206 (Nat.le_of_ble_eq_true rfl) (Nat.le_of_ble_eq_true rfl) (Nat.le_of_ble_eq_true rfl) rfl rfl (Nat.le_of_ble_eq_true rfl) dX6_requireWay_30 (fun z2 L3 f4 hz5 => ?_)
    obtain ⟨hz5, rfl, rfl⟩ := hz5
    subst hz5
    have hr1 := zcell_rng i a
    change ZW G pZ la eZ (zRm 6 1 6) sZ mZ aZ bZ hZ cZ AZ 5 0 0 _ L f 33 [(0, .int (iI y)), (1, .int (iI i)), (2, .int (iI a)), (3, .int (iI e))] [.int (iI (zcell i a))]
    refine z_if_lt C 48 dX6_requireWay_33 (by decide) (by omega) (fun h33 => ?_) (fun h33 => ?_)
    · refine z_iconst C dX6_requireWay_48 ?_
      refine z_perm [0, 1, 2, 3] rfl ?_
      exact J49 _  (by omega)
    · refine z_iload_n C 1 dX6_requireWay_36 rfl ?_
      refine z_iload_n C 3 dX6_requireWay_37 rfl ?_
      refine z_cS (As := [.int (iI i), .int (iI e)]) C zc_X6_cellNumber (c_cellNumber hX i e (by omega) (by omega)) zl_2_206 (Nat.le_of_ble_eq_true rfl) (Nat.le_of_ble_eq_true rfl) (Nat.le_of_ble_eq_true rfl) rfl rfl (Nat.le_of_ble_eq_true rfl) dX6_requireWay_38 (fun z7 L8 f9 hz10 => ?_)
      obtain ⟨hz10, rfl, rfl⟩ := hz10
      subst hz10
      have hr6 := zcell_rng i e
      change ZW G pZ la eZ (zRm 6 1 6) sZ mZ aZ bZ hZ cZ AZ 5 0 0 _ L f 41 [(0, .int (iI y)), (1, .int (iI i)), (2, .int (iI a)), (3, .int (iI e))] [.int (iI (zcell i e))]
      refine z_if_lt C 48 dX6_requireWay_41 (by decide) (by omega) (fun h41 => ?_) (fun h41 => ?_)
      · refine z_iconst C dX6_requireWay_48 ?_
        refine z_perm [0, 1, 2, 3] rfl ?_
        exact J49 _  (by omega)
      · refine z_iconst C dX6_requireWay_44 ?_
        refine z_goto C 49 dX6_requireWay_45 (by decide) ?_
        refine z_perm [0, 1, 2, 3] rfl ?_
        exact J49 _  (by omega)
  · refine z_iload_n C 2 dX6_requireWay_4 rfl ?_
    refine z_iload_n C 1 dX6_requireWay_5 rfl ?_
    refine z_cS (As := [.int (iI a), .int (iI i)]) C zc_X6_cellNumber (c_cellNumber hX a i (by omega) (by omega)) zl_2_206 (Nat.le_of_ble_eq_true rfl) (Nat.le_of_ble_eq_true rfl) (Nat.le_of_ble_eq_true rfl) rfl rfl (Nat.le_of_ble_eq_true rfl) dX6_requireWay_6 (fun z12 L13 f14 hz15 => ?_)
    obtain ⟨hz15, rfl, rfl⟩ := hz15
    subst hz15
    have hr11 := zcell_rng a i
    change ZW G pZ la eZ (zRm 6 1 6) sZ mZ aZ bZ hZ cZ AZ 5 0 0 _ L f 9 [(0, .int (iI y)), (1, .int (iI i)), (2, .int (iI a)), (3, .int (iI e))] [.int (iI (zcell a i))]
    refine z_if_lt C 24 dX6_requireWay_9 (by decide) (by omega) (fun h9 => ?_) (fun h9 => ?_)
    · refine z_iconst C dX6_requireWay_24 ?_
      refine z_goto C 49 dX6_requireWay_25 (by decide) ?_
      refine z_perm [0, 1, 2, 3] rfl ?_
      exact J49 _  (by omega)
    · refine z_iload_n C 3 dX6_requireWay_12 rfl ?_
      refine z_iload_n C 1 dX6_requireWay_13 rfl ?_
      refine z_cS (As := [.int (iI e), .int (iI i)]) C zc_X6_cellNumber (c_cellNumber hX e i (by omega) (by omega)) zl_2_206 (Nat.le_of_ble_eq_true rfl) (Nat.le_of_ble_eq_true rfl) (Nat.le_of_ble_eq_true rfl) rfl rfl (Nat.le_of_ble_eq_true rfl) dX6_requireWay_14 (fun z17 L18 f19 hz20 => ?_)
      obtain ⟨hz20, rfl, rfl⟩ := hz20
      subst hz20
      have hr16 := zcell_rng e i
      change ZW G pZ la eZ (zRm 6 1 6) sZ mZ aZ bZ hZ cZ AZ 5 0 0 _ L f 17 [(0, .int (iI y)), (1, .int (iI i)), (2, .int (iI a)), (3, .int (iI e))] [.int (iI (zcell e i))]
      refine z_if_lt C 24 dX6_requireWay_17 (by decide) (by omega) (fun h17 => ?_) (fun h17 => ?_)
      · refine z_iconst C dX6_requireWay_24 ?_
        refine z_goto C 49 dX6_requireWay_25 (by decide) ?_
        refine z_perm [0, 1, 2, 3] rfl ?_
        exact J49 _  (by omega)
      · refine z_iconst C dX6_requireWay_20 ?_
        refine z_goto C 49 dX6_requireWay_21 (by decide) ?_
        refine z_perm [0, 1, 2, 3] rfl ?_
        exact J49 _  (by omega)

set_option maxRecDepth 100000 in
set_option maxHeartbeats 200000 in
theorem c_reqCalm {la : Launch} {G : zG} {X : (Nat → Prop) → State → Prop} (hX : zX X) (h4 : zT4 X) (hfl : la.stackTraces = false) {L : List Nat} {f : Nat → va_E} {o : Nat} {ω : Nat → Nat → Nat} {μ : zMu} {ch : Int → Int} {rd : Nat → Int → Int} {tx : List Int} (hR : SR G L f o ω μ ch rd tx) (d : Int) (hI : MI μ) (hd : 0 ≤ d ∧ d ≤ 9) : zMX la G X yX6_requireCalm (.code yX6_requireCalm cX6_requireCalm 2 none :: zT) 6 1 6 [.ref o, .int (iI d)] L f zeV (zRd L f (fun _ => μ 7 d ≤ 4)) (fun E L' f' => E = "java/lang/UnsupportedOperationException" ∧ ¬ μ 7 d ≤ 4 ∧ L = L' ∧ f = f') := by
  refine zMX_intro hX (by decide) (Nat.le_of_ble_eq_true rfl) (fun pZ eZ sZ mZ aZ bZ hZ cZ AZ C hnt => ?_)
  change ZW G pZ la eZ (zRm 6 1 6) sZ mZ aZ bZ hZ cZ AZ 2 0 0 _ L f 0 [(0, .ref o), (1, .int (iI d))] []
  have hNO : zNO = -2147483648 := rfl
  have hn := hI.n
  have hSK : zSK (zK μ) := MJ_SK hI.J
  have hBl : ∀ j : Nat, (j : Int) < μ 2 0 → zLB μ j := fun j hj => hI.J.b12 j (by omega) (by omega)
  refine z_aload_n C 0 dX6_requireCalm_0 rfl ?_
  refine z_getf C 0 zin_X6 (hR.ob.1) (hR.ob.2) rfl (Nat.le_of_ble_eq_true rfl) zl_1_139 rfl rfl dX6_requireCalm_1 ?_
  refine z_iload_n C 1 dX6_requireCalm_4 rfl ?_
  refine z_cV (As := [.int (iI d)]) C zc_X5_isRough (c_isRough hX hR.sea d hSK (by omega)) zl_1_232 (Nat.le_of_ble_eq_true rfl) (Nat.le_of_ble_eq_true rfl) (Nat.le_of_ble_eq_true rfl) (hR.sea.1.1) (hR.sea.1.2) rfl rfl rfl rfl (Nat.le_of_ble_eq_true rfl) dX6_requireCalm_5 (fun z1 L2 f3 hz4 => ?_)
  obtain ⟨hz4, rfl, rfl⟩ := hz4
  subst hz4
  change ZW G pZ la eZ (zRm 6 1 6) sZ mZ aZ bZ hZ cZ AZ 2 0 0 _ L f 8 [(0, .ref o), (1, .int (iI d))] [.int (iI (bI (4 < μ 7 d)))]
  refine z_if_eq_b C 22 dX6_requireCalm_8 (by decide) (fun h8 => ?_) (fun h8 => ?_)
  · refine z_xr ?_
    exact z_vreturn C dX6_requireCalm_22 (Nat.le_of_ble_eq_true rfl) (Nat.le_of_ble_eq_true rfl) ⟨by omega, rfl, rfl⟩
  · exact z_throwSW C h4 hfl hnt (by decide +kernel) zl_3_97 zl_1_20 (List.mem_of_getElem? (i := 16) rfl) zthwUOE zthgUOE dX6_requireCalm_11 dX6_requireCalm_14 dX6_requireCalm_15 dX6_requireCalm_18 dX6_requireCalm_21 (Nat.le_of_ble_eq_true rfl) (Nat.le_of_ble_eq_true rfl) (Nat.le_of_ble_eq_true rfl) (Nat.le_of_ble_eq_true rfl) (⟨rfl, by omega, rfl, rfl⟩)

set_option maxRecDepth 100000 in
set_option maxHeartbeats 200000 in
theorem c_reqDepth {la : Launch} {G : zG} {X : (Nat → Prop) → State → Prop} (hX : zX X) (h4 : zT4 X) (hfl : la.stackTraces = false) {L : List Nat} {f : Nat → va_E} (x : Int) (hx : zR x) : zMX la G X yX6_requireDepth (.code yX6_requireDepth cX6_requireDepth 1 (some .int) :: zT) 6 1 6 [.int (iI x)] L f zeI (zRd L f (fun z => z = x ∧ x ≠ -1000000)) (fun E L' f' => E = "java/lang/UnsupportedOperationException" ∧ x = -1000000 ∧ L = L' ∧ f = f') := by
  refine zMX_intro hX (by decide) (Nat.le_of_ble_eq_true rfl) (fun pZ eZ sZ mZ aZ bZ hZ cZ AZ C hnt => ?_)
  change ZW G pZ la eZ (zRm 6 1 6) sZ mZ aZ bZ hZ cZ AZ 1 0 0 _ L f 0 [(0, .int (iI x))] []
  refine z_iload_n C 0 dX6_requireDepth_0 rfl ?_
  refine z_ldc (n := (-1000000)) C zl_2_90 rfl dX6_requireDepth_1 ?_
  refine z_icmp_ne C 17 dX6_requireDepth_3 (by decide) (by omega) (by omega) (fun h3 => ?_) (fun h3 => ?_)
  · refine z_iload_n C 0 dX6_requireDepth_17 rfl ?_
    refine z_xr ?_
    exact z_ireturn C dX6_requireDepth_18 (Nat.le_of_ble_eq_true rfl) (Nat.le_of_ble_eq_true rfl) ⟨⟨rfl, by omega⟩, rfl, rfl⟩
  · exact z_throwSW C h4 hfl hnt (by decide +kernel) zl_3_97 zl_1_20 (List.mem_of_getElem? (i := 21) rfl) zthwUOE zthgUOE dX6_requireDepth_6 dX6_requireDepth_9 dX6_requireDepth_10 dX6_requireDepth_13 dX6_requireDepth_16 (Nat.le_of_ble_eq_true rfl) (Nat.le_of_ble_eq_true rfl) (Nat.le_of_ble_eq_true rfl) (Nat.le_of_ble_eq_true rfl) (⟨rfl, by omega, rfl, rfl⟩)

set_option maxRecDepth 100000 in
set_option maxHeartbeats 200000 in
theorem c_reqGauge {la : Launch} {G : zG} {X : (Nat → Prop) → State → Prop} (hX : zX X) (h4 : zT4 X) (hfl : la.stackTraces = false) {L : List Nat} {f : Nat → va_E} {o : Nat} {ω : Nat → Nat → Nat} {μ : zMu} {ch : Int → Int} {rd : Nat → Int → Int} {tx : List Int} (hR : SR G L f o ω μ ch rd tx) (g : Int) (hI : MI μ) (hg : zR g) : zMX la G X yX6_requireGauge (.code yX6_requireGauge cX6_requireGauge 3 (some (.object "SwathSurvey$Gauge")) :: zT) 6 1 6 [.ref o, .int (iI g)] L f zeQ (fun z L' f' => z = some (ω 3 g.toNat) ∧ (0 ≤ g ∧ g < μ 1 0) ∧ L = L' ∧ f = f') (fun E L' f' => E = "java/util/NoSuchElementException" ∧ ¬ (0 ≤ g ∧ g < μ 1 0) ∧ L = L' ∧ f = f') := by
  refine zMX_intro hX (by decide) (Nat.le_of_ble_eq_true rfl) (fun pZ eZ sZ mZ aZ bZ hZ cZ AZ C hnt => ?_)
  change ZW G pZ la eZ (zRm 6 1 6) sZ mZ aZ bZ hZ cZ AZ 3 0 0 _ L f 0 [(0, .ref o), (1, .int (iI g))] []
  have hNO : zNO = -2147483648 := rfl
  have hn := hI.n
  have hSK : zSK (zK μ) := MJ_SK hI.J
  have hBl : ∀ j : Nat, (j : Int) < μ 2 0 → zLB μ j := fun j hj => hI.J.b12 j (by omega) (by omega)
  refine z_aload_n C 0 dX6_requireGauge_0 rfl ?_
  refine z_getf C 1 zin_X6 (hR.ob.1) (hR.ob.2) rfl (Nat.le_of_ble_eq_true rfl) zl_1_140 rfl rfl dX6_requireGauge_1 ?_
  refine z_iload_n C 1 dX6_requireGauge_4 rfl ?_
  refine z_cV (As := [.int (iI g)]) C zc_X2_gaugeOrNull (c_gaugeOrNull hX hR.gs g ⟨by omega, by omega⟩ (by omega)) zl_3_162 (Nat.le_of_ble_eq_true rfl) (Nat.le_of_ble_eq_true rfl) (Nat.le_of_ble_eq_true rfl) (hR.gs.1.1) (hR.gs.1.2) rfl rfl rfl rfl (Nat.le_of_ble_eq_true rfl) dX6_requireGauge_5 (fun zq L1 f2 hzq => ?_)
  obtain ⟨hzq, rfl, rfl⟩ := hzq
  change ZW G pZ la eZ (zRm 6 1 6) sZ mZ aZ bZ hZ cZ AZ 3 0 0 _ L f 8 [(0, .ref o), (1, .int (iI g))] [va_rf zq]
  refine z_qstore_n (ls' := [(2, va_rf zq), (0, .ref o), (1, .int (iI g))]) C dX6_requireGauge_8 (Nat.le_of_ble_eq_true rfl) rfl ?_
  refine z_qload_n C 0 dX6_requireGauge_9 rfl ?_
  refine z_ifnonnull C 24 dX6_requireGauge_10 (by decide) (fun h10 => ?_) (fun r3 h10 => ?_)
  · subst h10
    have hln : ¬ (0 ≤ g ∧ g < μ 1 0) := fun q => by rw [if_pos q] at hzq; cases hzq
    change ZW G pZ la eZ (zRm 6 1 6) sZ mZ aZ bZ hZ cZ AZ 3 0 0 _ L f 13 [(2, .null), (0, .ref o), (1, .int (iI g))] []
    exact z_throwNW C h4 hfl hnt zl_3_163 zl_1_23 (List.mem_of_getElem? (i := 10) rfl) zthwNSE zthgNSE dX6_requireGauge_13 dX6_requireGauge_16 dX6_requireGauge_17 dX6_requireGauge_20 dX6_requireGauge_23 (Nat.le_of_ble_eq_true rfl) (Nat.le_of_ble_eq_true rfl) (Nat.le_of_ble_eq_true rfl) (Nat.le_of_ble_eq_true rfl) (⟨rfl, hln, rfl, rfl⟩)
  · subst h10
    have hln : (0 ≤ g ∧ g < μ 1 0) ∧ r3 = ω 3 g.toNat := by
      by_cases q : 0 ≤ g ∧ g < μ 1 0
      · rw [if_pos q] at hzq; exact ⟨q, Option.some.inj hzq⟩
      · rw [if_neg q] at hzq; cases hzq
    change ZW G pZ la eZ (zRm 6 1 6) sZ mZ aZ bZ hZ cZ AZ 3 0 0 _ L f 24 [(2, .ref r3), (0, .ref o), (1, .int (iI g))] []
    refine z_aload_n C 0 dX6_requireGauge_24 rfl ?_
    refine z_xr ?_
    change ZW G pZ la eZ (zRm 6 1 6) sZ mZ aZ bZ hZ cZ AZ 3 _ _ _ _ _ _ _ [va_rf (some r3)]
    exact z_qreturn C dX6_requireGauge_25 (Nat.le_of_ble_eq_true rfl) (Nat.le_of_ble_eq_true rfl) ⟨by rw [hln.2], hln.1, rfl, rfl⟩

set_option maxRecDepth 100000 in
set_option maxHeartbeats 200000 in
theorem c_reqLine {la : Launch} {G : zG} {X : (Nat → Prop) → State → Prop} (hX : zX X) (h4 : zT4 X) (hfl : la.stackTraces = false) {L : List Nat} {f : Nat → va_E} {o : Nat} {ω : Nat → Nat → Nat} {μ : zMu} {ch : Int → Int} {rd : Nat → Int → Int} {tx : List Int} (hR : SR G L f o ω μ ch rd tx) (l : Int) (hI : MI μ) (hl : zR l) : zMX la G X yX6_requireLine (.code yX6_requireLine cX6_requireLine 3 (some (.object "SwathSurvey$Line")) :: zT) 6 1 6 [.ref o, .int (iI l)] L f zeQ (fun z L' f' => z = some (ω 5 l.toNat) ∧ (0 ≤ l ∧ l < μ 2 0) ∧ L = L' ∧ f = f') (fun E L' f' => E = "java/util/NoSuchElementException" ∧ ¬ (0 ≤ l ∧ l < μ 2 0) ∧ L = L' ∧ f = f') := by
  refine zMX_intro hX (by decide) (Nat.le_of_ble_eq_true rfl) (fun pZ eZ sZ mZ aZ bZ hZ cZ AZ C hnt => ?_)
  change ZW G pZ la eZ (zRm 6 1 6) sZ mZ aZ bZ hZ cZ AZ 3 0 0 _ L f 0 [(0, .ref o), (1, .int (iI l))] []
  have hNO : zNO = -2147483648 := rfl
  have hn := hI.n
  have hSK : zSK (zK μ) := MJ_SK hI.J
  have hBl : ∀ j : Nat, (j : Int) < μ 2 0 → zLB μ j := fun j hj => hI.J.b12 j (by omega) (by omega)
  refine z_aload_n C 0 dX6_requireLine_0 rfl ?_
  refine z_iload_n C 1 dX6_requireLine_1 rfl ?_
  refine z_cV (As := [.int (iI l)]) C zc_X6_lineOrNull (c_lineOrNull hX hR l hI (by omega)) zl_1_178 (Nat.le_of_ble_eq_true rfl) (Nat.le_of_ble_eq_true rfl) (Nat.le_of_ble_eq_true rfl) (hR.ob.1) (hR.ob.2) rfl rfl rfl rfl (Nat.le_of_ble_eq_true rfl) dX6_requireLine_2 (fun zq L1 f2 hzq => ?_)
  obtain ⟨hzq, rfl, rfl⟩ := hzq
  change ZW G pZ la eZ (zRm 6 1 6) sZ mZ aZ bZ hZ cZ AZ 3 0 0 _ L f 5 [(0, .ref o), (1, .int (iI l))] [va_rf zq]
  refine z_qstore_n (ls' := [(2, va_rf zq), (0, .ref o), (1, .int (iI l))]) C dX6_requireLine_5 (Nat.le_of_ble_eq_true rfl) rfl ?_
  refine z_qload_n C 0 dX6_requireLine_6 rfl ?_
  refine z_ifnonnull C 21 dX6_requireLine_7 (by decide) (fun h7 => ?_) (fun r3 h7 => ?_)
  · subst h7
    have hln : ¬ (0 ≤ l ∧ l < μ 2 0) := fun q => by rw [if_pos q] at hzq; cases hzq
    change ZW G pZ la eZ (zRm 6 1 6) sZ mZ aZ bZ hZ cZ AZ 3 0 0 _ L f 10 [(2, .null), (0, .ref o), (1, .int (iI l))] []
    exact z_throwNW C h4 hfl hnt zl_3_163 zl_1_23 (List.mem_of_getElem? (i := 18) rfl) zthwNSE zthgNSE dX6_requireLine_10 dX6_requireLine_13 dX6_requireLine_14 dX6_requireLine_17 dX6_requireLine_20 (Nat.le_of_ble_eq_true rfl) (Nat.le_of_ble_eq_true rfl) (Nat.le_of_ble_eq_true rfl) (Nat.le_of_ble_eq_true rfl) (⟨rfl, hln, rfl, rfl⟩)
  · subst h7
    have hln : (0 ≤ l ∧ l < μ 2 0) ∧ r3 = ω 5 l.toNat := by
      by_cases q : 0 ≤ l ∧ l < μ 2 0
      · rw [if_pos q] at hzq; exact ⟨q, Option.some.inj hzq⟩
      · rw [if_neg q] at hzq; cases hzq
    change ZW G pZ la eZ (zRm 6 1 6) sZ mZ aZ bZ hZ cZ AZ 3 0 0 _ L f 21 [(2, .ref r3), (0, .ref o), (1, .int (iI l))] []
    refine z_aload_n C 0 dX6_requireLine_21 rfl ?_
    refine z_xr ?_
    change ZW G pZ la eZ (zRm 6 1 6) sZ mZ aZ bZ hZ cZ AZ 3 _ _ _ _ _ _ _ [va_rf (some r3)]
    exact z_qreturn C dX6_requireLine_22 (Nat.le_of_ble_eq_true rfl) (Nat.le_of_ble_eq_true rfl) ⟨by rw [hln.2], hln.1, rfl, rfl⟩
