set_option maxRecDepth 100000 in
set_option maxHeartbeats 200000 in
theorem c_between {la : Launch} {G : zG} {X : (Nat → Prop) → State → Prop} (hX : zX X) {L : List Nat} {f : Nat → va_E} (x y k w : Int) (hx : -10000 ≤ x ∧ x ≤ 10000) (hy : -10000 ≤ y ∧ y ≤ 10000) (hw : 0 < w ∧ w < 10000) (hp : -1000000 ≤ (y - x) * k ∧ (y - x) * k ≤ 1000000) (hk : zR k) : zM la G X yX6_between (.code yX6_between cX6_between 4 (some .int) :: zT) 1 0 0 [.int (iI x), .int (iI y), .int (iI k), .int (iI w)] L f zeI (zRd L f (fun z => z = x + ((y - x) * k) / w)) := by
  refine zM_intro hX (by decide) (Nat.le_of_ble_eq_true rfl) (fun pZ eZ sZ mZ aZ bZ hZ cZ AZ C hini => ?_)
  change ZW G pZ la eZ (zRm 1 0 0) sZ mZ aZ bZ hZ cZ AZ 4 0 0 _ L f 0 [(0, .int (iI x)), (1, .int (iI y)), (2, .int (iI k)), (3, .int (iI w))] []
  refine z_iload_n C 3 dX6_between_0 rfl ?_
  refine z_if_le C 18 dX6_between_1 (by decide) (by omega) (fun h1 => ?_) (fun h1 => ?_)
  · exfalso; omega
  · refine z_iload_n C 0 dX6_between_4 rfl ?_
    refine z_iload_n C 1 dX6_between_5 rfl ?_
    refine z_iload_n C 0 dX6_between_6 rfl ?_
    refine z_isub C dX6_between_7 ?_
    refine z_iload_n C 2 dX6_between_8 rfl ?_
    refine z_imul C dX6_between_9 ?_
    refine z_iload_n C 3 dX6_between_10 rfl ?_
    refine z_cS (As := [.int (iI ((y - x) * k)), .int (iI w)]) C zc_J9_floorDiv_7cf53 (c_floorDiv hX ((y - x) * k) w (by omega) (by omega)) zl_2_65 (Nat.le_of_ble_eq_true rfl) (Nat.le_of_ble_eq_true rfl) (Nat.le_of_ble_eq_true rfl) rfl rfl (Nat.le_of_ble_eq_true rfl) dX6_between_11 (fun z1 L2 f3 hz4 => ?_)
    obtain ⟨hz4, rfl, rfl⟩ := hz4
    subst hz4
    change ZW G pZ la eZ (zRm 1 0 0) sZ mZ aZ bZ hZ cZ AZ 4 0 0 _ L f 14 [(0, .int (iI x)), (1, .int (iI y)), (2, .int (iI k)), (3, .int (iI w))] [.int (iI (((y - x) * k) / w)), .int (iI x)]
    refine z_iadd C dX6_between_14 ?_
    refine z_goto C 19 dX6_between_15 (by decide) ?_
    exact z_ireturn C dX6_between_19 (Nat.le_of_ble_eq_true rfl) (Nat.le_of_ble_eq_true rfl) ⟨rfl, rfl, rfl⟩

set_option maxRecDepth 100000 in
set_option maxHeartbeats 200000 in
theorem c_putFloor {la : Launch} {G : zG} {X : (Nat → Prop) → State → Prop} (hX : zX X) {L : List Nat} {f : Nat → va_E} {w : Nat} {xr xa : Nat → Nat} {κ : zMu} (hS : zSea G L f w xr xa κ) (c r x : Int) (hc : zR c) (hr : zR r) (hx : zR x) : zM la G X yX5_putFloor (.code yX5_putFloor cX5_putFloor 4 (some .int) :: zT) 2 0 0 [.ref w, .int (iI c), .int (iI r), .int (iI x)] L f zeI (fun z L' f' => L = L' ∧ zA G 0 L f' (xa 0) 240 (zwr 240 (κ 0) (zcell c r) x) ∧ (∀ c, c ≠ xa 0 → f' c = f c) ∧ z = zrd 240 20 (κ 0) (zcell c r)) := by
  refine zM_intro hX (by decide) (Nat.le_of_ble_eq_true rfl) (fun pZ eZ sZ mZ aZ bZ hZ cZ AZ C hini => ?_)
  change ZW G pZ la eZ (zRm 2 0 0) sZ mZ aZ bZ hZ cZ AZ 4 0 0 _ L f 0 [(0, .ref w), (1, .int (iI c)), (2, .int (iI r)), (3, .int (iI x))] []
  refine z_aload_n C 0 dX5_putFloor_0 rfl ?_
  refine z_getf C 0 zin_X5 (hS.1.1) (hS.1.2) rfl (Nat.le_of_ble_eq_true rfl) zl_1_63 rfl rfl dX5_putFloor_1 ?_
  refine z_iload_n C 1 dX5_putFloor_4 rfl ?_
  refine z_iload_n C 2 dX5_putFloor_5 rfl ?_
  refine z_cSN (As := [.int (iI c), .int (iI r)]) C zc_X6_cellNumber (c_cellNumber hX c r (by omega) (by omega)) zn_29_RX5 (Nat.le_of_ble_eq_true rfl) (Nat.le_of_ble_eq_true rfl) (Nat.le_of_ble_eq_true rfl) rfl rfl (Nat.le_of_ble_eq_true rfl) dX5_putFloor_6 (fun z2 L3 f4 hz5 => ?_)
  obtain ⟨hz5, rfl, rfl⟩ := hz5
  subst hz5
  have hr1 := zcell_rng c r
  change ZW G pZ la eZ (zRm 2 0 0) sZ mZ aZ bZ hZ cZ AZ 4 0 0 _ L f 9 [(0, .ref w), (1, .int (iI c)), (2, .int (iI r)), (3, .int (iI x))] [.int (iI (zcell c r)), .ref (xr 0)]
  refine z_iload_n C 3 dX5_putFloor_9 rfl ?_
  refine z_cV (As := [.int (iI (zcell c r)), .int (iI x)]) C zc_X4_write (c_write hX (hS.2.1) (zcell c r) x (by decide) (by omega) (by omega)) zl_3_1 (Nat.le_of_ble_eq_true rfl) (Nat.le_of_ble_eq_true rfl) (Nat.le_of_ble_eq_true rfl) (hS.2.1.1.1) (hS.2.1.1.2) rfl rfl rfl rfl (Nat.le_of_ble_eq_true rfl) dX5_putFloor_10 (fun z7 L8 f9 hz10 => ?_)
  obtain ⟨rfl, hw6a, hw6k, hw6z⟩ := hz10
  change ZW G pZ la eZ (zRm 2 0 0) sZ mZ aZ bZ hZ cZ AZ 4 0 0 _ L f9 13 [(0, .ref w), (1, .int (iI c)), (2, .int (iI r)), (3, .int (iI x))] [.int (iI z7)]
  exact z_ireturn C dX5_putFloor_13 (Nat.le_of_ble_eq_true rfl) (Nat.le_of_ble_eq_true rfl) ⟨rfl, hw6a, hw6k, hw6z⟩

set_option maxRecDepth 100000 in
set_option maxHeartbeats 200000 in
theorem c_putHeight {la : Launch} {G : zG} {X : (Nat → Prop) → State → Prop} (hX : zX X) {L : List Nat} {f : Nat → va_E} {w : Nat} {xr xa : Nat → Nat} {κ : zMu} (hS : zSea G L f w xr xa κ) (d h x : Int) (hd : zR d) (hh : zR h) (hx : zR x) : zM la G X yX5_putHeight (.code yX5_putHeight cX5_putHeight 4 (some .int) :: zT) 2 0 0 [.ref w, .int (iI d), .int (iI h), .int (iI x)] L f zeI (fun z L' f' => L = L' ∧ zA G 0 L f' (xa 1) 240 (zwr 240 (κ 1) (zhour d h) x) ∧ (∀ c, c ≠ xa 1 → f' c = f c) ∧ z = zrd 240 0 (κ 1) (zhour d h)) := by
  refine zM_intro hX (by decide) (Nat.le_of_ble_eq_true rfl) (fun pZ eZ sZ mZ aZ bZ hZ cZ AZ C hini => ?_)
  change ZW G pZ la eZ (zRm 2 0 0) sZ mZ aZ bZ hZ cZ AZ 4 0 0 _ L f 0 [(0, .ref w), (1, .int (iI d)), (2, .int (iI h)), (3, .int (iI x))] []
  refine z_aload_n C 0 dX5_putHeight_0 rfl ?_
  refine z_getf C 1 zin_X5 (hS.1.1) (hS.1.2) rfl (Nat.le_of_ble_eq_true rfl) zl_1_64 rfl rfl dX5_putHeight_1 ?_
  refine z_iload_n C 1 dX5_putHeight_4 rfl ?_
  refine z_iload_n C 2 dX5_putHeight_5 rfl ?_
  refine z_cSN (As := [.int (iI d), .int (iI h)]) C zc_X6_hourNumber (c_hourNumber hX d h (by omega) (by omega)) zn_36_RX5 (Nat.le_of_ble_eq_true rfl) (Nat.le_of_ble_eq_true rfl) (Nat.le_of_ble_eq_true rfl) rfl rfl (Nat.le_of_ble_eq_true rfl) dX5_putHeight_6 (fun z2 L3 f4 hz5 => ?_)
  obtain ⟨hz5, rfl, rfl⟩ := hz5
  subst hz5
  have hr1 := zhour_rng d h
  change ZW G pZ la eZ (zRm 2 0 0) sZ mZ aZ bZ hZ cZ AZ 4 0 0 _ L f 9 [(0, .ref w), (1, .int (iI d)), (2, .int (iI h)), (3, .int (iI x))] [.int (iI (zhour d h)), .ref (xr 1)]
  refine z_iload_n C 3 dX5_putHeight_9 rfl ?_
  refine z_cV (As := [.int (iI (zhour d h)), .int (iI x)]) C zc_X4_write (c_write hX (hS.2.2.1) (zhour d h) x (by decide) (by omega) (by omega)) zl_3_1 (Nat.le_of_ble_eq_true rfl) (Nat.le_of_ble_eq_true rfl) (Nat.le_of_ble_eq_true rfl) (hS.2.2.1.1.1) (hS.2.2.1.1.2) rfl rfl rfl rfl (Nat.le_of_ble_eq_true rfl) dX5_putHeight_10 (fun z7 L8 f9 hz10 => ?_)
  obtain ⟨rfl, hw6a, hw6k, hw6z⟩ := hz10
  change ZW G pZ la eZ (zRm 2 0 0) sZ mZ aZ bZ hZ cZ AZ 4 0 0 _ L f9 13 [(0, .ref w), (1, .int (iI d)), (2, .int (iI h)), (3, .int (iI x))] [.int (iI z7)]
  exact z_ireturn C dX5_putHeight_13 (Nat.le_of_ble_eq_true rfl) (Nat.le_of_ble_eq_true rfl) ⟨rfl, hw6a, hw6k, hw6z⟩

set_option maxRecDepth 100000 in
set_option maxHeartbeats 200000 in
theorem c_putSlope {la : Launch} {G : zG} {X : (Nat → Prop) → State → Prop} (hX : zX X) {L : List Nat} {f : Nat → va_E} {w : Nat} {xr xa : Nat → Nat} {κ : zMu} (hS : zSea G L f w xr xa κ) (d x : Int) (hd : zR d) (hx : zR x) : zM la G X yX5_putSlope (.code yX5_putSlope cX5_putSlope 3 (some .int) :: zT) 2 0 0 [.ref w, .int (iI d), .int (iI x)] L f zeI (fun z L' f' => L = L' ∧ zA G 0 L f' (xa 2) 10 (zwr 10 (κ 2) d x) ∧ (∀ c, c ≠ xa 2 → f' c = f c) ∧ z = zrd 10 0 (κ 2) d) := by
  refine zM_intro hX (by decide) (Nat.le_of_ble_eq_true rfl) (fun pZ eZ sZ mZ aZ bZ hZ cZ AZ C hini => ?_)
  change ZW G pZ la eZ (zRm 2 0 0) sZ mZ aZ bZ hZ cZ AZ 3 0 0 _ L f 0 [(0, .ref w), (1, .int (iI d)), (2, .int (iI x))] []
  refine z_aload_n C 0 dX5_putSlope_0 rfl ?_
  refine z_getf C 2 zin_X5 (hS.1.1) (hS.1.2) rfl (Nat.le_of_ble_eq_true rfl) zl_1_65 rfl rfl dX5_putSlope_1 ?_
  refine z_iload_n C 1 dX5_putSlope_4 rfl ?_
  refine z_iload_n C 2 dX5_putSlope_5 rfl ?_
  refine z_cV (As := [.int (iI d), .int (iI x)]) C zc_X4_write (c_write hX (hS.2.2.2.1) d x (by decide) (by omega) (by omega)) zl_3_1 (Nat.le_of_ble_eq_true rfl) (Nat.le_of_ble_eq_true rfl) (Nat.le_of_ble_eq_true rfl) (hS.2.2.2.1.1.1) (hS.2.2.2.1.1.2) rfl rfl rfl rfl (Nat.le_of_ble_eq_true rfl) dX5_putSlope_6 (fun z2 L3 f4 hz5 => ?_)
  obtain ⟨rfl, hw1a, hw1k, hw1z⟩ := hz5
  change ZW G pZ la eZ (zRm 2 0 0) sZ mZ aZ bZ hZ cZ AZ 3 0 0 _ L f4 9 [(0, .ref w), (1, .int (iI d)), (2, .int (iI x))] [.int (iI z2)]
  exact z_ireturn C dX5_putSlope_9 (Nat.le_of_ble_eq_true rfl) (Nat.le_of_ble_eq_true rfl) ⟨rfl, hw1a, hw1k, hw1z⟩

set_option maxRecDepth 100000 in
set_option maxHeartbeats 200000 in
theorem c_putForce {la : Launch} {G : zG} {X : (Nat → Prop) → State → Prop} (hX : zX X) {L : List Nat} {f : Nat → va_E} {w : Nat} {xr xa : Nat → Nat} {κ : zMu} (hS : zSea G L f w xr xa κ) (d x : Int) (hd : zR d) (hx : zR x) : zM la G X yX5_putForce (.code yX5_putForce cX5_putForce 3 (some .int) :: zT) 2 0 0 [.ref w, .int (iI d), .int (iI x)] L f zeI (fun z L' f' => L = L' ∧ zA G 0 L f' (xa 3) 10 (zwr 10 (κ 3) d x) ∧ (∀ c, c ≠ xa 3 → f' c = f c) ∧ z = zrd 10 0 (κ 3) d) := by
  refine zM_intro hX (by decide) (Nat.le_of_ble_eq_true rfl) (fun pZ eZ sZ mZ aZ bZ hZ cZ AZ C hini => ?_)
  change ZW G pZ la eZ (zRm 2 0 0) sZ mZ aZ bZ hZ cZ AZ 3 0 0 _ L f 0 [(0, .ref w), (1, .int (iI d)), (2, .int (iI x))] []
  refine z_aload_n C 0 dX5_putForce_0 rfl ?_
  refine z_getf C 3 zin_X5 (hS.1.1) (hS.1.2) rfl (Nat.le_of_ble_eq_true rfl) zl_1_66 rfl rfl dX5_putForce_1 ?_
  refine z_iload_n C 1 dX5_putForce_4 rfl ?_
  refine z_iload_n C 2 dX5_putForce_5 rfl ?_
  refine z_cV (As := [.int (iI d), .int (iI x)]) C zc_X4_write (c_write hX (hS.2.2.2.2) d x (by decide) (by omega) (by omega)) zl_3_1 (Nat.le_of_ble_eq_true rfl) (Nat.le_of_ble_eq_true rfl) (Nat.le_of_ble_eq_true rfl) (hS.2.2.2.2.1.1) (hS.2.2.2.2.1.2) rfl rfl rfl rfl (Nat.le_of_ble_eq_true rfl) dX5_putForce_6 (fun z2 L3 f4 hz5 => ?_)
  obtain ⟨rfl, hw1a, hw1k, hw1z⟩ := hz5
  change ZW G pZ la eZ (zRm 2 0 0) sZ mZ aZ bZ hZ cZ AZ 3 0 0 _ L f4 9 [(0, .ref w), (1, .int (iI d)), (2, .int (iI x))] [.int (iI z2)]
  exact z_ireturn C dX5_putForce_9 (Nat.le_of_ble_eq_true rfl) (Nat.le_of_ble_eq_true rfl) ⟨rfl, hw1a, hw1k, hw1z⟩

set_option maxRecDepth 100000 in
set_option maxHeartbeats 200000 in
theorem c_floorIn {la : Launch} {G : zG} {X : (Nat → Prop) → State → Prop} (hX : zX X) {L : List Nat} {f : Nat → va_E} {w : Nat} {xr xa : Nat → Nat} {κ : zMu} (hS : zSea G L f w xr xa κ) (c r : Int) (hc : zR c) (hr : zR r) : zM la G X yX5_floorIn (.code yX5_floorIn cX5_floorIn 3 (some .int) :: zT) 2 0 0 [.ref w, .int (iI c), .int (iI r)] L f zeI (zRd L f (fun z => z = zrd 240 20 (κ 0) (zcell c r))) := by
  refine zM_intro hX (by decide) (Nat.le_of_ble_eq_true rfl) (fun pZ eZ sZ mZ aZ bZ hZ cZ AZ C hini => ?_)
  change ZW G pZ la eZ (zRm 2 0 0) sZ mZ aZ bZ hZ cZ AZ 3 0 0 _ L f 0 [(0, .ref w), (1, .int (iI c)), (2, .int (iI r))] []
  refine z_aload_n C 0 dX5_floorIn_0 rfl ?_
  refine z_getf C 0 zin_X5 (hS.1.1) (hS.1.2) rfl (Nat.le_of_ble_eq_true rfl) zl_1_63 rfl rfl dX5_floorIn_1 ?_
  refine z_iload_n C 1 dX5_floorIn_4 rfl ?_
  refine z_iload_n C 2 dX5_floorIn_5 rfl ?_
  refine z_cSN (As := [.int (iI c), .int (iI r)]) C zc_X6_cellNumber (c_cellNumber hX c r (by omega) (by omega)) zn_29_RX5 (Nat.le_of_ble_eq_true rfl) (Nat.le_of_ble_eq_true rfl) (Nat.le_of_ble_eq_true rfl) rfl rfl (Nat.le_of_ble_eq_true rfl) dX5_floorIn_6 (fun z2 L3 f4 hz5 => ?_)
  obtain ⟨hz5, rfl, rfl⟩ := hz5
  subst hz5
  have hr1 := zcell_rng c r
  change ZW G pZ la eZ (zRm 2 0 0) sZ mZ aZ bZ hZ cZ AZ 3 0 0 _ L f 9 [(0, .ref w), (1, .int (iI c)), (2, .int (iI r))] [.int (iI (zcell c r)), .ref (xr 0)]
  refine z_cV (As := [.int (iI (zcell c r))]) C zc_X4_read (c_read hX (hS.2.1) (zcell c r) (by decide) (by omega)) zl_1_236 (Nat.le_of_ble_eq_true rfl) (Nat.le_of_ble_eq_true rfl) (Nat.le_of_ble_eq_true rfl) (hS.2.1.1.1) (hS.2.1.1.2) rfl rfl rfl rfl (Nat.le_of_ble_eq_true rfl) dX5_floorIn_9 (fun z6 L7 f8 hz9 => ?_)
  obtain ⟨hz9, rfl, rfl⟩ := hz9
  subst hz9
  change ZW G pZ la eZ (zRm 2 0 0) sZ mZ aZ bZ hZ cZ AZ 3 0 0 _ L f 12 [(0, .ref w), (1, .int (iI c)), (2, .int (iI r))] [.int (iI (zrd 240 20 (κ 0) (zcell c r)))]
  exact z_ireturn C dX5_floorIn_12 (Nat.le_of_ble_eq_true rfl) (Nat.le_of_ble_eq_true rfl) ⟨rfl, rfl, rfl⟩

set_option maxRecDepth 100000 in
set_option maxHeartbeats 200000 in
theorem c_waterIn {la : Launch} {G : zG} {X : (Nat → Prop) → State → Prop} (hX : zX X) {L : List Nat} {f : Nat → va_E} {w : Nat} {xr xa : Nat → Nat} {κ : zMu} (hS : zSea G L f w xr xa κ) (c d h : Int) (hK : zSK κ) (hc : 0 ≤ c ∧ c ≤ 19) (hd : 0 ≤ d ∧ d ≤ 9) (hh : 0 ≤ h ∧ h ≤ 23) : zM la G X yX5_waterIn (.code yX5_waterIn cX5_waterIn 4 (some .int) :: zT) 2 0 0 [.ref w, .int (iI c), .int (iI d), .int (iI h)] L f zeI (zRd L f (fun z => z = κ 1 (24 * d + h) + (κ 2 d * c) / 4)) := by
  refine zM_intro hX (by decide) (Nat.le_of_ble_eq_true rfl) (fun pZ eZ sZ mZ aZ bZ hZ cZ AZ C hini => ?_)
  change ZW G pZ la eZ (zRm 2 0 0) sZ mZ aZ bZ hZ cZ AZ 4 0 0 _ L f 0 [(0, .ref w), (1, .int (iI c)), (2, .int (iI d)), (3, .int (iI h))] []
  refine z_aload_n C 0 dX5_waterIn_0 rfl ?_
  refine z_getf C 1 zin_X5 (hS.1.1) (hS.1.2) rfl (Nat.le_of_ble_eq_true rfl) zl_1_64 rfl rfl dX5_waterIn_1 ?_
  refine z_iload_n C 2 dX5_waterIn_4 rfl ?_
  refine z_iload_n C 3 dX5_waterIn_5 rfl ?_
  refine z_cSN (As := [.int (iI d), .int (iI h)]) C zc_X6_hourNumber (c_hourNumber hX d h (by omega) (by omega)) zn_36_RX5 (Nat.le_of_ble_eq_true rfl) (Nat.le_of_ble_eq_true rfl) (Nat.le_of_ble_eq_true rfl) rfl rfl (Nat.le_of_ble_eq_true rfl) dX5_waterIn_6 (fun z2 L3 f4 hz5 => ?_)
  obtain ⟨hz5, rfl, rfl⟩ := hz5
  subst hz5
  have hr1 := zhour_rng d h
  change ZW G pZ la eZ (zRm 2 0 0) sZ mZ aZ bZ hZ cZ AZ 4 0 0 _ L f 9 [(0, .ref w), (1, .int (iI c)), (2, .int (iI d)), (3, .int (iI h))] [.int (iI (zhour d h)), .ref (xr 1)]
  refine z_cV (As := [.int (iI (zhour d h))]) C zc_X4_read (c_read hX (hS.2.2.1) (zhour d h) (by decide) (by omega)) zl_1_236 (Nat.le_of_ble_eq_true rfl) (Nat.le_of_ble_eq_true rfl) (Nat.le_of_ble_eq_true rfl) (hS.2.2.1.1.1) (hS.2.2.1.1.2) rfl rfl rfl rfl (Nat.le_of_ble_eq_true rfl) dX5_waterIn_9 (fun z6 L7 f8 hz9 => ?_)
  obtain ⟨hz9, rfl, rfl⟩ := hz9
  subst hz9
  have hv1 : zrd 240 0 (κ 1) (zhour d h) = κ 1 (24 * d + h) := by rw [zhour_in (by omega), zrd_in (by omega)]
  have hv2 := hK.2.1 (24 * d + h) (by omega) (by omega)
  change ZW G pZ la eZ (zRm 2 0 0) sZ mZ aZ bZ hZ cZ AZ 4 0 0 _ L f 12 [(0, .ref w), (1, .int (iI c)), (2, .int (iI d)), (3, .int (iI h))] [.int (iI (zrd 240 0 (κ 1) (zhour d h)))]
  refine z_aload_n C 0 dX5_waterIn_12 rfl ?_
  refine z_getf C 2 zin_X5 (hS.1.1) (hS.1.2) rfl (Nat.le_of_ble_eq_true rfl) zl_1_65 rfl rfl dX5_waterIn_13 ?_
  refine z_iload_n C 2 dX5_waterIn_16 rfl ?_
  refine z_cV (As := [.int (iI d)]) C zc_X4_read (c_read hX (hS.2.2.2.1) d (by decide) (by omega)) zl_1_236 (Nat.le_of_ble_eq_true rfl) (Nat.le_of_ble_eq_true rfl) (Nat.le_of_ble_eq_true rfl) (hS.2.2.2.1.1.1) (hS.2.2.2.1.1.2) rfl rfl rfl rfl (Nat.le_of_ble_eq_true rfl) dX5_waterIn_17 (fun z10 L11 f12 hz13 => ?_)
  obtain ⟨hz13, rfl, rfl⟩ := hz13
  subst hz13
  have hv3 : zrd 10 0 (κ 2) d = κ 2 d := zrd_in (by omega)
  have hv4 := hK.2.2.1 d (by omega) (by omega)
  have hv5 := zmul_rng (a := zrd 10 0 (κ 2) d) (c := c) (by omega) (by omega)
  change ZW G pZ la eZ (zRm 2 0 0) sZ mZ aZ bZ hZ cZ AZ 4 0 0 _ L f 20 [(0, .ref w), (1, .int (iI c)), (2, .int (iI d)), (3, .int (iI h))] [.int (iI (zrd 10 0 (κ 2) d)), .int (iI (zrd 240 0 (κ 1) (zhour d h)))]
  refine z_iload_n C 1 dX5_waterIn_20 rfl ?_
  refine z_imul C dX5_waterIn_21 ?_
  refine z_iconst C dX5_waterIn_22 ?_
  refine z_cS (As := [.int (iI ((zrd 10 0 (κ 2) d) * c)), .int (iI 4)]) C zc_J9_floorDiv_7cf53 (c_floorDiv hX ((zrd 10 0 (κ 2) d) * c) 4 (by omega) (by omega)) zl_2_49 (Nat.le_of_ble_eq_true rfl) (Nat.le_of_ble_eq_true rfl) (Nat.le_of_ble_eq_true rfl) rfl rfl (Nat.le_of_ble_eq_true rfl) dX5_waterIn_23 (fun z14 L15 f16 hz17 => ?_)
  obtain ⟨hz17, rfl, rfl⟩ := hz17
  subst hz17
  change ZW G pZ la eZ (zRm 2 0 0) sZ mZ aZ bZ hZ cZ AZ 4 0 0 _ L f 26 [(0, .ref w), (1, .int (iI c)), (2, .int (iI d)), (3, .int (iI h))] [.int (iI (((zrd 10 0 (κ 2) d) * c) / 4)), .int (iI (zrd 240 0 (κ 1) (zhour d h)))]
  refine z_iadd C dX5_waterIn_26 ?_
  exact z_ireturn C dX5_waterIn_27 (Nat.le_of_ble_eq_true rfl) (Nat.le_of_ble_eq_true rfl) ⟨by rw [hv1, hv3], rfl, rfl⟩

set_option maxRecDepth 100000 in
set_option maxHeartbeats 200000 in
theorem c_isRough {la : Launch} {G : zG} {X : (Nat → Prop) → State → Prop} (hX : zX X) {L : List Nat} {f : Nat → va_E} {w : Nat} {xr xa : Nat → Nat} {κ : zMu} (hS : zSea G L f w xr xa κ) (d : Int) (hK : zSK κ) (hd : 0 ≤ d ∧ d ≤ 9) : zM la G X yX5_isRough (.code yX5_isRough cX5_isRough 2 (some .boolean) :: zT) 2 0 0 [.ref w, .int (iI d)] L f zeI (zRd L f (fun z => z = bI (4 < κ 3 d))) := by
  refine zM_intro hX (by decide) (Nat.le_of_ble_eq_true rfl) (fun pZ eZ sZ mZ aZ bZ hZ cZ AZ C hini => ?_)
  change ZW G pZ la eZ (zRm 2 0 0) sZ mZ aZ bZ hZ cZ AZ 2 0 0 _ L f 0 [(0, .ref w), (1, .int (iI d))] []
  refine z_aload_n C 0 dX5_isRough_0 rfl ?_
  refine z_getf C 3 zin_X5 (hS.1.1) (hS.1.2) rfl (Nat.le_of_ble_eq_true rfl) zl_1_66 rfl rfl dX5_isRough_1 ?_
  refine z_iload_n C 1 dX5_isRough_4 rfl ?_
  refine z_cV (As := [.int (iI d)]) C zc_X4_read (c_read hX (hS.2.2.2.2) d (by decide) (by omega)) zl_1_236 (Nat.le_of_ble_eq_true rfl) (Nat.le_of_ble_eq_true rfl) (Nat.le_of_ble_eq_true rfl) (hS.2.2.2.2.1.1) (hS.2.2.2.2.1.2) rfl rfl rfl rfl (Nat.le_of_ble_eq_true rfl) dX5_isRough_5 (fun z1 L2 f3 hz4 => ?_)
  obtain ⟨hz4, rfl, rfl⟩ := hz4
  subst hz4
  have hv3 : zrd 10 0 (κ 3) d = κ 3 d := zrd_in (by omega)
  have hv4 := hK.2.2.2 d (by omega) (by omega)
  change ZW G pZ la eZ (zRm 2 0 0) sZ mZ aZ bZ hZ cZ AZ 2 0 0 _ L f 8 [(0, .ref w), (1, .int (iI d))] [.int (iI (zrd 10 0 (κ 3) d))]
  refine z_iconst C dX5_isRough_8 ?_
  refine z_icmp_le C 16 dX5_isRough_9 (by decide) (by omega) (by omega) (fun h9 => ?_) (fun h9 => ?_)
  · refine z_iconst C dX5_isRough_16 ?_
    exact z_zreturn C (by first | omega | (unfold bI; split <;> omega)) dX5_isRough_17 (Nat.le_of_ble_eq_true rfl) (Nat.le_of_ble_eq_true rfl) ⟨by unfold bI; first | (rw [if_pos (by omega)]; done) | (rw [if_neg (by omega)]; done), rfl, rfl⟩
  · refine z_iconst C dX5_isRough_12 ?_
    refine z_goto C 17 dX5_isRough_13 (by decide) ?_
    exact z_zreturn C (by first | omega | (unfold bI; split <;> omega)) dX5_isRough_17 (Nat.le_of_ble_eq_true rfl) (Nat.le_of_ble_eq_true rfl) ⟨by unfold bI; first | (rw [if_pos (by omega)]; done) | (rw [if_neg (by omega)]; done), rfl, rfl⟩

set_option maxRecDepth 100000 in
set_option maxHeartbeats 200000 in
theorem c_reachFrom {la : Launch} {G : zG} {X : (Nat → Prop) → State → Prop} (hX : zX X) {L : List Nat} {f : Nat → va_E} {w : Nat} {xr xa : Nat → Nat} {κ : zMu} (hS : zSea G L f w xr xa κ) (c r : Int) (hK : zSK κ) (hc : 0 ≤ c ∧ c ≤ 19) (hr : 0 ≤ r ∧ r ≤ 11) : zM la G X yX5_reachFrom (.code yX5_reachFrom cX5_reachFrom 3 (some .int) :: zT) 3 0 0 [.ref w, .int (iI c), .int (iI r)] L f zeI (zRd L f (fun z => z = spReach (κ 0 (20 * r + c)))) := by
  refine zM_intro hX (by decide) (Nat.le_of_ble_eq_true rfl) (fun pZ eZ sZ mZ aZ bZ hZ cZ AZ C hini => ?_)
  change ZW G pZ la eZ (zRm 3 0 0) sZ mZ aZ bZ hZ cZ AZ 3 0 0 _ L f 0 [(0, .ref w), (1, .int (iI c)), (2, .int (iI r))] []
  refine z_aload_n C 0 dX5_reachFrom_0 rfl ?_
  refine z_iload_n C 1 dX5_reachFrom_1 rfl ?_
  refine z_iload_n C 2 dX5_reachFrom_2 rfl ?_
  refine z_cV (As := [.int (iI c), .int (iI r)]) C zc_X5_floorIn (c_floorIn hX hS c r (by omega) (by omega)) zl_4_53 (Nat.le_of_ble_eq_true rfl) (Nat.le_of_ble_eq_true rfl) (Nat.le_of_ble_eq_true rfl) (hS.1.1) (hS.1.2) rfl rfl rfl rfl (Nat.le_of_ble_eq_true rfl) dX5_reachFrom_3 (fun z1 L2 f3 hz4 => ?_)
  obtain ⟨hz4, rfl, rfl⟩ := hz4
  subst hz4
  have hv1 : zrd 240 20 (κ 0) (zcell c r) = κ 0 (20 * r + c) := by rw [zcell_in (by omega), zrd_in (by omega)]
  have hv2 := hK.1 (20 * r + c) (by omega) (by omega)
  change ZW G pZ la eZ (zRm 3 0 0) sZ mZ aZ bZ hZ cZ AZ 3 0 0 _ L f 6 [(0, .ref w), (1, .int (iI c)), (2, .int (iI r))] [.int (iI (zrd 240 20 (κ 0) (zcell c r)))]
  refine z_bipush C dX5_reachFrom_6 (by decide) ?_
  refine z_idivP C dX5_reachFrom_8 (by omega) (by omega) ?_
  refine z_iconst C dX5_reachFrom_9 ?_
  refine z_mmin C zl_4_57 (Nat.le_of_ble_eq_true rfl) (Nat.le_of_ble_eq_true rfl) (Nat.le_of_ble_eq_true rfl) (by omega) (by omega) (Nat.le_of_ble_eq_true rfl) dX5_reachFrom_10 (fun w5 hw6 => ?_)
  exact z_ireturn C dX5_reachFrom_13 (Nat.le_of_ble_eq_true rfl) (Nat.le_of_ble_eq_true rfl) ⟨by unfold spReach; split <;> omega, rfl, rfl⟩
