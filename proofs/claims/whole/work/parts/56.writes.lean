theorem zwr_in {n : Nat} {σ : Int → Int} {i x : Int} (h : 0 ≤ i ∧ i < n) : zwr n σ i x = zup σ i x := if_pos h
theorem zfl_fill (σ : Int → Int) (g c e x : Int) (j : Int) : zfill (fun j => σ (240 * g + j)) c e x j = zfill σ (240 * g + c) (240 * g + e) x (240 * g + j) := by
  unfold zfill
  by_cases q : c ≤ j ∧ j < e
  · rw [if_pos q, if_pos (by omega)]
  · rw [if_neg q, if_neg (by omega)]
theorem zfl_fillN (μ : zMu) {gn : Nat} {g c e a b x : Int} (hg : (gn : Int) = g) (ha : a = 240 * g + c) (hb : b = 240 * g + e) (j : Int) : zfill (zfl μ gn) c e x j = zfill (μ 11) a b x (240 * (gn : Int) + j) := by
  rw [ha, hb, ← hg]
  exact zfl_fill (μ 11) gn c e x j
theorem zfill_out {σ : Int → Int} {a b x j : Int} (h : ¬ (a ≤ j ∧ j < b)) : zfill σ a b x j = σ j := if_neg h

set_option maxRecDepth 100000 in
set_option maxHeartbeats 200000 in
theorem c_setFloor {la : Launch} {G : zG} {X : (Nat → Prop) → State → Prop} (hX : zX X) (h4 : zT4 X) (hfl : la.stackTraces = false) {L : List Nat} {f : Nat → va_E} {o : Nat} {ω : Nat → Nat → Nat} {μ : zMu} (hR : SRC G L f o ω μ) (c r x : Int) (hI : MI μ) (hK : MK μ) (hc : zR c) (hr : zR r) (hx : zR x) : zMX la G X yX6_setFloor (.code yX6_setFloor cX6_setFloor 4 (some .int) :: zT) 8 8 48 [.ref o, .int (iI c), .int (iI r), .int (iI x)] L f zeI (CR G o (o_setFloor μ c r x)) (CX G o ["java/lang/IndexOutOfBoundsException", "java/lang/IllegalArgumentException"] (o_setFloor μ c r x)) := by
  refine zMX_intro hX (by decide) (Nat.le_of_ble_eq_true rfl) (fun pZ eZ sZ mZ aZ bZ hZ cZ AZ C hnt => ?_)
  change ZW G pZ la eZ (zRm 8 8 48) sZ mZ aZ bZ hZ cZ AZ 4 0 0 _ L f 0 [(0, .ref o), (1, .int (iI c)), (2, .int (iI r)), (3, .int (iI x))] []
  have hNO : zNO = -2147483648 := rfl
  have hn := hI.n
  have hSK : zSK (zK μ) := MJ_SK hI.J
  have hBl : ∀ j : Nat, (j : Int) < μ 2 0 → zLB μ j := fun j hj => hI.J.b12 j (by omega) (by omega)
  have hC0 : CSx G L f o μ := ⟨ω, hR, hI, hK⟩
  have hu := spChart_r hI
  refine z_iload_n C 1 dX6_setFloor_0 rfl ?_
  refine z_iload_n C 2 dX6_setFloor_1 rfl ?_
  refine z_cSX (As := [.int (iI c), .int (iI r)]) C zc_X6_requireCell (c_reqCell hX h4 hfl c r (by omega) (by omega)) zl_2_203 (Nat.le_of_ble_eq_true rfl) (Nat.le_of_ble_eq_true rfl) (Nat.le_of_ble_eq_true rfl) rfl rfl (Nat.le_of_ble_eq_true rfl) dX6_setFloor_2 (fun E L9 f9 hxE => z_xout C hnt (Nat.le_of_ble_eq_true rfl) (Nat.le_of_ble_eq_true rfl) (by obtain ⟨rfl, hx, rfl, rfl⟩ := hxE; exact CX_mk (j := 1) (v := 0) (μ' := μ) (by unfold o_setFloor; (repeat (first | rw [if_pos (by omega)] | rw [if_neg (by omega)]))) (by decide) rfl hC0)) (fun z2 L3 f4 hz5 => ?_)
  obtain ⟨hq1, rfl, rfl⟩ := hz5
  change ZW G pZ la eZ (zRm 8 8 48) sZ mZ aZ bZ hZ cZ AZ 4 1 6 _ L f 5 [(0, .ref o), (1, .int (iI c)), (2, .int (iI r)), (3, .int (iI x))] []
  refine z_iload_n C 3 dX6_setFloor_5 rfl ?_
  refine z_iconst C dX6_setFloor_6 ?_
  refine z_icmp_lt C 16 dX6_setFloor_7 (by decide) (by omega) (by omega) (fun h7 => ?_) (fun h7 => ?_)
  · exact z_throwS C h4 hfl hnt (by decide +kernel) zl_2_220 zl_1_17 (List.mem_of_getElem? (i := 1) rfl) zthwIAE zthgIAE dX6_setFloor_16 dX6_setFloor_19 dX6_setFloor_20 dX6_setFloor_22 dX6_setFloor_25 (Nat.le_of_ble_eq_true rfl) (Nat.le_of_ble_eq_true rfl) (Nat.le_of_ble_eq_true rfl) (Nat.le_of_ble_eq_true rfl) (CX_mk (j := 2) (v := 0) (μ' := μ) (by unfold o_setFloor; (repeat (first | rw [if_pos (by omega)] | rw [if_neg (by omega)]))) (by decide) rfl hC0)
  · refine z_iload_n C 3 dX6_setFloor_10 rfl ?_
    refine z_bipush C dX6_setFloor_11 (by decide) ?_
    refine z_icmp_le C 26 dX6_setFloor_13 (by decide) (by omega) (by omega) (fun h13 => ?_) (fun h13 => ?_)
    · refine z_aload_n C 0 dX6_setFloor_26 rfl ?_
      refine z_getf C 0 zin_X6 (hR.ob.1) (hR.ob.2) rfl (Nat.le_of_ble_eq_true rfl) zl_1_139 rfl rfl dX6_setFloor_27 ?_
      refine z_iload_n C 1 dX6_setFloor_30 rfl ?_
      refine z_iload_n C 2 dX6_setFloor_31 rfl ?_
      refine z_iload_n C 3 dX6_setFloor_32 rfl ?_
      refine z_cV (As := [.int (iI c), .int (iI r), .int (iI x)]) C zc_X5_putFloor (c_putFloor hX hR.sea c r x (by omega) (by omega) (by omega)) zl_2_236 (Nat.le_of_ble_eq_true rfl) (Nat.le_of_ble_eq_true rfl) (Nat.le_of_ble_eq_true rfl) (hR.sea.1.1) (hR.sea.1.2) rfl rfl rfl rfl (Nat.le_of_ble_eq_true rfl) dX6_setFloor_33 (fun z8 L9 f10 hz11 => ?_)
      obtain ⟨rfl, hpa6, hpk7, hpz⟩ := hz11
      rw [zcell_on (by unfold zOn; omega), zwr_in (by omega)] at hpa6
      rw [zcell_on (by unfold zOn; omega), zrd_in (by omega)] at hpz
      have hR12 : SR G L f10 o ω (zset μ 4 (zup (μ 4) (20 * r + c) x)) (spChart μ) (fun l => zrl μ l) (spTx μ) := SR_ws0 hR hn.2.1 hpa6 hpk7
      have hI2 : MI (zset μ 4 (zup (μ 4) (20 * r + c) x)) := MI_4 hI (by omega)
      have hK2 : MK (zset μ 4 (zup (μ 4) (20 * r + c) x)) := hK
      have hm1 : (zset μ 4 (zup (μ 4) (20 * r + c) x)) 1 0 = μ 1 0 := rfl
      have hm2 : (zset μ 4 (zup (μ 4) (20 * r + c) x)) 2 0 = μ 2 0 := rfl
      change ZW G pZ la eZ (zRm 8 8 48) sZ mZ aZ bZ hZ cZ AZ 4 1 6 _ L f10 36 [(0, .ref o), (1, .int (iI c)), (2, .int (iI r)), (3, .int (iI x))] [.int (iI z8)]
      refine z_xr ?_
      exact z_ireturn C dX6_setFloor_36 (Nat.le_of_ble_eq_true rfl) (Nat.le_of_ble_eq_true rfl) (CR_mk (v := μ 4 (20 * r + c)) (μ' := (zset μ 4 (zup (μ 4) (20 * r + c) x))) (by unfold o_setFloor; (repeat (first | rw [if_pos (by omega)] | rw [if_neg (by omega)]))) hpz ⟨ω, SRC_4 hR12, hI2, hK2⟩)
    · exact z_throwS C h4 hfl hnt (by decide +kernel) zl_2_220 zl_1_17 (List.mem_of_getElem? (i := 1) rfl) zthwIAE zthgIAE dX6_setFloor_16 dX6_setFloor_19 dX6_setFloor_20 dX6_setFloor_22 dX6_setFloor_25 (Nat.le_of_ble_eq_true rfl) (Nat.le_of_ble_eq_true rfl) (Nat.le_of_ble_eq_true rfl) (Nat.le_of_ble_eq_true rfl) (CX_mk (j := 2) (v := 0) (μ' := μ) (by unfold o_setFloor; (repeat (first | rw [if_pos (by omega)] | rw [if_neg (by omega)]))) (by decide) rfl hC0)

set_option maxRecDepth 100000 in
set_option maxHeartbeats 200000 in
theorem c_setWeather {la : Launch} {G : zG} {X : (Nat → Prop) → State → Prop} (hX : zX X) (h4 : zT4 X) (hfl : la.stackTraces = false) {L : List Nat} {f : Nat → va_E} {o : Nat} {ω : Nat → Nat → Nat} {μ : zMu} (hR : SRC G L f o ω μ) (d x : Int) (hI : MI μ) (hK : MK μ) (hd : zR d) (hx : zR x) : zMX la G X yX6_setWeather (.code yX6_setWeather cX6_setWeather 3 (some .int) :: zT) 8 8 48 [.ref o, .int (iI d), .int (iI x)] L f zeI (CR G o (o_setWeather μ d x)) (CX G o ["java/lang/IndexOutOfBoundsException", "java/lang/IllegalArgumentException"] (o_setWeather μ d x)) := by
  refine zMX_intro hX (by decide) (Nat.le_of_ble_eq_true rfl) (fun pZ eZ sZ mZ aZ bZ hZ cZ AZ C hnt => ?_)
  change ZW G pZ la eZ (zRm 8 8 48) sZ mZ aZ bZ hZ cZ AZ 3 0 0 _ L f 0 [(0, .ref o), (1, .int (iI d)), (2, .int (iI x))] []
  have hNO : zNO = -2147483648 := rfl
  have hn := hI.n
  have hSK : zSK (zK μ) := MJ_SK hI.J
  have hBl : ∀ j : Nat, (j : Int) < μ 2 0 → zLB μ j := fun j hj => hI.J.b12 j (by omega) (by omega)
  have hC0 : CSx G L f o μ := ⟨ω, hR, hI, hK⟩
  have hu := spChart_r hI
  refine z_iload_n C 1 dX6_setWeather_0 rfl ?_
  refine z_cSX (As := [.int (iI d)]) C zc_X6_requireDay (c_reqDay hX h4 hfl d (by omega)) zl_3_51 (Nat.le_of_ble_eq_true rfl) (Nat.le_of_ble_eq_true rfl) (Nat.le_of_ble_eq_true rfl) rfl rfl (Nat.le_of_ble_eq_true rfl) dX6_setWeather_1 (fun E L9 f9 hxE => z_xout C hnt (Nat.le_of_ble_eq_true rfl) (Nat.le_of_ble_eq_true rfl) (by obtain ⟨rfl, hx, rfl, rfl⟩ := hxE; exact CX_mk (j := 1) (v := 0) (μ' := μ) (by unfold o_setWeather; (repeat (first | rw [if_pos (by omega)] | rw [if_neg (by omega)]))) (by decide) rfl hC0)) (fun z2 L3 f4 hz5 => ?_)
  obtain ⟨hq1, rfl, rfl⟩ := hz5
  change ZW G pZ la eZ (zRm 8 8 48) sZ mZ aZ bZ hZ cZ AZ 3 1 6 _ L f 4 [(0, .ref o), (1, .int (iI d)), (2, .int (iI x))] []
  refine z_iload_n C 2 dX6_setWeather_4 rfl ?_
  refine z_if_lt C 14 dX6_setWeather_5 (by decide) (by omega) (fun h5 => ?_) (fun h5 => ?_)
  · exact z_throwS C h4 hfl hnt (by decide +kernel) zl_2_220 zl_1_17 (List.mem_of_getElem? (i := 7) rfl) zthwIAE zthgIAE dX6_setWeather_14 dX6_setWeather_17 dX6_setWeather_18 dX6_setWeather_20 dX6_setWeather_23 (Nat.le_of_ble_eq_true rfl) (Nat.le_of_ble_eq_true rfl) (Nat.le_of_ble_eq_true rfl) (Nat.le_of_ble_eq_true rfl) (CX_mk (j := 2) (v := 0) (μ' := μ) (by unfold o_setWeather; (repeat (first | rw [if_pos (by omega)] | rw [if_neg (by omega)]))) (by decide) rfl hC0)
  · refine z_iload_n C 2 dX6_setWeather_8 rfl ?_
    refine z_bipush C dX6_setWeather_9 (by decide) ?_
    refine z_icmp_le C 24 dX6_setWeather_11 (by decide) (by omega) (by omega) (fun h11 => ?_) (fun h11 => ?_)
    · refine z_aload_n C 0 dX6_setWeather_24 rfl ?_
      refine z_getf C 0 zin_X6 (hR.ob.1) (hR.ob.2) rfl (Nat.le_of_ble_eq_true rfl) zl_1_139 rfl rfl dX6_setWeather_25 ?_
      refine z_iload_n C 1 dX6_setWeather_28 rfl ?_
      refine z_iload_n C 2 dX6_setWeather_29 rfl ?_
      refine z_cV (As := [.int (iI d), .int (iI x)]) C zc_X5_putForce (c_putForce hX hR.sea d x (by omega) (by omega)) zl_3_80 (Nat.le_of_ble_eq_true rfl) (Nat.le_of_ble_eq_true rfl) (Nat.le_of_ble_eq_true rfl) (hR.sea.1.1) (hR.sea.1.2) rfl rfl rfl rfl (Nat.le_of_ble_eq_true rfl) dX6_setWeather_30 (fun z8 L9 f10 hz11 => ?_)
      obtain ⟨rfl, hpa6, hpk7, hpz⟩ := hz11
      rw [zwr_in (by omega)] at hpa6
      rw [zrd_in (by omega)] at hpz
      have hR12 : SR G L f10 o ω (zset μ 7 (zup (μ 7) (d) x)) (spChart μ) (fun l => zrl μ l) (spTx μ) := SR_ws3 hR hn.2.1 hpa6 hpk7
      have hI2 : MI (zset μ 7 (zup (μ 7) (d) x)) := MI_7 hI (by omega)
      have hK2 : MK (zset μ 7 (zup (μ 7) (d) x)) := hK
      have hm1 : (zset μ 7 (zup (μ 7) (d) x)) 1 0 = μ 1 0 := rfl
      have hm2 : (zset μ 7 (zup (μ 7) (d) x)) 2 0 = μ 2 0 := rfl
      change ZW G pZ la eZ (zRm 8 8 48) sZ mZ aZ bZ hZ cZ AZ 3 1 6 _ L f10 33 [(0, .ref o), (1, .int (iI d)), (2, .int (iI x))] [.int (iI z8)]
      refine z_xr ?_
      exact z_ireturn C dX6_setWeather_33 (Nat.le_of_ble_eq_true rfl) (Nat.le_of_ble_eq_true rfl) (CR_mk (v := μ 7 d) (μ' := (zset μ 7 (zup (μ 7) (d) x))) (by unfold o_setWeather; (repeat (first | rw [if_pos (by omega)] | rw [if_neg (by omega)]))) hpz ⟨ω, SRC_7 hR12, hI2, hK2⟩)
    · exact z_throwS C h4 hfl hnt (by decide +kernel) zl_2_220 zl_1_17 (List.mem_of_getElem? (i := 7) rfl) zthwIAE zthgIAE dX6_setWeather_14 dX6_setWeather_17 dX6_setWeather_18 dX6_setWeather_20 dX6_setWeather_23 (Nat.le_of_ble_eq_true rfl) (Nat.le_of_ble_eq_true rfl) (Nat.le_of_ble_eq_true rfl) (Nat.le_of_ble_eq_true rfl) (CX_mk (j := 2) (v := 0) (μ' := μ) (by unfold o_setWeather; (repeat (first | rw [if_pos (by omega)] | rw [if_neg (by omega)]))) (by decide) rfl hC0)

set_option maxRecDepth 100000 in
set_option maxHeartbeats 200000 in
theorem c_setWater {la : Launch} {G : zG} {X : (Nat → Prop) → State → Prop} (hX : zX X) (h4 : zT4 X) (hfl : la.stackTraces = false) {L : List Nat} {f : Nat → va_E} {o : Nat} {ω : Nat → Nat → Nat} {μ : zMu} (hR : SRC G L f o ω μ) (d h x : Int) (hI : MI μ) (hK : MK μ) (hd : zR d) (hh : zR h) (hx : zR x) : zMX la G X yX6_setWater (.code yX6_setWater cX6_setWater 5 (some .int) :: zT) 8 8 48 [.ref o, .int (iI d), .int (iI h), .int (iI x)] L f zeI (CR G o (o_setWater μ d h x)) (CX G o ["java/lang/IndexOutOfBoundsException", "java/lang/IllegalArgumentException"] (o_setWater μ d h x)) := by
  refine zMX_intro hX (by decide) (Nat.le_of_ble_eq_true rfl) (fun pZ eZ sZ mZ aZ bZ hZ cZ AZ C hnt => ?_)
  change ZW G pZ la eZ (zRm 8 8 48) sZ mZ aZ bZ hZ cZ AZ 5 0 0 _ L f 0 [(0, .ref o), (1, .int (iI d)), (2, .int (iI h)), (3, .int (iI x))] []
  have hNO : zNO = -2147483648 := rfl
  have hn := hI.n
  have hSK : zSK (zK μ) := MJ_SK hI.J
  have hBl : ∀ j : Nat, (j : Int) < μ 2 0 → zLB μ j := fun j hj => hI.J.b12 j (by omega) (by omega)
  have hC0 : CSx G L f o μ := ⟨ω, hR, hI, hK⟩
  have hu := spChart_r hI
  refine z_iload_n C 1 dX6_setWater_0 rfl ?_
  refine z_iload_n C 2 dX6_setWater_1 rfl ?_
  refine z_cSX (As := [.int (iI d), .int (iI h)]) C zc_X6_requireHour (c_reqHour hX h4 hfl d h (by omega) (by omega)) zl_3_9 (Nat.le_of_ble_eq_true rfl) (Nat.le_of_ble_eq_true rfl) (Nat.le_of_ble_eq_true rfl) rfl rfl (Nat.le_of_ble_eq_true rfl) dX6_setWater_2 (fun E L9 f9 hxE => z_xout C hnt (Nat.le_of_ble_eq_true rfl) (Nat.le_of_ble_eq_true rfl) (by obtain ⟨rfl, hx, rfl, rfl⟩ := hxE; exact CX_mk (j := 1) (v := 0) (μ' := μ) (by unfold o_setWater; (repeat (first | rw [if_pos (by omega)] | rw [if_neg (by omega)]))) (by decide) rfl hC0)) (fun z2 L3 f4 hz5 => ?_)
  obtain ⟨hq1, rfl, rfl⟩ := hz5
  change ZW G pZ la eZ (zRm 8 8 48) sZ mZ aZ bZ hZ cZ AZ 5 1 6 _ L f 5 [(0, .ref o), (1, .int (iI d)), (2, .int (iI h)), (3, .int (iI x))] []
  refine z_iload_n C 3 dX6_setWater_5 rfl ?_
  refine z_if_lt C 15 dX6_setWater_6 (by decide) (by omega) (fun h6 => ?_) (fun h6 => ?_)
  · exact z_throwS C h4 hfl hnt (by decide +kernel) zl_2_220 zl_1_17 (List.mem_of_getElem? (i := 3) rfl) zthwIAE zthgIAE dX6_setWater_15 dX6_setWater_18 dX6_setWater_19 dX6_setWater_21 dX6_setWater_24 (Nat.le_of_ble_eq_true rfl) (Nat.le_of_ble_eq_true rfl) (Nat.le_of_ble_eq_true rfl) (Nat.le_of_ble_eq_true rfl) (CX_mk (j := 2) (v := 0) (μ' := μ) (by unfold o_setWater; (repeat (first | rw [if_pos (by omega)] | rw [if_neg (by omega)]))) (by decide) rfl hC0)
  · refine z_iload_n C 3 dX6_setWater_9 rfl ?_
    refine z_bipush C dX6_setWater_10 (by decide) ?_
    refine z_icmp_le C 25 dX6_setWater_12 (by decide) (by omega) (by omega) (fun h12 => ?_) (fun h12 => ?_)
    · refine z_aload_n C 0 dX6_setWater_25 rfl ?_
      refine z_getf C 0 zin_X6 (hR.ob.1) (hR.ob.2) rfl (Nat.le_of_ble_eq_true rfl) zl_1_139 rfl rfl dX6_setWater_26 ?_
      refine z_iload_n C 1 dX6_setWater_29 rfl ?_
      refine z_iload_n C 2 dX6_setWater_30 rfl ?_
      refine z_iload_n C 3 dX6_setWater_31 rfl ?_
      refine z_cV (As := [.int (iI d), .int (iI h), .int (iI x)]) C zc_X5_putHeight (c_putHeight hX hR.sea d h x (by omega) (by omega) (by omega)) zl_3_15 (Nat.le_of_ble_eq_true rfl) (Nat.le_of_ble_eq_true rfl) (Nat.le_of_ble_eq_true rfl) (hR.sea.1.1) (hR.sea.1.2) rfl rfl rfl rfl (Nat.le_of_ble_eq_true rfl) dX6_setWater_32 (fun z8 L9 f10 hz11 => ?_)
      obtain ⟨rfl, hpa6, hpk7, hpz⟩ := hz11
      rw [zhour_in (by omega), zwr_in (by omega)] at hpa6
      rw [zhour_in (by omega), zrd_in (by omega)] at hpz
      have hR12 : SR G L f10 o ω (zset μ 5 (zup (μ 5) (24 * d + h) x)) (spChart μ) (fun l => zrl μ l) (spTx μ) := SR_ws1 hR hn.2.1 hpa6 hpk7
      have hI2 : MI (zset μ 5 (zup (μ 5) (24 * d + h) x)) := MI_5 hI (by omega)
      have hK2 : MK (zset μ 5 (zup (μ 5) (24 * d + h) x)) := hK
      have hm1 : (zset μ 5 (zup (μ 5) (24 * d + h) x)) 1 0 = μ 1 0 := rfl
      have hm2 : (zset μ 5 (zup (μ 5) (24 * d + h) x)) 2 0 = μ 2 0 := rfl
      change ZW G pZ la eZ (zRm 8 8 48) sZ mZ aZ bZ hZ cZ AZ 5 1 6 _ L f10 35 [(0, .ref o), (1, .int (iI d)), (2, .int (iI h)), (3, .int (iI x))] [.int (iI z8)]
      refine z_istore (ls' := [(4, .int (iI z8)), (0, .ref o), (1, .int (iI d)), (2, .int (iI h)), (3, .int (iI x))]) C dX6_setWater_35 (Nat.le_of_ble_eq_true rfl) rfl ?_
      refine z_aload_n C 1 dX6_setWater_37 rfl ?_
      refine z_cV (As := []) C zc_X6_refresh (c_refresh hX hR12 hI2 hK2 (zrd0_r μ)) zl_3_19 (Nat.le_of_ble_eq_true rfl) (Nat.le_of_ble_eq_true rfl) (Nat.le_of_ble_eq_true rfl) (hR12.ob.1) (hR12.ob.2) rfl rfl rfl rfl (Nat.le_of_ble_eq_true rfl) dX6_setWater_38 (fun z14 L15 f16 hz17 => ?_)
      obtain ⟨rfl, hR13⟩ := hz17
      change ZW G pZ la eZ (zRm 8 8 48) sZ mZ aZ bZ hZ cZ AZ 5 1 6 _ L f16 41 [(4, .int (iI z8)), (0, .ref o), (1, .int (iI d)), (2, .int (iI h)), (3, .int (iI x))] []
      refine z_iload C 0 dX6_setWater_41 rfl ?_
      refine z_xr ?_
      exact z_ireturn C dX6_setWater_43 (Nat.le_of_ble_eq_true rfl) (Nat.le_of_ble_eq_true rfl) (CR_mk (v := μ 5 (24 * d + h)) (μ' := (zset μ 5 (zup (μ 5) (24 * d + h) x))) (by unfold o_setWater; (repeat (first | rw [if_pos (by omega)] | rw [if_neg (by omega)]))) hpz ⟨ω, hR13, hI2, hK2⟩)
    · exact z_throwS C h4 hfl hnt (by decide +kernel) zl_2_220 zl_1_17 (List.mem_of_getElem? (i := 3) rfl) zthwIAE zthgIAE dX6_setWater_15 dX6_setWater_18 dX6_setWater_19 dX6_setWater_21 dX6_setWater_24 (Nat.le_of_ble_eq_true rfl) (Nat.le_of_ble_eq_true rfl) (Nat.le_of_ble_eq_true rfl) (Nat.le_of_ble_eq_true rfl) (CX_mk (j := 2) (v := 0) (μ' := μ) (by unfold o_setWater; (repeat (first | rw [if_pos (by omega)] | rw [if_neg (by omega)]))) (by decide) rfl hC0)

set_option maxRecDepth 100000 in
set_option maxHeartbeats 200000 in
theorem c_setSlope {la : Launch} {G : zG} {X : (Nat → Prop) → State → Prop} (hX : zX X) (h4 : zT4 X) (hfl : la.stackTraces = false) {L : List Nat} {f : Nat → va_E} {o : Nat} {ω : Nat → Nat → Nat} {μ : zMu} (hR : SRC G L f o ω μ) (d x : Int) (hI : MI μ) (hK : MK μ) (hd : zR d) (hx : zR x) : zMX la G X yX6_setSlope (.code yX6_setSlope cX6_setSlope 4 (some .int) :: zT) 8 8 48 [.ref o, .int (iI d), .int (iI x)] L f zeI (CR G o (o_setSlope μ d x)) (CX G o ["java/lang/IndexOutOfBoundsException", "java/lang/IllegalArgumentException"] (o_setSlope μ d x)) := by
  refine zMX_intro hX (by decide) (Nat.le_of_ble_eq_true rfl) (fun pZ eZ sZ mZ aZ bZ hZ cZ AZ C hnt => ?_)
  change ZW G pZ la eZ (zRm 8 8 48) sZ mZ aZ bZ hZ cZ AZ 4 0 0 _ L f 0 [(0, .ref o), (1, .int (iI d)), (2, .int (iI x))] []
  have hNO : zNO = -2147483648 := rfl
  have hn := hI.n
  have hSK : zSK (zK μ) := MJ_SK hI.J
  have hBl : ∀ j : Nat, (j : Int) < μ 2 0 → zLB μ j := fun j hj => hI.J.b12 j (by omega) (by omega)
  have hC0 : CSx G L f o μ := ⟨ω, hR, hI, hK⟩
  have hu := spChart_r hI
  refine z_iload_n C 1 dX6_setSlope_0 rfl ?_
  refine z_cSX (As := [.int (iI d)]) C zc_X6_requireDay (c_reqDay hX h4 hfl d (by omega)) zl_3_51 (Nat.le_of_ble_eq_true rfl) (Nat.le_of_ble_eq_true rfl) (Nat.le_of_ble_eq_true rfl) rfl rfl (Nat.le_of_ble_eq_true rfl) dX6_setSlope_1 (fun E L9 f9 hxE => z_xout C hnt (Nat.le_of_ble_eq_true rfl) (Nat.le_of_ble_eq_true rfl) (by obtain ⟨rfl, hx, rfl, rfl⟩ := hxE; exact CX_mk (j := 1) (v := 0) (μ' := μ) (by unfold o_setSlope; (repeat (first | rw [if_pos (by omega)] | rw [if_neg (by omega)]))) (by decide) rfl hC0)) (fun z2 L3 f4 hz5 => ?_)
  obtain ⟨hq1, rfl, rfl⟩ := hz5
  change ZW G pZ la eZ (zRm 8 8 48) sZ mZ aZ bZ hZ cZ AZ 4 1 6 _ L f 4 [(0, .ref o), (1, .int (iI d)), (2, .int (iI x))] []
  refine z_iload_n C 2 dX6_setSlope_4 rfl ?_
  refine z_bipush C dX6_setSlope_5 (by decide) ?_
  refine z_icmp_lt C 15 dX6_setSlope_7 (by decide) (by omega) (by omega) (fun h7 => ?_) (fun h7 => ?_)
  · exact z_throwS C h4 hfl hnt (by decide +kernel) zl_2_220 zl_1_17 (List.mem_of_getElem? (i := 5) rfl) zthwIAE zthgIAE dX6_setSlope_15 dX6_setSlope_18 dX6_setSlope_19 dX6_setSlope_21 dX6_setSlope_24 (Nat.le_of_ble_eq_true rfl) (Nat.le_of_ble_eq_true rfl) (Nat.le_of_ble_eq_true rfl) (Nat.le_of_ble_eq_true rfl) (CX_mk (j := 2) (v := 0) (μ' := μ) (by unfold o_setSlope; (repeat (first | rw [if_pos (by omega)] | rw [if_neg (by omega)]))) (by decide) rfl hC0)
  · refine z_iload_n C 2 dX6_setSlope_10 rfl ?_
    refine z_iconst C dX6_setSlope_11 ?_
    refine z_icmp_le C 25 dX6_setSlope_12 (by decide) (by omega) (by omega) (fun h12 => ?_) (fun h12 => ?_)
    · refine z_aload_n C 0 dX6_setSlope_25 rfl ?_
      refine z_getf C 0 zin_X6 (hR.ob.1) (hR.ob.2) rfl (Nat.le_of_ble_eq_true rfl) zl_1_139 rfl rfl dX6_setSlope_26 ?_
      refine z_iload_n C 1 dX6_setSlope_29 rfl ?_
      refine z_iload_n C 2 dX6_setSlope_30 rfl ?_
      refine z_cV (As := [.int (iI d), .int (iI x)]) C zc_X5_putSlope (c_putSlope hX hR.sea d x (by omega) (by omega)) zl_3_56 (Nat.le_of_ble_eq_true rfl) (Nat.le_of_ble_eq_true rfl) (Nat.le_of_ble_eq_true rfl) (hR.sea.1.1) (hR.sea.1.2) rfl rfl rfl rfl (Nat.le_of_ble_eq_true rfl) dX6_setSlope_31 (fun z8 L9 f10 hz11 => ?_)
      obtain ⟨rfl, hpa6, hpk7, hpz⟩ := hz11
      rw [zwr_in (by omega)] at hpa6
      rw [zrd_in (by omega)] at hpz
      have hR12 : SR G L f10 o ω (zset μ 6 (zup (μ 6) (d) x)) (spChart μ) (fun l => zrl μ l) (spTx μ) := SR_ws2 hR hn.2.1 hpa6 hpk7
      have hI2 : MI (zset μ 6 (zup (μ 6) (d) x)) := MI_6 hI (by omega)
      have hK2 : MK (zset μ 6 (zup (μ 6) (d) x)) := hK
      have hm1 : (zset μ 6 (zup (μ 6) (d) x)) 1 0 = μ 1 0 := rfl
      have hm2 : (zset μ 6 (zup (μ 6) (d) x)) 2 0 = μ 2 0 := rfl
      change ZW G pZ la eZ (zRm 8 8 48) sZ mZ aZ bZ hZ cZ AZ 4 1 6 _ L f10 34 [(0, .ref o), (1, .int (iI d)), (2, .int (iI x))] [.int (iI z8)]
      refine z_istore_n (ls' := [(3, .int (iI z8)), (0, .ref o), (1, .int (iI d)), (2, .int (iI x))]) C dX6_setSlope_34 (Nat.le_of_ble_eq_true rfl) rfl ?_
      refine z_aload_n C 1 dX6_setSlope_35 rfl ?_
      refine z_cV (As := []) C zc_X6_refresh (c_refresh hX hR12 hI2 hK2 (zrd0_r μ)) zl_3_19 (Nat.le_of_ble_eq_true rfl) (Nat.le_of_ble_eq_true rfl) (Nat.le_of_ble_eq_true rfl) (hR12.ob.1) (hR12.ob.2) rfl rfl rfl rfl (Nat.le_of_ble_eq_true rfl) dX6_setSlope_36 (fun z14 L15 f16 hz17 => ?_)
      obtain ⟨rfl, hR13⟩ := hz17
      change ZW G pZ la eZ (zRm 8 8 48) sZ mZ aZ bZ hZ cZ AZ 4 1 6 _ L f16 39 [(3, .int (iI z8)), (0, .ref o), (1, .int (iI d)), (2, .int (iI x))] []
      refine z_iload_n C 0 dX6_setSlope_39 rfl ?_
      refine z_xr ?_
      exact z_ireturn C dX6_setSlope_40 (Nat.le_of_ble_eq_true rfl) (Nat.le_of_ble_eq_true rfl) (CR_mk (v := μ 6 d) (μ' := (zset μ 6 (zup (μ 6) (d) x))) (by unfold o_setSlope; (repeat (first | rw [if_pos (by omega)] | rw [if_neg (by omega)]))) hpz ⟨ω, hR13, hI2, hK2⟩)
    · exact z_throwS C h4 hfl hnt (by decide +kernel) zl_2_220 zl_1_17 (List.mem_of_getElem? (i := 5) rfl) zthwIAE zthgIAE dX6_setSlope_15 dX6_setSlope_18 dX6_setSlope_19 dX6_setSlope_21 dX6_setSlope_24 (Nat.le_of_ble_eq_true rfl) (Nat.le_of_ble_eq_true rfl) (Nat.le_of_ble_eq_true rfl) (Nat.le_of_ble_eq_true rfl) (CX_mk (j := 2) (v := 0) (μ' := μ) (by unfold o_setSlope; (repeat (first | rw [if_pos (by omega)] | rw [if_neg (by omega)]))) (by decide) rfl hC0)

set_option maxRecDepth 100000 in
set_option maxHeartbeats 200000 in
theorem c_fail {la : Launch} {G : zG} {X : (Nat → Prop) → State → Prop} (hX : zX X) (h4 : zT4 X) (hfl : la.stackTraces = false) {L : List Nat} {f : Nat → va_E} {o : Nat} {ω : Nat → Nat → Nat} {μ : zMu} (hR : SRC G L f o ω μ) (g d h n : Int) (hI : MI μ) (hK : MK μ) (hg : zR g) (hd : zR d) (hh : zR h) (hn : zR n) : zMX la G X yX6_fail (.code yX6_fail cX6_fail 6 (some .int) :: zT) 8 8 48 [.ref o, .int (iI g), .int (iI d), .int (iI h), .int (iI n)] L f zeI (CR G o (o_fail μ g d h n)) (CX G o ["java/util/NoSuchElementException", "java/lang/IndexOutOfBoundsException", "java/lang/IllegalArgumentException"] (o_fail μ g d h n)) := by
  refine zMX_intro hX (by decide) (Nat.le_of_ble_eq_true rfl) (fun pZ eZ sZ mZ aZ bZ hZ cZ AZ C hnt => ?_)
  change ZW G pZ la eZ (zRm 8 8 48) sZ mZ aZ bZ hZ cZ AZ 6 0 0 _ L f 0 [(0, .ref o), (1, .int (iI g)), (2, .int (iI d)), (3, .int (iI h)), (4, .int (iI n))] []
  have hNO : zNO = -2147483648 := rfl
  have hn := hI.n
  have hSK : zSK (zK μ) := MJ_SK hI.J
  have hBl : ∀ j : Nat, (j : Int) < μ 2 0 → zLB μ j := fun j hj => hI.J.b12 j (by omega) (by omega)
  have hC0 : CSx G L f o μ := ⟨ω, hR, hI, hK⟩
  have hu := spChart_r hI
  refine z_aload_n C 0 dX6_fail_0 rfl ?_
  refine z_iload_n C 1 dX6_fail_1 rfl ?_
  refine z_cVX (As := [.int (iI g)]) C zc_X6_requireGauge (c_reqGauge hX h4 hfl hR g hI (by omega)) zl_3_158 (Nat.le_of_ble_eq_true rfl) (Nat.le_of_ble_eq_true rfl) (Nat.le_of_ble_eq_true rfl) (hR.ob.1) (hR.ob.2) rfl rfl rfl rfl (Nat.le_of_ble_eq_true rfl) dX6_fail_2 (fun E L9 f9 hxE => z_xout C hnt (Nat.le_of_ble_eq_true rfl) (Nat.le_of_ble_eq_true rfl) (by obtain ⟨rfl, hx, rfl, rfl⟩ := hxE; exact CX_mk (j := 1) (v := 0) (μ' := μ) (by unfold o_fail; (repeat (first | rw [if_pos (by omega)] | rw [if_neg (by omega)]))) (by decide) rfl hC0)) (fun z2 L3 f4 hz5 => ?_)
  obtain ⟨rfl, hq1, rfl, rfl⟩ := hz5
  have hgn : (((g).toNat : Nat) : Int) = g := Int.toNat_of_nonneg (by omega)
  change ZW G pZ la eZ (zRm 8 8 48) sZ mZ aZ bZ hZ cZ AZ 6 1 6 _ L f 5 [(0, .ref o), (1, .int (iI g)), (2, .int (iI d)), (3, .int (iI h)), (4, .int (iI n))] [.ref (ω 3 (g).toNat)]
  refine z_astore (ls' := [(5, .ref (ω 3 (g).toNat)), (0, .ref o), (1, .int (iI g)), (2, .int (iI d)), (3, .int (iI h)), (4, .int (iI n))]) C dX6_fail_5 (Nat.le_of_ble_eq_true rfl) rfl ?_
  refine z_iload_n C 3 dX6_fail_7 rfl ?_
  refine z_iload_n C 4 dX6_fail_8 rfl ?_
  refine z_cSX (As := [.int (iI d), .int (iI h)]) C zc_X6_requireHour (c_reqHour hX h4 hfl d h (by omega) (by omega)) zl_3_9 (Nat.le_of_ble_eq_true rfl) (Nat.le_of_ble_eq_true rfl) (Nat.le_of_ble_eq_true rfl) rfl rfl (Nat.le_of_ble_eq_true rfl) dX6_fail_9 (fun E L9 f9 hxE => z_xout C hnt (Nat.le_of_ble_eq_true rfl) (Nat.le_of_ble_eq_true rfl) (by obtain ⟨rfl, hx, rfl, rfl⟩ := hxE; exact CX_mk (j := 2) (v := 0) (μ' := μ) (by unfold o_fail; (repeat (first | rw [if_pos (by omega)] | rw [if_neg (by omega)]))) (by decide) rfl hC0)) (fun z7 L8 f9 hz10 => ?_)
  obtain ⟨hq6, rfl, rfl⟩ := hz10
  change ZW G pZ la eZ (zRm 8 8 48) sZ mZ aZ bZ hZ cZ AZ 6 2 12 _ L f 12 [(5, .ref (ω 3 (g).toNat)), (0, .ref o), (1, .int (iI g)), (2, .int (iI d)), (3, .int (iI h)), (4, .int (iI n))] []
  refine z_iload C 5 dX6_fail_12 rfl ?_
  refine z_iload_n C 4 dX6_fail_14 rfl ?_
  refine z_icmp_le C 25 dX6_fail_15 (by decide) (by omega) (by omega) (fun h15 => ?_) (fun h15 => ?_)
  · exact z_throwS C h4 hfl hnt (by decide +kernel) zl_2_220 zl_1_17 (List.mem_of_getElem? (i := 11) rfl) zthwIAE zthgIAE dX6_fail_25 dX6_fail_28 dX6_fail_29 dX6_fail_31 dX6_fail_34 (Nat.le_of_ble_eq_true rfl) (Nat.le_of_ble_eq_true rfl) (Nat.le_of_ble_eq_true rfl) (Nat.le_of_ble_eq_true rfl) (CX_mk (j := 3) (v := 0) (μ' := μ) (by unfold o_fail; (repeat (first | rw [if_pos (by omega)] | rw [if_neg (by omega)]))) (by decide) rfl hC0)
  · refine z_iload C 5 dX6_fail_18 rfl ?_
    refine z_bipush C dX6_fail_20 (by decide) ?_
    refine z_icmp_le C 35 dX6_fail_22 (by decide) (by omega) (by omega) (fun h22 => ?_) (fun h22 => ?_)
    · refine z_aload C 0 dX6_fail_35 rfl ?_
      refine z_iload_n C 3 dX6_fail_37 rfl ?_
      refine z_iload_n C 4 dX6_fail_38 rfl ?_
      refine z_iload C 5 dX6_fail_39 rfl ?_
      refine z_cV (As := [.int (iI d), .int (iI h), .int (iI n)]) C zc_X1_breakDown (c_breakDown hX (hR.gs.2.2 ((g).toNat) (by omega)) d h n (by omega) (by omega) (by omega)) zl_3_180 (Nat.le_of_ble_eq_true rfl) (Nat.le_of_ble_eq_true rfl) (Nat.le_of_ble_eq_true rfl) ((hR.gs.2.2 ((g).toNat) (by omega)).1.1) ((hR.gs.2.2 ((g).toNat) (by omega)).1.2) rfl rfl rfl rfl (Nat.le_of_ble_eq_true rfl) dX6_fail_41 (fun z13 L14 f15 hz16 => ?_)
      obtain ⟨rfl, hpa11, hpk12⟩ := hz16
      have hR17 : SR G L f15 o ω (zset μ 11 (zfill (μ 11) (240 * g + 24 * d + h) (240 * g + 24 * d + n) 1)) (spChart μ) (fun l => zrl μ l) (spTx μ) := SR_wg hR hn.2.1 (g := g.toNat) (by omega) hpa11 (fun j q0 q1 => zfl_fillN μ hgn (by omega) (by omega) j) (fun i j q0 q1 q2 q3 => (zfill_out (by omega)).symm) hpk12
      have hI2 : MI (zset μ 11 (zfill (μ 11) (240 * g + 24 * d + h) (240 * g + 24 * d + n) 1)) := MI_11 hI (by omega) (by omega)
      have hK2 : MK (zset μ 11 (zfill (μ 11) (240 * g + 24 * d + h) (240 * g + 24 * d + n) 1)) := hK
      have hm1 : (zset μ 11 (zfill (μ 11) (240 * g + 24 * d + h) (240 * g + 24 * d + n) 1)) 1 0 = μ 1 0 := rfl
      have hm2 : (zset μ 11 (zfill (μ 11) (240 * g + 24 * d + h) (240 * g + 24 * d + n) 1)) 2 0 = μ 2 0 := rfl
      change ZW G pZ la eZ (zRm 8 8 48) sZ mZ aZ bZ hZ cZ AZ 6 2 12 _ L f15 44 [(5, .ref (ω 3 (g).toNat)), (0, .ref o), (1, .int (iI g)), (2, .int (iI d)), (3, .int (iI h)), (4, .int (iI n))] []
      refine z_aload_n C 1 dX6_fail_44 rfl ?_
      refine z_cV (As := []) C zc_X6_refresh (c_refresh hX hR17 hI2 hK2 (zrd0_r μ)) zl_3_19 (Nat.le_of_ble_eq_true rfl) (Nat.le_of_ble_eq_true rfl) (Nat.le_of_ble_eq_true rfl) (hR17.ob.1) (hR17.ob.2) rfl rfl rfl rfl (Nat.le_of_ble_eq_true rfl) dX6_fail_45 (fun z19 L20 f21 hz22 => ?_)
      obtain ⟨rfl, hR18⟩ := hz22
      change ZW G pZ la eZ (zRm 8 8 48) sZ mZ aZ bZ hZ cZ AZ 6 2 12 _ L f21 48 [(5, .ref (ω 3 (g).toNat)), (0, .ref o), (1, .int (iI g)), (2, .int (iI d)), (3, .int (iI h)), (4, .int (iI n))] []
      refine z_bipush C dX6_fail_48 (by decide) ?_
      refine z_aload C 0 dX6_fail_50 rfl ?_
      refine z_iload_n C 3 dX6_fail_52 rfl ?_
      refine z_cV (As := [.int (iI d)]) C zc_X1_failedHours (c_failedHours hX (hR18.gs.2.2 ((g).toNat) (by omega)) d (fun i q0 q1 => hI2.b11 _ (by omega) (by omega)) (by omega)) zl_3_185 (Nat.le_of_ble_eq_true rfl) (Nat.le_of_ble_eq_true rfl) (Nat.le_of_ble_eq_true rfl) ((hR18.gs.2.2 ((g).toNat) (by omega)).1.1) ((hR18.gs.2.2 ((g).toNat) (by omega)).1.2) rfl rfl rfl rfl (Nat.le_of_ble_eq_true rfl) dX6_fail_53 (fun zk L23 f24 hzk => ?_)
      obtain ⟨hzk, rfl, rfl⟩ := hzk
      have hzk2 : zk = zcnt (zfill (μ 11) (240 * g + 24 * d + h) (240 * g + 24 * d + n) 1) (240 * g + 24 * d) 24 := by rw [hzk]; have q := zcnt_shift (zfill (μ 11) (240 * g + 24 * d + h) (240 * g + 24 * d + n) 1) (240 * g) (24 * d) 24; rw [← q, ← hgn]; rfl
      change ZW G pZ la eZ (zRm 8 8 48) sZ mZ aZ bZ hZ cZ AZ 6 2 12 _ L f21 56 [(5, .ref (ω 3 (g).toNat)), (0, .ref o), (1, .int (iI g)), (2, .int (iI d)), (3, .int (iI h)), (4, .int (iI n))] [.int (iI zk), .int (iI 24)]
      have hzr := zcnt_rng (zfill (μ 11) (240 * g + 24 * d + h) (240 * g + 24 * d + n) 1) (240 * g + 24 * d) 24
      refine z_isub C dX6_fail_56 ?_
      refine z_xr ?_
      exact z_ireturn C dX6_fail_57 (Nat.le_of_ble_eq_true rfl) (Nat.le_of_ble_eq_true rfl) (CR_mk (v := 24 - zcnt (zfill (μ 11) (240 * g + 24 * d + h) (240 * g + 24 * d + n) 1) (240 * g + 24 * d) 24) (μ' := (zset μ 11 (zfill (μ 11) (240 * g + 24 * d + h) (240 * g + 24 * d + n) 1))) (by unfold o_fail; (repeat (first | rw [if_pos (by omega)] | rw [if_neg (by omega)]))) (by rw [hzk2]) ⟨ω, hR18, hI2, hK2⟩)
    · exact z_throwS C h4 hfl hnt (by decide +kernel) zl_2_220 zl_1_17 (List.mem_of_getElem? (i := 11) rfl) zthwIAE zthgIAE dX6_fail_25 dX6_fail_28 dX6_fail_29 dX6_fail_31 dX6_fail_34 (Nat.le_of_ble_eq_true rfl) (Nat.le_of_ble_eq_true rfl) (Nat.le_of_ble_eq_true rfl) (Nat.le_of_ble_eq_true rfl) (CX_mk (j := 3) (v := 0) (μ' := μ) (by unfold o_fail; (repeat (first | rw [if_pos (by omega)] | rw [if_neg (by omega)]))) (by decide) rfl hC0)

set_option maxRecDepth 100000 in
set_option maxHeartbeats 200000 in
theorem c_mend {la : Launch} {G : zG} {X : (Nat → Prop) → State → Prop} (hX : zX X) (h4 : zT4 X) (hfl : la.stackTraces = false) {L : List Nat} {f : Nat → va_E} {o : Nat} {ω : Nat → Nat → Nat} {μ : zMu} (hR : SRC G L f o ω μ) (g d : Int) (hI : MI μ) (hK : MK μ) (hg : zR g) (hd : zR d) : zMX la G X yX6_mend (.code yX6_mend cX6_mend 5 (some .int) :: zT) 8 8 48 [.ref o, .int (iI g), .int (iI d)] L f zeI (CR G o (o_mend μ g d)) (CX G o ["java/util/NoSuchElementException", "java/lang/IndexOutOfBoundsException"] (o_mend μ g d)) := by
  refine zMX_intro hX (by decide) (Nat.le_of_ble_eq_true rfl) (fun pZ eZ sZ mZ aZ bZ hZ cZ AZ C hnt => ?_)
  change ZW G pZ la eZ (zRm 8 8 48) sZ mZ aZ bZ hZ cZ AZ 5 0 0 _ L f 0 [(0, .ref o), (1, .int (iI g)), (2, .int (iI d))] []
  have hNO : zNO = -2147483648 := rfl
  have hn := hI.n
  have hSK : zSK (zK μ) := MJ_SK hI.J
  have hBl : ∀ j : Nat, (j : Int) < μ 2 0 → zLB μ j := fun j hj => hI.J.b12 j (by omega) (by omega)
  have hC0 : CSx G L f o μ := ⟨ω, hR, hI, hK⟩
  have hu := spChart_r hI
  refine z_aload_n C 0 dX6_mend_0 rfl ?_
  refine z_iload_n C 1 dX6_mend_1 rfl ?_
  refine z_cVX (As := [.int (iI g)]) C zc_X6_requireGauge (c_reqGauge hX h4 hfl hR g hI (by omega)) zl_3_158 (Nat.le_of_ble_eq_true rfl) (Nat.le_of_ble_eq_true rfl) (Nat.le_of_ble_eq_true rfl) (hR.ob.1) (hR.ob.2) rfl rfl rfl rfl (Nat.le_of_ble_eq_true rfl) dX6_mend_2 (fun E L9 f9 hxE => z_xout C hnt (Nat.le_of_ble_eq_true rfl) (Nat.le_of_ble_eq_true rfl) (by obtain ⟨rfl, hx, rfl, rfl⟩ := hxE; exact CX_mk (j := 1) (v := 0) (μ' := μ) (by unfold o_mend; (repeat (first | rw [if_pos (by omega)] | rw [if_neg (by omega)]))) (by decide) rfl hC0)) (fun z2 L3 f4 hz5 => ?_)
  obtain ⟨rfl, hq1, rfl, rfl⟩ := hz5
  have hgn : (((g).toNat : Nat) : Int) = g := Int.toNat_of_nonneg (by omega)
  change ZW G pZ la eZ (zRm 8 8 48) sZ mZ aZ bZ hZ cZ AZ 5 1 6 _ L f 5 [(0, .ref o), (1, .int (iI g)), (2, .int (iI d))] [.ref (ω 3 (g).toNat)]
  refine z_astore_n (ls' := [(3, .ref (ω 3 (g).toNat)), (0, .ref o), (1, .int (iI g)), (2, .int (iI d))]) C dX6_mend_5 (Nat.le_of_ble_eq_true rfl) rfl ?_
  refine z_iload_n C 3 dX6_mend_6 rfl ?_
  refine z_cSX (As := [.int (iI d)]) C zc_X6_requireDay (c_reqDay hX h4 hfl d (by omega)) zl_3_51 (Nat.le_of_ble_eq_true rfl) (Nat.le_of_ble_eq_true rfl) (Nat.le_of_ble_eq_true rfl) rfl rfl (Nat.le_of_ble_eq_true rfl) dX6_mend_7 (fun E L9 f9 hxE => z_xout C hnt (Nat.le_of_ble_eq_true rfl) (Nat.le_of_ble_eq_true rfl) (by obtain ⟨rfl, hx, rfl, rfl⟩ := hxE; exact CX_mk (j := 2) (v := 0) (μ' := μ) (by unfold o_mend; (repeat (first | rw [if_pos (by omega)] | rw [if_neg (by omega)]))) (by decide) rfl hC0)) (fun z7 L8 f9 hz10 => ?_)
  obtain ⟨hq6, rfl, rfl⟩ := hz10
  change ZW G pZ la eZ (zRm 8 8 48) sZ mZ aZ bZ hZ cZ AZ 5 2 12 _ L f 10 [(3, .ref (ω 3 (g).toNat)), (0, .ref o), (1, .int (iI g)), (2, .int (iI d))] []
  refine z_aload_n C 0 dX6_mend_10 rfl ?_
  refine z_iload_n C 3 dX6_mend_11 rfl ?_
  refine z_cV (As := [.int (iI d)]) C zc_X1_failedHours (c_failedHours hX (hR.gs.2.2 ((g).toNat) (by omega)) d (fun i q0 q1 => hI.b11 _ (by omega) (by omega)) (by omega)) zl_3_185 (Nat.le_of_ble_eq_true rfl) (Nat.le_of_ble_eq_true rfl) (Nat.le_of_ble_eq_true rfl) ((hR.gs.2.2 ((g).toNat) (by omega)).1.1) ((hR.gs.2.2 ((g).toNat) (by omega)).1.2) rfl rfl rfl rfl (Nat.le_of_ble_eq_true rfl) dX6_mend_12 (fun zk L11 f12 hzk => ?_)
  obtain ⟨hzk, rfl, rfl⟩ := hzk
  have hzk2 : zk = zcnt (μ 11) (240 * g + 24 * d) 24 := by rw [hzk]; have q := zcnt_shift (μ 11) (240 * g) (24 * d) 24; rw [← q, ← hgn]; rfl
  change ZW G pZ la eZ (zRm 8 8 48) sZ mZ aZ bZ hZ cZ AZ 5 2 12 _ L f 15 [(3, .ref (ω 3 (g).toNat)), (0, .ref o), (1, .int (iI g)), (2, .int (iI d))] [.int (iI zk)]
  refine z_istore (ls' := [(4, .int (iI zk)), (3, .ref (ω 3 (g).toNat)), (0, .ref o), (1, .int (iI g)), (2, .int (iI d))]) C dX6_mend_15 (Nat.le_of_ble_eq_true rfl) rfl ?_
  refine z_aload_n C 1 dX6_mend_17 rfl ?_
  refine z_iload_n C 4 dX6_mend_18 rfl ?_
  refine z_cV (As := [.int (iI d)]) C zc_X1_repair (c_repair hX (hR.gs.2.2 ((g).toNat) (by omega)) d (by omega)) zl_3_196 (Nat.le_of_ble_eq_true rfl) (Nat.le_of_ble_eq_true rfl) (Nat.le_of_ble_eq_true rfl) ((hR.gs.2.2 ((g).toNat) (by omega)).1.1) ((hR.gs.2.2 ((g).toNat) (by omega)).1.2) rfl rfl rfl rfl (Nat.le_of_ble_eq_true rfl) dX6_mend_19 (fun z15 L16 f17 hz18 => ?_)
  obtain ⟨rfl, hpa13, hpk14⟩ := hz18
  have hR19 : SR G L f17 o ω (zset μ 11 (zfill (μ 11) (240 * g + 24 * d) (240 * g + 24 * d + 24) 0)) (spChart μ) (fun l => zrl μ l) (spTx μ) := SR_wg hR hn.2.1 (g := g.toNat) (by omega) hpa13 (fun j q0 q1 => zfl_fillN μ hgn (by omega) (by omega) j) (fun i j q0 q1 q2 q3 => (zfill_out (by omega)).symm) hpk14
  have hI2 : MI (zset μ 11 (zfill (μ 11) (240 * g + 24 * d) (240 * g + 24 * d + 24) 0)) := MI_11 hI (by omega) (by omega)
  have hK2 : MK (zset μ 11 (zfill (μ 11) (240 * g + 24 * d) (240 * g + 24 * d + 24) 0)) := hK
  have hm1 : (zset μ 11 (zfill (μ 11) (240 * g + 24 * d) (240 * g + 24 * d + 24) 0)) 1 0 = μ 1 0 := rfl
  have hm2 : (zset μ 11 (zfill (μ 11) (240 * g + 24 * d) (240 * g + 24 * d + 24) 0)) 2 0 = μ 2 0 := rfl
  change ZW G pZ la eZ (zRm 8 8 48) sZ mZ aZ bZ hZ cZ AZ 5 2 12 _ L f17 22 [(4, .int (iI zk)), (3, .ref (ω 3 (g).toNat)), (0, .ref o), (1, .int (iI g)), (2, .int (iI d))] []
  refine z_aload_n C 2 dX6_mend_22 rfl ?_
  refine z_cV (As := []) C zc_X6_refresh (c_refresh hX hR19 hI2 hK2 (zrd0_r μ)) zl_3_19 (Nat.le_of_ble_eq_true rfl) (Nat.le_of_ble_eq_true rfl) (Nat.le_of_ble_eq_true rfl) (hR19.ob.1) (hR19.ob.2) rfl rfl rfl rfl (Nat.le_of_ble_eq_true rfl) dX6_mend_23 (fun z21 L22 f23 hz24 => ?_)
  obtain ⟨rfl, hR20⟩ := hz24
  change ZW G pZ la eZ (zRm 8 8 48) sZ mZ aZ bZ hZ cZ AZ 5 2 12 _ L f23 26 [(4, .int (iI zk)), (3, .ref (ω 3 (g).toNat)), (0, .ref o), (1, .int (iI g)), (2, .int (iI d))] []
  refine z_iload C 0 dX6_mend_26 rfl ?_
  refine z_xr ?_
  exact z_ireturn C dX6_mend_28 (Nat.le_of_ble_eq_true rfl) (Nat.le_of_ble_eq_true rfl) (CR_mk (v := zcnt (μ 11) (240 * g + 24 * d) 24) (μ' := (zset μ 11 (zfill (μ 11) (240 * g + 24 * d) (240 * g + 24 * d + 24) 0))) (by unfold o_mend; (repeat (first | rw [if_pos (by omega)] | rw [if_neg (by omega)]))) hzk2 ⟨ω, hR20, hI2, hK2⟩)

set_option maxRecDepth 100000 in
set_option maxHeartbeats 200000 in
theorem c_disturb {la : Launch} {G : zG} {X : (Nat → Prop) → State → Prop} (hX : zX X) (h4 : zT4 X) (hfl : la.stackTraces = false) {L : List Nat} {f : Nat → va_E} {o : Nat} {ω : Nat → Nat → Nat} {μ : zMu} (hR : SRC G L f o ω μ) (l k t x : Int) (hI : MI μ) (hK : MK μ) (hl : zR l) (hk : zR k) (ht : zR t) (hx : zR x) : zMX la G X yX6_disturb (.code yX6_disturb cX6_disturb 7 (some .int) :: zT) 8 8 48 [.ref o, .int (iI l), .int (iI k), .int (iI t), .int (iI x)] L f zeI (CR G o (o_disturb μ l k t x)) (CX G o ["java/util/NoSuchElementException", "java/lang/IndexOutOfBoundsException", "java/lang/IllegalArgumentException"] (o_disturb μ l k t x)) := by
  refine zMX_intro hX (by decide) (Nat.le_of_ble_eq_true rfl) (fun pZ eZ sZ mZ aZ bZ hZ cZ AZ C hnt => ?_)
  change ZW G pZ la eZ (zRm 8 8 48) sZ mZ aZ bZ hZ cZ AZ 7 0 0 _ L f 0 [(0, .ref o), (1, .int (iI l)), (2, .int (iI k)), (3, .int (iI t)), (4, .int (iI x))] []
  have hNO : zNO = -2147483648 := rfl
  have hn := hI.n
  have hSK : zSK (zK μ) := MJ_SK hI.J
  have hBl : ∀ j : Nat, (j : Int) < μ 2 0 → zLB μ j := fun j hj => hI.J.b12 j (by omega) (by omega)
  have hC0 : CSx G L f o μ := ⟨ω, hR, hI, hK⟩
  have hu := spChart_r hI
  refine z_aload_n C 0 dX6_disturb_0 rfl ?_
  refine z_iload_n C 1 dX6_disturb_1 rfl ?_
  refine z_iload_n C 2 dX6_disturb_2 rfl ?_
  refine z_iload_n C 3 dX6_disturb_3 rfl ?_
  refine z_cVX (As := [.int (iI l), .int (iI k), .int (iI t)]) C zc_X6_requireSounded (c_reqSounded hX h4 hfl hR l k t hI (by omega) (by omega) (by omega) hK) zl_4_79 (Nat.le_of_ble_eq_true rfl) (Nat.le_of_ble_eq_true rfl) (Nat.le_of_ble_eq_true rfl) (hR.ob.1) (hR.ob.2) rfl rfl rfl rfl (Nat.le_of_ble_eq_true rfl) dX6_disturb_4 (fun E L9 f9 hxE => z_xout C hnt (Nat.le_of_ble_eq_true rfl) (Nat.le_of_ble_eq_true rfl) (by obtain ⟨⟨rfl, hx⟩ | ⟨rfl, hxa, hxb⟩, rfl, rfl⟩ := hxE; exact CX_mk (j := 1) (v := 0) (μ' := μ) (by unfold o_disturb; (repeat (first | rw [if_pos (by omega)] | rw [if_neg (by omega)]))) (by decide) rfl hC0; exact CX_mk (j := 2) (v := 0) (μ' := μ) (by unfold o_disturb; rw [if_pos hxa, if_neg hxb]) (by decide) rfl hC0)) (fun z2 L3 f4 hz5 => ?_)
  obtain ⟨rfl, ⟨hq1, hok⟩, rfl, rfl⟩ := hz5
  have hkn : (((l).toNat : Nat) : Int) = l := Int.toNat_of_nonneg (by omega)
  have hsz := spSize_rng hI.J (l := l) ⟨by omega, by omega⟩
  have hok1 := hok.1
  have hok2 := hok.2.1
  change ZW G pZ la eZ (zRm 8 8 48) sZ mZ aZ bZ hZ cZ AZ 7 2 12 _ L f 7 [(0, .ref o), (1, .int (iI l)), (2, .int (iI k)), (3, .int (iI t)), (4, .int (iI x))] [.ref (ω 5 (l).toNat)]
  refine z_astore (ls' := [(5, .ref (ω 5 (l).toNat)), (0, .ref o), (1, .int (iI l)), (2, .int (iI k)), (3, .int (iI t)), (4, .int (iI x))]) C dX6_disturb_7 (Nat.le_of_ble_eq_true rfl) rfl ?_
  refine z_iload C 5 dX6_disturb_9 rfl ?_
  refine z_bipush C dX6_disturb_11 (by decide) ?_
  refine z_icmp_lt C 23 dX6_disturb_13 (by decide) (by omega) (by omega) (fun h13 => ?_) (fun h13 => ?_)
  · exact z_throwS C h4 hfl hnt (by decide +kernel) zl_2_220 zl_1_17 (List.mem_of_getElem? (i := 20) rfl) zthwIAE zthgIAE dX6_disturb_23 dX6_disturb_26 dX6_disturb_27 dX6_disturb_29 dX6_disturb_32 (Nat.le_of_ble_eq_true rfl) (Nat.le_of_ble_eq_true rfl) (Nat.le_of_ble_eq_true rfl) (Nat.le_of_ble_eq_true rfl) (CX_mk (j := 3) (v := 0) (μ' := μ) (by unfold o_disturb; rw [if_pos (show spLine μ l from by omega), if_pos hok]; rw [if_neg (by omega)]) (by decide) rfl hC0)
  · refine z_iload C 5 dX6_disturb_16 rfl ?_
    refine z_bipush C dX6_disturb_18 (by decide) ?_
    refine z_icmp_le C 33 dX6_disturb_20 (by decide) (by omega) (by omega) (fun h20 => ?_) (fun h20 => ?_)
    · refine z_aload C 0 dX6_disturb_33 rfl ?_
      refine z_iload_n C 3 dX6_disturb_35 rfl ?_
      refine z_iload_n C 4 dX6_disturb_36 rfl ?_
      refine z_iload C 5 dX6_disturb_37 rfl ?_
      refine z_cV (As := [.int (iI k), .int (iI t), .int (iI x)]) C zc_X3_putError (c_putError hX (hR.ln ((l).toNat) (by omega)) k t x (hBl ((l).toNat) (by omega)) (by omega) (by omega) (by omega)) zl_4_86 (Nat.le_of_ble_eq_true rfl) (Nat.le_of_ble_eq_true rfl) (Nat.le_of_ble_eq_true rfl) ((hR.ln ((l).toNat) (by omega)).1.1) ((hR.ln ((l).toNat) (by omega)).1.2) rfl rfl rfl rfl (Nat.le_of_ble_eq_true rfl) dX6_disturb_39 (fun z8 L9 f10 hz11 => ?_)
      obtain ⟨rfl, hpa6, hpk7, hpz⟩ := hz11
      rw [zslot_in (by omega), zwr_in (by omega)] at hpa6
      rw [zslot_in (by omega), zrd_in (by omega), hkn, zel_at μ l ⟨by omega, by omega, by omega, by omega⟩] at hpz
      have hR12 : SR G L f10 o ω (zset μ 19 (zup (μ 19) (7 * (20 * l + k) + t + 3) x)) (spChart μ) (fun l => zrl μ l) (spTx μ) := by have q := SR_we hR hn.2.1 (l := l.toNat) (by omega) (p := 7 * k + t + 3) (x := x) (by omega) hpa6 hpk7; rw [hkn, show 140 * l + (7 * k + t + 3) = 7 * (20 * l + k) + t + 3 by omega] at q; exact q
      have hI2 : MI (zset μ 19 (zup (μ 19) (7 * (20 * l + k) + t + 3) x)) := MI_19 hI (by omega)
      have hK2 : MK (zset μ 19 (zup (μ 19) (7 * (20 * l + k) + t + 3) x)) := hK
      have hm1 : (zset μ 19 (zup (μ 19) (7 * (20 * l + k) + t + 3) x)) 1 0 = μ 1 0 := rfl
      have hm2 : (zset μ 19 (zup (μ 19) (7 * (20 * l + k) + t + 3) x)) 2 0 = μ 2 0 := rfl
      change ZW G pZ la eZ (zRm 8 8 48) sZ mZ aZ bZ hZ cZ AZ 7 2 12 _ L f10 42 [(5, .ref (ω 5 (l).toNat)), (0, .ref o), (1, .int (iI l)), (2, .int (iI k)), (3, .int (iI t)), (4, .int (iI x))] [.int (iI z8)]
      refine z_istore (ls' := [(6, .int (iI z8)), (5, .ref (ω 5 (l).toNat)), (0, .ref o), (1, .int (iI l)), (2, .int (iI k)), (3, .int (iI t)), (4, .int (iI x))]) C dX6_disturb_42 (Nat.le_of_ble_eq_true rfl) rfl ?_
      refine z_aload_n C 2 dX6_disturb_44 rfl ?_
      refine z_cV (As := []) C zc_X6_refresh (c_refresh hX hR12 hI2 hK2 (zrd0_r μ)) zl_3_19 (Nat.le_of_ble_eq_true rfl) (Nat.le_of_ble_eq_true rfl) (Nat.le_of_ble_eq_true rfl) (hR12.ob.1) (hR12.ob.2) rfl rfl rfl rfl (Nat.le_of_ble_eq_true rfl) dX6_disturb_45 (fun z14 L15 f16 hz17 => ?_)
      obtain ⟨rfl, hR13⟩ := hz17
      change ZW G pZ la eZ (zRm 8 8 48) sZ mZ aZ bZ hZ cZ AZ 7 2 12 _ L f16 48 [(6, .int (iI z8)), (5, .ref (ω 5 (l).toNat)), (0, .ref o), (1, .int (iI l)), (2, .int (iI k)), (3, .int (iI t)), (4, .int (iI x))] []
      refine z_iload C 0 dX6_disturb_48 rfl ?_
      refine z_xr ?_
      exact z_ireturn C dX6_disturb_50 (Nat.le_of_ble_eq_true rfl) (Nat.le_of_ble_eq_true rfl) (CR_mk (v := μ 19 (7 * (20 * l + k) + t + 3)) (μ' := (zset μ 19 (zup (μ 19) (7 * (20 * l + k) + t + 3) x))) (by unfold o_disturb; rw [if_pos (show spLine μ l from by omega), if_pos hok]; rw [if_pos (by omega)]) hpz ⟨ω, hR13, hI2, hK2⟩)
    · exact z_throwS C h4 hfl hnt (by decide +kernel) zl_2_220 zl_1_17 (List.mem_of_getElem? (i := 20) rfl) zthwIAE zthgIAE dX6_disturb_23 dX6_disturb_26 dX6_disturb_27 dX6_disturb_29 dX6_disturb_32 (Nat.le_of_ble_eq_true rfl) (Nat.le_of_ble_eq_true rfl) (Nat.le_of_ble_eq_true rfl) (Nat.le_of_ble_eq_true rfl) (CX_mk (j := 3) (v := 0) (μ' := μ) (by unfold o_disturb; rw [if_pos (show spLine μ l from by omega), if_pos hok]; rw [if_neg (by omega)]) (by decide) rfl hC0)
