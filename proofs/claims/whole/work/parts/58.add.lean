set_option maxRecDepth 100000 in
set_option maxHeartbeats 200000 in
theorem c_placeIn {la : Launch} {G : zG} {X : (Nat → Prop) → State → Prop} (hX : zX X) {L : List Nat} {f : Nat → va_E} {w p : Nat} {n : Int} {ga gr gx : Nat → Nat} {k : Int → Int} {σ : Nat → Int → Int} (hGs : zGs G L f w p n ga gr gx k σ) (hO : zT2 X) (c : Int) (hn : 0 ≤ n ∧ n < 3) (hc : zR c) : zM la G X yX2_placeIn (.code yX2_placeIn cX2_placeIn 3 (some .int) :: zT) 3 3 244 [.ref w, .int (iI c)] L f zeI (fun z L' f' => z = n ∧ ∃ q r a : Nat, a ∉ L ∧ zOb L' f' w 6 [.ref p, .int (iI (n + 1))] ∧ zP G 6 L' f' p 3 (va_up (fun g => if (g : Int) < n then some (ga g) else none) n.toNat (some q)) ∧ zGau G L' f' q c r a (fun _ => 0) ∧ zKp L f L' f' w p) := by
  refine zM_intro hX (by decide) (Nat.le_of_ble_eq_true rfl) (fun pZ eZ sZ mZ aZ bZ hZ cZ AZ C hini => ?_)
  change ZW G pZ la eZ (zRm 3 3 244) sZ mZ aZ bZ hZ cZ AZ 3 0 0 _ L f 0 [(0, .ref w), (1, .int (iI c))] []
  refine z_aload_n C 0 dX2_placeIn_0 rfl ?_
  refine z_getf C 1 zin_X2 (hGs.1.1) (hGs.1.2) rfl (Nat.le_of_ble_eq_true rfl) zl_1_85 rfl rfl dX2_placeIn_1 ?_
  refine z_istore_n (ls' := [(2, .int (iI n)), (0, .ref w), (1, .int (iI c))]) C dX2_placeIn_4 (Nat.le_of_ble_eq_true rfl) rfl ?_
  refine z_iload_n C 0 dX2_placeIn_5 rfl ?_
  refine z_if_lt C 39 dX2_placeIn_6 (by decide) (by omega) (fun h6 => ?_) (fun h6 => ?_)
  · exfalso; omega
  · refine z_iload_n C 0 dX2_placeIn_9 rfl ?_
    refine z_aload_n C 1 dX2_placeIn_10 rfl ?_
    refine z_getf C 0 zin_X2 (hGs.1.1) (hGs.1.2) rfl (Nat.le_of_ble_eq_true rfl) zl_1_84 rfl rfl dX2_placeIn_11 ?_
    refine z_alenP C (hGs.2.1) rfl dX2_placeIn_14 ?_
    refine z_icmp_ge C 39 dX2_placeIn_15 (by decide) (by omega) (by omega) (fun h15 => ?_) (fun h15 => ?_)
    · exfalso; omega
    · refine z_aload_n C 1 dX2_placeIn_18 rfl ?_
      refine z_getf C 0 zin_X2 (hGs.1.1) (hGs.1.2) rfl (Nat.le_of_ble_eq_true rfl) zl_1_84 rfl rfl dX2_placeIn_19 ?_
      refine z_iload_n C 0 dX2_placeIn_22 rfl ?_
      refine z_newG (ci := 5) (fs := [.int 0, .null]) C zin_X1 tyX1_ok zl_1_82 zl_2_55 zl_1_22 rfl (by decide) (Nat.le_of_ble_eq_true rfl) (Nat.le_of_ble_eq_true rfl) dX2_placeIn_23 (fun q1 L2 f3 hq4 hL5 hob6 hk7 => ?_)
      change ZW G pZ la eZ (zRm 3 3 244) sZ mZ aZ bZ hZ cZ AZ 3 1 2 _ L2 f3 26 [(2, .int (iI n)), (0, .ref w), (1, .int (iI c))] [.ref q1, .int (iI n), .ref p]
      refine z_dup C dX2_placeIn_26 rfl ?_
      refine z_iload_n C 2 dX2_placeIn_27 rfl ?_
      refine z_cI (As := [.int (iI c)]) C zc_X1_init (c_newGauge hX hob6 c) zl_3_137 (Nat.le_of_ble_eq_true rfl) (Nat.le_of_ble_eq_true rfl) (Nat.le_of_ble_eq_true rfl) rfl rfl (Nat.le_of_ble_eq_true rfl) dX2_placeIn_28 (fun z14 L15 f16 hz17 => ?_)
      obtain ⟨r8, a9, ha10, hg11, hF12⟩ := hz17
      have hE13 := zExt_new hq4 hL5 hk7 hF12
      have hra : a9 ∉ L := fun z9 => ha10 (by rw [hL5]; exact List.mem_append.mpr (Or.inl z9))
      change ZW G pZ la eZ (zRm 3 3 244) sZ mZ aZ bZ hZ cZ AZ 3 3 244 _ L15 f16 31 [(2, .int (iI n)), (0, .ref w), (1, .int (iI c))] [.ref q1, .int (iI n), .ref p]
      have hP18 := zP_e hGs.2.1 hE13
      refine z_aast (t := 6) (ci := 5) C hP18 rfl (by decide) (by omega) (by omega) ⟨hg11.1.1, hg11.1.2⟩ rfl dX2_placeIn_31 (fun f20 hP21 hk22 => ?_)
      change ZW G pZ la eZ (zRm 3 3 244) sZ mZ aZ bZ hZ cZ AZ 3 3 244 _ L15 f20 32 [(2, .int (iI n)), (0, .ref w), (1, .int (iI c))] []
      have hw4 : zOb L15 f20 w 6 [.ref p, .int (iI n)] := ⟨(zOb_e hGs.1 hE13).1, by rw [hk22 _ (zne_P (zOb_e hGs.1 hE13).2 hP18)]; exact (zOb_e hGs.1 hE13).2⟩
      refine z_aload_n C 1 dX2_placeIn_32 rfl ?_
      refine z_iload_n C 0 dX2_placeIn_33 rfl ?_
      refine z_iconst C dX2_placeIn_34 ?_
      refine z_iadd C dX2_placeIn_35 ?_
      refine z_putG C 1 zin_X2 tyX2_ok nmX2 hw4.1 hw4.2 rfl (Nat.le_of_ble_eq_true rfl) zl_1_85 rfl rfl rfl rfl rfl (Nat.le_of_ble_eq_true rfl) dX2_placeIn_36 (fun f23 hf24 hk25 => ?_)
      refine z_iload_n C 0 dX2_placeIn_39 rfl ?_
      exact z_ireturn C dX2_placeIn_40 (Nat.le_of_ble_eq_true rfl) (Nat.le_of_ble_eq_true rfl) ⟨rfl, _, _, _, hra, zPl_end hGs hE13 hg11 hP21 hk22 hf24 hk25⟩

set_option maxRecDepth 100000 in
set_option maxHeartbeats 200000 in
theorem c_addGauge {la : Launch} {G : zG} {X : (Nat → Prop) → State → Prop} (hX : zX X) (h4 : zT4 X) (hfl : la.stackTraces = false) {L : List Nat} {f : Nat → va_E} {o : Nat} {ω : Nat → Nat → Nat} {μ : zMu} (hR : SRC G L f o ω μ) (hO : zT2 X) (c : Int) (hI : MI μ) (hK : MK μ) (hc : zR c) : zMX la G X yX6_addGauge (.code yX6_addGauge cX6_addGauge 3 (some .int) :: zT) 8 8 300 [.ref o, .int (iI c)] L f zeI (CR G o (o_addGauge μ c)) (CX G o ["java/lang/IndexOutOfBoundsException", "java/lang/UnsupportedOperationException", "java/lang/IllegalStateException"] (o_addGauge μ c)) := by
  refine zMX_intro hX (by decide) (Nat.le_of_ble_eq_true rfl) (fun pZ eZ sZ mZ aZ bZ hZ cZ AZ C hnt => ?_)
  change ZW G pZ la eZ (zRm 8 8 300) sZ mZ aZ bZ hZ cZ AZ 3 0 0 _ L f 0 [(0, .ref o), (1, .int (iI c))] []
  have hNO : zNO = -2147483648 := rfl
  have hn := hI.n
  have hSK : zSK (zK μ) := MJ_SK hI.J
  have hBl : ∀ j : Nat, (j : Int) < μ 2 0 → zLB μ j := fun j hj => hI.J.b12 j (by omega) (by omega)
  have hC0 : CSx G L f o μ := ⟨ω, hR, hI, hK⟩
  have hu := spChart_r hI
  refine z_iload_n C 1 dX6_addGauge_0 rfl ?_
  refine z_cSX (As := [.int (iI c)]) C zc_X6_requireColumn (c_reqColumn hX h4 hfl c (by omega)) zl_3_67 (Nat.le_of_ble_eq_true rfl) (Nat.le_of_ble_eq_true rfl) (Nat.le_of_ble_eq_true rfl) rfl rfl (Nat.le_of_ble_eq_true rfl) dX6_addGauge_1 (fun E L9 f9 hxE => z_xout C hnt (Nat.le_of_ble_eq_true rfl) (Nat.le_of_ble_eq_true rfl) (by obtain ⟨rfl, hx, rfl, rfl⟩ := hxE; exact CX_mk (j := 1) (v := 0) (μ' := μ) (by unfold o_addGauge; (repeat (first | rw [if_pos (by omega)] | rw [if_neg (by omega)]))) (by decide) rfl hC0)) (fun z2 L3 f4 hz5 => ?_)
  obtain ⟨hq1, rfl, rfl⟩ := hz5
  change ZW G pZ la eZ (zRm 8 8 300) sZ mZ aZ bZ hZ cZ AZ 3 1 6 _ L f 4 [(0, .ref o), (1, .int (iI c))] []
  refine z_aload_n C 0 dX6_addGauge_4 rfl ?_
  refine z_getf C 1 zin_X6 (hR.ob.1) (hR.ob.2) rfl (Nat.le_of_ble_eq_true rfl) zl_1_140 rfl rfl dX6_addGauge_5 ?_
  refine z_iload_n C 1 dX6_addGauge_8 rfl ?_
  refine z_cV (As := [.int (iI c)]) C zc_X2_standIn (c_standIn hX hR.gs c ⟨by omega, by omega⟩ (fun g q0 q1 => hI.b8 g q0 (by omega)) (by omega)) zl_3_93 (Nat.le_of_ble_eq_true rfl) (Nat.le_of_ble_eq_true rfl) (Nat.le_of_ble_eq_true rfl) (hR.gs.1.1) (hR.gs.1.2) rfl rfl rfl rfl (Nat.le_of_ble_eq_true rfl) dX6_addGauge_9 (fun zt L6 f7 hzt => ?_)
  obtain ⟨hzt, rfl, rfl⟩ := hzt
  change ZW G pZ la eZ (zRm 8 8 300) sZ mZ aZ bZ hZ cZ AZ 3 1 6 _ L f 12 [(0, .ref o), (1, .int (iI c))] [.int (iI zt)]
  have hzt2 : zt = 0 ∨ zt = 1 := by omega
  refine z_if_eq C 25 dX6_addGauge_12 (by decide) (by omega) (fun h12 => ?_) (fun h12 => ?_)
  · have hno9 : ¬ ∃ g, 0 ≤ g ∧ g < μ 1 0 ∧ μ 8 g = c := by
      rcases hzt with q | q
      · omega
      · exact q.2
    refine z_aload_n C 0 dX6_addGauge_25 rfl ?_
    refine z_getf C 1 zin_X6 (hR.ob.1) (hR.ob.2) rfl (Nat.le_of_ble_eq_true rfl) zl_1_140 rfl rfl dX6_addGauge_26 ?_
    refine z_cV (As := []) C zc_X2_areFull (c_areFull hX hR.gs ⟨by omega, by omega⟩) zl_3_113 (Nat.le_of_ble_eq_true rfl) (Nat.le_of_ble_eq_true rfl) (Nat.le_of_ble_eq_true rfl) (hR.gs.1.1) (hR.gs.1.2) rfl rfl rfl rfl (Nat.le_of_ble_eq_true rfl) dX6_addGauge_29 (fun z8 L9 f10 hz11 => ?_)
    obtain ⟨hz11, rfl, rfl⟩ := hz11
    subst hz11
    change ZW G pZ la eZ (zRm 8 8 300) sZ mZ aZ bZ hZ cZ AZ 3 1 6 _ L f 32 [(0, .ref o), (1, .int (iI c))] [.int (iI (bI (3 ≤ μ 1 0)))]
    refine z_if_eq_b C 45 dX6_addGauge_32 (by decide) (fun h32 => ?_) (fun h32 => ?_)
    · refine z_aload_n C 0 dX6_addGauge_45 rfl ?_
      refine z_getf C 1 zin_X6 (hR.ob.1) (hR.ob.2) rfl (Nat.le_of_ble_eq_true rfl) zl_1_140 rfl rfl dX6_addGauge_46 ?_
      refine z_iload_n C 1 dX6_addGauge_49 rfl ?_
      refine z_cV (As := [.int (iI c)]) C zc_X2_placeIn (c_placeIn hX hR.gs hO c (by omega) (by omega)) zl_3_133 (Nat.le_of_ble_eq_true rfl) (Nat.le_of_ble_eq_true rfl) (Nat.le_of_ble_eq_true rfl) (hR.gs.1.1) (hR.gs.1.2) rfl rfl rfl rfl (Nat.le_of_ble_eq_true rfl) dX6_addGauge_50 (fun zn9 L12 f13 hz14 => ?_)
      obtain ⟨hzn, qg, rg, ag, hga, hgo, hgp, hgg, hgk⟩ := hz14
      have hR15 : SR G L12 f13 o (zwG ω (μ 1 0).toNat qg rg ag) (zset (zset μ 8 (zup (μ 8) (μ 1 0) c)) 1 (fun _ => μ 1 0 + 1)) (spChart μ) (fun l => zrl μ l) (spTx μ) := SR_addG hR (by omega) (by omega) (by omega) hgk hgo hgp hgg hga hI.2.2.2.2.2.2.2.1
      have hI2 : MI (zset (zset μ 8 (zup (μ 8) (μ 1 0) c)) 1 (fun _ => μ 1 0 + 1)) := MI_8 hI (by omega) (by omega)
      have hK2 : MK (zset (zset μ 8 (zup (μ 8) (μ 1 0) c)) 1 (fun _ => μ 1 0 + 1)) := hK
      have hm1 : (zset (zset μ 8 (zup (μ 8) (μ 1 0) c)) 1 (fun _ => μ 1 0 + 1)) 1 0 = μ 1 0 + 1 := rfl
      have hm2 : (zset (zset μ 8 (zup (μ 8) (μ 1 0) c)) 1 (fun _ => μ 1 0 + 1)) 2 0 = μ 2 0 := rfl
      generalize zwG ω (μ 1 0).toNat qg rg ag = ω9 at hR15
      subst hzn
      change ZW G pZ la eZ (zRm 8 8 300) sZ mZ aZ bZ hZ cZ AZ 3 4 250 _ L12 f13 53 [(0, .ref o), (1, .int (iI c))] [.int (iI (μ 1 0))]
      refine z_nm (fun x16 hx16 => ?_)
      refine z_istore_n (ls' := [(2, .int (iI x16)), (0, .ref o), (1, .int (iI c))]) C dX6_addGauge_53 (Nat.le_of_ble_eq_true rfl) rfl ?_
      refine z_aload_n C 1 dX6_addGauge_54 rfl ?_
      refine z_cV (As := []) C zc_X6_refresh (c_refresh hX hR15 hI2 hK2 (zrd0_r μ)) zl_3_19 (Nat.le_of_ble_eq_true rfl) (Nat.le_of_ble_eq_true rfl) (Nat.le_of_ble_eq_true rfl) (hR15.ob.1) (hR15.ob.2) rfl rfl rfl rfl (Nat.le_of_ble_eq_true rfl) dX6_addGauge_55 (fun z18 L19 f20 hz21 => ?_)
      obtain ⟨rfl, hR17⟩ := hz21
      change ZW G pZ la eZ (zRm 8 8 300) sZ mZ aZ bZ hZ cZ AZ 3 4 250 _ L12 f20 58 [(2, .int (iI x16)), (0, .ref o), (1, .int (iI c))] []
      refine z_iload_n C 0 dX6_addGauge_58 rfl ?_
      refine z_xr ?_
      exact z_ireturn C dX6_addGauge_59 (Nat.le_of_ble_eq_true rfl) (Nat.le_of_ble_eq_true rfl) (CR_mk (v := μ 1 0) (μ' := (zset (zset μ 8 (zup (μ 8) (μ 1 0) c)) 1 (fun _ => μ 1 0 + 1))) (by unfold o_addGauge; rw [if_pos (by omega)]; rw [zif_neg hno9, if_neg (by omega)]) (by omega) ⟨ω9, hR17, hI2, hK2⟩)
    · exact z_throwS C h4 hfl hnt (by decide +kernel) zl_3_117 zl_1_21 (List.mem_of_getElem? (i := 9) rfl) zthwISE zthgISE dX6_addGauge_35 dX6_addGauge_38 dX6_addGauge_39 dX6_addGauge_41 dX6_addGauge_44 (Nat.le_of_ble_eq_true rfl) (Nat.le_of_ble_eq_true rfl) (Nat.le_of_ble_eq_true rfl) (Nat.le_of_ble_eq_true rfl) (CX_mk (j := 3) (v := 0) (μ' := μ) (by unfold o_addGauge; rw [if_pos (by omega)]; rw [zif_neg hno9, if_pos (by omega)]) (by decide) rfl hC0)
  · have hex9 : ∃ g, 0 ≤ g ∧ g < μ 1 0 ∧ μ 8 g = c := by
      rcases hzt with q | q
      · exact q.2
      · omega
    exact z_throwS C h4 hfl hnt (by decide +kernel) zl_3_97 zl_1_20 (List.mem_of_getElem? (i := 8) rfl) zthwUOE zthgUOE dX6_addGauge_15 dX6_addGauge_18 dX6_addGauge_19 dX6_addGauge_21 dX6_addGauge_24 (Nat.le_of_ble_eq_true rfl) (Nat.le_of_ble_eq_true rfl) (Nat.le_of_ble_eq_true rfl) (Nat.le_of_ble_eq_true rfl) (CX_mk (j := 2) (v := 0) (μ' := μ) (by unfold o_addGauge; rw [if_pos (by omega)]; exact zif_pos (by first | exact hex9 | omega)) (by decide) rfl hC0)
