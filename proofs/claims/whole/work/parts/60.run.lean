set_option maxRecDepth 100000 in
set_option maxHeartbeats 200000 in
theorem c_writeLine {la : Launch} {G : zG} {X : (Nat → Prop) → State → Prop} (hX : zX X) (h4 : zT4 X) (hfl : la.stackTraces = false) {L : List Nat} {f : Nat → va_E} {o : Nat} {ω : Nat → Nat → Nat} {μ : zMu} (hR : SRC G L f o ω μ) {ax : Nat → Nat × Nat} (hT : zT1 X ax) (hP : zT3 X) (l : Int) (hI : MI μ) (hK : MK μ) (hl : zR l) : zMX la G X yX6_writeLine (.code yX6_writeLine cX6_writeLine 3 (some .int) :: zT) 8 16 480 [.ref o, .int (iI l)] L f zeI (CR G o (o_writeLine μ l)) (CX G o ["java/util/NoSuchElementException"] (o_writeLine μ l)) := by
  refine zMX_intro hX (by decide) (Nat.le_of_ble_eq_true rfl) (fun pZ eZ sZ mZ aZ bZ hZ cZ AZ C hnt => ?_)
  change ZW G pZ la eZ (zRm 8 16 480) sZ mZ aZ bZ hZ cZ AZ 3 0 0 _ L f 0 [(0, .ref o), (1, .int (iI l))] []
  have hNO : zNO = -2147483648 := rfl
  have hn := hI.n
  have hSK : zSK (zK μ) := MJ_SK hI.J
  have hBl : ∀ j : Nat, (j : Int) < μ 2 0 → zLB μ j := fun j hj => hI.J.b12 j (by omega) (by omega)
  have hC0 : CSx G L f o μ := ⟨ω, hR, hI, hK⟩
  have hu := spChart_r hI
  obtain ⟨vsb, hOB⟩ := zSb_ob hR.sb
  refine z_aload_n C 0 dX6_writeLine_0 rfl ?_
  refine z_iload_n C 1 dX6_writeLine_1 rfl ?_
  refine z_cVX (As := [.int (iI l)]) C zc_X6_requireLine (c_reqLine hX h4 hfl hR l hI (by omega)) zl_4_67 (Nat.le_of_ble_eq_true rfl) (Nat.le_of_ble_eq_true rfl) (Nat.le_of_ble_eq_true rfl) (hR.ob.1) (hR.ob.2) rfl rfl rfl rfl (Nat.le_of_ble_eq_true rfl) dX6_writeLine_2 (fun E L9 f9 hxE => z_xout C hnt (Nat.le_of_ble_eq_true rfl) (Nat.le_of_ble_eq_true rfl) (by obtain ⟨rfl, hx, rfl, rfl⟩ := hxE; exact CX_mk (j := 1) (v := 0) (μ' := μ) (by unfold o_writeLine; (repeat (first | rw [if_pos (by omega)] | rw [if_neg (by omega)]))) (by decide) rfl hC0)) (fun z2 L3 f4 hz5 => ?_)
  obtain ⟨rfl, hq1, rfl, rfl⟩ := hz5
  have hkn : (((l).toNat : Nat) : Int) = l := Int.toNat_of_nonneg (by omega)
  change ZW G pZ la eZ (zRm 8 16 480) sZ mZ aZ bZ hZ cZ AZ 3 1 6 _ L f 5 [(0, .ref o), (1, .int (iI l))] [.ref (ω 5 (l).toNat)]
  refine z_astore_n (ls' := [(2, .ref (ω 5 (l).toNat)), (0, .ref o), (1, .int (iI l))]) C dX6_writeLine_5 (Nat.le_of_ble_eq_true rfl) rfl ?_
  refine z_aload_n C 1 dX6_writeLine_6 rfl ?_
  refine z_getf C 5 zin_X6 (hR.ob.1) (hR.ob.2) rfl (Nat.le_of_ble_eq_true rfl) zl_1_144 rfl rfl dX6_writeLine_7 ?_
  refine z_iconst C dX6_writeLine_10 ?_
  refine z_cV (As := [.int (iI 0)]) C zc_J4_setLength_d00df (c_sb_setL hX hR.sb hP) zl_5_27 (Nat.le_of_ble_eq_true rfl) (Nat.le_of_ble_eq_true rfl) (Nat.le_of_ble_eq_true rfl) (hOB.1) (hOB.2) rfl rfl rfl rfl (Nat.le_of_ble_eq_true rfl) dX6_writeLine_11 (fun z6 L7 f8 hz9 => ?_)
  obtain ⟨b1, m1, hS1, hP1⟩ := hz9
  have hR2 : SR G L7 f8 o (zwB ω b1 m1) μ (spChart μ) (fun l => zrl μ l) [] := SR_wb hR hS1 hP1 hn.2.1 hn.1
  obtain ⟨vs10, hOB11⟩ := zSb_ob hR2.sb
  change ZW G pZ la eZ (zRm 8 16 480) sZ mZ aZ bZ hZ cZ AZ 3 2 40 _ L7 f8 14 [(2, .ref (ω 5 (l).toNat)), (0, .ref o), (1, .int (iI l))] []
  refine z_aload_n C 0 dX6_writeLine_14 rfl ?_
  refine z_aload_n C 1 dX6_writeLine_15 rfl ?_
  refine z_getf C 5 zin_X6 (hR2.ob.1) (hR2.ob.2) rfl (Nat.le_of_ble_eq_true rfl) zl_1_144 rfl rfl dX6_writeLine_16 ?_
  refine z_cV (As := [.ref (ω 0 5)]) C zc_X3_describeIn (c_describeIn hX (hR2.ln ((l).toNat) (by omega)) hR2.sb hT hP hI hK ⟨by omega, by omega⟩ ⟨hR2.inj (zUs_l0 (by omega)) (zUs_s (by omega)) (by omega), hR2.inj (zUs_l1 (by omega)) (zUs_s (by omega)) (by omega), hR2.inj (zUs_l2 (by omega)) (zUs_s (by omega)) (by omega)⟩) zl_6_40 (Nat.le_of_ble_eq_true rfl) (Nat.le_of_ble_eq_true rfl) (Nat.le_of_ble_eq_true rfl) ((hR2.ln ((l).toNat) (by omega)).1.1) ((hR2.ln ((l).toNat) (by omega)).1.2) rfl rfl rfl rfl (Nat.le_of_ble_eq_true rfl) dX6_writeLine_19 (fun z12 L13 f14 hz15 => ?_)
  obtain ⟨b2, m2, hS2, hP2⟩ := hz15
  have hR3 : SR G L13 f14 o (zwB (zwB ω b1 m1) b2 m2) μ (spChart μ) (fun l => zrl μ l) (spText μ l) := by have q := SR_wb hR2 hS2 hP2 hn.2.1 hn.1; rw [hkn] at q; exact q
  obtain ⟨vs16, hOB17⟩ := zSb_ob hR3.sb
  change ZW G pZ la eZ (zRm 8 16 480) sZ mZ aZ bZ hZ cZ AZ 3 14 448 _ L13 f14 22 [(2, .ref (ω 5 (l).toNat)), (0, .ref o), (1, .int (iI l))] []
  refine z_aload_n C 1 dX6_writeLine_22 rfl ?_
  refine z_getf C 5 zin_X6 (hR3.ob.1) (hR3.ob.2) rfl (Nat.le_of_ble_eq_true rfl) zl_1_144 rfl rfl dX6_writeLine_23 ?_
  refine z_cV (As := []) C zc_J4_length_8abf5 (c_sb_len hX hR3.sb) zl_6_73 (Nat.le_of_ble_eq_true rfl) (Nat.le_of_ble_eq_true rfl) (Nat.le_of_ble_eq_true rfl) (hOB17.1) (hOB17.2) rfl rfl rfl rfl (Nat.le_of_ble_eq_true rfl) dX6_writeLine_26 (fun zl L18 f19 hzl => ?_)
  obtain ⟨hzl, rfl, rfl⟩ := hzl
  change ZW G pZ la eZ (zRm 8 16 480) sZ mZ aZ bZ hZ cZ AZ 3 14 448 _ L13 f14 29 [(2, .ref (ω 5 (l).toNat)), (0, .ref o), (1, .int (iI l))] [.int (iI zl)]
  refine z_xr ?_
  exact z_ireturn C dX6_writeLine_29 (Nat.le_of_ble_eq_true rfl) (Nat.le_of_ble_eq_true rfl) (CR_mk (v := ((spText μ l).length : Int)) (μ' := zapp (zset μ 3 (fun _ => 0)) (spText μ l)) (by unfold o_writeLine; rw [if_pos (by omega)]) hzl ⟨_, SRC_app hR3, MI_app (MI_30 hI) (spText_good hI ⟨by omega, by omega⟩).1 (by have q := (spText_good hI (l := l) ⟨by omega, by omega⟩).2; rw [zset_s]; omega), hK⟩)

set_option maxRecDepth 100000 in
set_option maxHeartbeats 200000 in
theorem c_runAnew {la : Launch} {G : zG} {X : (Nat → Prop) → State → Prop} (hX : zX X) (h4 : zT4 X) (hfl : la.stackTraces = false) {L : List Nat} {f : Nat → va_E} {o : Nat} {ω : Nat → Nat → Nat} {μ : zMu} (hR : SRC G L f o ω μ) (l d h : Int) (hI : MI μ) (hK : MK μ) (hl : zR l) (hd : zR d) (hh : zR h) : zMX la G X yX6_runAnew (.code yX6_runAnew cX6_runAnew 5 (some .int) :: zT) 8 8 48 [.ref o, .int (iI l), .int (iI d), .int (iI h)] L f zeI (CR G o (o_runAnew μ l d h)) (CX G o ["java/util/NoSuchElementException", "java/lang/IndexOutOfBoundsException", "java/lang/UnsupportedOperationException", "java/lang/IllegalStateException"] (o_runAnew μ l d h)) := by
  refine zMX_intro hX (by decide) (Nat.le_of_ble_eq_true rfl) (fun pZ eZ sZ mZ aZ bZ hZ cZ AZ C hnt => ?_)
  change ZW G pZ la eZ (zRm 8 8 48) sZ mZ aZ bZ hZ cZ AZ 5 0 0 _ L f 0 [(0, .ref o), (1, .int (iI l)), (2, .int (iI d)), (3, .int (iI h))] []
  have hNO : zNO = -2147483648 := rfl
  have hn := hI.n
  have hSK : zSK (zK μ) := MJ_SK hI.J
  have hBl : ∀ j : Nat, (j : Int) < μ 2 0 → zLB μ j := fun j hj => hI.J.b12 j (by omega) (by omega)
  have hC0 : CSx G L f o μ := ⟨ω, hR, hI, hK⟩
  have hu := spChart_r hI
  refine z_aload_n C 0 dX6_runAnew_0 rfl ?_
  refine z_iload_n C 1 dX6_runAnew_1 rfl ?_
  refine z_cVX (As := [.int (iI l)]) C zc_X6_requireLine (c_reqLine hX h4 hfl hR l hI (by omega)) zl_4_67 (Nat.le_of_ble_eq_true rfl) (Nat.le_of_ble_eq_true rfl) (Nat.le_of_ble_eq_true rfl) (hR.ob.1) (hR.ob.2) rfl rfl rfl rfl (Nat.le_of_ble_eq_true rfl) dX6_runAnew_2 (fun E L9 f9 hxE => z_xout C hnt (Nat.le_of_ble_eq_true rfl) (Nat.le_of_ble_eq_true rfl) (by obtain ⟨rfl, hx, rfl, rfl⟩ := hxE; exact CX_mk (j := 1) (v := 0) (μ' := μ) (by unfold o_runAnew; (repeat (first | rw [if_pos (by omega)] | rw [if_neg (by omega)]))) (by decide) rfl hC0)) (fun z2 L3 f4 hz5 => ?_)
  obtain ⟨rfl, hq1, rfl, rfl⟩ := hz5
  have hkn : (((l).toNat : Nat) : Int) = l := Int.toNat_of_nonneg (by omega)
  change ZW G pZ la eZ (zRm 8 8 48) sZ mZ aZ bZ hZ cZ AZ 5 1 6 _ L f 5 [(0, .ref o), (1, .int (iI l)), (2, .int (iI d)), (3, .int (iI h))] [.ref (ω 5 (l).toNat)]
  refine z_astore (ls' := [(4, .ref (ω 5 (l).toNat)), (0, .ref o), (1, .int (iI l)), (2, .int (iI d)), (3, .int (iI h))]) C dX6_runAnew_5 (Nat.le_of_ble_eq_true rfl) rfl ?_
  refine z_iload_n C 3 dX6_runAnew_7 rfl ?_
  refine z_iload_n C 4 dX6_runAnew_8 rfl ?_
  refine z_cSX (As := [.int (iI d), .int (iI h)]) C zc_X6_requireHour (c_reqHour hX h4 hfl d h (by omega) (by omega)) zl_3_9 (Nat.le_of_ble_eq_true rfl) (Nat.le_of_ble_eq_true rfl) (Nat.le_of_ble_eq_true rfl) rfl rfl (Nat.le_of_ble_eq_true rfl) dX6_runAnew_9 (fun E L9 f9 hxE => z_xout C hnt (Nat.le_of_ble_eq_true rfl) (Nat.le_of_ble_eq_true rfl) (by obtain ⟨rfl, hx, rfl, rfl⟩ := hxE; exact CX_mk (j := 2) (v := 0) (μ' := μ) (by unfold o_runAnew; (repeat (first | rw [if_pos (by omega)] | rw [if_neg (by omega)]))) (by decide) rfl hC0)) (fun z7 L8 f9 hz10 => ?_)
  obtain ⟨hq6, rfl, rfl⟩ := hz10
  change ZW G pZ la eZ (zRm 8 8 48) sZ mZ aZ bZ hZ cZ AZ 5 2 12 _ L f 12 [(4, .ref (ω 5 (l).toNat)), (0, .ref o), (1, .int (iI l)), (2, .int (iI d)), (3, .int (iI h))] []
  refine z_aload_n C 1 dX6_runAnew_12 rfl ?_
  refine z_iload_n C 3 dX6_runAnew_13 rfl ?_
  refine z_cVX (As := [.int (iI d)]) C zc_X6_requireCalm (c_reqCalm hX h4 hfl hR d hI (by omega)) zl_3_230 (Nat.le_of_ble_eq_true rfl) (Nat.le_of_ble_eq_true rfl) (Nat.le_of_ble_eq_true rfl) (hR.ob.1) (hR.ob.2) rfl rfl rfl rfl (Nat.le_of_ble_eq_true rfl) dX6_runAnew_14 (fun E L9 f9 hxE => z_xout C hnt (Nat.le_of_ble_eq_true rfl) (Nat.le_of_ble_eq_true rfl) (by obtain ⟨rfl, hx, rfl, rfl⟩ := hxE; exact CX_mk (j := 3) (v := 0) (μ' := μ) (by unfold o_runAnew; (repeat (first | rw [if_pos (by omega)] | rw [if_neg (by omega)]))) (by decide) rfl hC0)) (fun z12 L13 f14 hz15 => ?_)
  obtain ⟨hq11, rfl, rfl⟩ := hz15
  change ZW G pZ la eZ (zRm 8 8 48) sZ mZ aZ bZ hZ cZ AZ 5 3 18 _ L f 17 [(4, .ref (ω 5 (l).toNat)), (0, .ref o), (1, .int (iI l)), (2, .int (iI d)), (3, .int (iI h))] []
  refine z_aload_n C 1 dX6_runAnew_17 rfl ?_
  refine z_aload C 0 dX6_runAnew_18 rfl ?_
  refine z_aload C 0 dX6_runAnew_20 rfl ?_
  refine z_cV (As := []) C zc_X3_lastBehind (c_lastBehind hX (hR.ln ((l).toNat) (by omega)) (hBl ((l).toNat) (by omega))) zl_1_222 (Nat.le_of_ble_eq_true rfl) (Nat.le_of_ble_eq_true rfl) (Nat.le_of_ble_eq_true rfl) ((hR.ln ((l).toNat) (by omega)).1.1) ((hR.ln ((l).toNat) (by omega)).1.2) rfl rfl rfl rfl (Nat.le_of_ble_eq_true rfl) dX6_runAnew_22 (fun z16 L17 f18 hz19 => ?_)
  obtain ⟨hz19, rfl, rfl⟩ := hz19
  subst hz19
  have hbsz := zLB_sz (hBl ((l).toNat) (by omega))
  have esz : spSize μ (((l).toNat : Nat) : Int) = spSize μ l := by rw [hkn]
  change ZW G pZ la eZ (zRm 8 8 48) sZ mZ aZ bZ hZ cZ AZ 5 3 18 _ L f 25 [(4, .ref (ω 5 (l).toNat)), (0, .ref o), (1, .int (iI l)), (2, .int (iI d)), (3, .int (iI h))] [.int (iI ((spSize μ (((l).toNat : Nat) : Int) - 1) / 5)), .ref (ω 5 (l).toNat), .ref o]
  refine z_iload_n C 3 dX6_runAnew_25 rfl ?_
  refine z_iload_n C 4 dX6_runAnew_26 rfl ?_
  refine z_cV (As := [.ref (ω 5 (l).toNat), .int (iI ((spSize μ (((l).toNat : Nat) : Int) - 1) / 5)), .int (iI d), .int (iI h)]) C zc_X6_isFree (c_isFree hX hR ((spSize μ (((l).toNat : Nat) : Int) - 1) / 5) d h l hI (by omega) (SR_free hR hkn (by omega)) (by omega) (by omega)) zl_3_236 (Nat.le_of_ble_eq_true rfl) (Nat.le_of_ble_eq_true rfl) (Nat.le_of_ble_eq_true rfl) (hR.ob.1) (hR.ob.2) rfl rfl rfl rfl (Nat.le_of_ble_eq_true rfl) dX6_runAnew_27 (fun zt L20 f21 hzt => ?_)
  obtain ⟨hzt, rfl, rfl⟩ := hzt
  rw [hkn] at hzt
  have hzt2 : zt = 0 ∨ zt = 1 := by
    rcases hzt with q | q
    · exact Or.inr q.1
    · exact Or.inl q.1
  change ZW G pZ la eZ (zRm 8 8 48) sZ mZ aZ bZ hZ cZ AZ 5 3 18 _ L f 30 [(4, .ref (ω 5 (l).toNat)), (0, .ref o), (1, .int (iI l)), (2, .int (iI d)), (3, .int (iI h))] [.int (iI zt)]
  refine z_if_ne C 43 dX6_runAnew_30 (by decide) (by omega) (fun h30 => ?_) (fun h30 => ?_)
  · have hfr9 : (h + (spSize μ l - 1) / 5 < 24 ∧ ¬ spBusy μ l d h (h + (spSize μ l - 1) / 5)) := by
      rcases hzt with ⟨q1, q2⟩ | ⟨q1, q2⟩
      · exact q2
      · clear q2; omega
    refine z_aload C 0 dX6_runAnew_43 rfl ?_
    refine z_aload_n C 1 dX6_runAnew_45 rfl ?_
    refine z_getf C 0 zin_X6 (hR.ob.1) (hR.ob.2) rfl (Nat.le_of_ble_eq_true rfl) zl_1_139 rfl rfl dX6_runAnew_46 ?_
    refine z_iload_n C 3 dX6_runAnew_49 rfl ?_
    refine z_iload_n C 4 dX6_runAnew_50 rfl ?_
    refine z_cV (As := [.ref (ω 0 0), .int (iI d), .int (iI h)]) C zc_X3_soundAll (c_soundAll hX (hR.ln ((l).toNat) (by omega)) hR.sea (by rw [hkn]; exact MJ_anew hI ⟨by omega, by omega⟩ ⟨⟨by omega, by omega⟩, by omega, by omega⟩ hfr9.1) ⟨by omega, by omega⟩ ⟨by omega, by omega⟩ ⟨by omega, by omega⟩ (by rw [hkn]; exact hfr9.1) ⟨hR.inj (zUs_l0 (by omega)) (zUs_l1 (by omega)) (by omega), hR.inj (zUs_l0 (by omega)) (zUs_l2 (by omega)) (by omega), hR.inj (zUs_l1 (by omega)) (zUs_l2 (by omega)) (by omega)⟩ (fun i hi => ⟨hR.inj (zUs_s (by omega)) (zUs_l0 (by omega)) (by omega), hR.inj (zUs_s (by omega)) (zUs_l1 (by omega)) (by omega)⟩)) zl_4_43 (Nat.le_of_ble_eq_true rfl) (Nat.le_of_ble_eq_true rfl) (Nat.le_of_ble_eq_true rfl) ((hR.ln ((l).toNat) (by omega)).1.1) ((hR.ln ((l).toNat) (by omega)).1.2) rfl rfl rfl rfl (Nat.le_of_ble_eq_true rfl) dX6_runAnew_51 (fun z22 L23 f24 hz25 => ?_)
    obtain ⟨rfl, hln9, hlk9⟩ := hz25
    have hR26 : SR G L f24 o ω (spAnewM μ l d h) (spChart μ) (fun l => zrl μ l) (spTx μ) := SR_snd hR hn.2.1 (l := l.toNat) (by omega) (by rw [hkn]; exact zSm_anew μ l d h) rfl (by rw [hkn] at hln9 ⊢; exact hln9) hlk9
    have hI2 : MI (spAnewM μ l d h) := MI_anew hI ⟨by omega, by omega⟩ ⟨⟨by omega, by omega⟩, by omega, by omega⟩ hfr9.1
    have hK2 : MK (spAnewM μ l d h) := MK_anew hK ⟨by omega, by omega⟩
    have hm1 : (spAnewM μ l d h) 1 0 = μ 1 0 := rfl
    have hm2 : (spAnewM μ l d h) 2 0 = μ 2 0 := rfl
    change ZW G pZ la eZ (zRm 8 8 48) sZ mZ aZ bZ hZ cZ AZ 5 3 18 _ L f24 54 [(4, .ref (ω 5 (l).toNat)), (0, .ref o), (1, .int (iI l)), (2, .int (iI d)), (3, .int (iI h))] []
    refine z_aload_n C 1 dX6_runAnew_54 rfl ?_
    refine z_cV (As := []) C zc_X6_refresh (c_refresh hX hR26 hI2 hK2 (zrd0_r μ)) zl_3_19 (Nat.le_of_ble_eq_true rfl) (Nat.le_of_ble_eq_true rfl) (Nat.le_of_ble_eq_true rfl) (hR26.ob.1) (hR26.ob.2) rfl rfl rfl rfl (Nat.le_of_ble_eq_true rfl) dX6_runAnew_55 (fun z28 L29 f30 hz31 => ?_)
    obtain ⟨rfl, hR27⟩ := hz31
    change ZW G pZ la eZ (zRm 8 8 48) sZ mZ aZ bZ hZ cZ AZ 5 3 18 _ L f30 58 [(4, .ref (ω 5 (l).toNat)), (0, .ref o), (1, .int (iI l)), (2, .int (iI d)), (3, .int (iI h))] []
    refine z_aload_n C 1 dX6_runAnew_58 rfl ?_
    refine z_getf C 4 zin_X6 (hR27.ob.1) (hR27.ob.2) rfl (Nat.le_of_ble_eq_true rfl) zl_1_143 rfl rfl dX6_runAnew_59 ?_
    refine z_cV (As := []) C zc_X0_countDepths (c_countDepths hX hR27.ct (spChart_r hI2)) zl_1_162 (Nat.le_of_ble_eq_true rfl) (Nat.le_of_ble_eq_true rfl) (Nat.le_of_ble_eq_true rfl) (hR27.ct.1.1) (hR27.ct.1.2) rfl rfl rfl rfl (Nat.le_of_ble_eq_true rfl) dX6_runAnew_62 (fun zc L32 f33 hzc => ?_)
    obtain ⟨hzc, rfl, rfl⟩ := hzc
    change ZW G pZ la eZ (zRm 8 8 48) sZ mZ aZ bZ hZ cZ AZ 5 3 18 _ L f30 65 [(4, .ref (ω 5 (l).toNat)), (0, .ref o), (1, .int (iI l)), (2, .int (iI d)), (3, .int (iI h))] [.int (iI zc)]
    refine z_xr ?_
    exact z_ireturn C dX6_runAnew_65 (Nat.le_of_ble_eq_true rfl) (Nat.le_of_ble_eq_true rfl) (CR_mk (v := spCharted (spAnewM μ l d h)) (μ' := (spAnewM μ l d h)) (by unfold o_runAnew; rw [if_pos (show spLine μ l from by omega), if_pos (show (0 ≤ d ∧ d ≤ 9) ∧ 0 ≤ h ∧ h ≤ 23 from by omega), if_pos (by omega)]; exact zif_yes hfr9.1 hfr9.2) hzc ⟨ω, hR27, hI2, hK2⟩)
  · have hnf9 : ¬ (h + (spSize μ l - 1) / 5 < 24 ∧ ¬ spBusy μ l d h (h + (spSize μ l - 1) / 5)) := by
      rcases hzt with ⟨q1, q2⟩ | ⟨q1, q2⟩
      · clear q2; omega
      · exact q2
    exact z_throwS C h4 hfl hnt (by decide +kernel) zl_3_117 zl_1_21 (List.mem_of_getElem? (i := 17) rfl) zthwISE zthgISE dX6_runAnew_33 dX6_runAnew_36 dX6_runAnew_37 dX6_runAnew_39 dX6_runAnew_42 (Nat.le_of_ble_eq_true rfl) (Nat.le_of_ble_eq_true rfl) (Nat.le_of_ble_eq_true rfl) (Nat.le_of_ble_eq_true rfl) (CX_mk (j := 4) (v := 0) (μ' := μ) (by unfold o_runAnew; rw [if_pos (show spLine μ l from by omega), if_pos (show (0 ≤ d ∧ d ≤ 9) ∧ 0 ≤ h ∧ h ≤ 23 from by omega), if_pos (by omega)]; exact zif_no hnf9) (by decide) rfl hC0)

set_option maxRecDepth 100000 in
set_option maxHeartbeats 1000000 in
theorem c_run {la : Launch} {G : zG} {X : (Nat → Prop) → State → Prop} (hX : zX X) (h4 : zT4 X) (hfl : la.stackTraces = false) {L : List Nat} {f : Nat → va_E} {o : Nat} {ω : Nat → Nat → Nat} {μ : zMu} (hR : SRC G L f o ω μ) (c i a b d h : Int) (hI : MI μ) (hK : MK μ) (hc : zR c) (hi : zR i) (ha : zR a) (hb : zR b) (hd : zR d) (hh : zR h) : zMX la G X yX6_run (.code yX6_run cX6_run 10 (some .int) :: zT) 8 16 600 [.ref o, .int (iI c), .int (iI i), .int (iI a), .int (iI b), .int (iI d), .int (iI h)] L f zeI (CR G o (o_run μ c i a b d h)) (CX G o ["java/lang/IllegalArgumentException", "java/lang/IndexOutOfBoundsException", "java/lang/UnsupportedOperationException", "java/lang/IllegalStateException"] (o_run μ c i a b d h)) := by
  refine zMX_intro hX (by decide) (Nat.le_of_ble_eq_true rfl) (fun pZ eZ sZ mZ aZ bZ hZ cZ AZ C hnt => ?_)
  change ZW G pZ la eZ (zRm 8 16 600) sZ mZ aZ bZ hZ cZ AZ 10 0 0 _ L f 0 [(0, .ref o), (1, .int (iI c)), (2, .int (iI i)), (3, .int (iI a)), (4, .int (iI b)), (5, .int (iI d)), (6, .int (iI h))] []
  have hNO : zNO = -2147483648 := rfl
  have hn := hI.n
  have hSK : zSK (zK μ) := MJ_SK hI.J
  have hBl : ∀ j : Nat, (j : Int) < μ 2 0 → zLB μ j := fun j hj => hI.J.b12 j (by omega) (by omega)
  have hC0 : CSx G L f o μ := ⟨ω, hR, hI, hK⟩
  have hu := spChart_r hI
  refine z_iload_n C 1 dX6_run_0 rfl ?_
  refine z_bipush C dX6_run_1 (by decide) ?_
  refine z_icmp_eq C 22 dX6_run_3 (by decide) (by omega) (by omega) (fun h3 => ?_) (fun h3 => ?_)
  · have J33 : ∀ (y : Int)   (hj33 : c = 114 ∧ y = 1 ∨ c ≠ 114 ∧ y = 0), ZW G pZ la eZ (zRm 8 16 600) sZ mZ aZ bZ hZ cZ AZ 10 0 0 (vx_MQ bZ (zQ G zeI (CR G o (o_run μ c i a b d h)) AZ) (zXC G (CX G o ["java/lang/IllegalArgumentException", "java/lang/IndexOutOfBoundsException", "java/lang/UnsupportedOperationException", "java/lang/IllegalStateException"] (o_run μ c i a b d h)) AZ) aZ sZ 16 600 AZ) L f 33 [(0, .ref o), (1, .int (iI c)), (2, .int (iI i)), (3, .int (iI a)), (4, .int (iI b)), (5, .int (iI d)), (6, .int (iI h))] [.int (iI y)] := by
      intro y   hj33
      have hyv := hj33
      refine z_istore (ls' := [(7, .int (iI y)), (0, .ref o), (1, .int (iI c)), (2, .int (iI i)), (3, .int (iI a)), (4, .int (iI b)), (5, .int (iI d)), (6, .int (iI h))]) C dX6_run_33 (Nat.le_of_ble_eq_true rfl) rfl ?_
      refine z_iload C 0 dX6_run_35 rfl ?_
      refine z_iload_n C 3 dX6_run_37 rfl ?_
      refine z_iload_n C 4 dX6_run_38 rfl ?_
      refine z_iload C 5 dX6_run_39 rfl ?_
      refine z_cSX (As := [.int (iI y), .int (iI i), .int (iI a), .int (iI b)]) C zc_X6_requireWay (c_reqWay hX h4 hfl y i a b (by omega) (by omega) (by omega) (by omega)) zl_3_226 (Nat.le_of_ble_eq_true rfl) (Nat.le_of_ble_eq_true rfl) (Nat.le_of_ble_eq_true rfl) rfl rfl (Nat.le_of_ble_eq_true rfl) dX6_run_41 (fun E L9 f9 hxE => z_xout C hnt (Nat.le_of_ble_eq_true rfl) (Nat.le_of_ble_eq_true rfl) (by obtain ⟨rfl, hx, rfl, rfl⟩ := hxE; exact CX_mk (j := 2) (v := 0) (μ' := μ) (by unfold o_run; rw [if_pos (by omega), if_neg (fun w => by have := spWay_iff.mp w; omega)]) (by decide) rfl hC0)) (fun z2 L3 f4 hz5 => ?_)
      obtain ⟨hq1, rfl, rfl⟩ := hz5
      change ZW G pZ la eZ (zRm 8 16 600) sZ mZ aZ bZ hZ cZ AZ 10 1 6 _ L f 44 [(7, .int (iI y)), (0, .ref o), (1, .int (iI c)), (2, .int (iI i)), (3, .int (iI a)), (4, .int (iI b)), (5, .int (iI d)), (6, .int (iI h))] []
      refine z_iload C 6 dX6_run_44 rfl ?_
      refine z_iload C 7 dX6_run_46 rfl ?_
      refine z_cSX (As := [.int (iI d), .int (iI h)]) C zc_X6_requireHour (c_reqHour hX h4 hfl d h (by omega) (by omega)) zl_3_9 (Nat.le_of_ble_eq_true rfl) (Nat.le_of_ble_eq_true rfl) (Nat.le_of_ble_eq_true rfl) rfl rfl (Nat.le_of_ble_eq_true rfl) dX6_run_48 (fun E L9 f9 hxE => z_xout C hnt (Nat.le_of_ble_eq_true rfl) (Nat.le_of_ble_eq_true rfl) (by obtain ⟨rfl, hx, rfl, rfl⟩ := hxE; exact CX_mk (j := 2) (v := 0) (μ' := μ) (by unfold o_run; rw [if_pos (by omega), if_neg (fun w => by have := spWay_iff.mp w; omega)]) (by decide) rfl hC0)) (fun z7 L8 f9 hz10 => ?_)
      obtain ⟨hq6, rfl, rfl⟩ := hz10
      change ZW G pZ la eZ (zRm 8 16 600) sZ mZ aZ bZ hZ cZ AZ 10 2 12 _ L f 51 [(7, .int (iI y)), (0, .ref o), (1, .int (iI c)), (2, .int (iI i)), (3, .int (iI a)), (4, .int (iI b)), (5, .int (iI d)), (6, .int (iI h))] []
      refine z_aload_n C 1 dX6_run_51 rfl ?_
      refine z_iload C 6 dX6_run_52 rfl ?_
      refine z_cVX (As := [.int (iI d)]) C zc_X6_requireCalm (c_reqCalm hX h4 hfl hR d hI (by omega)) zl_3_230 (Nat.le_of_ble_eq_true rfl) (Nat.le_of_ble_eq_true rfl) (Nat.le_of_ble_eq_true rfl) (hR.ob.1) (hR.ob.2) rfl rfl rfl rfl (Nat.le_of_ble_eq_true rfl) dX6_run_54 (fun E L9 f9 hxE => z_xout C hnt (Nat.le_of_ble_eq_true rfl) (Nat.le_of_ble_eq_true rfl) (by obtain ⟨rfl, hx, rfl, rfl⟩ := hxE; exact CX_mk (j := 3) (v := 0) (μ' := μ) (by unfold o_run; rw [if_pos (by omega), if_pos (spWay_iff.mpr (by omega)), if_neg (by omega)]) (by decide) rfl hC0)) (fun z12 L13 f14 hz15 => ?_)
      obtain ⟨hq11, rfl, rfl⟩ := hz15
      change ZW G pZ la eZ (zRm 8 16 600) sZ mZ aZ bZ hZ cZ AZ 10 3 18 _ L f 57 [(7, .int (iI y)), (0, .ref o), (1, .int (iI c)), (2, .int (iI i)), (3, .int (iI a)), (4, .int (iI b)), (5, .int (iI d)), (6, .int (iI h))] []
      refine z_aload_n C 1 dX6_run_57 rfl ?_
      refine z_getf C 3 zin_X6 (hR.ob.1) (hR.ob.2) rfl (Nat.le_of_ble_eq_true rfl) zl_1_142 rfl rfl dX6_run_58 ?_
      refine z_nm (fun x16 hx16 => ?_)
      refine z_istore (ls' := [(8, .int (iI x16)), (7, .int (iI y)), (0, .ref o), (1, .int (iI c)), (2, .int (iI i)), (3, .int (iI a)), (4, .int (iI b)), (5, .int (iI d)), (6, .int (iI h))]) C dX6_run_61 (Nat.le_of_ble_eq_true rfl) rfl ?_
      have hway : spWay c i a b d h := spWay_iff.mpr (by omega)
      have hab9 := spWay_ab hway
      refine z_iload C 0 dX6_run_63 rfl ?_
      refine z_if_lt C 96 dX6_run_65 (by decide) (by omega) (fun h65 => ?_) (fun h65 => ?_)
      · exfalso; omega
      · refine z_iload C 0 dX6_run_68 rfl ?_
        refine z_aload_n C 2 dX6_run_70 rfl ?_
        refine z_getf C 2 zin_X6 (hR.ob.1) (hR.ob.2) rfl (Nat.le_of_ble_eq_true rfl) zl_1_141 rfl rfl dX6_run_71 ?_
        refine z_alenP C (hR.la) rfl dX6_run_74 ?_
        refine z_icmp_ge C 96 dX6_run_75 (by decide) (by omega) (by omega) (fun h75 => ?_) (fun h75 => ?_)
        · have hnf9 : ¬ ((μ 2 0 ≠ 16 ∧ h + (spSz a b - 1) / 5 < 24) ∧ ¬ spBusy μ (-1) d h (h + (spSz a b - 1) / 5)) := by
            first
            | (intro w; have := w.1.1; omega)
            | (rcases hzt with ⟨q1, q2⟩ | ⟨q1, q2⟩
               · clear q2; omega
               · exact fun w => q2 ⟨w.1.2, w.2⟩)
          exact z_throwS C h4 hfl hnt (by decide +kernel) zl_3_117 zl_1_21 (List.mem_of_getElem? (i := 17) rfl) zthwISE zthgISE dX6_run_96 dX6_run_99 dX6_run_100 dX6_run_102 dX6_run_105 (Nat.le_of_ble_eq_true rfl) (Nat.le_of_ble_eq_true rfl) (Nat.le_of_ble_eq_true rfl) (Nat.le_of_ble_eq_true rfl) (CX_mk (j := 4) (v := 0) (μ' := μ) (by unfold o_run; rw [if_pos (by omega), if_pos hway, if_pos (by omega)]; exact zif_no hnf9) (by decide) rfl hC0)
        · refine z_aload_n C 2 dX6_run_78 rfl ?_
          refine z_aconstN C dX6_run_79 ?_
          refine z_iload_n C 5 dX6_run_80 rfl ?_
          refine z_iload C 6 dX6_run_81 rfl ?_
          refine z_cS (As := [.int (iI a), .int (iI b)]) C zc_X6_hoursBehind (c_hoursBehind hX a b (by omega) (by omega)) zl_3_235 (Nat.le_of_ble_eq_true rfl) (Nat.le_of_ble_eq_true rfl) (Nat.le_of_ble_eq_true rfl) rfl rfl (Nat.le_of_ble_eq_true rfl) dX6_run_83 (fun z17 L18 f19 hz20 => ?_)
          obtain ⟨hz20, rfl, rfl⟩ := hz20
          subst hz20
          change ZW G pZ la eZ (zRm 8 16 600) sZ mZ aZ bZ hZ cZ AZ 10 3 18 _ L f 86 [(8, .int (iI x16)), (7, .int (iI y)), (0, .ref o), (1, .int (iI c)), (2, .int (iI i)), (3, .int (iI a)), (4, .int (iI b)), (5, .int (iI d)), (6, .int (iI h))] [.int (iI ((spSz a b - 1) / 5)), va_rf none, .ref o]
          refine z_iload C 7 dX6_run_86 rfl ?_
          refine z_iload C 8 dX6_run_88 rfl ?_
          refine z_cV (As := [va_rf none, .int (iI ((spSz a b - 1) / 5)), .int (iI d), .int (iI h)]) C zc_X6_isFree (c_isFreeN hX hR ((spSz a b - 1) / 5) d h (-1) hI (by omega) (by omega) (by omega) (by omega)) zl_3_236 (Nat.le_of_ble_eq_true rfl) (Nat.le_of_ble_eq_true rfl) (Nat.le_of_ble_eq_true rfl) (hR.ob.1) (hR.ob.2) rfl rfl rfl rfl (Nat.le_of_ble_eq_true rfl) dX6_run_90 (fun zt L21 f22 hzt => ?_)
          obtain ⟨hzt, rfl, rfl⟩ := hzt
          have hzt2 : zt = 0 ∨ zt = 1 := by
            rcases hzt with q | q
            · exact Or.inr q.1
            · exact Or.inl q.1
          change ZW G pZ la eZ (zRm 8 16 600) sZ mZ aZ bZ hZ cZ AZ 10 3 18 _ L f 93 [(8, .int (iI x16)), (7, .int (iI y)), (0, .ref o), (1, .int (iI c)), (2, .int (iI i)), (3, .int (iI a)), (4, .int (iI b)), (5, .int (iI d)), (6, .int (iI h))] [.int (iI zt)]
          refine z_if_ne C 106 dX6_run_93 (by decide) (by omega) (fun h93 => ?_) (fun h93 => ?_)
          · have hfr9 : ((μ 2 0 ≠ 16 ∧ h + (spSz a b - 1) / 5 < 24) ∧ ¬ spBusy μ (-1) d h (h + (spSz a b - 1) / 5)) := by
              rcases hzt with ⟨q1, q2⟩ | ⟨q1, q2⟩
              · exact ⟨⟨by clear q2; omega, q2.1⟩, q2.2⟩
              · clear q2; omega
            have hzn9 : zanew (zline μ (μ 2 0) y i a b 0 0) (μ 2 0) d h = zline μ (μ 2 0) (bI (c = 114)) i a b d h := by
              rw [zanew_zline]
              have e : y = bI (c = 114) := by
                unfold bI
                rcases hyv with q | q
                · rw [if_pos q.1]; exact q.2
                · rw [if_neg q.1]; exact q.2
              rw [e]
            refine z_newG (ci := 7) (fs := [.int 0, .int 0, .int 0, .int 0, .int 0, .int 0, .int 0, .null, .null, .null]) C zin_X3 tyX3_ok zl_1_91 zl_2_17 zl_1_19 rfl (by decide) (Nat.le_of_ble_eq_true rfl) (Nat.le_of_ble_eq_true rfl) dX6_run_106 (fun q23 L24 f25 hq26 hL27 hob28 hk29 => ?_)
            change ZW G pZ la eZ (zRm 8 16 600) sZ mZ aZ bZ hZ cZ AZ 10 4 28 _ L24 f25 109 [(8, .int (iI x16)), (7, .int (iI y)), (0, .ref o), (1, .int (iI c)), (2, .int (iI i)), (3, .int (iI a)), (4, .int (iI b)), (5, .int (iI d)), (6, .int (iI h))] [.ref q23]
            refine z_dup C dX6_run_109 rfl ?_
            refine z_iload C 1 dX6_run_110 rfl ?_
            refine z_iload_n C 4 dX6_run_112 rfl ?_
            refine z_iload_n C 5 dX6_run_113 rfl ?_
            refine z_iload C 6 dX6_run_114 rfl ?_
            refine z_cI (As := [.int (iI y), .int (iI i), .int (iI a), .int (iI b)]) C zc_X3_init (c_newLine hX hob28 y i a b (by omega) (by omega) (by omega)) zl_4_6 (Nat.le_of_ble_eq_true rfl) (Nat.le_of_ble_eq_true rfl) (Nat.le_of_ble_eq_true rfl) rfl rfl (Nat.le_of_ble_eq_true rfl) dX6_run_116 (fun z31 L32 f33 hz34 => ?_)
            obtain ⟨r0o, r1o, r2o, r0a, r1a, r2a, hob9, hr09, hr19, hr29, hna9, hda9, hF9⟩ := hz34
            have hE30 := zExt_new hq26 hL27 hk29 hF9
            have hq9 : q23 ∉ L := hq26
            have hna : r0a ∉ L ∧ r1a ∉ L ∧ r2a ∉ L := ⟨fun z9 => hna9.1 (by rw [hL27]; exact List.mem_append.mpr (Or.inl z9)), fun z9 => hna9.2.1 (by rw [hL27]; exact List.mem_append.mpr (Or.inl z9)), fun z9 => hna9.2.2 (by rw [hL27]; exact List.mem_append.mpr (Or.inl z9))⟩
            have hw := zLn_new (μ := μ) (l := μ 2 0) hob9 hr09 hr19 hr29
            have hR3 := SR_e hR hE30
            have hBw : zLB (zline μ (μ 2 0) y i a b 0 0) (μ 2 0) := by
              obtain ⟨e12, e13, e14, e15, e16, e17⟩ := zline_at μ (μ 2 0) y i a b 0 0
              unfold zLB
              rw [e12, e13, e14, e15, e16, e17]
              omega
            have hC3 : CSx G L32 f33 o μ := ⟨ω, hR3, hI, hK⟩
            change ZW G pZ la eZ (zRm 8 16 600) sZ mZ aZ bZ hZ cZ AZ 10 10 454 _ L32 f33 119 [(8, .int (iI x16)), (7, .int (iI y)), (0, .ref o), (1, .int (iI c)), (2, .int (iI i)), (3, .int (iI a)), (4, .int (iI b)), (5, .int (iI d)), (6, .int (iI h))] [.ref q23]
            refine z_astore (ls' := [(9, .ref q23), (8, .int (iI x16)), (7, .int (iI y)), (0, .ref o), (1, .int (iI c)), (2, .int (iI i)), (3, .int (iI a)), (4, .int (iI b)), (5, .int (iI d)), (6, .int (iI h))]) C dX6_run_119 (Nat.le_of_ble_eq_true rfl) rfl ?_
            refine z_aload_n C 3 dX6_run_121 rfl ?_
            refine z_getf C 2 zin_X6 (hR3.ob.1) (hR3.ob.2) rfl (Nat.le_of_ble_eq_true rfl) zl_1_141 rfl rfl dX6_run_122 ?_
            refine z_iload C 1 dX6_run_125 rfl ?_
            refine z_aload C 0 dX6_run_127 rfl ?_
            have hN0 : (((μ 2 0).toNat : Nat) : Int) = μ 2 0 := Int.toNat_of_nonneg (by omega)
            refine z_aast (t := 7) (ci := 7) C hR3.la rfl (by decide) (by omega) (by omega) ⟨hw.1.1, hw.1.2⟩ rfl dX6_run_129 (fun f35 hP36 hk37 => ?_)
            change ZW G pZ la eZ (zRm 8 16 600) sZ mZ aZ bZ hZ cZ AZ 10 10 454 _ L32 f35 130 [(9, .ref q23), (8, .int (iI x16)), (7, .int (iI y)), (0, .ref o), (1, .int (iI c)), (2, .int (iI i)), (3, .int (iI a)), (4, .int (iI b)), (5, .int (iI d)), (6, .int (iI h))] []
            rw [show x16 = μ 2 0 by omega] at hP36
            have ho4 : zOb L32 f35 o 10 [.ref (ω 0 0), .ref (ω 0 1), .ref (ω 0 3), .int (iI (μ 2 0)), .ref (ω 0 4), .ref (ω 0 5)] := ⟨hR3.ob.1, by rw [hk37 _ (zne_P hR3.ob.2 hR3.la)]; exact hR3.ob.2⟩
            refine z_aload_n C 3 dX6_run_130 rfl ?_
            refine z_iload C 1 dX6_run_131 rfl ?_
            refine z_iconst C dX6_run_133 ?_
            refine z_iadd C dX6_run_134 ?_
            refine z_putG C 3 zin_X6 tyX6_ok nmX6 ho4.1 ho4.2 rfl (Nat.le_of_ble_eq_true rfl) zl_1_142 rfl rfl rfl rfl rfl (Nat.le_of_ble_eq_true rfl) dX6_run_135 (fun f38 hf39 hk40 => ?_)
            have hkp := SR_kp hR3 hk37 hk40
            have hS5 := zKp_sea hkp hR3.ob.2 hR3.la (by decide) (by decide) hR3.sea
            have hw5 := zKp_ln hkp hR3.ob.2 hR3.la (by decide) (by decide) hw
            have ho5 : zOb L32 f38 o 10 [.ref (ω 0 0), .ref (ω 0 1), .ref (ω 0 3), .int (iI (μ 2 0 + 1)), .ref (ω 0 4), .ref (ω 0 5)] := ⟨hR3.ob.1, by have q := hf39; rw [show x16 + 1 = μ 2 0 + 1 by omega] at q; exact q⟩
            refine z_aload C 0 dX6_run_138 rfl ?_
            refine z_aload_n C 3 dX6_run_140 rfl ?_
            refine z_getf C 0 zin_X6 (ho5.1) (ho5.2) rfl (Nat.le_of_ble_eq_true rfl) zl_1_139 rfl rfl dX6_run_141 ?_
            refine z_iload C 8 dX6_run_144 rfl ?_
            refine z_iload C 9 dX6_run_146 rfl ?_
            refine z_cV (As := [.ref (ω 0 0), .int (iI d), .int (iI h)]) C zc_X3_soundAll (c_soundAll hX hw5 hS5 (by rw [hzn9]; exact MJ_run hI (by omega) hway hfr9.1.2) ⟨by omega, by omega⟩ ⟨by omega, by omega⟩ ⟨by omega, by omega⟩ (by rw [hzn9, zline_size]; exact hfr9.1.2) hda9 (fun i hi => ⟨fun z9 => hna.1 (z9 ▸ SR_mem hR hn.2.1 hn.1 (zUs_s (by omega))), fun z9 => hna.2.1 (z9 ▸ SR_mem hR hn.2.1 hn.1 (zUs_s (by omega)))⟩)) zl_4_43 (Nat.le_of_ble_eq_true rfl) (Nat.le_of_ble_eq_true rfl) (Nat.le_of_ble_eq_true rfl) (hw5.1.1) (hw5.1.2) rfl rfl rfl rfl (Nat.le_of_ble_eq_true rfl) dX6_run_148 (fun z41 L42 f43 hz44 => ?_)
            obtain ⟨rfl, hln9, hlk9⟩ := hz44
            have hln8 : zLn G L32 f43 q23 (spRunM μ c i a b d h) (μ 2 0) r0o r1o r2o r0a r1a r2a (zsl (spRunM μ c i a b d h) (μ 2 0)) (zel (spRunM μ c i a b d h) (μ 2 0)) (fun _ => zNO) := by have q := hln9; rw [hzn9] at q; exact q
            have hR45 : SR G L32 f43 o (zwL ω (μ 2 0).toNat q23 r0o r1o r2o r0a r1a r2a) (spRunM μ c i a b d h) (spChart μ) (fun l => if l = (μ 2 0).toNat then (fun _ => zNO) else zrl μ l) (spTx μ) := SR_run hR hn.2.1 hn.1 hN0 (by rw [hN0]; exact zSm_run μ c i a b d h) rfl hE30 rfl hP36 hk37 ho5.2 hk40 (by rw [hN0]; exact hln8) hlk9 hq9 hna hda9
            have hrd9 : zrd0 (spRunM μ c i a b d h) (fun l : Nat => if l = (μ 2 0).toNat then (fun _ => zNO) else zrl μ l) := fun l hl p q0 q1 => by
              dsimp only
              by_cases e : l = (μ 2 0).toNat
              · rw [if_pos e]
              · rw [if_neg e]
                have hl2 : (l : Int) < μ 2 0 + 1 := hl
                have es : spSize (spRunM μ c i a b d h) l = spSize μ l := zSm_size (zSm_run μ c i a b d h) (by omega) (by omega) (by omega)
                rw [es] at q0
                exact zrd0_r μ l (by omega) p q0 q1
            have hI2 : MI (spRunM μ c i a b d h) := MI_run hI (by omega) hway hfr9.1.2 hfr9.1.1
            have hK2 : MK (spRunM μ c i a b d h) := MK_run hI hK c i a b d h
            generalize zwL ω (μ 2 0).toNat q23 r0o r1o r2o r0a r1a r2a = ω9 at hR45
            have hm1 : (spRunM μ c i a b d h) 1 0 = μ 1 0 := rfl
            have hm2 : (spRunM μ c i a b d h) 2 0 = μ 2 0 + 1 := rfl
            change ZW G pZ la eZ (zRm 8 16 600) sZ mZ aZ bZ hZ cZ AZ 10 10 454 _ L32 f43 151 [(9, .ref q23), (8, .int (iI x16)), (7, .int (iI y)), (0, .ref o), (1, .int (iI c)), (2, .int (iI i)), (3, .int (iI a)), (4, .int (iI b)), (5, .int (iI d)), (6, .int (iI h))] []
            refine z_aload_n C 3 dX6_run_151 rfl ?_
            refine z_cV (As := []) C zc_X6_refresh (c_refresh hX hR45 hI2 hK2 hrd9) zl_3_19 (Nat.le_of_ble_eq_true rfl) (Nat.le_of_ble_eq_true rfl) (Nat.le_of_ble_eq_true rfl) (hR45.ob.1) (hR45.ob.2) rfl rfl rfl rfl (Nat.le_of_ble_eq_true rfl) dX6_run_152 (fun z47 L48 f49 hz50 => ?_)
            obtain ⟨rfl, hR46⟩ := hz50
            change ZW G pZ la eZ (zRm 8 16 600) sZ mZ aZ bZ hZ cZ AZ 10 10 454 _ L32 f49 155 [(9, .ref q23), (8, .int (iI x16)), (7, .int (iI y)), (0, .ref o), (1, .int (iI c)), (2, .int (iI i)), (3, .int (iI a)), (4, .int (iI b)), (5, .int (iI d)), (6, .int (iI h))] []
            refine z_iload C 1 dX6_run_155 rfl ?_
            refine z_xr ?_
            exact z_ireturn C dX6_run_157 (Nat.le_of_ble_eq_true rfl) (Nat.le_of_ble_eq_true rfl) (CR_mk (v := μ 2 0) (μ' := (spRunM μ c i a b d h)) (by unfold o_run; rw [if_pos (by omega), if_pos hway, if_pos (by omega)]; exact zif_yes hfr9.1 hfr9.2) (by omega) ⟨ω9, hR46, hI2, hK2⟩)
          · have hnf9 : ¬ ((μ 2 0 ≠ 16 ∧ h + (spSz a b - 1) / 5 < 24) ∧ ¬ spBusy μ (-1) d h (h + (spSz a b - 1) / 5)) := by
              first
              | (intro w; have := w.1.1; omega)
              | (rcases hzt with ⟨q1, q2⟩ | ⟨q1, q2⟩
                 · clear q2; omega
                 · exact fun w => q2 ⟨w.1.2, w.2⟩)
            exact z_throwS C h4 hfl hnt (by decide +kernel) zl_3_117 zl_1_21 (List.mem_of_getElem? (i := 17) rfl) zthwISE zthgISE dX6_run_96 dX6_run_99 dX6_run_100 dX6_run_102 dX6_run_105 (Nat.le_of_ble_eq_true rfl) (Nat.le_of_ble_eq_true rfl) (Nat.le_of_ble_eq_true rfl) (Nat.le_of_ble_eq_true rfl) (CX_mk (j := 4) (v := 0) (μ' := μ) (by unfold o_run; rw [if_pos (by omega), if_pos hway, if_pos (by omega)]; exact zif_no hnf9) (by decide) rfl hC0)
    refine z_iload_n C 1 dX6_run_22 rfl ?_
    refine z_bipush C dX6_run_23 (by decide) ?_
    refine z_icmp_ne C 32 dX6_run_25 (by decide) (by omega) (by omega) (fun h25 => ?_) (fun h25 => ?_)
    · refine z_iconst C dX6_run_32 ?_
      refine z_perm [0, 1, 2, 3, 4, 5, 6] rfl ?_
      exact J33 _  (by omega)
    · refine z_iconst C dX6_run_28 ?_
      refine z_goto C 33 dX6_run_29 (by decide) ?_
      refine z_perm [0, 1, 2, 3, 4, 5, 6] rfl ?_
      exact J33 _  (by omega)
  · refine z_iload_n C 1 dX6_run_6 rfl ?_
    refine z_bipush C dX6_run_7 (by decide) ?_
    refine z_icmp_eq C 22 dX6_run_9 (by decide) (by omega) (by omega) (fun h9 => ?_) (fun h9 => ?_)
    · have J33 : ∀ (y : Int)   (hj33 : c = 114 ∧ y = 1 ∨ c ≠ 114 ∧ y = 0), ZW G pZ la eZ (zRm 8 16 600) sZ mZ aZ bZ hZ cZ AZ 10 0 0 (vx_MQ bZ (zQ G zeI (CR G o (o_run μ c i a b d h)) AZ) (zXC G (CX G o ["java/lang/IllegalArgumentException", "java/lang/IndexOutOfBoundsException", "java/lang/UnsupportedOperationException", "java/lang/IllegalStateException"] (o_run μ c i a b d h)) AZ) aZ sZ 16 600 AZ) L f 33 [(0, .ref o), (1, .int (iI c)), (2, .int (iI i)), (3, .int (iI a)), (4, .int (iI b)), (5, .int (iI d)), (6, .int (iI h))] [.int (iI y)] := by
        intro y   hj33
        have hyv := hj33
        refine z_istore (ls' := [(7, .int (iI y)), (0, .ref o), (1, .int (iI c)), (2, .int (iI i)), (3, .int (iI a)), (4, .int (iI b)), (5, .int (iI d)), (6, .int (iI h))]) C dX6_run_33 (Nat.le_of_ble_eq_true rfl) rfl ?_
        refine z_iload C 0 dX6_run_35 rfl ?_
        refine z_iload_n C 3 dX6_run_37 rfl ?_
        refine z_iload_n C 4 dX6_run_38 rfl ?_
        refine z_iload C 5 dX6_run_39 rfl ?_
        refine z_cSX (As := [.int (iI y), .int (iI i), .int (iI a), .int (iI b)]) C zc_X6_requireWay (c_reqWay hX h4 hfl y i a b (by omega) (by omega) (by omega) (by omega)) zl_3_226 (Nat.le_of_ble_eq_true rfl) (Nat.le_of_ble_eq_true rfl) (Nat.le_of_ble_eq_true rfl) rfl rfl (Nat.le_of_ble_eq_true rfl) dX6_run_41 (fun E L9 f9 hxE => z_xout C hnt (Nat.le_of_ble_eq_true rfl) (Nat.le_of_ble_eq_true rfl) (by obtain ⟨rfl, hx, rfl, rfl⟩ := hxE; exact CX_mk (j := 2) (v := 0) (μ' := μ) (by unfold o_run; rw [if_pos (by omega), if_neg (fun w => by have := spWay_iff.mp w; omega)]) (by decide) rfl hC0)) (fun z52 L53 f54 hz55 => ?_)
        obtain ⟨hq51, rfl, rfl⟩ := hz55
        change ZW G pZ la eZ (zRm 8 16 600) sZ mZ aZ bZ hZ cZ AZ 10 1 6 _ L f 44 [(7, .int (iI y)), (0, .ref o), (1, .int (iI c)), (2, .int (iI i)), (3, .int (iI a)), (4, .int (iI b)), (5, .int (iI d)), (6, .int (iI h))] []
        refine z_iload C 6 dX6_run_44 rfl ?_
        refine z_iload C 7 dX6_run_46 rfl ?_
        refine z_cSX (As := [.int (iI d), .int (iI h)]) C zc_X6_requireHour (c_reqHour hX h4 hfl d h (by omega) (by omega)) zl_3_9 (Nat.le_of_ble_eq_true rfl) (Nat.le_of_ble_eq_true rfl) (Nat.le_of_ble_eq_true rfl) rfl rfl (Nat.le_of_ble_eq_true rfl) dX6_run_48 (fun E L9 f9 hxE => z_xout C hnt (Nat.le_of_ble_eq_true rfl) (Nat.le_of_ble_eq_true rfl) (by obtain ⟨rfl, hx, rfl, rfl⟩ := hxE; exact CX_mk (j := 2) (v := 0) (μ' := μ) (by unfold o_run; rw [if_pos (by omega), if_neg (fun w => by have := spWay_iff.mp w; omega)]) (by decide) rfl hC0)) (fun z57 L58 f59 hz60 => ?_)
        obtain ⟨hq56, rfl, rfl⟩ := hz60
        change ZW G pZ la eZ (zRm 8 16 600) sZ mZ aZ bZ hZ cZ AZ 10 2 12 _ L f 51 [(7, .int (iI y)), (0, .ref o), (1, .int (iI c)), (2, .int (iI i)), (3, .int (iI a)), (4, .int (iI b)), (5, .int (iI d)), (6, .int (iI h))] []
        refine z_aload_n C 1 dX6_run_51 rfl ?_
        refine z_iload C 6 dX6_run_52 rfl ?_
        refine z_cVX (As := [.int (iI d)]) C zc_X6_requireCalm (c_reqCalm hX h4 hfl hR d hI (by omega)) zl_3_230 (Nat.le_of_ble_eq_true rfl) (Nat.le_of_ble_eq_true rfl) (Nat.le_of_ble_eq_true rfl) (hR.ob.1) (hR.ob.2) rfl rfl rfl rfl (Nat.le_of_ble_eq_true rfl) dX6_run_54 (fun E L9 f9 hxE => z_xout C hnt (Nat.le_of_ble_eq_true rfl) (Nat.le_of_ble_eq_true rfl) (by obtain ⟨rfl, hx, rfl, rfl⟩ := hxE; exact CX_mk (j := 3) (v := 0) (μ' := μ) (by unfold o_run; rw [if_pos (by omega), if_pos (spWay_iff.mpr (by omega)), if_neg (by omega)]) (by decide) rfl hC0)) (fun z62 L63 f64 hz65 => ?_)
        obtain ⟨hq61, rfl, rfl⟩ := hz65
        change ZW G pZ la eZ (zRm 8 16 600) sZ mZ aZ bZ hZ cZ AZ 10 3 18 _ L f 57 [(7, .int (iI y)), (0, .ref o), (1, .int (iI c)), (2, .int (iI i)), (3, .int (iI a)), (4, .int (iI b)), (5, .int (iI d)), (6, .int (iI h))] []
        refine z_aload_n C 1 dX6_run_57 rfl ?_
        refine z_getf C 3 zin_X6 (hR.ob.1) (hR.ob.2) rfl (Nat.le_of_ble_eq_true rfl) zl_1_142 rfl rfl dX6_run_58 ?_
        refine z_nm (fun x66 hx66 => ?_)
        refine z_istore (ls' := [(8, .int (iI x66)), (7, .int (iI y)), (0, .ref o), (1, .int (iI c)), (2, .int (iI i)), (3, .int (iI a)), (4, .int (iI b)), (5, .int (iI d)), (6, .int (iI h))]) C dX6_run_61 (Nat.le_of_ble_eq_true rfl) rfl ?_
        have hway : spWay c i a b d h := spWay_iff.mpr (by omega)
        have hab9 := spWay_ab hway
        refine z_iload C 0 dX6_run_63 rfl ?_
        refine z_if_lt C 96 dX6_run_65 (by decide) (by omega) (fun h65 => ?_) (fun h65 => ?_)
        · exfalso; omega
        · refine z_iload C 0 dX6_run_68 rfl ?_
          refine z_aload_n C 2 dX6_run_70 rfl ?_
          refine z_getf C 2 zin_X6 (hR.ob.1) (hR.ob.2) rfl (Nat.le_of_ble_eq_true rfl) zl_1_141 rfl rfl dX6_run_71 ?_
          refine z_alenP C (hR.la) rfl dX6_run_74 ?_
          refine z_icmp_ge C 96 dX6_run_75 (by decide) (by omega) (by omega) (fun h75 => ?_) (fun h75 => ?_)
          · have hnf9 : ¬ ((μ 2 0 ≠ 16 ∧ h + (spSz a b - 1) / 5 < 24) ∧ ¬ spBusy μ (-1) d h (h + (spSz a b - 1) / 5)) := by
              first
              | (intro w; have := w.1.1; omega)
              | (rcases hzt with ⟨q1, q2⟩ | ⟨q1, q2⟩
                 · clear q2; omega
                 · exact fun w => q2 ⟨w.1.2, w.2⟩)
            exact z_throwS C h4 hfl hnt (by decide +kernel) zl_3_117 zl_1_21 (List.mem_of_getElem? (i := 17) rfl) zthwISE zthgISE dX6_run_96 dX6_run_99 dX6_run_100 dX6_run_102 dX6_run_105 (Nat.le_of_ble_eq_true rfl) (Nat.le_of_ble_eq_true rfl) (Nat.le_of_ble_eq_true rfl) (Nat.le_of_ble_eq_true rfl) (CX_mk (j := 4) (v := 0) (μ' := μ) (by unfold o_run; rw [if_pos (by omega), if_pos hway, if_pos (by omega)]; exact zif_no hnf9) (by decide) rfl hC0)
          · refine z_aload_n C 2 dX6_run_78 rfl ?_
            refine z_aconstN C dX6_run_79 ?_
            refine z_iload_n C 5 dX6_run_80 rfl ?_
            refine z_iload C 6 dX6_run_81 rfl ?_
            refine z_cS (As := [.int (iI a), .int (iI b)]) C zc_X6_hoursBehind (c_hoursBehind hX a b (by omega) (by omega)) zl_3_235 (Nat.le_of_ble_eq_true rfl) (Nat.le_of_ble_eq_true rfl) (Nat.le_of_ble_eq_true rfl) rfl rfl (Nat.le_of_ble_eq_true rfl) dX6_run_83 (fun z67 L68 f69 hz70 => ?_)
            obtain ⟨hz70, rfl, rfl⟩ := hz70
            subst hz70
            change ZW G pZ la eZ (zRm 8 16 600) sZ mZ aZ bZ hZ cZ AZ 10 3 18 _ L f 86 [(8, .int (iI x66)), (7, .int (iI y)), (0, .ref o), (1, .int (iI c)), (2, .int (iI i)), (3, .int (iI a)), (4, .int (iI b)), (5, .int (iI d)), (6, .int (iI h))] [.int (iI ((spSz a b - 1) / 5)), va_rf none, .ref o]
            refine z_iload C 7 dX6_run_86 rfl ?_
            refine z_iload C 8 dX6_run_88 rfl ?_
            refine z_cV (As := [va_rf none, .int (iI ((spSz a b - 1) / 5)), .int (iI d), .int (iI h)]) C zc_X6_isFree (c_isFreeN hX hR ((spSz a b - 1) / 5) d h (-1) hI (by omega) (by omega) (by omega) (by omega)) zl_3_236 (Nat.le_of_ble_eq_true rfl) (Nat.le_of_ble_eq_true rfl) (Nat.le_of_ble_eq_true rfl) (hR.ob.1) (hR.ob.2) rfl rfl rfl rfl (Nat.le_of_ble_eq_true rfl) dX6_run_90 (fun zt L71 f72 hzt => ?_)
            obtain ⟨hzt, rfl, rfl⟩ := hzt
            have hzt2 : zt = 0 ∨ zt = 1 := by
              rcases hzt with q | q
              · exact Or.inr q.1
              · exact Or.inl q.1
            change ZW G pZ la eZ (zRm 8 16 600) sZ mZ aZ bZ hZ cZ AZ 10 3 18 _ L f 93 [(8, .int (iI x66)), (7, .int (iI y)), (0, .ref o), (1, .int (iI c)), (2, .int (iI i)), (3, .int (iI a)), (4, .int (iI b)), (5, .int (iI d)), (6, .int (iI h))] [.int (iI zt)]
            refine z_if_ne C 106 dX6_run_93 (by decide) (by omega) (fun h93 => ?_) (fun h93 => ?_)
            · have hfr9 : ((μ 2 0 ≠ 16 ∧ h + (spSz a b - 1) / 5 < 24) ∧ ¬ spBusy μ (-1) d h (h + (spSz a b - 1) / 5)) := by
                rcases hzt with ⟨q1, q2⟩ | ⟨q1, q2⟩
                · exact ⟨⟨by clear q2; omega, q2.1⟩, q2.2⟩
                · clear q2; omega
              have hzn9 : zanew (zline μ (μ 2 0) y i a b 0 0) (μ 2 0) d h = zline μ (μ 2 0) (bI (c = 114)) i a b d h := by
                rw [zanew_zline]
                have e : y = bI (c = 114) := by
                  unfold bI
                  rcases hyv with q | q
                  · rw [if_pos q.1]; exact q.2
                  · rw [if_neg q.1]; exact q.2
                rw [e]
              refine z_newG (ci := 7) (fs := [.int 0, .int 0, .int 0, .int 0, .int 0, .int 0, .int 0, .null, .null, .null]) C zin_X3 tyX3_ok zl_1_91 zl_2_17 zl_1_19 rfl (by decide) (Nat.le_of_ble_eq_true rfl) (Nat.le_of_ble_eq_true rfl) dX6_run_106 (fun q73 L74 f75 hq76 hL77 hob78 hk79 => ?_)
              change ZW G pZ la eZ (zRm 8 16 600) sZ mZ aZ bZ hZ cZ AZ 10 4 28 _ L74 f75 109 [(8, .int (iI x66)), (7, .int (iI y)), (0, .ref o), (1, .int (iI c)), (2, .int (iI i)), (3, .int (iI a)), (4, .int (iI b)), (5, .int (iI d)), (6, .int (iI h))] [.ref q73]
              refine z_dup C dX6_run_109 rfl ?_
              refine z_iload C 1 dX6_run_110 rfl ?_
              refine z_iload_n C 4 dX6_run_112 rfl ?_
              refine z_iload_n C 5 dX6_run_113 rfl ?_
              refine z_iload C 6 dX6_run_114 rfl ?_
              refine z_cI (As := [.int (iI y), .int (iI i), .int (iI a), .int (iI b)]) C zc_X3_init (c_newLine hX hob78 y i a b (by omega) (by omega) (by omega)) zl_4_6 (Nat.le_of_ble_eq_true rfl) (Nat.le_of_ble_eq_true rfl) (Nat.le_of_ble_eq_true rfl) rfl rfl (Nat.le_of_ble_eq_true rfl) dX6_run_116 (fun z81 L82 f83 hz84 => ?_)
              obtain ⟨r0o, r1o, r2o, r0a, r1a, r2a, hob9, hr09, hr19, hr29, hna9, hda9, hF9⟩ := hz84
              have hE80 := zExt_new hq76 hL77 hk79 hF9
              have hq9 : q73 ∉ L := hq76
              have hna : r0a ∉ L ∧ r1a ∉ L ∧ r2a ∉ L := ⟨fun z9 => hna9.1 (by rw [hL77]; exact List.mem_append.mpr (Or.inl z9)), fun z9 => hna9.2.1 (by rw [hL77]; exact List.mem_append.mpr (Or.inl z9)), fun z9 => hna9.2.2 (by rw [hL77]; exact List.mem_append.mpr (Or.inl z9))⟩
              have hw := zLn_new (μ := μ) (l := μ 2 0) hob9 hr09 hr19 hr29
              have hR3 := SR_e hR hE80
              have hBw : zLB (zline μ (μ 2 0) y i a b 0 0) (μ 2 0) := by
                obtain ⟨e12, e13, e14, e15, e16, e17⟩ := zline_at μ (μ 2 0) y i a b 0 0
                unfold zLB
                rw [e12, e13, e14, e15, e16, e17]
                omega
              have hC3 : CSx G L82 f83 o μ := ⟨ω, hR3, hI, hK⟩
              change ZW G pZ la eZ (zRm 8 16 600) sZ mZ aZ bZ hZ cZ AZ 10 10 454 _ L82 f83 119 [(8, .int (iI x66)), (7, .int (iI y)), (0, .ref o), (1, .int (iI c)), (2, .int (iI i)), (3, .int (iI a)), (4, .int (iI b)), (5, .int (iI d)), (6, .int (iI h))] [.ref q73]
              refine z_astore (ls' := [(9, .ref q73), (8, .int (iI x66)), (7, .int (iI y)), (0, .ref o), (1, .int (iI c)), (2, .int (iI i)), (3, .int (iI a)), (4, .int (iI b)), (5, .int (iI d)), (6, .int (iI h))]) C dX6_run_119 (Nat.le_of_ble_eq_true rfl) rfl ?_
              refine z_aload_n C 3 dX6_run_121 rfl ?_
              refine z_getf C 2 zin_X6 (hR3.ob.1) (hR3.ob.2) rfl (Nat.le_of_ble_eq_true rfl) zl_1_141 rfl rfl dX6_run_122 ?_
              refine z_iload C 1 dX6_run_125 rfl ?_
              refine z_aload C 0 dX6_run_127 rfl ?_
              have hN0 : (((μ 2 0).toNat : Nat) : Int) = μ 2 0 := Int.toNat_of_nonneg (by omega)
              refine z_aast (t := 7) (ci := 7) C hR3.la rfl (by decide) (by omega) (by omega) ⟨hw.1.1, hw.1.2⟩ rfl dX6_run_129 (fun f85 hP86 hk87 => ?_)
              change ZW G pZ la eZ (zRm 8 16 600) sZ mZ aZ bZ hZ cZ AZ 10 10 454 _ L82 f85 130 [(9, .ref q73), (8, .int (iI x66)), (7, .int (iI y)), (0, .ref o), (1, .int (iI c)), (2, .int (iI i)), (3, .int (iI a)), (4, .int (iI b)), (5, .int (iI d)), (6, .int (iI h))] []
              rw [show x66 = μ 2 0 by omega] at hP86
              have ho4 : zOb L82 f85 o 10 [.ref (ω 0 0), .ref (ω 0 1), .ref (ω 0 3), .int (iI (μ 2 0)), .ref (ω 0 4), .ref (ω 0 5)] := ⟨hR3.ob.1, by rw [hk87 _ (zne_P hR3.ob.2 hR3.la)]; exact hR3.ob.2⟩
              refine z_aload_n C 3 dX6_run_130 rfl ?_
              refine z_iload C 1 dX6_run_131 rfl ?_
              refine z_iconst C dX6_run_133 ?_
              refine z_iadd C dX6_run_134 ?_
              refine z_putG C 3 zin_X6 tyX6_ok nmX6 ho4.1 ho4.2 rfl (Nat.le_of_ble_eq_true rfl) zl_1_142 rfl rfl rfl rfl rfl (Nat.le_of_ble_eq_true rfl) dX6_run_135 (fun f88 hf89 hk90 => ?_)
              have hkp := SR_kp hR3 hk87 hk90
              have hS5 := zKp_sea hkp hR3.ob.2 hR3.la (by decide) (by decide) hR3.sea
              have hw5 := zKp_ln hkp hR3.ob.2 hR3.la (by decide) (by decide) hw
              have ho5 : zOb L82 f88 o 10 [.ref (ω 0 0), .ref (ω 0 1), .ref (ω 0 3), .int (iI (μ 2 0 + 1)), .ref (ω 0 4), .ref (ω 0 5)] := ⟨hR3.ob.1, by have q := hf89; rw [show x66 + 1 = μ 2 0 + 1 by omega] at q; exact q⟩
              refine z_aload C 0 dX6_run_138 rfl ?_
              refine z_aload_n C 3 dX6_run_140 rfl ?_
              refine z_getf C 0 zin_X6 (ho5.1) (ho5.2) rfl (Nat.le_of_ble_eq_true rfl) zl_1_139 rfl rfl dX6_run_141 ?_
              refine z_iload C 8 dX6_run_144 rfl ?_
              refine z_iload C 9 dX6_run_146 rfl ?_
              refine z_cV (As := [.ref (ω 0 0), .int (iI d), .int (iI h)]) C zc_X3_soundAll (c_soundAll hX hw5 hS5 (by rw [hzn9]; exact MJ_run hI (by omega) hway hfr9.1.2) ⟨by omega, by omega⟩ ⟨by omega, by omega⟩ ⟨by omega, by omega⟩ (by rw [hzn9, zline_size]; exact hfr9.1.2) hda9 (fun i hi => ⟨fun z9 => hna.1 (z9 ▸ SR_mem hR hn.2.1 hn.1 (zUs_s (by omega))), fun z9 => hna.2.1 (z9 ▸ SR_mem hR hn.2.1 hn.1 (zUs_s (by omega)))⟩)) zl_4_43 (Nat.le_of_ble_eq_true rfl) (Nat.le_of_ble_eq_true rfl) (Nat.le_of_ble_eq_true rfl) (hw5.1.1) (hw5.1.2) rfl rfl rfl rfl (Nat.le_of_ble_eq_true rfl) dX6_run_148 (fun z91 L92 f93 hz94 => ?_)
              obtain ⟨rfl, hln9, hlk9⟩ := hz94
              have hln8 : zLn G L82 f93 q73 (spRunM μ c i a b d h) (μ 2 0) r0o r1o r2o r0a r1a r2a (zsl (spRunM μ c i a b d h) (μ 2 0)) (zel (spRunM μ c i a b d h) (μ 2 0)) (fun _ => zNO) := by have q := hln9; rw [hzn9] at q; exact q
              have hR95 : SR G L82 f93 o (zwL ω (μ 2 0).toNat q73 r0o r1o r2o r0a r1a r2a) (spRunM μ c i a b d h) (spChart μ) (fun l => if l = (μ 2 0).toNat then (fun _ => zNO) else zrl μ l) (spTx μ) := SR_run hR hn.2.1 hn.1 hN0 (by rw [hN0]; exact zSm_run μ c i a b d h) rfl hE80 rfl hP86 hk87 ho5.2 hk90 (by rw [hN0]; exact hln8) hlk9 hq9 hna hda9
              have hrd9 : zrd0 (spRunM μ c i a b d h) (fun l : Nat => if l = (μ 2 0).toNat then (fun _ => zNO) else zrl μ l) := fun l hl p q0 q1 => by
                dsimp only
                by_cases e : l = (μ 2 0).toNat
                · rw [if_pos e]
                · rw [if_neg e]
                  have hl2 : (l : Int) < μ 2 0 + 1 := hl
                  have es : spSize (spRunM μ c i a b d h) l = spSize μ l := zSm_size (zSm_run μ c i a b d h) (by omega) (by omega) (by omega)
                  rw [es] at q0
                  exact zrd0_r μ l (by omega) p q0 q1
              have hI2 : MI (spRunM μ c i a b d h) := MI_run hI (by omega) hway hfr9.1.2 hfr9.1.1
              have hK2 : MK (spRunM μ c i a b d h) := MK_run hI hK c i a b d h
              generalize zwL ω (μ 2 0).toNat q73 r0o r1o r2o r0a r1a r2a = ω9 at hR95
              have hm1 : (spRunM μ c i a b d h) 1 0 = μ 1 0 := rfl
              have hm2 : (spRunM μ c i a b d h) 2 0 = μ 2 0 + 1 := rfl
              change ZW G pZ la eZ (zRm 8 16 600) sZ mZ aZ bZ hZ cZ AZ 10 10 454 _ L82 f93 151 [(9, .ref q73), (8, .int (iI x66)), (7, .int (iI y)), (0, .ref o), (1, .int (iI c)), (2, .int (iI i)), (3, .int (iI a)), (4, .int (iI b)), (5, .int (iI d)), (6, .int (iI h))] []
              refine z_aload_n C 3 dX6_run_151 rfl ?_
              refine z_cV (As := []) C zc_X6_refresh (c_refresh hX hR95 hI2 hK2 hrd9) zl_3_19 (Nat.le_of_ble_eq_true rfl) (Nat.le_of_ble_eq_true rfl) (Nat.le_of_ble_eq_true rfl) (hR95.ob.1) (hR95.ob.2) rfl rfl rfl rfl (Nat.le_of_ble_eq_true rfl) dX6_run_152 (fun z97 L98 f99 hz100 => ?_)
              obtain ⟨rfl, hR96⟩ := hz100
              change ZW G pZ la eZ (zRm 8 16 600) sZ mZ aZ bZ hZ cZ AZ 10 10 454 _ L82 f99 155 [(9, .ref q73), (8, .int (iI x66)), (7, .int (iI y)), (0, .ref o), (1, .int (iI c)), (2, .int (iI i)), (3, .int (iI a)), (4, .int (iI b)), (5, .int (iI d)), (6, .int (iI h))] []
              refine z_iload C 1 dX6_run_155 rfl ?_
              refine z_xr ?_
              exact z_ireturn C dX6_run_157 (Nat.le_of_ble_eq_true rfl) (Nat.le_of_ble_eq_true rfl) (CR_mk (v := μ 2 0) (μ' := (spRunM μ c i a b d h)) (by unfold o_run; rw [if_pos (by omega), if_pos hway, if_pos (by omega)]; exact zif_yes hfr9.1 hfr9.2) (by omega) ⟨ω9, hR96, hI2, hK2⟩)
            · have hnf9 : ¬ ((μ 2 0 ≠ 16 ∧ h + (spSz a b - 1) / 5 < 24) ∧ ¬ spBusy μ (-1) d h (h + (spSz a b - 1) / 5)) := by
                first
                | (intro w; have := w.1.1; omega)
                | (rcases hzt with ⟨q1, q2⟩ | ⟨q1, q2⟩
                   · clear q2; omega
                   · exact fun w => q2 ⟨w.1.2, w.2⟩)
              exact z_throwS C h4 hfl hnt (by decide +kernel) zl_3_117 zl_1_21 (List.mem_of_getElem? (i := 17) rfl) zthwISE zthgISE dX6_run_96 dX6_run_99 dX6_run_100 dX6_run_102 dX6_run_105 (Nat.le_of_ble_eq_true rfl) (Nat.le_of_ble_eq_true rfl) (Nat.le_of_ble_eq_true rfl) (Nat.le_of_ble_eq_true rfl) (CX_mk (j := 4) (v := 0) (μ' := μ) (by unfold o_run; rw [if_pos (by omega), if_pos hway, if_pos (by omega)]; exact zif_no hnf9) (by decide) rfl hC0)
      refine z_iload_n C 1 dX6_run_22 rfl ?_
      refine z_bipush C dX6_run_23 (by decide) ?_
      refine z_icmp_ne C 32 dX6_run_25 (by decide) (by omega) (by omega) (fun h25 => ?_) (fun h25 => ?_)
      · refine z_iconst C dX6_run_32 ?_
        refine z_perm [0, 1, 2, 3, 4, 5, 6] rfl ?_
        exact J33 _  (by omega)
      · refine z_iconst C dX6_run_28 ?_
        refine z_goto C 33 dX6_run_29 (by decide) ?_
        refine z_perm [0, 1, 2, 3, 4, 5, 6] rfl ?_
        exact J33 _  (by omega)
    · exact z_throwS C h4 hfl hnt (by decide +kernel) zl_2_220 zl_1_17 (List.mem_of_getElem? (i := 14) rfl) zthwIAE zthgIAE dX6_run_12 dX6_run_15 dX6_run_16 dX6_run_18 dX6_run_21 (Nat.le_of_ble_eq_true rfl) (Nat.le_of_ble_eq_true rfl) (Nat.le_of_ble_eq_true rfl) (Nat.le_of_ble_eq_true rfl) (CX_mk (j := 1) (v := 0) (μ' := μ) (by unfold o_run; rw [if_neg (by omega)]) (by decide) rfl hC0)
