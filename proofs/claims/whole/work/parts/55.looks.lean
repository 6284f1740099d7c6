set_option maxRecDepth 100000 in
set_option maxHeartbeats 200000 in
theorem c_hasSoundedR {la : Launch} {G : zG} {X : (Nat → Prop) → State → Prop} (hX : zX X) {L : List Nat} {f : Nat → va_E} {w : Nat} {μ : zMu} {l : Int} {r0 r1 r2 a0 a1 a2 : Nat} {s e rd : Int → Int} (hLn : zLn G L f w μ l r0 r1 r2 a0 a1 a2 s e rd) (k t : Int) (hB : zLB μ l) (hk : zR k) (ht : zR t) (hss : zCr s) : zM la G X yX3_hasSounded (.code yX3_hasSounded cX3_hasSounded 3 (some .boolean) :: zT) 1 0 0 [.ref w, .int (iI k), .int (iI t)] L f zeI (zRd L f (fun z => z = bI (zls s k t ≠ zNO))) := by
  refine zM_intro hX (by decide) (Nat.le_of_ble_eq_true rfl) (fun pZ eZ sZ mZ aZ bZ hZ cZ AZ C hini => ?_)
  change ZW G pZ la eZ (zRm 1 0 0) sZ mZ aZ bZ hZ cZ AZ 3 0 0 _ L f 0 [(0, .ref w), (1, .int (iI k)), (2, .int (iI t))] []
  have hNO : zNO = -2147483648 := rfl
  have hsz := zLB_sz hB
  
  refine z_aload_n C 0 dX3_hasSounded_0 rfl ?_
  refine z_getf C 7 zin_X3 (hLn.1.1) (hLn.1.2) rfl (Nat.le_of_ble_eq_true rfl) zl_4_19 rfl rfl dX3_hasSounded_1 ?_
  refine z_iload_n C 1 dX3_hasSounded_4 rfl ?_
  refine z_iload_n C 2 dX3_hasSounded_5 rfl ?_
  refine z_cS (As := [.int (iI k), .int (iI t)]) C zc_X3_slotOf (c_slotOf hX k t (by omega) (by omega)) zl_1_190 (Nat.le_of_ble_eq_true rfl) (Nat.le_of_ble_eq_true rfl) (Nat.le_of_ble_eq_true rfl) rfl rfl (Nat.le_of_ble_eq_true rfl) dX3_hasSounded_6 (fun z2 L3 f4 hz5 => ?_)
  obtain ⟨hz5, rfl, rfl⟩ := hz5
  subst hz5
  have hr1 := zslot_rng k t
  change ZW G pZ la eZ (zRm 1 0 0) sZ mZ aZ bZ hZ cZ AZ 3 0 0 _ L f 9 [(0, .ref w), (1, .int (iI k)), (2, .int (iI t))] [.int (iI (zslot k t)), .ref r0]
  refine z_cV (As := [.int (iI (zslot k t))]) C zc_X4_read (c_read hX (hLn.2.1) (zslot k t) (by decide) (by omega)) zl_1_193 (Nat.le_of_ble_eq_true rfl) (Nat.le_of_ble_eq_true rfl) (Nat.le_of_ble_eq_true rfl) (hLn.2.1.1.1) (hLn.2.1.1.2) rfl rfl rfl rfl (Nat.le_of_ble_eq_true rfl) dX3_hasSounded_9 (fun z6 L7 f8 hz9 => ?_)
  obtain ⟨hz9, rfl, rfl⟩ := hz9
  subst hz9
  have hv0 : zrd 140 (-1000000) (fun p => cN (s p)) (zslot k t) = cN (zls s k t) := zrd_slot s k t
  have hcs := cN_cs (zls_cr hss k t)
  change ZW G pZ la eZ (zRm 1 0 0) sZ mZ aZ bZ hZ cZ AZ 3 0 0 _ L f 12 [(0, .ref w), (1, .int (iI k)), (2, .int (iI t))] [.int (iI (zrd 140 (-1000000) (fun p => cN (s p)) (zslot k t)))]
  refine z_ldc (n := (-1000000)) C zl_1_194 rfl dX3_hasSounded_12 ?_
  refine z_icmp_eq C 21 dX3_hasSounded_14 (by decide) (by omega) (by omega) (fun h14 => ?_) (fun h14 => ?_)
  · refine z_iconst C dX3_hasSounded_21 ?_
    exact z_zreturn C (by first | omega | (unfold bI; split <;> omega)) dX3_hasSounded_22 (Nat.le_of_ble_eq_true rfl) (Nat.le_of_ble_eq_true rfl) ⟨by unfold bI; first | (rw [if_pos (by omega)]; done) | (rw [if_neg (by omega)]; done), rfl, rfl⟩
  · refine z_iconst C dX3_hasSounded_17 ?_
    refine z_goto C 22 dX3_hasSounded_18 (by decide) ?_
    exact z_zreturn C (by first | omega | (unfold bI; split <;> omega)) dX3_hasSounded_22 (Nat.le_of_ble_eq_true rfl) (Nat.le_of_ble_eq_true rfl) ⟨by unfold bI; first | (rw [if_pos (by omega)]; done) | (rw [if_neg (by omega)]; done), rfl, rfl⟩

set_option maxRecDepth 100000 in
set_option maxHeartbeats 200000 in
theorem c_reqSounded {la : Launch} {G : zG} {X : (Nat → Prop) → State → Prop} (hX : zX X) (h4 : zT4 X) (hfl : la.stackTraces = false) {L : List Nat} {f : Nat → va_E} {o : Nat} {ω : Nat → Nat → Nat} {μ : zMu} {ch : Int → Int} {rd : Nat → Int → Int} {tx : List Int} (hR : SR G L f o ω μ ch rd tx) (l k t : Int) (hI : MI μ) (hl : zR l) (hk : zR k) (ht : zR t) (hK : MK μ) : zMX la G X yX6_requireSounded (.code yX6_requireSounded cX6_requireSounded 5 (some (.object "SwathSurvey$Line")) :: zT) 7 2 12 [.ref o, .int (iI l), .int (iI k), .int (iI t)] L f zeQ (fun z L' f' => z = some (ω 5 l.toNat) ∧ ((0 ≤ l ∧ l < μ 2 0) ∧ spOk μ l k t) ∧ L = L' ∧ f = f') (fun E L' f' => ((E = "java/util/NoSuchElementException" ∧ ¬ (0 ≤ l ∧ l < μ 2 0)) ∨ (E = "java/lang/IndexOutOfBoundsException" ∧ (0 ≤ l ∧ l < μ 2 0) ∧ ¬ spOk μ l k t)) ∧ L = L' ∧ f = f') := by
  refine zMX_intro hX (by decide) (Nat.le_of_ble_eq_true rfl) (fun pZ eZ sZ mZ aZ bZ hZ cZ AZ C hnt => ?_)
  change ZW G pZ la eZ (zRm 7 2 12) sZ mZ aZ bZ hZ cZ AZ 5 0 0 _ L f 0 [(0, .ref o), (1, .int (iI l)), (2, .int (iI k)), (3, .int (iI t))] []
  have hNO : zNO = -2147483648 := rfl
  have hn := hI.n
  have hSK : zSK (zK μ) := MJ_SK hI.J
  have hBl : ∀ j : Nat, (j : Int) < μ 2 0 → zLB μ j := fun j hj => hI.J.b12 j (by omega) (by omega)
  refine z_aload_n C 0 dX6_requireSounded_0 rfl ?_
  refine z_iload_n C 1 dX6_requireSounded_1 rfl ?_
  refine z_cVX (As := [.int (iI l)]) C zc_X6_requireLine (c_reqLine hX h4 hfl hR l hI (by omega)) zl_4_67 (Nat.le_of_ble_eq_true rfl) (Nat.le_of_ble_eq_true rfl) (Nat.le_of_ble_eq_true rfl) (hR.ob.1) (hR.ob.2) rfl rfl rfl rfl (Nat.le_of_ble_eq_true rfl) dX6_requireSounded_2 (fun E L9 f9 hxE => z_xout C hnt (Nat.le_of_ble_eq_true rfl) (Nat.le_of_ble_eq_true rfl) (by obtain ⟨rfl, hx, rfl, rfl⟩ := hxE; exact ⟨Or.inl ⟨rfl, hx⟩, rfl, rfl⟩)) (fun z2 L3 f4 hz5 => ?_)
  obtain ⟨rfl, hq1, rfl, rfl⟩ := hz5
  have hkn : (((l).toNat : Nat) : Int) = l := Int.toNat_of_nonneg (by omega)
  change ZW G pZ la eZ (zRm 7 2 12) sZ mZ aZ bZ hZ cZ AZ 5 1 6 _ L f 5 [(0, .ref o), (1, .int (iI l)), (2, .int (iI k)), (3, .int (iI t))] [.ref (ω 5 (l).toNat)]
  refine z_astore (ls' := [(4, .ref (ω 5 (l).toNat)), (0, .ref o), (1, .int (iI l)), (2, .int (iI k)), (3, .int (iI t))]) C dX6_requireSounded_5 (Nat.le_of_ble_eq_true rfl) rfl ?_
  refine z_aload C 0 dX6_requireSounded_7 rfl ?_
  refine z_iload_n C 3 dX6_requireSounded_9 rfl ?_
  refine z_iload_n C 4 dX6_requireSounded_10 rfl ?_
  refine z_cV (As := [.int (iI k), .int (iI t)]) C zc_X3_hasSounded (c_hasSoundedR hX (hR.ln ((l).toNat) (by omega)) k t (hBl ((l).toNat) (by omega)) (by omega) (by omega) (zsl_cr hI ⟨by omega, by omega⟩)) zl_4_83 (Nat.le_of_ble_eq_true rfl) (Nat.le_of_ble_eq_true rfl) (Nat.le_of_ble_eq_true rfl) ((hR.ln ((l).toNat) (by omega)).1.1) ((hR.ln ((l).toNat) (by omega)).1.2) rfl rfl rfl rfl (Nat.le_of_ble_eq_true rfl) dX6_requireSounded_11 (fun z6 L7 f8 hz9 => ?_)
  obtain ⟨hz9, rfl, rfl⟩ := hz9
  subst hz9
  have hzo := zls_ok hI hK (l := (((l).toNat : Nat) : Int)) ⟨by omega, by omega⟩ k t
  rw [hkn] at hzo
  change ZW G pZ la eZ (zRm 7 2 12) sZ mZ aZ bZ hZ cZ AZ 5 1 6 _ L f 14 [(4, .ref (ω 5 (l).toNat)), (0, .ref o), (1, .int (iI l)), (2, .int (iI k)), (3, .int (iI t))] [.int (iI (bI (zls (zsl μ (((l).toNat : Nat) : Int)) k t ≠ zNO)))]
  refine z_if_ne_b C 28 dX6_requireSounded_14 (by decide) (fun h14 => ?_) (fun h14 => ?_)
  · refine z_aload C 0 dX6_requireSounded_28 rfl ?_
    refine z_xr ?_
    change ZW G pZ la eZ (zRm 7 2 12) sZ mZ aZ bZ hZ cZ AZ 5 _ _ _ _ _ _ _ [va_rf (some (ω 5 (l).toNat))]
    exact z_qreturn C dX6_requireSounded_30 (Nat.le_of_ble_eq_true rfl) (Nat.le_of_ble_eq_true rfl) ⟨rfl, ⟨by omega, hzo.mp (by rw [← hkn]; exact h14)⟩, rfl, rfl⟩
  · exact z_throwSW C h4 hfl hnt (by decide +kernel) zl_2_207 zl_1_15 (List.mem_of_getElem? (i := 19) rfl) zthwIOB zthgIOB dX6_requireSounded_17 dX6_requireSounded_20 dX6_requireSounded_21 dX6_requireSounded_24 dX6_requireSounded_27 (Nat.le_of_ble_eq_true rfl) (Nat.le_of_ble_eq_true rfl) (Nat.le_of_ble_eq_true rfl) (Nat.le_of_ble_eq_true rfl) (⟨Or.inr ⟨rfl, by omega, fun z => h14 (by rw [hkn]; exact hzo.mpr z)⟩, rfl, rfl⟩)

set_option maxRecDepth 100000 in
set_option maxHeartbeats 200000 in
theorem c_waterAt {la : Launch} {G : zG} {X : (Nat → Prop) → State → Prop} (hX : zX X) (h4 : zT4 X) (hfl : la.stackTraces = false) {L : List Nat} {f : Nat → va_E} {o : Nat} {ω : Nat → Nat → Nat} {μ : zMu} (hR : SRC G L f o ω μ) (c d h : Int) (hI : MI μ) (hK : MK μ) (hc : zR c) (hd : zR d) (hh : zR h) : zMX la G X yX6_waterAt (.code yX6_waterAt cX6_waterAt 4 (some .int) :: zT) 8 8 48 [.ref o, .int (iI c), .int (iI d), .int (iI h)] L f zeI (CR G o (o_waterAt μ c d h)) (CX G o ["java/lang/IndexOutOfBoundsException"] (o_waterAt μ c d h)) := by
  refine zMX_intro hX (by decide) (Nat.le_of_ble_eq_true rfl) (fun pZ eZ sZ mZ aZ bZ hZ cZ AZ C hnt => ?_)
  change ZW G pZ la eZ (zRm 8 8 48) sZ mZ aZ bZ hZ cZ AZ 4 0 0 _ L f 0 [(0, .ref o), (1, .int (iI c)), (2, .int (iI d)), (3, .int (iI h))] []
  have hNO : zNO = -2147483648 := rfl
  have hn := hI.n
  have hSK : zSK (zK μ) := MJ_SK hI.J
  have hBl : ∀ j : Nat, (j : Int) < μ 2 0 → zLB μ j := fun j hj => hI.J.b12 j (by omega) (by omega)
  have hC0 : CSx G L f o μ := ⟨ω, hR, hI, hK⟩
  have hu := spChart_r hI
  refine z_iload_n C 1 dX6_waterAt_0 rfl ?_
  refine z_cSX (As := [.int (iI c)]) C zc_X6_requireColumn (c_reqColumn hX h4 hfl c (by omega)) zl_3_67 (Nat.le_of_ble_eq_true rfl) (Nat.le_of_ble_eq_true rfl) (Nat.le_of_ble_eq_true rfl) rfl rfl (Nat.le_of_ble_eq_true rfl) dX6_waterAt_1 (fun E L9 f9 hxE => z_xout C hnt (Nat.le_of_ble_eq_true rfl) (Nat.le_of_ble_eq_true rfl) (by obtain ⟨rfl, hx, rfl, rfl⟩ := hxE; exact CX_mk (j := 1) (v := 0) (μ' := μ) (by unfold o_waterAt; (repeat (first | rw [if_pos (by omega)] | rw [if_neg (by omega)]))) (by decide) rfl hC0)) (fun z2 L3 f4 hz5 => ?_)
  obtain ⟨hq1, rfl, rfl⟩ := hz5
  change ZW G pZ la eZ (zRm 8 8 48) sZ mZ aZ bZ hZ cZ AZ 4 1 6 _ L f 4 [(0, .ref o), (1, .int (iI c)), (2, .int (iI d)), (3, .int (iI h))] []
  refine z_iload_n C 2 dX6_waterAt_4 rfl ?_
  refine z_iload_n C 3 dX6_waterAt_5 rfl ?_
  refine z_cSX (As := [.int (iI d), .int (iI h)]) C zc_X6_requireHour (c_reqHour hX h4 hfl d h (by omega) (by omega)) zl_3_9 (Nat.le_of_ble_eq_true rfl) (Nat.le_of_ble_eq_true rfl) (Nat.le_of_ble_eq_true rfl) rfl rfl (Nat.le_of_ble_eq_true rfl) dX6_waterAt_6 (fun E L9 f9 hxE => z_xout C hnt (Nat.le_of_ble_eq_true rfl) (Nat.le_of_ble_eq_true rfl) (by obtain ⟨rfl, hx, rfl, rfl⟩ := hxE; exact CX_mk (j := 1) (v := 0) (μ' := μ) (by unfold o_waterAt; (repeat (first | rw [if_pos (by omega)] | rw [if_neg (by omega)]))) (by decide) rfl hC0)) (fun z7 L8 f9 hz10 => ?_)
  obtain ⟨hq6, rfl, rfl⟩ := hz10
  change ZW G pZ la eZ (zRm 8 8 48) sZ mZ aZ bZ hZ cZ AZ 4 2 12 _ L f 9 [(0, .ref o), (1, .int (iI c)), (2, .int (iI d)), (3, .int (iI h))] []
  refine z_aload_n C 0 dX6_waterAt_9 rfl ?_
  refine z_getf C 0 zin_X6 (hR.ob.1) (hR.ob.2) rfl (Nat.le_of_ble_eq_true rfl) zl_1_139 rfl rfl dX6_waterAt_10 ?_
  refine z_iload_n C 1 dX6_waterAt_13 rfl ?_
  refine z_iload_n C 2 dX6_waterAt_14 rfl ?_
  refine z_iload_n C 3 dX6_waterAt_15 rfl ?_
  refine z_cV (As := [.int (iI c), .int (iI d), .int (iI h)]) C zc_X5_waterIn (c_waterIn hX hR.sea c d h hSK (by omega) (by omega) (by omega)) zl_3_71 (Nat.le_of_ble_eq_true rfl) (Nat.le_of_ble_eq_true rfl) (Nat.le_of_ble_eq_true rfl) (hR.sea.1.1) (hR.sea.1.2) rfl rfl rfl rfl (Nat.le_of_ble_eq_true rfl) dX6_waterAt_16 (fun z11 L12 f13 hz14 => ?_)
  obtain ⟨hz14, rfl, rfl⟩ := hz14
  subst hz14
  change ZW G pZ la eZ (zRm 8 8 48) sZ mZ aZ bZ hZ cZ AZ 4 2 12 _ L f 19 [(0, .ref o), (1, .int (iI c)), (2, .int (iI d)), (3, .int (iI h))] [.int (iI (spWater μ c d h))]
  refine z_xr ?_
  exact z_ireturn C dX6_waterAt_19 (Nat.le_of_ble_eq_true rfl) (Nat.le_of_ble_eq_true rfl) (CR_mk (v := spWater μ c d h) (μ' := μ) (by unfold o_waterAt; (repeat (first | rw [if_pos (by omega)] | rw [if_neg (by omega)]))) rfl hC0)

set_option maxRecDepth 100000 in
set_option maxHeartbeats 200000 in
theorem c_told {la : Launch} {G : zG} {X : (Nat → Prop) → State → Prop} (hX : zX X) (h4 : zT4 X) (hfl : la.stackTraces = false) {L : List Nat} {f : Nat → va_E} {o : Nat} {ω : Nat → Nat → Nat} {μ : zMu} (hR : SRC G L f o ω μ) (g d h : Int) (hI : MI μ) (hK : MK μ) (hg : zR g) (hd : zR d) (hh : zR h) : zMX la G X yX6_told (.code yX6_told cX6_told 6 (some .int) :: zT) 8 8 48 [.ref o, .int (iI g), .int (iI d), .int (iI h)] L f zeI (CR G o (o_told μ g d h)) (CX G o ["java/util/NoSuchElementException", "java/lang/IndexOutOfBoundsException", "java/lang/UnsupportedOperationException"] (o_told μ g d h)) := by
  refine zMX_intro hX (by decide) (Nat.le_of_ble_eq_true rfl) (fun pZ eZ sZ mZ aZ bZ hZ cZ AZ C hnt => ?_)
  change ZW G pZ la eZ (zRm 8 8 48) sZ mZ aZ bZ hZ cZ AZ 6 0 0 _ L f 0 [(0, .ref o), (1, .int (iI g)), (2, .int (iI d)), (3, .int (iI h))] []
  have hNO : zNO = -2147483648 := rfl
  have hn := hI.n
  have hSK : zSK (zK μ) := MJ_SK hI.J
  have hBl : ∀ j : Nat, (j : Int) < μ 2 0 → zLB μ j := fun j hj => hI.J.b12 j (by omega) (by omega)
  have hC0 : CSx G L f o μ := ⟨ω, hR, hI, hK⟩
  have hu := spChart_r hI
  refine z_aload_n C 0 dX6_told_0 rfl ?_
  refine z_iload_n C 1 dX6_told_1 rfl ?_
  refine z_cVX (As := [.int (iI g)]) C zc_X6_requireGauge (c_reqGauge hX h4 hfl hR g hI (by omega)) zl_3_158 (Nat.le_of_ble_eq_true rfl) (Nat.le_of_ble_eq_true rfl) (Nat.le_of_ble_eq_true rfl) (hR.ob.1) (hR.ob.2) rfl rfl rfl rfl (Nat.le_of_ble_eq_true rfl) dX6_told_2 (fun E L9 f9 hxE => z_xout C hnt (Nat.le_of_ble_eq_true rfl) (Nat.le_of_ble_eq_true rfl) (by obtain ⟨rfl, hx, rfl, rfl⟩ := hxE; exact CX_mk (j := 1) (v := 0) (μ' := μ) (by unfold o_told; (repeat (first | rw [if_pos (by omega)] | rw [if_neg (by omega)]))) (by decide) rfl hC0)) (fun z2 L3 f4 hz5 => ?_)
  obtain ⟨rfl, hq1, rfl, rfl⟩ := hz5
  have hgn : (((g).toNat : Nat) : Int) = g := Int.toNat_of_nonneg (by omega)
  change ZW G pZ la eZ (zRm 8 8 48) sZ mZ aZ bZ hZ cZ AZ 6 1 6 _ L f 5 [(0, .ref o), (1, .int (iI g)), (2, .int (iI d)), (3, .int (iI h))] [.ref (ω 3 (g).toNat)]
  refine z_astore (ls' := [(4, .ref (ω 3 (g).toNat)), (0, .ref o), (1, .int (iI g)), (2, .int (iI d)), (3, .int (iI h))]) C dX6_told_5 (Nat.le_of_ble_eq_true rfl) rfl ?_
  refine z_iload_n C 3 dX6_told_7 rfl ?_
  refine z_iload_n C 4 dX6_told_8 rfl ?_
  refine z_cSX (As := [.int (iI d), .int (iI h)]) C zc_X6_requireHour (c_reqHour hX h4 hfl d h (by omega) (by omega)) zl_3_9 (Nat.le_of_ble_eq_true rfl) (Nat.le_of_ble_eq_true rfl) (Nat.le_of_ble_eq_true rfl) rfl rfl (Nat.le_of_ble_eq_true rfl) dX6_told_9 (fun E L9 f9 hxE => z_xout C hnt (Nat.le_of_ble_eq_true rfl) (Nat.le_of_ble_eq_true rfl) (by obtain ⟨rfl, hx, rfl, rfl⟩ := hxE; exact CX_mk (j := 2) (v := 0) (μ' := μ) (by unfold o_told; (repeat (first | rw [if_pos (by omega)] | rw [if_neg (by omega)]))) (by decide) rfl hC0)) (fun z7 L8 f9 hz10 => ?_)
  obtain ⟨hq6, rfl, rfl⟩ := hz10
  change ZW G pZ la eZ (zRm 8 8 48) sZ mZ aZ bZ hZ cZ AZ 6 2 12 _ L f 12 [(4, .ref (ω 3 (g).toNat)), (0, .ref o), (1, .int (iI g)), (2, .int (iI d)), (3, .int (iI h))] []
  refine z_aload C 0 dX6_told_12 rfl ?_
  refine z_aload_n C 1 dX6_told_14 rfl ?_
  refine z_getf C 0 zin_X6 (hR.ob.1) (hR.ob.2) rfl (Nat.le_of_ble_eq_true rfl) zl_1_139 rfl rfl dX6_told_15 ?_
  refine z_iload_n C 3 dX6_told_18 rfl ?_
  refine z_iload_n C 4 dX6_told_19 rfl ?_
  refine z_cV (As := [.ref (ω 0 0), .int (iI d), .int (iI h)]) C zc_X1_tellsIn (c_tellsIn hX (hR.gs.2.2 ((g).toNat) (by omega)) hR.sea d h hSK (fun i q0 q1 => hI.b11 _ (by omega) (by omega)) (by omega) (by omega) (hI.b8 _ (by omega) (by omega))) zl_3_207 (Nat.le_of_ble_eq_true rfl) (Nat.le_of_ble_eq_true rfl) (Nat.le_of_ble_eq_true rfl) ((hR.gs.2.2 ((g).toNat) (by omega)).1.1) ((hR.gs.2.2 ((g).toNat) (by omega)).1.2) rfl rfl rfl rfl (Nat.le_of_ble_eq_true rfl) dX6_told_20 (fun zt L11 f12 hzt => ?_)
  obtain ⟨hzt, rfl, rfl⟩ := hzt
  have hzt2 : zt = cN (spTells μ g d h) := by rw [← gT_tells μ d h (g := g) (by omega)]; unfold gT; rw [hgn] at hzt; exact hzt
  have htr := spTells_rng hI (g := g) (d := d) (h := h) ⟨by omega, by omega⟩ (by omega) (by omega)
  have htc := cN_cs (z := spTells μ g d h) (by omega)
  change ZW G pZ la eZ (zRm 8 8 48) sZ mZ aZ bZ hZ cZ AZ 6 2 12 _ L f 23 [(4, .ref (ω 3 (g).toNat)), (0, .ref o), (1, .int (iI g)), (2, .int (iI d)), (3, .int (iI h))] [.int (iI zt)]
  refine z_istore (ls' := [(5, .int (iI zt)), (4, .ref (ω 3 (g).toNat)), (0, .ref o), (1, .int (iI g)), (2, .int (iI d)), (3, .int (iI h))]) C dX6_told_23 (Nat.le_of_ble_eq_true rfl) rfl ?_
  refine z_iload C 0 dX6_told_25 rfl ?_
  refine z_ldc (n := (-1000000)) C zl_2_90 rfl dX6_told_27 ?_
  refine z_icmp_ne C 42 dX6_told_29 (by decide) (by omega) (by omega) (fun h29 => ?_) (fun h29 => ?_)
  · refine z_iload C 0 dX6_told_42 rfl ?_
    refine z_xr ?_
    exact z_ireturn C dX6_told_44 (Nat.le_of_ble_eq_true rfl) (Nat.le_of_ble_eq_true rfl) (CR_mk (v := spTells μ g d h) (μ' := μ) (by unfold o_told; (repeat (first | rw [if_pos (by omega)] | rw [if_neg (by omega)]))) (by omega) hC0)
  · exact z_throwS C h4 hfl hnt (by decide +kernel) zl_3_97 zl_1_20 (List.mem_of_getElem? (i := 12) rfl) zthwUOE zthgUOE dX6_told_32 dX6_told_35 dX6_told_36 dX6_told_38 dX6_told_41 (Nat.le_of_ble_eq_true rfl) (Nat.le_of_ble_eq_true rfl) (Nat.le_of_ble_eq_true rfl) (Nat.le_of_ble_eq_true rfl) (CX_mk (j := 3) (v := 0) (μ' := μ) (by unfold o_told; (repeat (first | rw [if_pos (by omega)] | rw [if_neg (by omega)]))) (by decide) rfl hC0)

set_option maxRecDepth 100000 in
set_option maxHeartbeats 200000 in
theorem c_tide {la : Launch} {G : zG} {X : (Nat → Prop) → State → Prop} (hX : zX X) (h4 : zT4 X) (hfl : la.stackTraces = false) {L : List Nat} {f : Nat → va_E} {o : Nat} {ω : Nat → Nat → Nat} {μ : zMu} (hR : SRC G L f o ω μ) (c d h : Int) (hI : MI μ) (hK : MK μ) (hc : zR c) (hd : zR d) (hh : zR h) : zMX la G X yX6_tide (.code yX6_tide cX6_tide 5 (some .int) :: zT) 8 8 48 [.ref o, .int (iI c), .int (iI d), .int (iI h)] L f zeI (CR G o (o_tide μ c d h)) (CX G o ["java/lang/IndexOutOfBoundsException", "java/lang/UnsupportedOperationException"] (o_tide μ c d h)) := by
  refine zMX_intro hX (by decide) (Nat.le_of_ble_eq_true rfl) (fun pZ eZ sZ mZ aZ bZ hZ cZ AZ C hnt => ?_)
  change ZW G pZ la eZ (zRm 8 8 48) sZ mZ aZ bZ hZ cZ AZ 5 0 0 _ L f 0 [(0, .ref o), (1, .int (iI c)), (2, .int (iI d)), (3, .int (iI h))] []
  have hNO : zNO = -2147483648 := rfl
  have hn := hI.n
  have hSK : zSK (zK μ) := MJ_SK hI.J
  have hBl : ∀ j : Nat, (j : Int) < μ 2 0 → zLB μ j := fun j hj => hI.J.b12 j (by omega) (by omega)
  have hC0 : CSx G L f o μ := ⟨ω, hR, hI, hK⟩
  have hu := spChart_r hI
  refine z_iload_n C 1 dX6_tide_0 rfl ?_
  refine z_cSX (As := [.int (iI c)]) C zc_X6_requireColumn (c_reqColumn hX h4 hfl c (by omega)) zl_3_67 (Nat.le_of_ble_eq_true rfl) (Nat.le_of_ble_eq_true rfl) (Nat.le_of_ble_eq_true rfl) rfl rfl (Nat.le_of_ble_eq_true rfl) dX6_tide_1 (fun E L9 f9 hxE => z_xout C hnt (Nat.le_of_ble_eq_true rfl) (Nat.le_of_ble_eq_true rfl) (by obtain ⟨rfl, hx, rfl, rfl⟩ := hxE; exact CX_mk (j := 1) (v := 0) (μ' := μ) (by unfold o_tide; (repeat (first | rw [if_pos (by omega)] | rw [if_neg (by omega)]))) (by decide) rfl hC0)) (fun z2 L3 f4 hz5 => ?_)
  obtain ⟨hq1, rfl, rfl⟩ := hz5
  change ZW G pZ la eZ (zRm 8 8 48) sZ mZ aZ bZ hZ cZ AZ 5 1 6 _ L f 4 [(0, .ref o), (1, .int (iI c)), (2, .int (iI d)), (3, .int (iI h))] []
  refine z_iload_n C 2 dX6_tide_4 rfl ?_
  refine z_iload_n C 3 dX6_tide_5 rfl ?_
  refine z_cSX (As := [.int (iI d), .int (iI h)]) C zc_X6_requireHour (c_reqHour hX h4 hfl d h (by omega) (by omega)) zl_3_9 (Nat.le_of_ble_eq_true rfl) (Nat.le_of_ble_eq_true rfl) (Nat.le_of_ble_eq_true rfl) rfl rfl (Nat.le_of_ble_eq_true rfl) dX6_tide_6 (fun E L9 f9 hxE => z_xout C hnt (Nat.le_of_ble_eq_true rfl) (Nat.le_of_ble_eq_true rfl) (by obtain ⟨rfl, hx, rfl, rfl⟩ := hxE; exact CX_mk (j := 1) (v := 0) (μ' := μ) (by unfold o_tide; (repeat (first | rw [if_pos (by omega)] | rw [if_neg (by omega)]))) (by decide) rfl hC0)) (fun z7 L8 f9 hz10 => ?_)
  obtain ⟨hq6, rfl, rfl⟩ := hz10
  change ZW G pZ la eZ (zRm 8 8 48) sZ mZ aZ bZ hZ cZ AZ 5 2 12 _ L f 9 [(0, .ref o), (1, .int (iI c)), (2, .int (iI d)), (3, .int (iI h))] []
  refine z_aload_n C 0 dX6_tide_9 rfl ?_
  refine z_getf C 1 zin_X6 (hR.ob.1) (hR.ob.2) rfl (Nat.le_of_ble_eq_true rfl) zl_1_140 rfl rfl dX6_tide_10 ?_
  refine z_aload_n C 0 dX6_tide_13 rfl ?_
  refine z_getf C 0 zin_X6 (hR.ob.1) (hR.ob.2) rfl (Nat.le_of_ble_eq_true rfl) zl_1_139 rfl rfl dX6_tide_14 ?_
  refine z_iload_n C 1 dX6_tide_17 rfl ?_
  refine z_iload_n C 2 dX6_tide_18 rfl ?_
  refine z_iload_n C 3 dX6_tide_19 rfl ?_
  refine z_cV (As := [.ref (ω 0 0), .int (iI c), .int (iI d), .int (iI h)]) C zc_X2_tideIn (c_tideIn hX hR.gs hR.sea c d h ⟨by omega, by omega⟩ (fun g q0 q1 => hI.b8 g q0 (by omega)) hSK (fun g q i q0 q1 => hI.b11 _ (by omega) (by omega)) (by omega) (by omega) (by omega)) zl_3_216 (Nat.le_of_ble_eq_true rfl) (Nat.le_of_ble_eq_true rfl) (Nat.le_of_ble_eq_true rfl) (hR.gs.1.1) (hR.gs.1.2) rfl rfl rfl rfl (Nat.le_of_ble_eq_true rfl) dX6_tide_20 (fun zt L11 f12 hzt => ?_)
  obtain ⟨hzt, rfl, rfl⟩ := hzt
  have hzt2 : zt = cN (spTide μ c d h) := by rw [gT_tide] at hzt; exact hzt
  have htr := spTide_rng hI (c := c) (d := d) (h := h) (by omega) (by omega)
  have htc := cN_cs (z := spTide μ c d h) (by omega)
  change ZW G pZ la eZ (zRm 8 8 48) sZ mZ aZ bZ hZ cZ AZ 5 2 12 _ L f 23 [(0, .ref o), (1, .int (iI c)), (2, .int (iI d)), (3, .int (iI h))] [.int (iI zt)]
  refine z_istore (ls' := [(4, .int (iI zt)), (0, .ref o), (1, .int (iI c)), (2, .int (iI d)), (3, .int (iI h))]) C dX6_tide_23 (Nat.le_of_ble_eq_true rfl) rfl ?_
  refine z_iload C 0 dX6_tide_25 rfl ?_
  refine z_ldc (n := (-1000000)) C zl_2_90 rfl dX6_tide_27 ?_
  refine z_icmp_ne C 42 dX6_tide_29 (by decide) (by omega) (by omega) (fun h29 => ?_) (fun h29 => ?_)
  · refine z_iload C 0 dX6_tide_42 rfl ?_
    refine z_xr ?_
    exact z_ireturn C dX6_tide_44 (Nat.le_of_ble_eq_true rfl) (Nat.le_of_ble_eq_true rfl) (CR_mk (v := spTide μ c d h) (μ' := μ) (by unfold o_tide; (repeat (first | rw [if_pos (by omega)] | rw [if_neg (by omega)]))) (by omega) hC0)
  · exact z_throwS C h4 hfl hnt (by decide +kernel) zl_3_97 zl_1_20 (List.mem_of_getElem? (i := 13) rfl) zthwUOE zthgUOE dX6_tide_32 dX6_tide_35 dX6_tide_36 dX6_tide_38 dX6_tide_41 (Nat.le_of_ble_eq_true rfl) (Nat.le_of_ble_eq_true rfl) (Nat.le_of_ble_eq_true rfl) (Nat.le_of_ble_eq_true rfl) (CX_mk (j := 2) (v := 0) (μ' := μ) (by unfold o_tide; (repeat (first | rw [if_pos (by omega)] | rw [if_neg (by omega)]))) (by decide) rfl hC0)

set_option maxRecDepth 100000 in
set_option maxHeartbeats 200000 in
theorem c_soundings {la : Launch} {G : zG} {X : (Nat → Prop) → State → Prop} (hX : zX X) (h4 : zT4 X) (hfl : la.stackTraces = false) {L : List Nat} {f : Nat → va_E} {o : Nat} {ω : Nat → Nat → Nat} {μ : zMu} (hR : SRC G L f o ω μ) (l : Int) (hI : MI μ) (hK : MK μ) (hl : zR l) : zMX la G X yX6_soundings (.code yX6_soundings cX6_soundings 2 (some .int) :: zT) 8 8 48 [.ref o, .int (iI l)] L f zeI (CR G o (o_soundings μ l)) (CX G o ["java/util/NoSuchElementException"] (o_soundings μ l)) := by
  refine zMX_intro hX (by decide) (Nat.le_of_ble_eq_true rfl) (fun pZ eZ sZ mZ aZ bZ hZ cZ AZ C hnt => ?_)
  change ZW G pZ la eZ (zRm 8 8 48) sZ mZ aZ bZ hZ cZ AZ 2 0 0 _ L f 0 [(0, .ref o), (1, .int (iI l))] []
  have hNO : zNO = -2147483648 := rfl
  have hn := hI.n
  have hSK : zSK (zK μ) := MJ_SK hI.J
  have hBl : ∀ j : Nat, (j : Int) < μ 2 0 → zLB μ j := fun j hj => hI.J.b12 j (by omega) (by omega)
  have hC0 : CSx G L f o μ := ⟨ω, hR, hI, hK⟩
  have hu := spChart_r hI
  refine z_aload_n C 0 dX6_soundings_0 rfl ?_
  refine z_iload_n C 1 dX6_soundings_1 rfl ?_
  refine z_cVX (As := [.int (iI l)]) C zc_X6_requireLine (c_reqLine hX h4 hfl hR l hI (by omega)) zl_4_67 (Nat.le_of_ble_eq_true rfl) (Nat.le_of_ble_eq_true rfl) (Nat.le_of_ble_eq_true rfl) (hR.ob.1) (hR.ob.2) rfl rfl rfl rfl (Nat.le_of_ble_eq_true rfl) dX6_soundings_2 (fun E L9 f9 hxE => z_xout C hnt (Nat.le_of_ble_eq_true rfl) (Nat.le_of_ble_eq_true rfl) (by obtain ⟨rfl, hx, rfl, rfl⟩ := hxE; exact CX_mk (j := 1) (v := 0) (μ' := μ) (by unfold o_soundings; (repeat (first | rw [if_pos (by omega)] | rw [if_neg (by omega)]))) (by decide) rfl hC0)) (fun z2 L3 f4 hz5 => ?_)
  obtain ⟨rfl, hq1, rfl, rfl⟩ := hz5
  have hkn : (((l).toNat : Nat) : Int) = l := Int.toNat_of_nonneg (by omega)
  change ZW G pZ la eZ (zRm 8 8 48) sZ mZ aZ bZ hZ cZ AZ 2 1 6 _ L f 5 [(0, .ref o), (1, .int (iI l))] [.ref (ω 5 (l).toNat)]
  refine z_cV (As := []) C zc_X3_countSounded (c_countSounded hX (hR.ln ((l).toNat) (by omega)) (hBl ((l).toNat) (by omega)) (zsl_cr hI ⟨by omega, by omega⟩)) zl_4_97 (Nat.le_of_ble_eq_true rfl) (Nat.le_of_ble_eq_true rfl) (Nat.le_of_ble_eq_true rfl) ((hR.ln ((l).toNat) (by omega)).1.1) ((hR.ln ((l).toNat) (by omega)).1.2) rfl rfl rfl rfl (Nat.le_of_ble_eq_true rfl) dX6_soundings_5 (fun zk L6 f7 hzk => ?_)
  obtain ⟨hzk, rfl, rfl⟩ := hzk
  have hzk2 : zk = spCount μ l := by rw [spCount_n hI hK ⟨by omega, by omega⟩] at hzk; rw [hkn] at hzk; exact hzk
  change ZW G pZ la eZ (zRm 8 8 48) sZ mZ aZ bZ hZ cZ AZ 2 1 6 _ L f 8 [(0, .ref o), (1, .int (iI l))] [.int (iI zk)]
  refine z_xr ?_
  exact z_ireturn C dX6_soundings_8 (Nat.le_of_ble_eq_true rfl) (Nat.le_of_ble_eq_true rfl) (CR_mk (v := spCount μ l) (μ' := μ) (by unfold o_soundings; (repeat (first | rw [if_pos (by omega)] | rw [if_neg (by omega)]))) (by omega) hC0)

set_option maxRecDepth 100000 in
set_option maxHeartbeats 200000 in
theorem c_spikes {la : Launch} {G : zG} {X : (Nat → Prop) → State → Prop} (hX : zX X) (h4 : zT4 X) (hfl : la.stackTraces = false) {L : List Nat} {f : Nat → va_E} {o : Nat} {ω : Nat → Nat → Nat} {μ : zMu} (hR : SRC G L f o ω μ) (l : Int) (hI : MI μ) (hK : MK μ) (hl : zR l) : zMX la G X yX6_spikes (.code yX6_spikes cX6_spikes 2 (some .int) :: zT) 8 8 48 [.ref o, .int (iI l)] L f zeI (CR G o (o_spikes μ l)) (CX G o ["java/util/NoSuchElementException"] (o_spikes μ l)) := by
  refine zMX_intro hX (by decide) (Nat.le_of_ble_eq_true rfl) (fun pZ eZ sZ mZ aZ bZ hZ cZ AZ C hnt => ?_)
  change ZW G pZ la eZ (zRm 8 8 48) sZ mZ aZ bZ hZ cZ AZ 2 0 0 _ L f 0 [(0, .ref o), (1, .int (iI l))] []
  have hNO : zNO = -2147483648 := rfl
  have hn := hI.n
  have hSK : zSK (zK μ) := MJ_SK hI.J
  have hBl : ∀ j : Nat, (j : Int) < μ 2 0 → zLB μ j := fun j hj => hI.J.b12 j (by omega) (by omega)
  have hC0 : CSx G L f o μ := ⟨ω, hR, hI, hK⟩
  have hu := spChart_r hI
  refine z_aload_n C 0 dX6_spikes_0 rfl ?_
  refine z_iload_n C 1 dX6_spikes_1 rfl ?_
  refine z_cVX (As := [.int (iI l)]) C zc_X6_requireLine (c_reqLine hX h4 hfl hR l hI (by omega)) zl_4_67 (Nat.le_of_ble_eq_true rfl) (Nat.le_of_ble_eq_true rfl) (Nat.le_of_ble_eq_true rfl) (hR.ob.1) (hR.ob.2) rfl rfl rfl rfl (Nat.le_of_ble_eq_true rfl) dX6_spikes_2 (fun E L9 f9 hxE => z_xout C hnt (Nat.le_of_ble_eq_true rfl) (Nat.le_of_ble_eq_true rfl) (by obtain ⟨rfl, hx, rfl, rfl⟩ := hxE; exact CX_mk (j := 1) (v := 0) (μ' := μ) (by unfold o_spikes; (repeat (first | rw [if_pos (by omega)] | rw [if_neg (by omega)]))) (by decide) rfl hC0)) (fun z2 L3 f4 hz5 => ?_)
  obtain ⟨rfl, hq1, rfl, rfl⟩ := hz5
  have hkn : (((l).toNat : Nat) : Int) = l := Int.toNat_of_nonneg (by omega)
  change ZW G pZ la eZ (zRm 8 8 48) sZ mZ aZ bZ hZ cZ AZ 2 1 6 _ L f 5 [(0, .ref o), (1, .int (iI l))] [.ref (ω 5 (l).toNat)]
  refine z_cV (As := []) C zc_X3_countSpikes (c_countSpikes hX (hR.ln ((l).toNat) (by omega)) (hBl ((l).toNat) (by omega)) (zrl_cr hI ⟨by omega, by omega⟩)) zl_4_132 (Nat.le_of_ble_eq_true rfl) (Nat.le_of_ble_eq_true rfl) (Nat.le_of_ble_eq_true rfl) ((hR.ln ((l).toNat) (by omega)).1.1) ((hR.ln ((l).toNat) (by omega)).1.2) rfl rfl rfl rfl (Nat.le_of_ble_eq_true rfl) dX6_spikes_5 (fun zk L6 f7 hzk => ?_)
  obtain ⟨hzk, rfl, rfl⟩ := hzk
  have hzk2 : zk = spSpikes μ l := by rw [spSpikes_n hI ⟨by omega, by omega⟩] at hzk; rw [hkn] at hzk; exact hzk
  change ZW G pZ la eZ (zRm 8 8 48) sZ mZ aZ bZ hZ cZ AZ 2 1 6 _ L f 8 [(0, .ref o), (1, .int (iI l))] [.int (iI zk)]
  refine z_xr ?_
  exact z_ireturn C dX6_spikes_8 (Nat.le_of_ble_eq_true rfl) (Nat.le_of_ble_eq_true rfl) (CR_mk (v := spSpikes μ l) (μ' := μ) (by unfold o_spikes; (repeat (first | rw [if_pos (by omega)] | rw [if_neg (by omega)]))) (by omega) hC0)

set_option maxRecDepth 100000 in
set_option maxHeartbeats 200000 in
theorem c_lost {la : Launch} {G : zG} {X : (Nat → Prop) → State → Prop} (hX : zX X) (h4 : zT4 X) (hfl : la.stackTraces = false) {L : List Nat} {f : Nat → va_E} {o : Nat} {ω : Nat → Nat → Nat} {μ : zMu} (hR : SRC G L f o ω μ) (l : Int) (hI : MI μ) (hK : MK μ) (hl : zR l) : zMX la G X yX6_lost (.code yX6_lost cX6_lost 2 (some .int) :: zT) 8 8 48 [.ref o, .int (iI l)] L f zeI (CR G o (o_lost μ l)) (CX G o ["java/util/NoSuchElementException"] (o_lost μ l)) := by
  refine zMX_intro hX (by decide) (Nat.le_of_ble_eq_true rfl) (fun pZ eZ sZ mZ aZ bZ hZ cZ AZ C hnt => ?_)
  change ZW G pZ la eZ (zRm 8 8 48) sZ mZ aZ bZ hZ cZ AZ 2 0 0 _ L f 0 [(0, .ref o), (1, .int (iI l))] []
  have hNO : zNO = -2147483648 := rfl
  have hn := hI.n
  have hSK : zSK (zK μ) := MJ_SK hI.J
  have hBl : ∀ j : Nat, (j : Int) < μ 2 0 → zLB μ j := fun j hj => hI.J.b12 j (by omega) (by omega)
  have hC0 : CSx G L f o μ := ⟨ω, hR, hI, hK⟩
  have hu := spChart_r hI
  refine z_aload_n C 0 dX6_lost_0 rfl ?_
  refine z_iload_n C 1 dX6_lost_1 rfl ?_
  refine z_cVX (As := [.int (iI l)]) C zc_X6_requireLine (c_reqLine hX h4 hfl hR l hI (by omega)) zl_4_67 (Nat.le_of_ble_eq_true rfl) (Nat.le_of_ble_eq_true rfl) (Nat.le_of_ble_eq_true rfl) (hR.ob.1) (hR.ob.2) rfl rfl rfl rfl (Nat.le_of_ble_eq_true rfl) dX6_lost_2 (fun E L9 f9 hxE => z_xout C hnt (Nat.le_of_ble_eq_true rfl) (Nat.le_of_ble_eq_true rfl) (by obtain ⟨rfl, hx, rfl, rfl⟩ := hxE; exact CX_mk (j := 1) (v := 0) (μ' := μ) (by unfold o_lost; (repeat (first | rw [if_pos (by omega)] | rw [if_neg (by omega)]))) (by decide) rfl hC0)) (fun z2 L3 f4 hz5 => ?_)
  obtain ⟨rfl, hq1, rfl, rfl⟩ := hz5
  have hkn : (((l).toNat : Nat) : Int) = l := Int.toNat_of_nonneg (by omega)
  change ZW G pZ la eZ (zRm 8 8 48) sZ mZ aZ bZ hZ cZ AZ 2 1 6 _ L f 5 [(0, .ref o), (1, .int (iI l))] [.ref (ω 5 (l).toNat)]
  refine z_cV (As := []) C zc_X3_countLost (c_countLost hX (hR.ln ((l).toNat) (by omega)) (hBl ((l).toNat) (by omega)) (zsl_cr hI ⟨by omega, by omega⟩) (zrl_cr hI ⟨by omega, by omega⟩)) zl_1_182 (Nat.le_of_ble_eq_true rfl) (Nat.le_of_ble_eq_true rfl) (Nat.le_of_ble_eq_true rfl) ((hR.ln ((l).toNat) (by omega)).1.1) ((hR.ln ((l).toNat) (by omega)).1.2) rfl rfl rfl rfl (Nat.le_of_ble_eq_true rfl) dX6_lost_5 (fun zk L6 f7 hzk => ?_)
  obtain ⟨hzk, rfl, rfl⟩ := hzk
  have hzk2 : zk = spLost μ l := by rw [spLost_n hI ⟨by omega, by omega⟩] at hzk; rw [hkn] at hzk; exact hzk
  change ZW G pZ la eZ (zRm 8 8 48) sZ mZ aZ bZ hZ cZ AZ 2 1 6 _ L f 8 [(0, .ref o), (1, .int (iI l))] [.int (iI zk)]
  refine z_xr ?_
  exact z_ireturn C dX6_lost_8 (Nat.le_of_ble_eq_true rfl) (Nat.le_of_ble_eq_true rfl) (CR_mk (v := spLost μ l) (μ' := μ) (by unfold o_lost; (repeat (first | rw [if_pos (by omega)] | rw [if_neg (by omega)]))) (by omega) hC0)

set_option maxRecDepth 100000 in
set_option maxHeartbeats 200000 in
theorem c_dayOf {la : Launch} {G : zG} {X : (Nat → Prop) → State → Prop} (hX : zX X) (h4 : zT4 X) (hfl : la.stackTraces = false) {L : List Nat} {f : Nat → va_E} {o : Nat} {ω : Nat → Nat → Nat} {μ : zMu} (hR : SRC G L f o ω μ) (l : Int) (hI : MI μ) (hK : MK μ) (hl : zR l) : zMX la G X yX6_dayOf (.code yX6_dayOf cX6_dayOf 2 (some .int) :: zT) 8 8 48 [.ref o, .int (iI l)] L f zeI (CR G o (o_dayOf μ l)) (CX G o ["java/util/NoSuchElementException"] (o_dayOf μ l)) := by
  refine zMX_intro hX (by decide) (Nat.le_of_ble_eq_true rfl) (fun pZ eZ sZ mZ aZ bZ hZ cZ AZ C hnt => ?_)
  change ZW G pZ la eZ (zRm 8 8 48) sZ mZ aZ bZ hZ cZ AZ 2 0 0 _ L f 0 [(0, .ref o), (1, .int (iI l))] []
  have hNO : zNO = -2147483648 := rfl
  have hn := hI.n
  have hSK : zSK (zK μ) := MJ_SK hI.J
  have hBl : ∀ j : Nat, (j : Int) < μ 2 0 → zLB μ j := fun j hj => hI.J.b12 j (by omega) (by omega)
  have hC0 : CSx G L f o μ := ⟨ω, hR, hI, hK⟩
  have hu := spChart_r hI
  refine z_aload_n C 0 dX6_dayOf_0 rfl ?_
  refine z_iload_n C 1 dX6_dayOf_1 rfl ?_
  refine z_cVX (As := [.int (iI l)]) C zc_X6_requireLine (c_reqLine hX h4 hfl hR l hI (by omega)) zl_4_67 (Nat.le_of_ble_eq_true rfl) (Nat.le_of_ble_eq_true rfl) (Nat.le_of_ble_eq_true rfl) (hR.ob.1) (hR.ob.2) rfl rfl rfl rfl (Nat.le_of_ble_eq_true rfl) dX6_dayOf_2 (fun E L9 f9 hxE => z_xout C hnt (Nat.le_of_ble_eq_true rfl) (Nat.le_of_ble_eq_true rfl) (by obtain ⟨rfl, hx, rfl, rfl⟩ := hxE; exact CX_mk (j := 1) (v := 0) (μ' := μ) (by unfold o_dayOf; (repeat (first | rw [if_pos (by omega)] | rw [if_neg (by omega)]))) (by decide) rfl hC0)) (fun z2 L3 f4 hz5 => ?_)
  obtain ⟨rfl, hq1, rfl, rfl⟩ := hz5
  have hkn : (((l).toNat : Nat) : Int) = l := Int.toNat_of_nonneg (by omega)
  change ZW G pZ la eZ (zRm 8 8 48) sZ mZ aZ bZ hZ cZ AZ 2 1 6 _ L f 5 [(0, .ref o), (1, .int (iI l))] [.ref (ω 5 (l).toNat)]
  refine z_cV (As := []) C zc_X3_ranOn (c_ranOn hX (hR.ln ((l).toNat) (by omega)) (hBl ((l).toNat) (by omega))) zl_1_207 (Nat.le_of_ble_eq_true rfl) (Nat.le_of_ble_eq_true rfl) (Nat.le_of_ble_eq_true rfl) ((hR.ln ((l).toNat) (by omega)).1.1) ((hR.ln ((l).toNat) (by omega)).1.2) rfl rfl rfl rfl (Nat.le_of_ble_eq_true rfl) dX6_dayOf_5 (fun z6 L7 f8 hz9 => ?_)
  obtain ⟨hz9, rfl, rfl⟩ := hz9
  subst hz9
  have hb16 := hBl ((l).toNat) (by omega)
  have e16 : μ 16 (((l).toNat : Nat) : Int) = μ 16 l := by rw [hkn]
  change ZW G pZ la eZ (zRm 8 8 48) sZ mZ aZ bZ hZ cZ AZ 2 1 6 _ L f 8 [(0, .ref o), (1, .int (iI l))] [.int (iI (μ 16 (((l).toNat : Nat) : Int)))]
  refine z_xr ?_
  exact z_ireturn C dX6_dayOf_8 (Nat.le_of_ble_eq_true rfl) (Nat.le_of_ble_eq_true rfl) (CR_mk (v := μ 16 l) (μ' := μ) (by unfold o_dayOf; (repeat (first | rw [if_pos (by omega)] | rw [if_neg (by omega)]))) (by rw [hkn]) hC0)

set_option maxRecDepth 100000 in
set_option maxHeartbeats 200000 in
theorem c_sounding {la : Launch} {G : zG} {X : (Nat → Prop) → State → Prop} (hX : zX X) (h4 : zT4 X) (hfl : la.stackTraces = false) {L : List Nat} {f : Nat → va_E} {o : Nat} {ω : Nat → Nat → Nat} {μ : zMu} (hR : SRC G L f o ω μ) (l k t : Int) (hI : MI μ) (hK : MK μ) (hl : zR l) (hk : zR k) (ht : zR t) : zMX la G X yX6_sounding (.code yX6_sounding cX6_sounding 4 (some .int) :: zT) 8 8 48 [.ref o, .int (iI l), .int (iI k), .int (iI t)] L f zeI (CR G o (o_sounding μ l k t)) (CX G o ["java/util/NoSuchElementException", "java/lang/IndexOutOfBoundsException"] (o_sounding μ l k t)) := by
  refine zMX_intro hX (by decide) (Nat.le_of_ble_eq_true rfl) (fun pZ eZ sZ mZ aZ bZ hZ cZ AZ C hnt => ?_)
  change ZW G pZ la eZ (zRm 8 8 48) sZ mZ aZ bZ hZ cZ AZ 4 0 0 _ L f 0 [(0, .ref o), (1, .int (iI l)), (2, .int (iI k)), (3, .int (iI t))] []
  have hNO : zNO = -2147483648 := rfl
  have hn := hI.n
  have hSK : zSK (zK μ) := MJ_SK hI.J
  have hBl : ∀ j : Nat, (j : Int) < μ 2 0 → zLB μ j := fun j hj => hI.J.b12 j (by omega) (by omega)
  have hC0 : CSx G L f o μ := ⟨ω, hR, hI, hK⟩
  have hu := spChart_r hI
  refine z_aload_n C 0 dX6_sounding_0 rfl ?_
  refine z_iload_n C 1 dX6_sounding_1 rfl ?_
  refine z_iload_n C 2 dX6_sounding_2 rfl ?_
  refine z_iload_n C 3 dX6_sounding_3 rfl ?_
  refine z_cVX (As := [.int (iI l), .int (iI k), .int (iI t)]) C zc_X6_requireSounded (c_reqSounded hX h4 hfl hR l k t hI (by omega) (by omega) (by omega) hK) zl_4_79 (Nat.le_of_ble_eq_true rfl) (Nat.le_of_ble_eq_true rfl) (Nat.le_of_ble_eq_true rfl) (hR.ob.1) (hR.ob.2) rfl rfl rfl rfl (Nat.le_of_ble_eq_true rfl) dX6_sounding_4 (fun E L9 f9 hxE => z_xout C hnt (Nat.le_of_ble_eq_true rfl) (Nat.le_of_ble_eq_true rfl) (by obtain ⟨⟨rfl, hx⟩ | ⟨rfl, hxa, hxb⟩, rfl, rfl⟩ := hxE; exact CX_mk (j := 1) (v := 0) (μ' := μ) (by unfold o_sounding; (repeat (first | rw [if_pos (by omega)] | rw [if_neg (by omega)]))) (by decide) rfl hC0; exact CX_mk (j := 2) (v := 0) (μ' := μ) (by unfold o_sounding; rw [if_pos hxa, if_neg hxb]) (by decide) rfl hC0)) (fun z2 L3 f4 hz5 => ?_)
  obtain ⟨rfl, ⟨hq1, hok⟩, rfl, rfl⟩ := hz5
  have hkn : (((l).toNat : Nat) : Int) = l := Int.toNat_of_nonneg (by omega)
  have hsz := spSize_rng hI.J (l := l) ⟨by omega, by omega⟩
  have hok1 := hok.1
  have hok2 := hok.2.1
  change ZW G pZ la eZ (zRm 8 8 48) sZ mZ aZ bZ hZ cZ AZ 4 2 12 _ L f 7 [(0, .ref o), (1, .int (iI l)), (2, .int (iI k)), (3, .int (iI t))] [.ref (ω 5 (l).toNat)]
  refine z_iload_n C 2 dX6_sounding_7 rfl ?_
  refine z_iload_n C 3 dX6_sounding_8 rfl ?_
  refine z_cV (As := [.int (iI k), .int (iI t)]) C zc_X3_soundingAt (c_soundingAt hX (hR.ln ((l).toNat) (by omega)) k t (hBl ((l).toNat) (by omega)) ⟨by omega, by omega, by omega, by omega⟩ (zsl_cr hI ⟨by omega, by omega⟩) (zel_r hI ⟨by omega, by omega⟩) (by rw [hkn]; exact (zls_ok hI hK ⟨by omega, by omega⟩ k t).mpr hok)) zl_4_108 (Nat.le_of_ble_eq_true rfl) (Nat.le_of_ble_eq_true rfl) (Nat.le_of_ble_eq_true rfl) ((hR.ln ((l).toNat) (by omega)).1.1) ((hR.ln ((l).toNat) (by omega)).1.2) rfl rfl rfl rfl (Nat.le_of_ble_eq_true rfl) dX6_sounding_9 (fun zk L6 f7 hzk => ?_)
  obtain ⟨hzk, rfl, rfl⟩ := hzk
  have hzk2 : zk = μ 18 (7 * (20 * l + k) + t + 3) + μ 19 (7 * (20 * l + k) + t + 3) := by rw [hkn, zls_zsl μ l ⟨by omega, by omega, by omega, by omega⟩, zel_at μ l ⟨by omega, by omega, by omega, by omega⟩] at hzk; exact hzk
  change ZW G pZ la eZ (zRm 8 8 48) sZ mZ aZ bZ hZ cZ AZ 4 2 12 _ L f 12 [(0, .ref o), (1, .int (iI l)), (2, .int (iI k)), (3, .int (iI t))] [.int (iI zk)]
  refine z_xr ?_
  exact z_ireturn C dX6_sounding_12 (Nat.le_of_ble_eq_true rfl) (Nat.le_of_ble_eq_true rfl) (CR_mk (v := μ 18 (7 * (20 * l + k) + t + 3) + μ 19 (7 * (20 * l + k) + t + 3)) (μ' := μ) (by unfold o_sounding; rw [if_pos (show spLine μ l from by omega), if_pos hok]) hzk2 hC0)

set_option maxRecDepth 100000 in
set_option maxHeartbeats 200000 in
theorem c_reduced {la : Launch} {G : zG} {X : (Nat → Prop) → State → Prop} (hX : zX X) (h4 : zT4 X) (hfl : la.stackTraces = false) {L : List Nat} {f : Nat → va_E} {o : Nat} {ω : Nat → Nat → Nat} {μ : zMu} (hR : SRC G L f o ω μ) (l k t : Int) (hI : MI μ) (hK : MK μ) (hl : zR l) (hk : zR k) (ht : zR t) : zMX la G X yX6_reduced (.code yX6_reduced cX6_reduced 5 (some .int) :: zT) 8 8 48 [.ref o, .int (iI l), .int (iI k), .int (iI t)] L f zeI (CR G o (o_reduced μ l k t)) (CX G o ["java/util/NoSuchElementException", "java/lang/IndexOutOfBoundsException", "java/lang/UnsupportedOperationException"] (o_reduced μ l k t)) := by
  refine zMX_intro hX (by decide) (Nat.le_of_ble_eq_true rfl) (fun pZ eZ sZ mZ aZ bZ hZ cZ AZ C hnt => ?_)
  change ZW G pZ la eZ (zRm 8 8 48) sZ mZ aZ bZ hZ cZ AZ 5 0 0 _ L f 0 [(0, .ref o), (1, .int (iI l)), (2, .int (iI k)), (3, .int (iI t))] []
  have hNO : zNO = -2147483648 := rfl
  have hn := hI.n
  have hSK : zSK (zK μ) := MJ_SK hI.J
  have hBl : ∀ j : Nat, (j : Int) < μ 2 0 → zLB μ j := fun j hj => hI.J.b12 j (by omega) (by omega)
  have hC0 : CSx G L f o μ := ⟨ω, hR, hI, hK⟩
  have hu := spChart_r hI
  refine z_aload_n C 0 dX6_reduced_0 rfl ?_
  refine z_iload_n C 1 dX6_reduced_1 rfl ?_
  refine z_iload_n C 2 dX6_reduced_2 rfl ?_
  refine z_iload_n C 3 dX6_reduced_3 rfl ?_
  refine z_cVX (As := [.int (iI l), .int (iI k), .int (iI t)]) C zc_X6_requireSounded (c_reqSounded hX h4 hfl hR l k t hI (by omega) (by omega) (by omega) hK) zl_4_79 (Nat.le_of_ble_eq_true rfl) (Nat.le_of_ble_eq_true rfl) (Nat.le_of_ble_eq_true rfl) (hR.ob.1) (hR.ob.2) rfl rfl rfl rfl (Nat.le_of_ble_eq_true rfl) dX6_reduced_4 (fun E L9 f9 hxE => z_xout C hnt (Nat.le_of_ble_eq_true rfl) (Nat.le_of_ble_eq_true rfl) (by obtain ⟨⟨rfl, hx⟩ | ⟨rfl, hxa, hxb⟩, rfl, rfl⟩ := hxE; exact CX_mk (j := 1) (v := 0) (μ' := μ) (by unfold o_reduced; (repeat (first | rw [if_pos (by omega)] | rw [if_neg (by omega)]))) (by decide) rfl hC0; exact CX_mk (j := 2) (v := 0) (μ' := μ) (by unfold o_reduced; rw [if_pos hxa, if_neg hxb]) (by decide) rfl hC0)) (fun z2 L3 f4 hz5 => ?_)
  obtain ⟨rfl, ⟨hq1, hok⟩, rfl, rfl⟩ := hz5
  have hkn : (((l).toNat : Nat) : Int) = l := Int.toNat_of_nonneg (by omega)
  have hsz := spSize_rng hI.J (l := l) ⟨by omega, by omega⟩
  have hok1 := hok.1
  have hok2 := hok.2.1
  change ZW G pZ la eZ (zRm 8 8 48) sZ mZ aZ bZ hZ cZ AZ 5 2 12 _ L f 7 [(0, .ref o), (1, .int (iI l)), (2, .int (iI k)), (3, .int (iI t))] [.ref (ω 5 (l).toNat)]
  refine z_iload_n C 2 dX6_reduced_7 rfl ?_
  refine z_iload_n C 3 dX6_reduced_8 rfl ?_
  refine z_cV (As := [.int (iI k), .int (iI t)]) C zc_X3_reducedAt (c_reducedAt hX (hR.ln ((l).toNat) (by omega)) k t (hBl ((l).toNat) (by omega)) (by omega) (by omega)) zl_4_116 (Nat.le_of_ble_eq_true rfl) (Nat.le_of_ble_eq_true rfl) (Nat.le_of_ble_eq_true rfl) ((hR.ln ((l).toNat) (by omega)).1.1) ((hR.ln ((l).toNat) (by omega)).1.2) rfl rfl rfl rfl (Nat.le_of_ble_eq_true rfl) dX6_reduced_9 (fun zk L6 f7 hzk => ?_)
  obtain ⟨hzk, rfl, rfl⟩ := hzk
  have hzk2 : zk = cN (spRed μ l k t) := by rw [hkn, zls_zrl ⟨by omega, hsz.2.1⟩ k ⟨by omega, by omega⟩] at hzk; exact hzk
  have hrc := cN_cs (spRed_rng hI k (l := l) (s := t) ⟨by omega, by omega⟩ ⟨by omega, by omega⟩)
  change ZW G pZ la eZ (zRm 8 8 48) sZ mZ aZ bZ hZ cZ AZ 5 2 12 _ L f 12 [(0, .ref o), (1, .int (iI l)), (2, .int (iI k)), (3, .int (iI t))] [.int (iI zk)]
  refine z_istore (ls' := [(4, .int (iI zk)), (0, .ref o), (1, .int (iI l)), (2, .int (iI k)), (3, .int (iI t))]) C dX6_reduced_12 (Nat.le_of_ble_eq_true rfl) rfl ?_
  refine z_iload C 0 dX6_reduced_14 rfl ?_
  refine z_ldc (n := (-1000000)) C zl_2_90 rfl dX6_reduced_16 ?_
  refine z_icmp_ne C 31 dX6_reduced_18 (by decide) (by omega) (by omega) (fun h18 => ?_) (fun h18 => ?_)
  · refine z_iload C 0 dX6_reduced_31 rfl ?_
    refine z_xr ?_
    exact z_ireturn C dX6_reduced_33 (Nat.le_of_ble_eq_true rfl) (Nat.le_of_ble_eq_true rfl) (CR_mk (v := spRed μ l k t) (μ' := μ) (by unfold o_reduced; rw [if_pos (show spLine μ l from by omega), if_pos hok]; rw [if_neg (by omega)]) (by omega) hC0)
  · exact z_throwS C h4 hfl hnt (by decide +kernel) zl_3_97 zl_1_20 (List.mem_of_getElem? (i := 13) rfl) zthwUOE zthgUOE dX6_reduced_21 dX6_reduced_24 dX6_reduced_25 dX6_reduced_27 dX6_reduced_30 (Nat.le_of_ble_eq_true rfl) (Nat.le_of_ble_eq_true rfl) (Nat.le_of_ble_eq_true rfl) (Nat.le_of_ble_eq_true rfl) (CX_mk (j := 3) (v := 0) (μ' := μ) (by unfold o_reduced; rw [if_pos (show spLine μ l from by omega), if_pos hok]; rw [if_pos (by omega)]) (by decide) rfl hC0)

set_option maxRecDepth 100000 in
set_option maxHeartbeats 200000 in
theorem c_isSpike {la : Launch} {G : zG} {X : (Nat → Prop) → State → Prop} (hX : zX X) (h4 : zT4 X) (hfl : la.stackTraces = false) {L : List Nat} {f : Nat → va_E} {o : Nat} {ω : Nat → Nat → Nat} {μ : zMu} (hR : SRC G L f o ω μ) (l k t : Int) (hI : MI μ) (hK : MK μ) (hl : zR l) (hk : zR k) (ht : zR t) : zMX la G X yX6_isSpike (.code yX6_isSpike cX6_isSpike 4 (some .boolean) :: zT) 8 8 48 [.ref o, .int (iI l), .int (iI k), .int (iI t)] L f zeI (CR G o (o_isSpike μ l k t)) (CX G o ["java/util/NoSuchElementException", "java/lang/IndexOutOfBoundsException"] (o_isSpike μ l k t)) := by
  refine zMX_intro hX (by decide) (Nat.le_of_ble_eq_true rfl) (fun pZ eZ sZ mZ aZ bZ hZ cZ AZ C hnt => ?_)
  change ZW G pZ la eZ (zRm 8 8 48) sZ mZ aZ bZ hZ cZ AZ 4 0 0 _ L f 0 [(0, .ref o), (1, .int (iI l)), (2, .int (iI k)), (3, .int (iI t))] []
  have hNO : zNO = -2147483648 := rfl
  have hn := hI.n
  have hSK : zSK (zK μ) := MJ_SK hI.J
  have hBl : ∀ j : Nat, (j : Int) < μ 2 0 → zLB μ j := fun j hj => hI.J.b12 j (by omega) (by omega)
  have hC0 : CSx G L f o μ := ⟨ω, hR, hI, hK⟩
  have hu := spChart_r hI
  refine z_aload_n C 0 dX6_isSpike_0 rfl ?_
  refine z_iload_n C 1 dX6_isSpike_1 rfl ?_
  refine z_iload_n C 2 dX6_isSpike_2 rfl ?_
  refine z_iload_n C 3 dX6_isSpike_3 rfl ?_
  refine z_cVX (As := [.int (iI l), .int (iI k), .int (iI t)]) C zc_X6_requireSounded (c_reqSounded hX h4 hfl hR l k t hI (by omega) (by omega) (by omega) hK) zl_4_79 (Nat.le_of_ble_eq_true rfl) (Nat.le_of_ble_eq_true rfl) (Nat.le_of_ble_eq_true rfl) (hR.ob.1) (hR.ob.2) rfl rfl rfl rfl (Nat.le_of_ble_eq_true rfl) dX6_isSpike_4 (fun E L9 f9 hxE => z_xout C hnt (Nat.le_of_ble_eq_true rfl) (Nat.le_of_ble_eq_true rfl) (by obtain ⟨⟨rfl, hx⟩ | ⟨rfl, hxa, hxb⟩, rfl, rfl⟩ := hxE; exact CX_mk (j := 1) (v := 0) (μ' := μ) (by unfold o_isSpike; (repeat (first | rw [if_pos (by omega)] | rw [if_neg (by omega)]))) (by decide) rfl hC0; exact CX_mk (j := 2) (v := 0) (μ' := μ) (by unfold o_isSpike; rw [if_pos hxa, if_neg hxb]) (by decide) rfl hC0)) (fun z2 L3 f4 hz5 => ?_)
  obtain ⟨rfl, ⟨hq1, hok⟩, rfl, rfl⟩ := hz5
  have hkn : (((l).toNat : Nat) : Int) = l := Int.toNat_of_nonneg (by omega)
  have hsz := spSize_rng hI.J (l := l) ⟨by omega, by omega⟩
  have hok1 := hok.1
  have hok2 := hok.2.1
  change ZW G pZ la eZ (zRm 8 8 48) sZ mZ aZ bZ hZ cZ AZ 4 2 12 _ L f 7 [(0, .ref o), (1, .int (iI l)), (2, .int (iI k)), (3, .int (iI t))] [.ref (ω 5 (l).toNat)]
  refine z_iload_n C 2 dX6_isSpike_7 rfl ?_
  refine z_iload_n C 3 dX6_isSpike_8 rfl ?_
  refine z_cV (As := [.int (iI k), .int (iI t)]) C zc_X3_standsOut (c_standsOut hX (hR.ln ((l).toNat) (by omega)) k t (hBl ((l).toNat) (by omega)) (by omega) (by omega) (zrl_cr hI ⟨by omega, by omega⟩)) zl_4_124 (Nat.le_of_ble_eq_true rfl) (Nat.le_of_ble_eq_true rfl) (Nat.le_of_ble_eq_true rfl) ((hR.ln ((l).toNat) (by omega)).1.1) ((hR.ln ((l).toNat) (by omega)).1.2) rfl rfl rfl rfl (Nat.le_of_ble_eq_true rfl) dX6_isSpike_9 (fun zk L6 f7 hzk => ?_)
  obtain ⟨hzk, rfl, rfl⟩ := hzk
  have hzk2 : zk = bI (spSpike μ l k t) := by rw [hkn] at hzk; unfold zspk at hzk; rw [zls_zrl ⟨by omega, hsz.2.1⟩ k (t := t) ⟨by omega, by omega⟩, zls_zrl ⟨by omega, hsz.2.1⟩ (k - 1) (t := t) ⟨by omega, by omega⟩, zls_zrl ⟨by omega, hsz.2.1⟩ (k + 1) (t := t) ⟨by omega, by omega⟩] at hzk; exact hzk
  have hbr := bI_rng (spSpike μ l k t)
  change ZW G pZ la eZ (zRm 8 8 48) sZ mZ aZ bZ hZ cZ AZ 4 2 12 _ L f 12 [(0, .ref o), (1, .int (iI l)), (2, .int (iI k)), (3, .int (iI t))] [.int (iI zk)]
  refine z_xr ?_
  exact z_zreturn C (by first | omega | (unfold bI; split <;> omega)) dX6_isSpike_12 (Nat.le_of_ble_eq_true rfl) (Nat.le_of_ble_eq_true rfl) (CR_mk (v := bI (spSpike μ l k t)) (μ' := μ) (by unfold o_isSpike; rw [if_pos (show spLine μ l from by omega), if_pos hok]) hzk2 hC0)

set_option maxRecDepth 100000 in
set_option maxHeartbeats 200000 in
theorem c_depth {la : Launch} {G : zG} {X : (Nat → Prop) → State → Prop} (hX : zX X) (h4 : zT4 X) (hfl : la.stackTraces = false) {L : List Nat} {f : Nat → va_E} {o : Nat} {ω : Nat → Nat → Nat} {μ : zMu} (hR : SRC G L f o ω μ) (c r : Int) (hI : MI μ) (hK : MK μ) (hc : zR c) (hr : zR r) : zMX la G X yX6_depth (.code yX6_depth cX6_depth 3 (some .int) :: zT) 8 8 48 [.ref o, .int (iI c), .int (iI r)] L f zeI (CR G o (o_depth μ c r)) (CX G o ["java/lang/IndexOutOfBoundsException", "java/lang/UnsupportedOperationException"] (o_depth μ c r)) := by
  refine zMX_intro hX (by decide) (Nat.le_of_ble_eq_true rfl) (fun pZ eZ sZ mZ aZ bZ hZ cZ AZ C hnt => ?_)
  change ZW G pZ la eZ (zRm 8 8 48) sZ mZ aZ bZ hZ cZ AZ 3 0 0 _ L f 0 [(0, .ref o), (1, .int (iI c)), (2, .int (iI r))] []
  have hNO : zNO = -2147483648 := rfl
  have hn := hI.n
  have hSK : zSK (zK μ) := MJ_SK hI.J
  have hBl : ∀ j : Nat, (j : Int) < μ 2 0 → zLB μ j := fun j hj => hI.J.b12 j (by omega) (by omega)
  have hC0 : CSx G L f o μ := ⟨ω, hR, hI, hK⟩
  have hu := spChart_r hI
  refine z_iload_n C 1 dX6_depth_0 rfl ?_
  refine z_iload_n C 2 dX6_depth_1 rfl ?_
  refine z_cSX (As := [.int (iI c), .int (iI r)]) C zc_X6_requireCell (c_reqCell hX h4 hfl c r (by omega) (by omega)) zl_2_203 (Nat.le_of_ble_eq_true rfl) (Nat.le_of_ble_eq_true rfl) (Nat.le_of_ble_eq_true rfl) rfl rfl (Nat.le_of_ble_eq_true rfl) dX6_depth_2 (fun E L9 f9 hxE => z_xout C hnt (Nat.le_of_ble_eq_true rfl) (Nat.le_of_ble_eq_true rfl) (by obtain ⟨rfl, hx, rfl, rfl⟩ := hxE; exact CX_mk (j := 1) (v := 0) (μ' := μ) (by unfold o_depth; (repeat (first | rw [if_pos (by omega)] | rw [if_neg (by omega)]))) (by decide) rfl hC0)) (fun z2 L3 f4 hz5 => ?_)
  obtain ⟨hq1, rfl, rfl⟩ := hz5
  change ZW G pZ la eZ (zRm 8 8 48) sZ mZ aZ bZ hZ cZ AZ 3 1 6 _ L f 5 [(0, .ref o), (1, .int (iI c)), (2, .int (iI r))] []
  refine z_aload_n C 0 dX6_depth_5 rfl ?_
  refine z_getf C 4 zin_X6 (hR.ob.1) (hR.ob.2) rfl (Nat.le_of_ble_eq_true rfl) zl_1_143 rfl rfl dX6_depth_6 ?_
  refine z_iload_n C 1 dX6_depth_9 rfl ?_
  refine z_iload_n C 2 dX6_depth_10 rfl ?_
  refine z_cV (As := [.int (iI c), .int (iI r)]) C zc_X0_depthIn (c_depthIn hX hR.ct c r hu (by omega) (by omega)) zl_2_79 (Nat.le_of_ble_eq_true rfl) (Nat.le_of_ble_eq_true rfl) (Nat.le_of_ble_eq_true rfl) (hR.ct.1.1) (hR.ct.1.2) rfl rfl rfl rfl (Nat.le_of_ble_eq_true rfl) dX6_depth_11 (fun zd L6 f7 hzd => ?_)
  obtain ⟨hzd, rfl, rfl⟩ := hzd
  have hzd2 : zd = cN (spChart μ (20 * r + c)) := by rw [if_pos (by omega)] at hzd; exact hzd
  have hdc := cN_cs (hu (20 * r + c))
  change ZW G pZ la eZ (zRm 8 8 48) sZ mZ aZ bZ hZ cZ AZ 3 1 6 _ L f 14 [(0, .ref o), (1, .int (iI c)), (2, .int (iI r))] [.int (iI zd)]
  refine z_cSX (As := [.int (iI zd)]) C zc_X6_requireDepth (c_reqDepth hX h4 hfl zd (by omega)) zl_4_150 (Nat.le_of_ble_eq_true rfl) (Nat.le_of_ble_eq_true rfl) (Nat.le_of_ble_eq_true rfl) rfl rfl (Nat.le_of_ble_eq_true rfl) dX6_depth_14 (fun E L9 f9 hxE => z_xout C hnt (Nat.le_of_ble_eq_true rfl) (Nat.le_of_ble_eq_true rfl) (by obtain ⟨rfl, hx, rfl, rfl⟩ := hxE; exact CX_mk (j := 2) (v := 0) (μ' := μ) (by unfold o_depth; (repeat (first | rw [if_pos (by omega)] | rw [if_neg (by omega)]))) (by decide) rfl hC0)) (fun z9 L10 f11 hz12 => ?_)
  obtain ⟨⟨hv8, hq8⟩, rfl, rfl⟩ := hz12
  replace hv8 := hv8.symm
  subst hv8
  change ZW G pZ la eZ (zRm 8 8 48) sZ mZ aZ bZ hZ cZ AZ 3 2 12 _ L f 17 [(0, .ref o), (1, .int (iI c)), (2, .int (iI r))] [.int (iI zd)]
  refine z_xr ?_
  exact z_ireturn C dX6_depth_17 (Nat.le_of_ble_eq_true rfl) (Nat.le_of_ble_eq_true rfl) (CR_mk (v := spChart μ (20 * r + c)) (μ' := μ) (by unfold o_depth; (repeat (first | rw [if_pos (by omega)] | rw [if_neg (by omega)]))) (by omega) hC0)

set_option maxRecDepth 100000 in
set_option maxHeartbeats 200000 in
theorem c_gap {la : Launch} {G : zG} {X : (Nat → Prop) → State → Prop} (hX : zX X) (h4 : zT4 X) (hfl : la.stackTraces = false) {L : List Nat} {f : Nat → va_E} {o : Nat} {ω : Nat → Nat → Nat} {μ : zMu} (hR : SRC G L f o ω μ) (i : Int) (hI : MI μ) (hK : MK μ) (hi : zR i) : zMX la G X yX6_gap (.code yX6_gap cX6_gap 3 (some .int) :: zT) 8 8 48 [.ref o, .int (iI i)] L f zeI (CR G o (o_gap μ i)) (CX G o ["java/util/NoSuchElementException"] (o_gap μ i)) := by
  refine zMX_intro hX (by decide) (Nat.le_of_ble_eq_true rfl) (fun pZ eZ sZ mZ aZ bZ hZ cZ AZ C hnt => ?_)
  change ZW G pZ la eZ (zRm 8 8 48) sZ mZ aZ bZ hZ cZ AZ 3 0 0 _ L f 0 [(0, .ref o), (1, .int (iI i))] []
  have hNO : zNO = -2147483648 := rfl
  have hn := hI.n
  have hSK : zSK (zK μ) := MJ_SK hI.J
  have hBl : ∀ j : Nat, (j : Int) < μ 2 0 → zLB μ j := fun j hj => hI.J.b12 j (by omega) (by omega)
  have hC0 : CSx G L f o μ := ⟨ω, hR, hI, hK⟩
  have hu := spChart_r hI
  refine z_aload_n C 0 dX6_gap_0 rfl ?_
  refine z_getf C 4 zin_X6 (hR.ob.1) (hR.ob.2) rfl (Nat.le_of_ble_eq_true rfl) zl_1_143 rfl rfl dX6_gap_1 ?_
  refine z_iload_n C 1 dX6_gap_4 rfl ?_
  refine z_cV (As := [.int (iI i)]) C zc_X0_emptyCell (c_emptyCell hX hR.ct i hu (by omega)) zl_4_168 (Nat.le_of_ble_eq_true rfl) (Nat.le_of_ble_eq_true rfl) (Nat.le_of_ble_eq_true rfl) (hR.ct.1.1) (hR.ct.1.2) rfl rfl rfl rfl (Nat.le_of_ble_eq_true rfl) dX6_gap_5 (fun zg L1 f2 hzg => ?_)
  obtain ⟨hzg, rfl, rfl⟩ := hzg
  have hgr := spGp_rng (spChart μ) i ((240 : Int) - 0).toNat 0 0 (by omega) (by omega)
  have hgr2 : spGap μ i = zNO ∨ (0 ≤ spGap μ i ∧ spGap μ i ≤ 1200) := hgr
  have hzg2 : zg = cN (spGap μ i) := hzg
  have hgc : (spGap μ i = zNO ∧ cN (spGap μ i) = -1000000) ∨ (spGap μ i ≠ zNO ∧ cN (spGap μ i) = spGap μ i) := by
    rcases hgr2 with q | q
    · left; exact ⟨q, by rw [q]; exact cN_no⟩
    · right; exact ⟨by omega, cN_in (by omega)⟩
  change ZW G pZ la eZ (zRm 8 8 48) sZ mZ aZ bZ hZ cZ AZ 3 0 0 _ L f 8 [(0, .ref o), (1, .int (iI i))] [.int (iI zg)]
  refine z_istore_n (ls' := [(2, .int (iI zg)), (0, .ref o), (1, .int (iI i))]) C dX6_gap_8 (Nat.le_of_ble_eq_true rfl) rfl ?_
  refine z_iload_n C 0 dX6_gap_9 rfl ?_
  refine z_ldc (n := (-1000000)) C zl_2_90 rfl dX6_gap_10 ?_
  refine z_icmp_ne C 25 dX6_gap_12 (by decide) (by omega) (by omega) (fun h12 => ?_) (fun h12 => ?_)
  · refine z_iload_n C 0 dX6_gap_25 rfl ?_
    refine z_xr ?_
    exact z_ireturn C dX6_gap_26 (Nat.le_of_ble_eq_true rfl) (Nat.le_of_ble_eq_true rfl) (CR_mk (v := spGap μ i) (μ' := μ) (by unfold o_gap; (repeat (first | rw [if_pos (by omega)] | rw [if_neg (by omega)]))) (by omega) hC0)
  · exact z_throwN C h4 hfl hnt zl_3_163 zl_1_23 (List.mem_of_getElem? (i := 0) rfl) zthwNSE zthgNSE dX6_gap_15 dX6_gap_18 dX6_gap_19 dX6_gap_21 dX6_gap_24 (Nat.le_of_ble_eq_true rfl) (Nat.le_of_ble_eq_true rfl) (Nat.le_of_ble_eq_true rfl) (Nat.le_of_ble_eq_true rfl) (CX_mk (j := 1) (v := 0) (μ' := μ) (by unfold o_gap; (repeat (first | rw [if_pos (by omega)] | rw [if_neg (by omega)]))) (by decide) rfl hC0)

set_option maxRecDepth 100000 in
set_option maxHeartbeats 200000 in
theorem c_hours {la : Launch} {G : zG} {X : (Nat → Prop) → State → Prop} (hX : zX X) (h4 : zT4 X) (hfl : la.stackTraces = false) {L : List Nat} {f : Nat → va_E} {o : Nat} {ω : Nat → Nat → Nat} {μ : zMu} (hR : SRC G L f o ω μ) (d : Int) (hI : MI μ) (hK : MK μ) (hd : zR d) : zMX la G X yX6_hours (.code yX6_hours cX6_hours 2 (some .int) :: zT) 8 8 48 [.ref o, .int (iI d)] L f zeI (CR G o (o_hours μ d)) (CX G o ["java/lang/IndexOutOfBoundsException"] (o_hours μ d)) := by
  refine zMX_intro hX (by decide) (Nat.le_of_ble_eq_true rfl) (fun pZ eZ sZ mZ aZ bZ hZ cZ AZ C hnt => ?_)
  change ZW G pZ la eZ (zRm 8 8 48) sZ mZ aZ bZ hZ cZ AZ 2 0 0 _ L f 0 [(0, .ref o), (1, .int (iI d))] []
  have hNO : zNO = -2147483648 := rfl
  have hn := hI.n
  have hSK : zSK (zK μ) := MJ_SK hI.J
  have hBl : ∀ j : Nat, (j : Int) < μ 2 0 → zLB μ j := fun j hj => hI.J.b12 j (by omega) (by omega)
  have hC0 : CSx G L f o μ := ⟨ω, hR, hI, hK⟩
  have hu := spChart_r hI
  refine z_iload_n C 1 dX6_hours_0 rfl ?_
  refine z_cSX (As := [.int (iI d)]) C zc_X6_requireDay (c_reqDay hX h4 hfl d (by omega)) zl_3_51 (Nat.le_of_ble_eq_true rfl) (Nat.le_of_ble_eq_true rfl) (Nat.le_of_ble_eq_true rfl) rfl rfl (Nat.le_of_ble_eq_true rfl) dX6_hours_1 (fun E L9 f9 hxE => z_xout C hnt (Nat.le_of_ble_eq_true rfl) (Nat.le_of_ble_eq_true rfl) (by obtain ⟨rfl, hx, rfl, rfl⟩ := hxE; exact CX_mk (j := 1) (v := 0) (μ' := μ) (by unfold o_hours; (repeat (first | rw [if_pos (by omega)] | rw [if_neg (by omega)]))) (by decide) rfl hC0)) (fun z2 L3 f4 hz5 => ?_)
  obtain ⟨hq1, rfl, rfl⟩ := hz5
  change ZW G pZ la eZ (zRm 8 8 48) sZ mZ aZ bZ hZ cZ AZ 2 1 6 _ L f 4 [(0, .ref o), (1, .int (iI d))] []
  refine z_aload_n C 0 dX6_hours_4 rfl ?_
  refine z_iload_n C 1 dX6_hours_5 rfl ?_
  refine z_cV (As := [.int (iI d)]) C zc_X6_hoursOn (c_hoursOn hX hR d hI (by omega)) zl_1_218 (Nat.le_of_ble_eq_true rfl) (Nat.le_of_ble_eq_true rfl) (Nat.le_of_ble_eq_true rfl) (hR.ob.1) (hR.ob.2) rfl rfl rfl rfl (Nat.le_of_ble_eq_true rfl) dX6_hours_6 (fun z6 L7 f8 hz9 => ?_)
  obtain ⟨hz9, rfl, rfl⟩ := hz9
  subst hz9
  have hsh := spHr_rng hI.J d (n := (μ 2 0).toNat) (by omega)
  have hsh2 : 0 ≤ spHours μ d ∧ spHours μ d ≤ 4 * ((μ 2 0).toNat : Int) := hsh
  change ZW G pZ la eZ (zRm 8 8 48) sZ mZ aZ bZ hZ cZ AZ 2 1 6 _ L f 9 [(0, .ref o), (1, .int (iI d))] [.int (iI (spHours μ d))]
  refine z_xr ?_
  exact z_ireturn C dX6_hours_9 (Nat.le_of_ble_eq_true rfl) (Nat.le_of_ble_eq_true rfl) (CR_mk (v := spHours μ d) (μ' := μ) (by unfold o_hours; (repeat (first | rw [if_pos (by omega)] | rw [if_neg (by omega)]))) rfl hC0)

set_option maxRecDepth 100000 in
set_option maxHeartbeats 200000 in
theorem c_textAt {la : Launch} {G : zG} {X : (Nat → Prop) → State → Prop} (hX : zX X) (h4 : zT4 X) (hfl : la.stackTraces = false) {L : List Nat} {f : Nat → va_E} {o : Nat} {ω : Nat → Nat → Nat} {μ : zMu} (hR : SRC G L f o ω μ) {ax : Nat → Nat × Nat} (hT : zT1 X ax) (i : Int) (hI : MI μ) (hK : MK μ) (hi : zR i) : zMX la G X yX6_textAt (.code yX6_textAt cX6_textAt 2 (some .char) :: zT) 8 8 48 [.ref o, .int (iI i)] L f zeI (CR G o (o_textAt μ i)) (CX G o ["java/lang/IndexOutOfBoundsException"] (o_textAt μ i)) := by
  refine zMX_intro hX (by decide) (Nat.le_of_ble_eq_true rfl) (fun pZ eZ sZ mZ aZ bZ hZ cZ AZ C hnt => ?_)
  change ZW G pZ la eZ (zRm 8 8 48) sZ mZ aZ bZ hZ cZ AZ 2 0 0 _ L f 0 [(0, .ref o), (1, .int (iI i))] []
  have hNO : zNO = -2147483648 := rfl
  have hn := hI.n
  have hSK : zSK (zK μ) := MJ_SK hI.J
  have hBl : ∀ j : Nat, (j : Int) < μ 2 0 → zLB μ j := fun j hj => hI.J.b12 j (by omega) (by omega)
  have hC0 : CSx G L f o μ := ⟨ω, hR, hI, hK⟩
  have hu := spChart_r hI
  obtain ⟨vsb, hOB⟩ := zSb_ob hR.sb
  refine z_iload_n C 1 dX6_textAt_0 rfl ?_
  refine z_if_lt C 15 dX6_textAt_1 (by decide) (by omega) (fun h1 => ?_) (fun h1 => ?_)
  · exact z_throwSW C h4 hfl hnt (by decide +kernel) zl_2_207 zl_1_15 (List.mem_of_getElem? (i := 36) rfl) zthwIOB zthgIOB dX6_textAt_15 dX6_textAt_18 dX6_textAt_19 dX6_textAt_22 dX6_textAt_25 (Nat.le_of_ble_eq_true rfl) (Nat.le_of_ble_eq_true rfl) (Nat.le_of_ble_eq_true rfl) (Nat.le_of_ble_eq_true rfl) (CX_mk (j := 1) (v := 0) (μ' := μ) (by unfold o_textAt; (repeat (first | rw [if_pos (by omega)] | rw [if_neg (by omega)]))) (by decide) rfl hC0)
  · refine z_iload_n C 1 dX6_textAt_4 rfl ?_
    refine z_aload_n C 0 dX6_textAt_5 rfl ?_
    refine z_getf C 5 zin_X6 (hR.ob.1) (hR.ob.2) rfl (Nat.le_of_ble_eq_true rfl) zl_1_144 rfl rfl dX6_textAt_6 ?_
    refine z_cV (As := []) C zc_J4_length_8abf5 (c_sb_len hX hR.sb) zl_6_73 (Nat.le_of_ble_eq_true rfl) (Nat.le_of_ble_eq_true rfl) (Nat.le_of_ble_eq_true rfl) (hOB.1) (hOB.2) rfl rfl rfl rfl (Nat.le_of_ble_eq_true rfl) dX6_textAt_9 (fun zl L1 f2 hzl => ?_)
    obtain ⟨hzl, rfl, rfl⟩ := hzl
    have hzl2 : zl = μ 3 0 := by rw [hzl, spTx_len]; omega
    change ZW G pZ la eZ (zRm 8 8 48) sZ mZ aZ bZ hZ cZ AZ 2 0 0 _ L f 12 [(0, .ref o), (1, .int (iI i))] [.int (iI zl), .int (iI i)]
    refine z_icmp_lt C 26 dX6_textAt_12 (by decide) (by omega) (by omega) (fun h12 => ?_) (fun h12 => ?_)
    · refine z_aload_n C 0 dX6_textAt_26 rfl ?_
      refine z_getf C 5 zin_X6 (hR.ob.1) (hR.ob.2) rfl (Nat.le_of_ble_eq_true rfl) zl_1_144 rfl rfl dX6_textAt_27 ?_
      refine z_iload_n C 1 dX6_textAt_30 rfl ?_
      refine z_cV (As := [.int (iI i)]) C zc_J4_charAt_5068e (c_sb_at hX hR.sb hT i ⟨by omega, by rw [spTx_len]; omega⟩) zl_6_82 (Nat.le_of_ble_eq_true rfl) (Nat.le_of_ble_eq_true rfl) (Nat.le_of_ble_eq_true rfl) (hOB.1) (hOB.2) rfl rfl rfl rfl (Nat.le_of_ble_eq_true rfl) dX6_textAt_31 (fun zc L3 f4 hzc => ?_)
      obtain ⟨hzc, rfl, rfl⟩ := hzc
      have hzc2 : zc = μ 20 i := by rw [hzc, spTx_at μ (by omega) (by omega)]
      have hb20 := hI.b20 i (by omega) (by omega)
      change ZW G pZ la eZ (zRm 8 8 48) sZ mZ aZ bZ hZ cZ AZ 2 0 0 _ L f 34 [(0, .ref o), (1, .int (iI i))] [.int (iI zc)]
      refine z_xr ?_
      exact z_creturn C (by omega) dX6_textAt_34 (Nat.le_of_ble_eq_true rfl) (Nat.le_of_ble_eq_true rfl) (CR_mk (v := μ 20 i) (μ' := μ) (by unfold o_textAt; (repeat (first | rw [if_pos (by omega)] | rw [if_neg (by omega)]))) (by omega) hC0)
    · exact z_throwSW C h4 hfl hnt (by decide +kernel) zl_2_207 zl_1_15 (List.mem_of_getElem? (i := 36) rfl) zthwIOB zthgIOB dX6_textAt_15 dX6_textAt_18 dX6_textAt_19 dX6_textAt_22 dX6_textAt_25 (Nat.le_of_ble_eq_true rfl) (Nat.le_of_ble_eq_true rfl) (Nat.le_of_ble_eq_true rfl) (Nat.le_of_ble_eq_true rfl) (CX_mk (j := 1) (v := 0) (μ' := μ) (by unfold o_textAt; (repeat (first | rw [if_pos (by omega)] | rw [if_neg (by omega)]))) (by decide) rfl hC0)
