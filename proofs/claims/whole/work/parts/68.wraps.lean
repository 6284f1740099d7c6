theorem zcw_setFloor : zcSW yL_setFloor cL_setFloor 6 (some .int) [(0, 12, 15, 13), (0, 12, 19, 15)] 5 := ⟨zl_2_117, zl_2_116, zl_1_0, ⟨by decide +kernel, by decide +kernel, by decide +kernel⟩, by decide⟩
set_option maxRecDepth 100000 in
set_option maxHeartbeats 400000 in
theorem w_setFloor {la : Launch} {G : zG} {X : (Nat → Prop) → State → Prop} (hX : zX X) (h4 : zT4 X) (hfl : la.stackTraces = false) (h5 : zT5 X) {L Lc : List Nat} {f : Nat → va_E} {o aL : Nat} {μ : zMu}  {φ : Nat → Int64} (hC : CSx G Lc f o μ) (hs : ∀ a ∈ Lc, a ∈ L) (hnd : Lc.Nodup) (hA : zLA G L f aL φ) (hna : aL ∉ Lc) (c r x : Int) (hc : zR c) (hr : zR r) (hx : zR x) : zM la G X yL_setFloor (.codeWith yL_setFloor cL_setFloor 6 (some .int) [(0, 12, 15, 13), (0, 12, 19, 15)] :: zT) 9 8 48 [.ref o, .int (iI c), .int (iI r), .int (iI x), .ref aL] L f zeI (zWQ G L Lc f o aL zov (o_setFloor μ c r x)) := by
  refine zMW_intro hX (by decide) (Nat.le_of_ble_eq_true rfl) (fun pZ eZ sZ mZ aZ bZ hZ cZ AZ C ht => ?_)
  obtain ⟨ω, hR, hI, hK⟩ := hC
  change ZW G pZ la eZ (zRm 9 8 48) sZ mZ aZ bZ hZ cZ AZ 6 0 0 _ L f 0 [(0, .ref o), (1, .int (iI c)), (2, .int (iI r)), (3, .int (iI x)), (4, .ref aL)] []
  refine z_aload C 4 dL_setFloor_0 rfl ?_
  refine z_iconst C dL_setFloor_2 ?_
  refine z_aload_n C 0 dL_setFloor_3 rfl ?_
  refine z_iload_n C 1 dL_setFloor_4 rfl ?_
  refine z_iload_n C 2 dL_setFloor_5 rfl ?_
  refine z_iload_n C 3 dL_setFloor_6 rfl ?_
  refine z_cVXs (As := [.int (iI c), .int (iI r), .int (iI x)]) C hs hnd zc_X6_setFloor (c_setFloor hX h4 hfl hR  c r x hI hK (by omega) (by omega) (by omega)) zl_2_199 ⟨Nat.le_of_ble_eq_true rfl, Nat.le_of_ble_eq_true rfl⟩ (Nat.le_of_ble_eq_true rfl) (Nat.le_of_ble_eq_true rfl) hR.ob.1 hR.ob.2 rfl rfl rfl rfl (Nat.le_of_ble_eq_true rfl) dL_setFloor_7 (fun E Ls1 f1 L2 f2 hx hm => ?_) (fun z Ls1 f1 L2 f2 hr hm => ?_)
  · obtain ⟨h1, he, hc9⟩ := hx
    rcases zes2 h1 he with ⟨e1, rfl⟩ | ⟨e1, rfl⟩
    · skip
      refine z_catch C h4 h5 ht [] ⟨0, 12, 15, 13⟩ [⟨0, 12, 19, 15⟩] rfl (fun _ h => absurd h List.not_mem_nil) (by decide) (by decide) zl_2_118 (List.mem_of_getElem? (i := 3) rfl) (fun q => ?_)
      change ZW G pZ la eZ (zRm 9 8 48) sZ mZ aZ bZ hZ cZ AZ 6 8 48 _ L2 f2 15 [(0, .ref o), (1, .int (iI c)), (2, .int (iI r)), (3, .int (iI x)), (4, .ref aL)] [.ref q]
      refine z_astore (ls' := [(5, .ref q), (0, .ref o), (1, .int (iI c)), (2, .int (iI r)), (3, .int (iI x)), (4, .ref aL)]) C dL_setFloor_15 (Nat.le_of_ble_eq_true rfl) rfl ?_
      refine z_iconst C dL_setFloor_17 ?_
      exact z_ireturn C dL_setFloor_18 (Nat.le_of_ble_eq_true rfl) (Nat.le_of_ble_eq_true rfl) (zWQ_x hA hna hm hc9 e1 ⟨by decide, by decide⟩)
    · skip
      refine z_catch C h4 h5 ht [⟨0, 12, 15, 13⟩] ⟨0, 12, 19, 15⟩ [] rfl (List.forall_mem_cons.mpr ⟨⟨by decide, _, zl_2_118, by decide +kernel⟩, (fun _ h => absurd h List.not_mem_nil)⟩) (by decide) (by decide) zl_2_198 (List.mem_of_getElem? (i := 4) rfl) (fun q => ?_)
      change ZW G pZ la eZ (zRm 9 8 48) sZ mZ aZ bZ hZ cZ AZ 6 8 48 _ L2 f2 19 [(0, .ref o), (1, .int (iI c)), (2, .int (iI r)), (3, .int (iI x)), (4, .ref aL)] [.ref q]
      refine z_astore (ls' := [(5, .ref q), (0, .ref o), (1, .int (iI c)), (2, .int (iI r)), (3, .int (iI x)), (4, .ref aL)]) C dL_setFloor_19 (Nat.le_of_ble_eq_true rfl) rfl ?_
      refine z_iconst C dL_setFloor_21 ?_
      exact z_ireturn C dL_setFloor_22 (Nat.le_of_ble_eq_true rfl) (Nat.le_of_ble_eq_true rfl) (zWQ_x hA hna hm hc9 e1 ⟨by decide, by decide⟩)
  · skip
    obtain ⟨h0, hz, hc9⟩ := hr
    have hA2 := zLA_m hA hna hm
    change ZW G pZ la eZ (zRm 9 8 48) sZ mZ aZ bZ hZ cZ AZ 6 8 48 _ L2 f2 10 [(0, .ref o), (1, .int (iI c)), (2, .int (iI r)), (3, .int (iI x)), (4, .ref aL)] [.int (iI z), .int (iI 0), .ref aL]
    refine z_i2lR C dL_setFloor_10 ?_
    refine z_last C hA2 dL_setFloor_11 (fun f3 φ3 hA3 hφ3 hk3 => ?_)
    change ZW G pZ la eZ (zRm 9 8 48) sZ mZ aZ bZ hZ cZ AZ 6 8 48 _ L2 f3 12 [(0, .ref o), (1, .int (iI c)), (2, .int (iI r)), (3, .int (iI x)), (4, .ref aL)] []
    refine z_goto C 23 dL_setFloor_12 (by decide) ?_
    refine z_iconst C dL_setFloor_23 ?_
    exact z_ireturn C dL_setFloor_24 (Nat.le_of_ble_eq_true rfl) (Nat.le_of_ble_eq_true rfl) (zWQ_n hA hna hm hc9 h0 hA3 hk3 (by rw [hφ3, hz]))

theorem zcw_setWater : zcSW yL_setWater cL_setWater 6 (some .int) [(0, 12, 15, 13), (0, 12, 19, 15)] 5 := ⟨zl_3_4, zl_3_3, zl_1_0, ⟨by decide +kernel, by decide +kernel, by decide +kernel⟩, by decide⟩
set_option maxRecDepth 100000 in
set_option maxHeartbeats 400000 in
theorem w_setWater {la : Launch} {G : zG} {X : (Nat → Prop) → State → Prop} (hX : zX X) (h4 : zT4 X) (hfl : la.stackTraces = false) (h5 : zT5 X) {L Lc : List Nat} {f : Nat → va_E} {o aL : Nat} {μ : zMu}  {φ : Nat → Int64} (hC : CSx G Lc f o μ) (hs : ∀ a ∈ Lc, a ∈ L) (hnd : Lc.Nodup) (hA : zLA G L f aL φ) (hna : aL ∉ Lc) (d h x : Int) (hd : zR d) (hh : zR h) (hx : zR x) : zM la G X yL_setWater (.codeWith yL_setWater cL_setWater 6 (some .int) [(0, 12, 15, 13), (0, 12, 19, 15)] :: zT) 9 8 48 [.ref o, .int (iI d), .int (iI h), .int (iI x), .ref aL] L f zeI (zWQ G L Lc f o aL zov (o_setWater μ d h x)) := by
  refine zMW_intro hX (by decide) (Nat.le_of_ble_eq_true rfl) (fun pZ eZ sZ mZ aZ bZ hZ cZ AZ C ht => ?_)
  obtain ⟨ω, hR, hI, hK⟩ := hC
  change ZW G pZ la eZ (zRm 9 8 48) sZ mZ aZ bZ hZ cZ AZ 6 0 0 _ L f 0 [(0, .ref o), (1, .int (iI d)), (2, .int (iI h)), (3, .int (iI x)), (4, .ref aL)] []
  refine z_aload C 4 dL_setWater_0 rfl ?_
  refine z_iconst C dL_setWater_2 ?_
  refine z_aload_n C 0 dL_setWater_3 rfl ?_
  refine z_iload_n C 1 dL_setWater_4 rfl ?_
  refine z_iload_n C 2 dL_setWater_5 rfl ?_
  refine z_iload_n C 3 dL_setWater_6 rfl ?_
  refine z_cVXs (As := [.int (iI d), .int (iI h), .int (iI x)]) C hs hnd zc_X6_setWater (c_setWater hX h4 hfl hR  d h x hI hK (by omega) (by omega) (by omega)) zl_3_5 ⟨Nat.le_of_ble_eq_true rfl, Nat.le_of_ble_eq_true rfl⟩ (Nat.le_of_ble_eq_true rfl) (Nat.le_of_ble_eq_true rfl) hR.ob.1 hR.ob.2 rfl rfl rfl rfl (Nat.le_of_ble_eq_true rfl) dL_setWater_7 (fun E Ls1 f1 L2 f2 hx hm => ?_) (fun z Ls1 f1 L2 f2 hr hm => ?_)
  · obtain ⟨h1, he, hc9⟩ := hx
    rcases zes2 h1 he with ⟨e1, rfl⟩ | ⟨e1, rfl⟩
    · skip
      refine z_catch C h4 h5 ht [] ⟨0, 12, 15, 13⟩ [⟨0, 12, 19, 15⟩] rfl (fun _ h => absurd h List.not_mem_nil) (by decide) (by decide) zl_2_118 (List.mem_of_getElem? (i := 3) rfl) (fun q => ?_)
      change ZW G pZ la eZ (zRm 9 8 48) sZ mZ aZ bZ hZ cZ AZ 6 8 48 _ L2 f2 15 [(0, .ref o), (1, .int (iI d)), (2, .int (iI h)), (3, .int (iI x)), (4, .ref aL)] [.ref q]
      refine z_astore (ls' := [(5, .ref q), (0, .ref o), (1, .int (iI d)), (2, .int (iI h)), (3, .int (iI x)), (4, .ref aL)]) C dL_setWater_15 (Nat.le_of_ble_eq_true rfl) rfl ?_
      refine z_iconst C dL_setWater_17 ?_
      exact z_ireturn C dL_setWater_18 (Nat.le_of_ble_eq_true rfl) (Nat.le_of_ble_eq_true rfl) (zWQ_x hA hna hm hc9 e1 ⟨by decide, by decide⟩)
    · skip
      refine z_catch C h4 h5 ht [⟨0, 12, 15, 13⟩] ⟨0, 12, 19, 15⟩ [] rfl (List.forall_mem_cons.mpr ⟨⟨by decide, _, zl_2_118, by decide +kernel⟩, (fun _ h => absurd h List.not_mem_nil)⟩) (by decide) (by decide) zl_2_198 (List.mem_of_getElem? (i := 4) rfl) (fun q => ?_)
      change ZW G pZ la eZ (zRm 9 8 48) sZ mZ aZ bZ hZ cZ AZ 6 8 48 _ L2 f2 19 [(0, .ref o), (1, .int (iI d)), (2, .int (iI h)), (3, .int (iI x)), (4, .ref aL)] [.ref q]
      refine z_astore (ls' := [(5, .ref q), (0, .ref o), (1, .int (iI d)), (2, .int (iI h)), (3, .int (iI x)), (4, .ref aL)]) C dL_setWater_19 (Nat.le_of_ble_eq_true rfl) rfl ?_
      refine z_iconst C dL_setWater_21 ?_
      exact z_ireturn C dL_setWater_22 (Nat.le_of_ble_eq_true rfl) (Nat.le_of_ble_eq_true rfl) (zWQ_x hA hna hm hc9 e1 ⟨by decide, by decide⟩)
  · skip
    obtain ⟨h0, hz, hc9⟩ := hr
    have hA2 := zLA_m hA hna hm
    change ZW G pZ la eZ (zRm 9 8 48) sZ mZ aZ bZ hZ cZ AZ 6 8 48 _ L2 f2 10 [(0, .ref o), (1, .int (iI d)), (2, .int (iI h)), (3, .int (iI x)), (4, .ref aL)] [.int (iI z), .int (iI 0), .ref aL]
    refine z_i2lR C dL_setWater_10 ?_
    refine z_last C hA2 dL_setWater_11 (fun f3 φ3 hA3 hφ3 hk3 => ?_)
    change ZW G pZ la eZ (zRm 9 8 48) sZ mZ aZ bZ hZ cZ AZ 6 8 48 _ L2 f3 12 [(0, .ref o), (1, .int (iI d)), (2, .int (iI h)), (3, .int (iI x)), (4, .ref aL)] []
    refine z_goto C 23 dL_setWater_12 (by decide) ?_
    refine z_iconst C dL_setWater_23 ?_
    exact z_ireturn C dL_setWater_24 (Nat.le_of_ble_eq_true rfl) (Nat.le_of_ble_eq_true rfl) (zWQ_n hA hna hm hc9 h0 hA3 hk3 (by rw [hφ3, hz]))

theorem zcw_setSlope : zcSW yL_setSlope cL_setSlope 5 (some .int) [(0, 10, 13, 13), (0, 10, 17, 15)] 4 := ⟨zl_3_46, zl_3_45, zl_1_0, ⟨by decide +kernel, by decide +kernel, by decide +kernel⟩, by decide⟩
set_option maxRecDepth 100000 in
set_option maxHeartbeats 400000 in
theorem w_setSlope {la : Launch} {G : zG} {X : (Nat → Prop) → State → Prop} (hX : zX X) (h4 : zT4 X) (hfl : la.stackTraces = false) (h5 : zT5 X) {L Lc : List Nat} {f : Nat → va_E} {o aL : Nat} {μ : zMu}  {φ : Nat → Int64} (hC : CSx G Lc f o μ) (hs : ∀ a ∈ Lc, a ∈ L) (hnd : Lc.Nodup) (hA : zLA G L f aL φ) (hna : aL ∉ Lc) (d x : Int) (hd : zR d) (hx : zR x) : zM la G X yL_setSlope (.codeWith yL_setSlope cL_setSlope 5 (some .int) [(0, 10, 13, 13), (0, 10, 17, 15)] :: zT) 9 8 48 [.ref o, .int (iI d), .int (iI x), .ref aL] L f zeI (zWQ G L Lc f o aL zov (o_setSlope μ d x)) := by
  refine zMW_intro hX (by decide) (Nat.le_of_ble_eq_true rfl) (fun pZ eZ sZ mZ aZ bZ hZ cZ AZ C ht => ?_)
  obtain ⟨ω, hR, hI, hK⟩ := hC
  change ZW G pZ la eZ (zRm 9 8 48) sZ mZ aZ bZ hZ cZ AZ 5 0 0 _ L f 0 [(0, .ref o), (1, .int (iI d)), (2, .int (iI x)), (3, .ref aL)] []
  refine z_aload_n C 3 dL_setSlope_0 rfl ?_
  refine z_iconst C dL_setSlope_1 ?_
  refine z_aload_n C 0 dL_setSlope_2 rfl ?_
  refine z_iload_n C 1 dL_setSlope_3 rfl ?_
  refine z_iload_n C 2 dL_setSlope_4 rfl ?_
  refine z_cVXs (As := [.int (iI d), .int (iI x)]) C hs hnd zc_X6_setSlope (c_setSlope hX h4 hfl hR  d x hI hK (by omega) (by omega)) zl_3_47 ⟨Nat.le_of_ble_eq_true rfl, Nat.le_of_ble_eq_true rfl⟩ (Nat.le_of_ble_eq_true rfl) (Nat.le_of_ble_eq_true rfl) hR.ob.1 hR.ob.2 rfl rfl rfl rfl (Nat.le_of_ble_eq_true rfl) dL_setSlope_5 (fun E Ls1 f1 L2 f2 hx hm => ?_) (fun z Ls1 f1 L2 f2 hr hm => ?_)
  · obtain ⟨h1, he, hc9⟩ := hx
    rcases zes2 h1 he with ⟨e1, rfl⟩ | ⟨e1, rfl⟩
    · skip
      refine z_catch C h4 h5 ht [] ⟨0, 10, 13, 13⟩ [⟨0, 10, 17, 15⟩] rfl (fun _ h => absurd h List.not_mem_nil) (by decide) (by decide) zl_2_118 (List.mem_of_getElem? (i := 3) rfl) (fun q => ?_)
      change ZW G pZ la eZ (zRm 9 8 48) sZ mZ aZ bZ hZ cZ AZ 5 8 48 _ L2 f2 13 [(0, .ref o), (1, .int (iI d)), (2, .int (iI x)), (3, .ref aL)] [.ref q]
      refine z_astore (ls' := [(4, .ref q), (0, .ref o), (1, .int (iI d)), (2, .int (iI x)), (3, .ref aL)]) C dL_setSlope_13 (Nat.le_of_ble_eq_true rfl) rfl ?_
      refine z_iconst C dL_setSlope_15 ?_
      exact z_ireturn C dL_setSlope_16 (Nat.le_of_ble_eq_true rfl) (Nat.le_of_ble_eq_true rfl) (zWQ_x hA hna hm hc9 e1 ⟨by decide, by decide⟩)
    · skip
      refine z_catch C h4 h5 ht [⟨0, 10, 13, 13⟩] ⟨0, 10, 17, 15⟩ [] rfl (List.forall_mem_cons.mpr ⟨⟨by decide, _, zl_2_118, by decide +kernel⟩, (fun _ h => absurd h List.not_mem_nil)⟩) (by decide) (by decide) zl_2_198 (List.mem_of_getElem? (i := 4) rfl) (fun q => ?_)
      change ZW G pZ la eZ (zRm 9 8 48) sZ mZ aZ bZ hZ cZ AZ 5 8 48 _ L2 f2 17 [(0, .ref o), (1, .int (iI d)), (2, .int (iI x)), (3, .ref aL)] [.ref q]
      refine z_astore (ls' := [(4, .ref q), (0, .ref o), (1, .int (iI d)), (2, .int (iI x)), (3, .ref aL)]) C dL_setSlope_17 (Nat.le_of_ble_eq_true rfl) rfl ?_
      refine z_iconst C dL_setSlope_19 ?_
      exact z_ireturn C dL_setSlope_20 (Nat.le_of_ble_eq_true rfl) (Nat.le_of_ble_eq_true rfl) (zWQ_x hA hna hm hc9 e1 ⟨by decide, by decide⟩)
  · skip
    obtain ⟨h0, hz, hc9⟩ := hr
    have hA2 := zLA_m hA hna hm
    change ZW G pZ la eZ (zRm 9 8 48) sZ mZ aZ bZ hZ cZ AZ 5 8 48 _ L2 f2 8 [(0, .ref o), (1, .int (iI d)), (2, .int (iI x)), (3, .ref aL)] [.int (iI z), .int (iI 0), .ref aL]
    refine z_i2lR C dL_setSlope_8 ?_
    refine z_last C hA2 dL_setSlope_9 (fun f3 φ3 hA3 hφ3 hk3 => ?_)
    change ZW G pZ la eZ (zRm 9 8 48) sZ mZ aZ bZ hZ cZ AZ 5 8 48 _ L2 f3 10 [(0, .ref o), (1, .int (iI d)), (2, .int (iI x)), (3, .ref aL)] []
    refine z_goto C 21 dL_setSlope_10 (by decide) ?_
    refine z_iconst C dL_setSlope_21 ?_
    exact z_ireturn C dL_setSlope_22 (Nat.le_of_ble_eq_true rfl) (Nat.le_of_ble_eq_true rfl) (zWQ_n hA hna hm hc9 h0 hA3 hk3 (by rw [hφ3, hz]))

theorem zcw_waterAt : zcSW yL_waterAt cL_waterAt 6 (some .int) [(0, 12, 15, 13)] 5 := ⟨zl_3_62, zl_3_61, zl_1_0, ⟨by decide +kernel, by decide +kernel, by decide +kernel⟩, by decide⟩
set_option maxRecDepth 100000 in
set_option maxHeartbeats 400000 in
theorem w_waterAt {la : Launch} {G : zG} {X : (Nat → Prop) → State → Prop} (hX : zX X) (h4 : zT4 X) (hfl : la.stackTraces = false) (h5 : zT5 X) {L Lc : List Nat} {f : Nat → va_E} {o aL : Nat} {μ : zMu}  {φ : Nat → Int64} (hC : CSx G Lc f o μ) (hs : ∀ a ∈ Lc, a ∈ L) (hnd : Lc.Nodup) (hA : zLA G L f aL φ) (hna : aL ∉ Lc) (c d h : Int) (hc : zR c) (hd : zR d) (hh : zR h) : zM la G X yL_waterAt (.codeWith yL_waterAt cL_waterAt 6 (some .int) [(0, 12, 15, 13)] :: zT) 9 8 48 [.ref o, .int (iI c), .int (iI d), .int (iI h), .ref aL] L f zeI (zWQ G L Lc f o aL zov (o_waterAt μ c d h)) := by
  refine zMW_intro hX (by decide) (Nat.le_of_ble_eq_true rfl) (fun pZ eZ sZ mZ aZ bZ hZ cZ AZ C ht => ?_)
  obtain ⟨ω, hR, hI, hK⟩ := hC
  change ZW G pZ la eZ (zRm 9 8 48) sZ mZ aZ bZ hZ cZ AZ 6 0 0 _ L f 0 [(0, .ref o), (1, .int (iI c)), (2, .int (iI d)), (3, .int (iI h)), (4, .ref aL)] []
  refine z_aload C 4 dL_waterAt_0 rfl ?_
  refine z_iconst C dL_waterAt_2 ?_
  refine z_aload_n C 0 dL_waterAt_3 rfl ?_
  refine z_iload_n C 1 dL_waterAt_4 rfl ?_
  refine z_iload_n C 2 dL_waterAt_5 rfl ?_
  refine z_iload_n C 3 dL_waterAt_6 rfl ?_
  refine z_cVXs (As := [.int (iI c), .int (iI d), .int (iI h)]) C hs hnd zc_X6_waterAt (c_waterAt hX h4 hfl hR  c d h hI hK (by omega) (by omega) (by omega)) zl_3_63 ⟨Nat.le_of_ble_eq_true rfl, Nat.le_of_ble_eq_true rfl⟩ (Nat.le_of_ble_eq_true rfl) (Nat.le_of_ble_eq_true rfl) hR.ob.1 hR.ob.2 rfl rfl rfl rfl (Nat.le_of_ble_eq_true rfl) dL_waterAt_7 (fun E Ls1 f1 L2 f2 hx hm => ?_) (fun z Ls1 f1 L2 f2 hr hm => ?_)
  · obtain ⟨h1, he, hc9⟩ := hx
    obtain ⟨e1, rfl⟩ := zes1 h1 he
    refine z_catch C h4 h5 ht [] ⟨0, 12, 15, 13⟩ [] rfl (fun _ h => absurd h List.not_mem_nil) (by decide) (by decide) zl_2_118 (List.mem_of_getElem? (i := 3) rfl) (fun q => ?_)
    change ZW G pZ la eZ (zRm 9 8 48) sZ mZ aZ bZ hZ cZ AZ 6 8 48 _ L2 f2 15 [(0, .ref o), (1, .int (iI c)), (2, .int (iI d)), (3, .int (iI h)), (4, .ref aL)] [.ref q]
    refine z_astore (ls' := [(5, .ref q), (0, .ref o), (1, .int (iI c)), (2, .int (iI d)), (3, .int (iI h)), (4, .ref aL)]) C dL_waterAt_15 (Nat.le_of_ble_eq_true rfl) rfl ?_
    refine z_iconst C dL_waterAt_17 ?_
    exact z_ireturn C dL_waterAt_18 (Nat.le_of_ble_eq_true rfl) (Nat.le_of_ble_eq_true rfl) (zWQ_x hA hna hm hc9 e1 ⟨by decide, by decide⟩)
  · skip
    obtain ⟨h0, hz, hc9⟩ := hr
    have hA2 := zLA_m hA hna hm
    change ZW G pZ la eZ (zRm 9 8 48) sZ mZ aZ bZ hZ cZ AZ 6 8 48 _ L2 f2 10 [(0, .ref o), (1, .int (iI c)), (2, .int (iI d)), (3, .int (iI h)), (4, .ref aL)] [.int (iI z), .int (iI 0), .ref aL]
    refine z_i2lR C dL_waterAt_10 ?_
    refine z_last C hA2 dL_waterAt_11 (fun f3 φ3 hA3 hφ3 hk3 => ?_)
    change ZW G pZ la eZ (zRm 9 8 48) sZ mZ aZ bZ hZ cZ AZ 6 8 48 _ L2 f3 12 [(0, .ref o), (1, .int (iI c)), (2, .int (iI d)), (3, .int (iI h)), (4, .ref aL)] []
    refine z_goto C 19 dL_waterAt_12 (by decide) ?_
    refine z_iconst C dL_waterAt_19 ?_
    exact z_ireturn C dL_waterAt_20 (Nat.le_of_ble_eq_true rfl) (Nat.le_of_ble_eq_true rfl) (zWQ_n hA hna hm hc9 h0 hA3 hk3 (by rw [hφ3, hz]))

theorem zcw_setWeather : zcSW yL_setWeather cL_setWeather 5 (some .int) [(0, 10, 13, 13), (0, 10, 17, 15)] 4 := ⟨zl_3_74, zl_3_73, zl_1_0, ⟨by decide +kernel, by decide +kernel, by decide +kernel⟩, by decide⟩
set_option maxRecDepth 100000 in
set_option maxHeartbeats 400000 in
theorem w_setWeather {la : Launch} {G : zG} {X : (Nat → Prop) → State → Prop} (hX : zX X) (h4 : zT4 X) (hfl : la.stackTraces = false) (h5 : zT5 X) {L Lc : List Nat} {f : Nat → va_E} {o aL : Nat} {μ : zMu}  {φ : Nat → Int64} (hC : CSx G Lc f o μ) (hs : ∀ a ∈ Lc, a ∈ L) (hnd : Lc.Nodup) (hA : zLA G L f aL φ) (hna : aL ∉ Lc) (d x : Int) (hd : zR d) (hx : zR x) : zM la G X yL_setWeather (.codeWith yL_setWeather cL_setWeather 5 (some .int) [(0, 10, 13, 13), (0, 10, 17, 15)] :: zT) 9 8 48 [.ref o, .int (iI d), .int (iI x), .ref aL] L f zeI (zWQ G L Lc f o aL zov (o_setWeather μ d x)) := by
  refine zMW_intro hX (by decide) (Nat.le_of_ble_eq_true rfl) (fun pZ eZ sZ mZ aZ bZ hZ cZ AZ C ht => ?_)
  obtain ⟨ω, hR, hI, hK⟩ := hC
  change ZW G pZ la eZ (zRm 9 8 48) sZ mZ aZ bZ hZ cZ AZ 5 0 0 _ L f 0 [(0, .ref o), (1, .int (iI d)), (2, .int (iI x)), (3, .ref aL)] []
  refine z_aload_n C 3 dL_setWeather_0 rfl ?_
  refine z_iconst C dL_setWeather_1 ?_
  refine z_aload_n C 0 dL_setWeather_2 rfl ?_
  refine z_iload_n C 1 dL_setWeather_3 rfl ?_
  refine z_iload_n C 2 dL_setWeather_4 rfl ?_
  refine z_cVXs (As := [.int (iI d), .int (iI x)]) C hs hnd zc_X6_setWeather (c_setWeather hX h4 hfl hR  d x hI hK (by omega) (by omega)) zl_3_75 ⟨Nat.le_of_ble_eq_true rfl, Nat.le_of_ble_eq_true rfl⟩ (Nat.le_of_ble_eq_true rfl) (Nat.le_of_ble_eq_true rfl) hR.ob.1 hR.ob.2 rfl rfl rfl rfl (Nat.le_of_ble_eq_true rfl) dL_setWeather_5 (fun E Ls1 f1 L2 f2 hx hm => ?_) (fun z Ls1 f1 L2 f2 hr hm => ?_)
  · obtain ⟨h1, he, hc9⟩ := hx
    rcases zes2 h1 he with ⟨e1, rfl⟩ | ⟨e1, rfl⟩
    · skip
      refine z_catch C h4 h5 ht [] ⟨0, 10, 13, 13⟩ [⟨0, 10, 17, 15⟩] rfl (fun _ h => absurd h List.not_mem_nil) (by decide) (by decide) zl_2_118 (List.mem_of_getElem? (i := 3) rfl) (fun q => ?_)
      change ZW G pZ la eZ (zRm 9 8 48) sZ mZ aZ bZ hZ cZ AZ 5 8 48 _ L2 f2 13 [(0, .ref o), (1, .int (iI d)), (2, .int (iI x)), (3, .ref aL)] [.ref q]
      refine z_astore (ls' := [(4, .ref q), (0, .ref o), (1, .int (iI d)), (2, .int (iI x)), (3, .ref aL)]) C dL_setWeather_13 (Nat.le_of_ble_eq_true rfl) rfl ?_
      refine z_iconst C dL_setWeather_15 ?_
      exact z_ireturn C dL_setWeather_16 (Nat.le_of_ble_eq_true rfl) (Nat.le_of_ble_eq_true rfl) (zWQ_x hA hna hm hc9 e1 ⟨by decide, by decide⟩)
    · skip
      refine z_catch C h4 h5 ht [⟨0, 10, 13, 13⟩] ⟨0, 10, 17, 15⟩ [] rfl (List.forall_mem_cons.mpr ⟨⟨by decide, _, zl_2_118, by decide +kernel⟩, (fun _ h => absurd h List.not_mem_nil)⟩) (by decide) (by decide) zl_2_198 (List.mem_of_getElem? (i := 4) rfl) (fun q => ?_)
      change ZW G pZ la eZ (zRm 9 8 48) sZ mZ aZ bZ hZ cZ AZ 5 8 48 _ L2 f2 17 [(0, .ref o), (1, .int (iI d)), (2, .int (iI x)), (3, .ref aL)] [.ref q]
      refine z_astore (ls' := [(4, .ref q), (0, .ref o), (1, .int (iI d)), (2, .int (iI x)), (3, .ref aL)]) C dL_setWeather_17 (Nat.le_of_ble_eq_true rfl) rfl ?_
      refine z_iconst C dL_setWeather_19 ?_
      exact z_ireturn C dL_setWeather_20 (Nat.le_of_ble_eq_true rfl) (Nat.le_of_ble_eq_true rfl) (zWQ_x hA hna hm hc9 e1 ⟨by decide, by decide⟩)
  · skip
    obtain ⟨h0, hz, hc9⟩ := hr
    have hA2 := zLA_m hA hna hm
    change ZW G pZ la eZ (zRm 9 8 48) sZ mZ aZ bZ hZ cZ AZ 5 8 48 _ L2 f2 8 [(0, .ref o), (1, .int (iI d)), (2, .int (iI x)), (3, .ref aL)] [.int (iI z), .int (iI 0), .ref aL]
    refine z_i2lR C dL_setWeather_8 ?_
    refine z_last C hA2 dL_setWeather_9 (fun f3 φ3 hA3 hφ3 hk3 => ?_)
    change ZW G pZ la eZ (zRm 9 8 48) sZ mZ aZ bZ hZ cZ AZ 5 8 48 _ L2 f3 10 [(0, .ref o), (1, .int (iI d)), (2, .int (iI x)), (3, .ref aL)] []
    refine z_goto C 21 dL_setWeather_10 (by decide) ?_
    refine z_iconst C dL_setWeather_21 ?_
    exact z_ireturn C dL_setWeather_22 (Nat.le_of_ble_eq_true rfl) (Nat.le_of_ble_eq_true rfl) (zWQ_n hA hna hm hc9 h0 hA3 hk3 (by rw [hφ3, hz]))

theorem zcw_addGauge : zcSW yL_addGauge cL_addGauge 4 (some .int) [(0, 9, 12, 13), (0, 9, 15, 34), (0, 9, 18, 36)] 3 := ⟨zl_3_86, zl_3_85, zl_1_0, ⟨by decide +kernel, by decide +kernel, by decide +kernel⟩, by decide⟩
set_option maxRecDepth 100000 in
set_option maxHeartbeats 400000 in
theorem w_addGauge {la : Launch} {G : zG} {X : (Nat → Prop) → State → Prop} (hX : zX X) (h4 : zT4 X) (hfl : la.stackTraces = false) (h5 : zT5 X) {L Lc : List Nat} {f : Nat → va_E} {o aL : Nat} {μ : zMu} (hO : zT2 X) {φ : Nat → Int64} (hC : CSx G Lc f o μ) (hs : ∀ a ∈ Lc, a ∈ L) (hnd : Lc.Nodup) (hA : zLA G L f aL φ) (hna : aL ∉ Lc) (c : Int) (hc : zR c) : zM la G X yL_addGauge (.codeWith yL_addGauge cL_addGauge 4 (some .int) [(0, 9, 12, 13), (0, 9, 15, 34), (0, 9, 18, 36)] :: zT) 9 8 300 [.ref o, .int (iI c), .ref aL] L f zeI (zWQ G L Lc f o aL zov (o_addGauge μ c)) := by
  refine zMW_intro hX (by decide) (Nat.le_of_ble_eq_true rfl) (fun pZ eZ sZ mZ aZ bZ hZ cZ AZ C ht => ?_)
  obtain ⟨ω, hR, hI, hK⟩ := hC
  change ZW G pZ la eZ (zRm 9 8 300) sZ mZ aZ bZ hZ cZ AZ 4 0 0 _ L f 0 [(0, .ref o), (1, .int (iI c)), (2, .ref aL)] []
  refine z_aload_n C 2 dL_addGauge_0 rfl ?_
  refine z_iconst C dL_addGauge_1 ?_
  refine z_aload_n C 0 dL_addGauge_2 rfl ?_
  refine z_iload_n C 1 dL_addGauge_3 rfl ?_
  refine z_cVXs (As := [.int (iI c)]) C hs hnd zc_X6_addGauge (c_addGauge hX h4 hfl hR hO c hI hK (by omega)) zl_3_89 ⟨Nat.le_of_ble_eq_true rfl, Nat.le_of_ble_eq_true rfl⟩ (Nat.le_of_ble_eq_true rfl) (Nat.le_of_ble_eq_true rfl) hR.ob.1 hR.ob.2 rfl rfl rfl rfl (Nat.le_of_ble_eq_true rfl) dL_addGauge_4 (fun E Ls1 f1 L2 f2 hx hm => ?_) (fun z Ls1 f1 L2 f2 hr hm => ?_)
  · obtain ⟨h1, he, hc9⟩ := hx
    rcases zes3 h1 he with ⟨e1, rfl⟩ | ⟨e1, rfl⟩ | ⟨e1, rfl⟩
    · skip
      refine z_catch C h4 h5 ht [] ⟨0, 9, 12, 13⟩ [⟨0, 9, 15, 34⟩, ⟨0, 9, 18, 36⟩] rfl (fun _ h => absurd h List.not_mem_nil) (by decide) (by decide) zl_2_118 (List.mem_of_getElem? (i := 3) rfl) (fun q => ?_)
      change ZW G pZ la eZ (zRm 9 8 300) sZ mZ aZ bZ hZ cZ AZ 4 8 300 _ L2 f2 12 [(0, .ref o), (1, .int (iI c)), (2, .ref aL)] [.ref q]
      refine z_astore_n (ls' := [(3, .ref q), (0, .ref o), (1, .int (iI c)), (2, .ref aL)]) C dL_addGauge_12 (Nat.le_of_ble_eq_true rfl) rfl ?_
      refine z_iconst C dL_addGauge_13 ?_
      exact z_ireturn C dL_addGauge_14 (Nat.le_of_ble_eq_true rfl) (Nat.le_of_ble_eq_true rfl) (zWQ_x hA hna hm hc9 e1 ⟨by decide, by decide⟩)
    · skip
      refine z_catch C h4 h5 ht [⟨0, 9, 12, 13⟩] ⟨0, 9, 15, 34⟩ [⟨0, 9, 18, 36⟩] rfl (List.forall_mem_cons.mpr ⟨⟨by decide, _, zl_2_118, by decide +kernel⟩, (fun _ h => absurd h List.not_mem_nil)⟩) (by decide) (by decide) zl_3_87 (List.mem_of_getElem? (i := 5) rfl) (fun q => ?_)
      change ZW G pZ la eZ (zRm 9 8 300) sZ mZ aZ bZ hZ cZ AZ 4 8 300 _ L2 f2 15 [(0, .ref o), (1, .int (iI c)), (2, .ref aL)] [.ref q]
      refine z_astore_n (ls' := [(3, .ref q), (0, .ref o), (1, .int (iI c)), (2, .ref aL)]) C dL_addGauge_15 (Nat.le_of_ble_eq_true rfl) rfl ?_
      refine z_iconst C dL_addGauge_16 ?_
      exact z_ireturn C dL_addGauge_17 (Nat.le_of_ble_eq_true rfl) (Nat.le_of_ble_eq_true rfl) (zWQ_x hA hna hm hc9 e1 ⟨by decide, by decide⟩)
    · skip
      refine z_catch C h4 h5 ht [⟨0, 9, 12, 13⟩, ⟨0, 9, 15, 34⟩] ⟨0, 9, 18, 36⟩ [] rfl (List.forall_mem_cons.mpr ⟨⟨by decide, _, zl_2_118, by decide +kernel⟩, (List.forall_mem_cons.mpr ⟨⟨by decide, _, zl_3_87, by decide +kernel⟩, (fun _ h => absurd h List.not_mem_nil)⟩)⟩) (by decide) (by decide) zl_3_88 (List.mem_of_getElem? (i := 6) rfl) (fun q => ?_)
      change ZW G pZ la eZ (zRm 9 8 300) sZ mZ aZ bZ hZ cZ AZ 4 8 300 _ L2 f2 18 [(0, .ref o), (1, .int (iI c)), (2, .ref aL)] [.ref q]
      refine z_astore_n (ls' := [(3, .ref q), (0, .ref o), (1, .int (iI c)), (2, .ref aL)]) C dL_addGauge_18 (Nat.le_of_ble_eq_true rfl) rfl ?_
      refine z_iconst C dL_addGauge_19 ?_
      exact z_ireturn C dL_addGauge_20 (Nat.le_of_ble_eq_true rfl) (Nat.le_of_ble_eq_true rfl) (zWQ_x hA hna hm hc9 e1 ⟨by decide, by decide⟩)
  · skip
    obtain ⟨h0, hz, hc9⟩ := hr
    have hA2 := zLA_m hA hna hm
    change ZW G pZ la eZ (zRm 9 8 300) sZ mZ aZ bZ hZ cZ AZ 4 8 300 _ L2 f2 7 [(0, .ref o), (1, .int (iI c)), (2, .ref aL)] [.int (iI z), .int (iI 0), .ref aL]
    refine z_i2lR C dL_addGauge_7 ?_
    refine z_last C hA2 dL_addGauge_8 (fun f3 φ3 hA3 hφ3 hk3 => ?_)
    change ZW G pZ la eZ (zRm 9 8 300) sZ mZ aZ bZ hZ cZ AZ 4 8 300 _ L2 f3 9 [(0, .ref o), (1, .int (iI c)), (2, .ref aL)] []
    refine z_goto C 21 dL_addGauge_9 (by decide) ?_
    refine z_iconst C dL_addGauge_21 ?_
    exact z_ireturn C dL_addGauge_22 (Nat.le_of_ble_eq_true rfl) (Nat.le_of_ble_eq_true rfl) (zWQ_n hA hna hm hc9 h0 hA3 hk3 (by rw [hφ3, hz]))

theorem zcw_fail : zcSW yL_fail cL_fail 7 (some .int) [(0, 14, 17, 42), (0, 14, 21, 13), (0, 14, 25, 15)] 6 := ⟨zl_3_152, zl_3_151, zl_1_0, ⟨by decide +kernel, by decide +kernel, by decide +kernel⟩, by decide⟩
set_option maxRecDepth 100000 in
set_option maxHeartbeats 400000 in
theorem w_fail {la : Launch} {G : zG} {X : (Nat → Prop) → State → Prop} (hX : zX X) (h4 : zT4 X) (hfl : la.stackTraces = false) (h5 : zT5 X) {L Lc : List Nat} {f : Nat → va_E} {o aL : Nat} {μ : zMu}  {φ : Nat → Int64} (hC : CSx G Lc f o μ) (hs : ∀ a ∈ Lc, a ∈ L) (hnd : Lc.Nodup) (hA : zLA G L f aL φ) (hna : aL ∉ Lc) (g d h n : Int) (hg : zR g) (hd : zR d) (hh : zR h) (hn : zR n) : zM la G X yL_fail (.codeWith yL_fail cL_fail 7 (some .int) [(0, 14, 17, 42), (0, 14, 21, 13), (0, 14, 25, 15)] :: zT) 9 8 48 [.ref o, .int (iI g), .int (iI d), .int (iI h), .int (iI n), .ref aL] L f zeI (zWQ G L Lc f o aL zov (o_fail μ g d h n)) := by
  refine zMW_intro hX (by decide) (Nat.le_of_ble_eq_true rfl) (fun pZ eZ sZ mZ aZ bZ hZ cZ AZ C ht => ?_)
  obtain ⟨ω, hR, hI, hK⟩ := hC
  change ZW G pZ la eZ (zRm 9 8 48) sZ mZ aZ bZ hZ cZ AZ 7 0 0 _ L f 0 [(0, .ref o), (1, .int (iI g)), (2, .int (iI d)), (3, .int (iI h)), (4, .int (iI n)), (5, .ref aL)] []
  refine z_aload C 5 dL_fail_0 rfl ?_
  refine z_iconst C dL_fail_2 ?_
  refine z_aload_n C 0 dL_fail_3 rfl ?_
  refine z_iload_n C 1 dL_fail_4 rfl ?_
  refine z_iload_n C 2 dL_fail_5 rfl ?_
  refine z_iload_n C 3 dL_fail_6 rfl ?_
  refine z_iload C 4 dL_fail_7 rfl ?_
  refine z_cVXs (As := [.int (iI g), .int (iI d), .int (iI h), .int (iI n)]) C hs hnd zc_X6_fail (c_fail hX h4 hfl hR  g d h n hI hK (by omega) (by omega) (by omega) (by omega)) zl_3_154 ⟨Nat.le_of_ble_eq_true rfl, Nat.le_of_ble_eq_true rfl⟩ (Nat.le_of_ble_eq_true rfl) (Nat.le_of_ble_eq_true rfl) hR.ob.1 hR.ob.2 rfl rfl rfl rfl (Nat.le_of_ble_eq_true rfl) dL_fail_9 (fun E Ls1 f1 L2 f2 hx hm => ?_) (fun z Ls1 f1 L2 f2 hr hm => ?_)
  · obtain ⟨h1, he, hc9⟩ := hx
    rcases zes3 h1 he with ⟨e1, rfl⟩ | ⟨e1, rfl⟩ | ⟨e1, rfl⟩
    · skip
      refine z_catch C h4 h5 ht [] ⟨0, 14, 17, 42⟩ [⟨0, 14, 21, 13⟩, ⟨0, 14, 25, 15⟩] rfl (fun _ h => absurd h List.not_mem_nil) (by decide) (by decide) zl_3_153 (List.mem_of_getElem? (i := 7) rfl) (fun q => ?_)
      change ZW G pZ la eZ (zRm 9 8 48) sZ mZ aZ bZ hZ cZ AZ 7 8 48 _ L2 f2 17 [(0, .ref o), (1, .int (iI g)), (2, .int (iI d)), (3, .int (iI h)), (4, .int (iI n)), (5, .ref aL)] [.ref q]
      refine z_astore (ls' := [(6, .ref q), (0, .ref o), (1, .int (iI g)), (2, .int (iI d)), (3, .int (iI h)), (4, .int (iI n)), (5, .ref aL)]) C dL_fail_17 (Nat.le_of_ble_eq_true rfl) rfl ?_
      refine z_iconst C dL_fail_19 ?_
      exact z_ireturn C dL_fail_20 (Nat.le_of_ble_eq_true rfl) (Nat.le_of_ble_eq_true rfl) (zWQ_x hA hna hm hc9 e1 ⟨by decide, by decide⟩)
    · skip
      refine z_catch C h4 h5 ht [⟨0, 14, 17, 42⟩] ⟨0, 14, 21, 13⟩ [⟨0, 14, 25, 15⟩] rfl (List.forall_mem_cons.mpr ⟨⟨by decide, _, zl_3_153, by decide +kernel⟩, (fun _ h => absurd h List.not_mem_nil)⟩) (by decide) (by decide) zl_2_118 (List.mem_of_getElem? (i := 3) rfl) (fun q => ?_)
      change ZW G pZ la eZ (zRm 9 8 48) sZ mZ aZ bZ hZ cZ AZ 7 8 48 _ L2 f2 21 [(0, .ref o), (1, .int (iI g)), (2, .int (iI d)), (3, .int (iI h)), (4, .int (iI n)), (5, .ref aL)] [.ref q]
      refine z_astore (ls' := [(6, .ref q), (0, .ref o), (1, .int (iI g)), (2, .int (iI d)), (3, .int (iI h)), (4, .int (iI n)), (5, .ref aL)]) C dL_fail_21 (Nat.le_of_ble_eq_true rfl) rfl ?_
      refine z_iconst C dL_fail_23 ?_
      exact z_ireturn C dL_fail_24 (Nat.le_of_ble_eq_true rfl) (Nat.le_of_ble_eq_true rfl) (zWQ_x hA hna hm hc9 e1 ⟨by decide, by decide⟩)
    · skip
      refine z_catch C h4 h5 ht [⟨0, 14, 17, 42⟩, ⟨0, 14, 21, 13⟩] ⟨0, 14, 25, 15⟩ [] rfl (List.forall_mem_cons.mpr ⟨⟨by decide, _, zl_3_153, by decide +kernel⟩, (List.forall_mem_cons.mpr ⟨⟨by decide, _, zl_2_118, by decide +kernel⟩, (fun _ h => absurd h List.not_mem_nil)⟩)⟩) (by decide) (by decide) zl_2_198 (List.mem_of_getElem? (i := 4) rfl) (fun q => ?_)
      change ZW G pZ la eZ (zRm 9 8 48) sZ mZ aZ bZ hZ cZ AZ 7 8 48 _ L2 f2 25 [(0, .ref o), (1, .int (iI g)), (2, .int (iI d)), (3, .int (iI h)), (4, .int (iI n)), (5, .ref aL)] [.ref q]
      refine z_astore (ls' := [(6, .ref q), (0, .ref o), (1, .int (iI g)), (2, .int (iI d)), (3, .int (iI h)), (4, .int (iI n)), (5, .ref aL)]) C dL_fail_25 (Nat.le_of_ble_eq_true rfl) rfl ?_
      refine z_iconst C dL_fail_27 ?_
      exact z_ireturn C dL_fail_28 (Nat.le_of_ble_eq_true rfl) (Nat.le_of_ble_eq_true rfl) (zWQ_x hA hna hm hc9 e1 ⟨by decide, by decide⟩)
  · skip
    obtain ⟨h0, hz, hc9⟩ := hr
    have hA2 := zLA_m hA hna hm
    change ZW G pZ la eZ (zRm 9 8 48) sZ mZ aZ bZ hZ cZ AZ 7 8 48 _ L2 f2 12 [(0, .ref o), (1, .int (iI g)), (2, .int (iI d)), (3, .int (iI h)), (4, .int (iI n)), (5, .ref aL)] [.int (iI z), .int (iI 0), .ref aL]
    refine z_i2lR C dL_fail_12 ?_
    refine z_last C hA2 dL_fail_13 (fun f3 φ3 hA3 hφ3 hk3 => ?_)
    change ZW G pZ la eZ (zRm 9 8 48) sZ mZ aZ bZ hZ cZ AZ 7 8 48 _ L2 f3 14 [(0, .ref o), (1, .int (iI g)), (2, .int (iI d)), (3, .int (iI h)), (4, .int (iI n)), (5, .ref aL)] []
    refine z_goto C 29 dL_fail_14 (by decide) ?_
    refine z_iconst C dL_fail_29 ?_
    exact z_ireturn C dL_fail_30 (Nat.le_of_ble_eq_true rfl) (Nat.le_of_ble_eq_true rfl) (zWQ_n hA hna hm hc9 h0 hA3 hk3 (by rw [hφ3, hz]))

theorem zcw_mend : zcSW yL_mend cL_mend 5 (some .int) [(0, 10, 13, 42), (0, 10, 17, 13)] 4 := ⟨zl_3_191, zl_3_190, zl_1_0, ⟨by decide +kernel, by decide +kernel, by decide +kernel⟩, by decide⟩
set_option maxRecDepth 100000 in
set_option maxHeartbeats 400000 in
theorem w_mend {la : Launch} {G : zG} {X : (Nat → Prop) → State → Prop} (hX : zX X) (h4 : zT4 X) (hfl : la.stackTraces = false) (h5 : zT5 X) {L Lc : List Nat} {f : Nat → va_E} {o aL : Nat} {μ : zMu}  {φ : Nat → Int64} (hC : CSx G Lc f o μ) (hs : ∀ a ∈ Lc, a ∈ L) (hnd : Lc.Nodup) (hA : zLA G L f aL φ) (hna : aL ∉ Lc) (g d : Int) (hg : zR g) (hd : zR d) : zM la G X yL_mend (.codeWith yL_mend cL_mend 5 (some .int) [(0, 10, 13, 42), (0, 10, 17, 13)] :: zT) 9 8 48 [.ref o, .int (iI g), .int (iI d), .ref aL] L f zeI (zWQ G L Lc f o aL zov (o_mend μ g d)) := by
  refine zMW_intro hX (by decide) (Nat.le_of_ble_eq_true rfl) (fun pZ eZ sZ mZ aZ bZ hZ cZ AZ C ht => ?_)
  obtain ⟨ω, hR, hI, hK⟩ := hC
  change ZW G pZ la eZ (zRm 9 8 48) sZ mZ aZ bZ hZ cZ AZ 5 0 0 _ L f 0 [(0, .ref o), (1, .int (iI g)), (2, .int (iI d)), (3, .ref aL)] []
  refine z_aload_n C 3 dL_mend_0 rfl ?_
  refine z_iconst C dL_mend_1 ?_
  refine z_aload_n C 0 dL_mend_2 rfl ?_
  refine z_iload_n C 1 dL_mend_3 rfl ?_
  refine z_iload_n C 2 dL_mend_4 rfl ?_
  refine z_cVXs (As := [.int (iI g), .int (iI d)]) C hs hnd zc_X6_mend (c_mend hX h4 hfl hR  g d hI hK (by omega) (by omega)) zl_3_192 ⟨Nat.le_of_ble_eq_true rfl, Nat.le_of_ble_eq_true rfl⟩ (Nat.le_of_ble_eq_true rfl) (Nat.le_of_ble_eq_true rfl) hR.ob.1 hR.ob.2 rfl rfl rfl rfl (Nat.le_of_ble_eq_true rfl) dL_mend_5 (fun E Ls1 f1 L2 f2 hx hm => ?_) (fun z Ls1 f1 L2 f2 hr hm => ?_)
  · obtain ⟨h1, he, hc9⟩ := hx
    rcases zes2 h1 he with ⟨e1, rfl⟩ | ⟨e1, rfl⟩
    · skip
      refine z_catch C h4 h5 ht [] ⟨0, 10, 13, 42⟩ [⟨0, 10, 17, 13⟩] rfl (fun _ h => absurd h List.not_mem_nil) (by decide) (by decide) zl_3_153 (List.mem_of_getElem? (i := 7) rfl) (fun q => ?_)
      change ZW G pZ la eZ (zRm 9 8 48) sZ mZ aZ bZ hZ cZ AZ 5 8 48 _ L2 f2 13 [(0, .ref o), (1, .int (iI g)), (2, .int (iI d)), (3, .ref aL)] [.ref q]
      refine z_astore (ls' := [(4, .ref q), (0, .ref o), (1, .int (iI g)), (2, .int (iI d)), (3, .ref aL)]) C dL_mend_13 (Nat.le_of_ble_eq_true rfl) rfl ?_
      refine z_iconst C dL_mend_15 ?_
      exact z_ireturn C dL_mend_16 (Nat.le_of_ble_eq_true rfl) (Nat.le_of_ble_eq_true rfl) (zWQ_x hA hna hm hc9 e1 ⟨by decide, by decide⟩)
    · skip
      refine z_catch C h4 h5 ht [⟨0, 10, 13, 42⟩] ⟨0, 10, 17, 13⟩ [] rfl (List.forall_mem_cons.mpr ⟨⟨by decide, _, zl_3_153, by decide +kernel⟩, (fun _ h => absurd h List.not_mem_nil)⟩) (by decide) (by decide) zl_2_118 (List.mem_of_getElem? (i := 3) rfl) (fun q => ?_)
      change ZW G pZ la eZ (zRm 9 8 48) sZ mZ aZ bZ hZ cZ AZ 5 8 48 _ L2 f2 17 [(0, .ref o), (1, .int (iI g)), (2, .int (iI d)), (3, .ref aL)] [.ref q]
      refine z_astore (ls' := [(4, .ref q), (0, .ref o), (1, .int (iI g)), (2, .int (iI d)), (3, .ref aL)]) C dL_mend_17 (Nat.le_of_ble_eq_true rfl) rfl ?_
      refine z_iconst C dL_mend_19 ?_
      exact z_ireturn C dL_mend_20 (Nat.le_of_ble_eq_true rfl) (Nat.le_of_ble_eq_true rfl) (zWQ_x hA hna hm hc9 e1 ⟨by decide, by decide⟩)
  · skip
    obtain ⟨h0, hz, hc9⟩ := hr
    have hA2 := zLA_m hA hna hm
    change ZW G pZ la eZ (zRm 9 8 48) sZ mZ aZ bZ hZ cZ AZ 5 8 48 _ L2 f2 8 [(0, .ref o), (1, .int (iI g)), (2, .int (iI d)), (3, .ref aL)] [.int (iI z), .int (iI 0), .ref aL]
    refine z_i2lR C dL_mend_8 ?_
    refine z_last C hA2 dL_mend_9 (fun f3 φ3 hA3 hφ3 hk3 => ?_)
    change ZW G pZ la eZ (zRm 9 8 48) sZ mZ aZ bZ hZ cZ AZ 5 8 48 _ L2 f3 10 [(0, .ref o), (1, .int (iI g)), (2, .int (iI d)), (3, .ref aL)] []
    refine z_goto C 21 dL_mend_10 (by decide) ?_
    refine z_iconst C dL_mend_21 ?_
    exact z_ireturn C dL_mend_22 (Nat.le_of_ble_eq_true rfl) (Nat.le_of_ble_eq_true rfl) (zWQ_n hA hna hm hc9 h0 hA3 hk3 (by rw [hφ3, hz]))

theorem zcw_told : zcSW yL_told cL_told 6 (some .int) [(0, 12, 15, 42), (0, 12, 19, 13), (0, 12, 23, 34)] 5 := ⟨zl_3_202, zl_3_201, zl_1_0, ⟨by decide +kernel, by decide +kernel, by decide +kernel⟩, by decide⟩
set_option maxRecDepth 100000 in
set_option maxHeartbeats 400000 in
theorem w_told {la : Launch} {G : zG} {X : (Nat → Prop) → State → Prop} (hX : zX X) (h4 : zT4 X) (hfl : la.stackTraces = false) (h5 : zT5 X) {L Lc : List Nat} {f : Nat → va_E} {o aL : Nat} {μ : zMu}  {φ : Nat → Int64} (hC : CSx G Lc f o μ) (hs : ∀ a ∈ Lc, a ∈ L) (hnd : Lc.Nodup) (hA : zLA G L f aL φ) (hna : aL ∉ Lc) (g d h : Int) (hg : zR g) (hd : zR d) (hh : zR h) : zM la G X yL_told (.codeWith yL_told cL_told 6 (some .int) [(0, 12, 15, 42), (0, 12, 19, 13), (0, 12, 23, 34)] :: zT) 9 8 48 [.ref o, .int (iI g), .int (iI d), .int (iI h), .ref aL] L f zeI (zWQ G L Lc f o aL zov (o_told μ g d h)) := by
  refine zMW_intro hX (by decide) (Nat.le_of_ble_eq_true rfl) (fun pZ eZ sZ mZ aZ bZ hZ cZ AZ C ht => ?_)
  obtain ⟨ω, hR, hI, hK⟩ := hC
  change ZW G pZ la eZ (zRm 9 8 48) sZ mZ aZ bZ hZ cZ AZ 6 0 0 _ L f 0 [(0, .ref o), (1, .int (iI g)), (2, .int (iI d)), (3, .int (iI h)), (4, .ref aL)] []
  refine z_aload C 4 dL_told_0 rfl ?_
  refine z_iconst C dL_told_2 ?_
  refine z_aload_n C 0 dL_told_3 rfl ?_
  refine z_iload_n C 1 dL_told_4 rfl ?_
  refine z_iload_n C 2 dL_told_5 rfl ?_
  refine z_iload_n C 3 dL_told_6 rfl ?_
  refine z_cVXs (As := [.int (iI g), .int (iI d), .int (iI h)]) C hs hnd zc_X6_told (c_told hX h4 hfl hR  g d h hI hK (by omega) (by omega) (by omega)) zl_3_203 ⟨Nat.le_of_ble_eq_true rfl, Nat.le_of_ble_eq_true rfl⟩ (Nat.le_of_ble_eq_true rfl) (Nat.le_of_ble_eq_true rfl) hR.ob.1 hR.ob.2 rfl rfl rfl rfl (Nat.le_of_ble_eq_true rfl) dL_told_7 (fun E Ls1 f1 L2 f2 hx hm => ?_) (fun z Ls1 f1 L2 f2 hr hm => ?_)
  · obtain ⟨h1, he, hc9⟩ := hx
    rcases zes3 h1 he with ⟨e1, rfl⟩ | ⟨e1, rfl⟩ | ⟨e1, rfl⟩
    · skip
      refine z_catch C h4 h5 ht [] ⟨0, 12, 15, 42⟩ [⟨0, 12, 19, 13⟩, ⟨0, 12, 23, 34⟩] rfl (fun _ h => absurd h List.not_mem_nil) (by decide) (by decide) zl_3_153 (List.mem_of_getElem? (i := 7) rfl) (fun q => ?_)
      change ZW G pZ la eZ (zRm 9 8 48) sZ mZ aZ bZ hZ cZ AZ 6 8 48 _ L2 f2 15 [(0, .ref o), (1, .int (iI g)), (2, .int (iI d)), (3, .int (iI h)), (4, .ref aL)] [.ref q]
      refine z_astore (ls' := [(5, .ref q), (0, .ref o), (1, .int (iI g)), (2, .int (iI d)), (3, .int (iI h)), (4, .ref aL)]) C dL_told_15 (Nat.le_of_ble_eq_true rfl) rfl ?_
      refine z_iconst C dL_told_17 ?_
      exact z_ireturn C dL_told_18 (Nat.le_of_ble_eq_true rfl) (Nat.le_of_ble_eq_true rfl) (zWQ_x hA hna hm hc9 e1 ⟨by decide, by decide⟩)
    · skip
      refine z_catch C h4 h5 ht [⟨0, 12, 15, 42⟩] ⟨0, 12, 19, 13⟩ [⟨0, 12, 23, 34⟩] rfl (List.forall_mem_cons.mpr ⟨⟨by decide, _, zl_3_153, by decide +kernel⟩, (fun _ h => absurd h List.not_mem_nil)⟩) (by decide) (by decide) zl_2_118 (List.mem_of_getElem? (i := 3) rfl) (fun q => ?_)
      change ZW G pZ la eZ (zRm 9 8 48) sZ mZ aZ bZ hZ cZ AZ 6 8 48 _ L2 f2 19 [(0, .ref o), (1, .int (iI g)), (2, .int (iI d)), (3, .int (iI h)), (4, .ref aL)] [.ref q]
      refine z_astore (ls' := [(5, .ref q), (0, .ref o), (1, .int (iI g)), (2, .int (iI d)), (3, .int (iI h)), (4, .ref aL)]) C dL_told_19 (Nat.le_of_ble_eq_true rfl) rfl ?_
      refine z_iconst C dL_told_21 ?_
      exact z_ireturn C dL_told_22 (Nat.le_of_ble_eq_true rfl) (Nat.le_of_ble_eq_true rfl) (zWQ_x hA hna hm hc9 e1 ⟨by decide, by decide⟩)
    · skip
      refine z_catch C h4 h5 ht [⟨0, 12, 15, 42⟩, ⟨0, 12, 19, 13⟩] ⟨0, 12, 23, 34⟩ [] rfl (List.forall_mem_cons.mpr ⟨⟨by decide, _, zl_3_153, by decide +kernel⟩, (List.forall_mem_cons.mpr ⟨⟨by decide, _, zl_2_118, by decide +kernel⟩, (fun _ h => absurd h List.not_mem_nil)⟩)⟩) (by decide) (by decide) zl_3_87 (List.mem_of_getElem? (i := 5) rfl) (fun q => ?_)
      change ZW G pZ la eZ (zRm 9 8 48) sZ mZ aZ bZ hZ cZ AZ 6 8 48 _ L2 f2 23 [(0, .ref o), (1, .int (iI g)), (2, .int (iI d)), (3, .int (iI h)), (4, .ref aL)] [.ref q]
      refine z_astore (ls' := [(5, .ref q), (0, .ref o), (1, .int (iI g)), (2, .int (iI d)), (3, .int (iI h)), (4, .ref aL)]) C dL_told_23 (Nat.le_of_ble_eq_true rfl) rfl ?_
      refine z_iconst C dL_told_25 ?_
      exact z_ireturn C dL_told_26 (Nat.le_of_ble_eq_true rfl) (Nat.le_of_ble_eq_true rfl) (zWQ_x hA hna hm hc9 e1 ⟨by decide, by decide⟩)
  · skip
    obtain ⟨h0, hz, hc9⟩ := hr
    have hA2 := zLA_m hA hna hm
    change ZW G pZ la eZ (zRm 9 8 48) sZ mZ aZ bZ hZ cZ AZ 6 8 48 _ L2 f2 10 [(0, .ref o), (1, .int (iI g)), (2, .int (iI d)), (3, .int (iI h)), (4, .ref aL)] [.int (iI z), .int (iI 0), .ref aL]
    refine z_i2lR C dL_told_10 ?_
    refine z_last C hA2 dL_told_11 (fun f3 φ3 hA3 hφ3 hk3 => ?_)
    change ZW G pZ la eZ (zRm 9 8 48) sZ mZ aZ bZ hZ cZ AZ 6 8 48 _ L2 f3 12 [(0, .ref o), (1, .int (iI g)), (2, .int (iI d)), (3, .int (iI h)), (4, .ref aL)] []
    refine z_goto C 27 dL_told_12 (by decide) ?_
    refine z_iconst C dL_told_27 ?_
    exact z_ireturn C dL_told_28 (Nat.le_of_ble_eq_true rfl) (Nat.le_of_ble_eq_true rfl) (zWQ_n hA hna hm hc9 h0 hA3 hk3 (by rw [hφ3, hz]))

theorem zcw_tide : zcSW yL_tide cL_tide 6 (some .int) [(0, 12, 15, 13), (0, 12, 19, 34)] 5 := ⟨zl_3_211, zl_3_210, zl_1_0, ⟨by decide +kernel, by decide +kernel, by decide +kernel⟩, by decide⟩
set_option maxRecDepth 100000 in
set_option maxHeartbeats 400000 in
theorem w_tide {la : Launch} {G : zG} {X : (Nat → Prop) → State → Prop} (hX : zX X) (h4 : zT4 X) (hfl : la.stackTraces = false) (h5 : zT5 X) {L Lc : List Nat} {f : Nat → va_E} {o aL : Nat} {μ : zMu}  {φ : Nat → Int64} (hC : CSx G Lc f o μ) (hs : ∀ a ∈ Lc, a ∈ L) (hnd : Lc.Nodup) (hA : zLA G L f aL φ) (hna : aL ∉ Lc) (c d h : Int) (hc : zR c) (hd : zR d) (hh : zR h) : zM la G X yL_tide (.codeWith yL_tide cL_tide 6 (some .int) [(0, 12, 15, 13), (0, 12, 19, 34)] :: zT) 9 8 48 [.ref o, .int (iI c), .int (iI d), .int (iI h), .ref aL] L f zeI (zWQ G L Lc f o aL zov (o_tide μ c d h)) := by
  refine zMW_intro hX (by decide) (Nat.le_of_ble_eq_true rfl) (fun pZ eZ sZ mZ aZ bZ hZ cZ AZ C ht => ?_)
  obtain ⟨ω, hR, hI, hK⟩ := hC
  change ZW G pZ la eZ (zRm 9 8 48) sZ mZ aZ bZ hZ cZ AZ 6 0 0 _ L f 0 [(0, .ref o), (1, .int (iI c)), (2, .int (iI d)), (3, .int (iI h)), (4, .ref aL)] []
  refine z_aload C 4 dL_tide_0 rfl ?_
  refine z_iconst C dL_tide_2 ?_
  refine z_aload_n C 0 dL_tide_3 rfl ?_
  refine z_iload_n C 1 dL_tide_4 rfl ?_
  refine z_iload_n C 2 dL_tide_5 rfl ?_
  refine z_iload_n C 3 dL_tide_6 rfl ?_
  refine z_cVXs (As := [.int (iI c), .int (iI d), .int (iI h)]) C hs hnd zc_X6_tide (c_tide hX h4 hfl hR  c d h hI hK (by omega) (by omega) (by omega)) zl_3_212 ⟨Nat.le_of_ble_eq_true rfl, Nat.le_of_ble_eq_true rfl⟩ (Nat.le_of_ble_eq_true rfl) (Nat.le_of_ble_eq_true rfl) hR.ob.1 hR.ob.2 rfl rfl rfl rfl (Nat.le_of_ble_eq_true rfl) dL_tide_7 (fun E Ls1 f1 L2 f2 hx hm => ?_) (fun z Ls1 f1 L2 f2 hr hm => ?_)
  · obtain ⟨h1, he, hc9⟩ := hx
    rcases zes2 h1 he with ⟨e1, rfl⟩ | ⟨e1, rfl⟩
    · skip
      refine z_catch C h4 h5 ht [] ⟨0, 12, 15, 13⟩ [⟨0, 12, 19, 34⟩] rfl (fun _ h => absurd h List.not_mem_nil) (by decide) (by decide) zl_2_118 (List.mem_of_getElem? (i := 3) rfl) (fun q => ?_)
      change ZW G pZ la eZ (zRm 9 8 48) sZ mZ aZ bZ hZ cZ AZ 6 8 48 _ L2 f2 15 [(0, .ref o), (1, .int (iI c)), (2, .int (iI d)), (3, .int (iI h)), (4, .ref aL)] [.ref q]
      refine z_astore (ls' := [(5, .ref q), (0, .ref o), (1, .int (iI c)), (2, .int (iI d)), (3, .int (iI h)), (4, .ref aL)]) C dL_tide_15 (Nat.le_of_ble_eq_true rfl) rfl ?_
      refine z_iconst C dL_tide_17 ?_
      exact z_ireturn C dL_tide_18 (Nat.le_of_ble_eq_true rfl) (Nat.le_of_ble_eq_true rfl) (zWQ_x hA hna hm hc9 e1 ⟨by decide, by decide⟩)
    · skip
      refine z_catch C h4 h5 ht [⟨0, 12, 15, 13⟩] ⟨0, 12, 19, 34⟩ [] rfl (List.forall_mem_cons.mpr ⟨⟨by decide, _, zl_2_118, by decide +kernel⟩, (fun _ h => absurd h List.not_mem_nil)⟩) (by decide) (by decide) zl_3_87 (List.mem_of_getElem? (i := 5) rfl) (fun q => ?_)
      change ZW G pZ la eZ (zRm 9 8 48) sZ mZ aZ bZ hZ cZ AZ 6 8 48 _ L2 f2 19 [(0, .ref o), (1, .int (iI c)), (2, .int (iI d)), (3, .int (iI h)), (4, .ref aL)] [.ref q]
      refine z_astore (ls' := [(5, .ref q), (0, .ref o), (1, .int (iI c)), (2, .int (iI d)), (3, .int (iI h)), (4, .ref aL)]) C dL_tide_19 (Nat.le_of_ble_eq_true rfl) rfl ?_
      refine z_iconst C dL_tide_21 ?_
      exact z_ireturn C dL_tide_22 (Nat.le_of_ble_eq_true rfl) (Nat.le_of_ble_eq_true rfl) (zWQ_x hA hna hm hc9 e1 ⟨by decide, by decide⟩)
  · skip
    obtain ⟨h0, hz, hc9⟩ := hr
    have hA2 := zLA_m hA hna hm
    change ZW G pZ la eZ (zRm 9 8 48) sZ mZ aZ bZ hZ cZ AZ 6 8 48 _ L2 f2 10 [(0, .ref o), (1, .int (iI c)), (2, .int (iI d)), (3, .int (iI h)), (4, .ref aL)] [.int (iI z), .int (iI 0), .ref aL]
    refine z_i2lR C dL_tide_10 ?_
    refine z_last C hA2 dL_tide_11 (fun f3 φ3 hA3 hφ3 hk3 => ?_)
    change ZW G pZ la eZ (zRm 9 8 48) sZ mZ aZ bZ hZ cZ AZ 6 8 48 _ L2 f3 12 [(0, .ref o), (1, .int (iI c)), (2, .int (iI d)), (3, .int (iI h)), (4, .ref aL)] []
    refine z_goto C 23 dL_tide_12 (by decide) ?_
    refine z_iconst C dL_tide_23 ?_
    exact z_ireturn C dL_tide_24 (Nat.le_of_ble_eq_true rfl) (Nat.le_of_ble_eq_true rfl) (zWQ_n hA hna hm hc9 h0 hA3 hk3 (by rw [hφ3, hz]))

theorem zcw_run : zcSW yL_run cL_run 9 (some .int) [(0, 18, 21, 15), (0, 18, 25, 13), (0, 18, 29, 34), (0, 18, 33, 36)] 8 := ⟨zl_3_220, zl_3_219, zl_1_0, ⟨by decide +kernel, by decide +kernel, by decide +kernel⟩, by decide⟩
set_option maxRecDepth 100000 in
set_option maxHeartbeats 400000 in
theorem w_run {la : Launch} {G : zG} {X : (Nat → Prop) → State → Prop} (hX : zX X) (h4 : zT4 X) (hfl : la.stackTraces = false) (h5 : zT5 X) {L Lc : List Nat} {f : Nat → va_E} {o aL : Nat} {μ : zMu}  {φ : Nat → Int64} (hC : CSx G Lc f o μ) (hs : ∀ a ∈ Lc, a ∈ L) (hnd : Lc.Nodup) (hA : zLA G L f aL φ) (hna : aL ∉ Lc) (c i a b d h : Int) (hc : zR c) (hi : zR i) (ha : zR a) (hb : zR b) (hd : zR d) (hh : zR h) : zM la G X yL_run (.codeWith yL_run cL_run 9 (some .int) [(0, 18, 21, 15), (0, 18, 25, 13), (0, 18, 29, 34), (0, 18, 33, 36)] :: zT) 9 16 600 [.ref o, .int (iI c), .int (iI i), .int (iI a), .int (iI b), .int (iI d), .int (iI h), .ref aL] L f zeI (zWQ G L Lc f o aL zov (o_run μ c i a b d h)) := by
  refine zMW_intro hX (by decide) (Nat.le_of_ble_eq_true rfl) (fun pZ eZ sZ mZ aZ bZ hZ cZ AZ C ht => ?_)
  obtain ⟨ω, hR, hI, hK⟩ := hC
  change ZW G pZ la eZ (zRm 9 16 600) sZ mZ aZ bZ hZ cZ AZ 9 0 0 _ L f 0 [(0, .ref o), (1, .int (iI c)), (2, .int (iI i)), (3, .int (iI a)), (4, .int (iI b)), (5, .int (iI d)), (6, .int (iI h)), (7, .ref aL)] []
  refine z_aload C 7 dL_run_0 rfl ?_
  refine z_iconst C dL_run_2 ?_
  refine z_aload_n C 0 dL_run_3 rfl ?_
  refine z_iload_n C 1 dL_run_4 rfl ?_
  refine z_iload_n C 2 dL_run_5 rfl ?_
  refine z_iload_n C 3 dL_run_6 rfl ?_
  refine z_iload C 4 dL_run_7 rfl ?_
  refine z_iload C 5 dL_run_9 rfl ?_
  refine z_iload C 6 dL_run_11 rfl ?_
  refine z_cVXs (As := [.int (iI c), .int (iI i), .int (iI a), .int (iI b), .int (iI d), .int (iI h)]) C hs hnd zc_X6_run (c_run hX h4 hfl hR  c i a b d h hI hK (by omega) (by omega) (by omega) (by omega) (by omega) (by omega)) zl_3_221 ⟨Nat.le_of_ble_eq_true rfl, Nat.le_of_ble_eq_true rfl⟩ (Nat.le_of_ble_eq_true rfl) (Nat.le_of_ble_eq_true rfl) hR.ob.1 hR.ob.2 rfl rfl rfl rfl (Nat.le_of_ble_eq_true rfl) dL_run_13 (fun E Ls1 f1 L2 f2 hx hm => ?_) (fun z Ls1 f1 L2 f2 hr hm => ?_)
  · obtain ⟨h1, he, hc9⟩ := hx
    rcases zes4 h1 he with ⟨e1, rfl⟩ | ⟨e1, rfl⟩ | ⟨e1, rfl⟩ | ⟨e1, rfl⟩
    · skip
      refine z_catch C h4 h5 ht [] ⟨0, 18, 21, 15⟩ [⟨0, 18, 25, 13⟩, ⟨0, 18, 29, 34⟩, ⟨0, 18, 33, 36⟩] rfl (fun _ h => absurd h List.not_mem_nil) (by decide) (by decide) zl_2_198 (List.mem_of_getElem? (i := 4) rfl) (fun q => ?_)
      change ZW G pZ la eZ (zRm 9 16 600) sZ mZ aZ bZ hZ cZ AZ 9 16 600 _ L2 f2 21 [(0, .ref o), (1, .int (iI c)), (2, .int (iI i)), (3, .int (iI a)), (4, .int (iI b)), (5, .int (iI d)), (6, .int (iI h)), (7, .ref aL)] [.ref q]
      refine z_astore (ls' := [(8, .ref q), (0, .ref o), (1, .int (iI c)), (2, .int (iI i)), (3, .int (iI a)), (4, .int (iI b)), (5, .int (iI d)), (6, .int (iI h)), (7, .ref aL)]) C dL_run_21 (Nat.le_of_ble_eq_true rfl) rfl ?_
      refine z_iconst C dL_run_23 ?_
      exact z_ireturn C dL_run_24 (Nat.le_of_ble_eq_true rfl) (Nat.le_of_ble_eq_true rfl) (zWQ_x hA hna hm hc9 e1 ⟨by decide, by decide⟩)
    · skip
      refine z_catch C h4 h5 ht [⟨0, 18, 21, 15⟩] ⟨0, 18, 25, 13⟩ [⟨0, 18, 29, 34⟩, ⟨0, 18, 33, 36⟩] rfl (List.forall_mem_cons.mpr ⟨⟨by decide, _, zl_2_198, by decide +kernel⟩, (fun _ h => absurd h List.not_mem_nil)⟩) (by decide) (by decide) zl_2_118 (List.mem_of_getElem? (i := 3) rfl) (fun q => ?_)
      change ZW G pZ la eZ (zRm 9 16 600) sZ mZ aZ bZ hZ cZ AZ 9 16 600 _ L2 f2 25 [(0, .ref o), (1, .int (iI c)), (2, .int (iI i)), (3, .int (iI a)), (4, .int (iI b)), (5, .int (iI d)), (6, .int (iI h)), (7, .ref aL)] [.ref q]
      refine z_astore (ls' := [(8, .ref q), (0, .ref o), (1, .int (iI c)), (2, .int (iI i)), (3, .int (iI a)), (4, .int (iI b)), (5, .int (iI d)), (6, .int (iI h)), (7, .ref aL)]) C dL_run_25 (Nat.le_of_ble_eq_true rfl) rfl ?_
      refine z_iconst C dL_run_27 ?_
      exact z_ireturn C dL_run_28 (Nat.le_of_ble_eq_true rfl) (Nat.le_of_ble_eq_true rfl) (zWQ_x hA hna hm hc9 e1 ⟨by decide, by decide⟩)
    · skip
      refine z_catch C h4 h5 ht [⟨0, 18, 21, 15⟩, ⟨0, 18, 25, 13⟩] ⟨0, 18, 29, 34⟩ [⟨0, 18, 33, 36⟩] rfl (List.forall_mem_cons.mpr ⟨⟨by decide, _, zl_2_198, by decide +kernel⟩, (List.forall_mem_cons.mpr ⟨⟨by decide, _, zl_2_118, by decide +kernel⟩, (fun _ h => absurd h List.not_mem_nil)⟩)⟩) (by decide) (by decide) zl_3_87 (List.mem_of_getElem? (i := 5) rfl) (fun q => ?_)
      change ZW G pZ la eZ (zRm 9 16 600) sZ mZ aZ bZ hZ cZ AZ 9 16 600 _ L2 f2 29 [(0, .ref o), (1, .int (iI c)), (2, .int (iI i)), (3, .int (iI a)), (4, .int (iI b)), (5, .int (iI d)), (6, .int (iI h)), (7, .ref aL)] [.ref q]
      refine z_astore (ls' := [(8, .ref q), (0, .ref o), (1, .int (iI c)), (2, .int (iI i)), (3, .int (iI a)), (4, .int (iI b)), (5, .int (iI d)), (6, .int (iI h)), (7, .ref aL)]) C dL_run_29 (Nat.le_of_ble_eq_true rfl) rfl ?_
      refine z_iconst C dL_run_31 ?_
      exact z_ireturn C dL_run_32 (Nat.le_of_ble_eq_true rfl) (Nat.le_of_ble_eq_true rfl) (zWQ_x hA hna hm hc9 e1 ⟨by decide, by decide⟩)
    · skip
      refine z_catch C h4 h5 ht [⟨0, 18, 21, 15⟩, ⟨0, 18, 25, 13⟩, ⟨0, 18, 29, 34⟩] ⟨0, 18, 33, 36⟩ [] rfl (List.forall_mem_cons.mpr ⟨⟨by decide, _, zl_2_198, by decide +kernel⟩, (List.forall_mem_cons.mpr ⟨⟨by decide, _, zl_2_118, by decide +kernel⟩, (List.forall_mem_cons.mpr ⟨⟨by decide, _, zl_3_87, by decide +kernel⟩, (fun _ h => absurd h List.not_mem_nil)⟩)⟩)⟩) (by decide) (by decide) zl_3_88 (List.mem_of_getElem? (i := 6) rfl) (fun q => ?_)
      change ZW G pZ la eZ (zRm 9 16 600) sZ mZ aZ bZ hZ cZ AZ 9 16 600 _ L2 f2 33 [(0, .ref o), (1, .int (iI c)), (2, .int (iI i)), (3, .int (iI a)), (4, .int (iI b)), (5, .int (iI d)), (6, .int (iI h)), (7, .ref aL)] [.ref q]
      refine z_astore (ls' := [(8, .ref q), (0, .ref o), (1, .int (iI c)), (2, .int (iI i)), (3, .int (iI a)), (4, .int (iI b)), (5, .int (iI d)), (6, .int (iI h)), (7, .ref aL)]) C dL_run_33 (Nat.le_of_ble_eq_true rfl) rfl ?_
      refine z_iconst C dL_run_35 ?_
      exact z_ireturn C dL_run_36 (Nat.le_of_ble_eq_true rfl) (Nat.le_of_ble_eq_true rfl) (zWQ_x hA hna hm hc9 e1 ⟨by decide, by decide⟩)
  · skip
    obtain ⟨h0, hz, hc9⟩ := hr
    have hA2 := zLA_m hA hna hm
    change ZW G pZ la eZ (zRm 9 16 600) sZ mZ aZ bZ hZ cZ AZ 9 16 600 _ L2 f2 16 [(0, .ref o), (1, .int (iI c)), (2, .int (iI i)), (3, .int (iI a)), (4, .int (iI b)), (5, .int (iI d)), (6, .int (iI h)), (7, .ref aL)] [.int (iI z), .int (iI 0), .ref aL]
    refine z_i2lR C dL_run_16 ?_
    refine z_last C hA2 dL_run_17 (fun f3 φ3 hA3 hφ3 hk3 => ?_)
    change ZW G pZ la eZ (zRm 9 16 600) sZ mZ aZ bZ hZ cZ AZ 9 16 600 _ L2 f3 18 [(0, .ref o), (1, .int (iI c)), (2, .int (iI i)), (3, .int (iI a)), (4, .int (iI b)), (5, .int (iI d)), (6, .int (iI h)), (7, .ref aL)] []
    refine z_goto C 37 dL_run_18 (by decide) ?_
    refine z_iconst C dL_run_37 ?_
    exact z_ireturn C dL_run_38 (Nat.le_of_ble_eq_true rfl) (Nat.le_of_ble_eq_true rfl) (zWQ_n hA hna hm hc9 h0 hA3 hk3 (by rw [hφ3, hz]))

theorem zcw_runAnew : zcSW yL_runAnew cL_runAnew 6 (some .int) [(0, 12, 15, 42), (0, 12, 19, 13), (0, 12, 23, 34), (0, 12, 27, 36)] 5 := ⟨zl_4_62, zl_4_61, zl_1_0, ⟨by decide +kernel, by decide +kernel, by decide +kernel⟩, by decide⟩
set_option maxRecDepth 100000 in
set_option maxHeartbeats 400000 in
theorem w_runAnew {la : Launch} {G : zG} {X : (Nat → Prop) → State → Prop} (hX : zX X) (h4 : zT4 X) (hfl : la.stackTraces = false) (h5 : zT5 X) {L Lc : List Nat} {f : Nat → va_E} {o aL : Nat} {μ : zMu}  {φ : Nat → Int64} (hC : CSx G Lc f o μ) (hs : ∀ a ∈ Lc, a ∈ L) (hnd : Lc.Nodup) (hA : zLA G L f aL φ) (hna : aL ∉ Lc) (l d h : Int) (hl : zR l) (hd : zR d) (hh : zR h) : zM la G X yL_runAnew (.codeWith yL_runAnew cL_runAnew 6 (some .int) [(0, 12, 15, 42), (0, 12, 19, 13), (0, 12, 23, 34), (0, 12, 27, 36)] :: zT) 9 8 48 [.ref o, .int (iI l), .int (iI d), .int (iI h), .ref aL] L f zeI (zWQ G L Lc f o aL zov (o_runAnew μ l d h)) := by
  refine zMW_intro hX (by decide) (Nat.le_of_ble_eq_true rfl) (fun pZ eZ sZ mZ aZ bZ hZ cZ AZ C ht => ?_)
  obtain ⟨ω, hR, hI, hK⟩ := hC
  change ZW G pZ la eZ (zRm 9 8 48) sZ mZ aZ bZ hZ cZ AZ 6 0 0 _ L f 0 [(0, .ref o), (1, .int (iI l)), (2, .int (iI d)), (3, .int (iI h)), (4, .ref aL)] []
  refine z_aload C 4 dL_runAnew_0 rfl ?_
  refine z_iconst C dL_runAnew_2 ?_
  refine z_aload_n C 0 dL_runAnew_3 rfl ?_
  refine z_iload_n C 1 dL_runAnew_4 rfl ?_
  refine z_iload_n C 2 dL_runAnew_5 rfl ?_
  refine z_iload_n C 3 dL_runAnew_6 rfl ?_
  refine z_cVXs (As := [.int (iI l), .int (iI d), .int (iI h)]) C hs hnd zc_X6_runAnew (c_runAnew hX h4 hfl hR  l d h hI hK (by omega) (by omega) (by omega)) zl_4_63 ⟨Nat.le_of_ble_eq_true rfl, Nat.le_of_ble_eq_true rfl⟩ (Nat.le_of_ble_eq_true rfl) (Nat.le_of_ble_eq_true rfl) hR.ob.1 hR.ob.2 rfl rfl rfl rfl (Nat.le_of_ble_eq_true rfl) dL_runAnew_7 (fun E Ls1 f1 L2 f2 hx hm => ?_) (fun z Ls1 f1 L2 f2 hr hm => ?_)
  · obtain ⟨h1, he, hc9⟩ := hx
    rcases zes4 h1 he with ⟨e1, rfl⟩ | ⟨e1, rfl⟩ | ⟨e1, rfl⟩ | ⟨e1, rfl⟩
    · skip
      refine z_catch C h4 h5 ht [] ⟨0, 12, 15, 42⟩ [⟨0, 12, 19, 13⟩, ⟨0, 12, 23, 34⟩, ⟨0, 12, 27, 36⟩] rfl (fun _ h => absurd h List.not_mem_nil) (by decide) (by decide) zl_3_153 (List.mem_of_getElem? (i := 7) rfl) (fun q => ?_)
      change ZW G pZ la eZ (zRm 9 8 48) sZ mZ aZ bZ hZ cZ AZ 6 8 48 _ L2 f2 15 [(0, .ref o), (1, .int (iI l)), (2, .int (iI d)), (3, .int (iI h)), (4, .ref aL)] [.ref q]
      refine z_astore (ls' := [(5, .ref q), (0, .ref o), (1, .int (iI l)), (2, .int (iI d)), (3, .int (iI h)), (4, .ref aL)]) C dL_runAnew_15 (Nat.le_of_ble_eq_true rfl) rfl ?_
      refine z_iconst C dL_runAnew_17 ?_
      exact z_ireturn C dL_runAnew_18 (Nat.le_of_ble_eq_true rfl) (Nat.le_of_ble_eq_true rfl) (zWQ_x hA hna hm hc9 e1 ⟨by decide, by decide⟩)
    · skip
      refine z_catch C h4 h5 ht [⟨0, 12, 15, 42⟩] ⟨0, 12, 19, 13⟩ [⟨0, 12, 23, 34⟩, ⟨0, 12, 27, 36⟩] rfl (List.forall_mem_cons.mpr ⟨⟨by decide, _, zl_3_153, by decide +kernel⟩, (fun _ h => absurd h List.not_mem_nil)⟩) (by decide) (by decide) zl_2_118 (List.mem_of_getElem? (i := 3) rfl) (fun q => ?_)
      change ZW G pZ la eZ (zRm 9 8 48) sZ mZ aZ bZ hZ cZ AZ 6 8 48 _ L2 f2 19 [(0, .ref o), (1, .int (iI l)), (2, .int (iI d)), (3, .int (iI h)), (4, .ref aL)] [.ref q]
      refine z_astore (ls' := [(5, .ref q), (0, .ref o), (1, .int (iI l)), (2, .int (iI d)), (3, .int (iI h)), (4, .ref aL)]) C dL_runAnew_19 (Nat.le_of_ble_eq_true rfl) rfl ?_
      refine z_iconst C dL_runAnew_21 ?_
      exact z_ireturn C dL_runAnew_22 (Nat.le_of_ble_eq_true rfl) (Nat.le_of_ble_eq_true rfl) (zWQ_x hA hna hm hc9 e1 ⟨by decide, by decide⟩)
    · skip
      refine z_catch C h4 h5 ht [⟨0, 12, 15, 42⟩, ⟨0, 12, 19, 13⟩] ⟨0, 12, 23, 34⟩ [⟨0, 12, 27, 36⟩] rfl (List.forall_mem_cons.mpr ⟨⟨by decide, _, zl_3_153, by decide +kernel⟩, (List.forall_mem_cons.mpr ⟨⟨by decide, _, zl_2_118, by decide +kernel⟩, (fun _ h => absurd h List.not_mem_nil)⟩)⟩) (by decide) (by decide) zl_3_87 (List.mem_of_getElem? (i := 5) rfl) (fun q => ?_)
      change ZW G pZ la eZ (zRm 9 8 48) sZ mZ aZ bZ hZ cZ AZ 6 8 48 _ L2 f2 23 [(0, .ref o), (1, .int (iI l)), (2, .int (iI d)), (3, .int (iI h)), (4, .ref aL)] [.ref q]
      refine z_astore (ls' := [(5, .ref q), (0, .ref o), (1, .int (iI l)), (2, .int (iI d)), (3, .int (iI h)), (4, .ref aL)]) C dL_runAnew_23 (Nat.le_of_ble_eq_true rfl) rfl ?_
      refine z_iconst C dL_runAnew_25 ?_
      exact z_ireturn C dL_runAnew_26 (Nat.le_of_ble_eq_true rfl) (Nat.le_of_ble_eq_true rfl) (zWQ_x hA hna hm hc9 e1 ⟨by decide, by decide⟩)
    · skip
      refine z_catch C h4 h5 ht [⟨0, 12, 15, 42⟩, ⟨0, 12, 19, 13⟩, ⟨0, 12, 23, 34⟩] ⟨0, 12, 27, 36⟩ [] rfl (List.forall_mem_cons.mpr ⟨⟨by decide, _, zl_3_153, by decide +kernel⟩, (List.forall_mem_cons.mpr ⟨⟨by decide, _, zl_2_118, by decide +kernel⟩, (List.forall_mem_cons.mpr ⟨⟨by decide, _, zl_3_87, by decide +kernel⟩, (fun _ h => absurd h List.not_mem_nil)⟩)⟩)⟩) (by decide) (by decide) zl_3_88 (List.mem_of_getElem? (i := 6) rfl) (fun q => ?_)
      change ZW G pZ la eZ (zRm 9 8 48) sZ mZ aZ bZ hZ cZ AZ 6 8 48 _ L2 f2 27 [(0, .ref o), (1, .int (iI l)), (2, .int (iI d)), (3, .int (iI h)), (4, .ref aL)] [.ref q]
      refine z_astore (ls' := [(5, .ref q), (0, .ref o), (1, .int (iI l)), (2, .int (iI d)), (3, .int (iI h)), (4, .ref aL)]) C dL_runAnew_27 (Nat.le_of_ble_eq_true rfl) rfl ?_
      refine z_iconst C dL_runAnew_29 ?_
      exact z_ireturn C dL_runAnew_30 (Nat.le_of_ble_eq_true rfl) (Nat.le_of_ble_eq_true rfl) (zWQ_x hA hna hm hc9 e1 ⟨by decide, by decide⟩)
  · skip
    obtain ⟨h0, hz, hc9⟩ := hr
    have hA2 := zLA_m hA hna hm
    change ZW G pZ la eZ (zRm 9 8 48) sZ mZ aZ bZ hZ cZ AZ 6 8 48 _ L2 f2 10 [(0, .ref o), (1, .int (iI l)), (2, .int (iI d)), (3, .int (iI h)), (4, .ref aL)] [.int (iI z), .int (iI 0), .ref aL]
    refine z_i2lR C dL_runAnew_10 ?_
    refine z_last C hA2 dL_runAnew_11 (fun f3 φ3 hA3 hφ3 hk3 => ?_)
    change ZW G pZ la eZ (zRm 9 8 48) sZ mZ aZ bZ hZ cZ AZ 6 8 48 _ L2 f3 12 [(0, .ref o), (1, .int (iI l)), (2, .int (iI d)), (3, .int (iI h)), (4, .ref aL)] []
    refine z_goto C 31 dL_runAnew_12 (by decide) ?_
    refine z_iconst C dL_runAnew_31 ?_
    exact z_ireturn C dL_runAnew_32 (Nat.le_of_ble_eq_true rfl) (Nat.le_of_ble_eq_true rfl) (zWQ_n hA hna hm hc9 h0 hA3 hk3 (by rw [hφ3, hz]))

theorem zcw_disturb : zcSW yL_disturb cL_disturb 7 (some .int) [(0, 14, 17, 42), (0, 14, 21, 13), (0, 14, 25, 15)] 6 := ⟨zl_4_74, zl_4_73, zl_1_0, ⟨by decide +kernel, by decide +kernel, by decide +kernel⟩, by decide⟩
set_option maxRecDepth 100000 in
set_option maxHeartbeats 400000 in
theorem w_disturb {la : Launch} {G : zG} {X : (Nat → Prop) → State → Prop} (hX : zX X) (h4 : zT4 X) (hfl : la.stackTraces = false) (h5 : zT5 X) {L Lc : List Nat} {f : Nat → va_E} {o aL : Nat} {μ : zMu}  {φ : Nat → Int64} (hC : CSx G Lc f o μ) (hs : ∀ a ∈ Lc, a ∈ L) (hnd : Lc.Nodup) (hA : zLA G L f aL φ) (hna : aL ∉ Lc) (l k t x : Int) (hl : zR l) (hk : zR k) (ht : zR t) (hx : zR x) : zM la G X yL_disturb (.codeWith yL_disturb cL_disturb 7 (some .int) [(0, 14, 17, 42), (0, 14, 21, 13), (0, 14, 25, 15)] :: zT) 9 8 48 [.ref o, .int (iI l), .int (iI k), .int (iI t), .int (iI x), .ref aL] L f zeI (zWQ G L Lc f o aL zov (o_disturb μ l k t x)) := by
  refine zMW_intro hX (by decide) (Nat.le_of_ble_eq_true rfl) (fun pZ eZ sZ mZ aZ bZ hZ cZ AZ C ht => ?_)
  obtain ⟨ω, hR, hI, hK⟩ := hC
  change ZW G pZ la eZ (zRm 9 8 48) sZ mZ aZ bZ hZ cZ AZ 7 0 0 _ L f 0 [(0, .ref o), (1, .int (iI l)), (2, .int (iI k)), (3, .int (iI t)), (4, .int (iI x)), (5, .ref aL)] []
  refine z_aload C 5 dL_disturb_0 rfl ?_
  refine z_iconst C dL_disturb_2 ?_
  refine z_aload_n C 0 dL_disturb_3 rfl ?_
  refine z_iload_n C 1 dL_disturb_4 rfl ?_
  refine z_iload_n C 2 dL_disturb_5 rfl ?_
  refine z_iload_n C 3 dL_disturb_6 rfl ?_
  refine z_iload C 4 dL_disturb_7 rfl ?_
  refine z_cVXs (As := [.int (iI l), .int (iI k), .int (iI t), .int (iI x)]) C hs hnd zc_X6_disturb (c_disturb hX h4 hfl hR  l k t x hI hK (by omega) (by omega) (by omega) (by omega)) zl_4_75 ⟨Nat.le_of_ble_eq_true rfl, Nat.le_of_ble_eq_true rfl⟩ (Nat.le_of_ble_eq_true rfl) (Nat.le_of_ble_eq_true rfl) hR.ob.1 hR.ob.2 rfl rfl rfl rfl (Nat.le_of_ble_eq_true rfl) dL_disturb_9 (fun E Ls1 f1 L2 f2 hx hm => ?_) (fun z Ls1 f1 L2 f2 hr hm => ?_)
  · obtain ⟨h1, he, hc9⟩ := hx
    rcases zes3 h1 he with ⟨e1, rfl⟩ | ⟨e1, rfl⟩ | ⟨e1, rfl⟩
    · skip
      refine z_catch C h4 h5 ht [] ⟨0, 14, 17, 42⟩ [⟨0, 14, 21, 13⟩, ⟨0, 14, 25, 15⟩] rfl (fun _ h => absurd h List.not_mem_nil) (by decide) (by decide) zl_3_153 (List.mem_of_getElem? (i := 7) rfl) (fun q => ?_)
      change ZW G pZ la eZ (zRm 9 8 48) sZ mZ aZ bZ hZ cZ AZ 7 8 48 _ L2 f2 17 [(0, .ref o), (1, .int (iI l)), (2, .int (iI k)), (3, .int (iI t)), (4, .int (iI x)), (5, .ref aL)] [.ref q]
      refine z_astore (ls' := [(6, .ref q), (0, .ref o), (1, .int (iI l)), (2, .int (iI k)), (3, .int (iI t)), (4, .int (iI x)), (5, .ref aL)]) C dL_disturb_17 (Nat.le_of_ble_eq_true rfl) rfl ?_
      refine z_iconst C dL_disturb_19 ?_
      exact z_ireturn C dL_disturb_20 (Nat.le_of_ble_eq_true rfl) (Nat.le_of_ble_eq_true rfl) (zWQ_x hA hna hm hc9 e1 ⟨by decide, by decide⟩)
    · skip
      refine z_catch C h4 h5 ht [⟨0, 14, 17, 42⟩] ⟨0, 14, 21, 13⟩ [⟨0, 14, 25, 15⟩] rfl (List.forall_mem_cons.mpr ⟨⟨by decide, _, zl_3_153, by decide +kernel⟩, (fun _ h => absurd h List.not_mem_nil)⟩) (by decide) (by decide) zl_2_118 (List.mem_of_getElem? (i := 3) rfl) (fun q => ?_)
      change ZW G pZ la eZ (zRm 9 8 48) sZ mZ aZ bZ hZ cZ AZ 7 8 48 _ L2 f2 21 [(0, .ref o), (1, .int (iI l)), (2, .int (iI k)), (3, .int (iI t)), (4, .int (iI x)), (5, .ref aL)] [.ref q]
      refine z_astore (ls' := [(6, .ref q), (0, .ref o), (1, .int (iI l)), (2, .int (iI k)), (3, .int (iI t)), (4, .int (iI x)), (5, .ref aL)]) C dL_disturb_21 (Nat.le_of_ble_eq_true rfl) rfl ?_
      refine z_iconst C dL_disturb_23 ?_
      exact z_ireturn C dL_disturb_24 (Nat.le_of_ble_eq_true rfl) (Nat.le_of_ble_eq_true rfl) (zWQ_x hA hna hm hc9 e1 ⟨by decide, by decide⟩)
    · skip
      refine z_catch C h4 h5 ht [⟨0, 14, 17, 42⟩, ⟨0, 14, 21, 13⟩] ⟨0, 14, 25, 15⟩ [] rfl (List.forall_mem_cons.mpr ⟨⟨by decide, _, zl_3_153, by decide +kernel⟩, (List.forall_mem_cons.mpr ⟨⟨by decide, _, zl_2_118, by decide +kernel⟩, (fun _ h => absurd h List.not_mem_nil)⟩)⟩) (by decide) (by decide) zl_2_198 (List.mem_of_getElem? (i := 4) rfl) (fun q => ?_)
      change ZW G pZ la eZ (zRm 9 8 48) sZ mZ aZ bZ hZ cZ AZ 7 8 48 _ L2 f2 25 [(0, .ref o), (1, .int (iI l)), (2, .int (iI k)), (3, .int (iI t)), (4, .int (iI x)), (5, .ref aL)] [.ref q]
      refine z_astore (ls' := [(6, .ref q), (0, .ref o), (1, .int (iI l)), (2, .int (iI k)), (3, .int (iI t)), (4, .int (iI x)), (5, .ref aL)]) C dL_disturb_25 (Nat.le_of_ble_eq_true rfl) rfl ?_
      refine z_iconst C dL_disturb_27 ?_
      exact z_ireturn C dL_disturb_28 (Nat.le_of_ble_eq_true rfl) (Nat.le_of_ble_eq_true rfl) (zWQ_x hA hna hm hc9 e1 ⟨by decide, by decide⟩)
  · skip
    obtain ⟨h0, hz, hc9⟩ := hr
    have hA2 := zLA_m hA hna hm
    change ZW G pZ la eZ (zRm 9 8 48) sZ mZ aZ bZ hZ cZ AZ 7 8 48 _ L2 f2 12 [(0, .ref o), (1, .int (iI l)), (2, .int (iI k)), (3, .int (iI t)), (4, .int (iI x)), (5, .ref aL)] [.int (iI z), .int (iI 0), .ref aL]
    refine z_i2lR C dL_disturb_12 ?_
    refine z_last C hA2 dL_disturb_13 (fun f3 φ3 hA3 hφ3 hk3 => ?_)
    change ZW G pZ la eZ (zRm 9 8 48) sZ mZ aZ bZ hZ cZ AZ 7 8 48 _ L2 f3 14 [(0, .ref o), (1, .int (iI l)), (2, .int (iI k)), (3, .int (iI t)), (4, .int (iI x)), (5, .ref aL)] []
    refine z_goto C 29 dL_disturb_14 (by decide) ?_
    refine z_iconst C dL_disturb_29 ?_
    exact z_ireturn C dL_disturb_30 (Nat.le_of_ble_eq_true rfl) (Nat.le_of_ble_eq_true rfl) (zWQ_n hA hna hm hc9 h0 hA3 hk3 (by rw [hφ3, hz]))

theorem zcw_soundings : zcSW yL_soundings cL_soundings 4 (some .int) [(0, 9, 12, 42)] 3 := ⟨zl_4_92, zl_4_91, zl_1_0, ⟨by decide +kernel, by decide +kernel, by decide +kernel⟩, by decide⟩
set_option maxRecDepth 100000 in
set_option maxHeartbeats 400000 in
theorem w_soundings {la : Launch} {G : zG} {X : (Nat → Prop) → State → Prop} (hX : zX X) (h4 : zT4 X) (hfl : la.stackTraces = false) (h5 : zT5 X) {L Lc : List Nat} {f : Nat → va_E} {o aL : Nat} {μ : zMu}  {φ : Nat → Int64} (hC : CSx G Lc f o μ) (hs : ∀ a ∈ Lc, a ∈ L) (hnd : Lc.Nodup) (hA : zLA G L f aL φ) (hna : aL ∉ Lc) (l : Int) (hl : zR l) : zM la G X yL_soundings (.codeWith yL_soundings cL_soundings 4 (some .int) [(0, 9, 12, 42)] :: zT) 9 8 48 [.ref o, .int (iI l), .ref aL] L f zeI (zWQ G L Lc f o aL zov (o_soundings μ l)) := by
  refine zMW_intro hX (by decide) (Nat.le_of_ble_eq_true rfl) (fun pZ eZ sZ mZ aZ bZ hZ cZ AZ C ht => ?_)
  obtain ⟨ω, hR, hI, hK⟩ := hC
  change ZW G pZ la eZ (zRm 9 8 48) sZ mZ aZ bZ hZ cZ AZ 4 0 0 _ L f 0 [(0, .ref o), (1, .int (iI l)), (2, .ref aL)] []
  refine z_aload_n C 2 dL_soundings_0 rfl ?_
  refine z_iconst C dL_soundings_1 ?_
  refine z_aload_n C 0 dL_soundings_2 rfl ?_
  refine z_iload_n C 1 dL_soundings_3 rfl ?_
  refine z_cVXs (As := [.int (iI l)]) C hs hnd zc_X6_soundings (c_soundings hX h4 hfl hR  l hI hK (by omega)) zl_4_93 ⟨Nat.le_of_ble_eq_true rfl, Nat.le_of_ble_eq_true rfl⟩ (Nat.le_of_ble_eq_true rfl) (Nat.le_of_ble_eq_true rfl) hR.ob.1 hR.ob.2 rfl rfl rfl rfl (Nat.le_of_ble_eq_true rfl) dL_soundings_4 (fun E Ls1 f1 L2 f2 hx hm => ?_) (fun z Ls1 f1 L2 f2 hr hm => ?_)
  · obtain ⟨h1, he, hc9⟩ := hx
    obtain ⟨e1, rfl⟩ := zes1 h1 he
    refine z_catch C h4 h5 ht [] ⟨0, 9, 12, 42⟩ [] rfl (fun _ h => absurd h List.not_mem_nil) (by decide) (by decide) zl_3_153 (List.mem_of_getElem? (i := 7) rfl) (fun q => ?_)
    change ZW G pZ la eZ (zRm 9 8 48) sZ mZ aZ bZ hZ cZ AZ 4 8 48 _ L2 f2 12 [(0, .ref o), (1, .int (iI l)), (2, .ref aL)] [.ref q]
    refine z_astore_n (ls' := [(3, .ref q), (0, .ref o), (1, .int (iI l)), (2, .ref aL)]) C dL_soundings_12 (Nat.le_of_ble_eq_true rfl) rfl ?_
    refine z_iconst C dL_soundings_13 ?_
    exact z_ireturn C dL_soundings_14 (Nat.le_of_ble_eq_true rfl) (Nat.le_of_ble_eq_true rfl) (zWQ_x hA hna hm hc9 e1 ⟨by decide, by decide⟩)
  · skip
    obtain ⟨h0, hz, hc9⟩ := hr
    have hA2 := zLA_m hA hna hm
    change ZW G pZ la eZ (zRm 9 8 48) sZ mZ aZ bZ hZ cZ AZ 4 8 48 _ L2 f2 7 [(0, .ref o), (1, .int (iI l)), (2, .ref aL)] [.int (iI z), .int (iI 0), .ref aL]
    refine z_i2lR C dL_soundings_7 ?_
    refine z_last C hA2 dL_soundings_8 (fun f3 φ3 hA3 hφ3 hk3 => ?_)
    change ZW G pZ la eZ (zRm 9 8 48) sZ mZ aZ bZ hZ cZ AZ 4 8 48 _ L2 f3 9 [(0, .ref o), (1, .int (iI l)), (2, .ref aL)] []
    refine z_goto C 15 dL_soundings_9 (by decide) ?_
    refine z_iconst C dL_soundings_15 ?_
    exact z_ireturn C dL_soundings_16 (Nat.le_of_ble_eq_true rfl) (Nat.le_of_ble_eq_true rfl) (zWQ_n hA hna hm hc9 h0 hA3 hk3 (by rw [hφ3, hz]))

theorem zcw_sounding : zcSW yL_sounding cL_sounding 6 (some .int) [(0, 12, 15, 42), (0, 12, 19, 13)] 5 := ⟨zl_4_103, zl_4_102, zl_1_0, ⟨by decide +kernel, by decide +kernel, by decide +kernel⟩, by decide⟩
set_option maxRecDepth 100000 in
set_option maxHeartbeats 400000 in
theorem w_sounding {la : Launch} {G : zG} {X : (Nat → Prop) → State → Prop} (hX : zX X) (h4 : zT4 X) (hfl : la.stackTraces = false) (h5 : zT5 X) {L Lc : List Nat} {f : Nat → va_E} {o aL : Nat} {μ : zMu}  {φ : Nat → Int64} (hC : CSx G Lc f o μ) (hs : ∀ a ∈ Lc, a ∈ L) (hnd : Lc.Nodup) (hA : zLA G L f aL φ) (hna : aL ∉ Lc) (l k t : Int) (hl : zR l) (hk : zR k) (ht : zR t) : zM la G X yL_sounding (.codeWith yL_sounding cL_sounding 6 (some .int) [(0, 12, 15, 42), (0, 12, 19, 13)] :: zT) 9 8 48 [.ref o, .int (iI l), .int (iI k), .int (iI t), .ref aL] L f zeI (zWQ G L Lc f o aL zov (o_sounding μ l k t)) := by
  refine zMW_intro hX (by decide) (Nat.le_of_ble_eq_true rfl) (fun pZ eZ sZ mZ aZ bZ hZ cZ AZ C ht => ?_)
  obtain ⟨ω, hR, hI, hK⟩ := hC
  change ZW G pZ la eZ (zRm 9 8 48) sZ mZ aZ bZ hZ cZ AZ 6 0 0 _ L f 0 [(0, .ref o), (1, .int (iI l)), (2, .int (iI k)), (3, .int (iI t)), (4, .ref aL)] []
  refine z_aload C 4 dL_sounding_0 rfl ?_
  refine z_iconst C dL_sounding_2 ?_
  refine z_aload_n C 0 dL_sounding_3 rfl ?_
  refine z_iload_n C 1 dL_sounding_4 rfl ?_
  refine z_iload_n C 2 dL_sounding_5 rfl ?_
  refine z_iload_n C 3 dL_sounding_6 rfl ?_
  refine z_cVXs (As := [.int (iI l), .int (iI k), .int (iI t)]) C hs hnd zc_X6_sounding (c_sounding hX h4 hfl hR  l k t hI hK (by omega) (by omega) (by omega)) zl_4_104 ⟨Nat.le_of_ble_eq_true rfl, Nat.le_of_ble_eq_true rfl⟩ (Nat.le_of_ble_eq_true rfl) (Nat.le_of_ble_eq_true rfl) hR.ob.1 hR.ob.2 rfl rfl rfl rfl (Nat.le_of_ble_eq_true rfl) dL_sounding_7 (fun E Ls1 f1 L2 f2 hx hm => ?_) (fun z Ls1 f1 L2 f2 hr hm => ?_)
  · obtain ⟨h1, he, hc9⟩ := hx
    rcases zes2 h1 he with ⟨e1, rfl⟩ | ⟨e1, rfl⟩
    · skip
      refine z_catch C h4 h5 ht [] ⟨0, 12, 15, 42⟩ [⟨0, 12, 19, 13⟩] rfl (fun _ h => absurd h List.not_mem_nil) (by decide) (by decide) zl_3_153 (List.mem_of_getElem? (i := 7) rfl) (fun q => ?_)
      change ZW G pZ la eZ (zRm 9 8 48) sZ mZ aZ bZ hZ cZ AZ 6 8 48 _ L2 f2 15 [(0, .ref o), (1, .int (iI l)), (2, .int (iI k)), (3, .int (iI t)), (4, .ref aL)] [.ref q]
      refine z_astore (ls' := [(5, .ref q), (0, .ref o), (1, .int (iI l)), (2, .int (iI k)), (3, .int (iI t)), (4, .ref aL)]) C dL_sounding_15 (Nat.le_of_ble_eq_true rfl) rfl ?_
      refine z_iconst C dL_sounding_17 ?_
      exact z_ireturn C dL_sounding_18 (Nat.le_of_ble_eq_true rfl) (Nat.le_of_ble_eq_true rfl) (zWQ_x hA hna hm hc9 e1 ⟨by decide, by decide⟩)
    · skip
      refine z_catch C h4 h5 ht [⟨0, 12, 15, 42⟩] ⟨0, 12, 19, 13⟩ [] rfl (List.forall_mem_cons.mpr ⟨⟨by decide, _, zl_3_153, by decide +kernel⟩, (fun _ h => absurd h List.not_mem_nil)⟩) (by decide) (by decide) zl_2_118 (List.mem_of_getElem? (i := 3) rfl) (fun q => ?_)
      change ZW G pZ la eZ (zRm 9 8 48) sZ mZ aZ bZ hZ cZ AZ 6 8 48 _ L2 f2 19 [(0, .ref o), (1, .int (iI l)), (2, .int (iI k)), (3, .int (iI t)), (4, .ref aL)] [.ref q]
      refine z_astore (ls' := [(5, .ref q), (0, .ref o), (1, .int (iI l)), (2, .int (iI k)), (3, .int (iI t)), (4, .ref aL)]) C dL_sounding_19 (Nat.le_of_ble_eq_true rfl) rfl ?_
      refine z_iconst C dL_sounding_21 ?_
      exact z_ireturn C dL_sounding_22 (Nat.le_of_ble_eq_true rfl) (Nat.le_of_ble_eq_true rfl) (zWQ_x hA hna hm hc9 e1 ⟨by decide, by decide⟩)
  · skip
    obtain ⟨h0, hz, hc9⟩ := hr
    have hA2 := zLA_m hA hna hm
    change ZW G pZ la eZ (zRm 9 8 48) sZ mZ aZ bZ hZ cZ AZ 6 8 48 _ L2 f2 10 [(0, .ref o), (1, .int (iI l)), (2, .int (iI k)), (3, .int (iI t)), (4, .ref aL)] [.int (iI z), .int (iI 0), .ref aL]
    refine z_i2lR C dL_sounding_10 ?_
    refine z_last C hA2 dL_sounding_11 (fun f3 φ3 hA3 hφ3 hk3 => ?_)
    change ZW G pZ la eZ (zRm 9 8 48) sZ mZ aZ bZ hZ cZ AZ 6 8 48 _ L2 f3 12 [(0, .ref o), (1, .int (iI l)), (2, .int (iI k)), (3, .int (iI t)), (4, .ref aL)] []
    refine z_goto C 23 dL_sounding_12 (by decide) ?_
    refine z_iconst C dL_sounding_23 ?_
    exact z_ireturn C dL_sounding_24 (Nat.le_of_ble_eq_true rfl) (Nat.le_of_ble_eq_true rfl) (zWQ_n hA hna hm hc9 h0 hA3 hk3 (by rw [hφ3, hz]))

theorem zcw_reduced : zcSW yL_reduced cL_reduced 6 (some .int) [(0, 12, 15, 42), (0, 12, 19, 13), (0, 12, 23, 34)] 5 := ⟨zl_4_111, zl_4_110, zl_1_0, ⟨by decide +kernel, by decide +kernel, by decide +kernel⟩, by decide⟩
set_option maxRecDepth 100000 in
set_option maxHeartbeats 400000 in
theorem w_reduced {la : Launch} {G : zG} {X : (Nat → Prop) → State → Prop} (hX : zX X) (h4 : zT4 X) (hfl : la.stackTraces = false) (h5 : zT5 X) {L Lc : List Nat} {f : Nat → va_E} {o aL : Nat} {μ : zMu}  {φ : Nat → Int64} (hC : CSx G Lc f o μ) (hs : ∀ a ∈ Lc, a ∈ L) (hnd : Lc.Nodup) (hA : zLA G L f aL φ) (hna : aL ∉ Lc) (l k t : Int) (hl : zR l) (hk : zR k) (ht : zR t) : zM la G X yL_reduced (.codeWith yL_reduced cL_reduced 6 (some .int) [(0, 12, 15, 42), (0, 12, 19, 13), (0, 12, 23, 34)] :: zT) 9 8 48 [.ref o, .int (iI l), .int (iI k), .int (iI t), .ref aL] L f zeI (zWQ G L Lc f o aL zov (o_reduced μ l k t)) := by
  refine zMW_intro hX (by decide) (Nat.le_of_ble_eq_true rfl) (fun pZ eZ sZ mZ aZ bZ hZ cZ AZ C ht => ?_)
  obtain ⟨ω, hR, hI, hK⟩ := hC
  change ZW G pZ la eZ (zRm 9 8 48) sZ mZ aZ bZ hZ cZ AZ 6 0 0 _ L f 0 [(0, .ref o), (1, .int (iI l)), (2, .int (iI k)), (3, .int (iI t)), (4, .ref aL)] []
  refine z_aload C 4 dL_reduced_0 rfl ?_
  refine z_iconst C dL_reduced_2 ?_
  refine z_aload_n C 0 dL_reduced_3 rfl ?_
  refine z_iload_n C 1 dL_reduced_4 rfl ?_
  refine z_iload_n C 2 dL_reduced_5 rfl ?_
  refine z_iload_n C 3 dL_reduced_6 rfl ?_
  refine z_cVXs (As := [.int (iI l), .int (iI k), .int (iI t)]) C hs hnd zc_X6_reduced (c_reduced hX h4 hfl hR  l k t hI hK (by omega) (by omega) (by omega)) zl_4_112 ⟨Nat.le_of_ble_eq_true rfl, Nat.le_of_ble_eq_true rfl⟩ (Nat.le_of_ble_eq_true rfl) (Nat.le_of_ble_eq_true rfl) hR.ob.1 hR.ob.2 rfl rfl rfl rfl (Nat.le_of_ble_eq_true rfl) dL_reduced_7 (fun E Ls1 f1 L2 f2 hx hm => ?_) (fun z Ls1 f1 L2 f2 hr hm => ?_)
  · obtain ⟨h1, he, hc9⟩ := hx
    rcases zes3 h1 he with ⟨e1, rfl⟩ | ⟨e1, rfl⟩ | ⟨e1, rfl⟩
    · skip
      refine z_catch C h4 h5 ht [] ⟨0, 12, 15, 42⟩ [⟨0, 12, 19, 13⟩, ⟨0, 12, 23, 34⟩] rfl (fun _ h => absurd h List.not_mem_nil) (by decide) (by decide) zl_3_153 (List.mem_of_getElem? (i := 7) rfl) (fun q => ?_)
      change ZW G pZ la eZ (zRm 9 8 48) sZ mZ aZ bZ hZ cZ AZ 6 8 48 _ L2 f2 15 [(0, .ref o), (1, .int (iI l)), (2, .int (iI k)), (3, .int (iI t)), (4, .ref aL)] [.ref q]
      refine z_astore (ls' := [(5, .ref q), (0, .ref o), (1, .int (iI l)), (2, .int (iI k)), (3, .int (iI t)), (4, .ref aL)]) C dL_reduced_15 (Nat.le_of_ble_eq_true rfl) rfl ?_
      refine z_iconst C dL_reduced_17 ?_
      exact z_ireturn C dL_reduced_18 (Nat.le_of_ble_eq_true rfl) (Nat.le_of_ble_eq_true rfl) (zWQ_x hA hna hm hc9 e1 ⟨by decide, by decide⟩)
    · skip
      refine z_catch C h4 h5 ht [⟨0, 12, 15, 42⟩] ⟨0, 12, 19, 13⟩ [⟨0, 12, 23, 34⟩] rfl (List.forall_mem_cons.mpr ⟨⟨by decide, _, zl_3_153, by decide +kernel⟩, (fun _ h => absurd h List.not_mem_nil)⟩) (by decide) (by decide) zl_2_118 (List.mem_of_getElem? (i := 3) rfl) (fun q => ?_)
      change ZW G pZ la eZ (zRm 9 8 48) sZ mZ aZ bZ hZ cZ AZ 6 8 48 _ L2 f2 19 [(0, .ref o), (1, .int (iI l)), (2, .int (iI k)), (3, .int (iI t)), (4, .ref aL)] [.ref q]
      refine z_astore (ls' := [(5, .ref q), (0, .ref o), (1, .int (iI l)), (2, .int (iI k)), (3, .int (iI t)), (4, .ref aL)]) C dL_reduced_19 (Nat.le_of_ble_eq_true rfl) rfl ?_
      refine z_iconst C dL_reduced_21 ?_
      exact z_ireturn C dL_reduced_22 (Nat.le_of_ble_eq_true rfl) (Nat.le_of_ble_eq_true rfl) (zWQ_x hA hna hm hc9 e1 ⟨by decide, by decide⟩)
    · skip
      refine z_catch C h4 h5 ht [⟨0, 12, 15, 42⟩, ⟨0, 12, 19, 13⟩] ⟨0, 12, 23, 34⟩ [] rfl (List.forall_mem_cons.mpr ⟨⟨by decide, _, zl_3_153, by decide +kernel⟩, (List.forall_mem_cons.mpr ⟨⟨by decide, _, zl_2_118, by decide +kernel⟩, (fun _ h => absurd h List.not_mem_nil)⟩)⟩) (by decide) (by decide) zl_3_87 (List.mem_of_getElem? (i := 5) rfl) (fun q => ?_)
      change ZW G pZ la eZ (zRm 9 8 48) sZ mZ aZ bZ hZ cZ AZ 6 8 48 _ L2 f2 23 [(0, .ref o), (1, .int (iI l)), (2, .int (iI k)), (3, .int (iI t)), (4, .ref aL)] [.ref q]
      refine z_astore (ls' := [(5, .ref q), (0, .ref o), (1, .int (iI l)), (2, .int (iI k)), (3, .int (iI t)), (4, .ref aL)]) C dL_reduced_23 (Nat.le_of_ble_eq_true rfl) rfl ?_
      refine z_iconst C dL_reduced_25 ?_
      exact z_ireturn C dL_reduced_26 (Nat.le_of_ble_eq_true rfl) (Nat.le_of_ble_eq_true rfl) (zWQ_x hA hna hm hc9 e1 ⟨by decide, by decide⟩)
  · skip
    obtain ⟨h0, hz, hc9⟩ := hr
    have hA2 := zLA_m hA hna hm
    change ZW G pZ la eZ (zRm 9 8 48) sZ mZ aZ bZ hZ cZ AZ 6 8 48 _ L2 f2 10 [(0, .ref o), (1, .int (iI l)), (2, .int (iI k)), (3, .int (iI t)), (4, .ref aL)] [.int (iI z), .int (iI 0), .ref aL]
    refine z_i2lR C dL_reduced_10 ?_
    refine z_last C hA2 dL_reduced_11 (fun f3 φ3 hA3 hφ3 hk3 => ?_)
    change ZW G pZ la eZ (zRm 9 8 48) sZ mZ aZ bZ hZ cZ AZ 6 8 48 _ L2 f3 12 [(0, .ref o), (1, .int (iI l)), (2, .int (iI k)), (3, .int (iI t)), (4, .ref aL)] []
    refine z_goto C 27 dL_reduced_12 (by decide) ?_
    refine z_iconst C dL_reduced_27 ?_
    exact z_ireturn C dL_reduced_28 (Nat.le_of_ble_eq_true rfl) (Nat.le_of_ble_eq_true rfl) (zWQ_n hA hna hm hc9 h0 hA3 hk3 (by rw [hφ3, hz]))

theorem zcw_spikes : zcSW yL_spikes cL_spikes 4 (some .int) [(0, 9, 12, 42)] 3 := ⟨zl_4_127, zl_4_126, zl_1_0, ⟨by decide +kernel, by decide +kernel, by decide +kernel⟩, by decide⟩
set_option maxRecDepth 100000 in
set_option maxHeartbeats 400000 in
theorem w_spikes {la : Launch} {G : zG} {X : (Nat → Prop) → State → Prop} (hX : zX X) (h4 : zT4 X) (hfl : la.stackTraces = false) (h5 : zT5 X) {L Lc : List Nat} {f : Nat → va_E} {o aL : Nat} {μ : zMu}  {φ : Nat → Int64} (hC : CSx G Lc f o μ) (hs : ∀ a ∈ Lc, a ∈ L) (hnd : Lc.Nodup) (hA : zLA G L f aL φ) (hna : aL ∉ Lc) (l : Int) (hl : zR l) : zM la G X yL_spikes (.codeWith yL_spikes cL_spikes 4 (some .int) [(0, 9, 12, 42)] :: zT) 9 8 48 [.ref o, .int (iI l), .ref aL] L f zeI (zWQ G L Lc f o aL zov (o_spikes μ l)) := by
  refine zMW_intro hX (by decide) (Nat.le_of_ble_eq_true rfl) (fun pZ eZ sZ mZ aZ bZ hZ cZ AZ C ht => ?_)
  obtain ⟨ω, hR, hI, hK⟩ := hC
  change ZW G pZ la eZ (zRm 9 8 48) sZ mZ aZ bZ hZ cZ AZ 4 0 0 _ L f 0 [(0, .ref o), (1, .int (iI l)), (2, .ref aL)] []
  refine z_aload_n C 2 dL_spikes_0 rfl ?_
  refine z_iconst C dL_spikes_1 ?_
  refine z_aload_n C 0 dL_spikes_2 rfl ?_
  refine z_iload_n C 1 dL_spikes_3 rfl ?_
  refine z_cVXs (As := [.int (iI l)]) C hs hnd zc_X6_spikes (c_spikes hX h4 hfl hR  l hI hK (by omega)) zl_4_128 ⟨Nat.le_of_ble_eq_true rfl, Nat.le_of_ble_eq_true rfl⟩ (Nat.le_of_ble_eq_true rfl) (Nat.le_of_ble_eq_true rfl) hR.ob.1 hR.ob.2 rfl rfl rfl rfl (Nat.le_of_ble_eq_true rfl) dL_spikes_4 (fun E Ls1 f1 L2 f2 hx hm => ?_) (fun z Ls1 f1 L2 f2 hr hm => ?_)
  · obtain ⟨h1, he, hc9⟩ := hx
    obtain ⟨e1, rfl⟩ := zes1 h1 he
    refine z_catch C h4 h5 ht [] ⟨0, 9, 12, 42⟩ [] rfl (fun _ h => absurd h List.not_mem_nil) (by decide) (by decide) zl_3_153 (List.mem_of_getElem? (i := 7) rfl) (fun q => ?_)
    change ZW G pZ la eZ (zRm 9 8 48) sZ mZ aZ bZ hZ cZ AZ 4 8 48 _ L2 f2 12 [(0, .ref o), (1, .int (iI l)), (2, .ref aL)] [.ref q]
    refine z_astore_n (ls' := [(3, .ref q), (0, .ref o), (1, .int (iI l)), (2, .ref aL)]) C dL_spikes_12 (Nat.le_of_ble_eq_true rfl) rfl ?_
    refine z_iconst C dL_spikes_13 ?_
    exact z_ireturn C dL_spikes_14 (Nat.le_of_ble_eq_true rfl) (Nat.le_of_ble_eq_true rfl) (zWQ_x hA hna hm hc9 e1 ⟨by decide, by decide⟩)
  · skip
    obtain ⟨h0, hz, hc9⟩ := hr
    have hA2 := zLA_m hA hna hm
    change ZW G pZ la eZ (zRm 9 8 48) sZ mZ aZ bZ hZ cZ AZ 4 8 48 _ L2 f2 7 [(0, .ref o), (1, .int (iI l)), (2, .ref aL)] [.int (iI z), .int (iI 0), .ref aL]
    refine z_i2lR C dL_spikes_7 ?_
    refine z_last C hA2 dL_spikes_8 (fun f3 φ3 hA3 hφ3 hk3 => ?_)
    change ZW G pZ la eZ (zRm 9 8 48) sZ mZ aZ bZ hZ cZ AZ 4 8 48 _ L2 f3 9 [(0, .ref o), (1, .int (iI l)), (2, .ref aL)] []
    refine z_goto C 15 dL_spikes_9 (by decide) ?_
    refine z_iconst C dL_spikes_15 ?_
    exact z_ireturn C dL_spikes_16 (Nat.le_of_ble_eq_true rfl) (Nat.le_of_ble_eq_true rfl) (zWQ_n hA hna hm hc9 h0 hA3 hk3 (by rw [hφ3, hz]))

theorem zcw_lost : zcSW yL_lost cL_lost 4 (some .int) [(0, 9, 12, 42)] 3 := ⟨zl_4_138, zl_4_137, zl_1_0, ⟨by decide +kernel, by decide +kernel, by decide +kernel⟩, by decide⟩
set_option maxRecDepth 100000 in
set_option maxHeartbeats 400000 in
theorem w_lost {la : Launch} {G : zG} {X : (Nat → Prop) → State → Prop} (hX : zX X) (h4 : zT4 X) (hfl : la.stackTraces = false) (h5 : zT5 X) {L Lc : List Nat} {f : Nat → va_E} {o aL : Nat} {μ : zMu}  {φ : Nat → Int64} (hC : CSx G Lc f o μ) (hs : ∀ a ∈ Lc, a ∈ L) (hnd : Lc.Nodup) (hA : zLA G L f aL φ) (hna : aL ∉ Lc) (l : Int) (hl : zR l) : zM la G X yL_lost (.codeWith yL_lost cL_lost 4 (some .int) [(0, 9, 12, 42)] :: zT) 9 8 48 [.ref o, .int (iI l), .ref aL] L f zeI (zWQ G L Lc f o aL zov (o_lost μ l)) := by
  refine zMW_intro hX (by decide) (Nat.le_of_ble_eq_true rfl) (fun pZ eZ sZ mZ aZ bZ hZ cZ AZ C ht => ?_)
  obtain ⟨ω, hR, hI, hK⟩ := hC
  change ZW G pZ la eZ (zRm 9 8 48) sZ mZ aZ bZ hZ cZ AZ 4 0 0 _ L f 0 [(0, .ref o), (1, .int (iI l)), (2, .ref aL)] []
  refine z_aload_n C 2 dL_lost_0 rfl ?_
  refine z_iconst C dL_lost_1 ?_
  refine z_aload_n C 0 dL_lost_2 rfl ?_
  refine z_iload_n C 1 dL_lost_3 rfl ?_
  refine z_cVXs (As := [.int (iI l)]) C hs hnd zc_X6_lost (c_lost hX h4 hfl hR  l hI hK (by omega)) zl_4_139 ⟨Nat.le_of_ble_eq_true rfl, Nat.le_of_ble_eq_true rfl⟩ (Nat.le_of_ble_eq_true rfl) (Nat.le_of_ble_eq_true rfl) hR.ob.1 hR.ob.2 rfl rfl rfl rfl (Nat.le_of_ble_eq_true rfl) dL_lost_4 (fun E Ls1 f1 L2 f2 hx hm => ?_) (fun z Ls1 f1 L2 f2 hr hm => ?_)
  · obtain ⟨h1, he, hc9⟩ := hx
    obtain ⟨e1, rfl⟩ := zes1 h1 he
    refine z_catch C h4 h5 ht [] ⟨0, 9, 12, 42⟩ [] rfl (fun _ h => absurd h List.not_mem_nil) (by decide) (by decide) zl_3_153 (List.mem_of_getElem? (i := 7) rfl) (fun q => ?_)
    change ZW G pZ la eZ (zRm 9 8 48) sZ mZ aZ bZ hZ cZ AZ 4 8 48 _ L2 f2 12 [(0, .ref o), (1, .int (iI l)), (2, .ref aL)] [.ref q]
    refine z_astore_n (ls' := [(3, .ref q), (0, .ref o), (1, .int (iI l)), (2, .ref aL)]) C dL_lost_12 (Nat.le_of_ble_eq_true rfl) rfl ?_
    refine z_iconst C dL_lost_13 ?_
    exact z_ireturn C dL_lost_14 (Nat.le_of_ble_eq_true rfl) (Nat.le_of_ble_eq_true rfl) (zWQ_x hA hna hm hc9 e1 ⟨by decide, by decide⟩)
  · skip
    obtain ⟨h0, hz, hc9⟩ := hr
    have hA2 := zLA_m hA hna hm
    change ZW G pZ la eZ (zRm 9 8 48) sZ mZ aZ bZ hZ cZ AZ 4 8 48 _ L2 f2 7 [(0, .ref o), (1, .int (iI l)), (2, .ref aL)] [.int (iI z), .int (iI 0), .ref aL]
    refine z_i2lR C dL_lost_7 ?_
    refine z_last C hA2 dL_lost_8 (fun f3 φ3 hA3 hφ3 hk3 => ?_)
    change ZW G pZ la eZ (zRm 9 8 48) sZ mZ aZ bZ hZ cZ AZ 4 8 48 _ L2 f3 9 [(0, .ref o), (1, .int (iI l)), (2, .ref aL)] []
    refine z_goto C 15 dL_lost_9 (by decide) ?_
    refine z_iconst C dL_lost_15 ?_
    exact z_ireturn C dL_lost_16 (Nat.le_of_ble_eq_true rfl) (Nat.le_of_ble_eq_true rfl) (zWQ_n hA hna hm hc9 h0 hA3 hk3 (by rw [hφ3, hz]))

theorem zcw_depth : zcSW yL_depth cL_depth 5 (some .int) [(0, 10, 13, 13), (0, 10, 17, 34)] 4 := ⟨zl_4_145, zl_4_144, zl_1_0, ⟨by decide +kernel, by decide +kernel, by decide +kernel⟩, by decide⟩
set_option maxRecDepth 100000 in
set_option maxHeartbeats 400000 in
theorem w_depth {la : Launch} {G : zG} {X : (Nat → Prop) → State → Prop} (hX : zX X) (h4 : zT4 X) (hfl : la.stackTraces = false) (h5 : zT5 X) {L Lc : List Nat} {f : Nat → va_E} {o aL : Nat} {μ : zMu}  {φ : Nat → Int64} (hC : CSx G Lc f o μ) (hs : ∀ a ∈ Lc, a ∈ L) (hnd : Lc.Nodup) (hA : zLA G L f aL φ) (hna : aL ∉ Lc) (c r : Int) (hc : zR c) (hr : zR r) : zM la G X yL_depth (.codeWith yL_depth cL_depth 5 (some .int) [(0, 10, 13, 13), (0, 10, 17, 34)] :: zT) 9 8 48 [.ref o, .int (iI c), .int (iI r), .ref aL] L f zeI (zWQ G L Lc f o aL zov (o_depth μ c r)) := by
  refine zMW_intro hX (by decide) (Nat.le_of_ble_eq_true rfl) (fun pZ eZ sZ mZ aZ bZ hZ cZ AZ C ht => ?_)
  obtain ⟨ω, hR, hI, hK⟩ := hC
  change ZW G pZ la eZ (zRm 9 8 48) sZ mZ aZ bZ hZ cZ AZ 5 0 0 _ L f 0 [(0, .ref o), (1, .int (iI c)), (2, .int (iI r)), (3, .ref aL)] []
  refine z_aload_n C 3 dL_depth_0 rfl ?_
  refine z_iconst C dL_depth_1 ?_
  refine z_aload_n C 0 dL_depth_2 rfl ?_
  refine z_iload_n C 1 dL_depth_3 rfl ?_
  refine z_iload_n C 2 dL_depth_4 rfl ?_
  refine z_cVXs (As := [.int (iI c), .int (iI r)]) C hs hnd zc_X6_depth (c_depth hX h4 hfl hR  c r hI hK (by omega) (by omega)) zl_4_146 ⟨Nat.le_of_ble_eq_true rfl, Nat.le_of_ble_eq_true rfl⟩ (Nat.le_of_ble_eq_true rfl) (Nat.le_of_ble_eq_true rfl) hR.ob.1 hR.ob.2 rfl rfl rfl rfl (Nat.le_of_ble_eq_true rfl) dL_depth_5 (fun E Ls1 f1 L2 f2 hx hm => ?_) (fun z Ls1 f1 L2 f2 hr hm => ?_)
  · obtain ⟨h1, he, hc9⟩ := hx
    rcases zes2 h1 he with ⟨e1, rfl⟩ | ⟨e1, rfl⟩
    · skip
      refine z_catch C h4 h5 ht [] ⟨0, 10, 13, 13⟩ [⟨0, 10, 17, 34⟩] rfl (fun _ h => absurd h List.not_mem_nil) (by decide) (by decide) zl_2_118 (List.mem_of_getElem? (i := 3) rfl) (fun q => ?_)
      change ZW G pZ la eZ (zRm 9 8 48) sZ mZ aZ bZ hZ cZ AZ 5 8 48 _ L2 f2 13 [(0, .ref o), (1, .int (iI c)), (2, .int (iI r)), (3, .ref aL)] [.ref q]
      refine z_astore (ls' := [(4, .ref q), (0, .ref o), (1, .int (iI c)), (2, .int (iI r)), (3, .ref aL)]) C dL_depth_13 (Nat.le_of_ble_eq_true rfl) rfl ?_
      refine z_iconst C dL_depth_15 ?_
      exact z_ireturn C dL_depth_16 (Nat.le_of_ble_eq_true rfl) (Nat.le_of_ble_eq_true rfl) (zWQ_x hA hna hm hc9 e1 ⟨by decide, by decide⟩)
    · skip
      refine z_catch C h4 h5 ht [⟨0, 10, 13, 13⟩] ⟨0, 10, 17, 34⟩ [] rfl (List.forall_mem_cons.mpr ⟨⟨by decide, _, zl_2_118, by decide +kernel⟩, (fun _ h => absurd h List.not_mem_nil)⟩) (by decide) (by decide) zl_3_87 (List.mem_of_getElem? (i := 5) rfl) (fun q => ?_)
      change ZW G pZ la eZ (zRm 9 8 48) sZ mZ aZ bZ hZ cZ AZ 5 8 48 _ L2 f2 17 [(0, .ref o), (1, .int (iI c)), (2, .int (iI r)), (3, .ref aL)] [.ref q]
      refine z_astore (ls' := [(4, .ref q), (0, .ref o), (1, .int (iI c)), (2, .int (iI r)), (3, .ref aL)]) C dL_depth_17 (Nat.le_of_ble_eq_true rfl) rfl ?_
      refine z_iconst C dL_depth_19 ?_
      exact z_ireturn C dL_depth_20 (Nat.le_of_ble_eq_true rfl) (Nat.le_of_ble_eq_true rfl) (zWQ_x hA hna hm hc9 e1 ⟨by decide, by decide⟩)
  · skip
    obtain ⟨h0, hz, hc9⟩ := hr
    have hA2 := zLA_m hA hna hm
    change ZW G pZ la eZ (zRm 9 8 48) sZ mZ aZ bZ hZ cZ AZ 5 8 48 _ L2 f2 8 [(0, .ref o), (1, .int (iI c)), (2, .int (iI r)), (3, .ref aL)] [.int (iI z), .int (iI 0), .ref aL]
    refine z_i2lR C dL_depth_8 ?_
    refine z_last C hA2 dL_depth_9 (fun f3 φ3 hA3 hφ3 hk3 => ?_)
    change ZW G pZ la eZ (zRm 9 8 48) sZ mZ aZ bZ hZ cZ AZ 5 8 48 _ L2 f3 10 [(0, .ref o), (1, .int (iI c)), (2, .int (iI r)), (3, .ref aL)] []
    refine z_goto C 21 dL_depth_10 (by decide) ?_
    refine z_iconst C dL_depth_21 ?_
    exact z_ireturn C dL_depth_22 (Nat.le_of_ble_eq_true rfl) (Nat.le_of_ble_eq_true rfl) (zWQ_n hA hna hm hc9 h0 hA3 hk3 (by rw [hφ3, hz]))

theorem zcw_depthAnew : zcSW yL_depthAnew cL_depthAnew 5 (some .int) [(0, 10, 13, 13), (0, 10, 17, 34)] 4 := ⟨zl_4_156, zl_4_155, zl_1_0, ⟨by decide +kernel, by decide +kernel, by decide +kernel⟩, by decide⟩
set_option maxRecDepth 100000 in
set_option maxHeartbeats 400000 in
theorem w_depthAnew {la : Launch} {G : zG} {X : (Nat → Prop) → State → Prop} (hX : zX X) (h4 : zT4 X) (hfl : la.stackTraces = false) (h5 : zT5 X) {L Lc : List Nat} {f : Nat → va_E} {o aL : Nat} {μ : zMu}  {φ : Nat → Int64} (hC : CSx G Lc f o μ) (hs : ∀ a ∈ Lc, a ∈ L) (hnd : Lc.Nodup) (hA : zLA G L f aL φ) (hna : aL ∉ Lc) (c r : Int) (hc : zR c) (hr : zR r) : zM la G X yL_depthAnew (.codeWith yL_depthAnew cL_depthAnew 5 (some .int) [(0, 10, 13, 13), (0, 10, 17, 34)] :: zT) 9 8 48 [.ref o, .int (iI c), .int (iI r), .ref aL] L f zeI (zWQ G L Lc f o aL zov (o_depth μ c r)) := by
  refine zMW_intro hX (by decide) (Nat.le_of_ble_eq_true rfl) (fun pZ eZ sZ mZ aZ bZ hZ cZ AZ C ht => ?_)
  obtain ⟨ω, hR, hI, hK⟩ := hC
  change ZW G pZ la eZ (zRm 9 8 48) sZ mZ aZ bZ hZ cZ AZ 5 0 0 _ L f 0 [(0, .ref o), (1, .int (iI c)), (2, .int (iI r)), (3, .ref aL)] []
  refine z_aload_n C 3 dL_depthAnew_0 rfl ?_
  refine z_iconst C dL_depthAnew_1 ?_
  refine z_aload_n C 0 dL_depthAnew_2 rfl ?_
  refine z_iload_n C 1 dL_depthAnew_3 rfl ?_
  refine z_iload_n C 2 dL_depthAnew_4 rfl ?_
  refine z_cVXs (As := [.int (iI c), .int (iI r)]) C hs hnd zc_X6_depthAnew (c_depthAnew hX h4 hfl hR  c r hI hK (by omega) (by omega)) zl_4_157 ⟨Nat.le_of_ble_eq_true rfl, Nat.le_of_ble_eq_true rfl⟩ (Nat.le_of_ble_eq_true rfl) (Nat.le_of_ble_eq_true rfl) hR.ob.1 hR.ob.2 rfl rfl rfl rfl (Nat.le_of_ble_eq_true rfl) dL_depthAnew_5 (fun E Ls1 f1 L2 f2 hx hm => ?_) (fun z Ls1 f1 L2 f2 hr hm => ?_)
  · obtain ⟨h1, he, hc9⟩ := hx
    rcases zes2 h1 he with ⟨e1, rfl⟩ | ⟨e1, rfl⟩
    · skip
      refine z_catch C h4 h5 ht [] ⟨0, 10, 13, 13⟩ [⟨0, 10, 17, 34⟩] rfl (fun _ h => absurd h List.not_mem_nil) (by decide) (by decide) zl_2_118 (List.mem_of_getElem? (i := 3) rfl) (fun q => ?_)
      change ZW G pZ la eZ (zRm 9 8 48) sZ mZ aZ bZ hZ cZ AZ 5 8 48 _ L2 f2 13 [(0, .ref o), (1, .int (iI c)), (2, .int (iI r)), (3, .ref aL)] [.ref q]
      refine z_astore (ls' := [(4, .ref q), (0, .ref o), (1, .int (iI c)), (2, .int (iI r)), (3, .ref aL)]) C dL_depthAnew_13 (Nat.le_of_ble_eq_true rfl) rfl ?_
      refine z_iconst C dL_depthAnew_15 ?_
      exact z_ireturn C dL_depthAnew_16 (Nat.le_of_ble_eq_true rfl) (Nat.le_of_ble_eq_true rfl) (zWQ_x hA hna hm hc9 e1 ⟨by decide, by decide⟩)
    · skip
      refine z_catch C h4 h5 ht [⟨0, 10, 13, 13⟩] ⟨0, 10, 17, 34⟩ [] rfl (List.forall_mem_cons.mpr ⟨⟨by decide, _, zl_2_118, by decide +kernel⟩, (fun _ h => absurd h List.not_mem_nil)⟩) (by decide) (by decide) zl_3_87 (List.mem_of_getElem? (i := 5) rfl) (fun q => ?_)
      change ZW G pZ la eZ (zRm 9 8 48) sZ mZ aZ bZ hZ cZ AZ 5 8 48 _ L2 f2 17 [(0, .ref o), (1, .int (iI c)), (2, .int (iI r)), (3, .ref aL)] [.ref q]
      refine z_astore (ls' := [(4, .ref q), (0, .ref o), (1, .int (iI c)), (2, .int (iI r)), (3, .ref aL)]) C dL_depthAnew_17 (Nat.le_of_ble_eq_true rfl) rfl ?_
      refine z_iconst C dL_depthAnew_19 ?_
      exact z_ireturn C dL_depthAnew_20 (Nat.le_of_ble_eq_true rfl) (Nat.le_of_ble_eq_true rfl) (zWQ_x hA hna hm hc9 e1 ⟨by decide, by decide⟩)
  · skip
    obtain ⟨h0, hz, hc9⟩ := hr
    have hA2 := zLA_m hA hna hm
    change ZW G pZ la eZ (zRm 9 8 48) sZ mZ aZ bZ hZ cZ AZ 5 8 48 _ L2 f2 8 [(0, .ref o), (1, .int (iI c)), (2, .int (iI r)), (3, .ref aL)] [.int (iI z), .int (iI 0), .ref aL]
    refine z_i2lR C dL_depthAnew_8 ?_
    refine z_last C hA2 dL_depthAnew_9 (fun f3 φ3 hA3 hφ3 hk3 => ?_)
    change ZW G pZ la eZ (zRm 9 8 48) sZ mZ aZ bZ hZ cZ AZ 5 8 48 _ L2 f3 10 [(0, .ref o), (1, .int (iI c)), (2, .int (iI r)), (3, .ref aL)] []
    refine z_goto C 21 dL_depthAnew_10 (by decide) ?_
    refine z_iconst C dL_depthAnew_21 ?_
    exact z_ireturn C dL_depthAnew_22 (Nat.le_of_ble_eq_true rfl) (Nat.le_of_ble_eq_true rfl) (zWQ_n hA hna hm hc9 h0 hA3 hk3 (by rw [hφ3, hz]))

theorem zcw_gap : zcSW yL_gap cL_gap 4 (some .int) [(0, 9, 12, 42)] 3 := ⟨zl_4_163, zl_4_162, zl_1_0, ⟨by decide +kernel, by decide +kernel, by decide +kernel⟩, by decide⟩
set_option maxRecDepth 100000 in
set_option maxHeartbeats 400000 in
theorem w_gap {la : Launch} {G : zG} {X : (Nat → Prop) → State → Prop} (hX : zX X) (h4 : zT4 X) (hfl : la.stackTraces = false) (h5 : zT5 X) {L Lc : List Nat} {f : Nat → va_E} {o aL : Nat} {μ : zMu}  {φ : Nat → Int64} (hC : CSx G Lc f o μ) (hs : ∀ a ∈ Lc, a ∈ L) (hnd : Lc.Nodup) (hA : zLA G L f aL φ) (hna : aL ∉ Lc) (i : Int) (hi : zR i) : zM la G X yL_gap (.codeWith yL_gap cL_gap 4 (some .int) [(0, 9, 12, 42)] :: zT) 9 8 48 [.ref o, .int (iI i), .ref aL] L f zeI (zWQ G L Lc f o aL zov (o_gap μ i)) := by
  refine zMW_intro hX (by decide) (Nat.le_of_ble_eq_true rfl) (fun pZ eZ sZ mZ aZ bZ hZ cZ AZ C ht => ?_)
  obtain ⟨ω, hR, hI, hK⟩ := hC
  change ZW G pZ la eZ (zRm 9 8 48) sZ mZ aZ bZ hZ cZ AZ 4 0 0 _ L f 0 [(0, .ref o), (1, .int (iI i)), (2, .ref aL)] []
  refine z_aload_n C 2 dL_gap_0 rfl ?_
  refine z_iconst C dL_gap_1 ?_
  refine z_aload_n C 0 dL_gap_2 rfl ?_
  refine z_iload_n C 1 dL_gap_3 rfl ?_
  refine z_cVXs (As := [.int (iI i)]) C hs hnd zc_X6_gap (c_gap hX h4 hfl hR  i hI hK (by omega)) zl_4_164 ⟨Nat.le_of_ble_eq_true rfl, Nat.le_of_ble_eq_true rfl⟩ (Nat.le_of_ble_eq_true rfl) (Nat.le_of_ble_eq_true rfl) hR.ob.1 hR.ob.2 rfl rfl rfl rfl (Nat.le_of_ble_eq_true rfl) dL_gap_4 (fun E Ls1 f1 L2 f2 hx hm => ?_) (fun z Ls1 f1 L2 f2 hr hm => ?_)
  · obtain ⟨h1, he, hc9⟩ := hx
    obtain ⟨e1, rfl⟩ := zes1 h1 he
    refine z_catch C h4 h5 ht [] ⟨0, 9, 12, 42⟩ [] rfl (fun _ h => absurd h List.not_mem_nil) (by decide) (by decide) zl_3_153 (List.mem_of_getElem? (i := 7) rfl) (fun q => ?_)
    change ZW G pZ la eZ (zRm 9 8 48) sZ mZ aZ bZ hZ cZ AZ 4 8 48 _ L2 f2 12 [(0, .ref o), (1, .int (iI i)), (2, .ref aL)] [.ref q]
    refine z_astore_n (ls' := [(3, .ref q), (0, .ref o), (1, .int (iI i)), (2, .ref aL)]) C dL_gap_12 (Nat.le_of_ble_eq_true rfl) rfl ?_
    refine z_iconst C dL_gap_13 ?_
    exact z_ireturn C dL_gap_14 (Nat.le_of_ble_eq_true rfl) (Nat.le_of_ble_eq_true rfl) (zWQ_x hA hna hm hc9 e1 ⟨by decide, by decide⟩)
  · skip
    obtain ⟨h0, hz, hc9⟩ := hr
    have hA2 := zLA_m hA hna hm
    change ZW G pZ la eZ (zRm 9 8 48) sZ mZ aZ bZ hZ cZ AZ 4 8 48 _ L2 f2 7 [(0, .ref o), (1, .int (iI i)), (2, .ref aL)] [.int (iI z), .int (iI 0), .ref aL]
    refine z_i2lR C dL_gap_7 ?_
    refine z_last C hA2 dL_gap_8 (fun f3 φ3 hA3 hφ3 hk3 => ?_)
    change ZW G pZ la eZ (zRm 9 8 48) sZ mZ aZ bZ hZ cZ AZ 4 8 48 _ L2 f3 9 [(0, .ref o), (1, .int (iI i)), (2, .ref aL)] []
    refine z_goto C 15 dL_gap_9 (by decide) ?_
    refine z_iconst C dL_gap_15 ?_
    exact z_ireturn C dL_gap_16 (Nat.le_of_ble_eq_true rfl) (Nat.le_of_ble_eq_true rfl) (zWQ_n hA hna hm hc9 h0 hA3 hk3 (by rw [hφ3, hz]))

theorem zcw_bestRow : zcSW yL_bestRow cL_bestRow 3 (some .int) [(0, 8, 11, 36)] 2 := ⟨zl_4_174, zl_4_173, zl_1_0, ⟨by decide +kernel, by decide +kernel, by decide +kernel⟩, by decide⟩
set_option maxRecDepth 100000 in
set_option maxHeartbeats 400000 in
theorem w_bestRow {la : Launch} {G : zG} {X : (Nat → Prop) → State → Prop} (hX : zX X) (h4 : zT4 X) (hfl : la.stackTraces = false) (h5 : zT5 X) {L Lc : List Nat} {f : Nat → va_E} {o aL : Nat} {μ : zMu}  {φ : Nat → Int64} (hC : CSx G Lc f o μ) (hs : ∀ a ∈ Lc, a ∈ L) (hnd : Lc.Nodup) (hA : zLA G L f aL φ) (hna : aL ∉ Lc)   : zM la G X yL_bestRow (.codeWith yL_bestRow cL_bestRow 3 (some .int) [(0, 8, 11, 36)] :: zT) 9 8 48 [.ref o, .ref aL] L f zeI (zWQ G L Lc f o aL zov (o_bestRow μ)) := by
  refine zMW_intro hX (by decide) (Nat.le_of_ble_eq_true rfl) (fun pZ eZ sZ mZ aZ bZ hZ cZ AZ C ht => ?_)
  obtain ⟨ω, hR, hI, hK⟩ := hC
  change ZW G pZ la eZ (zRm 9 8 48) sZ mZ aZ bZ hZ cZ AZ 3 0 0 _ L f 0 [(0, .ref o), (1, .ref aL)] []
  refine z_aload_n C 1 dL_bestRow_0 rfl ?_
  refine z_iconst C dL_bestRow_1 ?_
  refine z_aload_n C 0 dL_bestRow_2 rfl ?_
  refine z_cVXs (As := []) C hs hnd zc_X6_bestRow (c_bestRow hX h4 hfl hR   hI hK ) zl_4_175 ⟨Nat.le_of_ble_eq_true rfl, Nat.le_of_ble_eq_true rfl⟩ (Nat.le_of_ble_eq_true rfl) (Nat.le_of_ble_eq_true rfl) hR.ob.1 hR.ob.2 rfl rfl rfl rfl (Nat.le_of_ble_eq_true rfl) dL_bestRow_3 (fun E Ls1 f1 L2 f2 hx hm => ?_) (fun z Ls1 f1 L2 f2 hr hm => ?_)
  · obtain ⟨h1, he, hc9⟩ := hx
    obtain ⟨e1, rfl⟩ := zes1 h1 he
    refine z_catch C h4 h5 ht [] ⟨0, 8, 11, 36⟩ [] rfl (fun _ h => absurd h List.not_mem_nil) (by decide) (by decide) zl_3_88 (List.mem_of_getElem? (i := 6) rfl) (fun q => ?_)
    change ZW G pZ la eZ (zRm 9 8 48) sZ mZ aZ bZ hZ cZ AZ 3 8 48 _ L2 f2 11 [(0, .ref o), (1, .ref aL)] [.ref q]
    refine z_astore_n (ls' := [(2, .ref q), (0, .ref o), (1, .ref aL)]) C dL_bestRow_11 (Nat.le_of_ble_eq_true rfl) rfl ?_
    refine z_iconst C dL_bestRow_12 ?_
    exact z_ireturn C dL_bestRow_13 (Nat.le_of_ble_eq_true rfl) (Nat.le_of_ble_eq_true rfl) (zWQ_x hA hna hm hc9 e1 ⟨by decide, by decide⟩)
  · skip
    obtain ⟨h0, hz, hc9⟩ := hr
    have hA2 := zLA_m hA hna hm
    change ZW G pZ la eZ (zRm 9 8 48) sZ mZ aZ bZ hZ cZ AZ 3 8 48 _ L2 f2 6 [(0, .ref o), (1, .ref aL)] [.int (iI z), .int (iI 0), .ref aL]
    refine z_i2lR C dL_bestRow_6 ?_
    refine z_last C hA2 dL_bestRow_7 (fun f3 φ3 hA3 hφ3 hk3 => ?_)
    change ZW G pZ la eZ (zRm 9 8 48) sZ mZ aZ bZ hZ cZ AZ 3 8 48 _ L2 f3 8 [(0, .ref o), (1, .ref aL)] []
    refine z_goto C 14 dL_bestRow_8 (by decide) ?_
    refine z_iconst C dL_bestRow_14 ?_
    exact z_ireturn C dL_bestRow_15 (Nat.le_of_ble_eq_true rfl) (Nat.le_of_ble_eq_true rfl) (zWQ_n hA hna hm hc9 h0 hA3 hk3 (by rw [hφ3, hz]))

theorem zcw_dayOf : zcSW yL_dayOf cL_dayOf 4 (some .int) [(0, 9, 12, 42)] 3 := ⟨zl_4_192, zl_4_191, zl_1_0, ⟨by decide +kernel, by decide +kernel, by decide +kernel⟩, by decide⟩
set_option maxRecDepth 100000 in
set_option maxHeartbeats 400000 in
theorem w_dayOf {la : Launch} {G : zG} {X : (Nat → Prop) → State → Prop} (hX : zX X) (h4 : zT4 X) (hfl : la.stackTraces = false) (h5 : zT5 X) {L Lc : List Nat} {f : Nat → va_E} {o aL : Nat} {μ : zMu}  {φ : Nat → Int64} (hC : CSx G Lc f o μ) (hs : ∀ a ∈ Lc, a ∈ L) (hnd : Lc.Nodup) (hA : zLA G L f aL φ) (hna : aL ∉ Lc) (l : Int) (hl : zR l) : zM la G X yL_dayOf (.codeWith yL_dayOf cL_dayOf 4 (some .int) [(0, 9, 12, 42)] :: zT) 9 8 48 [.ref o, .int (iI l), .ref aL] L f zeI (zWQ G L Lc f o aL zov (o_dayOf μ l)) := by
  refine zMW_intro hX (by decide) (Nat.le_of_ble_eq_true rfl) (fun pZ eZ sZ mZ aZ bZ hZ cZ AZ C ht => ?_)
  obtain ⟨ω, hR, hI, hK⟩ := hC
  change ZW G pZ la eZ (zRm 9 8 48) sZ mZ aZ bZ hZ cZ AZ 4 0 0 _ L f 0 [(0, .ref o), (1, .int (iI l)), (2, .ref aL)] []
  refine z_aload_n C 2 dL_dayOf_0 rfl ?_
  refine z_iconst C dL_dayOf_1 ?_
  refine z_aload_n C 0 dL_dayOf_2 rfl ?_
  refine z_iload_n C 1 dL_dayOf_3 rfl ?_
  refine z_cVXs (As := [.int (iI l)]) C hs hnd zc_X6_dayOf (c_dayOf hX h4 hfl hR  l hI hK (by omega)) zl_4_193 ⟨Nat.le_of_ble_eq_true rfl, Nat.le_of_ble_eq_true rfl⟩ (Nat.le_of_ble_eq_true rfl) (Nat.le_of_ble_eq_true rfl) hR.ob.1 hR.ob.2 rfl rfl rfl rfl (Nat.le_of_ble_eq_true rfl) dL_dayOf_4 (fun E Ls1 f1 L2 f2 hx hm => ?_) (fun z Ls1 f1 L2 f2 hr hm => ?_)
  · obtain ⟨h1, he, hc9⟩ := hx
    obtain ⟨e1, rfl⟩ := zes1 h1 he
    refine z_catch C h4 h5 ht [] ⟨0, 9, 12, 42⟩ [] rfl (fun _ h => absurd h List.not_mem_nil) (by decide) (by decide) zl_3_153 (List.mem_of_getElem? (i := 7) rfl) (fun q => ?_)
    change ZW G pZ la eZ (zRm 9 8 48) sZ mZ aZ bZ hZ cZ AZ 4 8 48 _ L2 f2 12 [(0, .ref o), (1, .int (iI l)), (2, .ref aL)] [.ref q]
    refine z_astore_n (ls' := [(3, .ref q), (0, .ref o), (1, .int (iI l)), (2, .ref aL)]) C dL_dayOf_12 (Nat.le_of_ble_eq_true rfl) rfl ?_
    refine z_iconst C dL_dayOf_13 ?_
    exact z_ireturn C dL_dayOf_14 (Nat.le_of_ble_eq_true rfl) (Nat.le_of_ble_eq_true rfl) (zWQ_x hA hna hm hc9 e1 ⟨by decide, by decide⟩)
  · skip
    obtain ⟨h0, hz, hc9⟩ := hr
    have hA2 := zLA_m hA hna hm
    change ZW G pZ la eZ (zRm 9 8 48) sZ mZ aZ bZ hZ cZ AZ 4 8 48 _ L2 f2 7 [(0, .ref o), (1, .int (iI l)), (2, .ref aL)] [.int (iI z), .int (iI 0), .ref aL]
    refine z_i2lR C dL_dayOf_7 ?_
    refine z_last C hA2 dL_dayOf_8 (fun f3 φ3 hA3 hφ3 hk3 => ?_)
    change ZW G pZ la eZ (zRm 9 8 48) sZ mZ aZ bZ hZ cZ AZ 4 8 48 _ L2 f3 9 [(0, .ref o), (1, .int (iI l)), (2, .ref aL)] []
    refine z_goto C 15 dL_dayOf_9 (by decide) ?_
    refine z_iconst C dL_dayOf_15 ?_
    exact z_ireturn C dL_dayOf_16 (Nat.le_of_ble_eq_true rfl) (Nat.le_of_ble_eq_true rfl) (zWQ_n hA hna hm hc9 h0 hA3 hk3 (by rw [hφ3, hz]))

theorem zcw_cross : zcSW yL_cross cL_cross 5 (some .int) [(0, 10, 13, 42), (0, 10, 17, 15), (0, 10, 21, 34)] 4 := ⟨zl_4_199, zl_4_198, zl_1_0, ⟨by decide +kernel, by decide +kernel, by decide +kernel⟩, by decide⟩
set_option maxRecDepth 100000 in
set_option maxHeartbeats 400000 in
theorem w_cross {la : Launch} {G : zG} {X : (Nat → Prop) → State → Prop} (hX : zX X) (h4 : zT4 X) (hfl : la.stackTraces = false) (h5 : zT5 X) {L Lc : List Nat} {f : Nat → va_E} {o aL : Nat} {μ : zMu}  {φ : Nat → Int64} (hC : CSx G Lc f o μ) (hs : ∀ a ∈ Lc, a ∈ L) (hnd : Lc.Nodup) (hA : zLA G L f aL φ) (hna : aL ∉ Lc) (l m : Int) (hl : zR l) (hm : zR m) : zM la G X yL_cross (.codeWith yL_cross cL_cross 5 (some .int) [(0, 10, 13, 42), (0, 10, 17, 15), (0, 10, 21, 34)] :: zT) 9 8 48 [.ref o, .int (iI l), .int (iI m), .ref aL] L f zeI (zWQ G L Lc f o aL zov (o_cross μ l m)) := by
  refine zMW_intro hX (by decide) (Nat.le_of_ble_eq_true rfl) (fun pZ eZ sZ mZ aZ bZ hZ cZ AZ C ht => ?_)
  obtain ⟨ω, hR, hI, hK⟩ := hC
  change ZW G pZ la eZ (zRm 9 8 48) sZ mZ aZ bZ hZ cZ AZ 5 0 0 _ L f 0 [(0, .ref o), (1, .int (iI l)), (2, .int (iI m)), (3, .ref aL)] []
  refine z_aload_n C 3 dL_cross_0 rfl ?_
  refine z_iconst C dL_cross_1 ?_
  refine z_aload_n C 0 dL_cross_2 rfl ?_
  refine z_iload_n C 1 dL_cross_3 rfl ?_
  refine z_iload_n C 2 dL_cross_4 rfl ?_
  refine z_cVXs (As := [.int (iI l), .int (iI m)]) C hs hnd zc_X6_cross (c_cross hX h4 hfl hR  l m hI hK (by omega) (by omega)) zl_4_200 ⟨Nat.le_of_ble_eq_true rfl, Nat.le_of_ble_eq_true rfl⟩ (Nat.le_of_ble_eq_true rfl) (Nat.le_of_ble_eq_true rfl) hR.ob.1 hR.ob.2 rfl rfl rfl rfl (Nat.le_of_ble_eq_true rfl) dL_cross_5 (fun E Ls1 f1 L2 f2 hx hm => ?_) (fun z Ls1 f1 L2 f2 hr hm => ?_)
  · obtain ⟨h1, he, hc9⟩ := hx
    rcases zes3 h1 he with ⟨e1, rfl⟩ | ⟨e1, rfl⟩ | ⟨e1, rfl⟩
    · skip
      refine z_catch C h4 h5 ht [] ⟨0, 10, 13, 42⟩ [⟨0, 10, 17, 15⟩, ⟨0, 10, 21, 34⟩] rfl (fun _ h => absurd h List.not_mem_nil) (by decide) (by decide) zl_3_153 (List.mem_of_getElem? (i := 7) rfl) (fun q => ?_)
      change ZW G pZ la eZ (zRm 9 8 48) sZ mZ aZ bZ hZ cZ AZ 5 8 48 _ L2 f2 13 [(0, .ref o), (1, .int (iI l)), (2, .int (iI m)), (3, .ref aL)] [.ref q]
      refine z_astore (ls' := [(4, .ref q), (0, .ref o), (1, .int (iI l)), (2, .int (iI m)), (3, .ref aL)]) C dL_cross_13 (Nat.le_of_ble_eq_true rfl) rfl ?_
      refine z_iconst C dL_cross_15 ?_
      exact z_ireturn C dL_cross_16 (Nat.le_of_ble_eq_true rfl) (Nat.le_of_ble_eq_true rfl) (zWQ_x hA hna hm hc9 e1 ⟨by decide, by decide⟩)
    · skip
      refine z_catch C h4 h5 ht [⟨0, 10, 13, 42⟩] ⟨0, 10, 17, 15⟩ [⟨0, 10, 21, 34⟩] rfl (List.forall_mem_cons.mpr ⟨⟨by decide, _, zl_3_153, by decide +kernel⟩, (fun _ h => absurd h List.not_mem_nil)⟩) (by decide) (by decide) zl_2_198 (List.mem_of_getElem? (i := 4) rfl) (fun q => ?_)
      change ZW G pZ la eZ (zRm 9 8 48) sZ mZ aZ bZ hZ cZ AZ 5 8 48 _ L2 f2 17 [(0, .ref o), (1, .int (iI l)), (2, .int (iI m)), (3, .ref aL)] [.ref q]
      refine z_astore (ls' := [(4, .ref q), (0, .ref o), (1, .int (iI l)), (2, .int (iI m)), (3, .ref aL)]) C dL_cross_17 (Nat.le_of_ble_eq_true rfl) rfl ?_
      refine z_iconst C dL_cross_19 ?_
      exact z_ireturn C dL_cross_20 (Nat.le_of_ble_eq_true rfl) (Nat.le_of_ble_eq_true rfl) (zWQ_x hA hna hm hc9 e1 ⟨by decide, by decide⟩)
    · skip
      refine z_catch C h4 h5 ht [⟨0, 10, 13, 42⟩, ⟨0, 10, 17, 15⟩] ⟨0, 10, 21, 34⟩ [] rfl (List.forall_mem_cons.mpr ⟨⟨by decide, _, zl_3_153, by decide +kernel⟩, (List.forall_mem_cons.mpr ⟨⟨by decide, _, zl_2_198, by decide +kernel⟩, (fun _ h => absurd h List.not_mem_nil)⟩)⟩) (by decide) (by decide) zl_3_87 (List.mem_of_getElem? (i := 5) rfl) (fun q => ?_)
      change ZW G pZ la eZ (zRm 9 8 48) sZ mZ aZ bZ hZ cZ AZ 5 8 48 _ L2 f2 21 [(0, .ref o), (1, .int (iI l)), (2, .int (iI m)), (3, .ref aL)] [.ref q]
      refine z_astore (ls' := [(4, .ref q), (0, .ref o), (1, .int (iI l)), (2, .int (iI m)), (3, .ref aL)]) C dL_cross_21 (Nat.le_of_ble_eq_true rfl) rfl ?_
      refine z_iconst C dL_cross_23 ?_
      exact z_ireturn C dL_cross_24 (Nat.le_of_ble_eq_true rfl) (Nat.le_of_ble_eq_true rfl) (zWQ_x hA hna hm hc9 e1 ⟨by decide, by decide⟩)
  · skip
    obtain ⟨h0, hz, hc9⟩ := hr
    have hA2 := zLA_m hA hna hm
    change ZW G pZ la eZ (zRm 9 8 48) sZ mZ aZ bZ hZ cZ AZ 5 8 48 _ L2 f2 8 [(0, .ref o), (1, .int (iI l)), (2, .int (iI m)), (3, .ref aL)] [.int (iI z), .int (iI 0), .ref aL]
    refine z_i2lR C dL_cross_8 ?_
    refine z_last C hA2 dL_cross_9 (fun f3 φ3 hA3 hφ3 hk3 => ?_)
    change ZW G pZ la eZ (zRm 9 8 48) sZ mZ aZ bZ hZ cZ AZ 5 8 48 _ L2 f3 10 [(0, .ref o), (1, .int (iI l)), (2, .int (iI m)), (3, .ref aL)] []
    refine z_goto C 25 dL_cross_10 (by decide) ?_
    refine z_iconst C dL_cross_25 ?_
    exact z_ireturn C dL_cross_26 (Nat.le_of_ble_eq_true rfl) (Nat.le_of_ble_eq_true rfl) (zWQ_n hA hna hm hc9 h0 hA3 hk3 (by rw [hφ3, hz]))

theorem zcw_worstCross : zcSW yL_worstCross cL_worstCross 3 (some .int) [(0, 8, 11, 34)] 2 := ⟨zl_4_216, zl_4_215, zl_1_0, ⟨by decide +kernel, by decide +kernel, by decide +kernel⟩, by decide⟩
set_option maxRecDepth 100000 in
set_option maxHeartbeats 400000 in
theorem w_worstCross {la : Launch} {G : zG} {X : (Nat → Prop) → State → Prop} (hX : zX X) (h4 : zT4 X) (hfl : la.stackTraces = false) (h5 : zT5 X) {L Lc : List Nat} {f : Nat → va_E} {o aL : Nat} {μ : zMu}  {φ : Nat → Int64} (hC : CSx G Lc f o μ) (hs : ∀ a ∈ Lc, a ∈ L) (hnd : Lc.Nodup) (hA : zLA G L f aL φ) (hna : aL ∉ Lc)   : zM la G X yL_worstCross (.codeWith yL_worstCross cL_worstCross 3 (some .int) [(0, 8, 11, 34)] :: zT) 9 8 48 [.ref o, .ref aL] L f zeI (zWQ G L Lc f o aL zov (o_worst μ)) := by
  refine zMW_intro hX (by decide) (Nat.le_of_ble_eq_true rfl) (fun pZ eZ sZ mZ aZ bZ hZ cZ AZ C ht => ?_)
  obtain ⟨ω, hR, hI, hK⟩ := hC
  change ZW G pZ la eZ (zRm 9 8 48) sZ mZ aZ bZ hZ cZ AZ 3 0 0 _ L f 0 [(0, .ref o), (1, .ref aL)] []
  refine z_aload_n C 1 dL_worstCross_0 rfl ?_
  refine z_iconst C dL_worstCross_1 ?_
  refine z_aload_n C 0 dL_worstCross_2 rfl ?_
  refine z_cVXs (As := []) C hs hnd zc_X6_worstCross (c_worstCross hX h4 hfl hR   hI hK ) zl_4_217 ⟨Nat.le_of_ble_eq_true rfl, Nat.le_of_ble_eq_true rfl⟩ (Nat.le_of_ble_eq_true rfl) (Nat.le_of_ble_eq_true rfl) hR.ob.1 hR.ob.2 rfl rfl rfl rfl (Nat.le_of_ble_eq_true rfl) dL_worstCross_3 (fun E Ls1 f1 L2 f2 hx hm => ?_) (fun z Ls1 f1 L2 f2 hr hm => ?_)
  · obtain ⟨h1, he, hc9⟩ := hx
    obtain ⟨e1, rfl⟩ := zes1 h1 he
    refine z_catch C h4 h5 ht [] ⟨0, 8, 11, 34⟩ [] rfl (fun _ h => absurd h List.not_mem_nil) (by decide) (by decide) zl_3_87 (List.mem_of_getElem? (i := 5) rfl) (fun q => ?_)
    change ZW G pZ la eZ (zRm 9 8 48) sZ mZ aZ bZ hZ cZ AZ 3 8 48 _ L2 f2 11 [(0, .ref o), (1, .ref aL)] [.ref q]
    refine z_astore_n (ls' := [(2, .ref q), (0, .ref o), (1, .ref aL)]) C dL_worstCross_11 (Nat.le_of_ble_eq_true rfl) rfl ?_
    refine z_iconst C dL_worstCross_12 ?_
    exact z_ireturn C dL_worstCross_13 (Nat.le_of_ble_eq_true rfl) (Nat.le_of_ble_eq_true rfl) (zWQ_x hA hna hm hc9 e1 ⟨by decide, by decide⟩)
  · skip
    obtain ⟨h0, hz, hc9⟩ := hr
    have hA2 := zLA_m hA hna hm
    change ZW G pZ la eZ (zRm 9 8 48) sZ mZ aZ bZ hZ cZ AZ 3 8 48 _ L2 f2 6 [(0, .ref o), (1, .ref aL)] [.int (iI z), .int (iI 0), .ref aL]
    refine z_i2lR C dL_worstCross_6 ?_
    refine z_last C hA2 dL_worstCross_7 (fun f3 φ3 hA3 hφ3 hk3 => ?_)
    change ZW G pZ la eZ (zRm 9 8 48) sZ mZ aZ bZ hZ cZ AZ 3 8 48 _ L2 f3 8 [(0, .ref o), (1, .ref aL)] []
    refine z_goto C 14 dL_worstCross_8 (by decide) ?_
    refine z_iconst C dL_worstCross_14 ?_
    exact z_ireturn C dL_worstCross_15 (Nat.le_of_ble_eq_true rfl) (Nat.le_of_ble_eq_true rfl) (zWQ_n hA hna hm hc9 h0 hA3 hk3 (by rw [hφ3, hz]))

theorem zcw_hours : zcSW yL_hours cL_hours 4 (some .int) [(0, 9, 12, 13)] 3 := ⟨zl_4_227, zl_4_226, zl_1_0, ⟨by decide +kernel, by decide +kernel, by decide +kernel⟩, by decide⟩
set_option maxRecDepth 100000 in
set_option maxHeartbeats 400000 in
theorem w_hours {la : Launch} {G : zG} {X : (Nat → Prop) → State → Prop} (hX : zX X) (h4 : zT4 X) (hfl : la.stackTraces = false) (h5 : zT5 X) {L Lc : List Nat} {f : Nat → va_E} {o aL : Nat} {μ : zMu}  {φ : Nat → Int64} (hC : CSx G Lc f o μ) (hs : ∀ a ∈ Lc, a ∈ L) (hnd : Lc.Nodup) (hA : zLA G L f aL φ) (hna : aL ∉ Lc) (d : Int) (hd : zR d) : zM la G X yL_hours (.codeWith yL_hours cL_hours 4 (some .int) [(0, 9, 12, 13)] :: zT) 9 8 48 [.ref o, .int (iI d), .ref aL] L f zeI (zWQ G L Lc f o aL zov (o_hours μ d)) := by
  refine zMW_intro hX (by decide) (Nat.le_of_ble_eq_true rfl) (fun pZ eZ sZ mZ aZ bZ hZ cZ AZ C ht => ?_)
  obtain ⟨ω, hR, hI, hK⟩ := hC
  change ZW G pZ la eZ (zRm 9 8 48) sZ mZ aZ bZ hZ cZ AZ 4 0 0 _ L f 0 [(0, .ref o), (1, .int (iI d)), (2, .ref aL)] []
  refine z_aload_n C 2 dL_hours_0 rfl ?_
  refine z_iconst C dL_hours_1 ?_
  refine z_aload_n C 0 dL_hours_2 rfl ?_
  refine z_iload_n C 1 dL_hours_3 rfl ?_
  refine z_cVXs (As := [.int (iI d)]) C hs hnd zc_X6_hours (c_hours hX h4 hfl hR  d hI hK (by omega)) zl_4_228 ⟨Nat.le_of_ble_eq_true rfl, Nat.le_of_ble_eq_true rfl⟩ (Nat.le_of_ble_eq_true rfl) (Nat.le_of_ble_eq_true rfl) hR.ob.1 hR.ob.2 rfl rfl rfl rfl (Nat.le_of_ble_eq_true rfl) dL_hours_4 (fun E Ls1 f1 L2 f2 hx hm => ?_) (fun z Ls1 f1 L2 f2 hr hm => ?_)
  · obtain ⟨h1, he, hc9⟩ := hx
    obtain ⟨e1, rfl⟩ := zes1 h1 he
    refine z_catch C h4 h5 ht [] ⟨0, 9, 12, 13⟩ [] rfl (fun _ h => absurd h List.not_mem_nil) (by decide) (by decide) zl_2_118 (List.mem_of_getElem? (i := 3) rfl) (fun q => ?_)
    change ZW G pZ la eZ (zRm 9 8 48) sZ mZ aZ bZ hZ cZ AZ 4 8 48 _ L2 f2 12 [(0, .ref o), (1, .int (iI d)), (2, .ref aL)] [.ref q]
    refine z_astore_n (ls' := [(3, .ref q), (0, .ref o), (1, .int (iI d)), (2, .ref aL)]) C dL_hours_12 (Nat.le_of_ble_eq_true rfl) rfl ?_
    refine z_iconst C dL_hours_13 ?_
    exact z_ireturn C dL_hours_14 (Nat.le_of_ble_eq_true rfl) (Nat.le_of_ble_eq_true rfl) (zWQ_x hA hna hm hc9 e1 ⟨by decide, by decide⟩)
  · skip
    obtain ⟨h0, hz, hc9⟩ := hr
    have hA2 := zLA_m hA hna hm
    change ZW G pZ la eZ (zRm 9 8 48) sZ mZ aZ bZ hZ cZ AZ 4 8 48 _ L2 f2 7 [(0, .ref o), (1, .int (iI d)), (2, .ref aL)] [.int (iI z), .int (iI 0), .ref aL]
    refine z_i2lR C dL_hours_7 ?_
    refine z_last C hA2 dL_hours_8 (fun f3 φ3 hA3 hφ3 hk3 => ?_)
    change ZW G pZ la eZ (zRm 9 8 48) sZ mZ aZ bZ hZ cZ AZ 4 8 48 _ L2 f3 9 [(0, .ref o), (1, .int (iI d)), (2, .ref aL)] []
    refine z_goto C 15 dL_hours_9 (by decide) ?_
    refine z_iconst C dL_hours_15 ?_
    exact z_ireturn C dL_hours_16 (Nat.le_of_ble_eq_true rfl) (Nat.le_of_ble_eq_true rfl) (zWQ_n hA hna hm hc9 h0 hA3 hk3 (by rw [hφ3, hz]))

theorem zcw_writeLine : zcSW yL_writeLine cL_writeLine 4 (some .int) [(0, 9, 12, 42)] 3 := ⟨zl_5_22, zl_5_21, zl_1_0, ⟨by decide +kernel, by decide +kernel, by decide +kernel⟩, by decide⟩
set_option maxRecDepth 100000 in
set_option maxHeartbeats 400000 in
theorem w_writeLine {la : Launch} {G : zG} {X : (Nat → Prop) → State → Prop} (hX : zX X) (h4 : zT4 X) (hfl : la.stackTraces = false) (h5 : zT5 X) {L Lc : List Nat} {f : Nat → va_E} {o aL : Nat} {μ : zMu} {ax : Nat → Nat × Nat} (hT : zT1 X ax) (hP : zT3 X) {φ : Nat → Int64} (hC : CSx G Lc f o μ) (hs : ∀ a ∈ Lc, a ∈ L) (hnd : Lc.Nodup) (hA : zLA G L f aL φ) (hna : aL ∉ Lc) (l : Int) (hl : zR l) : zM la G X yL_writeLine (.codeWith yL_writeLine cL_writeLine 4 (some .int) [(0, 9, 12, 42)] :: zT) 9 16 480 [.ref o, .int (iI l), .ref aL] L f zeI (zWQ G L Lc f o aL zov (o_writeLine μ l)) := by
  refine zMW_intro hX (by decide) (Nat.le_of_ble_eq_true rfl) (fun pZ eZ sZ mZ aZ bZ hZ cZ AZ C ht => ?_)
  obtain ⟨ω, hR, hI, hK⟩ := hC
  change ZW G pZ la eZ (zRm 9 16 480) sZ mZ aZ bZ hZ cZ AZ 4 0 0 _ L f 0 [(0, .ref o), (1, .int (iI l)), (2, .ref aL)] []
  refine z_aload_n C 2 dL_writeLine_0 rfl ?_
  refine z_iconst C dL_writeLine_1 ?_
  refine z_aload_n C 0 dL_writeLine_2 rfl ?_
  refine z_iload_n C 1 dL_writeLine_3 rfl ?_
  refine z_cVXs (As := [.int (iI l)]) C hs hnd zc_X6_writeLine (c_writeLine hX h4 hfl hR hT hP l hI hK (by omega)) zl_5_23 ⟨Nat.le_of_ble_eq_true rfl, Nat.le_of_ble_eq_true rfl⟩ (Nat.le_of_ble_eq_true rfl) (Nat.le_of_ble_eq_true rfl) hR.ob.1 hR.ob.2 rfl rfl rfl rfl (Nat.le_of_ble_eq_true rfl) dL_writeLine_4 (fun E Ls1 f1 L2 f2 hx hm => ?_) (fun z Ls1 f1 L2 f2 hr hm => ?_)
  · obtain ⟨h1, he, hc9⟩ := hx
    obtain ⟨e1, rfl⟩ := zes1 h1 he
    refine z_catch C h4 h5 ht [] ⟨0, 9, 12, 42⟩ [] rfl (fun _ h => absurd h List.not_mem_nil) (by decide) (by decide) zl_3_153 (List.mem_of_getElem? (i := 7) rfl) (fun q => ?_)
    change ZW G pZ la eZ (zRm 9 16 480) sZ mZ aZ bZ hZ cZ AZ 4 16 480 _ L2 f2 12 [(0, .ref o), (1, .int (iI l)), (2, .ref aL)] [.ref q]
    refine z_astore_n (ls' := [(3, .ref q), (0, .ref o), (1, .int (iI l)), (2, .ref aL)]) C dL_writeLine_12 (Nat.le_of_ble_eq_true rfl) rfl ?_
    refine z_iconst C dL_writeLine_13 ?_
    exact z_ireturn C dL_writeLine_14 (Nat.le_of_ble_eq_true rfl) (Nat.le_of_ble_eq_true rfl) (zWQ_x hA hna hm hc9 e1 ⟨by decide, by decide⟩)
  · skip
    obtain ⟨h0, hz, hc9⟩ := hr
    have hA2 := zLA_m hA hna hm
    change ZW G pZ la eZ (zRm 9 16 480) sZ mZ aZ bZ hZ cZ AZ 4 16 480 _ L2 f2 7 [(0, .ref o), (1, .int (iI l)), (2, .ref aL)] [.int (iI z), .int (iI 0), .ref aL]
    refine z_i2lR C dL_writeLine_7 ?_
    refine z_last C hA2 dL_writeLine_8 (fun f3 φ3 hA3 hφ3 hk3 => ?_)
    change ZW G pZ la eZ (zRm 9 16 480) sZ mZ aZ bZ hZ cZ AZ 4 16 480 _ L2 f3 9 [(0, .ref o), (1, .int (iI l)), (2, .ref aL)] []
    refine z_goto C 15 dL_writeLine_9 (by decide) ?_
    refine z_iconst C dL_writeLine_15 ?_
    exact z_ireturn C dL_writeLine_16 (Nat.le_of_ble_eq_true rfl) (Nat.le_of_ble_eq_true rfl) (zWQ_n hA hna hm hc9 h0 hA3 hk3 (by rw [hφ3, hz]))

theorem zcw_textAt : zcSW yL_textAt cL_textAt 4 (some .int) [(0, 9, 12, 13)] 3 := ⟨zl_6_76, zl_6_75, zl_1_0, ⟨by decide +kernel, by decide +kernel, by decide +kernel⟩, by decide⟩
set_option maxRecDepth 100000 in
set_option maxHeartbeats 400000 in
theorem w_textAt {la : Launch} {G : zG} {X : (Nat → Prop) → State → Prop} (hX : zX X) (h4 : zT4 X) (hfl : la.stackTraces = false) (h5 : zT5 X) {L Lc : List Nat} {f : Nat → va_E} {o aL : Nat} {μ : zMu} {ax : Nat → Nat × Nat} (hT : zT1 X ax) {φ : Nat → Int64} (hC : CSx G Lc f o μ) (hs : ∀ a ∈ Lc, a ∈ L) (hnd : Lc.Nodup) (hA : zLA G L f aL φ) (hna : aL ∉ Lc) (i : Int) (hi : zR i) : zM la G X yL_textAt (.codeWith yL_textAt cL_textAt 4 (some .int) [(0, 9, 12, 13)] :: zT) 9 8 48 [.ref o, .int (iI i), .ref aL] L f zeI (zWQ G L Lc f o aL zov (o_textAt μ i)) := by
  refine zMW_intro hX (by decide) (Nat.le_of_ble_eq_true rfl) (fun pZ eZ sZ mZ aZ bZ hZ cZ AZ C ht => ?_)
  obtain ⟨ω, hR, hI, hK⟩ := hC
  change ZW G pZ la eZ (zRm 9 8 48) sZ mZ aZ bZ hZ cZ AZ 4 0 0 _ L f 0 [(0, .ref o), (1, .int (iI i)), (2, .ref aL)] []
  refine z_aload_n C 2 dL_textAt_0 rfl ?_
  refine z_iconst C dL_textAt_1 ?_
  refine z_aload_n C 0 dL_textAt_2 rfl ?_
  refine z_iload_n C 1 dL_textAt_3 rfl ?_
  refine z_cVXs (As := [.int (iI i)]) C hs hnd zc_X6_textAt (c_textAt hX h4 hfl hR hT i hI hK (by omega)) zl_6_77 ⟨Nat.le_of_ble_eq_true rfl, Nat.le_of_ble_eq_true rfl⟩ (Nat.le_of_ble_eq_true rfl) (Nat.le_of_ble_eq_true rfl) hR.ob.1 hR.ob.2 rfl rfl rfl rfl (Nat.le_of_ble_eq_true rfl) dL_textAt_4 (fun E Ls1 f1 L2 f2 hx hm => ?_) (fun z Ls1 f1 L2 f2 hr hm => ?_)
  · obtain ⟨h1, he, hc9⟩ := hx
    obtain ⟨e1, rfl⟩ := zes1 h1 he
    refine z_catch C h4 h5 ht [] ⟨0, 9, 12, 13⟩ [] rfl (fun _ h => absurd h List.not_mem_nil) (by decide) (by decide) zl_2_118 (List.mem_of_getElem? (i := 3) rfl) (fun q => ?_)
    change ZW G pZ la eZ (zRm 9 8 48) sZ mZ aZ bZ hZ cZ AZ 4 8 48 _ L2 f2 12 [(0, .ref o), (1, .int (iI i)), (2, .ref aL)] [.ref q]
    refine z_astore_n (ls' := [(3, .ref q), (0, .ref o), (1, .int (iI i)), (2, .ref aL)]) C dL_textAt_12 (Nat.le_of_ble_eq_true rfl) rfl ?_
    refine z_iconst C dL_textAt_13 ?_
    exact z_ireturn C dL_textAt_14 (Nat.le_of_ble_eq_true rfl) (Nat.le_of_ble_eq_true rfl) (zWQ_x hA hna hm hc9 e1 ⟨by decide, by decide⟩)
  · skip
    obtain ⟨h0, hz, hc9⟩ := hr
    have hA2 := zLA_m hA hna hm
    change ZW G pZ la eZ (zRm 9 8 48) sZ mZ aZ bZ hZ cZ AZ 4 8 48 _ L2 f2 7 [(0, .ref o), (1, .int (iI i)), (2, .ref aL)] [.int (iI z), .int (iI 0), .ref aL]
    refine z_i2lR C dL_textAt_7 ?_
    refine z_last C hA2 dL_textAt_8 (fun f3 φ3 hA3 hφ3 hk3 => ?_)
    change ZW G pZ la eZ (zRm 9 8 48) sZ mZ aZ bZ hZ cZ AZ 4 8 48 _ L2 f3 9 [(0, .ref o), (1, .int (iI i)), (2, .ref aL)] []
    refine z_goto C 15 dL_textAt_9 (by decide) ?_
    refine z_iconst C dL_textAt_15 ?_
    exact z_ireturn C dL_textAt_16 (Nat.le_of_ble_eq_true rfl) (Nat.le_of_ble_eq_true rfl) (zWQ_n hA hna hm hc9 h0 hA3 hk3 (by rw [hφ3, hz]))

theorem zcw_isSpike : zcSW yL_isSpike cL_isSpike 6 (some .int) [(0, 19, 22, 42), (0, 19, 26, 13)] 5 := ⟨zl_4_119, zl_4_118, zl_1_0, ⟨by decide +kernel, by decide +kernel, by decide +kernel⟩, by decide⟩
set_option maxRecDepth 100000 in
set_option maxHeartbeats 400000 in
theorem w_isSpike {la : Launch} {G : zG} {X : (Nat → Prop) → State → Prop} (hX : zX X) (h4 : zT4 X) (hfl : la.stackTraces = false) (h5 : zT5 X) {L Lc : List Nat} {f : Nat → va_E} {o aL : Nat} {μ : zMu}  {φ : Nat → Int64} (hC : CSx G Lc f o μ) (hs : ∀ a ∈ Lc, a ∈ L) (hnd : Lc.Nodup) (hA : zLA G L f aL φ) (hna : aL ∉ Lc) (l k t : Int) (hl : zR l) (hk : zR k) (ht : zR t) : zM la G X yL_isSpike (.codeWith yL_isSpike cL_isSpike 6 (some .int) [(0, 19, 22, 42), (0, 19, 26, 13)] :: zT) 9 8 48 [.ref o, .int (iI l), .int (iI k), .int (iI t), .ref aL] L f zeI (zWQ G L Lc f o aL zovB (o_isSpike μ l k t)) := by
  refine zMW_intro hX (by decide) (Nat.le_of_ble_eq_true rfl) (fun pZ eZ sZ mZ aZ bZ hZ cZ AZ C ht => ?_)
  obtain ⟨ω, hR, hI, hK⟩ := hC
  change ZW G pZ la eZ (zRm 9 8 48) sZ mZ aZ bZ hZ cZ AZ 6 0 0 _ L f 0 [(0, .ref o), (1, .int (iI l)), (2, .int (iI k)), (3, .int (iI t)), (4, .ref aL)] []
  refine z_aload C 4 dL_isSpike_0 rfl ?_
  refine z_iconst C dL_isSpike_2 ?_
  refine z_aload_n C 0 dL_isSpike_3 rfl ?_
  refine z_iload_n C 1 dL_isSpike_4 rfl ?_
  refine z_iload_n C 2 dL_isSpike_5 rfl ?_
  refine z_iload_n C 3 dL_isSpike_6 rfl ?_
  refine z_cVXs (As := [.int (iI l), .int (iI k), .int (iI t)]) C hs hnd zc_X6_isSpike (c_isSpike hX h4 hfl hR  l k t hI hK (by omega) (by omega) (by omega)) zl_4_120 ⟨Nat.le_of_ble_eq_true rfl, Nat.le_of_ble_eq_true rfl⟩ (Nat.le_of_ble_eq_true rfl) (Nat.le_of_ble_eq_true rfl) hR.ob.1 hR.ob.2 rfl rfl rfl rfl (Nat.le_of_ble_eq_true rfl) dL_isSpike_7 (fun E Ls1 f1 L2 f2 hx hm => ?_) (fun z Ls1 f1 L2 f2 hr hm => ?_)
  · obtain ⟨h1, he, hc9⟩ := hx
    rcases zes2 h1 he with ⟨e1, rfl⟩ | ⟨e1, rfl⟩
    · skip
      refine z_catch C h4 h5 ht [] ⟨0, 19, 22, 42⟩ [⟨0, 19, 26, 13⟩] rfl (fun _ h => absurd h List.not_mem_nil) (by decide) (by decide) zl_3_153 (List.mem_of_getElem? (i := 7) rfl) (fun q => ?_)
      change ZW G pZ la eZ (zRm 9 8 48) sZ mZ aZ bZ hZ cZ AZ 6 8 48 _ L2 f2 22 [(0, .ref o), (1, .int (iI l)), (2, .int (iI k)), (3, .int (iI t)), (4, .ref aL)] [.ref q]
      refine z_astore (ls' := [(5, .ref q), (0, .ref o), (1, .int (iI l)), (2, .int (iI k)), (3, .int (iI t)), (4, .ref aL)]) C dL_isSpike_22 (Nat.le_of_ble_eq_true rfl) rfl ?_
      refine z_iconst C dL_isSpike_24 ?_
      exact z_ireturn C dL_isSpike_25 (Nat.le_of_ble_eq_true rfl) (Nat.le_of_ble_eq_true rfl) (zWQ_x hA hna hm hc9 e1 ⟨by decide, by decide⟩)
    · skip
      refine z_catch C h4 h5 ht [⟨0, 19, 22, 42⟩] ⟨0, 19, 26, 13⟩ [] rfl (List.forall_mem_cons.mpr ⟨⟨by decide, _, zl_3_153, by decide +kernel⟩, (fun _ h => absurd h List.not_mem_nil)⟩) (by decide) (by decide) zl_2_118 (List.mem_of_getElem? (i := 3) rfl) (fun q => ?_)
      change ZW G pZ la eZ (zRm 9 8 48) sZ mZ aZ bZ hZ cZ AZ 6 8 48 _ L2 f2 26 [(0, .ref o), (1, .int (iI l)), (2, .int (iI k)), (3, .int (iI t)), (4, .ref aL)] [.ref q]
      refine z_astore (ls' := [(5, .ref q), (0, .ref o), (1, .int (iI l)), (2, .int (iI k)), (3, .int (iI t)), (4, .ref aL)]) C dL_isSpike_26 (Nat.le_of_ble_eq_true rfl) rfl ?_
      refine z_iconst C dL_isSpike_28 ?_
      exact z_ireturn C dL_isSpike_29 (Nat.le_of_ble_eq_true rfl) (Nat.le_of_ble_eq_true rfl) (zWQ_x hA hna hm hc9 e1 ⟨by decide, by decide⟩)
  · skip
    obtain ⟨h0, hz, hc9⟩ := hr
    have hA2 := zLA_m hA hna hm
    change ZW G pZ la eZ (zRm 9 8 48) sZ mZ aZ bZ hZ cZ AZ 6 8 48 _ L2 f2 10 [(0, .ref o), (1, .int (iI l)), (2, .int (iI k)), (3, .int (iI t)), (4, .ref aL)] [.int (iI z), .int (iI 0), .ref aL]
    have hzr : zR z := by
      rw [hz]
      unfold o_isSpike
      have hb := bI_rng (spSpike μ l k t)
      split
      · split
        · exact ⟨by show -2147483648 ≤ bI _; omega, by show bI _ < 2147483648; omega⟩
        · exact ⟨by show -2147483648 ≤ (0 : Int); decide, by show (0 : Int) < 2147483648; decide⟩
      · exact ⟨by show -2147483648 ≤ (0 : Int); decide, by show (0 : Int) < 2147483648; decide⟩
    refine z_if_eq C 17 dL_isSpike_10 (by decide) (by omega) (fun h10 => ?_) (fun h10 => ?_)
    · refine z_lconst C dL_isSpike_17 ?_
      refine z_last C hA2 dL_isSpike_18 (fun f3 φ3 hA3 hφ3 hk3 => ?_)
      change ZW G pZ la eZ (zRm 9 8 48) sZ mZ aZ bZ hZ cZ AZ 6 8 48 _ L2 f3 19 [(0, .ref o), (1, .int (iI l)), (2, .int (iI k)), (3, .int (iI t)), (4, .ref aL)] []
      refine z_goto C 30 dL_isSpike_19 (by decide) ?_
      refine z_iconst C dL_isSpike_30 ?_
      exact z_ireturn C dL_isSpike_31 (Nat.le_of_ble_eq_true rfl) (Nat.le_of_ble_eq_true rfl) (zWQ_n hA hna hm hc9 h0 hA3 hk3 (by rw [hφ3, ← hz]; unfold zovB; first | (rw [if_pos (by omega)]; rfl) | (rw [if_neg (by omega)]; rfl)))
    · refine z_lconst C dL_isSpike_13 ?_
      refine z_goto C 18 dL_isSpike_14 (by decide) ?_
      refine z_last C hA2 dL_isSpike_18 (fun f3 φ3 hA3 hφ3 hk3 => ?_)
      change ZW G pZ la eZ (zRm 9 8 48) sZ mZ aZ bZ hZ cZ AZ 6 8 48 _ L2 f3 19 [(0, .ref o), (1, .int (iI l)), (2, .int (iI k)), (3, .int (iI t)), (4, .ref aL)] []
      refine z_goto C 30 dL_isSpike_19 (by decide) ?_
      refine z_iconst C dL_isSpike_30 ?_
      exact z_ireturn C dL_isSpike_31 (Nat.le_of_ble_eq_true rfl) (Nat.le_of_ble_eq_true rfl) (zWQ_n hA hna hm hc9 h0 hA3 hk3 (by rw [hφ3, ← hz]; unfold zovB; first | (rw [if_pos (by omega)]; rfl) | (rw [if_neg (by omega)]; rfl)))

/-- behind the wrapper of meanDepth -/
def zWD (G : zG) (L Lc : List Nat) (f : Nat → va_E) (o aD : Nat) (μ : zMu) : Int → List Nat → (Nat → va_E) → Prop := fun z L' f' => (spCharted μ = 0 ∧ z = 1 ∨ spCharted μ ≠ 0 ∧ z = 0) ∧
  ∃ Lc' : List Nat, (∀ a ∈ Lc', a ∈ L') ∧ Lc'.Nodup ∧ CSx G Lc' f' o μ ∧ (∀ a ∈ L, a ∉ Lc → a ∈ L' ∧ a ∉ Lc' ∧ (a ≠ aD → f' a = f a)) ∧ ∃ φ : Nat → UInt64, zDA G L' f' aD φ ∧ (z = 0 → φ 0 = FP.ddiv (FP.i2d (iI (spSum μ))) (FP.i2d (iI (spCharted μ))))
theorem zDA_m {G : zG} {L Lc Ls L2 : List Nat} {f f1 f2 : Nat → va_E} {aL : Nat} {φ : Nat → UInt64} (hA : zDA G L f aL φ) (hna : aL ∉ Lc) (hm : zMrg L Lc f Ls f1 L2 f2) : zDA G L2 f2 aL φ := ⟨(hm.2.1 aL).mpr (Or.inr ⟨hA.1, hna⟩), by rw [(hm.2.2.2 aL hA.1 hna).2]; exact hA.2⟩
theorem zWD_x {G : zG} {L Lc Ls L2 : List Nat} {f f1 f2 : Nat → va_E} {o aL : Nat} {μ : zMu} {φ : Nat → UInt64} (hA : zDA G L f aL φ) (hna : aL ∉ Lc) (hm : zMrg L Lc f Ls f1 L2 f2) (hc : CSx G Ls f1 o μ) (e : spCharted μ = 0) : zWD G L Lc f o aL μ 1 L2 f2 :=
  ⟨Or.inl ⟨e, rfl⟩, Ls, fun a ha => (hm.2.1 a).mpr (Or.inl ha), hm.1, CSx_e hc hm.2.2.1, fun a ha h => ⟨(hm.2.1 a).mpr (Or.inr ⟨ha, h⟩), (hm.2.2.2 a ha h).1, fun _ => (hm.2.2.2 a ha h).2⟩, φ, zDA_m hA hna hm, fun h0 => absurd h0 (by decide)⟩
theorem zWD_n {G : zG} {L Lc Ls L2 : List Nat} {f f1 f2 f3 : Nat → va_E} {o aL : Nat} {μ : zMu} {φ φ3 : Nat → UInt64} (hA : zDA G L f aL φ) (hna : aL ∉ Lc) (hm : zMrg L Lc f Ls f1 L2 f2) (hc : CSx G Ls f1 o μ) (e : spCharted μ ≠ 0) (hA3 : zDA G L2 f3 aL φ3) (hk : ∀ b, b ≠ aL → f3 b = f2 b) (hφ : φ3 0 = FP.ddiv (FP.i2d (iI (spSum μ))) (FP.i2d (iI (spCharted μ)))) : zWD G L Lc f o aL μ 0 L2 f3 :=
  ⟨Or.inr ⟨e, rfl⟩, Ls, fun a ha => (hm.2.1 a).mpr (Or.inl ha), hm.1, CSx_e hc (fun a ha => by
    rw [hk a (fun z => (hm.2.2.2 aL hA.1 hna).1 (z ▸ ha))]; exact hm.2.2.1 a ha), fun a ha h => ⟨(hm.2.1 a).mpr (Or.inr ⟨ha, h⟩), (hm.2.2.2 a ha h).1, fun hne => by rw [hk a hne]; exact (hm.2.2.2 a ha h).2⟩, φ3, hA3, fun _ => hφ⟩

theorem zcw_meanDepth : zcSW yL_meanDepth cL_meanDepth 3 (some .int) [(0, 7, 10, 111)] 2 := ⟨zl_4_234, zl_4_233, zl_1_0, ⟨by decide +kernel, by decide +kernel, by decide +kernel⟩, by decide⟩
set_option maxRecDepth 100000 in
set_option maxHeartbeats 400000 in
theorem w_meanDepth {la : Launch} {G : zG} {X : (Nat → Prop) → State → Prop} (hX : zX X) (h4 : zT4 X) (hfl : la.stackTraces = false) (h5 : zT5 X) {L Lc : List Nat} {f : Nat → va_E} {o aL : Nat} {μ : zMu} {φ : Nat → UInt64} (hC : CSx G Lc f o μ) (hs : ∀ a ∈ Lc, a ∈ L) (hnd : Lc.Nodup) (hA : zDA G L f aL φ) (hna : aL ∉ Lc)  : zM la G X yL_meanDepth (.codeWith yL_meanDepth cL_meanDepth 3 (some .int) [(0, 7, 10, 111)] :: zT) 9 8 48 [.ref o, .ref aL] L f zeI (zWD G L Lc f o aL μ) := by
  refine zMW_intro hX (by decide) (Nat.le_of_ble_eq_true rfl) (fun pZ eZ sZ mZ aZ bZ hZ cZ AZ C ht => ?_)
  obtain ⟨ω, hR, hI, hK⟩ := hC
  change ZW G pZ la eZ (zRm 9 8 48) sZ mZ aZ bZ hZ cZ AZ 3 0 0 _ L f 0 [(0, .ref o), (1, .ref aL)] []
  refine z_aload_n C 1 dL_meanDepth_0 rfl ?_
  refine z_iconst C dL_meanDepth_1 ?_
  refine z_aload_n C 0 dL_meanDepth_2 rfl ?_
  refine z_cVXs (As := []) C hs hnd zc_X6_meanDepth (c_meanDepth hX h4 hfl hR   hI hK ) zl_5_9 ⟨Nat.le_of_ble_eq_true rfl, Nat.le_of_ble_eq_true rfl⟩ (Nat.le_of_ble_eq_true rfl) (Nat.le_of_ble_eq_true rfl) hR.ob.1 hR.ob.2 rfl rfl rfl rfl (Nat.le_of_ble_eq_true rfl) dL_meanDepth_3 (fun E Ls1 f1 L2 f2 hx hm => ?_) (fun z Ls1 f1 L2 f2 hr hm => ?_)
  · obtain ⟨⟨rfl, e1⟩, hc9⟩ := hx
    refine z_catch C h4 h5 ht [] ⟨0, 7, 10, 111⟩ [] rfl (fun _ h => absurd h List.not_mem_nil) (by decide) (by decide) zl_4_235 (List.mem_of_getElem? (i := 8) rfl) (fun q => ?_)
    change ZW G pZ la eZ (zRm 9 8 48) sZ mZ aZ bZ hZ cZ AZ 3 8 48 _ L2 f2 10 [(0, .ref o), (1, .ref aL)] [.ref q]
    refine z_astore_n (ls' := [(2, .ref q), (0, .ref o), (1, .ref aL)]) C dL_meanDepth_10 (Nat.le_of_ble_eq_true rfl) rfl ?_
    refine z_iconst C dL_meanDepth_11 ?_
    exact z_ireturn C dL_meanDepth_12 (Nat.le_of_ble_eq_true rfl) (Nat.le_of_ble_eq_true rfl) (zWD_x hA hna hm hc9 e1)
  · skip
    obtain ⟨⟨h0, hz⟩, hc9⟩ := hr
    have hA2 := zDA_m hA hna hm
    change ZW G pZ la eZ (zRm 9 8 48) sZ mZ aZ bZ hZ cZ AZ 3 8 48 _ L2 f2 6 [(0, .ref o), (1, .ref aL)] [.double z, .int (iI 0), .ref aL]
    refine z_dast C hA2 dL_meanDepth_6 (fun f3 φ3 hA3 hφ3 hk3 => ?_)
    change ZW G pZ la eZ (zRm 9 8 48) sZ mZ aZ bZ hZ cZ AZ 3 8 48 _ L2 f3 7 [(0, .ref o), (1, .ref aL)] []
    refine z_goto C 13 dL_meanDepth_7 (by decide) ?_
    refine z_iconst C dL_meanDepth_13 ?_
    exact z_ireturn C dL_meanDepth_14 (Nat.le_of_ble_eq_true rfl) (Nat.le_of_ble_eq_true rfl) (zWD_n hA hna hm hc9 h0 hA3 hk3 (by rw [hφ3, hz]))
