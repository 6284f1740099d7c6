theorem zGob_e {L L' : List Nat} {f f' : Nat → va_E} {g p : Nat} (h : zOb L f g 6 [.ref p, .int (iI 0)]) (he : zExt L f L' f') : zOb L' f' g 6 [.ref p, .int (iI 0)] := zOb_e h he
theorem zGob_wO {L : List Nat} {f f' : Nat → va_E} {g p o ci : Nat} {vs : List Value} (h : zOb L f g 6 [.ref p, .int (iI 0)]) (ho : f o = .inr (ci, vs)) (hc : ci ≠ 6) (hk : ∀ c, c ≠ o → f' c = f c) : zOb L f' g 6 [.ref p, .int (iI 0)] := ⟨h.1, by rw [hk _ (zne_c h.2 ho (fun z => hc z.symm))]; exact h.2⟩

set_option maxRecDepth 100000 in
set_option maxHeartbeats 1000000 in
theorem c_init {la : Launch} {G : zG} {X : (Nat → Prop) → State → Prop} (hX : zX X) {L : List Nat} {f : Nat → va_E} {o : Nat} (ho : zOb L f o 10 [.null, .null, .null, .int 0, .null, .null]) {ax : Nat → Nat × Nat} (hT : zT1 X ax) (hO : zT2 X)  : zM la G X yX6_init (.code yX6_init cX6_init 1 none :: zT) 4 24 900 [.ref o] L f zeV (fun _ L' f' => CSx G L' f' o zMuS ∧ zFr L f L' f' o) := by
  refine zM_intro hX (by decide) (Nat.le_of_ble_eq_true rfl) (fun pZ eZ sZ mZ aZ bZ hZ cZ AZ C hini => ?_)
  change ZW G pZ la eZ (zRm 4 24 900) sZ mZ aZ bZ hZ cZ AZ 1 0 0 _ L f 0 [(0, .ref o)] []
  have hfr0 := zFr_r L f o
  refine z_aload_n C 0 dX6_init_0 rfl ?_
  refine z_objInit C zl_1_37 (Nat.le_of_ble_eq_true rfl) (Nat.le_of_ble_eq_true rfl) dX6_init_1 ?_
  refine z_aload_n C 0 dX6_init_4 rfl ?_
  refine z_newG (ci := 9) (fs := [.null, .null, .null, .null]) C zin_X5 tyX5_ok zl_1_40 zl_1_41 zl_1_2 rfl (by decide) (Nat.le_of_ble_eq_true rfl) (Nat.le_of_ble_eq_true rfl) dX6_init_5 (fun q1 L2 f3 hq4 hL5 hob6 hk7 => ?_)
  change ZW G pZ la eZ (zRm 4 24 900) sZ mZ aZ bZ hZ cZ AZ 1 1 4 _ L2 f3 8 [(0, .ref o)] [.ref q1, .ref o]
  refine z_dup C dX6_init_8 rfl ?_
  refine z_cIN (As := []) C zc_X5_init (c_newSea hX hob6) zn_9_RX6 (Nat.le_of_ble_eq_true rfl) (Nat.le_of_ble_eq_true rfl) (Nat.le_of_ble_eq_true rfl) rfl rfl (Nat.le_of_ble_eq_true rfl) dX6_init_9 (fun z11 L12 f13 hz14 => ?_)
  obtain ⟨xr, xa, hSe, hxn, hxd, hF8⟩ := hz14
  have hE9 := zExt_new hq4 hL5 hk7 hF8
  have he10 := zExt_q hq4 hL5 hk7
  have ho15 := zOb_e ho hE9
  have hfr16 := zFr_e hfr0 hE9
  change ZW G pZ la eZ (zRm 4 24 900) sZ mZ aZ bZ hZ cZ AZ 1 9 512 _ L12 f13 12 [(0, .ref o)] [.ref q1, .ref o]
  refine z_putGF C (hini rfl) 0 zin_X6 tyX6_ok nmX6 ho15.1 ho15.2 rfl (Nat.le_of_ble_eq_true rfl) zl_1_139 rfl rfl rfl rfl rfl rfl (Nat.le_of_ble_eq_true rfl) dX6_init_12 (fun f17 hf18 hk19 => ?_)
  have hp20 := zSea_wO hSe ho15.2 (by decide) (by decide) hk19
  have ho21 : zOb L12 f17 o 10 [.ref q1, .null, .null, .int 0, .null, .null] := ⟨ho15.1, hf18⟩
  have hfr22 := zFr_o hfr16 hk19
  refine z_aload_n C 0 dX6_init_15 rfl ?_
  refine z_newG (ci := 6) (fs := [.null, .int 0]) C zin_X2 tyX2_ok zl_1_76 zl_1_77 zl_1_5 rfl (by decide) (Nat.le_of_ble_eq_true rfl) (Nat.le_of_ble_eq_true rfl) dX6_init_16 (fun q23 L24 f25 hq26 hL27 hob28 hk29 => ?_)
  change ZW G pZ la eZ (zRm 4 24 900) sZ mZ aZ bZ hZ cZ AZ 1 10 514 _ L24 f25 19 [(0, .ref o)] [.ref q23, .ref o]
  refine z_dup C dX6_init_19 rfl ?_
  refine z_cIN (As := []) C zc_X2_init (c_newGauges hX hob28 hO) zn_18_RX6 (Nat.le_of_ble_eq_true rfl) (Nat.le_of_ble_eq_true rfl) (Nat.le_of_ble_eq_true rfl) rfl rfl (Nat.le_of_ble_eq_true rfl) dX6_init_20 (fun z33 L34 f35 hz36 => ?_)
  obtain ⟨pg, hGo, hGp, hF30⟩ := hz36
  have hE31 := zExt_new hq26 hL27 hk29 hF30
  have he32 := zExt_q hq26 hL27 hk29
  have ho37 := zOb_e ho21 hE31
  have hfr38 := zFr_e hfr22 hE31
  have hp39 := zSea_e hp20 hE31
  change ZW G pZ la eZ (zRm 4 24 900) sZ mZ aZ bZ hZ cZ AZ 1 11 517 _ L34 f35 23 [(0, .ref o)] [.ref q23, .ref o]
  refine z_putGF C (hini rfl) 1 zin_X6 tyX6_ok nmX6 ho37.1 ho37.2 rfl (Nat.le_of_ble_eq_true rfl) zl_1_140 rfl rfl rfl rfl rfl rfl (Nat.le_of_ble_eq_true rfl) dX6_init_23 (fun f40 hf41 hk42 => ?_)
  have hp43 := zSea_wO hp39 ho37.2 (by decide) (by decide) hk42
  have hp44 := zGob_wO hGo ho37.2 (by decide) hk42
  have hp45 := zP_wO hGp ho37.2 hk42
  have ho46 : zOb L34 f40 o 10 [.ref q1, .ref q23, .null, .int 0, .null, .null] := ⟨ho37.1, hf41⟩
  have hfr47 := zFr_o hfr38 hk42
  refine z_aload_n C 0 dX6_init_26 rfl ?_
  refine z_bipush C dX6_init_27 (by decide) ?_
  refine z_newq (t := 7) C 16 (hO _ _ C.x).2 rfl zl_1_91 rfl (Nat.le_of_ble_eq_true rfl) (Nat.le_of_ble_eq_true rfl) (Nat.le_of_ble_eq_true rfl) (Nat.le_of_ble_eq_true rfl) dX6_init_29 (fun q48 L49 f50 hq51 hL52 hp53 hk54 => ?_)
  have hpls : pg ≠ q48 := fun z => hq51 (z ▸ hp45.1)
  have hE55 := zExt_q hq51 hL52 hk54
  have ho56 := zOb_e ho46 hE55
  have hfr57 := zFr_e hfr47 hE55
  have hp58 := zSea_e hp43 hE55
  have hp59 := zGob_e hp44 hE55
  have hp60 := zP_e hp45 hE55
  change ZW G pZ la eZ (zRm 4 24 900) sZ mZ aZ bZ hZ cZ AZ 1 12 533 _ L49 f50 32 [(0, .ref o)] [.ref q48, .ref o]
  refine z_putGF C (hini rfl) 2 zin_X6 tyX6_ok nmX6 ho56.1 ho56.2 rfl (Nat.le_of_ble_eq_true rfl) zl_1_141 rfl rfl rfl rfl rfl rfl (Nat.le_of_ble_eq_true rfl) dX6_init_32 (fun f61 hf62 hk63 => ?_)
  have hp64 := zSea_wO hp58 ho56.2 (by decide) (by decide) hk63
  have hp65 := zGob_wO hp59 ho56.2 (by decide) hk63
  have hp66 := zP_wO hp60 ho56.2 hk63
  have hp67 := zP_wO hp53 ho56.2 hk63
  have ho68 : zOb L49 f61 o 10 [.ref q1, .ref q23, .ref q48, .int 0, .null, .null] := ⟨ho56.1, hf62⟩
  have hfr69 := zFr_o hfr57 hk63
  refine z_aload_n C 0 dX6_init_35 rfl ?_
  refine z_iconst C dX6_init_36 ?_
  refine z_putG C 3 zin_X6 tyX6_ok nmX6 ho68.1 ho68.2 rfl (Nat.le_of_ble_eq_true rfl) zl_1_142 rfl rfl rfl rfl rfl (Nat.le_of_ble_eq_true rfl) dX6_init_37 (fun f70 hf71 hk72 => ?_)
  have hp73 := zSea_wO hp64 ho68.2 (by decide) (by decide) hk72
  have hp74 := zGob_wO hp65 ho68.2 (by decide) hk72
  have hp75 := zP_wO hp66 ho68.2 hk72
  have hp76 := zP_wO hp67 ho68.2 hk72
  have ho77 : zOb L49 f70 o 10 [.ref q1, .ref q23, .ref q48, .int (iI 0), .null, .null] := ⟨ho68.1, hf71⟩
  have hfr78 := zFr_o hfr69 hk72
  refine z_aload_n C 0 dX6_init_40 rfl ?_
  refine z_newG (ci := 4) (fs := [.null]) C zin_X0 tyX0_ok zl_1_93 zl_1_94 zl_1_6 rfl (by decide) (Nat.le_of_ble_eq_true rfl) (Nat.le_of_ble_eq_true rfl) dX6_init_41 (fun q79 L80 f81 hq82 hL83 hob84 hk85 => ?_)
  change ZW G pZ la eZ (zRm 4 24 900) sZ mZ aZ bZ hZ cZ AZ 1 13 534 _ L80 f81 44 [(0, .ref o)] [.ref q79, .ref o]
  refine z_dup C dX6_init_44 rfl ?_
  refine z_cIN (As := []) C zc_X0_init (c_newChart hX hob84) zn_35_RX6 (Nat.le_of_ble_eq_true rfl) (Nat.le_of_ble_eq_true rfl) (Nat.le_of_ble_eq_true rfl) rfl rfl (Nat.le_of_ble_eq_true rfl) dX6_init_45 (fun z89 L90 f91 hz92 => ?_)
  obtain ⟨rc, ac, hac, hCh, hF86⟩ := hz92
  have hE87 := zExt_new hq82 hL83 hk85 hF86
  have he88 := zExt_q hq82 hL83 hk85
  have hxa : ∀ i, i < 4 → xa i ≠ ac := fun i hi z => hac (z ▸ (he88 _ (zSea_mem hp73 i hi)).1)
  have ho93 := zOb_e ho77 hE87
  have hfr94 := zFr_e hfr78 hE87
  have hp95 := zSea_e hp73 hE87
  have hp96 := zGob_e hp74 hE87
  have hp97 := zP_e hp75 hE87
  have hp98 := zP_e hp76 hE87
  change ZW G pZ la eZ (zRm 4 24 900) sZ mZ aZ bZ hZ cZ AZ 1 15 776 _ L90 f91 48 [(0, .ref o)] [.ref q79, .ref o]
  refine z_putGF C (hini rfl) 4 zin_X6 tyX6_ok nmX6 ho93.1 ho93.2 rfl (Nat.le_of_ble_eq_true rfl) zl_1_143 rfl rfl rfl rfl rfl rfl (Nat.le_of_ble_eq_true rfl) dX6_init_48 (fun f99 hf100 hk101 => ?_)
  have hp102 := zSea_wO hp95 ho93.2 (by decide) (by decide) hk101
  have hp103 := zGob_wO hp96 ho93.2 (by decide) hk101
  have hp104 := zP_wO hp97 ho93.2 hk101
  have hp105 := zP_wO hp98 ho93.2 hk101
  have hp106 := zCh_wO hCh ho93.2 (by decide) (by decide) hk101
  have ho107 : zOb L90 f99 o 10 [.ref q1, .ref q23, .ref q48, .int (iI 0), .ref q79, .null] := ⟨ho93.1, hf100⟩
  have hfr108 := zFr_o hfr94 hk101
  refine z_aload_n C 0 dX6_init_51 rfl ?_
  refine z_newG (ci := 1) (fs := [.null, .int 0, .int 0, .int 0]) C zin_J4 tyJ4_ok zl_1_106 zl_1_107 zl_1_8 rfl (by decide) (Nat.le_of_ble_eq_true rfl) (Nat.le_of_ble_eq_true rfl) dX6_init_52 (fun q109 L110 f111 hq112 hL113 hob114 hk115 => ?_)
  change ZW G pZ la eZ (zRm 4 24 900) sZ mZ aZ bZ hZ cZ AZ 1 16 780 _ L110 f111 55 [(0, .ref o)] [.ref q109, .ref o]
  refine z_dup C dX6_init_55 rfl ?_
  refine z_cI (As := []) C zc_J4_init_da8c8 (c_newSb hX hob114 hT) zl_1_108 (Nat.le_of_ble_eq_true rfl) (Nat.le_of_ble_eq_true rfl) (Nat.le_of_ble_eq_true rfl) rfl rfl (Nat.le_of_ble_eq_true rfl) dX6_init_56 (fun z119 L120 f121 hz122 => ?_)
  obtain ⟨bt, hbt, hSb, hF116⟩ := hz122
  have hE117 := zExt_new hq112 hL113 hk115 hF116
  have he118 := zExt_q hq112 hL113 hk115
  have hxb : ∀ i, i < 4 → xa i ≠ bt := fun i hi z => hbt (z ▸ (he118 _ (zSea_mem hp102 i hi)).1)
  have hab : ac ≠ bt := fun z => hbt (z ▸ (he118 _ hp106.2.2.1).1)
  have ho123 := zOb_e ho107 hE117
  have hfr124 := zFr_e hfr108 hE117
  have hp125 := zSea_e hp102 hE117
  have hp126 := zGob_e hp103 hE117
  have hp127 := zP_e hp104 hE117
  have hp128 := zP_e hp105 hE117
  have hp129 := zCh_e hp106 hE117
  change ZW G pZ la eZ (zRm 4 24 900) sZ mZ aZ bZ hZ cZ AZ 1 17 796 _ L120 f121 59 [(0, .ref o)] [.ref q109, .ref o]
  refine z_putGF C (hini rfl) 5 zin_X6 tyX6_ok nmX6 ho123.1 ho123.2 rfl (Nat.le_of_ble_eq_true rfl) zl_1_144 rfl rfl rfl rfl rfl rfl (Nat.le_of_ble_eq_true rfl) dX6_init_59 (fun f130 hf131 hk132 => ?_)
  have hp133 := zSea_wO hp125 ho123.2 (by decide) (by decide) hk132
  have hp134 := zGob_wO hp126 ho123.2 (by decide) hk132
  have hp135 := zP_wO hp127 ho123.2 hk132
  have hp136 := zP_wO hp128 ho123.2 hk132
  have hp137 := zCh_wO hp129 ho123.2 (by decide) (by decide) hk132
  have hp138 := zSb_wO hSb ho123.2 (by decide) hk132
  have ho139 : zOb L120 f130 o 10 [.ref q1, .ref q23, .ref q48, .int (iI 0), .ref q79, .ref q109] := ⟨ho123.1, hf131⟩
  have hfr140 := zFr_o hfr124 hk132
  exact z_vreturn C dX6_init_62 (Nat.le_of_ble_eq_true rfl) (Nat.le_of_ble_eq_true rfl) ⟨SR_start ho139 hp133 hp134 hp135 hp136 hp137 hp138 hxd hxa hxb hab hpls, hfr140⟩
