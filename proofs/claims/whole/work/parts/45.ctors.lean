theorem zA_wO {G : zG} {t : Nat} {L : List Nat} {f f' : Nat → va_E} {a n : Nat} {σ : Int → Int} (h : zA G t L f a n σ) {o ci : Nat} {vs : List Value} (ho : f o = .inr (ci, vs)) (hk : ∀ c, c ≠ o → f' c = f c) : zA G t L f' a n σ := zA_kept h (fun _ q => q) (hk _ (zne_A ho h).symm)

theorem z4_ne {a b c d : Nat} (h1 : a ≠ b) (h2 : a ≠ c) (h3 : a ≠ d) (h4 : b ≠ c) (h5 : b ≠ d) (h6 : c ≠ d) : ∀ i j, i < 4 → j < 4 → i ≠ j → (fun i => [a, b, c, d].getD i 0) i ≠ (fun i => [a, b, c, d].getD i 0) j := by
  intro i j hi hj hij
  match i, j, hi, hj with
  | 0, 0, _, _ => exact absurd rfl hij
  | 0, 1, _, _ => exact h1
  | 0, 2, _, _ => exact h2
  | 0, 3, _, _ => exact h3
  | 1, 0, _, _ => exact h1.symm
  | 1, 1, _, _ => exact absurd rfl hij
  | 1, 2, _, _ => exact h4
  | 1, 3, _, _ => exact h5
  | 2, 0, _, _ => exact h2.symm
  | 2, 1, _, _ => exact h4.symm
  | 2, 2, _, _ => exact absurd rfl hij
  | 2, 3, _, _ => exact h6
  | 3, 0, _, _ => exact h3.symm
  | 3, 1, _, _ => exact h5.symm
  | 3, 2, _, _ => exact h6.symm
  | 3, 3, _, _ => exact absurd rfl hij

set_option maxRecDepth 100000 in
set_option maxHeartbeats 200000 in
theorem c_row240 {la : Launch} {G : zG} {X : (Nat → Prop) → State → Prop} (hX : zX X) {L : List Nat} {f : Nat → va_E} {o : Nat} (ho : zOb L f o 8 [.null, .int 0]) (b : Int) (hb : zR b) : zM la G X yX4_init (.code yX4_init cX4_init 3 none :: zT) 1 1 240 [.ref o, .int (iI 240), .int (iI b)] L f zeV (fun _ L' f' => ∃ a, a ∉ L ∧ L' = L ++ [a] ∧ zRow G L' f' o a 240 b (fun _ => b) ∧ zFr L f L' f' o) := by
  refine zM_intro hX (by decide) (Nat.le_of_ble_eq_true rfl) (fun pZ eZ sZ mZ aZ bZ hZ cZ AZ C hini => ?_)
  change ZW G pZ la eZ (zRm 1 1 240) sZ mZ aZ bZ hZ cZ AZ 3 0 0 _ L f 0 [(0, .ref o), (1, .int (iI 240)), (2, .int (iI b))] []
  have hfr0 := zFr_r L f o
  
  refine z_aload_n C 0 dX4_init_0 rfl ?_
  refine z_objInit C zl_1_51 (Nat.le_of_ble_eq_true rfl) (Nat.le_of_ble_eq_true rfl) dX4_init_1 ?_
  refine z_aload_n C 0 dX4_init_4 rfl ?_
  refine z_iload_n C 1 dX4_init_5 rfl ?_
  refine z_if_le C 13 dX4_init_6 (by decide) (by omega) (fun h6 => ?_) (fun h6 => ?_)
  · exfalso; omega
  · refine z_iload_n C 1 dX4_init_9 rfl ?_
    refine z_goto C 14 dX4_init_10 (by decide) ?_
    refine z_newa (ty := .int) C 0 240 zl_1_62 rfl rfl rfl (fun U cA h => h) rfl (Nat.le_of_ble_eq_true rfl) (Nat.le_of_ble_eq_true rfl) (Nat.le_of_ble_eq_true rfl) (Nat.le_of_ble_eq_true rfl) dX4_init_14 (fun q1 L2 f3 hq4 hL5 hA6 hk7 => ?_)
    have hE8 := zExt_q hq4 hL5 hk7
    have hqn : q1 ∉ L := zFr_no hfr0 hq4
    have hLn : L2 = L ++ [q1] := hL5
    have ho9 := zOb_e ho hE8
    have hfr10 := zFr_e hfr0 hE8
    change ZW G pZ la eZ (zRm 1 1 240) sZ mZ aZ bZ hZ cZ AZ 3 1 240 _ L2 f3 16 [(0, .ref o), (1, .int (iI 240)), (2, .int (iI b))] [.ref q1, .ref o]
    refine z_putGF C (hini rfl) 0 zin_X4 tyX4_ok nmX4 ho9.1 ho9.2 rfl (Nat.le_of_ble_eq_true rfl) zl_1_55 rfl rfl rfl rfl rfl rfl (Nat.le_of_ble_eq_true rfl) dX4_init_16 (fun f11 hf12 hk13 => ?_)
    have hp14 := zA_wO hA6 ho9.2 hk13
    have ho15 : zOb L2 f11 o 8 [.ref q1, .int 0] := ⟨ho9.1, hf12⟩
    have hfr16 := zFr_o hfr10 hk13
    refine z_aload_n C 0 dX4_init_19 rfl ?_
    refine z_iload_n C 2 dX4_init_20 rfl ?_
    refine z_putGF C (hini rfl) 1 zin_X4 tyX4_ok nmX4 ho15.1 ho15.2 rfl (Nat.le_of_ble_eq_true rfl) zl_1_56 rfl rfl rfl rfl rfl rfl (Nat.le_of_ble_eq_true rfl) dX4_init_21 (fun f17 hf18 hk19 => ?_)
    have hp20 := zA_wO hp14 ho15.2 hk19
    have ho21 : zOb L2 f17 o 8 [.ref q1, .int (iI b)] := ⟨ho15.1, hf18⟩
    have hfr22 := zFr_o hfr16 hk19
    refine z_aload_n C 0 dX4_init_24 rfl ?_
    refine z_getf C 0 zin_X4 (ho21.1) (ho21.2) rfl (Nat.le_of_ble_eq_true rfl) zl_1_55 rfl rfl dX4_init_25 ?_
    refine z_iload_n C 2 dX4_init_28 rfl ?_
    refine z_cS (As := [.ref q1, .int (iI b)]) C zc_J7_fill_53178 (c_fill hX hp20 b (by omega)) zl_1_52 (Nat.le_of_ble_eq_true rfl) (Nat.le_of_ble_eq_true rfl) (Nat.le_of_ble_eq_true rfl) rfl rfl (Nat.le_of_ble_eq_true rfl) dX4_init_29 (fun z25 L26 f27 hz28 => ?_)
    obtain ⟨rfl, hA23, hk24⟩ := hz28
    change ZW G pZ la eZ (zRm 1 1 240) sZ mZ aZ bZ hZ cZ AZ 3 1 240 _ L2 f27 32 [(0, .ref o), (1, .int (iI 240)), (2, .int (iI b))] []
    exact z_vreturn C dX4_init_32 (Nat.le_of_ble_eq_true rfl) (Nat.le_of_ble_eq_true rfl) ⟨_, hqn, hLn, ⟨⟨ho21.1, by rw [hk24 _ (zne_A ho21.2 hp20)]; exact ho21.2⟩, hA23⟩, zFr_a hfr22 hqn hk24⟩

set_option maxRecDepth 100000 in
set_option maxHeartbeats 200000 in
theorem c_row10 {la : Launch} {G : zG} {X : (Nat → Prop) → State → Prop} (hX : zX X) {L : List Nat} {f : Nat → va_E} {o : Nat} (ho : zOb L f o 8 [.null, .int 0]) (b : Int) (hb : zR b) : zM la G X yX4_init (.code yX4_init cX4_init 3 none :: zT) 1 1 10 [.ref o, .int (iI 10), .int (iI b)] L f zeV (fun _ L' f' => ∃ a, a ∉ L ∧ L' = L ++ [a] ∧ zRow G L' f' o a 10 b (fun _ => b) ∧ zFr L f L' f' o) := by
  refine zM_intro hX (by decide) (Nat.le_of_ble_eq_true rfl) (fun pZ eZ sZ mZ aZ bZ hZ cZ AZ C hini => ?_)
  change ZW G pZ la eZ (zRm 1 1 10) sZ mZ aZ bZ hZ cZ AZ 3 0 0 _ L f 0 [(0, .ref o), (1, .int (iI 10)), (2, .int (iI b))] []
  have hfr0 := zFr_r L f o
  
  refine z_aload_n C 0 dX4_init_0 rfl ?_
  refine z_objInit C zl_1_51 (Nat.le_of_ble_eq_true rfl) (Nat.le_of_ble_eq_true rfl) dX4_init_1 ?_
  refine z_aload_n C 0 dX4_init_4 rfl ?_
  refine z_iload_n C 1 dX4_init_5 rfl ?_
  refine z_if_le C 13 dX4_init_6 (by decide) (by omega) (fun h6 => ?_) (fun h6 => ?_)
  · exfalso; omega
  · refine z_iload_n C 1 dX4_init_9 rfl ?_
    refine z_goto C 14 dX4_init_10 (by decide) ?_
    refine z_newa (ty := .int) C 0 10 zl_1_62 rfl rfl rfl (fun U cA h => h) rfl (Nat.le_of_ble_eq_true rfl) (Nat.le_of_ble_eq_true rfl) (Nat.le_of_ble_eq_true rfl) (Nat.le_of_ble_eq_true rfl) dX4_init_14 (fun q1 L2 f3 hq4 hL5 hA6 hk7 => ?_)
    have hE8 := zExt_q hq4 hL5 hk7
    have hqn : q1 ∉ L := zFr_no hfr0 hq4
    have hLn : L2 = L ++ [q1] := hL5
    have ho9 := zOb_e ho hE8
    have hfr10 := zFr_e hfr0 hE8
    change ZW G pZ la eZ (zRm 1 1 10) sZ mZ aZ bZ hZ cZ AZ 3 1 10 _ L2 f3 16 [(0, .ref o), (1, .int (iI 10)), (2, .int (iI b))] [.ref q1, .ref o]
    refine z_putGF C (hini rfl) 0 zin_X4 tyX4_ok nmX4 ho9.1 ho9.2 rfl (Nat.le_of_ble_eq_true rfl) zl_1_55 rfl rfl rfl rfl rfl rfl (Nat.le_of_ble_eq_true rfl) dX4_init_16 (fun f11 hf12 hk13 => ?_)
    have hp14 := zA_wO hA6 ho9.2 hk13
    have ho15 : zOb L2 f11 o 8 [.ref q1, .int 0] := ⟨ho9.1, hf12⟩
    have hfr16 := zFr_o hfr10 hk13
    refine z_aload_n C 0 dX4_init_19 rfl ?_
    refine z_iload_n C 2 dX4_init_20 rfl ?_
    refine z_putGF C (hini rfl) 1 zin_X4 tyX4_ok nmX4 ho15.1 ho15.2 rfl (Nat.le_of_ble_eq_true rfl) zl_1_56 rfl rfl rfl rfl rfl rfl (Nat.le_of_ble_eq_true rfl) dX4_init_21 (fun f17 hf18 hk19 => ?_)
    have hp20 := zA_wO hp14 ho15.2 hk19
    have ho21 : zOb L2 f17 o 8 [.ref q1, .int (iI b)] := ⟨ho15.1, hf18⟩
    have hfr22 := zFr_o hfr16 hk19
    refine z_aload_n C 0 dX4_init_24 rfl ?_
    refine z_getf C 0 zin_X4 (ho21.1) (ho21.2) rfl (Nat.le_of_ble_eq_true rfl) zl_1_55 rfl rfl dX4_init_25 ?_
    refine z_iload_n C 2 dX4_init_28 rfl ?_
    refine z_cS (As := [.ref q1, .int (iI b)]) C zc_J7_fill_53178 (c_fill hX hp20 b (by omega)) zl_1_52 (Nat.le_of_ble_eq_true rfl) (Nat.le_of_ble_eq_true rfl) (Nat.le_of_ble_eq_true rfl) rfl rfl (Nat.le_of_ble_eq_true rfl) dX4_init_29 (fun z25 L26 f27 hz28 => ?_)
    obtain ⟨rfl, hA23, hk24⟩ := hz28
    change ZW G pZ la eZ (zRm 1 1 10) sZ mZ aZ bZ hZ cZ AZ 3 1 10 _ L2 f27 32 [(0, .ref o), (1, .int (iI 10)), (2, .int (iI b))] []
    exact z_vreturn C dX4_init_32 (Nat.le_of_ble_eq_true rfl) (Nat.le_of_ble_eq_true rfl) ⟨_, hqn, hLn, ⟨⟨ho21.1, by rw [hk24 _ (zne_A ho21.2 hp20)]; exact ho21.2⟩, hA23⟩, zFr_a hfr22 hqn hk24⟩

set_option maxRecDepth 100000 in
set_option maxHeartbeats 200000 in
theorem c_row140 {la : Launch} {G : zG} {X : (Nat → Prop) → State → Prop} (hX : zX X) {L : List Nat} {f : Nat → va_E} {o : Nat} (ho : zOb L f o 8 [.null, .int 0]) (b : Int) (hb : zR b) : zM la G X yX4_init (.code yX4_init cX4_init 3 none :: zT) 1 1 140 [.ref o, .int (iI 140), .int (iI b)] L f zeV (fun _ L' f' => ∃ a, a ∉ L ∧ L' = L ++ [a] ∧ zRow G L' f' o a 140 b (fun _ => b) ∧ zFr L f L' f' o) := by
  refine zM_intro hX (by decide) (Nat.le_of_ble_eq_true rfl) (fun pZ eZ sZ mZ aZ bZ hZ cZ AZ C hini => ?_)
  change ZW G pZ la eZ (zRm 1 1 140) sZ mZ aZ bZ hZ cZ AZ 3 0 0 _ L f 0 [(0, .ref o), (1, .int (iI 140)), (2, .int (iI b))] []
  have hfr0 := zFr_r L f o
  
  refine z_aload_n C 0 dX4_init_0 rfl ?_
  refine z_objInit C zl_1_51 (Nat.le_of_ble_eq_true rfl) (Nat.le_of_ble_eq_true rfl) dX4_init_1 ?_
  refine z_aload_n C 0 dX4_init_4 rfl ?_
  refine z_iload_n C 1 dX4_init_5 rfl ?_
  refine z_if_le C 13 dX4_init_6 (by decide) (by omega) (fun h6 => ?_) (fun h6 => ?_)
  · exfalso; omega
  · refine z_iload_n C 1 dX4_init_9 rfl ?_
    refine z_goto C 14 dX4_init_10 (by decide) ?_
    refine z_newa (ty := .int) C 0 140 zl_1_62 rfl rfl rfl (fun U cA h => h) rfl (Nat.le_of_ble_eq_true rfl) (Nat.le_of_ble_eq_true rfl) (Nat.le_of_ble_eq_true rfl) (Nat.le_of_ble_eq_true rfl) dX4_init_14 (fun q1 L2 f3 hq4 hL5 hA6 hk7 => ?_)
    have hE8 := zExt_q hq4 hL5 hk7
    have hqn : q1 ∉ L := zFr_no hfr0 hq4
    have hLn : L2 = L ++ [q1] := hL5
    have ho9 := zOb_e ho hE8
    have hfr10 := zFr_e hfr0 hE8
    change ZW G pZ la eZ (zRm 1 1 140) sZ mZ aZ bZ hZ cZ AZ 3 1 140 _ L2 f3 16 [(0, .ref o), (1, .int (iI 140)), (2, .int (iI b))] [.ref q1, .ref o]
    refine z_putGF C (hini rfl) 0 zin_X4 tyX4_ok nmX4 ho9.1 ho9.2 rfl (Nat.le_of_ble_eq_true rfl) zl_1_55 rfl rfl rfl rfl rfl rfl (Nat.le_of_ble_eq_true rfl) dX4_init_16 (fun f11 hf12 hk13 => ?_)
    have hp14 := zA_wO hA6 ho9.2 hk13
    have ho15 : zOb L2 f11 o 8 [.ref q1, .int 0] := ⟨ho9.1, hf12⟩
    have hfr16 := zFr_o hfr10 hk13
    refine z_aload_n C 0 dX4_init_19 rfl ?_
    refine z_iload_n C 2 dX4_init_20 rfl ?_
    refine z_putGF C (hini rfl) 1 zin_X4 tyX4_ok nmX4 ho15.1 ho15.2 rfl (Nat.le_of_ble_eq_true rfl) zl_1_56 rfl rfl rfl rfl rfl rfl (Nat.le_of_ble_eq_true rfl) dX4_init_21 (fun f17 hf18 hk19 => ?_)
    have hp20 := zA_wO hp14 ho15.2 hk19
    have ho21 : zOb L2 f17 o 8 [.ref q1, .int (iI b)] := ⟨ho15.1, hf18⟩
    have hfr22 := zFr_o hfr16 hk19
    refine z_aload_n C 0 dX4_init_24 rfl ?_
    refine z_getf C 0 zin_X4 (ho21.1) (ho21.2) rfl (Nat.le_of_ble_eq_true rfl) zl_1_55 rfl rfl dX4_init_25 ?_
    refine z_iload_n C 2 dX4_init_28 rfl ?_
    refine z_cS (As := [.ref q1, .int (iI b)]) C zc_J7_fill_53178 (c_fill hX hp20 b (by omega)) zl_1_52 (Nat.le_of_ble_eq_true rfl) (Nat.le_of_ble_eq_true rfl) (Nat.le_of_ble_eq_true rfl) rfl rfl (Nat.le_of_ble_eq_true rfl) dX4_init_29 (fun z25 L26 f27 hz28 => ?_)
    obtain ⟨rfl, hA23, hk24⟩ := hz28
    change ZW G pZ la eZ (zRm 1 1 140) sZ mZ aZ bZ hZ cZ AZ 3 1 140 _ L2 f27 32 [(0, .ref o), (1, .int (iI 140)), (2, .int (iI b))] []
    exact z_vreturn C dX4_init_32 (Nat.le_of_ble_eq_true rfl) (Nat.le_of_ble_eq_true rfl) ⟨_, hqn, hLn, ⟨⟨ho21.1, by rw [hk24 _ (zne_A ho21.2 hp20)]; exact ho21.2⟩, hA23⟩, zFr_a hfr22 hqn hk24⟩

set_option maxRecDepth 100000 in
set_option maxHeartbeats 200000 in
theorem c_newChart {la : Launch} {G : zG} {X : (Nat → Prop) → State → Prop} (hX : zX X) {L : List Nat} {f : Nat → va_E} {o : Nat} (ho : zOb L f o 4 [.null])   : zM la G X yX0_init (.code yX0_init cX0_init 1 none :: zT) 2 2 242 [.ref o] L f zeV (fun _ L' f' => ∃ r a, a ∉ L ∧ zCh G L' f' o r a (fun _ => zNO) ∧ zFr L f L' f' o) := by
  refine zM_intro hX (by decide) (Nat.le_of_ble_eq_true rfl) (fun pZ eZ sZ mZ aZ bZ hZ cZ AZ C hini => ?_)
  change ZW G pZ la eZ (zRm 2 2 242) sZ mZ aZ bZ hZ cZ AZ 1 0 0 _ L f 0 [(0, .ref o)] []
  have hfr0 := zFr_r L f o
  
  refine z_aload_n C 0 dX0_init_0 rfl ?_
  refine z_objInit C zl_1_98 (Nat.le_of_ble_eq_true rfl) (Nat.le_of_ble_eq_true rfl) dX0_init_1 ?_
  refine z_aload_n C 0 dX0_init_4 rfl ?_
  refine z_newG (ci := 8) (fs := [.null, .int 0]) C zin_X4 tyX4_ok zl_1_99 zl_1_47 zl_1_3 rfl (by decide) (Nat.le_of_ble_eq_true rfl) (Nat.le_of_ble_eq_true rfl) dX0_init_5 (fun q1 L2 f3 hq4 hL5 hob6 hk7 => ?_)
  change ZW G pZ la eZ (zRm 2 2 242) sZ mZ aZ bZ hZ cZ AZ 1 1 2 _ L2 f3 8 [(0, .ref o)] [.ref q1, .ref o]
  refine z_dup C dX0_init_8 rfl ?_
  refine z_sipush C dX0_init_9 (by decide) ?_
  refine z_ldc (n := (-1000000)) C zl_1_100 rfl dX0_init_12 ?_
  refine z_cI (As := [.int (iI 240), .int (iI (-1000000))]) C zc_X4_init (c_row240 hX hob6 (-1000000) (by omega)) zl_1_101 (Nat.le_of_ble_eq_true rfl) (Nat.le_of_ble_eq_true rfl) (Nat.le_of_ble_eq_true rfl) rfl rfl (Nat.le_of_ble_eq_true rfl) dX0_init_14 (fun z14 L15 f16 hz17 => ?_)
  obtain ⟨a8, hn9, hL10, hp11, hF12⟩ := hz17
  have hE13 := zExt_new hq4 hL5 hk7 hF12
  have he18 := zExt_q hq4 hL5 hk7
  have hno_a8 : a8 ∉ L := zFr_no (zFr_e hfr0 he18) hn9
  have ho19 := zOb_e ho hE13
  have hfr20 := zFr_e hfr0 hE13
  change ZW G pZ la eZ (zRm 2 2 242) sZ mZ aZ bZ hZ cZ AZ 1 2 242 _ L15 f16 17 [(0, .ref o)] [.ref q1, .ref o]
  refine z_putGF C (hini rfl) 0 zin_X0 tyX0_ok nmX0 ho19.1 ho19.2 rfl (Nat.le_of_ble_eq_true rfl) zl_1_102 rfl rfl rfl rfl rfl rfl (Nat.le_of_ble_eq_true rfl) dX0_init_17 (fun f21 hf22 hk23 => ?_)
  have hp24 := zRow_wO hp11 ho19.2 (by decide) hk23
  have ho25 : zOb L15 f21 o 4 [.ref q1] := ⟨ho19.1, hf22⟩
  have hfr26 := zFr_o hfr20 hk23
  exact z_vreturn C dX0_init_20 (Nat.le_of_ble_eq_true rfl) (Nat.le_of_ble_eq_true rfl) ⟨_, _, hno_a8, ⟨ho25, ⟨hp24.1, zA_cong hp24.2 (fun i q0 q1 => cN_no.symm)⟩⟩, hfr26⟩

set_option maxRecDepth 100000 in
set_option maxHeartbeats 200000 in
theorem c_newGauge {la : Launch} {G : zG} {X : (Nat → Prop) → State → Prop} (hX : zX X) {L : List Nat} {f : Nat → va_E} {o : Nat} (ho : zOb L f o 5 [.int 0, .null]) (k : Int)  : zM la G X yX1_init (.code yX1_init cX1_init 2 none :: zT) 2 2 242 [.ref o, .int (iI k)] L f zeV (fun _ L' f' => ∃ r a, a ∉ L ∧ zGau G L' f' o k r a (fun _ => 0) ∧ zFr L f L' f' o) := by
  refine zM_intro hX (by decide) (Nat.le_of_ble_eq_true rfl) (fun pZ eZ sZ mZ aZ bZ hZ cZ AZ C hini => ?_)
  change ZW G pZ la eZ (zRm 2 2 242) sZ mZ aZ bZ hZ cZ AZ 2 0 0 _ L f 0 [(0, .ref o), (1, .int (iI k))] []
  have hfr0 := zFr_r L f o
  
  refine z_aload_n C 0 dX1_init_0 rfl ?_
  refine z_objInit C zl_3_140 (Nat.le_of_ble_eq_true rfl) (Nat.le_of_ble_eq_true rfl) dX1_init_1 ?_
  refine z_aload_n C 0 dX1_init_4 rfl ?_
  refine z_newG (ci := 8) (fs := [.null, .int 0]) C zin_X4 tyX4_ok zl_3_141 zl_1_47 zl_1_3 rfl (by decide) (Nat.le_of_ble_eq_true rfl) (Nat.le_of_ble_eq_true rfl) dX1_init_5 (fun q1 L2 f3 hq4 hL5 hob6 hk7 => ?_)
  change ZW G pZ la eZ (zRm 2 2 242) sZ mZ aZ bZ hZ cZ AZ 2 1 2 _ L2 f3 8 [(0, .ref o), (1, .int (iI k))] [.ref q1, .ref o]
  refine z_dup C dX1_init_8 rfl ?_
  refine z_sipush C dX1_init_9 (by decide) ?_
  refine z_iconst C dX1_init_12 ?_
  refine z_cI (As := [.int (iI 240), .int (iI 0)]) C zc_X4_init (c_row240 hX hob6 0 (by omega)) zl_3_142 (Nat.le_of_ble_eq_true rfl) (Nat.le_of_ble_eq_true rfl) (Nat.le_of_ble_eq_true rfl) rfl rfl (Nat.le_of_ble_eq_true rfl) dX1_init_13 (fun z14 L15 f16 hz17 => ?_)
  obtain ⟨a8, hn9, hL10, hp11, hF12⟩ := hz17
  have hE13 := zExt_new hq4 hL5 hk7 hF12
  have he18 := zExt_q hq4 hL5 hk7
  have hno_a8 : a8 ∉ L := zFr_no (zFr_e hfr0 he18) hn9
  have ho19 := zOb_e ho hE13
  have hfr20 := zFr_e hfr0 hE13
  change ZW G pZ la eZ (zRm 2 2 242) sZ mZ aZ bZ hZ cZ AZ 2 2 242 _ L15 f16 16 [(0, .ref o), (1, .int (iI k))] [.ref q1, .ref o]
  refine z_putGF C (hini rfl) 1 zin_X1 tyX1_ok nmX1 ho19.1 ho19.2 rfl (Nat.le_of_ble_eq_true rfl) zl_3_144 rfl rfl rfl rfl rfl rfl (Nat.le_of_ble_eq_true rfl) dX1_init_16 (fun f21 hf22 hk23 => ?_)
  have hp24 := zRow_wO hp11 ho19.2 (by decide) hk23
  have ho25 : zOb L15 f21 o 5 [.int 0, .ref q1] := ⟨ho19.1, hf22⟩
  have hfr26 := zFr_o hfr20 hk23
  refine z_aload_n C 0 dX1_init_19 rfl ?_
  refine z_iload_n C 1 dX1_init_20 rfl ?_
  refine z_putGF C (hini rfl) 0 zin_X1 tyX1_ok nmX1 ho25.1 ho25.2 rfl (Nat.le_of_ble_eq_true rfl) zl_3_143 rfl rfl rfl rfl rfl rfl (Nat.le_of_ble_eq_true rfl) dX1_init_21 (fun f27 hf28 hk29 => ?_)
  have hp30 := zRow_wO hp24 ho25.2 (by decide) hk29
  have ho31 : zOb L15 f27 o 5 [.int (iI k), .ref q1] := ⟨ho25.1, hf28⟩
  have hfr32 := zFr_o hfr26 hk29
  exact z_vreturn C dX1_init_24 (Nat.le_of_ble_eq_true rfl) (Nat.le_of_ble_eq_true rfl) ⟨_, _, hno_a8, ⟨ho31, hp30⟩, hfr32⟩

set_option maxRecDepth 100000 in
set_option maxHeartbeats 200000 in
theorem c_newGauges {la : Launch} {G : zG} {X : (Nat → Prop) → State → Prop} (hX : zX X) {L : List Nat} {f : Nat → va_E} {o : Nat} (ho : zOb L f o 6 [.null, .int 0]) (hO : zT2 X)  : zM la G X yX2_init (.code yX2_init cX2_init 1 none :: zT) 1 1 3 [.ref o] L f zeV (fun _ L' f' => ∃ p, zOb L' f' o 6 [.ref p, .int (iI 0)] ∧ zP G 6 L' f' p 3 (fun _ => none) ∧ zFr L f L' f' o) := by
  refine zM_intro hX (by decide) (Nat.le_of_ble_eq_true rfl) (fun pZ eZ sZ mZ aZ bZ hZ cZ AZ C hini => ?_)
  change ZW G pZ la eZ (zRm 1 1 3) sZ mZ aZ bZ hZ cZ AZ 1 0 0 _ L f 0 [(0, .ref o)] []
  have hfr0 := zFr_r L f o
  
  refine z_aload_n C 0 dX2_init_0 rfl ?_
  refine z_objInit C zl_1_81 (Nat.le_of_ble_eq_true rfl) (Nat.le_of_ble_eq_true rfl) dX2_init_1 ?_
  refine z_aload_n C 0 dX2_init_4 rfl ?_
  refine z_iconst C dX2_init_5 ?_
  refine z_newq (t := 6) C 3 (hO _ _ C.x).1 rfl zl_1_82 rfl (Nat.le_of_ble_eq_true rfl) (Nat.le_of_ble_eq_true rfl) (Nat.le_of_ble_eq_true rfl) (Nat.le_of_ble_eq_true rfl) dX2_init_6 (fun q1 L2 f3 hq4 hL5 hp6 hk7 => ?_)
  have hE8 := zExt_q hq4 hL5 hk7
  have ho9 := zOb_e ho hE8
  have hfr10 := zFr_e hfr0 hE8
  change ZW G pZ la eZ (zRm 1 1 3) sZ mZ aZ bZ hZ cZ AZ 1 1 3 _ L2 f3 9 [(0, .ref o)] [.ref q1, .ref o]
  refine z_putGF C (hini rfl) 0 zin_X2 tyX2_ok nmX2 ho9.1 ho9.2 rfl (Nat.le_of_ble_eq_true rfl) zl_1_84 rfl rfl rfl rfl rfl rfl (Nat.le_of_ble_eq_true rfl) dX2_init_9 (fun f11 hf12 hk13 => ?_)
  have hp14 := zP_wO hp6 ho9.2 hk13
  have ho15 : zOb L2 f11 o 6 [.ref q1, .int 0] := ⟨ho9.1, hf12⟩
  have hfr16 := zFr_o hfr10 hk13
  refine z_aload_n C 0 dX2_init_12 rfl ?_
  refine z_iconst C dX2_init_13 ?_
  refine z_putG C 1 zin_X2 tyX2_ok nmX2 ho15.1 ho15.2 rfl (Nat.le_of_ble_eq_true rfl) zl_1_85 rfl rfl rfl rfl rfl (Nat.le_of_ble_eq_true rfl) dX2_init_14 (fun f17 hf18 hk19 => ?_)
  have hp20 := zP_wO hp14 ho15.2 hk19
  have ho21 : zOb L2 f17 o 6 [.ref q1, .int (iI 0)] := ⟨ho15.1, hf18⟩
  have hfr22 := zFr_o hfr16 hk19
  exact z_vreturn C dX2_init_17 (Nat.le_of_ble_eq_true rfl) (Nat.le_of_ble_eq_true rfl) ⟨_, ho21, hp20, hfr22⟩

set_option maxRecDepth 100000 in
set_option maxHeartbeats 200000 in
theorem c_newSea {la : Launch} {G : zG} {X : (Nat → Prop) → State → Prop} (hX : zX X) {L : List Nat} {f : Nat → va_E} {o : Nat} (ho : zOb L f o 9 [.null, .null, .null, .null])   : zM la G X yX5_init (.code yX5_init cX5_init 1 none :: zT) 2 8 508 [.ref o] L f zeV (fun _ L' f' => ∃ xr xa : Nat → Nat, zSea G L' f' o xr xa (fun i _ => if i = 0 then 20 else 0) ∧ (∀ i, i < 4 → xa i ∉ L) ∧ (∀ i j, i < 4 → j < 4 → i ≠ j → xa i ≠ xa j) ∧ zFr L f L' f' o) := by
  refine zM_intro hX (by decide) (Nat.le_of_ble_eq_true rfl) (fun pZ eZ sZ mZ aZ bZ hZ cZ AZ C hini => ?_)
  change ZW G pZ la eZ (zRm 2 8 508) sZ mZ aZ bZ hZ cZ AZ 1 0 0 _ L f 0 [(0, .ref o)] []
  have hfr0 := zFr_r L f o
  
  refine z_aload_n C 0 dX5_init_0 rfl ?_
  refine z_objInit C zl_1_45 (Nat.le_of_ble_eq_true rfl) (Nat.le_of_ble_eq_true rfl) dX5_init_1 ?_
  refine z_aload_n C 0 dX5_init_4 rfl ?_
  refine z_newG (ci := 8) (fs := [.null, .int 0]) C zin_X4 tyX4_ok zl_1_46 zl_1_47 zl_1_3 rfl (by decide) (Nat.le_of_ble_eq_true rfl) (Nat.le_of_ble_eq_true rfl) dX5_init_5 (fun q1 L2 f3 hq4 hL5 hob6 hk7 => ?_)
  change ZW G pZ la eZ (zRm 2 8 508) sZ mZ aZ bZ hZ cZ AZ 1 1 2 _ L2 f3 8 [(0, .ref o)] [.ref q1, .ref o]
  refine z_dup C dX5_init_8 rfl ?_
  refine z_sipush C dX5_init_9 (by decide) ?_
  refine z_bipush C dX5_init_12 (by decide) ?_
  refine z_cI (As := [.int (iI 240), .int (iI 20)]) C zc_X4_init (c_row240 hX hob6 20 (by omega)) zl_1_48 (Nat.le_of_ble_eq_true rfl) (Nat.le_of_ble_eq_true rfl) (Nat.le_of_ble_eq_true rfl) rfl rfl (Nat.le_of_ble_eq_true rfl) dX5_init_14 (fun z14 L15 f16 hz17 => ?_)
  obtain ⟨a8, hn9, hL10, hp11, hF12⟩ := hz17
  have hE13 := zExt_new hq4 hL5 hk7 hF12
  have he18 := zExt_q hq4 hL5 hk7
  have hno_a8 : a8 ∉ L := zFr_no (zFr_e hfr0 he18) hn9
  have ho19 := zOb_e ho hE13
  have hfr20 := zFr_e hfr0 hE13
  change ZW G pZ la eZ (zRm 2 8 508) sZ mZ aZ bZ hZ cZ AZ 1 2 242 _ L15 f16 17 [(0, .ref o)] [.ref q1, .ref o]
  refine z_putGF C (hini rfl) 0 zin_X5 tyX5_ok nmX5 ho19.1 ho19.2 rfl (Nat.le_of_ble_eq_true rfl) zl_1_63 rfl rfl rfl rfl rfl rfl (Nat.le_of_ble_eq_true rfl) dX5_init_17 (fun f21 hf22 hk23 => ?_)
  have hp24 := zRow_wO hp11 ho19.2 (by decide) hk23
  have ho25 : zOb L15 f21 o 9 [.ref q1, .null, .null, .null] := ⟨ho19.1, hf22⟩
  have hfr26 := zFr_o hfr20 hk23
  refine z_aload_n C 0 dX5_init_20 rfl ?_
  refine z_newG (ci := 8) (fs := [.null, .int 0]) C zin_X4 tyX4_ok zl_1_46 zl_1_47 zl_1_3 rfl (by decide) (Nat.le_of_ble_eq_true rfl) (Nat.le_of_ble_eq_true rfl) dX5_init_21 (fun q27 L28 f29 hq30 hL31 hob32 hk33 => ?_)
  change ZW G pZ la eZ (zRm 2 8 508) sZ mZ aZ bZ hZ cZ AZ 1 3 244 _ L28 f29 24 [(0, .ref o)] [.ref q27, .ref o]
  refine z_dup C dX5_init_24 rfl ?_
  refine z_sipush C dX5_init_25 (by decide) ?_
  refine z_iconst C dX5_init_28 ?_
  refine z_cI (As := [.int (iI 240), .int (iI 0)]) C zc_X4_init (c_row240 hX hob32 0 (by omega)) zl_1_48 (Nat.le_of_ble_eq_true rfl) (Nat.le_of_ble_eq_true rfl) (Nat.le_of_ble_eq_true rfl) rfl rfl (Nat.le_of_ble_eq_true rfl) dX5_init_29 (fun z40 L41 f42 hz43 => ?_)
  obtain ⟨a34, hn35, hL36, hp37, hF38⟩ := hz43
  have hE39 := zExt_new hq30 hL31 hk33 hF38
  have he44 := zExt_q hq30 hL31 hk33
  have hne_a8_a34 : a8 ≠ a34 := fun z => hn35 (z ▸ (he44 _ hp24.2.1).1)
  have hno_a34 : a34 ∉ L := zFr_no (zFr_e hfr26 he44) hn35
  have ho45 := zOb_e ho25 hE39
  have hfr46 := zFr_e hfr26 hE39
  have hp47 := zRow_e hp24 hE39
  change ZW G pZ la eZ (zRm 2 8 508) sZ mZ aZ bZ hZ cZ AZ 1 4 484 _ L41 f42 32 [(0, .ref o)] [.ref q27, .ref o]
  refine z_putGF C (hini rfl) 1 zin_X5 tyX5_ok nmX5 ho45.1 ho45.2 rfl (Nat.le_of_ble_eq_true rfl) zl_1_64 rfl rfl rfl rfl rfl rfl (Nat.le_of_ble_eq_true rfl) dX5_init_32 (fun f48 hf49 hk50 => ?_)
  have hp51 := zRow_wO hp47 ho45.2 (by decide) hk50
  have hp52 := zRow_wO hp37 ho45.2 (by decide) hk50
  have ho53 : zOb L41 f48 o 9 [.ref q1, .ref q27, .null, .null] := ⟨ho45.1, hf49⟩
  have hfr54 := zFr_o hfr46 hk50
  refine z_aload_n C 0 dX5_init_35 rfl ?_
  refine z_newG (ci := 8) (fs := [.null, .int 0]) C zin_X4 tyX4_ok zl_1_46 zl_1_47 zl_1_3 rfl (by decide) (Nat.le_of_ble_eq_true rfl) (Nat.le_of_ble_eq_true rfl) dX5_init_36 (fun q55 L56 f57 hq58 hL59 hob60 hk61 => ?_)
  change ZW G pZ la eZ (zRm 2 8 508) sZ mZ aZ bZ hZ cZ AZ 1 5 486 _ L56 f57 39 [(0, .ref o)] [.ref q55, .ref o]
  refine z_dup C dX5_init_39 rfl ?_
  refine z_bipush C dX5_init_40 (by decide) ?_
  refine z_iconst C dX5_init_42 ?_
  refine z_cI (As := [.int (iI 10), .int (iI 0)]) C zc_X4_init (c_row10 hX hob60 0 (by omega)) zl_1_48 (Nat.le_of_ble_eq_true rfl) (Nat.le_of_ble_eq_true rfl) (Nat.le_of_ble_eq_true rfl) rfl rfl (Nat.le_of_ble_eq_true rfl) dX5_init_43 (fun z68 L69 f70 hz71 => ?_)
  obtain ⟨a62, hn63, hL64, hp65, hF66⟩ := hz71
  have hE67 := zExt_new hq58 hL59 hk61 hF66
  have he72 := zExt_q hq58 hL59 hk61
  have hne_a8_a62 : a8 ≠ a62 := fun z => hn63 (z ▸ (he72 _ hp51.2.1).1)
  have hne_a34_a62 : a34 ≠ a62 := fun z => hn63 (z ▸ (he72 _ hp52.2.1).1)
  have hno_a62 : a62 ∉ L := zFr_no (zFr_e hfr54 he72) hn63
  have ho73 := zOb_e ho53 hE67
  have hfr74 := zFr_e hfr54 hE67
  have hp75 := zRow_e hp51 hE67
  have hp76 := zRow_e hp52 hE67
  change ZW G pZ la eZ (zRm 2 8 508) sZ mZ aZ bZ hZ cZ AZ 1 6 496 _ L69 f70 46 [(0, .ref o)] [.ref q55, .ref o]
  refine z_putGF C (hini rfl) 2 zin_X5 tyX5_ok nmX5 ho73.1 ho73.2 rfl (Nat.le_of_ble_eq_true rfl) zl_1_65 rfl rfl rfl rfl rfl rfl (Nat.le_of_ble_eq_true rfl) dX5_init_46 (fun f77 hf78 hk79 => ?_)
  have hp80 := zRow_wO hp75 ho73.2 (by decide) hk79
  have hp81 := zRow_wO hp76 ho73.2 (by decide) hk79
  have hp82 := zRow_wO hp65 ho73.2 (by decide) hk79
  have ho83 : zOb L69 f77 o 9 [.ref q1, .ref q27, .ref q55, .null] := ⟨ho73.1, hf78⟩
  have hfr84 := zFr_o hfr74 hk79
  refine z_aload_n C 0 dX5_init_49 rfl ?_
  refine z_newG (ci := 8) (fs := [.null, .int 0]) C zin_X4 tyX4_ok zl_1_46 zl_1_47 zl_1_3 rfl (by decide) (Nat.le_of_ble_eq_true rfl) (Nat.le_of_ble_eq_true rfl) dX5_init_50 (fun q85 L86 f87 hq88 hL89 hob90 hk91 => ?_)
  change ZW G pZ la eZ (zRm 2 8 508) sZ mZ aZ bZ hZ cZ AZ 1 7 498 _ L86 f87 53 [(0, .ref o)] [.ref q85, .ref o]
  refine z_dup C dX5_init_53 rfl ?_
  refine z_bipush C dX5_init_54 (by decide) ?_
  refine z_iconst C dX5_init_56 ?_
  refine z_cI (As := [.int (iI 10), .int (iI 0)]) C zc_X4_init (c_row10 hX hob90 0 (by omega)) zl_1_48 (Nat.le_of_ble_eq_true rfl) (Nat.le_of_ble_eq_true rfl) (Nat.le_of_ble_eq_true rfl) rfl rfl (Nat.le_of_ble_eq_true rfl) dX5_init_57 (fun z98 L99 f100 hz101 => ?_)
  obtain ⟨a92, hn93, hL94, hp95, hF96⟩ := hz101
  have hE97 := zExt_new hq88 hL89 hk91 hF96
  have he102 := zExt_q hq88 hL89 hk91
  have hne_a8_a92 : a8 ≠ a92 := fun z => hn93 (z ▸ (he102 _ hp80.2.1).1)
  have hne_a34_a92 : a34 ≠ a92 := fun z => hn93 (z ▸ (he102 _ hp81.2.1).1)
  have hne_a62_a92 : a62 ≠ a92 := fun z => hn93 (z ▸ (he102 _ hp82.2.1).1)
  have hno_a92 : a92 ∉ L := zFr_no (zFr_e hfr84 he102) hn93
  have ho103 := zOb_e ho83 hE97
  have hfr104 := zFr_e hfr84 hE97
  have hp105 := zRow_e hp80 hE97
  have hp106 := zRow_e hp81 hE97
  have hp107 := zRow_e hp82 hE97
  change ZW G pZ la eZ (zRm 2 8 508) sZ mZ aZ bZ hZ cZ AZ 1 8 508 _ L99 f100 60 [(0, .ref o)] [.ref q85, .ref o]
  refine z_putGF C (hini rfl) 3 zin_X5 tyX5_ok nmX5 ho103.1 ho103.2 rfl (Nat.le_of_ble_eq_true rfl) zl_1_66 rfl rfl rfl rfl rfl rfl (Nat.le_of_ble_eq_true rfl) dX5_init_60 (fun f108 hf109 hk110 => ?_)
  have hp111 := zRow_wO hp105 ho103.2 (by decide) hk110
  have hp112 := zRow_wO hp106 ho103.2 (by decide) hk110
  have hp113 := zRow_wO hp107 ho103.2 (by decide) hk110
  have hp114 := zRow_wO hp95 ho103.2 (by decide) hk110
  have ho115 : zOb L99 f108 o 9 [.ref q1, .ref q27, .ref q55, .ref q85] := ⟨ho103.1, hf109⟩
  have hfr116 := zFr_o hfr104 hk110
  exact z_vreturn C dX5_init_63 (Nat.le_of_ble_eq_true rfl) (Nat.le_of_ble_eq_true rfl) ⟨(fun i => [q1, q27, q55, q85].getD i 0), (fun i => [a8, a34, a62, a92].getD i 0), ⟨ho115, hp111, hp112, hp113, hp114⟩, (fun i hi => match i, hi with | 0, _ => hno_a8 | 1, _ => hno_a34 | 2, _ => hno_a62 | 3, _ => hno_a92), z4_ne hne_a8_a34 hne_a8_a62 hne_a8_a92 hne_a34_a62 hne_a34_a92 hne_a62_a92, hfr116⟩

set_option maxRecDepth 100000 in
set_option maxHeartbeats 200000 in
theorem c_newLine {la : Launch} {G : zG} {X : (Nat → Prop) → State → Prop} (hX : zX X) {L : List Nat} {f : Nat → va_E} {o : Nat} (ho : zOb L f o 7 [.int 0, .int 0, .int 0, .int 0, .int 0, .int 0, .int 0, .null, .null, .null]) (y i x w : Int) (hy : y = 0 ∨ y = 1) (hx : 0 ≤ x ∧ x ≤ 19) (hw : 0 ≤ w ∧ w ≤ 19) : zM la G X yX3_init (.code yX3_init cX3_init 5 none :: zT) 2 6 426 [.ref o, .int (iI y), .int (iI i), .int (iI x), .int (iI w)] L f zeV (fun _ L' f' => ∃ r0 r1 r2 a0 a1 a2 : Nat, zOb L' f' o 7 [.int (iI y), .int (iI i), .int (iI x), .int (iI w), .int (iI (spSz x w)), .int (iI 0), .int (iI 0), .ref r0, .ref r1, .ref r2] ∧ zRow G L' f' r0 a0 140 (-1000000) (fun _ => -1000000) ∧ zRow G L' f' r1 a1 140 0 (fun _ => 0) ∧ zRow G L' f' r2 a2 140 (-1000000) (fun _ => -1000000) ∧ (a0 ∉ L ∧ a1 ∉ L ∧ a2 ∉ L) ∧ (a0 ≠ a1 ∧ a0 ≠ a2 ∧ a1 ≠ a2) ∧ zFr L f L' f' o) := by
  refine zM_intro hX (by decide) (Nat.le_of_ble_eq_true rfl) (fun pZ eZ sZ mZ aZ bZ hZ cZ AZ C hini => ?_)
  change ZW G pZ la eZ (zRm 2 6 426) sZ mZ aZ bZ hZ cZ AZ 5 0 0 _ L f 0 [(0, .ref o), (1, .int (iI y)), (2, .int (iI i)), (3, .int (iI x)), (4, .int (iI w))] []
  have hfr0 := zFr_r L f o
  
  refine z_aload_n C 0 dX3_init_0 rfl ?_
  refine z_objInit C zl_4_9 (Nat.le_of_ble_eq_true rfl) (Nat.le_of_ble_eq_true rfl) dX3_init_1 ?_
  refine z_aload_n C 0 dX3_init_4 rfl ?_
  refine z_iconst C dX3_init_5 ?_
  refine z_putG C 5 zin_X3 tyX3_ok nmX3 ho.1 ho.2 rfl (Nat.le_of_ble_eq_true rfl) zl_4_17 rfl rfl rfl rfl rfl (Nat.le_of_ble_eq_true rfl) dX3_init_6 (fun f1 hf2 hk3 => ?_)
  have ho4 : zOb L f1 o 7 [.int 0, .int 0, .int 0, .int 0, .int 0, .int (iI 0), .int 0, .null, .null, .null] := ⟨ho.1, hf2⟩
  have hfr5 := zFr_o hfr0 hk3
  refine z_aload_n C 0 dX3_init_9 rfl ?_
  refine z_iconst C dX3_init_10 ?_
  refine z_putG C 6 zin_X3 tyX3_ok nmX3 ho4.1 ho4.2 rfl (Nat.le_of_ble_eq_true rfl) zl_4_18 rfl rfl rfl rfl rfl (Nat.le_of_ble_eq_true rfl) dX3_init_11 (fun f6 hf7 hk8 => ?_)
  have ho9 : zOb L f6 o 7 [.int 0, .int 0, .int 0, .int 0, .int 0, .int (iI 0), .int (iI 0), .null, .null, .null] := ⟨ho4.1, hf7⟩
  have hfr10 := zFr_o hfr5 hk8
  refine z_aload_n C 0 dX3_init_14 rfl ?_
  refine z_newG (ci := 8) (fs := [.null, .int 0]) C zin_X4 tyX4_ok zl_4_10 zl_1_47 zl_1_3 rfl (by decide) (Nat.le_of_ble_eq_true rfl) (Nat.le_of_ble_eq_true rfl) dX3_init_15 (fun q11 L12 f13 hq14 hL15 hob16 hk17 => ?_)
  change ZW G pZ la eZ (zRm 2 6 426) sZ mZ aZ bZ hZ cZ AZ 5 1 2 _ L12 f13 18 [(0, .ref o), (1, .int (iI y)), (2, .int (iI i)), (3, .int (iI x)), (4, .int (iI w))] [.ref q11, .ref o]
  refine z_dup C dX3_init_18 rfl ?_
  refine z_sipush C dX3_init_19 (by decide) ?_
  refine z_ldc (n := (-1000000)) C zl_1_194 rfl dX3_init_22 ?_
  refine z_cI (As := [.int (iI 140), .int (iI (-1000000))]) C zc_X4_init (c_row140 hX hob16 (-1000000) (by omega)) zl_4_11 (Nat.le_of_ble_eq_true rfl) (Nat.le_of_ble_eq_true rfl) (Nat.le_of_ble_eq_true rfl) rfl rfl (Nat.le_of_ble_eq_true rfl) dX3_init_24 (fun z24 L25 f26 hz27 => ?_)
  obtain ⟨a18, hn19, hL20, hp21, hF22⟩ := hz27
  have hE23 := zExt_new hq14 hL15 hk17 hF22
  have he28 := zExt_q hq14 hL15 hk17
  have hno_a18 : a18 ∉ L := zFr_no (zFr_e hfr10 he28) hn19
  have ho29 := zOb_e ho9 hE23
  have hfr30 := zFr_e hfr10 hE23
  change ZW G pZ la eZ (zRm 2 6 426) sZ mZ aZ bZ hZ cZ AZ 5 2 142 _ L25 f26 27 [(0, .ref o), (1, .int (iI y)), (2, .int (iI i)), (3, .int (iI x)), (4, .int (iI w))] [.ref q11, .ref o]
  refine z_putGF C (hini rfl) 7 zin_X3 tyX3_ok nmX3 ho29.1 ho29.2 rfl (Nat.le_of_ble_eq_true rfl) zl_4_19 rfl rfl rfl rfl rfl rfl (Nat.le_of_ble_eq_true rfl) dX3_init_27 (fun f31 hf32 hk33 => ?_)
  have hp34 := zRow_wO hp21 ho29.2 (by decide) hk33
  have ho35 : zOb L25 f31 o 7 [.int 0, .int 0, .int 0, .int 0, .int 0, .int (iI 0), .int (iI 0), .ref q11, .null, .null] := ⟨ho29.1, hf32⟩
  have hfr36 := zFr_o hfr30 hk33
  refine z_aload_n C 0 dX3_init_30 rfl ?_
  refine z_newG (ci := 8) (fs := [.null, .int 0]) C zin_X4 tyX4_ok zl_4_10 zl_1_47 zl_1_3 rfl (by decide) (Nat.le_of_ble_eq_true rfl) (Nat.le_of_ble_eq_true rfl) dX3_init_31 (fun q37 L38 f39 hq40 hL41 hob42 hk43 => ?_)
  change ZW G pZ la eZ (zRm 2 6 426) sZ mZ aZ bZ hZ cZ AZ 5 3 144 _ L38 f39 34 [(0, .ref o), (1, .int (iI y)), (2, .int (iI i)), (3, .int (iI x)), (4, .int (iI w))] [.ref q37, .ref o]
  refine z_dup C dX3_init_34 rfl ?_
  refine z_sipush C dX3_init_35 (by decide) ?_
  refine z_iconst C dX3_init_38 ?_
  refine z_cI (As := [.int (iI 140), .int (iI 0)]) C zc_X4_init (c_row140 hX hob42 0 (by omega)) zl_4_11 (Nat.le_of_ble_eq_true rfl) (Nat.le_of_ble_eq_true rfl) (Nat.le_of_ble_eq_true rfl) rfl rfl (Nat.le_of_ble_eq_true rfl) dX3_init_39 (fun z50 L51 f52 hz53 => ?_)
  obtain ⟨a44, hn45, hL46, hp47, hF48⟩ := hz53
  have hE49 := zExt_new hq40 hL41 hk43 hF48
  have he54 := zExt_q hq40 hL41 hk43
  have hne_a18_a44 : a18 ≠ a44 := fun z => hn45 (z ▸ (he54 _ hp34.2.1).1)
  have hno_a44 : a44 ∉ L := zFr_no (zFr_e hfr36 he54) hn45
  have ho55 := zOb_e ho35 hE49
  have hfr56 := zFr_e hfr36 hE49
  have hp57 := zRow_e hp34 hE49
  change ZW G pZ la eZ (zRm 2 6 426) sZ mZ aZ bZ hZ cZ AZ 5 4 284 _ L51 f52 42 [(0, .ref o), (1, .int (iI y)), (2, .int (iI i)), (3, .int (iI x)), (4, .int (iI w))] [.ref q37, .ref o]
  refine z_putGF C (hini rfl) 8 zin_X3 tyX3_ok nmX3 ho55.1 ho55.2 rfl (Nat.le_of_ble_eq_true rfl) zl_4_20 rfl rfl rfl rfl rfl rfl (Nat.le_of_ble_eq_true rfl) dX3_init_42 (fun f58 hf59 hk60 => ?_)
  have hp61 := zRow_wO hp57 ho55.2 (by decide) hk60
  have hp62 := zRow_wO hp47 ho55.2 (by decide) hk60
  have ho63 : zOb L51 f58 o 7 [.int 0, .int 0, .int 0, .int 0, .int 0, .int (iI 0), .int (iI 0), .ref q11, .ref q37, .null] := ⟨ho55.1, hf59⟩
  have hfr64 := zFr_o hfr56 hk60
  refine z_aload_n C 0 dX3_init_45 rfl ?_
  refine z_newG (ci := 8) (fs := [.null, .int 0]) C zin_X4 tyX4_ok zl_4_10 zl_1_47 zl_1_3 rfl (by decide) (Nat.le_of_ble_eq_true rfl) (Nat.le_of_ble_eq_true rfl) dX3_init_46 (fun q65 L66 f67 hq68 hL69 hob70 hk71 => ?_)
  change ZW G pZ la eZ (zRm 2 6 426) sZ mZ aZ bZ hZ cZ AZ 5 5 286 _ L66 f67 49 [(0, .ref o), (1, .int (iI y)), (2, .int (iI i)), (3, .int (iI x)), (4, .int (iI w))] [.ref q65, .ref o]
  refine z_dup C dX3_init_49 rfl ?_
  refine z_sipush C dX3_init_50 (by decide) ?_
  refine z_ldc (n := (-1000000)) C zl_1_194 rfl dX3_init_53 ?_
  refine z_cI (As := [.int (iI 140), .int (iI (-1000000))]) C zc_X4_init (c_row140 hX hob70 (-1000000) (by omega)) zl_4_11 (Nat.le_of_ble_eq_true rfl) (Nat.le_of_ble_eq_true rfl) (Nat.le_of_ble_eq_true rfl) rfl rfl (Nat.le_of_ble_eq_true rfl) dX3_init_55 (fun z78 L79 f80 hz81 => ?_)
  obtain ⟨a72, hn73, hL74, hp75, hF76⟩ := hz81
  have hE77 := zExt_new hq68 hL69 hk71 hF76
  have he82 := zExt_q hq68 hL69 hk71
  have hne_a18_a72 : a18 ≠ a72 := fun z => hn73 (z ▸ (he82 _ hp61.2.1).1)
  have hne_a44_a72 : a44 ≠ a72 := fun z => hn73 (z ▸ (he82 _ hp62.2.1).1)
  have hno_a72 : a72 ∉ L := zFr_no (zFr_e hfr64 he82) hn73
  have ho83 := zOb_e ho63 hE77
  have hfr84 := zFr_e hfr64 hE77
  have hp85 := zRow_e hp61 hE77
  have hp86 := zRow_e hp62 hE77
  change ZW G pZ la eZ (zRm 2 6 426) sZ mZ aZ bZ hZ cZ AZ 5 6 426 _ L79 f80 58 [(0, .ref o), (1, .int (iI y)), (2, .int (iI i)), (3, .int (iI x)), (4, .int (iI w))] [.ref q65, .ref o]
  refine z_putGF C (hini rfl) 9 zin_X3 tyX3_ok nmX3 ho83.1 ho83.2 rfl (Nat.le_of_ble_eq_true rfl) zl_4_21 rfl rfl rfl rfl rfl rfl (Nat.le_of_ble_eq_true rfl) dX3_init_58 (fun f87 hf88 hk89 => ?_)
  have hp90 := zRow_wO hp85 ho83.2 (by decide) hk89
  have hp91 := zRow_wO hp86 ho83.2 (by decide) hk89
  have hp92 := zRow_wO hp75 ho83.2 (by decide) hk89
  have ho93 : zOb L79 f87 o 7 [.int 0, .int 0, .int 0, .int 0, .int 0, .int (iI 0), .int (iI 0), .ref q11, .ref q37, .ref q65] := ⟨ho83.1, hf88⟩
  have hfr94 := zFr_o hfr84 hk89
  refine z_aload_n C 0 dX3_init_61 rfl ?_
  refine z_iload_n C 1 dX3_init_62 rfl ?_
  refine z_putGF C (hini rfl) 0 zin_X3 tyX3_ok nmX3 ho93.1 ho93.2 rfl (Nat.le_of_ble_eq_true rfl) zl_4_12 rfl rfl rfl rfl (by rcases hy with q | q <;> rw [q] <;> rfl) (by rcases hy with q | q <;> rw [q] <;> rfl) (Nat.le_of_ble_eq_true rfl) dX3_init_63 (fun f95 hf96 hk97 => ?_)
  have hp98 := zRow_wO hp90 ho93.2 (by decide) hk97
  have hp99 := zRow_wO hp91 ho93.2 (by decide) hk97
  have hp100 := zRow_wO hp92 ho93.2 (by decide) hk97
  have ho101 : zOb L79 f95 o 7 [.int (iI y), .int 0, .int 0, .int 0, .int 0, .int (iI 0), .int (iI 0), .ref q11, .ref q37, .ref q65] := ⟨ho93.1, hf96⟩
  have hfr102 := zFr_o hfr94 hk97
  refine z_aload_n C 0 dX3_init_66 rfl ?_
  refine z_iload_n C 2 dX3_init_67 rfl ?_
  refine z_putGF C (hini rfl) 1 zin_X3 tyX3_ok nmX3 ho101.1 ho101.2 rfl (Nat.le_of_ble_eq_true rfl) zl_4_13 rfl rfl rfl rfl rfl rfl (Nat.le_of_ble_eq_true rfl) dX3_init_68 (fun f103 hf104 hk105 => ?_)
  have hp106 := zRow_wO hp98 ho101.2 (by decide) hk105
  have hp107 := zRow_wO hp99 ho101.2 (by decide) hk105
  have hp108 := zRow_wO hp100 ho101.2 (by decide) hk105
  have ho109 : zOb L79 f103 o 7 [.int (iI y), .int (iI i), .int 0, .int 0, .int 0, .int (iI 0), .int (iI 0), .ref q11, .ref q37, .ref q65] := ⟨ho101.1, hf104⟩
  have hfr110 := zFr_o hfr102 hk105
  refine z_aload_n C 0 dX3_init_71 rfl ?_
  refine z_iload_n C 3 dX3_init_72 rfl ?_
  refine z_putGF C (hini rfl) 2 zin_X3 tyX3_ok nmX3 ho109.1 ho109.2 rfl (Nat.le_of_ble_eq_true rfl) zl_4_14 rfl rfl rfl rfl rfl rfl (Nat.le_of_ble_eq_true rfl) dX3_init_73 (fun f111 hf112 hk113 => ?_)
  have hp114 := zRow_wO hp106 ho109.2 (by decide) hk113
  have hp115 := zRow_wO hp107 ho109.2 (by decide) hk113
  have hp116 := zRow_wO hp108 ho109.2 (by decide) hk113
  have ho117 : zOb L79 f111 o 7 [.int (iI y), .int (iI i), .int (iI x), .int 0, .int 0, .int (iI 0), .int (iI 0), .ref q11, .ref q37, .ref q65] := ⟨ho109.1, hf112⟩
  have hfr118 := zFr_o hfr110 hk113
  refine z_aload_n C 0 dX3_init_76 rfl ?_
  refine z_iload C 4 dX3_init_77 rfl ?_
  refine z_putGF C (hini rfl) 3 zin_X3 tyX3_ok nmX3 ho117.1 ho117.2 rfl (Nat.le_of_ble_eq_true rfl) zl_4_15 rfl rfl rfl rfl rfl rfl (Nat.le_of_ble_eq_true rfl) dX3_init_79 (fun f119 hf120 hk121 => ?_)
  have hp122 := zRow_wO hp114 ho117.2 (by decide) hk121
  have hp123 := zRow_wO hp115 ho117.2 (by decide) hk121
  have hp124 := zRow_wO hp116 ho117.2 (by decide) hk121
  have ho125 : zOb L79 f119 o 7 [.int (iI y), .int (iI i), .int (iI x), .int (iI w), .int 0, .int (iI 0), .int (iI 0), .ref q11, .ref q37, .ref q65] := ⟨ho117.1, hf120⟩
  have hfr126 := zFr_o hfr118 hk121
  refine z_aload_n C 0 dX3_init_82 rfl ?_
  refine z_iload C 4 dX3_init_83 rfl ?_
  refine z_iload_n C 3 dX3_init_85 rfl ?_
  refine z_isub C dX3_init_86 ?_
  refine z_mabs C zl_2_103 (Nat.le_of_ble_eq_true rfl) (Nat.le_of_ble_eq_true rfl) (Nat.le_of_ble_eq_true rfl) (by omega) (Nat.le_of_ble_eq_true rfl) dX3_init_87 (fun w127 hw128 => ?_)
  refine z_iconst C dX3_init_90 ?_
  refine z_iadd C dX3_init_91 ?_
  have hsz9 : w127 + 1 = spSz x w := by unfold spSz; split <;> omega
  refine z_putGF C (hini rfl) 4 zin_X3 tyX3_ok nmX3 ho125.1 ho125.2 rfl (Nat.le_of_ble_eq_true rfl) zl_4_16 rfl rfl rfl rfl rfl rfl (Nat.le_of_ble_eq_true rfl) dX3_init_92 (fun f129 hf130 hk131 => ?_)
  have hp132 := zRow_wO hp122 ho125.2 (by decide) hk131
  have hp133 := zRow_wO hp123 ho125.2 (by decide) hk131
  have hp134 := zRow_wO hp124 ho125.2 (by decide) hk131
  have ho135 : zOb L79 f129 o 7 [.int (iI y), .int (iI i), .int (iI x), .int (iI w), .int (iI (w127 + 1)), .int (iI 0), .int (iI 0), .ref q11, .ref q37, .ref q65] := ⟨ho125.1, hf130⟩
  have hfr136 := zFr_o hfr126 hk131
  exact z_vreturn C dX3_init_95 (Nat.le_of_ble_eq_true rfl) (Nat.le_of_ble_eq_true rfl) ⟨_, _, _, _, _, _, ⟨ho135.1, by rw [← hsz9]; exact ho135.2⟩, hp132, hp133, hp134, ⟨hno_a18, hno_a44, hno_a72⟩, ⟨hne_a18_a44, hne_a18_a72, hne_a44_a72⟩, hfr136⟩
