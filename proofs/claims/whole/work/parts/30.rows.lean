set_option maxRecDepth 100000 in
set_option maxHeartbeats 200000 in
theorem c_fill {la : Launch} {G : zG} {X : (Nat → Prop) → State → Prop} (hX : zX X) {L : List Nat} {f : Nat → va_E} {a n : Nat} {σ : Int → Int} (hA : zA G 0 L f a n σ) (x : Int) (hn : n < 100000) : zM la G X yJ7_fill_53178 (.code yJ7_fill_53178 cJ7_fill_53178 4 none :: zT) 0 0 0 [.ref a, .int (iI x)] L f zeV (fun _ L' f' => L = L' ∧ zA G 0 L f' a n (fun _ => x) ∧ ∀ c, c ≠ a → f' c = f c) := by
  refine zM_intro hX (by decide) (Nat.le_of_ble_eq_true rfl) (fun pZ eZ sZ mZ aZ bZ hZ cZ AZ C hini => ?_)
  change ZW G pZ la eZ (zRm 0 0 0) sZ mZ aZ bZ hZ cZ AZ 4 0 0 _ L f 0 [(0, .ref a), (1, .int (iI x))] []
  refine z_iconst C dJ7_fill_53178_0 ?_
  refine z_istore_n (ls' := [(2, .int (iI 0)), (0, .ref a), (1, .int (iI x))]) C dJ7_fill_53178_1 (Nat.le_of_ble_eq_true rfl) rfl ?_
  refine z_aload_n C 1 dJ7_fill_53178_2 rfl ?_
  refine z_alen C (hA) rfl dJ7_fill_53178_3 ?_
  refine z_nm (fun x1 hx1 => ?_)
  refine z_istore_n (ls' := [(3, .int (iI x1)), (2, .int (iI 0)), (0, .ref a), (1, .int (iI x))]) C dJ7_fill_53178_4 (Nat.le_of_ble_eq_true rfl) rfl ?_
  have key5 : ∀ (n5 : Nat) (j : Int) (f9 : Nat → va_E), (0 ≤ j ∧ j ≤ n ∧ zA G 0 L f9 a n (zfill σ 0 j x) ∧ ∀ c, c ≠ a → f9 c = f c) → (n : Int) - j < (n5 : Int) → ZW G pZ la eZ (zRm 0 0 0) sZ mZ aZ bZ hZ cZ AZ 4 0 0 (MQ bZ (zQ G zeV (fun _ L' f' => L = L' ∧ zA G 0 L f' a n (fun _ => x) ∧ ∀ c, c ≠ a → f' c = f c) AZ) aZ sZ 0 0 AZ) L f9 5 [(0, .ref a), (1, .int (iI x)), (2, .int (iI j)), (3, .int (iI x1))] [] := by
    intro n5
    induction n5 with
    | zero => intro j f9 hi5 hn5; exfalso; omega
    | succ n5 ih5 =>
      intro j f9 hi5 hn5
      obtain ⟨hj0, hj1, hA9, hk9⟩ := hi5
      refine z_iload_n C 2 dJ7_fill_53178_5 rfl ?_
      refine z_iload_n C 3 dJ7_fill_53178_6 rfl ?_
      refine z_icmp_ge C 20 dJ7_fill_53178_7 (by decide) (by omega) (by omega) (fun h7 => ?_) (fun h7 => ?_)
      · exact z_vreturn C dJ7_fill_53178_20 (Nat.le_of_ble_eq_true rfl) (Nat.le_of_ble_eq_true rfl) ⟨rfl, zA_cong hA9 (fun i q0 q1 => by unfold zfill; rw [if_pos (by omega)]), hk9⟩
      · refine z_aload_n C 0 dJ7_fill_53178_10 rfl ?_
        refine z_iload_n C 2 dJ7_fill_53178_11 rfl ?_
        refine z_iload_n C 1 dJ7_fill_53178_12 rfl ?_
        refine z_iast C (hA9) (by omega) (by omega) (by omega) dJ7_fill_53178_13 (fun f2 ha3 hk4 => ?_)
        refine z_iinc (ls' := [(2, .int (iI (j + 1))), (0, .ref a), (1, .int (iI x)), (3, .int (iI x1))]) C 2 dJ7_fill_53178_14 rfl (Nat.le_of_ble_eq_true rfl) rfl ?_
        refine z_goto C 5 dJ7_fill_53178_17 (by decide) ?_
        refine z_perm [1, 2, 0, 3] rfl ?_
        exact ih5 _ _ ⟨by omega, by omega, by have q := ha3; rw [zfill_1 _ (by omega)] at q; exact q, fun c hc => by rw [hk4 c hc]; exact hk9 c hc⟩ (by omega)
  refine z_perm [2, 3, 1, 0] rfl ?_
  exact key5 100000 _ _ ⟨by omega, by omega, by rw [zfill_0]; exact hA, fun c _ => rfl⟩ (by omega)

set_option maxRecDepth 100000 in
set_option maxHeartbeats 200000 in
theorem c_read {la : Launch} {G : zG} {X : (Nat → Prop) → State → Prop} (hX : zX X) {L : List Nat} {f : Nat → va_E} {r a n : Nat} {b : Int} {σ : Int → Int} (hR : zRow G L f r a n b σ) (i : Int) (hn : n < 100000) (hi : zR i) : zM la G X yX4_read (.code yX4_read cX4_read 2 (some .int) :: zT) 0 0 0 [.ref r, .int (iI i)] L f zeI (zRd L f (fun z => z = zrd n b σ i)) := by
  refine zM_intro hX (by decide) (Nat.le_of_ble_eq_true rfl) (fun pZ eZ sZ mZ aZ bZ hZ cZ AZ C hini => ?_)
  change ZW G pZ la eZ (zRm 0 0 0) sZ mZ aZ bZ hZ cZ AZ 2 0 0 _ L f 0 [(0, .ref r), (1, .int (iI i))] []
  have J26 : ∀ (w : Int)   (hj26 : w = zrd n b σ i), ZW G pZ la eZ (zRm 0 0 0) sZ mZ aZ bZ hZ cZ AZ 2 0 0 (MQ bZ (zQ G zeI (zRd L f (fun z => z = zrd n b σ i)) AZ) aZ sZ 0 0 AZ) L f 26 [(0, .ref r), (1, .int (iI i))] [.int (iI w)] := by
    intro w   hj26
    exact z_ireturn C dX4_read_26 (Nat.le_of_ble_eq_true rfl) (Nat.le_of_ble_eq_true rfl) ⟨hj26, rfl, rfl⟩
  refine z_iload_n C 1 dX4_read_0 rfl ?_
  refine z_if_lt C 22 dX4_read_1 (by decide) (by omega) (fun h1 => ?_) (fun h1 => ?_)
  · refine z_aload_n C 0 dX4_read_22 rfl ?_
    refine z_getf C 1 zin_X4 (hR.1.1) (hR.1.2) rfl (Nat.le_of_ble_eq_true rfl) zl_1_56 rfl rfl dX4_read_23 ?_
    refine z_perm [0, 1] rfl ?_
    exact J26 _  (by unfold zrd; first | rw [if_pos (by omega)] | rw [if_neg (by omega)])
  · refine z_iload_n C 1 dX4_read_4 rfl ?_
    refine z_aload_n C 0 dX4_read_5 rfl ?_
    refine z_getf C 0 zin_X4 (hR.1.1) (hR.1.2) rfl (Nat.le_of_ble_eq_true rfl) zl_1_55 rfl rfl dX4_read_6 ?_
    refine z_alen C (hR.2) rfl dX4_read_9 ?_
    refine z_icmp_ge C 22 dX4_read_10 (by decide) (by omega) (by omega) (fun h10 => ?_) (fun h10 => ?_)
    · refine z_aload_n C 0 dX4_read_22 rfl ?_
      refine z_getf C 1 zin_X4 (hR.1.1) (hR.1.2) rfl (Nat.le_of_ble_eq_true rfl) zl_1_56 rfl rfl dX4_read_23 ?_
      refine z_perm [0, 1] rfl ?_
      exact J26 _  (by unfold zrd; first | rw [if_pos (by omega)] | rw [if_neg (by omega)])
    · refine z_aload_n C 0 dX4_read_13 rfl ?_
      refine z_getf C 0 zin_X4 (hR.1.1) (hR.1.2) rfl (Nat.le_of_ble_eq_true rfl) zl_1_55 rfl rfl dX4_read_14 ?_
      refine z_iload_n C 1 dX4_read_17 rfl ?_
      refine z_iald C (hR.2) (by omega) (by omega) (by omega) dX4_read_18 ?_
      refine z_goto C 26 dX4_read_19 (by decide) ?_
      refine z_perm [0, 1] rfl ?_
      exact J26 _  (by unfold zrd; first | rw [if_pos (by omega)] | rw [if_neg (by omega)])

set_option maxRecDepth 100000 in
set_option maxHeartbeats 200000 in
theorem c_write {la : Launch} {G : zG} {X : (Nat → Prop) → State → Prop} (hX : zX X) {L : List Nat} {f : Nat → va_E} {r a n : Nat} {b : Int} {σ : Int → Int} (hR : zRow G L f r a n b σ) (i x : Int) (hn : n < 100000) (hi : zR i) (hx : zR x) : zM la G X yX4_write (.code yX4_write cX4_write 4 (some .int) :: zT) 0 0 0 [.ref r, .int (iI i), .int (iI x)] L f zeI (fun z L' f' => L = L' ∧ zA G 0 L f' a n (zwr n σ i x) ∧ (∀ c, c ≠ a → f' c = f c) ∧ z = zrd n b σ i) := by
  refine zM_intro hX (by decide) (Nat.le_of_ble_eq_true rfl) (fun pZ eZ sZ mZ aZ bZ hZ cZ AZ C hini => ?_)
  change ZW G pZ la eZ (zRm 0 0 0) sZ mZ aZ bZ hZ cZ AZ 4 0 0 _ L f 0 [(0, .ref r), (1, .int (iI i)), (2, .int (iI x))] []
  refine z_iload_n C 1 dX4_write_0 rfl ?_
  refine z_if_lt C 13 dX4_write_1 (by decide) (by omega) (fun h1 => ?_) (fun h1 => ?_)
  · refine z_aload_n C 0 dX4_write_13 rfl ?_
    refine z_getf C 1 zin_X4 (hR.1.1) (hR.1.2) rfl (Nat.le_of_ble_eq_true rfl) zl_1_56 rfl rfl dX4_write_14 ?_
    exact z_ireturn C dX4_write_17 (Nat.le_of_ble_eq_true rfl) (Nat.le_of_ble_eq_true rfl) ⟨rfl, by unfold zwr; rw [if_neg (by omega)]; exact hR.2, fun c _ => rfl, by unfold zrd; rw [if_neg (by omega)]⟩
  · refine z_iload_n C 1 dX4_write_4 rfl ?_
    refine z_aload_n C 0 dX4_write_5 rfl ?_
    refine z_getf C 0 zin_X4 (hR.1.1) (hR.1.2) rfl (Nat.le_of_ble_eq_true rfl) zl_1_55 rfl rfl dX4_write_6 ?_
    refine z_alen C (hR.2) rfl dX4_write_9 ?_
    refine z_icmp_lt C 18 dX4_write_10 (by decide) (by omega) (by omega) (fun h10 => ?_) (fun h10 => ?_)
    · refine z_aload_n C 0 dX4_write_18 rfl ?_
      refine z_getf C 0 zin_X4 (hR.1.1) (hR.1.2) rfl (Nat.le_of_ble_eq_true rfl) zl_1_55 rfl rfl dX4_write_19 ?_
      refine z_iload_n C 1 dX4_write_22 rfl ?_
      refine z_iald C (hR.2) (by omega) (by omega) (by omega) dX4_write_23 ?_
      refine z_istore_n (ls' := [(3, .int (iI ((σ) i))), (0, .ref r), (1, .int (iI i)), (2, .int (iI x))]) C dX4_write_24 (Nat.le_of_ble_eq_true rfl) rfl ?_
      refine z_aload_n C 1 dX4_write_25 rfl ?_
      refine z_getf C 0 zin_X4 (hR.1.1) (hR.1.2) rfl (Nat.le_of_ble_eq_true rfl) zl_1_55 rfl rfl dX4_write_26 ?_
      refine z_iload_n C 2 dX4_write_29 rfl ?_
      refine z_iload_n C 3 dX4_write_30 rfl ?_
      refine z_iast C (hR.2) (by omega) (by omega) (by omega) dX4_write_31 (fun f1 ha2 hk3 => ?_)
      refine z_iload_n C 0 dX4_write_32 rfl ?_
      exact z_ireturn C dX4_write_33 (Nat.le_of_ble_eq_true rfl) (Nat.le_of_ble_eq_true rfl) ⟨rfl, by unfold zwr; rw [if_pos (by omega)]; exact ha2, hk3, by unfold zrd; rw [if_pos (by omega)]⟩
    · refine z_aload_n C 0 dX4_write_13 rfl ?_
      refine z_getf C 1 zin_X4 (hR.1.1) (hR.1.2) rfl (Nat.le_of_ble_eq_true rfl) zl_1_56 rfl rfl dX4_write_14 ?_
      exact z_ireturn C dX4_write_17 (Nat.le_of_ble_eq_true rfl) (Nat.le_of_ble_eq_true rfl) ⟨rfl, by unfold zwr; rw [if_neg (by omega)]; exact hR.2, fun c _ => rfl, by unfold zrd; rw [if_neg (by omega)]⟩

set_option maxRecDepth 100000 in
set_option maxHeartbeats 200000 in
theorem c_clear {la : Launch} {G : zG} {X : (Nat → Prop) → State → Prop} (hX : zX X) {L : List Nat} {f : Nat → va_E} {r a n : Nat} {b : Int} {σ : Int → Int} (hR : zRow G L f r a n b σ)  (hn : n < 100000) : zM la G X yX4_clear (.code yX4_clear cX4_clear 1 none :: zT) 1 0 0 [.ref r] L f zeV (fun _ L' f' => L = L' ∧ zA G 0 L f' a n (fun _ => b) ∧ ∀ c, c ≠ a → f' c = f c) := by
  refine zM_intro hX (by decide) (Nat.le_of_ble_eq_true rfl) (fun pZ eZ sZ mZ aZ bZ hZ cZ AZ C hini => ?_)
  change ZW G pZ la eZ (zRm 1 0 0) sZ mZ aZ bZ hZ cZ AZ 1 0 0 _ L f 0 [(0, .ref r)] []
  refine z_aload_n C 0 dX4_clear_0 rfl ?_
  refine z_getf C 0 zin_X4 (hR.1.1) (hR.1.2) rfl (Nat.le_of_ble_eq_true rfl) zl_1_55 rfl rfl dX4_clear_1 ?_
  refine z_aload_n C 0 dX4_clear_4 rfl ?_
  refine z_getf C 1 zin_X4 (hR.1.1) (hR.1.2) rfl (Nat.le_of_ble_eq_true rfl) zl_1_56 rfl rfl dX4_clear_5 ?_
  refine z_cS (As := [.ref a, .int (iI b)]) C zc_J7_fill_53178 (c_fill hX hR.2 b (by omega)) zl_1_52 (Nat.le_of_ble_eq_true rfl) (Nat.le_of_ble_eq_true rfl) (Nat.le_of_ble_eq_true rfl) rfl rfl (Nat.le_of_ble_eq_true rfl) dX4_clear_8 (fun z3 L4 f5 hz6 => ?_)
  obtain ⟨rfl, hA1, hk2⟩ := hz6
  change ZW G pZ la eZ (zRm 1 0 0) sZ mZ aZ bZ hZ cZ AZ 1 0 0 _ L f5 11 [(0, .ref r)] []
  exact z_vreturn C dX4_clear_11 (Nat.le_of_ble_eq_true rfl) (Nat.le_of_ble_eq_true rfl) ⟨rfl, hA1, hk2⟩

set_option maxRecDepth 100000 in
set_option maxHeartbeats 200000 in
theorem c_cellNumber {la : Launch} {G : zG} {X : (Nat → Prop) → State → Prop} (hX : zX X) {L : List Nat} {f : Nat → va_E} (c r : Int) (hc : zR c) (hr : zR r) : zM la G X yX6_cellNumber (.code yX6_cellNumber cX6_cellNumber 3 (some .int) :: zT) 0 0 0 [.int (iI c), .int (iI r)] L f zeI (zRd L f (fun z => z = zcell c r)) := by
  refine zM_intro hX (by decide) (Nat.le_of_ble_eq_true rfl) (fun pZ eZ sZ mZ aZ bZ hZ cZ AZ C hini => ?_)
  change ZW G pZ la eZ (zRm 0 0 0) sZ mZ aZ bZ hZ cZ AZ 3 0 0 _ L f 0 [(0, .int (iI c)), (1, .int (iI r))] []
  have J25 : ∀ (w : Int)   (hj25 : w = 0 ∧ ¬ (0 ≤ c ∧ c ≤ 19 ∧ 0 ≤ r ∧ r ≤ 11) ∨ w = 1 ∧ (0 ≤ c ∧ c ≤ 19 ∧ 0 ≤ r ∧ r ≤ 11)), ZW G pZ la eZ (zRm 0 0 0) sZ mZ aZ bZ hZ cZ AZ 3 0 0 (MQ bZ (zQ G zeI (zRd L f (fun z => z = zcell c r)) AZ) aZ sZ 0 0 AZ) L f 25 [(0, .int (iI c)), (1, .int (iI r))] [.int (iI w)] := by
    intro w   hj25
    have hw := hj25
    refine z_istore_n (ls' := [(2, .int (iI w)), (0, .int (iI c)), (1, .int (iI r))]) C dX6_cellNumber_25 (Nat.le_of_ble_eq_true rfl) rfl ?_
    refine z_iload_n C 0 dX6_cellNumber_26 rfl ?_
    refine z_if_eq C 39 dX6_cellNumber_27 (by decide) (by omega) (fun h27 => ?_) (fun h27 => ?_)
    · refine z_iconst C dX6_cellNumber_39 ?_
      exact z_ireturn C dX6_cellNumber_40 (Nat.le_of_ble_eq_true rfl) (Nat.le_of_ble_eq_true rfl) ⟨by unfold zcell; first | (rw [if_pos (by omega)]; omega) | rw [if_neg (by omega)], rfl, rfl⟩
    · refine z_iload_n C 2 dX6_cellNumber_30 rfl ?_
      refine z_bipush C dX6_cellNumber_31 (by decide) ?_
      refine z_imul C dX6_cellNumber_33 ?_
      refine z_iload_n C 1 dX6_cellNumber_34 rfl ?_
      refine z_iadd C dX6_cellNumber_35 ?_
      refine z_goto C 40 dX6_cellNumber_36 (by decide) ?_
      exact z_ireturn C dX6_cellNumber_40 (Nat.le_of_ble_eq_true rfl) (Nat.le_of_ble_eq_true rfl) ⟨by unfold zcell; first | (rw [if_pos (by omega)]; omega) | rw [if_neg (by omega)], rfl, rfl⟩
  refine z_iload_n C 0 dX6_cellNumber_0 rfl ?_
  refine z_if_lt C 24 dX6_cellNumber_1 (by decide) (by omega) (fun h1 => ?_) (fun h1 => ?_)
  · refine z_iconst C dX6_cellNumber_24 ?_
    refine z_perm [0, 1] rfl ?_
    exact J25 _  (by omega)
  · refine z_iload_n C 0 dX6_cellNumber_4 rfl ?_
    refine z_bipush C dX6_cellNumber_5 (by decide) ?_
    refine z_icmp_ge C 24 dX6_cellNumber_7 (by decide) (by omega) (by omega) (fun h7 => ?_) (fun h7 => ?_)
    · refine z_iconst C dX6_cellNumber_24 ?_
      refine z_perm [0, 1] rfl ?_
      exact J25 _  (by omega)
    · refine z_iload_n C 1 dX6_cellNumber_10 rfl ?_
      refine z_if_lt C 24 dX6_cellNumber_11 (by decide) (by omega) (fun h11 => ?_) (fun h11 => ?_)
      · refine z_iconst C dX6_cellNumber_24 ?_
        refine z_perm [0, 1] rfl ?_
        exact J25 _  (by omega)
      · refine z_iload_n C 1 dX6_cellNumber_14 rfl ?_
        refine z_bipush C dX6_cellNumber_15 (by decide) ?_
        refine z_icmp_ge C 24 dX6_cellNumber_17 (by decide) (by omega) (by omega) (fun h17 => ?_) (fun h17 => ?_)
        · refine z_iconst C dX6_cellNumber_24 ?_
          refine z_perm [0, 1] rfl ?_
          exact J25 _  (by omega)
        · refine z_iconst C dX6_cellNumber_20 ?_
          refine z_goto C 25 dX6_cellNumber_21 (by decide) ?_
          refine z_perm [0, 1] rfl ?_
          exact J25 _  (by omega)

set_option maxRecDepth 100000 in
set_option maxHeartbeats 200000 in
theorem c_hourNumber {la : Launch} {G : zG} {X : (Nat → Prop) → State → Prop} (hX : zX X) {L : List Nat} {f : Nat → va_E} (d h : Int) (hd : zR d) (hh : zR h) : zM la G X yX6_hourNumber (.code yX6_hourNumber cX6_hourNumber 3 (some .int) :: zT) 0 0 0 [.int (iI d), .int (iI h)] L f zeI (zRd L f (fun z => z = zhour d h)) := by
  refine zM_intro hX (by decide) (Nat.le_of_ble_eq_true rfl) (fun pZ eZ sZ mZ aZ bZ hZ cZ AZ C hini => ?_)
  change ZW G pZ la eZ (zRm 0 0 0) sZ mZ aZ bZ hZ cZ AZ 3 0 0 _ L f 0 [(0, .int (iI d)), (1, .int (iI h))] []
  have J25 : ∀ (w : Int)   (hj25 : w = 0 ∧ ¬ (0 ≤ d ∧ d ≤ 9 ∧ 0 ≤ h ∧ h ≤ 23) ∨ w = 1 ∧ (0 ≤ d ∧ d ≤ 9 ∧ 0 ≤ h ∧ h ≤ 23)), ZW G pZ la eZ (zRm 0 0 0) sZ mZ aZ bZ hZ cZ AZ 3 0 0 (MQ bZ (zQ G zeI (zRd L f (fun z => z = zhour d h)) AZ) aZ sZ 0 0 AZ) L f 25 [(0, .int (iI d)), (1, .int (iI h))] [.int (iI w)] := by
    intro w   hj25
    have hw := hj25
    refine z_istore_n (ls' := [(2, .int (iI w)), (0, .int (iI d)), (1, .int (iI h))]) C dX6_hourNumber_25 (Nat.le_of_ble_eq_true rfl) rfl ?_
    refine z_iload_n C 0 dX6_hourNumber_26 rfl ?_
    refine z_if_eq C 39 dX6_hourNumber_27 (by decide) (by omega) (fun h27 => ?_) (fun h27 => ?_)
    · refine z_iconst C dX6_hourNumber_39 ?_
      exact z_ireturn C dX6_hourNumber_40 (Nat.le_of_ble_eq_true rfl) (Nat.le_of_ble_eq_true rfl) ⟨by unfold zhour; first | (rw [if_pos (by omega)]; omega) | rw [if_neg (by omega)], rfl, rfl⟩
    · refine z_iload_n C 1 dX6_hourNumber_30 rfl ?_
      refine z_bipush C dX6_hourNumber_31 (by decide) ?_
      refine z_imul C dX6_hourNumber_33 ?_
      refine z_iload_n C 2 dX6_hourNumber_34 rfl ?_
      refine z_iadd C dX6_hourNumber_35 ?_
      refine z_goto C 40 dX6_hourNumber_36 (by decide) ?_
      exact z_ireturn C dX6_hourNumber_40 (Nat.le_of_ble_eq_true rfl) (Nat.le_of_ble_eq_true rfl) ⟨by unfold zhour; first | (rw [if_pos (by omega)]; omega) | rw [if_neg (by omega)], rfl, rfl⟩
  refine z_iload_n C 0 dX6_hourNumber_0 rfl ?_
  refine z_if_lt C 24 dX6_hourNumber_1 (by decide) (by omega) (fun h1 => ?_) (fun h1 => ?_)
  · refine z_iconst C dX6_hourNumber_24 ?_
    refine z_perm [0, 1] rfl ?_
    exact J25 _  (by omega)
  · refine z_iload_n C 0 dX6_hourNumber_4 rfl ?_
    refine z_bipush C dX6_hourNumber_5 (by decide) ?_
    refine z_icmp_ge C 24 dX6_hourNumber_7 (by decide) (by omega) (by omega) (fun h7 => ?_) (fun h7 => ?_)
    · refine z_iconst C dX6_hourNumber_24 ?_
      refine z_perm [0, 1] rfl ?_
      exact J25 _  (by omega)
    · refine z_iload_n C 1 dX6_hourNumber_10 rfl ?_
      refine z_if_lt C 24 dX6_hourNumber_11 (by decide) (by omega) (fun h11 => ?_) (fun h11 => ?_)
      · refine z_iconst C dX6_hourNumber_24 ?_
        refine z_perm [0, 1] rfl ?_
        exact J25 _  (by omega)
      · refine z_iload_n C 1 dX6_hourNumber_14 rfl ?_
        refine z_bipush C dX6_hourNumber_15 (by decide) ?_
        refine z_icmp_ge C 24 dX6_hourNumber_17 (by decide) (by omega) (by omega) (fun h17 => ?_) (fun h17 => ?_)
        · refine z_iconst C dX6_hourNumber_24 ?_
          refine z_perm [0, 1] rfl ?_
          exact J25 _  (by omega)
        · refine z_iconst C dX6_hourNumber_20 ?_
          refine z_goto C 25 dX6_hourNumber_21 (by decide) ?_
          refine z_perm [0, 1] rfl ?_
          exact J25 _  (by omega)

set_option maxRecDepth 100000 in
set_option maxHeartbeats 200000 in
theorem c_floorDiv {la : Launch} {G : zG} {X : (Nat → Prop) → State → Prop} (hX : zX X) {L : List Nat} {f : Nat → va_E} (a b : Int) (ha : zR a) (hb : 0 < b ∧ b < 2147483648) : zM la G X yJ9_floorDiv_7cf53 (.code yJ9_floorDiv_7cf53 cJ9_floorDiv_7cf53 3 (some .int) :: zT) 0 0 0 [.int (iI a), .int (iI b)] L f zeI (zRd L f (fun z => z = a / b)) := by
  refine zM_introF hX (by decide +kernel) (Nat.le_of_ble_eq_true rfl) (fun pZ eZ sZ mZ aZ bZ hZ cZ AZ C hini => ?_)
  change ZW G pZ la eZ (zRm 0 0 0) sZ mZ aZ bZ hZ cZ AZ 3 0 0 _ L f 0 [(0, .int (iI a)), (1, .int (iI b))] []
  refine z_iload_n C 0 dJ9_floorDiv_7cf53_0 rfl ?_
  refine z_iload_n C 1 dJ9_floorDiv_7cf53_1 rfl ?_
  refine z_idiv C dJ9_floorDiv_7cf53_2 (by omega) (by omega) ?_
  refine z_nm (fun q hq => ?_)
  refine z_istore_n (ls' := [(2, .int (iI q)), (0, .int (iI a)), (1, .int (iI b))]) C dJ9_floorDiv_7cf53_3 (Nat.le_of_ble_eq_true rfl) rfl ?_
  have hz := zfd hb.1 hq
  refine z_iload_n C 1 dJ9_floorDiv_7cf53_4 rfl ?_
  refine z_iload_n C 2 dJ9_floorDiv_7cf53_5 rfl ?_
  refine z_ixorS C dJ9_floorDiv_7cf53_6 (by omega) (by omega) (fun w1 hrw1 hsw1 => ?_)
  refine z_if_ge C 21 dJ9_floorDiv_7cf53_7 (by decide) (by omega) (fun h7 => ?_) (fun h7 => ?_)
  · refine z_iload_n C 0 dJ9_floorDiv_7cf53_21 rfl ?_
    exact z_ireturn C dJ9_floorDiv_7cf53_22 (Nat.le_of_ble_eq_true rfl) (Nat.le_of_ble_eq_true rfl) ⟨by omega, rfl, rfl⟩
  · refine z_iload_n C 0 dJ9_floorDiv_7cf53_10 rfl ?_
    refine z_iload_n C 2 dJ9_floorDiv_7cf53_11 rfl ?_
    refine z_imul C dJ9_floorDiv_7cf53_12 ?_
    refine z_iload_n C 1 dJ9_floorDiv_7cf53_13 rfl ?_
    refine z_icmp_eq C 21 dJ9_floorDiv_7cf53_14 (by decide) (by omega) (by omega) (fun h14 => ?_) (fun h14 => ?_)
    · refine z_iload_n C 0 dJ9_floorDiv_7cf53_21 rfl ?_
      exact z_ireturn C dJ9_floorDiv_7cf53_22 (Nat.le_of_ble_eq_true rfl) (Nat.le_of_ble_eq_true rfl) ⟨by omega, rfl, rfl⟩
    · refine z_iload_n C 0 dJ9_floorDiv_7cf53_17 rfl ?_
      refine z_iconst C dJ9_floorDiv_7cf53_18 ?_
      refine z_isub C dJ9_floorDiv_7cf53_19 ?_
      exact z_ireturn C dJ9_floorDiv_7cf53_20 (Nat.le_of_ble_eq_true rfl) (Nat.le_of_ble_eq_true rfl) ⟨by omega, rfl, rfl⟩
