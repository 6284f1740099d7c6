set_option maxRecDepth 100000 in
set_option maxHeartbeats 200000 in
theorem c_X7_failures {la : Launch} {G : zG} {X : (Nat → Prop) → State → Prop} (hX : zX X) {L : List Nat} {f : Nat → va_E} {o : Nat} {ad : Nat → Nat} {μ : zMu} {t : Int} {u v : Int → Int} (hM : MR G L f o ad μ t u v) (h11 : ∀ i, 0 ≤ i → i < 720 → 0 ≤ μ 11 i ∧ μ 11 i ≤ 1) (g d : Int) (hg : 0 ≤ g ∧ g ≤ 2) (hd : 0 ≤ d ∧ d ≤ 9) : zM la G X yX7_failures (.code yX7_failures cX7_failures 5 (some .int) :: zT) 0 0 0 [.ref o, .int (iI g), .int (iI d)] L f zeI (zRd L f (fun z => z = zcnt (μ 11) (240 * g + 24 * d) 24)) := by
  refine zM_intro hX (by decide) (Nat.le_of_ble_eq_true rfl) (fun pZ eZ sZ mZ aZ bZ hZ cZ AZ C hini => ?_)
  change ZW G pZ la eZ (zRm 0 0 0) sZ mZ aZ bZ hZ cZ AZ 5 0 0 _ L f 0 [(0, .ref o), (1, .int (iI g)), (2, .int (iI d))] []
  have hNO : zNO = -2147483648 := rfl
  
  refine z_iconst C dX7_failures_0 ?_
  refine z_istore_n (ls' := [(3, .int (iI 0)), (0, .ref o), (1, .int (iI g)), (2, .int (iI d))]) C dX7_failures_1 (Nat.le_of_ble_eq_true rfl) rfl ?_
  refine z_iconst C dX7_failures_2 ?_
  refine z_istore (ls' := [(4, .int (iI 0)), (3, .int (iI 0)), (0, .ref o), (1, .int (iI g)), (2, .int (iI d))]) C dX7_failures_3 (Nat.le_of_ble_eq_true rfl) rfl ?_
  have key5 : ∀ (n5 : Nat) (many : Int) (k : Int) , (0 ≤ k ∧ k ≤ 24 ∧ many = zcnt (μ 11) (240 * g + 24 * d) k.toNat) → 24 - k < (n5 : Int) → ZW G pZ la eZ (zRm 0 0 0) sZ mZ aZ bZ hZ cZ AZ 5 0 0 (MQ bZ (zQ G zeI (zRd L f (fun z => z = zcnt (μ 11) (240 * g + 24 * d) 24)) AZ) aZ sZ 0 0 AZ) L f 5 [(0, .ref o), (1, .int (iI g)), (2, .int (iI d)), (3, .int (iI many)), (4, .int (iI k))] [] := by
    intro n5
    induction n5 with
    | zero => intro many k  hi5 hn5; exfalso; omega
    | succ n5 ih5 =>
      intro many k  hi5 hn5
      obtain ⟨hk0, hk1, hmany⟩ := hi5
      refine z_iload C 4 dX7_failures_5 rfl ?_
      refine z_bipush C dX7_failures_7 (by decide) ?_
      refine z_icmp_ge C 47 dX7_failures_9 (by decide) (by omega) (by omega) (fun h9 => ?_) (fun h9 => ?_)
      · refine z_iload_n C 3 dX7_failures_47 rfl ?_
        exact z_ireturn C dX7_failures_48 (Nat.le_of_ble_eq_true rfl) (Nat.le_of_ble_eq_true rfl) ⟨by rw [hmany]; congr 1; omega, rfl, rfl⟩
      · refine z_iload_n C 3 dX7_failures_12 rfl ?_
        refine z_aload_n C 0 dX7_failures_13 rfl ?_
        refine z_getf C 11 zin_X7 (hM.1.1) (hM.1.2) rfl (Nat.le_of_ble_eq_true rfl) zl_6_109 rfl rfl dX7_failures_14 ?_
        refine z_sipush C dX7_failures_17 (by decide) ?_
        refine z_iload_n C 1 dX7_failures_20 rfl ?_
        refine z_imul C dX7_failures_21 ?_
        refine z_bipush C dX7_failures_22 (by decide) ?_
        refine z_iload_n C 2 dX7_failures_24 rfl ?_
        refine z_imul C dX7_failures_25 ?_
        refine z_iadd C dX7_failures_26 ?_
        refine z_iload C 4 dX7_failures_27 rfl ?_
        refine z_iadd C dX7_failures_29 ?_
        refine z_zald C (MR_a11 hM) (by omega) (by omega) (by omega) dX7_failures_30 ?_
        have hb1 := h11 (((240 * g) + (24 * d)) + k) (by omega) (by omega)
        refine z_if_eq C 38 dX7_failures_31 (by decide) (by omega) (fun h31 => ?_) (fun h31 => ?_)
        · refine z_iconst C dX7_failures_38 ?_
          refine z_iadd C dX7_failures_39 ?_
          refine z_nm (fun x2 hx2 => ?_)
          refine z_istore_n (ls' := [(3, .int (iI x2)), (0, .ref o), (1, .int (iI g)), (2, .int (iI d)), (4, .int (iI k))]) C dX7_failures_40 (Nat.le_of_ble_eq_true rfl) rfl ?_
          refine z_iinc (ls' := [(4, .int (iI (k + 1))), (3, .int (iI x2)), (0, .ref o), (1, .int (iI g)), (2, .int (iI d))]) C 4 dX7_failures_41 rfl (Nat.le_of_ble_eq_true rfl) rfl ?_
          refine z_goto C 5 dX7_failures_44 (by decide) ?_
          refine z_perm [2, 3, 4, 1, 0] rfl ?_
          exact ih5 _ _  ⟨by omega, by omega, by have q := zcnt_s (μ 11) (240 * g + 24 * d) (k := k) (by omega); split at q <;> omega⟩ (by omega)
        · refine z_iconst C dX7_failures_34 ?_
          refine z_goto C 39 dX7_failures_35 (by decide) ?_
          refine z_iadd C dX7_failures_39 ?_
          refine z_nm (fun x3 hx3 => ?_)
          refine z_istore_n (ls' := [(3, .int (iI x3)), (0, .ref o), (1, .int (iI g)), (2, .int (iI d)), (4, .int (iI k))]) C dX7_failures_40 (Nat.le_of_ble_eq_true rfl) rfl ?_
          refine z_iinc (ls' := [(4, .int (iI (k + 1))), (3, .int (iI x3)), (0, .ref o), (1, .int (iI g)), (2, .int (iI d))]) C 4 dX7_failures_41 rfl (Nat.le_of_ble_eq_true rfl) rfl ?_
          refine z_goto C 5 dX7_failures_44 (by decide) ?_
          refine z_perm [2, 3, 4, 1, 0] rfl ?_
          exact ih5 _ _  ⟨by omega, by omega, by have q := zcnt_s (μ 11) (240 * g + 24 * d) (k := k) (by omega); split at q <;> omega⟩ (by omega)
  refine z_perm [2, 3, 4, 1, 0] rfl ?_
  exact key5 2000 _ _  ⟨by omega, by omega, rfl⟩ (by omega)

set_option maxRecDepth 100000 in
set_option maxHeartbeats 200000 in
theorem c_X7_noGauge {la : Launch} {G : zG} {X : (Nat → Prop) → State → Prop} (hX : zX X) {L : List Nat} {f : Nat → va_E} {o : Nat} {ad : Nat → Nat} {μ : zMu} {t : Int} {u v : Int → Int} (hM : MR G L f o ad μ t u v) (hI : MI μ) (g d h : Int) (hg : zR g) (hd : zR d) (hh : zR h) : zM la G X yX7_noGauge (.code yX7_noGauge cX7_noGauge 4 (some .boolean) :: zT) 2 0 0 [.ref o, .int (iI g), .int (iI d), .int (iI h)] L f zeI (fun z L' f' => L = L' ∧ ∃ t', MR G L f' o ad μ t' u v ∧ ((0 ≤ g ∧ g < μ 1 0 ∧ 0 ≤ d ∧ d ≤ 9 ∧ 0 ≤ h ∧ h ≤ 23) ∧ t' = 0 ∧ z = 0 ∨ ¬(0 ≤ g ∧ g < μ 1 0) ∧ t' = 1 ∧ z = 1 ∨ (0 ≤ g ∧ g < μ 1 0) ∧ ¬(0 ≤ d ∧ d ≤ 9 ∧ 0 ≤ h ∧ h ≤ 23) ∧ t' = 2 ∧ z = 1)) := by
  refine zM_intro hX (by decide) (Nat.le_of_ble_eq_true rfl) (fun pZ eZ sZ mZ aZ bZ hZ cZ AZ C hini => ?_)
  change ZW G pZ la eZ (zRm 2 0 0) sZ mZ aZ bZ hZ cZ AZ 4 0 0 _ L f 0 [(0, .ref o), (1, .int (iI g)), (2, .int (iI d)), (3, .int (iI h))] []
  have hn9 := hI.n
  have hNO : zNO = -2147483648 := rfl
  
  refine z_iload_n C 1 dX7_noGauge_0 rfl ?_
  refine z_iconst C dX7_noGauge_1 ?_
  refine z_aload_n C 0 dX7_noGauge_2 rfl ?_
  refine z_getf C 1 zin_X7 (hM.1.1) (hM.1.2) rfl (Nat.le_of_ble_eq_true rfl) zl_6_99 rfl rfl dX7_noGauge_3 ?_
  refine z_iconst C dX7_noGauge_6 ?_
  refine z_isub C dX7_noGauge_7 ?_
  refine z_cS (As := [.int (iI g), .int (iI 0), .int (iI ((μ 1 0) - 1))]) C zc_X7_isIn (c_X7_isIn hX g 0 ((μ 1 0) - 1) (by omega) (by omega) (by omega)) zl_6_176 (Nat.le_of_ble_eq_true rfl) (Nat.le_of_ble_eq_true rfl) (Nat.le_of_ble_eq_true rfl) rfl rfl (Nat.le_of_ble_eq_true rfl) dX7_noGauge_8 (fun z1 L2 f3 hz4 => ?_)
  obtain ⟨hz4, rfl, rfl⟩ := hz4
  subst hz4
  change ZW G pZ la eZ (zRm 2 0 0) sZ mZ aZ bZ hZ cZ AZ 4 0 0 _ L f 11 [(0, .ref o), (1, .int (iI g)), (2, .int (iI d)), (3, .int (iI h))] [.int (iI (bI (0 ≤ g ∧ g ≤ (μ 1 0) - 1)))]
  refine z_if_eq_b C 25 dX7_noGauge_11 (by decide) (fun h11 => ?_) (fun h11 => ?_)
  · refine z_aload_n C 0 dX7_noGauge_25 rfl ?_
    refine z_iload_n C 1 dX7_noGauge_26 rfl ?_
    refine z_iconst C dX7_noGauge_27 ?_
    refine z_aload_n C 0 dX7_noGauge_28 rfl ?_
    refine z_getf C 1 zin_X7 (hM.1.1) (hM.1.2) rfl (Nat.le_of_ble_eq_true rfl) zl_6_99 rfl rfl dX7_noGauge_29 ?_
    refine z_iconst C dX7_noGauge_32 ?_
    refine z_isub C dX7_noGauge_33 ?_
    refine z_cS (As := [.int (iI g), .int (iI 0), .int (iI ((μ 1 0) - 1))]) C zc_X7_isIn (c_X7_isIn hX g 0 ((μ 1 0) - 1) (by omega) (by omega) (by omega)) zl_6_176 (Nat.le_of_ble_eq_true rfl) (Nat.le_of_ble_eq_true rfl) (Nat.le_of_ble_eq_true rfl) rfl rfl (Nat.le_of_ble_eq_true rfl) dX7_noGauge_34 (fun z5 L6 f7 hz8 => ?_)
    obtain ⟨hz8, rfl, rfl⟩ := hz8
    subst hz8
    change ZW G pZ la eZ (zRm 2 0 0) sZ mZ aZ bZ hZ cZ AZ 4 0 0 _ L f 37 [(0, .ref o), (1, .int (iI g)), (2, .int (iI d)), (3, .int (iI h))] [.int (iI (bI (0 ≤ g ∧ g ≤ (μ 1 0) - 1))), .ref o]
    refine z_if_eq_b C 44 dX7_noGauge_37 (by decide) (fun h37 => ?_) (fun h37 => ?_)
    · refine z_iconst C dX7_noGauge_44 ?_
      refine m_put0 C hM dX7_noGauge_45 (fun f9 hM10 => ?_)
      refine z_iconst C dX7_noGauge_48 ?_
      exact z_zreturn C (by first | omega | (unfold bI; split <;> omega)) dX7_noGauge_49 (Nat.le_of_ble_eq_true rfl) (Nat.le_of_ble_eq_true rfl) ⟨rfl, _, hM10, by omega⟩
    · refine z_iconst C dX7_noGauge_40 ?_
      refine z_goto C 45 dX7_noGauge_41 (by decide) ?_
      refine m_put0 C hM dX7_noGauge_45 (fun f11 hM12 => ?_)
      refine z_iconst C dX7_noGauge_48 ?_
      exact z_zreturn C (by first | omega | (unfold bI; split <;> omega)) dX7_noGauge_49 (Nat.le_of_ble_eq_true rfl) (Nat.le_of_ble_eq_true rfl) ⟨rfl, _, hM12, by omega⟩
  · refine z_aload_n C 0 dX7_noGauge_14 rfl ?_
    refine z_iload_n C 2 dX7_noGauge_15 rfl ?_
    refine z_iload_n C 3 dX7_noGauge_16 rfl ?_
    refine z_cV (As := [.int (iI d), .int (iI h)]) C zc_X7_noHour (c_X7_noHour hX hM d h (by omega) (by omega) ) zl_6_187 (Nat.le_of_ble_eq_true rfl) (Nat.le_of_ble_eq_true rfl) (Nat.le_of_ble_eq_true rfl) (hM.1.1) (hM.1.2) rfl rfl rfl rfl (Nat.le_of_ble_eq_true rfl) dX7_noGauge_17 (fun z16 L17 f18 hz19 => ?_)
    obtain ⟨rfl, t14, hM13, he15⟩ := hz19
    change ZW G pZ la eZ (zRm 2 0 0) sZ mZ aZ bZ hZ cZ AZ 4 0 0 _ L f18 20 [(0, .ref o), (1, .int (iI g)), (2, .int (iI d)), (3, .int (iI h))] [.int (iI z16)]
    refine z_if_ne C 25 dX7_noGauge_20 (by decide) (by omega) (fun h20 => ?_) (fun h20 => ?_)
    · refine z_aload_n C 0 dX7_noGauge_25 rfl ?_
      refine z_iload_n C 1 dX7_noGauge_26 rfl ?_
      refine z_iconst C dX7_noGauge_27 ?_
      refine z_aload_n C 0 dX7_noGauge_28 rfl ?_
      refine z_getf C 1 zin_X7 (hM13.1.1) (hM13.1.2) rfl (Nat.le_of_ble_eq_true rfl) zl_6_99 rfl rfl dX7_noGauge_29 ?_
      refine z_iconst C dX7_noGauge_32 ?_
      refine z_isub C dX7_noGauge_33 ?_
      refine z_cS (As := [.int (iI g), .int (iI 0), .int (iI ((μ 1 0) - 1))]) C zc_X7_isIn (c_X7_isIn hX g 0 ((μ 1 0) - 1) (by omega) (by omega) (by omega)) zl_6_176 (Nat.le_of_ble_eq_true rfl) (Nat.le_of_ble_eq_true rfl) (Nat.le_of_ble_eq_true rfl) rfl rfl (Nat.le_of_ble_eq_true rfl) dX7_noGauge_34 (fun z20 L21 f22 hz23 => ?_)
      obtain ⟨hz23, rfl, rfl⟩ := hz23
      subst hz23
      change ZW G pZ la eZ (zRm 2 0 0) sZ mZ aZ bZ hZ cZ AZ 4 0 0 _ L f18 37 [(0, .ref o), (1, .int (iI g)), (2, .int (iI d)), (3, .int (iI h))] [.int (iI (bI (0 ≤ g ∧ g ≤ (μ 1 0) - 1))), .ref o]
      refine z_if_eq_b C 44 dX7_noGauge_37 (by decide) (fun h37 => ?_) (fun h37 => ?_)
      · refine z_iconst C dX7_noGauge_44 ?_
        refine m_put0 C hM13 dX7_noGauge_45 (fun f24 hM25 => ?_)
        refine z_iconst C dX7_noGauge_48 ?_
        exact z_zreturn C (by first | omega | (unfold bI; split <;> omega)) dX7_noGauge_49 (Nat.le_of_ble_eq_true rfl) (Nat.le_of_ble_eq_true rfl) ⟨rfl, _, hM25, by omega⟩
      · refine z_iconst C dX7_noGauge_40 ?_
        refine z_goto C 45 dX7_noGauge_41 (by decide) ?_
        refine m_put0 C hM13 dX7_noGauge_45 (fun f26 hM27 => ?_)
        refine z_iconst C dX7_noGauge_48 ?_
        exact z_zreturn C (by first | omega | (unfold bI; split <;> omega)) dX7_noGauge_49 (Nat.le_of_ble_eq_true rfl) (Nat.le_of_ble_eq_true rfl) ⟨rfl, _, hM27, by omega⟩
    · refine z_iconst C dX7_noGauge_23 ?_
      exact z_zreturn C (by first | omega | (unfold bI; split <;> omega)) dX7_noGauge_24 (Nat.le_of_ble_eq_true rfl) (Nat.le_of_ble_eq_true rfl) ⟨rfl, _, hM13, by omega⟩

set_option maxRecDepth 100000 in
set_option maxHeartbeats 200000 in
theorem c_X7_addGauge {la : Launch} {G : zG} {X : (Nat → Prop) → State → Prop} (hX : zX X) {L : List Nat} {f : Nat → va_E} {o : Nat} {ad : Nat → Nat} {μ : zMu} {t : Int} {u v : Int → Int} (hM : MR G L f o ad μ t u v) (hI : MI μ) (c : Int) (hc : zR c) : zM la G X yX7_addGauge (.code yX7_addGauge cX7_addGauge 3 (some .int) :: zT) 2 0 0 [.ref o, .int (iI c)] L f zeI (fun z L' f' => L = L' ∧ ∃ t' μ' u' v', MR G L f' o ad μ' t' u' v' ∧ o_addGauge μ c = (t', if t' = 0 then z else 0, μ')) := by
  refine zM_intro hX (by decide) (Nat.le_of_ble_eq_true rfl) (fun pZ eZ sZ mZ aZ bZ hZ cZ AZ C hini => ?_)
  change ZW G pZ la eZ (zRm 2 0 0) sZ mZ aZ bZ hZ cZ AZ 3 0 0 _ L f 0 [(0, .ref o), (1, .int (iI c))] []
  have hn9 := hI.n
  have hNO : zNO = -2147483648 := rfl
  
  refine z_aload_n C 0 dX7_addGauge_0 rfl ?_
  refine z_iload_n C 1 dX7_addGauge_1 rfl ?_
  refine z_iconst C dX7_addGauge_2 ?_
  refine z_cV (As := [.int (iI c), .int (iI 0)]) C zc_X7_noCell (c_X7_noCell hX hM c 0 (by omega) (by omega) ) zl_6_172 (Nat.le_of_ble_eq_true rfl) (Nat.le_of_ble_eq_true rfl) (Nat.le_of_ble_eq_true rfl) (hM.1.1) (hM.1.2) rfl rfl rfl rfl (Nat.le_of_ble_eq_true rfl) dX7_addGauge_3 (fun z4 L5 f6 hz7 => ?_)
  obtain ⟨rfl, t2, hM1, he3⟩ := hz7
  change ZW G pZ la eZ (zRm 2 0 0) sZ mZ aZ bZ hZ cZ AZ 3 0 0 _ L f6 6 [(0, .ref o), (1, .int (iI c))] [.int (iI z4)]
  refine z_if_eq C 11 dX7_addGauge_6 (by decide) (by omega) (fun h6 => ?_) (fun h6 => ?_)
  · refine z_iconst C dX7_addGauge_11 ?_
    refine z_istore_n (ls' := [(2, .int (iI 0)), (0, .ref o), (1, .int (iI c))]) C dX7_addGauge_12 (Nat.le_of_ble_eq_true rfl) rfl ?_
    have key13 : ∀ (n13 : Nat) (g : Int) , (0 ≤ g ∧ g ≤ μ 1 0 ∧ ∀ j, 0 ≤ j → j < g → μ 8 j ≠ c) → μ 1 0 - g < (n13 : Int) → ZW G pZ la eZ (zRm 2 0 0) sZ mZ aZ bZ hZ cZ AZ 3 0 0 (MQ bZ (zQ G zeI (fun z L' f' => L = L' ∧ ∃ t' μ' u' v', MR G L f' o ad μ' t' u' v' ∧ o_addGauge μ c = (t', if t' = 0 then z else 0, μ')) AZ) aZ sZ 0 0 AZ) L f6 13 [(0, .ref o), (1, .int (iI c)), (2, .int (iI g))] [] := by
      intro n13
      induction n13 with
      | zero => intro g  hi13 hn13; exfalso; omega
      | succ n13 ih13 =>
        intro g  hi13 hn13
        obtain ⟨hg0, hg1, hall⟩ := hi13
        refine z_iload_n C 2 dX7_addGauge_13 rfl ?_
        refine z_aload_n C 0 dX7_addGauge_14 rfl ?_
        refine z_getf C 1 zin_X7 (hM1.1.1) (hM1.1.2) rfl (Nat.le_of_ble_eq_true rfl) zl_6_99 rfl rfl dX7_addGauge_15 ?_
        refine z_icmp_ge C 43 dX7_addGauge_18 (by decide) (by omega) (by omega) (fun h18 => ?_) (fun h18 => ?_)
        · refine z_aload_n C 0 dX7_addGauge_43 rfl ?_
          refine z_getf C 1 zin_X7 (hM1.1.1) (hM1.1.2) rfl (Nat.le_of_ble_eq_true rfl) zl_6_99 rfl rfl dX7_addGauge_44 ?_
          refine z_iconst C dX7_addGauge_47 ?_
          refine z_icmp_ne C 57 dX7_addGauge_48 (by decide) (by omega) (by omega) (fun h48 => ?_) (fun h48 => ?_)
          · refine z_aload_n C 0 dX7_addGauge_57 rfl ?_
            refine z_getf C 8 zin_X7 (hM1.1.1) (hM1.1.2) rfl (Nat.le_of_ble_eq_true rfl) zl_6_106 rfl rfl dX7_addGauge_58 ?_
            refine z_aload_n C 0 dX7_addGauge_61 rfl ?_
            refine z_getf C 1 zin_X7 (hM1.1.1) (hM1.1.2) rfl (Nat.le_of_ble_eq_true rfl) zl_6_99 rfl rfl dX7_addGauge_62 ?_
            refine z_iload_n C 1 dX7_addGauge_65 rfl ?_
            refine z_iast C (MR_a8 hM1) (by omega) (by omega) (by omega) dX7_addGauge_66 (fun f8 ha9 hk10 => ?_)
            have hM11 := MR_w8 hM1 ha9 hk10
            have e9 : (zset μ 8 (zup (μ 8) (μ 1 0) c)) 1 0 = μ 1 0 := rfl
            refine z_aload_n C 0 dX7_addGauge_67 rfl ?_
            refine z_dup C dX7_addGauge_68 rfl ?_
            refine z_getf C 1 zin_X7 (hM11.1.1) (hM11.1.2) rfl (Nat.le_of_ble_eq_true rfl) zl_6_99 rfl rfl dX7_addGauge_69 ?_
            refine z_dup_x1 C dX7_addGauge_72 rfl rfl ?_
            refine z_iconst C dX7_addGauge_73 ?_
            refine z_iadd C dX7_addGauge_74 ?_
            refine m_put1 C hM11 dX7_addGauge_75 (fun f12 hM13 => ?_)
            exact z_ireturn C dX7_addGauge_78 (Nat.le_of_ble_eq_true rfl) (Nat.le_of_ble_eq_true rfl) ⟨rfl, _, _, _, _, hM13, by unfold o_addGauge; (rw [if_pos (by omega), zif_neg (fun ⟨j, q1, q2, q3⟩ => hall j q1 (by omega) q3), if_neg (by omega)]) <;> (refine Prod.ext ?_ (Prod.ext ?_ ?_) <;> first | rfl | omega | (dsimp only; omega) | (dsimp only; split <;> omega))⟩
          · refine z_aload_n C 0 dX7_addGauge_51 rfl ?_
            refine z_iconst C dX7_addGauge_52 ?_
            refine z_cV (As := [.int (iI 3)]) C zc_X7_refuse (c_X7_refuse hX hM1 3) zl_6_179 (Nat.le_of_ble_eq_true rfl) (Nat.le_of_ble_eq_true rfl) (Nat.le_of_ble_eq_true rfl) (hM1.1.1) (hM1.1.2) rfl rfl rfl rfl (Nat.le_of_ble_eq_true rfl) dX7_addGauge_53 (fun z15 L16 f17 hz18 => ?_)
            obtain ⟨rfl, rfl, hM14⟩ := hz18
            change ZW G pZ la eZ (zRm 2 0 0) sZ mZ aZ bZ hZ cZ AZ 3 0 0 _ L f17 56 [(0, .ref o), (1, .int (iI c)), (2, .int (iI g))] [.int (iI 0)]
            exact z_ireturn C dX7_addGauge_56 (Nat.le_of_ble_eq_true rfl) (Nat.le_of_ble_eq_true rfl) ⟨rfl, _, _, _, _, hM14, by unfold o_addGauge; (rw [if_pos (by omega), zif_neg (fun ⟨j, q1, q2, q3⟩ => hall j q1 (by omega) q3), if_pos (by omega)]) <;> (refine Prod.ext ?_ (Prod.ext ?_ ?_) <;> first | rfl | omega | (dsimp only; omega) | (dsimp only; split <;> omega))⟩
        · refine z_aload_n C 0 dX7_addGauge_21 rfl ?_
          refine z_getf C 8 zin_X7 (hM1.1.1) (hM1.1.2) rfl (Nat.le_of_ble_eq_true rfl) zl_6_106 rfl rfl dX7_addGauge_22 ?_
          refine z_iload_n C 2 dX7_addGauge_25 rfl ?_
          refine z_iald C (MR_a8 hM1) (by omega) (by omega) (by omega) dX7_addGauge_26 ?_
          have hb19 := hI.J.b8 g (by omega) (by omega)
          refine z_iload_n C 1 dX7_addGauge_27 rfl ?_
          refine z_icmp_ne C 37 dX7_addGauge_28 (by decide) (by omega) (by omega) (fun h28 => ?_) (fun h28 => ?_)
          · refine z_iinc (ls' := [(2, .int (iI (g + 1))), (0, .ref o), (1, .int (iI c))]) C 2 dX7_addGauge_37 rfl (Nat.le_of_ble_eq_true rfl) rfl ?_
            refine z_goto C 13 dX7_addGauge_40 (by decide) ?_
            refine z_perm [1, 2, 0] rfl ?_
            exact ih13 _  ⟨by omega, by omega, fun j q1 q2 => by rcases Int.lt_or_eq_of_le (show j ≤ g by omega) with q | q; exact hall j q1 q; rw [q]; omega⟩ (by omega)
          · refine z_aload_n C 0 dX7_addGauge_31 rfl ?_
            refine z_iconst C dX7_addGauge_32 ?_
            refine z_cV (As := [.int (iI 2)]) C zc_X7_refuse (c_X7_refuse hX hM1 2) zl_6_179 (Nat.le_of_ble_eq_true rfl) (Nat.le_of_ble_eq_true rfl) (Nat.le_of_ble_eq_true rfl) (hM1.1.1) (hM1.1.2) rfl rfl rfl rfl (Nat.le_of_ble_eq_true rfl) dX7_addGauge_33 (fun z21 L22 f23 hz24 => ?_)
            obtain ⟨rfl, rfl, hM20⟩ := hz24
            change ZW G pZ la eZ (zRm 2 0 0) sZ mZ aZ bZ hZ cZ AZ 3 0 0 _ L f23 36 [(0, .ref o), (1, .int (iI c)), (2, .int (iI g))] [.int (iI 0)]
            exact z_ireturn C dX7_addGauge_36 (Nat.le_of_ble_eq_true rfl) (Nat.le_of_ble_eq_true rfl) ⟨rfl, _, _, _, _, hM20, by unfold o_addGauge; (rw [if_pos (by omega), zif_pos ⟨g, by omega, by omega, by omega⟩]) <;> (refine Prod.ext ?_ (Prod.ext ?_ ?_) <;> first | rfl | omega | (dsimp only; omega) | (dsimp only; split <;> omega))⟩
    refine z_perm [1, 2, 0] rfl ?_
    exact key13 2000 _  ⟨by omega, by omega, fun j _ _ => by omega⟩ (by omega)
  · refine z_iconst C dX7_addGauge_9 ?_
    exact z_ireturn C dX7_addGauge_10 (Nat.le_of_ble_eq_true rfl) (Nat.le_of_ble_eq_true rfl) ⟨rfl, _, _, _, _, hM1, by unfold o_addGauge; (rw [if_neg (by omega)]) <;> (refine Prod.ext ?_ (Prod.ext ?_ ?_) <;> first | rfl | omega | (dsimp only; omega) | (dsimp only; split <;> omega))⟩

set_option maxRecDepth 100000 in
set_option maxHeartbeats 200000 in
theorem c_X7_fail {la : Launch} {G : zG} {X : (Nat → Prop) → State → Prop} (hX : zX X) {L : List Nat} {f : Nat → va_E} {o : Nat} {ad : Nat → Nat} {μ : zMu} {t : Int} {u v : Int → Int} (hM : MR G L f o ad μ t u v) (hI : MI μ) (g d h n : Int) (hg : zR g) (hd : zR d) (hh : zR h) (hn : zR n) : zM la G X yX7_fail (.code yX7_fail cX7_fail 6 (some .int) :: zT) 3 0 0 [.ref o, .int (iI g), .int (iI d), .int (iI h), .int (iI n)] L f zeI (fun z L' f' => L = L' ∧ ∃ t' μ' u' v', MR G L f' o ad μ' t' u' v' ∧ o_fail μ g d h n = (t', if t' = 0 then z else 0, μ')) := by
  refine zM_intro hX (by decide) (Nat.le_of_ble_eq_true rfl) (fun pZ eZ sZ mZ aZ bZ hZ cZ AZ C hini => ?_)
  change ZW G pZ la eZ (zRm 3 0 0) sZ mZ aZ bZ hZ cZ AZ 6 0 0 _ L f 0 [(0, .ref o), (1, .int (iI g)), (2, .int (iI d)), (3, .int (iI h)), (4, .int (iI n))] []
  have hn9 := hI.n
  have hNO : zNO = -2147483648 := rfl
  
  refine z_aload_n C 0 dX7_fail_0 rfl ?_
  refine z_iload_n C 1 dX7_fail_1 rfl ?_
  refine z_iload_n C 2 dX7_fail_2 rfl ?_
  refine z_iload_n C 3 dX7_fail_3 rfl ?_
  refine z_cV (As := [.int (iI g), .int (iI d), .int (iI h)]) C zc_X7_noGauge (c_X7_noGauge hX hM hI g d h (by omega) (by omega) (by omega) ) zl_6_222 (Nat.le_of_ble_eq_true rfl) (Nat.le_of_ble_eq_true rfl) (Nat.le_of_ble_eq_true rfl) (hM.1.1) (hM.1.2) rfl rfl rfl rfl (Nat.le_of_ble_eq_true rfl) dX7_fail_4 (fun z4 L5 f6 hz7 => ?_)
  obtain ⟨rfl, t2, hM1, he3⟩ := hz7
  change ZW G pZ la eZ (zRm 3 0 0) sZ mZ aZ bZ hZ cZ AZ 6 0 0 _ L f6 7 [(0, .ref o), (1, .int (iI g)), (2, .int (iI d)), (3, .int (iI h)), (4, .int (iI n))] [.int (iI z4)]
  refine z_if_eq C 12 dX7_fail_7 (by decide) (by omega) (fun h7 => ?_) (fun h7 => ?_)
  · refine z_iload C 4 dX7_fail_12 rfl ?_
    refine z_iload_n C 3 dX7_fail_14 rfl ?_
    refine z_iconst C dX7_fail_15 ?_
    refine z_iadd C dX7_fail_16 ?_
    refine z_bipush C dX7_fail_17 (by decide) ?_
    refine z_cS (As := [.int (iI n), .int (iI (h + 1)), .int (iI 24)]) C zc_X7_isIn (c_X7_isIn hX n (h + 1) 24 (by omega) (by omega) (by omega)) zl_6_176 (Nat.le_of_ble_eq_true rfl) (Nat.le_of_ble_eq_true rfl) (Nat.le_of_ble_eq_true rfl) rfl rfl (Nat.le_of_ble_eq_true rfl) dX7_fail_19 (fun z8 L9 f10 hz11 => ?_)
    obtain ⟨hz11, rfl, rfl⟩ := hz11
    subst hz11
    change ZW G pZ la eZ (zRm 3 0 0) sZ mZ aZ bZ hZ cZ AZ 6 0 0 _ L f6 22 [(0, .ref o), (1, .int (iI g)), (2, .int (iI d)), (3, .int (iI h)), (4, .int (iI n))] [.int (iI (bI (h + 1 ≤ n ∧ n ≤ 24)))]
    refine z_if_ne_b C 31 dX7_fail_22 (by decide) (fun h22 => ?_) (fun h22 => ?_)
    · refine z_iload_n C 3 dX7_fail_31 rfl ?_
      refine z_istore (ls' := [(5, .int (iI h)), (0, .ref o), (1, .int (iI g)), (2, .int (iI d)), (3, .int (iI h)), (4, .int (iI n))]) C dX7_fail_32 (Nat.le_of_ble_eq_true rfl) rfl ?_
      have key34 : ∀ (n34 : Nat) (k : Int) (f9 : Nat → va_E) (t9 : Int), (h ≤ k ∧ k ≤ n ∧ t9 = 0 ∧ MR G L f9 o ad (zset μ 11 (zfill (μ 11) (240 * g + 24 * d + h) (240 * g + 24 * d + k) 1)) t9 u v) → n - k < (n34 : Int) → ZW G pZ la eZ (zRm 3 0 0) sZ mZ aZ bZ hZ cZ AZ 6 0 0 (MQ bZ (zQ G zeI (fun z L' f' => L = L' ∧ ∃ t' μ' u' v', MR G L f' o ad μ' t' u' v' ∧ o_fail μ g d h n = (t', if t' = 0 then z else 0, μ')) AZ) aZ sZ 0 0 AZ) L f9 34 [(0, .ref o), (1, .int (iI g)), (2, .int (iI d)), (3, .int (iI h)), (4, .int (iI n)), (5, .int (iI k))] [] := by
        intro n34
        induction n34 with
        | zero => intro k f9 t9 hi34 hn34; exfalso; omega
        | succ n34 ih34 =>
          intro k f9 t9 hi34 hn34
          obtain ⟨hk0, hk1, ht9, hML⟩ := hi34
          refine z_iload C 5 dX7_fail_34 rfl ?_
          refine z_iload C 4 dX7_fail_36 rfl ?_
          refine z_icmp_ge C 66 dX7_fail_38 (by decide) (by omega) (by omega) (fun h38 => ?_) (fun h38 => ?_)
          · refine z_bipush C dX7_fail_66 (by decide) ?_
            refine z_aload_n C 0 dX7_fail_68 rfl ?_
            refine z_iload_n C 1 dX7_fail_69 rfl ?_
            refine z_iload_n C 2 dX7_fail_70 rfl ?_
            refine z_cV (As := [.int (iI g), .int (iI d)]) C zc_X7_failures (c_X7_failures hX hML (by intro i q0 q1; rw [zset_s]; unfold zfill; split <;> first | omega | exact hI.b11 i q0 q1) g d (by omega) (by omega)) zl_6_226 (Nat.le_of_ble_eq_true rfl) (Nat.le_of_ble_eq_true rfl) (Nat.le_of_ble_eq_true rfl) (hML.1.1) (hML.1.2) rfl rfl rfl rfl (Nat.le_of_ble_eq_true rfl) dX7_fail_71 (fun nf L12 f13 hnf => ?_)
            obtain ⟨hnf, rfl, rfl⟩ := hnf
            change ZW G pZ la eZ (zRm 3 0 0) sZ mZ aZ bZ hZ cZ AZ 6 0 0 _ L f9 74 [(0, .ref o), (1, .int (iI g)), (2, .int (iI d)), (3, .int (iI h)), (4, .int (iI n)), (5, .int (iI k))] [.int (iI nf), .int (iI 24)]
            have hr9 := zcnt_rng ((zset μ 11 (zfill (μ 11) (240 * g + 24 * d + h) (240 * g + 24 * d + k) 1)) 11) (240 * g + 24 * d) 24
            refine z_isub C dX7_fail_74 ?_
            exact z_ireturn C dX7_fail_75 (Nat.le_of_ble_eq_true rfl) (Nat.le_of_ble_eq_true rfl) ⟨rfl, _, _, _, _, hML, by unfold o_fail; rw [if_pos (by omega), if_pos (by omega), if_pos (by omega), ht9, if_pos rfl, show k = n by omega, hnf, zset_s, show k = n by omega]⟩
          · refine z_aload_n C 0 dX7_fail_41 rfl ?_
            refine z_getf C 11 zin_X7 (hML.1.1) (hML.1.2) rfl (Nat.le_of_ble_eq_true rfl) zl_6_109 rfl rfl dX7_fail_42 ?_
            refine z_sipush C dX7_fail_45 (by decide) ?_
            refine z_iload_n C 1 dX7_fail_48 rfl ?_
            refine z_imul C dX7_fail_49 ?_
            refine z_bipush C dX7_fail_50 (by decide) ?_
            refine z_iload_n C 2 dX7_fail_52 rfl ?_
            refine z_imul C dX7_fail_53 ?_
            refine z_iadd C dX7_fail_54 ?_
            refine z_iload C 5 dX7_fail_55 rfl ?_
            refine z_iadd C dX7_fail_57 ?_
            refine z_iconst C dX7_fail_58 ?_
            refine z_zast C (MR_a11 hML) (by omega) (by omega) (by omega) (by omega) dX7_fail_59 (fun f14 ha15 hk16 => ?_)
            have hM17 := MR_w11 hML ha15 hk16
            refine z_iinc (ls' := [(5, .int (iI (k + 1))), (0, .ref o), (1, .int (iI g)), (2, .int (iI d)), (3, .int (iI h)), (4, .int (iI n))]) C 5 dX7_fail_60 rfl (Nat.le_of_ble_eq_true rfl) rfl ?_
            refine z_goto C 34 dX7_fail_63 (by decide) ?_
            refine z_perm [1, 2, 3, 4, 5, 0] rfl ?_
            exact ih34 _ _ t9 ⟨by omega, by omega, by omega, by have q := hM17; rw [zset_s, zset_zset, zfill_1 _ (by omega), show 240 * g + 24 * d + k + 1 = 240 * g + 24 * d + (k + 1) by omega] at q; exact q⟩ (by omega)
      refine z_perm [1, 2, 3, 4, 5, 0] rfl ?_
      exact key34 2000 _ _ t2 ⟨by omega, by omega, by omega, by rw [zfill_0, zset_id]; exact hM1⟩ (by omega)
    · refine z_aload_n C 0 dX7_fail_25 rfl ?_
      refine z_iconst C dX7_fail_26 ?_
      refine z_cV (As := [.int (iI 3)]) C zc_X7_refuse (c_X7_refuse hX hM1 3) zl_6_179 (Nat.le_of_ble_eq_true rfl) (Nat.le_of_ble_eq_true rfl) (Nat.le_of_ble_eq_true rfl) (hM1.1.1) (hM1.1.2) rfl rfl rfl rfl (Nat.le_of_ble_eq_true rfl) dX7_fail_27 (fun z19 L20 f21 hz22 => ?_)
      obtain ⟨rfl, rfl, hM18⟩ := hz22
      change ZW G pZ la eZ (zRm 3 0 0) sZ mZ aZ bZ hZ cZ AZ 6 0 0 _ L f21 30 [(0, .ref o), (1, .int (iI g)), (2, .int (iI d)), (3, .int (iI h)), (4, .int (iI n))] [.int (iI 0)]
      exact z_ireturn C dX7_fail_30 (Nat.le_of_ble_eq_true rfl) (Nat.le_of_ble_eq_true rfl) ⟨rfl, _, _, _, _, hM18, by unfold o_fail; (rw [if_pos (by omega), if_pos (by omega), if_neg (by omega)]) <;> (refine Prod.ext ?_ (Prod.ext ?_ ?_) <;> first | rfl | omega | (dsimp only; omega) | (dsimp only; split <;> omega))⟩
  · refine z_iconst C dX7_fail_10 ?_
    exact z_ireturn C dX7_fail_11 (Nat.le_of_ble_eq_true rfl) (Nat.le_of_ble_eq_true rfl) ⟨rfl, _, _, _, _, hM1, by unfold o_fail; (repeat' (first | (exfalso; omega) | split)) <;> (refine Prod.ext ?_ (Prod.ext ?_ ?_) <;> first | rfl | omega | (dsimp only; omega) | (dsimp only; split <;> omega))⟩

set_option maxRecDepth 100000 in
set_option maxHeartbeats 200000 in
theorem c_X7_mend {la : Launch} {G : zG} {X : (Nat → Prop) → State → Prop} (hX : zX X) {L : List Nat} {f : Nat → va_E} {o : Nat} {ad : Nat → Nat} {μ : zMu} {t : Int} {u v : Int → Int} (hM : MR G L f o ad μ t u v) (hI : MI μ) (g d : Int) (hg : zR g) (hd : zR d) : zM la G X yX7_mend (.code yX7_mend cX7_mend 5 (some .int) :: zT) 3 0 0 [.ref o, .int (iI g), .int (iI d)] L f zeI (fun z L' f' => L = L' ∧ ∃ t' μ' u' v', MR G L f' o ad μ' t' u' v' ∧ o_mend μ g d = (t', if t' = 0 then z else 0, μ')) := by
  refine zM_intro hX (by decide) (Nat.le_of_ble_eq_true rfl) (fun pZ eZ sZ mZ aZ bZ hZ cZ AZ C hini => ?_)
  change ZW G pZ la eZ (zRm 3 0 0) sZ mZ aZ bZ hZ cZ AZ 5 0 0 _ L f 0 [(0, .ref o), (1, .int (iI g)), (2, .int (iI d))] []
  have hn9 := hI.n
  have hNO : zNO = -2147483648 := rfl
  
  refine z_aload_n C 0 dX7_mend_0 rfl ?_
  refine z_iload_n C 1 dX7_mend_1 rfl ?_
  refine z_iload_n C 2 dX7_mend_2 rfl ?_
  refine z_iconst C dX7_mend_3 ?_
  refine z_cV (As := [.int (iI g), .int (iI d), .int (iI 0)]) C zc_X7_noGauge (c_X7_noGauge hX hM hI g d 0 (by omega) (by omega) (by omega) ) zl_6_222 (Nat.le_of_ble_eq_true rfl) (Nat.le_of_ble_eq_true rfl) (Nat.le_of_ble_eq_true rfl) (hM.1.1) (hM.1.2) rfl rfl rfl rfl (Nat.le_of_ble_eq_true rfl) dX7_mend_4 (fun z4 L5 f6 hz7 => ?_)
  obtain ⟨rfl, t2, hM1, he3⟩ := hz7
  change ZW G pZ la eZ (zRm 3 0 0) sZ mZ aZ bZ hZ cZ AZ 5 0 0 _ L f6 7 [(0, .ref o), (1, .int (iI g)), (2, .int (iI d))] [.int (iI z4)]
  refine z_if_eq C 12 dX7_mend_7 (by decide) (by omega) (fun h7 => ?_) (fun h7 => ?_)
  · refine z_aload_n C 0 dX7_mend_12 rfl ?_
    refine z_iload_n C 1 dX7_mend_13 rfl ?_
    refine z_iload_n C 2 dX7_mend_14 rfl ?_
    refine z_cV (As := [.int (iI g), .int (iI d)]) C zc_X7_failures (c_X7_failures hX hM1 hI.b11 g d (by omega) (by omega)) zl_6_226 (Nat.le_of_ble_eq_true rfl) (Nat.le_of_ble_eq_true rfl) (Nat.le_of_ble_eq_true rfl) (hM1.1.1) (hM1.1.2) rfl rfl rfl rfl (Nat.le_of_ble_eq_true rfl) dX7_mend_15 (fun nf L8 f9 hnf => ?_)
    obtain ⟨hnf, rfl, rfl⟩ := hnf
    change ZW G pZ la eZ (zRm 3 0 0) sZ mZ aZ bZ hZ cZ AZ 5 0 0 _ L f6 18 [(0, .ref o), (1, .int (iI g)), (2, .int (iI d))] [.int (iI nf)]
    refine z_istore_n (ls' := [(3, .int (iI nf)), (0, .ref o), (1, .int (iI g)), (2, .int (iI d))]) C dX7_mend_18 (Nat.le_of_ble_eq_true rfl) rfl ?_
    refine z_iconst C dX7_mend_19 ?_
    refine z_istore (ls' := [(4, .int (iI 0)), (3, .int (iI nf)), (0, .ref o), (1, .int (iI g)), (2, .int (iI d))]) C dX7_mend_20 (Nat.le_of_ble_eq_true rfl) rfl ?_
    have key22 : ∀ (n22 : Nat) (k : Int) (f9 : Nat → va_E) (t9 : Int), (0 ≤ k ∧ k ≤ 24 ∧ t9 = 0 ∧ MR G L f9 o ad (zset μ 11 (zfill (μ 11) (240 * g + 24 * d) (240 * g + 24 * d + k) 0)) t9 u v) → 24 - k < (n22 : Int) → ZW G pZ la eZ (zRm 3 0 0) sZ mZ aZ bZ hZ cZ AZ 5 0 0 (MQ bZ (zQ G zeI (fun z L' f' => L = L' ∧ ∃ t' μ' u' v', MR G L f' o ad μ' t' u' v' ∧ o_mend μ g d = (t', if t' = 0 then z else 0, μ')) AZ) aZ sZ 0 0 AZ) L f9 22 [(0, .ref o), (1, .int (iI g)), (2, .int (iI d)), (3, .int (iI nf)), (4, .int (iI k))] [] := by
      intro n22
      induction n22 with
      | zero => intro k f9 t9 hi22 hn22; exfalso; omega
      | succ n22 ih22 =>
        intro k f9 t9 hi22 hn22
        obtain ⟨hk0, hk1, ht9, hML⟩ := hi22
        refine z_iload C 4 dX7_mend_22 rfl ?_
        refine z_bipush C dX7_mend_24 (by decide) ?_
        refine z_icmp_ge C 54 dX7_mend_26 (by decide) (by omega) (by omega) (fun h26 => ?_) (fun h26 => ?_)
        · refine z_iload_n C 3 dX7_mend_54 rfl ?_
          exact z_ireturn C dX7_mend_55 (Nat.le_of_ble_eq_true rfl) (Nat.le_of_ble_eq_true rfl) ⟨rfl, _, _, _, _, hML, by unfold o_mend; rw [if_pos (by omega), if_pos (by omega), ht9, if_pos rfl, show k = 24 by omega, hnf]⟩
        · refine z_aload_n C 0 dX7_mend_29 rfl ?_
          refine z_getf C 11 zin_X7 (hML.1.1) (hML.1.2) rfl (Nat.le_of_ble_eq_true rfl) zl_6_109 rfl rfl dX7_mend_30 ?_
          refine z_sipush C dX7_mend_33 (by decide) ?_
          refine z_iload_n C 1 dX7_mend_36 rfl ?_
          refine z_imul C dX7_mend_37 ?_
          refine z_bipush C dX7_mend_38 (by decide) ?_
          refine z_iload_n C 2 dX7_mend_40 rfl ?_
          refine z_imul C dX7_mend_41 ?_
          refine z_iadd C dX7_mend_42 ?_
          refine z_iload C 4 dX7_mend_43 rfl ?_
          refine z_iadd C dX7_mend_45 ?_
          refine z_iconst C dX7_mend_46 ?_
          refine z_zast C (MR_a11 hML) (by omega) (by omega) (by omega) (by omega) dX7_mend_47 (fun f10 ha11 hk12 => ?_)
          have hM13 := MR_w11 hML ha11 hk12
          refine z_iinc (ls' := [(4, .int (iI (k + 1))), (0, .ref o), (1, .int (iI g)), (2, .int (iI d)), (3, .int (iI nf))]) C 4 dX7_mend_48 rfl (Nat.le_of_ble_eq_true rfl) rfl ?_
          refine z_goto C 22 dX7_mend_51 (by decide) ?_
          refine z_perm [1, 2, 3, 4, 0] rfl ?_
          exact ih22 _ _ t9 ⟨by omega, by omega, by omega, by have q := hM13; rw [zset_s, zset_zset, zfill_1 _ (by omega), show 240 * g + 24 * d + k + 1 = 240 * g + 24 * d + (k + 1) by omega] at q; exact q⟩ (by omega)
    refine z_perm [2, 3, 4, 1, 0] rfl ?_
    exact key22 2000 _ _ t2 ⟨by omega, by omega, by omega, by rw [show 240 * g + 24 * d + 0 = 240 * g + 24 * d by omega, zfill_0, zset_id]; exact hM1⟩ (by omega)
  · refine z_iconst C dX7_mend_10 ?_
    exact z_ireturn C dX7_mend_11 (Nat.le_of_ble_eq_true rfl) (Nat.le_of_ble_eq_true rfl) ⟨rfl, _, _, _, _, hM1, by unfold o_mend; (repeat' (first | (exfalso; omega) | split)) <;> (refine Prod.ext ?_ (Prod.ext ?_ ?_) <;> first | rfl | omega | (dsimp only; omega) | (dsimp only; split <;> omega))⟩

set_option maxRecDepth 100000 in
set_option maxHeartbeats 200000 in
theorem c_X7_tells {la : Launch} {G : zG} {X : (Nat → Prop) → State → Prop} (hX : zX X) {L : List Nat} {f : Nat → va_E} {o : Nat} {ad : Nat → Nat} {μ : zMu} {t : Int} {u v : Int → Int} (hM : MR G L f o ad μ t u v) (hI : MI μ) (g d h : Int) (hg : 0 ≤ g ∧ g < μ 1 0) (hd : 0 ≤ d ∧ d ≤ 9) (hh : 0 ≤ h ∧ h ≤ 23) : zM la G X yX7_tells (.code yX7_tells cX7_tells 9 (some .int) :: zT) 3 0 0 [.ref o, .int (iI g), .int (iI d), .int (iI h)] L f zeI (zRd L f (fun z => z = spTells μ g d h)) := by
  refine zM_intro hX (by decide) (Nat.le_of_ble_eq_true rfl) (fun pZ eZ sZ mZ aZ bZ hZ cZ AZ C hini => ?_)
  change ZW G pZ la eZ (zRm 3 0 0) sZ mZ aZ bZ hZ cZ AZ 9 0 0 _ L f 0 [(0, .ref o), (1, .int (iI g)), (2, .int (iI d)), (3, .int (iI h))] []
  have hn9 := hI.n
  have hNO : zNO = -2147483648 := rfl
  have h8 := hI.b8 g (by omega) (by omega)
  refine z_sipush C dX7_tells_0 (by decide) ?_
  refine z_iload_n C 1 dX7_tells_3 rfl ?_
  refine z_imul C dX7_tells_4 ?_
  refine z_bipush C dX7_tells_5 (by decide) ?_
  refine z_iload_n C 2 dX7_tells_7 rfl ?_
  refine z_imul C dX7_tells_8 ?_
  refine z_iadd C dX7_tells_9 ?_
  refine z_istore (ls' := [(4, .int (iI ((240 * g) + (24 * d)))), (0, .ref o), (1, .int (iI g)), (2, .int (iI d)), (3, .int (iI h))]) C dX7_tells_10 (Nat.le_of_ble_eq_true rfl) rfl ?_
  refine z_iload_n C 4 dX7_tells_12 rfl ?_
  refine z_istore (ls' := [(5, .int (iI h)), (4, .int (iI ((240 * g) + (24 * d)))), (0, .ref o), (1, .int (iI g)), (2, .int (iI d)), (3, .int (iI h))]) C dX7_tells_13 (Nat.le_of_ble_eq_true rfl) rfl ?_
  refine z_iload_n C 5 dX7_tells_15 rfl ?_
  refine z_istore (ls' := [(6, .int (iI h)), (5, .int (iI h)), (4, .int (iI ((240 * g) + (24 * d)))), (0, .ref o), (1, .int (iI g)), (2, .int (iI d)), (3, .int (iI h))]) C dX7_tells_16 (Nat.le_of_ble_eq_true rfl) rfl ?_
  have J42 : ∀  (b : Int)  (hj42 : b = spB μ g d h), ZW G pZ la eZ (zRm 3 0 0) sZ mZ aZ bZ hZ cZ AZ 9 0 0 (MQ bZ (zQ G zeI (zRd L f (fun z => z = spTells μ g d h)) AZ) aZ sZ 0 0 AZ) L f 42 [(0, .ref o), (1, .int (iI g)), (2, .int (iI d)), (3, .int (iI h)), (4, .int (iI ((240 * g) + (24 * d)))), (5, .int (iI b)), (6, .int (iI h))] [] := by
    intro  b  hj42
    have hb := hj42
    have J68 : ∀  (e : Int)  (hj68 : e = spE μ g d h), ZW G pZ la eZ (zRm 3 0 0) sZ mZ aZ bZ hZ cZ AZ 9 0 0 (MQ bZ (zQ G zeI (zRd L f (fun z => z = spTells μ g d h)) AZ) aZ sZ 0 0 AZ) L f 68 [(0, .ref o), (1, .int (iI g)), (2, .int (iI d)), (3, .int (iI h)), (4, .int (iI ((240 * g) + (24 * d)))), (5, .int (iI b)), (6, .int (iI e))] [] := by
      intro  e  hj68
      have he := hj68
      have qb := spB_rng μ g d hh.1
      have qe := spE_rng μ g d hh.1 hh.2
      have qx := fun q => spE_B μ g d hh.1 hh.2 q
      refine z_iload C 5 dX7_tells_68 rfl ?_
      refine z_iload_n C 3 dX7_tells_70 rfl ?_
      refine z_icmp_ne C 87 dX7_tells_71 (by decide) (by omega) (by omega) (fun h71 => ?_) (fun h71 => ?_)
      · refine z_iload C 5 dX7_tells_87 rfl ?_
        refine z_if_lt C 109 dX7_tells_89 (by decide) (by omega) (fun h89 => ?_) (fun h89 => ?_)
        · refine z_ldc (n := (-2147483648)) C zl_7_2 rfl dX7_tells_109 ?_
          exact z_ireturn C dX7_tells_111 (Nat.le_of_ble_eq_true rfl) (Nat.le_of_ble_eq_true rfl) ⟨by unfold spTells; rw [if_neg (by omega), if_pos (by omega)]; rfl, rfl, rfl⟩
        · refine z_iload C 6 dX7_tells_92 rfl ?_
          refine z_bipush C dX7_tells_94 (by decide) ?_
          refine z_icmp_eq C 109 dX7_tells_96 (by decide) (by omega) (by omega) (fun h96 => ?_) (fun h96 => ?_)
          · refine z_ldc (n := (-2147483648)) C zl_7_2 rfl dX7_tells_109 ?_
            exact z_ireturn C dX7_tells_111 (Nat.le_of_ble_eq_true rfl) (Nat.le_of_ble_eq_true rfl) ⟨by unfold spTells; rw [if_neg (by omega), if_pos (by omega)]; rfl, rfl, rfl⟩
          · refine z_iload C 6 dX7_tells_99 rfl ?_
            refine z_iload C 5 dX7_tells_101 rfl ?_
            refine z_isub C dX7_tells_103 ?_
            refine z_bipush C dX7_tells_104 (by decide) ?_
            refine z_icmp_le C 112 dX7_tells_106 (by decide) (by omega) (by omega) (fun h106 => ?_) (fun h106 => ?_)
            · have qx2 := qx (by omega)
              refine z_aload_n C 0 dX7_tells_112 rfl ?_
              refine z_aload_n C 0 dX7_tells_113 rfl ?_
              refine z_getf C 8 zin_X7 (hM.1.1) (hM.1.2) rfl (Nat.le_of_ble_eq_true rfl) zl_6_106 rfl rfl dX7_tells_114 ?_
              refine z_iload_n C 1 dX7_tells_117 rfl ?_
              refine z_iald C (MR_a8 hM) (by omega) (by omega) (by omega) dX7_tells_118 ?_
              have hb1 := hI.J.b8 g (by omega) (by omega)
              refine z_iload_n C 2 dX7_tells_119 rfl ?_
              refine z_iload C 5 dX7_tells_120 rfl ?_
              refine z_cV (As := [.int (iI ((μ 8) g)), .int (iI d), .int (iI b)]) C zc_X7_water (c_X7_water hX hM hI.J ((μ 8) g) d b (by omega) (by omega) (by omega)) zl_6_203 (Nat.le_of_ble_eq_true rfl) (Nat.le_of_ble_eq_true rfl) (Nat.le_of_ble_eq_true rfl) (hM.1.1) (hM.1.2) rfl rfl rfl rfl (Nat.le_of_ble_eq_true rfl) dX7_tells_122 (fun z2 L3 f4 hz5 => ?_)
              obtain ⟨hz5, rfl, rfl⟩ := hz5
              subst hz5
              change ZW G pZ la eZ (zRm 3 0 0) sZ mZ aZ bZ hZ cZ AZ 9 0 0 _ L f 125 [(0, .ref o), (1, .int (iI g)), (2, .int (iI d)), (3, .int (iI h)), (4, .int (iI ((240 * g) + (24 * d)))), (5, .int (iI b)), (6, .int (iI e))] [.int (iI (spWater μ ((μ 8) g) d b))]
              refine z_nm (fun ea hea => ?_)
              refine z_istore (ls' := [(7, .int (iI ea)), (0, .ref o), (1, .int (iI g)), (2, .int (iI d)), (3, .int (iI h)), (4, .int (iI ((240 * g) + (24 * d)))), (5, .int (iI b)), (6, .int (iI e))]) C dX7_tells_125 (Nat.le_of_ble_eq_true rfl) rfl ?_
              refine z_aload_n C 1 dX7_tells_127 rfl ?_
              refine z_aload_n C 1 dX7_tells_128 rfl ?_
              refine z_getf C 8 zin_X7 (hM.1.1) (hM.1.2) rfl (Nat.le_of_ble_eq_true rfl) zl_6_106 rfl rfl dX7_tells_129 ?_
              refine z_iload_n C 2 dX7_tells_132 rfl ?_
              refine z_iald C (MR_a8 hM) (by omega) (by omega) (by omega) dX7_tells_133 ?_
              have hb6 := hI.J.b8 g (by omega) (by omega)
              refine z_iload_n C 3 dX7_tells_134 rfl ?_
              refine z_iload C 7 dX7_tells_135 rfl ?_
              refine z_cV (As := [.int (iI ((μ 8) g)), .int (iI d), .int (iI e)]) C zc_X7_water (c_X7_water hX hM hI.J ((μ 8) g) d e (by omega) (by omega) (by omega)) zl_6_203 (Nat.le_of_ble_eq_true rfl) (Nat.le_of_ble_eq_true rfl) (Nat.le_of_ble_eq_true rfl) (hM.1.1) (hM.1.2) rfl rfl rfl rfl (Nat.le_of_ble_eq_true rfl) dX7_tells_137 (fun z7 L8 f9 hz10 => ?_)
              obtain ⟨hz10, rfl, rfl⟩ := hz10
              subst hz10
              change ZW G pZ la eZ (zRm 3 0 0) sZ mZ aZ bZ hZ cZ AZ 9 0 0 _ L f 140 [(7, .int (iI ea)), (0, .ref o), (1, .int (iI g)), (2, .int (iI d)), (3, .int (iI h)), (4, .int (iI ((240 * g) + (24 * d)))), (5, .int (iI b)), (6, .int (iI e))] [.int (iI (spWater μ ((μ 8) g) d e))]
              refine z_nm (fun lt hlt => ?_)
              refine z_istore (ls' := [(8, .int (iI lt)), (7, .int (iI ea)), (0, .ref o), (1, .int (iI g)), (2, .int (iI d)), (3, .int (iI h)), (4, .int (iI ((240 * g) + (24 * d)))), (5, .int (iI b)), (6, .int (iI e))]) C dX7_tells_140 (Nat.le_of_ble_eq_true rfl) rfl ?_
              have r1 := spWater_rng hI.J h8 hd (h := b) (by omega)
              have r2 := spWater_rng hI.J h8 hd (h := e) (by omega)
              have r3 := zprod (y := lt) (x := ea) (k := h - b) (by omega) (by omega)
              refine z_iload C 1 dX7_tells_142 rfl ?_
              refine z_iload C 0 dX7_tells_144 rfl ?_
              refine z_iload C 1 dX7_tells_146 rfl ?_
              refine z_isub C dX7_tells_148 ?_
              refine z_iload_n C 5 dX7_tells_149 rfl ?_
              refine z_iload C 7 dX7_tells_150 rfl ?_
              refine z_isub C dX7_tells_152 ?_
              refine z_imul C dX7_tells_153 ?_
              refine z_iload C 8 dX7_tells_154 rfl ?_
              refine z_iload C 7 dX7_tells_156 rfl ?_
              refine z_isub C dX7_tells_158 ?_
              refine z_cS (As := [.int (iI ((lt - ea) * (h - b))), .int (iI (e - b))]) C zc_X7_down (c_X7_down hX ((lt - ea) * (h - b)) (e - b) (by omega) (by omega)) zl_6_207 (Nat.le_of_ble_eq_true rfl) (Nat.le_of_ble_eq_true rfl) (Nat.le_of_ble_eq_true rfl) rfl rfl (Nat.le_of_ble_eq_true rfl) dX7_tells_159 (fun z11 L12 f13 hz14 => ?_)
              obtain ⟨hz14, rfl, rfl⟩ := hz14
              subst hz14
              change ZW G pZ la eZ (zRm 3 0 0) sZ mZ aZ bZ hZ cZ AZ 9 0 0 _ L f 162 [(8, .int (iI lt)), (7, .int (iI ea)), (0, .ref o), (1, .int (iI g)), (2, .int (iI d)), (3, .int (iI h)), (4, .int (iI ((240 * g) + (24 * d)))), (5, .int (iI b)), (6, .int (iI e))] [.int (iI (((lt - ea) * (h - b)) / (e - b))), .int (iI ea)]
              refine z_iadd C dX7_tells_162 ?_
              exact z_ireturn C dX7_tells_163 (Nat.le_of_ble_eq_true rfl) (Nat.le_of_ble_eq_true rfl) ⟨by unfold spTells; rw [if_neg (by omega), if_neg (by omega), ← hb, ← he, hea, hlt], rfl, rfl⟩
            · refine z_ldc (n := (-2147483648)) C zl_7_2 rfl dX7_tells_109 ?_
              exact z_ireturn C dX7_tells_111 (Nat.le_of_ble_eq_true rfl) (Nat.le_of_ble_eq_true rfl) ⟨by unfold spTells; rw [if_neg (by omega), if_pos (by omega)]; rfl, rfl, rfl⟩
      · refine z_aload_n C 0 dX7_tells_74 rfl ?_
        refine z_aload_n C 0 dX7_tells_75 rfl ?_
        refine z_getf C 8 zin_X7 (hM.1.1) (hM.1.2) rfl (Nat.le_of_ble_eq_true rfl) zl_6_106 rfl rfl dX7_tells_76 ?_
        refine z_iload_n C 1 dX7_tells_79 rfl ?_
        refine z_iald C (MR_a8 hM) (by omega) (by omega) (by omega) dX7_tells_80 ?_
        have hb15 := hI.J.b8 g (by omega) (by omega)
        refine z_iload_n C 2 dX7_tells_81 rfl ?_
        refine z_iload_n C 3 dX7_tells_82 rfl ?_
        refine z_cV (As := [.int (iI ((μ 8) g)), .int (iI d), .int (iI h)]) C zc_X7_water (c_X7_water hX hM hI.J ((μ 8) g) d h (by omega) (by omega) (by omega)) zl_6_203 (Nat.le_of_ble_eq_true rfl) (Nat.le_of_ble_eq_true rfl) (Nat.le_of_ble_eq_true rfl) (hM.1.1) (hM.1.2) rfl rfl rfl rfl (Nat.le_of_ble_eq_true rfl) dX7_tells_83 (fun z16 L17 f18 hz19 => ?_)
        obtain ⟨hz19, rfl, rfl⟩ := hz19
        subst hz19
        change ZW G pZ la eZ (zRm 3 0 0) sZ mZ aZ bZ hZ cZ AZ 9 0 0 _ L f 86 [(0, .ref o), (1, .int (iI g)), (2, .int (iI d)), (3, .int (iI h)), (4, .int (iI ((240 * g) + (24 * d)))), (5, .int (iI b)), (6, .int (iI e))] [.int (iI (spWater μ ((μ 8) g) d h))]
        exact z_ireturn C dX7_tells_86 (Nat.le_of_ble_eq_true rfl) (Nat.le_of_ble_eq_true rfl) ⟨by unfold spTells; rw [if_pos (by omega)], rfl, rfl⟩
    have key42 : ∀ (n42 : Nat) (e : Int) , (h ≤ e ∧ e ≤ 24 ∧ spBeh (μ 11) (240 * g + 24 * d) (24 - e).toNat = spE μ g d h) → 24 - e < (n42 : Int) → ZW G pZ la eZ (zRm 3 0 0) sZ mZ aZ bZ hZ cZ AZ 9 0 0 (MQ bZ (zQ G zeI (zRd L f (fun z => z = spTells μ g d h)) AZ) aZ sZ 0 0 AZ) L f 42 [(0, .ref o), (1, .int (iI g)), (2, .int (iI d)), (3, .int (iI h)), (4, .int (iI ((240 * g) + (24 * d)))), (5, .int (iI b)), (6, .int (iI e))] [] := by
      intro n42
      induction n42 with
      | zero => intro e  hi42 hn42; exfalso; omega
      | succ n42 ih42 =>
        intro e  hi42 hn42
        obtain ⟨he0, he1, hee⟩ := hi42
        refine z_iload C 6 dX7_tells_42 rfl ?_
        refine z_bipush C dX7_tells_44 (by decide) ?_
        refine z_icmp_ge C 68 dX7_tells_46 (by decide) (by omega) (by omega) (fun h46 => ?_) (fun h46 => ?_)
        · refine z_perm [0, 1, 2, 3, 4, 5, 6] rfl ?_
          exact J68 _  (by first | (rw [spBeh_s _ _ (by omega), if_neg (by omega)] at hee; exact hee) | (rw [show (24 - e).toNat = 0 by omega] at hee; rw [show e = 24 by omega]; exact hee))
        · refine z_aload_n C 0 dX7_tells_49 rfl ?_
          refine z_getf C 11 zin_X7 (hM.1.1) (hM.1.2) rfl (Nat.le_of_ble_eq_true rfl) zl_6_109 rfl rfl dX7_tells_50 ?_
          refine z_iload C 4 dX7_tells_53 rfl ?_
          refine z_iload C 6 dX7_tells_55 rfl ?_
          refine z_iadd C dX7_tells_57 ?_
          refine z_zald C (MR_a11 hM) (by omega) (by omega) (by omega) dX7_tells_58 ?_
          have hb20 := hI.J.b11 (((240 * g) + (24 * d)) + e) (by omega) (by omega)
          refine z_if_eq C 68 dX7_tells_59 (by decide) (by omega) (fun h59 => ?_) (fun h59 => ?_)
          · refine z_perm [0, 1, 2, 3, 4, 5, 6] rfl ?_
            exact J68 _  (by first | (rw [spBeh_s _ _ (by omega), if_neg (by omega)] at hee; exact hee) | (rw [show (24 - e).toNat = 0 by omega] at hee; rw [show e = 24 by omega]; exact hee))
          · refine z_iinc (ls' := [(6, .int (iI (e + 1))), (0, .ref o), (1, .int (iI g)), (2, .int (iI d)), (3, .int (iI h)), (4, .int (iI ((240 * g) + (24 * d)))), (5, .int (iI b))]) C 6 dX7_tells_62 rfl (Nat.le_of_ble_eq_true rfl) rfl ?_
            refine z_goto C 42 dX7_tells_65 (by decide) ?_
            refine z_perm [1, 2, 3, 4, 5, 6, 0] rfl ?_
            exact ih42 _  ⟨by omega, by omega, by rw [spBeh_s _ _ (by omega), if_pos (by omega)] at hee; exact hee⟩ (by omega)
    refine z_perm [0, 1, 2, 3, 4, 5, 6] rfl ?_
    exact key42 2000 _  ⟨by omega, by omega, rfl⟩ (by omega)
  have key18 : ∀ (n18 : Nat) (b : Int) , (-1 ≤ b ∧ b ≤ h ∧ spBef (μ 11) (240 * g + 24 * d) (b + 1).toNat = spB μ g d h) → b + 1 < (n18 : Int) → ZW G pZ la eZ (zRm 3 0 0) sZ mZ aZ bZ hZ cZ AZ 9 0 0 (MQ bZ (zQ G zeI (zRd L f (fun z => z = spTells μ g d h)) AZ) aZ sZ 0 0 AZ) L f 18 [(0, .ref o), (1, .int (iI g)), (2, .int (iI d)), (3, .int (iI h)), (4, .int (iI ((240 * g) + (24 * d)))), (5, .int (iI b)), (6, .int (iI h))] [] := by
    intro n18
    induction n18 with
    | zero => intro b  hi18 hn18; exfalso; omega
    | succ n18 ih18 =>
      intro b  hi18 hn18
      obtain ⟨hb0, hb1, hbe⟩ := hi18
      refine z_iload C 5 dX7_tells_18 rfl ?_
      refine z_if_lt C 42 dX7_tells_20 (by decide) (by omega) (fun h20 => ?_) (fun h20 => ?_)
      · refine z_perm [0, 1, 2, 3, 4, 5, 6] rfl ?_
        exact J42 _  (by first | (rw [spBef_s _ _ (by omega), if_neg (by omega)] at hbe; exact hbe) | (rw [show (b + 1).toNat = 0 by omega] at hbe; rw [show b = -1 by omega]; exact hbe))
      · refine z_aload_n C 0 dX7_tells_23 rfl ?_
        refine z_getf C 11 zin_X7 (hM.1.1) (hM.1.2) rfl (Nat.le_of_ble_eq_true rfl) zl_6_109 rfl rfl dX7_tells_24 ?_
        refine z_iload C 4 dX7_tells_27 rfl ?_
        refine z_iload C 5 dX7_tells_29 rfl ?_
        refine z_iadd C dX7_tells_31 ?_
        refine z_zald C (MR_a11 hM) (by omega) (by omega) (by omega) dX7_tells_32 ?_
        have hb21 := hI.J.b11 (((240 * g) + (24 * d)) + b) (by omega) (by omega)
        refine z_if_eq C 42 dX7_tells_33 (by decide) (by omega) (fun h33 => ?_) (fun h33 => ?_)
        · refine z_perm [0, 1, 2, 3, 4, 5, 6] rfl ?_
          exact J42 _  (by first | (rw [spBef_s _ _ (by omega), if_neg (by omega)] at hbe; exact hbe) | (rw [show (b + 1).toNat = 0 by omega] at hbe; rw [show b = -1 by omega]; exact hbe))
        · refine z_iinc (ls' := [(5, .int (iI (b + (-1)))), (0, .ref o), (1, .int (iI g)), (2, .int (iI d)), (3, .int (iI h)), (4, .int (iI ((240 * g) + (24 * d)))), (6, .int (iI h))]) C 5 dX7_tells_36 rfl (Nat.le_of_ble_eq_true rfl) rfl ?_
          refine z_goto C 18 dX7_tells_39 (by decide) ?_
          refine z_perm [1, 2, 3, 4, 5, 0, 6] rfl ?_
          exact ih18 _  ⟨by omega, by omega, by rw [spBef_s _ _ (by omega), if_pos (by omega)] at hbe; rw [show (b + (-1) + 1).toNat = b.toNat by omega]; exact hbe⟩ (by omega)
  refine z_perm [3, 4, 5, 6, 2, 1, 0] rfl ?_
  exact key18 2000 _  ⟨by omega, by omega, rfl⟩ (by omega)

set_option maxRecDepth 100000 in
set_option maxHeartbeats 200000 in
theorem c_X7_told {la : Launch} {G : zG} {X : (Nat → Prop) → State → Prop} (hX : zX X) {L : List Nat} {f : Nat → va_E} {o : Nat} {ad : Nat → Nat} {μ : zMu} {t : Int} {u v : Int → Int} (hM : MR G L f o ad μ t u v) (hI : MI μ) (g d h : Int) (hg : zR g) (hd : zR d) (hh : zR h) : zM la G X yX7_told (.code yX7_told cX7_told 5 (some .int) :: zT) 4 0 0 [.ref o, .int (iI g), .int (iI d), .int (iI h)] L f zeI (fun z L' f' => L = L' ∧ ∃ t' μ' u' v', MR G L f' o ad μ' t' u' v' ∧ o_told μ g d h = (t', if t' = 0 then z else 0, μ')) := by
  refine zM_intro hX (by decide) (Nat.le_of_ble_eq_true rfl) (fun pZ eZ sZ mZ aZ bZ hZ cZ AZ C hini => ?_)
  change ZW G pZ la eZ (zRm 4 0 0) sZ mZ aZ bZ hZ cZ AZ 5 0 0 _ L f 0 [(0, .ref o), (1, .int (iI g)), (2, .int (iI d)), (3, .int (iI h))] []
  have hn9 := hI.n
  have hNO : zNO = -2147483648 := rfl
  
  refine z_aload_n C 0 dX7_told_0 rfl ?_
  refine z_iload_n C 1 dX7_told_1 rfl ?_
  refine z_iload_n C 2 dX7_told_2 rfl ?_
  refine z_iload_n C 3 dX7_told_3 rfl ?_
  refine z_cV (As := [.int (iI g), .int (iI d), .int (iI h)]) C zc_X7_noGauge (c_X7_noGauge hX hM hI g d h (by omega) (by omega) (by omega) ) zl_6_222 (Nat.le_of_ble_eq_true rfl) (Nat.le_of_ble_eq_true rfl) (Nat.le_of_ble_eq_true rfl) (hM.1.1) (hM.1.2) rfl rfl rfl rfl (Nat.le_of_ble_eq_true rfl) dX7_told_4 (fun z4 L5 f6 hz7 => ?_)
  obtain ⟨rfl, t2, hM1, he3⟩ := hz7
  change ZW G pZ la eZ (zRm 4 0 0) sZ mZ aZ bZ hZ cZ AZ 5 0 0 _ L f6 7 [(0, .ref o), (1, .int (iI g)), (2, .int (iI d)), (3, .int (iI h))] [.int (iI z4)]
  refine z_if_eq C 12 dX7_told_7 (by decide) (by omega) (fun h7 => ?_) (fun h7 => ?_)
  · refine z_aload_n C 0 dX7_told_12 rfl ?_
    refine z_iload_n C 1 dX7_told_13 rfl ?_
    refine z_iload_n C 2 dX7_told_14 rfl ?_
    refine z_iload_n C 3 dX7_told_15 rfl ?_
    refine z_cV (As := [.int (iI g), .int (iI d), .int (iI h)]) C zc_X7_tells (c_X7_tells hX hM1 hI g d h (by omega) (by omega) (by omega)) zl_6_238 (Nat.le_of_ble_eq_true rfl) (Nat.le_of_ble_eq_true rfl) (Nat.le_of_ble_eq_true rfl) (hM1.1.1) (hM1.1.2) rfl rfl rfl rfl (Nat.le_of_ble_eq_true rfl) dX7_told_16 (fun z9 L10 f11 hz12 => ?_)
    obtain ⟨hz12, rfl, rfl⟩ := hz12
    subst hz12
    have hr8 := spTells_rng hI (g := g) (d := d) (h := h) (by omega) (by omega) (by omega)
    change ZW G pZ la eZ (zRm 4 0 0) sZ mZ aZ bZ hZ cZ AZ 5 0 0 _ L f6 19 [(0, .ref o), (1, .int (iI g)), (2, .int (iI d)), (3, .int (iI h))] [.int (iI (spTells μ g d h))]
    refine z_nm (fun x13 hx13 => ?_)
    refine z_istore (ls' := [(4, .int (iI x13)), (0, .ref o), (1, .int (iI g)), (2, .int (iI d)), (3, .int (iI h))]) C dX7_told_19 (Nat.le_of_ble_eq_true rfl) rfl ?_
    refine z_iload C 0 dX7_told_21 rfl ?_
    refine z_ldc (n := (-2147483648)) C zl_7_2 rfl dX7_told_23 ?_
    refine z_icmp_ne C 34 dX7_told_25 (by decide) (by omega) (by omega) (fun h25 => ?_) (fun h25 => ?_)
    · refine z_iload C 0 dX7_told_34 rfl ?_
      exact z_ireturn C dX7_told_36 (Nat.le_of_ble_eq_true rfl) (Nat.le_of_ble_eq_true rfl) ⟨rfl, _, _, _, _, hM1, by unfold o_told; (rw [if_pos (by omega), if_pos (by omega), if_neg (by omega)]) <;> (refine Prod.ext ?_ (Prod.ext ?_ ?_) <;> first | rfl | omega | (dsimp only; omega) | (dsimp only; split <;> omega))⟩
    · refine z_aload_n C 1 dX7_told_28 rfl ?_
      refine z_iconst C dX7_told_29 ?_
      refine z_cV (As := [.int (iI 3)]) C zc_X7_refuse (c_X7_refuse hX hM1 3) zl_6_179 (Nat.le_of_ble_eq_true rfl) (Nat.le_of_ble_eq_true rfl) (Nat.le_of_ble_eq_true rfl) (hM1.1.1) (hM1.1.2) rfl rfl rfl rfl (Nat.le_of_ble_eq_true rfl) dX7_told_30 (fun z15 L16 f17 hz18 => ?_)
      obtain ⟨rfl, rfl, hM14⟩ := hz18
      change ZW G pZ la eZ (zRm 4 0 0) sZ mZ aZ bZ hZ cZ AZ 5 0 0 _ L f17 33 [(4, .int (iI x13)), (0, .ref o), (1, .int (iI g)), (2, .int (iI d)), (3, .int (iI h))] [.int (iI 0)]
      exact z_ireturn C dX7_told_33 (Nat.le_of_ble_eq_true rfl) (Nat.le_of_ble_eq_true rfl) ⟨rfl, _, _, _, _, hM14, by unfold o_told; (rw [if_pos (by omega), if_pos (by omega), if_pos (by omega)]) <;> (refine Prod.ext ?_ (Prod.ext ?_ ?_) <;> first | rfl | omega | (dsimp only; omega) | (dsimp only; split <;> omega))⟩
  · refine z_iconst C dX7_told_10 ?_
    exact z_ireturn C dX7_told_11 (Nat.le_of_ble_eq_true rfl) (Nat.le_of_ble_eq_true rfl) ⟨rfl, _, _, _, _, hM1, by unfold o_told; (repeat' (first | (exfalso; omega) | split)) <;> (refine Prod.ext ?_ (Prod.ext ?_ ?_) <;> first | rfl | omega | (dsimp only; omega) | (dsimp only; split <;> omega))⟩

set_option maxRecDepth 100000 in
set_option maxHeartbeats 200000 in
theorem c_X7_tideIn {la : Launch} {G : zG} {X : (Nat → Prop) → State → Prop} (hX : zX X) {L : List Nat} {f : Nat → va_E} {o : Nat} {ad : Nat → Nat} {μ : zMu} {t : Int} {u v : Int → Int} (hM : MR G L f o ad μ t u v) (hI : MI μ) (c d h : Int) (hc : 0 ≤ c ∧ c ≤ 19) (hd : 0 ≤ d ∧ d ≤ 9) (hh : 0 ≤ h ∧ h ≤ 23) : zM la G X yX7_tideIn (.code yX7_tideIn cX7_tideIn 8 (some .int) :: zT) 4 0 0 [.ref o, .int (iI c), .int (iI d), .int (iI h)] L f zeI (zRd L f (fun z => z = spTide μ c d h)) := by
  refine zM_intro hX (by decide) (Nat.le_of_ble_eq_true rfl) (fun pZ eZ sZ mZ aZ bZ hZ cZ AZ C hini => ?_)
  change ZW G pZ la eZ (zRm 4 0 0) sZ mZ aZ bZ hZ cZ AZ 8 0 0 _ L f 0 [(0, .ref o), (1, .int (iI c)), (2, .int (iI d)), (3, .int (iI h))] []
  have hn9 := hI.n
  have hNO : zNO = -2147483648 := rfl
  
  refine z_iconst C dX7_tideIn_0 ?_
  refine z_istore (ls' := [(4, .int (iI (-1))), (0, .ref o), (1, .int (iI c)), (2, .int (iI d)), (3, .int (iI h))]) C dX7_tideIn_1 (Nat.le_of_ble_eq_true rfl) rfl ?_
  refine z_iconst C dX7_tideIn_3 ?_
  refine z_istore (ls' := [(5, .int (iI (-1))), (4, .int (iI (-1))), (0, .ref o), (1, .int (iI c)), (2, .int (iI d)), (3, .int (iI h))]) C dX7_tideIn_4 (Nat.le_of_ble_eq_true rfl) rfl ?_
  refine z_iconst C dX7_tideIn_6 ?_
  refine z_istore (ls' := [(6, .int (iI 0)), (5, .int (iI (-1))), (4, .int (iI (-1))), (0, .ref o), (1, .int (iI c)), (2, .int (iI d)), (3, .int (iI h))]) C dX7_tideIn_7 (Nat.le_of_ble_eq_true rfl) rfl ?_
  have key9 : ∀ (n9 : Nat) (lo : Int) (hi : Int) (g : Int) , (0 ≤ g ∧ g ≤ μ 1 0 ∧ spTI (fun g => spTells μ g d h) (μ 8) c g lo hi ∧ spTd (fun g => spTells μ g d h) (μ 8) c (μ 1 0 - g).toNat g lo hi = spTide μ c d h) → μ 1 0 - g < (n9 : Int) → ZW G pZ la eZ (zRm 4 0 0) sZ mZ aZ bZ hZ cZ AZ 8 0 0 (MQ bZ (zQ G zeI (zRd L f (fun z => z = spTide μ c d h)) AZ) aZ sZ 0 0 AZ) L f 9 [(0, .ref o), (1, .int (iI c)), (2, .int (iI d)), (3, .int (iI h)), (4, .int (iI lo)), (5, .int (iI hi)), (6, .int (iI g))] [] := by
    intro n9
    induction n9 with
    | zero => intro lo hi g  hi9 hn9; exfalso; omega
    | succ n9 ih9 =>
      intro lo hi g  hi9 hn9
      obtain ⟨hg0, hg1, hTI, hS⟩ := hi9
      refine z_iload C 6 dX7_tideIn_9 rfl ?_
      refine z_aload_n C 0 dX7_tideIn_11 rfl ?_
      refine z_getf C 1 zin_X7 (hM.1.1) (hM.1.2) rfl (Nat.le_of_ble_eq_true rfl) zl_6_99 rfl rfl dX7_tideIn_12 ?_
      refine z_icmp_ge C 134 dX7_tideIn_15 (by decide) (by omega) (by omega) (fun h15 => ?_) (fun h15 => ?_)
      · obtain ⟨i1, i2, i3, i4, i5, i6⟩ := id hTI
        dsimp only at i5 i6
        rw [spTd_0 _ _ _ (by omega)] at hS
        unfold spFin at hS
        dsimp only at hS
        refine z_iload C 4 dX7_tideIn_134 rfl ?_
        refine z_if_ge C 147 dX7_tideIn_136 (by decide) (by omega) (fun h136 => ?_) (fun h136 => ?_)
        · refine z_iload C 4 dX7_tideIn_147 rfl ?_
          refine z_if_lt C 157 dX7_tideIn_149 (by decide) (by omega) (fun h149 => ?_) (fun h149 => ?_)
          · refine z_aload_n C 0 dX7_tideIn_157 rfl ?_
            refine z_iload C 4 dX7_tideIn_158 rfl ?_
            refine z_if_ge C 168 dX7_tideIn_160 (by decide) (by omega) (fun h160 => ?_) (fun h160 => ?_)
            · refine z_iload C 4 dX7_tideIn_168 rfl ?_
              refine z_iload_n C 2 dX7_tideIn_170 rfl ?_
              refine z_iload_n C 3 dX7_tideIn_171 rfl ?_
              refine z_cV (As := [.int (iI lo), .int (iI d), .int (iI h)]) C zc_X7_tells (c_X7_tells hX hM hI lo d h (by omega) (by omega) (by omega)) zl_6_238 (Nat.le_of_ble_eq_true rfl) (Nat.le_of_ble_eq_true rfl) (Nat.le_of_ble_eq_true rfl) (hM.1.1) (hM.1.2) rfl rfl rfl rfl (Nat.le_of_ble_eq_true rfl) dX7_tideIn_172 (fun z2 L3 f4 hz5 => ?_)
              obtain ⟨hz5, rfl, rfl⟩ := hz5
              subst hz5
              have hr1 := spTells_rng hI (g := lo) (d := d) (h := h) (by omega) (by omega) (by omega)
              change ZW G pZ la eZ (zRm 4 0 0) sZ mZ aZ bZ hZ cZ AZ 8 0 0 _ L f 175 [(0, .ref o), (1, .int (iI c)), (2, .int (iI d)), (3, .int (iI h)), (4, .int (iI lo)), (5, .int (iI hi)), (6, .int (iI g))] [.int (iI (spTells μ lo d h))]
              exact z_ireturn C dX7_tideIn_175 (Nat.le_of_ble_eq_true rfl) (Nat.le_of_ble_eq_true rfl) ⟨by first | (rw [if_neg (by omega), if_pos (by omega)] at hS; exact hS) | (rw [if_neg (by omega), if_neg (by omega), if_pos (by omega)] at hS; exact hS), rfl, rfl⟩
            · refine z_iload C 5 dX7_tideIn_163 rfl ?_
              refine z_goto C 170 dX7_tideIn_165 (by decide) ?_
              refine z_iload_n C 2 dX7_tideIn_170 rfl ?_
              refine z_iload_n C 3 dX7_tideIn_171 rfl ?_
              refine z_cV (As := [.int (iI hi), .int (iI d), .int (iI h)]) C zc_X7_tells (c_X7_tells hX hM hI hi d h (by omega) (by omega) (by omega)) zl_6_238 (Nat.le_of_ble_eq_true rfl) (Nat.le_of_ble_eq_true rfl) (Nat.le_of_ble_eq_true rfl) (hM.1.1) (hM.1.2) rfl rfl rfl rfl (Nat.le_of_ble_eq_true rfl) dX7_tideIn_172 (fun z7 L8 f9 hz10 => ?_)
              obtain ⟨hz10, rfl, rfl⟩ := hz10
              subst hz10
              have hr6 := spTells_rng hI (g := hi) (d := d) (h := h) (by omega) (by omega) (by omega)
              change ZW G pZ la eZ (zRm 4 0 0) sZ mZ aZ bZ hZ cZ AZ 8 0 0 _ L f 175 [(0, .ref o), (1, .int (iI c)), (2, .int (iI d)), (3, .int (iI h)), (4, .int (iI lo)), (5, .int (iI hi)), (6, .int (iI g))] [.int (iI (spTells μ hi d h))]
              exact z_ireturn C dX7_tideIn_175 (Nat.le_of_ble_eq_true rfl) (Nat.le_of_ble_eq_true rfl) ⟨by first | (rw [if_neg (by omega), if_pos (by omega)] at hS; exact hS) | (rw [if_neg (by omega), if_neg (by omega), if_pos (by omega)] at hS; exact hS), rfl, rfl⟩
          · refine z_iload C 5 dX7_tideIn_152 rfl ?_
            refine z_if_ge C 176 dX7_tideIn_154 (by decide) (by omega) (fun h154 => ?_) (fun h154 => ?_)
            · have i5 := i5 (by omega)
              have i6 := i6 (by omega)
              have b5 := hI.b8 lo (by omega) (by omega)
              have b6 := hI.b8 hi (by omega) (by omega)
              refine z_aload_n C 0 dX7_tideIn_176 rfl ?_
              refine z_iload C 4 dX7_tideIn_177 rfl ?_
              refine z_iload_n C 2 dX7_tideIn_179 rfl ?_
              refine z_iload_n C 3 dX7_tideIn_180 rfl ?_
              refine z_cV (As := [.int (iI lo), .int (iI d), .int (iI h)]) C zc_X7_tells (c_X7_tells hX hM hI lo d h (by omega) (by omega) (by omega)) zl_6_238 (Nat.le_of_ble_eq_true rfl) (Nat.le_of_ble_eq_true rfl) (Nat.le_of_ble_eq_true rfl) (hM.1.1) (hM.1.2) rfl rfl rfl rfl (Nat.le_of_ble_eq_true rfl) dX7_tideIn_181 (fun z12 L13 f14 hz15 => ?_)
              obtain ⟨hz15, rfl, rfl⟩ := hz15
              subst hz15
              have hr11 := spTells_rng hI (g := lo) (d := d) (h := h) (by omega) (by omega) (by omega)
              change ZW G pZ la eZ (zRm 4 0 0) sZ mZ aZ bZ hZ cZ AZ 8 0 0 _ L f 184 [(0, .ref o), (1, .int (iI c)), (2, .int (iI d)), (3, .int (iI h)), (4, .int (iI lo)), (5, .int (iI hi)), (6, .int (iI g))] [.int (iI (spTells μ lo d h))]
              refine z_nm (fun ta hta => ?_)
              refine z_istore (ls' := [(6, .int (iI ta)), (0, .ref o), (1, .int (iI c)), (2, .int (iI d)), (3, .int (iI h)), (4, .int (iI lo)), (5, .int (iI hi))]) C dX7_tideIn_184 (Nat.le_of_ble_eq_true rfl) rfl ?_
              refine z_aload_n C 1 dX7_tideIn_186 rfl ?_
              refine z_iload C 6 dX7_tideIn_187 rfl ?_
              refine z_iload_n C 3 dX7_tideIn_189 rfl ?_
              refine z_iload_n C 4 dX7_tideIn_190 rfl ?_
              refine z_cV (As := [.int (iI hi), .int (iI d), .int (iI h)]) C zc_X7_tells (c_X7_tells hX hM hI hi d h (by omega) (by omega) (by omega)) zl_6_238 (Nat.le_of_ble_eq_true rfl) (Nat.le_of_ble_eq_true rfl) (Nat.le_of_ble_eq_true rfl) (hM.1.1) (hM.1.2) rfl rfl rfl rfl (Nat.le_of_ble_eq_true rfl) dX7_tideIn_191 (fun z17 L18 f19 hz20 => ?_)
              obtain ⟨hz20, rfl, rfl⟩ := hz20
              subst hz20
              have hr16 := spTells_rng hI (g := hi) (d := d) (h := h) (by omega) (by omega) (by omega)
              change ZW G pZ la eZ (zRm 4 0 0) sZ mZ aZ bZ hZ cZ AZ 8 0 0 _ L f 194 [(6, .int (iI ta)), (0, .ref o), (1, .int (iI c)), (2, .int (iI d)), (3, .int (iI h)), (4, .int (iI lo)), (5, .int (iI hi))] [.int (iI (spTells μ hi d h))]
              refine z_nm (fun tb htb => ?_)
              refine z_istore (ls' := [(7, .int (iI tb)), (6, .int (iI ta)), (0, .ref o), (1, .int (iI c)), (2, .int (iI d)), (3, .int (iI h)), (4, .int (iI lo)), (5, .int (iI hi))]) C dX7_tideIn_194 (Nat.le_of_ble_eq_true rfl) rfl ?_
              have r3 := zprod (y := tb) (x := ta) (k := c - μ 8 lo) (by omega) (by omega)
              refine z_iload C 1 dX7_tideIn_196 rfl ?_
              refine z_iload C 0 dX7_tideIn_198 rfl ?_
              refine z_iload C 1 dX7_tideIn_200 rfl ?_
              refine z_isub C dX7_tideIn_202 ?_
              refine z_iload_n C 3 dX7_tideIn_203 rfl ?_
              refine z_aload_n C 2 dX7_tideIn_204 rfl ?_
              refine z_getf C 8 zin_X7 (hM.1.1) (hM.1.2) rfl (Nat.le_of_ble_eq_true rfl) zl_6_106 rfl rfl dX7_tideIn_205 ?_
              refine z_iload C 6 dX7_tideIn_208 rfl ?_
              refine z_iald C (MR_a8 hM) (by omega) (by omega) (by omega) dX7_tideIn_210 ?_
              have hb21 := hI.J.b8 lo (by omega) (by omega)
              refine z_isub C dX7_tideIn_211 ?_
              refine z_imul C dX7_tideIn_212 ?_
              refine z_aload_n C 2 dX7_tideIn_213 rfl ?_
              refine z_getf C 8 zin_X7 (hM.1.1) (hM.1.2) rfl (Nat.le_of_ble_eq_true rfl) zl_6_106 rfl rfl dX7_tideIn_214 ?_
              refine z_iload C 7 dX7_tideIn_217 rfl ?_
              refine z_iald C (MR_a8 hM) (by omega) (by omega) (by omega) dX7_tideIn_219 ?_
              have hb22 := hI.J.b8 hi (by omega) (by omega)
              refine z_aload_n C 2 dX7_tideIn_220 rfl ?_
              refine z_getf C 8 zin_X7 (hM.1.1) (hM.1.2) rfl (Nat.le_of_ble_eq_true rfl) zl_6_106 rfl rfl dX7_tideIn_221 ?_
              refine z_iload C 6 dX7_tideIn_224 rfl ?_
              refine z_iald C (MR_a8 hM) (by omega) (by omega) (by omega) dX7_tideIn_226 ?_
              have hb23 := hI.J.b8 lo (by omega) (by omega)
              refine z_isub C dX7_tideIn_227 ?_
              refine z_cS (As := [.int (iI ((tb - ta) * (c - ((μ 8) lo)))), .int (iI (((μ 8) hi) - ((μ 8) lo)))]) C zc_X7_down (c_X7_down hX ((tb - ta) * (c - ((μ 8) lo))) (((μ 8) hi) - ((μ 8) lo)) (by omega) (by omega)) zl_6_207 (Nat.le_of_ble_eq_true rfl) (Nat.le_of_ble_eq_true rfl) (Nat.le_of_ble_eq_true rfl) rfl rfl (Nat.le_of_ble_eq_true rfl) dX7_tideIn_228 (fun z24 L25 f26 hz27 => ?_)
              obtain ⟨hz27, rfl, rfl⟩ := hz27
              subst hz27
              change ZW G pZ la eZ (zRm 4 0 0) sZ mZ aZ bZ hZ cZ AZ 8 0 0 _ L f 231 [(7, .int (iI tb)), (6, .int (iI ta)), (0, .ref o), (1, .int (iI c)), (2, .int (iI d)), (3, .int (iI h)), (4, .int (iI lo)), (5, .int (iI hi))] [.int (iI (((tb - ta) * (c - ((μ 8) lo))) / (((μ 8) hi) - ((μ 8) lo)))), .int (iI ta)]
              refine z_iadd C dX7_tideIn_231 ?_
              exact z_ireturn C dX7_tideIn_232 (Nat.le_of_ble_eq_true rfl) (Nat.le_of_ble_eq_true rfl) ⟨by rw [if_neg (by omega), if_neg (by omega), if_neg (by omega)] at hS; rw [hta, htb]; exact hS, rfl, rfl⟩
            · refine z_aload_n C 0 dX7_tideIn_157 rfl ?_
              refine z_iload C 4 dX7_tideIn_158 rfl ?_
              refine z_if_ge C 168 dX7_tideIn_160 (by decide) (by omega) (fun h160 => ?_) (fun h160 => ?_)
              · refine z_iload C 4 dX7_tideIn_168 rfl ?_
                refine z_iload_n C 2 dX7_tideIn_170 rfl ?_
                refine z_iload_n C 3 dX7_tideIn_171 rfl ?_
                refine z_cV (As := [.int (iI lo), .int (iI d), .int (iI h)]) C zc_X7_tells (c_X7_tells hX hM hI lo d h (by omega) (by omega) (by omega)) zl_6_238 (Nat.le_of_ble_eq_true rfl) (Nat.le_of_ble_eq_true rfl) (Nat.le_of_ble_eq_true rfl) (hM.1.1) (hM.1.2) rfl rfl rfl rfl (Nat.le_of_ble_eq_true rfl) dX7_tideIn_172 (fun z29 L30 f31 hz32 => ?_)
                obtain ⟨hz32, rfl, rfl⟩ := hz32
                subst hz32
                have hr28 := spTells_rng hI (g := lo) (d := d) (h := h) (by omega) (by omega) (by omega)
                change ZW G pZ la eZ (zRm 4 0 0) sZ mZ aZ bZ hZ cZ AZ 8 0 0 _ L f 175 [(0, .ref o), (1, .int (iI c)), (2, .int (iI d)), (3, .int (iI h)), (4, .int (iI lo)), (5, .int (iI hi)), (6, .int (iI g))] [.int (iI (spTells μ lo d h))]
                exact z_ireturn C dX7_tideIn_175 (Nat.le_of_ble_eq_true rfl) (Nat.le_of_ble_eq_true rfl) ⟨by first | (rw [if_neg (by omega), if_pos (by omega)] at hS; exact hS) | (rw [if_neg (by omega), if_neg (by omega), if_pos (by omega)] at hS; exact hS), rfl, rfl⟩
              · refine z_iload C 5 dX7_tideIn_163 rfl ?_
                refine z_goto C 170 dX7_tideIn_165 (by decide) ?_
                refine z_iload_n C 2 dX7_tideIn_170 rfl ?_
                refine z_iload_n C 3 dX7_tideIn_171 rfl ?_
                refine z_cV (As := [.int (iI hi), .int (iI d), .int (iI h)]) C zc_X7_tells (c_X7_tells hX hM hI hi d h (by omega) (by omega) (by omega)) zl_6_238 (Nat.le_of_ble_eq_true rfl) (Nat.le_of_ble_eq_true rfl) (Nat.le_of_ble_eq_true rfl) (hM.1.1) (hM.1.2) rfl rfl rfl rfl (Nat.le_of_ble_eq_true rfl) dX7_tideIn_172 (fun z34 L35 f36 hz37 => ?_)
                obtain ⟨hz37, rfl, rfl⟩ := hz37
                subst hz37
                have hr33 := spTells_rng hI (g := hi) (d := d) (h := h) (by omega) (by omega) (by omega)
                change ZW G pZ la eZ (zRm 4 0 0) sZ mZ aZ bZ hZ cZ AZ 8 0 0 _ L f 175 [(0, .ref o), (1, .int (iI c)), (2, .int (iI d)), (3, .int (iI h)), (4, .int (iI lo)), (5, .int (iI hi)), (6, .int (iI g))] [.int (iI (spTells μ hi d h))]
                exact z_ireturn C dX7_tideIn_175 (Nat.le_of_ble_eq_true rfl) (Nat.le_of_ble_eq_true rfl) ⟨by first | (rw [if_neg (by omega), if_pos (by omega)] at hS; exact hS) | (rw [if_neg (by omega), if_neg (by omega), if_pos (by omega)] at hS; exact hS), rfl, rfl⟩
        · refine z_iload C 5 dX7_tideIn_139 rfl ?_
          refine z_if_ge C 147 dX7_tideIn_141 (by decide) (by omega) (fun h141 => ?_) (fun h141 => ?_)
          · refine z_iload C 4 dX7_tideIn_147 rfl ?_
            refine z_if_lt C 157 dX7_tideIn_149 (by decide) (by omega) (fun h149 => ?_) (fun h149 => ?_)
            · refine z_aload_n C 0 dX7_tideIn_157 rfl ?_
              refine z_iload C 4 dX7_tideIn_158 rfl ?_
              refine z_if_ge C 168 dX7_tideIn_160 (by decide) (by omega) (fun h160 => ?_) (fun h160 => ?_)
              · refine z_iload C 4 dX7_tideIn_168 rfl ?_
                refine z_iload_n C 2 dX7_tideIn_170 rfl ?_
                refine z_iload_n C 3 dX7_tideIn_171 rfl ?_
                refine z_cV (As := [.int (iI lo), .int (iI d), .int (iI h)]) C zc_X7_tells (c_X7_tells hX hM hI lo d h (by omega) (by omega) (by omega)) zl_6_238 (Nat.le_of_ble_eq_true rfl) (Nat.le_of_ble_eq_true rfl) (Nat.le_of_ble_eq_true rfl) (hM.1.1) (hM.1.2) rfl rfl rfl rfl (Nat.le_of_ble_eq_true rfl) dX7_tideIn_172 (fun z39 L40 f41 hz42 => ?_)
                obtain ⟨hz42, rfl, rfl⟩ := hz42
                subst hz42
                have hr38 := spTells_rng hI (g := lo) (d := d) (h := h) (by omega) (by omega) (by omega)
                change ZW G pZ la eZ (zRm 4 0 0) sZ mZ aZ bZ hZ cZ AZ 8 0 0 _ L f 175 [(0, .ref o), (1, .int (iI c)), (2, .int (iI d)), (3, .int (iI h)), (4, .int (iI lo)), (5, .int (iI hi)), (6, .int (iI g))] [.int (iI (spTells μ lo d h))]
                exact z_ireturn C dX7_tideIn_175 (Nat.le_of_ble_eq_true rfl) (Nat.le_of_ble_eq_true rfl) ⟨by first | (rw [if_neg (by omega), if_pos (by omega)] at hS; exact hS) | (rw [if_neg (by omega), if_neg (by omega), if_pos (by omega)] at hS; exact hS), rfl, rfl⟩
              · refine z_iload C 5 dX7_tideIn_163 rfl ?_
                refine z_goto C 170 dX7_tideIn_165 (by decide) ?_
                refine z_iload_n C 2 dX7_tideIn_170 rfl ?_
                refine z_iload_n C 3 dX7_tideIn_171 rfl ?_
                refine z_cV (As := [.int (iI hi), .int (iI d), .int (iI h)]) C zc_X7_tells (c_X7_tells hX hM hI hi d h (by omega) (by omega) (by omega)) zl_6_238 (Nat.le_of_ble_eq_true rfl) (Nat.le_of_ble_eq_true rfl) (Nat.le_of_ble_eq_true rfl) (hM.1.1) (hM.1.2) rfl rfl rfl rfl (Nat.le_of_ble_eq_true rfl) dX7_tideIn_172 (fun z44 L45 f46 hz47 => ?_)
                obtain ⟨hz47, rfl, rfl⟩ := hz47
                subst hz47
                have hr43 := spTells_rng hI (g := hi) (d := d) (h := h) (by omega) (by omega) (by omega)
                change ZW G pZ la eZ (zRm 4 0 0) sZ mZ aZ bZ hZ cZ AZ 8 0 0 _ L f 175 [(0, .ref o), (1, .int (iI c)), (2, .int (iI d)), (3, .int (iI h)), (4, .int (iI lo)), (5, .int (iI hi)), (6, .int (iI g))] [.int (iI (spTells μ hi d h))]
                exact z_ireturn C dX7_tideIn_175 (Nat.le_of_ble_eq_true rfl) (Nat.le_of_ble_eq_true rfl) ⟨by first | (rw [if_neg (by omega), if_pos (by omega)] at hS; exact hS) | (rw [if_neg (by omega), if_neg (by omega), if_pos (by omega)] at hS; exact hS), rfl, rfl⟩
            · refine z_iload C 5 dX7_tideIn_152 rfl ?_
              refine z_if_ge C 176 dX7_tideIn_154 (by decide) (by omega) (fun h154 => ?_) (fun h154 => ?_)
              · have i5 := i5 (by omega)
                have i6 := i6 (by omega)
                have b5 := hI.b8 lo (by omega) (by omega)
                have b6 := hI.b8 hi (by omega) (by omega)
                refine z_aload_n C 0 dX7_tideIn_176 rfl ?_
                refine z_iload C 4 dX7_tideIn_177 rfl ?_
                refine z_iload_n C 2 dX7_tideIn_179 rfl ?_
                refine z_iload_n C 3 dX7_tideIn_180 rfl ?_
                refine z_cV (As := [.int (iI lo), .int (iI d), .int (iI h)]) C zc_X7_tells (c_X7_tells hX hM hI lo d h (by omega) (by omega) (by omega)) zl_6_238 (Nat.le_of_ble_eq_true rfl) (Nat.le_of_ble_eq_true rfl) (Nat.le_of_ble_eq_true rfl) (hM.1.1) (hM.1.2) rfl rfl rfl rfl (Nat.le_of_ble_eq_true rfl) dX7_tideIn_181 (fun z49 L50 f51 hz52 => ?_)
                obtain ⟨hz52, rfl, rfl⟩ := hz52
                subst hz52
                have hr48 := spTells_rng hI (g := lo) (d := d) (h := h) (by omega) (by omega) (by omega)
                change ZW G pZ la eZ (zRm 4 0 0) sZ mZ aZ bZ hZ cZ AZ 8 0 0 _ L f 184 [(0, .ref o), (1, .int (iI c)), (2, .int (iI d)), (3, .int (iI h)), (4, .int (iI lo)), (5, .int (iI hi)), (6, .int (iI g))] [.int (iI (spTells μ lo d h))]
                refine z_nm (fun ta hta => ?_)
                refine z_istore (ls' := [(6, .int (iI ta)), (0, .ref o), (1, .int (iI c)), (2, .int (iI d)), (3, .int (iI h)), (4, .int (iI lo)), (5, .int (iI hi))]) C dX7_tideIn_184 (Nat.le_of_ble_eq_true rfl) rfl ?_
                refine z_aload_n C 1 dX7_tideIn_186 rfl ?_
                refine z_iload C 6 dX7_tideIn_187 rfl ?_
                refine z_iload_n C 3 dX7_tideIn_189 rfl ?_
                refine z_iload_n C 4 dX7_tideIn_190 rfl ?_
                refine z_cV (As := [.int (iI hi), .int (iI d), .int (iI h)]) C zc_X7_tells (c_X7_tells hX hM hI hi d h (by omega) (by omega) (by omega)) zl_6_238 (Nat.le_of_ble_eq_true rfl) (Nat.le_of_ble_eq_true rfl) (Nat.le_of_ble_eq_true rfl) (hM.1.1) (hM.1.2) rfl rfl rfl rfl (Nat.le_of_ble_eq_true rfl) dX7_tideIn_191 (fun z54 L55 f56 hz57 => ?_)
                obtain ⟨hz57, rfl, rfl⟩ := hz57
                subst hz57
                have hr53 := spTells_rng hI (g := hi) (d := d) (h := h) (by omega) (by omega) (by omega)
                change ZW G pZ la eZ (zRm 4 0 0) sZ mZ aZ bZ hZ cZ AZ 8 0 0 _ L f 194 [(6, .int (iI ta)), (0, .ref o), (1, .int (iI c)), (2, .int (iI d)), (3, .int (iI h)), (4, .int (iI lo)), (5, .int (iI hi))] [.int (iI (spTells μ hi d h))]
                refine z_nm (fun tb htb => ?_)
                refine z_istore (ls' := [(7, .int (iI tb)), (6, .int (iI ta)), (0, .ref o), (1, .int (iI c)), (2, .int (iI d)), (3, .int (iI h)), (4, .int (iI lo)), (5, .int (iI hi))]) C dX7_tideIn_194 (Nat.le_of_ble_eq_true rfl) rfl ?_
                have r3 := zprod (y := tb) (x := ta) (k := c - μ 8 lo) (by omega) (by omega)
                refine z_iload C 1 dX7_tideIn_196 rfl ?_
                refine z_iload C 0 dX7_tideIn_198 rfl ?_
                refine z_iload C 1 dX7_tideIn_200 rfl ?_
                refine z_isub C dX7_tideIn_202 ?_
                refine z_iload_n C 3 dX7_tideIn_203 rfl ?_
                refine z_aload_n C 2 dX7_tideIn_204 rfl ?_
                refine z_getf C 8 zin_X7 (hM.1.1) (hM.1.2) rfl (Nat.le_of_ble_eq_true rfl) zl_6_106 rfl rfl dX7_tideIn_205 ?_
                refine z_iload C 6 dX7_tideIn_208 rfl ?_
                refine z_iald C (MR_a8 hM) (by omega) (by omega) (by omega) dX7_tideIn_210 ?_
                have hb58 := hI.J.b8 lo (by omega) (by omega)
                refine z_isub C dX7_tideIn_211 ?_
                refine z_imul C dX7_tideIn_212 ?_
                refine z_aload_n C 2 dX7_tideIn_213 rfl ?_
                refine z_getf C 8 zin_X7 (hM.1.1) (hM.1.2) rfl (Nat.le_of_ble_eq_true rfl) zl_6_106 rfl rfl dX7_tideIn_214 ?_
                refine z_iload C 7 dX7_tideIn_217 rfl ?_
                refine z_iald C (MR_a8 hM) (by omega) (by omega) (by omega) dX7_tideIn_219 ?_
                have hb59 := hI.J.b8 hi (by omega) (by omega)
                refine z_aload_n C 2 dX7_tideIn_220 rfl ?_
                refine z_getf C 8 zin_X7 (hM.1.1) (hM.1.2) rfl (Nat.le_of_ble_eq_true rfl) zl_6_106 rfl rfl dX7_tideIn_221 ?_
                refine z_iload C 6 dX7_tideIn_224 rfl ?_
                refine z_iald C (MR_a8 hM) (by omega) (by omega) (by omega) dX7_tideIn_226 ?_
                have hb60 := hI.J.b8 lo (by omega) (by omega)
                refine z_isub C dX7_tideIn_227 ?_
                refine z_cS (As := [.int (iI ((tb - ta) * (c - ((μ 8) lo)))), .int (iI (((μ 8) hi) - ((μ 8) lo)))]) C zc_X7_down (c_X7_down hX ((tb - ta) * (c - ((μ 8) lo))) (((μ 8) hi) - ((μ 8) lo)) (by omega) (by omega)) zl_6_207 (Nat.le_of_ble_eq_true rfl) (Nat.le_of_ble_eq_true rfl) (Nat.le_of_ble_eq_true rfl) rfl rfl (Nat.le_of_ble_eq_true rfl) dX7_tideIn_228 (fun z61 L62 f63 hz64 => ?_)
                obtain ⟨hz64, rfl, rfl⟩ := hz64
                subst hz64
                change ZW G pZ la eZ (zRm 4 0 0) sZ mZ aZ bZ hZ cZ AZ 8 0 0 _ L f 231 [(7, .int (iI tb)), (6, .int (iI ta)), (0, .ref o), (1, .int (iI c)), (2, .int (iI d)), (3, .int (iI h)), (4, .int (iI lo)), (5, .int (iI hi))] [.int (iI (((tb - ta) * (c - ((μ 8) lo))) / (((μ 8) hi) - ((μ 8) lo)))), .int (iI ta)]
                refine z_iadd C dX7_tideIn_231 ?_
                exact z_ireturn C dX7_tideIn_232 (Nat.le_of_ble_eq_true rfl) (Nat.le_of_ble_eq_true rfl) ⟨by rw [if_neg (by omega), if_neg (by omega), if_neg (by omega)] at hS; rw [hta, htb]; exact hS, rfl, rfl⟩
              · refine z_aload_n C 0 dX7_tideIn_157 rfl ?_
                refine z_iload C 4 dX7_tideIn_158 rfl ?_
                refine z_if_ge C 168 dX7_tideIn_160 (by decide) (by omega) (fun h160 => ?_) (fun h160 => ?_)
                · refine z_iload C 4 dX7_tideIn_168 rfl ?_
                  refine z_iload_n C 2 dX7_tideIn_170 rfl ?_
                  refine z_iload_n C 3 dX7_tideIn_171 rfl ?_
                  refine z_cV (As := [.int (iI lo), .int (iI d), .int (iI h)]) C zc_X7_tells (c_X7_tells hX hM hI lo d h (by omega) (by omega) (by omega)) zl_6_238 (Nat.le_of_ble_eq_true rfl) (Nat.le_of_ble_eq_true rfl) (Nat.le_of_ble_eq_true rfl) (hM.1.1) (hM.1.2) rfl rfl rfl rfl (Nat.le_of_ble_eq_true rfl) dX7_tideIn_172 (fun z66 L67 f68 hz69 => ?_)
                  obtain ⟨hz69, rfl, rfl⟩ := hz69
                  subst hz69
                  have hr65 := spTells_rng hI (g := lo) (d := d) (h := h) (by omega) (by omega) (by omega)
                  change ZW G pZ la eZ (zRm 4 0 0) sZ mZ aZ bZ hZ cZ AZ 8 0 0 _ L f 175 [(0, .ref o), (1, .int (iI c)), (2, .int (iI d)), (3, .int (iI h)), (4, .int (iI lo)), (5, .int (iI hi)), (6, .int (iI g))] [.int (iI (spTells μ lo d h))]
                  exact z_ireturn C dX7_tideIn_175 (Nat.le_of_ble_eq_true rfl) (Nat.le_of_ble_eq_true rfl) ⟨by first | (rw [if_neg (by omega), if_pos (by omega)] at hS; exact hS) | (rw [if_neg (by omega), if_neg (by omega), if_pos (by omega)] at hS; exact hS), rfl, rfl⟩
                · refine z_iload C 5 dX7_tideIn_163 rfl ?_
                  refine z_goto C 170 dX7_tideIn_165 (by decide) ?_
                  refine z_iload_n C 2 dX7_tideIn_170 rfl ?_
                  refine z_iload_n C 3 dX7_tideIn_171 rfl ?_
                  refine z_cV (As := [.int (iI hi), .int (iI d), .int (iI h)]) C zc_X7_tells (c_X7_tells hX hM hI hi d h (by omega) (by omega) (by omega)) zl_6_238 (Nat.le_of_ble_eq_true rfl) (Nat.le_of_ble_eq_true rfl) (Nat.le_of_ble_eq_true rfl) (hM.1.1) (hM.1.2) rfl rfl rfl rfl (Nat.le_of_ble_eq_true rfl) dX7_tideIn_172 (fun z71 L72 f73 hz74 => ?_)
                  obtain ⟨hz74, rfl, rfl⟩ := hz74
                  subst hz74
                  have hr70 := spTells_rng hI (g := hi) (d := d) (h := h) (by omega) (by omega) (by omega)
                  change ZW G pZ la eZ (zRm 4 0 0) sZ mZ aZ bZ hZ cZ AZ 8 0 0 _ L f 175 [(0, .ref o), (1, .int (iI c)), (2, .int (iI d)), (3, .int (iI h)), (4, .int (iI lo)), (5, .int (iI hi)), (6, .int (iI g))] [.int (iI (spTells μ hi d h))]
                  exact z_ireturn C dX7_tideIn_175 (Nat.le_of_ble_eq_true rfl) (Nat.le_of_ble_eq_true rfl) ⟨by first | (rw [if_neg (by omega), if_pos (by omega)] at hS; exact hS) | (rw [if_neg (by omega), if_neg (by omega), if_pos (by omega)] at hS; exact hS), rfl, rfl⟩
          · refine z_ldc (n := (-2147483648)) C zl_7_2 rfl dX7_tideIn_144 ?_
            exact z_ireturn C dX7_tideIn_146 (Nat.le_of_ble_eq_true rfl) (Nat.le_of_ble_eq_true rfl) ⟨by rw [if_pos (by omega)] at hS; exact hS, rfl, rfl⟩
      · obtain ⟨i1, i2, i3, i4, i5, i6⟩ := id hTI
        dsimp only at i5 i6
        have h8 := hI.b8 g (by omega) (by omega)
        refine z_aload_n C 0 dX7_tideIn_18 rfl ?_
        refine z_iload C 6 dX7_tideIn_19 rfl ?_
        refine z_iload_n C 2 dX7_tideIn_21 rfl ?_
        refine z_iload_n C 3 dX7_tideIn_22 rfl ?_
        refine z_cV (As := [.int (iI g), .int (iI d), .int (iI h)]) C zc_X7_tells (c_X7_tells hX hM hI g d h (by omega) (by omega) (by omega)) zl_6_238 (Nat.le_of_ble_eq_true rfl) (Nat.le_of_ble_eq_true rfl) (Nat.le_of_ble_eq_true rfl) (hM.1.1) (hM.1.2) rfl rfl rfl rfl (Nat.le_of_ble_eq_true rfl) dX7_tideIn_23 (fun z76 L77 f78 hz79 => ?_)
        obtain ⟨hz79, rfl, rfl⟩ := hz79
        subst hz79
        have hr75 := spTells_rng hI (g := g) (d := d) (h := h) (by omega) (by omega) (by omega)
        change ZW G pZ la eZ (zRm 4 0 0) sZ mZ aZ bZ hZ cZ AZ 8 0 0 _ L f 26 [(0, .ref o), (1, .int (iI c)), (2, .int (iI d)), (3, .int (iI h)), (4, .int (iI lo)), (5, .int (iI hi)), (6, .int (iI g))] [.int (iI (spTells μ g d h))]
        refine z_ldc (n := (-2147483648)) C zl_7_2 rfl dX7_tideIn_26 ?_
        refine z_icmp_ne C 34 dX7_tideIn_28 (by decide) (by omega) (by omega) (fun h28 => ?_) (fun h28 => ?_)
        · refine z_aload_n C 0 dX7_tideIn_34 rfl ?_
          refine z_getf C 8 zin_X7 (hM.1.1) (hM.1.2) rfl (Nat.le_of_ble_eq_true rfl) zl_6_106 rfl rfl dX7_tideIn_35 ?_
          refine z_iload C 6 dX7_tideIn_38 rfl ?_
          refine z_iald C (MR_a8 hM) (by omega) (by omega) (by omega) dX7_tideIn_40 ?_
          have hb80 := hI.J.b8 g (by omega) (by omega)
          refine z_iload_n C 1 dX7_tideIn_41 rfl ?_
          refine z_icmp_ne C 54 dX7_tideIn_42 (by decide) (by omega) (by omega) (fun h42 => ?_) (fun h42 => ?_)
          · have J91 : ∀  (lo2 : Int)  (hj91 : lo2 = spLo (μ 8) c g lo), ZW G pZ la eZ (zRm 4 0 0) sZ mZ aZ bZ hZ cZ AZ 8 0 0 (MQ bZ (zQ G zeI (zRd L f (fun z => z = spTide μ c d h)) AZ) aZ sZ 0 0 AZ) L f 91 [(0, .ref o), (1, .int (iI c)), (2, .int (iI d)), (3, .int (iI h)), (4, .int (iI lo2)), (5, .int (iI hi)), (6, .int (iI g))] [] := by
              intro  lo2  hj91
              have hlo2 := hj91
              refine z_aload_n C 0 dX7_tideIn_91 rfl ?_
              refine z_getf C 8 zin_X7 (hM.1.1) (hM.1.2) rfl (Nat.le_of_ble_eq_true rfl) zl_6_106 rfl rfl dX7_tideIn_92 ?_
              refine z_iload C 6 dX7_tideIn_95 rfl ?_
              refine z_iald C (MR_a8 hM) (by omega) (by omega) (by omega) dX7_tideIn_97 ?_
              have hb81 := hI.J.b8 g (by omega) (by omega)
              refine z_iload_n C 1 dX7_tideIn_98 rfl ?_
              refine z_icmp_le C 128 dX7_tideIn_99 (by decide) (by omega) (by omega) (fun h99 => ?_) (fun h99 => ?_)
              · refine z_iinc (ls' := [(6, .int (iI (g + 1))), (0, .ref o), (1, .int (iI c)), (2, .int (iI d)), (3, .int (iI h)), (4, .int (iI lo2)), (5, .int (iI hi))]) C 6 dX7_tideIn_128 rfl (Nat.le_of_ble_eq_true rfl) rfl ?_
                refine z_goto C 9 dX7_tideIn_131 (by decide) ?_
                refine z_perm [1, 2, 3, 4, 5, 6, 0] rfl ?_
                exact ih9 _ _ _  ⟨by omega, by omega, by first | exact spTI_n hTI | (have q := spTI_s hg0 hTI (show spTells μ g d h ≠ zNO by omega); unfold spHi at q; rw [← hlo2] at q; first | (rw [if_pos (by omega)] at q; exact q) | (rw [if_neg (by omega)] at q; exact q)), by rw [spTd_s _ _ _ (by omega)] at hS; first | (rw [if_pos (show spTells μ g d h = zNO by omega)] at hS; exact hS) | (rw [if_neg (show ¬ spTells μ g d h = zNO by omega), if_neg (by omega), ← hlo2] at hS; unfold spHi at hS; first | (rw [if_pos (by omega)] at hS; exact hS) | (rw [if_neg (by omega)] at hS; exact hS))⟩ (by omega)
              · refine z_iload C 5 dX7_tideIn_102 rfl ?_
                refine z_if_lt C 124 dX7_tideIn_104 (by decide) (by omega) (fun h104 => ?_) (fun h104 => ?_)
                · refine z_iload C 6 dX7_tideIn_124 rfl ?_
                  refine z_istore (ls' := [(5, .int (iI g)), (0, .ref o), (1, .int (iI c)), (2, .int (iI d)), (3, .int (iI h)), (4, .int (iI lo2)), (6, .int (iI g))]) C dX7_tideIn_126 (Nat.le_of_ble_eq_true rfl) rfl ?_
                  refine z_iinc (ls' := [(6, .int (iI (g + 1))), (5, .int (iI g)), (0, .ref o), (1, .int (iI c)), (2, .int (iI d)), (3, .int (iI h)), (4, .int (iI lo2))]) C 6 dX7_tideIn_128 rfl (Nat.le_of_ble_eq_true rfl) rfl ?_
                  refine z_goto C 9 dX7_tideIn_131 (by decide) ?_
                  refine z_perm [2, 3, 4, 5, 6, 1, 0] rfl ?_
                  exact ih9 _ _ _  ⟨by omega, by omega, by first | exact spTI_n hTI | (have q := spTI_s hg0 hTI (show spTells μ g d h ≠ zNO by omega); unfold spHi at q; rw [← hlo2] at q; first | (rw [if_pos (by omega)] at q; exact q) | (rw [if_neg (by omega)] at q; exact q)), by rw [spTd_s _ _ _ (by omega)] at hS; first | (rw [if_pos (show spTells μ g d h = zNO by omega)] at hS; exact hS) | (rw [if_neg (show ¬ spTells μ g d h = zNO by omega), if_neg (by omega), ← hlo2] at hS; unfold spHi at hS; first | (rw [if_pos (by omega)] at hS; exact hS) | (rw [if_neg (by omega)] at hS; exact hS))⟩ (by omega)
                · have i6 := i6 (by omega)
                  refine z_aload_n C 0 dX7_tideIn_107 rfl ?_
                  refine z_getf C 8 zin_X7 (hM.1.1) (hM.1.2) rfl (Nat.le_of_ble_eq_true rfl) zl_6_106 rfl rfl dX7_tideIn_108 ?_
                  refine z_iload C 6 dX7_tideIn_111 rfl ?_
                  refine z_iald C (MR_a8 hM) (by omega) (by omega) (by omega) dX7_tideIn_113 ?_
                  have hb82 := hI.J.b8 g (by omega) (by omega)
                  refine z_aload_n C 0 dX7_tideIn_114 rfl ?_
                  refine z_getf C 8 zin_X7 (hM.1.1) (hM.1.2) rfl (Nat.le_of_ble_eq_true rfl) zl_6_106 rfl rfl dX7_tideIn_115 ?_
                  refine z_iload C 5 dX7_tideIn_118 rfl ?_
                  refine z_iald C (MR_a8 hM) (by omega) (by omega) (by omega) dX7_tideIn_120 ?_
                  have hb83 := hI.J.b8 hi (by omega) (by omega)
                  refine z_icmp_ge C 128 dX7_tideIn_121 (by decide) (by omega) (by omega) (fun h121 => ?_) (fun h121 => ?_)
                  · refine z_iinc (ls' := [(6, .int (iI (g + 1))), (0, .ref o), (1, .int (iI c)), (2, .int (iI d)), (3, .int (iI h)), (4, .int (iI lo2)), (5, .int (iI hi))]) C 6 dX7_tideIn_128 rfl (Nat.le_of_ble_eq_true rfl) rfl ?_
                    refine z_goto C 9 dX7_tideIn_131 (by decide) ?_
                    refine z_perm [1, 2, 3, 4, 5, 6, 0] rfl ?_
                    exact ih9 _ _ _  ⟨by omega, by omega, by first | exact spTI_n hTI | (have q := spTI_s hg0 hTI (show spTells μ g d h ≠ zNO by omega); unfold spHi at q; rw [← hlo2] at q; first | (rw [if_pos (by omega)] at q; exact q) | (rw [if_neg (by omega)] at q; exact q)), by rw [spTd_s _ _ _ (by omega)] at hS; first | (rw [if_pos (show spTells μ g d h = zNO by omega)] at hS; exact hS) | (rw [if_neg (show ¬ spTells μ g d h = zNO by omega), if_neg (by omega), ← hlo2] at hS; unfold spHi at hS; first | (rw [if_pos (by omega)] at hS; exact hS) | (rw [if_neg (by omega)] at hS; exact hS))⟩ (by omega)
                  · refine z_iload C 6 dX7_tideIn_124 rfl ?_
                    refine z_istore (ls' := [(5, .int (iI g)), (0, .ref o), (1, .int (iI c)), (2, .int (iI d)), (3, .int (iI h)), (4, .int (iI lo2)), (6, .int (iI g))]) C dX7_tideIn_126 (Nat.le_of_ble_eq_true rfl) rfl ?_
                    refine z_iinc (ls' := [(6, .int (iI (g + 1))), (5, .int (iI g)), (0, .ref o), (1, .int (iI c)), (2, .int (iI d)), (3, .int (iI h)), (4, .int (iI lo2))]) C 6 dX7_tideIn_128 rfl (Nat.le_of_ble_eq_true rfl) rfl ?_
                    refine z_goto C 9 dX7_tideIn_131 (by decide) ?_
                    refine z_perm [2, 3, 4, 5, 6, 1, 0] rfl ?_
                    exact ih9 _ _ _  ⟨by omega, by omega, by first | exact spTI_n hTI | (have q := spTI_s hg0 hTI (show spTells μ g d h ≠ zNO by omega); unfold spHi at q; rw [← hlo2] at q; first | (rw [if_pos (by omega)] at q; exact q) | (rw [if_neg (by omega)] at q; exact q)), by rw [spTd_s _ _ _ (by omega)] at hS; first | (rw [if_pos (show spTells μ g d h = zNO by omega)] at hS; exact hS) | (rw [if_neg (show ¬ spTells μ g d h = zNO by omega), if_neg (by omega), ← hlo2] at hS; unfold spHi at hS; first | (rw [if_pos (by omega)] at hS; exact hS) | (rw [if_neg (by omega)] at hS; exact hS))⟩ (by omega)
            refine z_aload_n C 0 dX7_tideIn_54 rfl ?_
            refine z_getf C 8 zin_X7 (hM.1.1) (hM.1.2) rfl (Nat.le_of_ble_eq_true rfl) zl_6_106 rfl rfl dX7_tideIn_55 ?_
            refine z_iload C 6 dX7_tideIn_58 rfl ?_
            refine z_iald C (MR_a8 hM) (by omega) (by omega) (by omega) dX7_tideIn_60 ?_
            have hb84 := hI.J.b8 g (by omega) (by omega)
            refine z_iload_n C 1 dX7_tideIn_61 rfl ?_
            refine z_icmp_ge C 91 dX7_tideIn_62 (by decide) (by omega) (by omega) (fun h62 => ?_) (fun h62 => ?_)
            · refine z_perm [0, 1, 2, 3, 4, 5, 6] rfl ?_
              exact J91 _  (by unfold spLo; first | rw [if_pos (by omega)] | rw [if_neg (by omega)])
            · refine z_iload C 4 dX7_tideIn_65 rfl ?_
              refine z_if_lt C 87 dX7_tideIn_67 (by decide) (by omega) (fun h67 => ?_) (fun h67 => ?_)
              · refine z_iload C 6 dX7_tideIn_87 rfl ?_
                refine z_istore (ls' := [(4, .int (iI g)), (0, .ref o), (1, .int (iI c)), (2, .int (iI d)), (3, .int (iI h)), (5, .int (iI hi)), (6, .int (iI g))]) C dX7_tideIn_89 (Nat.le_of_ble_eq_true rfl) rfl ?_
                refine z_perm [1, 2, 3, 4, 0, 5, 6] rfl ?_
                exact J91 _  (by unfold spLo; first | rw [if_pos (by omega)] | rw [if_neg (by omega)])
              · have i5 := i5 (by omega)
                refine z_aload_n C 0 dX7_tideIn_70 rfl ?_
                refine z_getf C 8 zin_X7 (hM.1.1) (hM.1.2) rfl (Nat.le_of_ble_eq_true rfl) zl_6_106 rfl rfl dX7_tideIn_71 ?_
                refine z_iload C 6 dX7_tideIn_74 rfl ?_
                refine z_iald C (MR_a8 hM) (by omega) (by omega) (by omega) dX7_tideIn_76 ?_
                have hb85 := hI.J.b8 g (by omega) (by omega)
                refine z_aload_n C 0 dX7_tideIn_77 rfl ?_
                refine z_getf C 8 zin_X7 (hM.1.1) (hM.1.2) rfl (Nat.le_of_ble_eq_true rfl) zl_6_106 rfl rfl dX7_tideIn_78 ?_
                refine z_iload C 4 dX7_tideIn_81 rfl ?_
                refine z_iald C (MR_a8 hM) (by omega) (by omega) (by omega) dX7_tideIn_83 ?_
                have hb86 := hI.J.b8 lo (by omega) (by omega)
                refine z_icmp_le C 91 dX7_tideIn_84 (by decide) (by omega) (by omega) (fun h84 => ?_) (fun h84 => ?_)
                · refine z_perm [0, 1, 2, 3, 4, 5, 6] rfl ?_
                  exact J91 _  (by unfold spLo; first | rw [if_pos (by omega)] | rw [if_neg (by omega)])
                · refine z_iload C 6 dX7_tideIn_87 rfl ?_
                  refine z_istore (ls' := [(4, .int (iI g)), (0, .ref o), (1, .int (iI c)), (2, .int (iI d)), (3, .int (iI h)), (5, .int (iI hi)), (6, .int (iI g))]) C dX7_tideIn_89 (Nat.le_of_ble_eq_true rfl) rfl ?_
                  refine z_perm [1, 2, 3, 4, 0, 5, 6] rfl ?_
                  exact J91 _  (by unfold spLo; first | rw [if_pos (by omega)] | rw [if_neg (by omega)])
          · refine z_aload_n C 0 dX7_tideIn_45 rfl ?_
            refine z_iload C 6 dX7_tideIn_46 rfl ?_
            refine z_iload_n C 2 dX7_tideIn_48 rfl ?_
            refine z_iload_n C 3 dX7_tideIn_49 rfl ?_
            refine z_cV (As := [.int (iI g), .int (iI d), .int (iI h)]) C zc_X7_tells (c_X7_tells hX hM hI g d h (by omega) (by omega) (by omega)) zl_6_238 (Nat.le_of_ble_eq_true rfl) (Nat.le_of_ble_eq_true rfl) (Nat.le_of_ble_eq_true rfl) (hM.1.1) (hM.1.2) rfl rfl rfl rfl (Nat.le_of_ble_eq_true rfl) dX7_tideIn_50 (fun z88 L89 f90 hz91 => ?_)
            obtain ⟨hz91, rfl, rfl⟩ := hz91
            subst hz91
            have hr87 := spTells_rng hI (g := g) (d := d) (h := h) (by omega) (by omega) (by omega)
            change ZW G pZ la eZ (zRm 4 0 0) sZ mZ aZ bZ hZ cZ AZ 8 0 0 _ L f 53 [(0, .ref o), (1, .int (iI c)), (2, .int (iI d)), (3, .int (iI h)), (4, .int (iI lo)), (5, .int (iI hi)), (6, .int (iI g))] [.int (iI (spTells μ g d h))]
            exact z_ireturn C dX7_tideIn_53 (Nat.le_of_ble_eq_true rfl) (Nat.le_of_ble_eq_true rfl) ⟨by rw [spTd_s _ _ _ (by omega), if_neg (show ¬ spTells μ g d h = zNO by omega), if_pos (by omega)] at hS; exact hS, rfl, rfl⟩
        · refine z_goto C 128 dX7_tideIn_31 (by decide) ?_
          refine z_iinc (ls' := [(6, .int (iI (g + 1))), (0, .ref o), (1, .int (iI c)), (2, .int (iI d)), (3, .int (iI h)), (4, .int (iI lo)), (5, .int (iI hi))]) C 6 dX7_tideIn_128 rfl (Nat.le_of_ble_eq_true rfl) rfl ?_
          refine z_goto C 9 dX7_tideIn_131 (by decide) ?_
          refine z_perm [1, 2, 3, 4, 5, 6, 0] rfl ?_
          exact ih9 _ _ _  ⟨by omega, by omega, by first | exact spTI_n hTI | (have q := spTI_s hg0 hTI (show spTells μ g d h ≠ zNO by omega); unfold spHi at q; rw [← hlo2] at q; first | (rw [if_pos (by omega)] at q; exact q) | (rw [if_neg (by omega)] at q; exact q)), by rw [spTd_s _ _ _ (by omega)] at hS; first | (rw [if_pos (show spTells μ g d h = zNO by omega)] at hS; exact hS) | (rw [if_neg (show ¬ spTells μ g d h = zNO by omega), if_neg (by omega), ← hlo2] at hS; unfold spHi at hS; first | (rw [if_pos (by omega)] at hS; exact hS) | (rw [if_neg (by omega)] at hS; exact hS))⟩ (by omega)
  refine z_perm [3, 4, 5, 6, 2, 1, 0] rfl ?_
  exact key9 2000 _ _ _  ⟨by omega, by omega, ⟨by omega, by omega, by omega, by omega, fun q => by omega, fun q => by omega⟩, rfl⟩ (by omega)

set_option maxRecDepth 100000 in
set_option maxHeartbeats 200000 in
theorem c_X7_tide {la : Launch} {G : zG} {X : (Nat → Prop) → State → Prop} (hX : zX X) {L : List Nat} {f : Nat → va_E} {o : Nat} {ad : Nat → Nat} {μ : zMu} {t : Int} {u v : Int → Int} (hM : MR G L f o ad μ t u v) (hI : MI μ) (c d h : Int) (hc : zR c) (hd : zR d) (hh : zR h) : zM la G X yX7_tide (.code yX7_tide cX7_tide 5 (some .int) :: zT) 5 0 0 [.ref o, .int (iI c), .int (iI d), .int (iI h)] L f zeI (fun z L' f' => L = L' ∧ ∃ t' μ' u' v', MR G L f' o ad μ' t' u' v' ∧ o_tide μ c d h = (t', if t' = 0 then z else 0, μ')) := by
  refine zM_intro hX (by decide) (Nat.le_of_ble_eq_true rfl) (fun pZ eZ sZ mZ aZ bZ hZ cZ AZ C hini => ?_)
  change ZW G pZ la eZ (zRm 5 0 0) sZ mZ aZ bZ hZ cZ AZ 5 0 0 _ L f 0 [(0, .ref o), (1, .int (iI c)), (2, .int (iI d)), (3, .int (iI h))] []
  have hn9 := hI.n
  have hNO : zNO = -2147483648 := rfl
  
  refine z_aload_n C 0 dX7_tide_0 rfl ?_
  refine z_iload_n C 1 dX7_tide_1 rfl ?_
  refine z_iconst C dX7_tide_2 ?_
  refine z_cV (As := [.int (iI c), .int (iI 0)]) C zc_X7_noCell (c_X7_noCell hX hM c 0 (by omega) (by omega) ) zl_6_172 (Nat.le_of_ble_eq_true rfl) (Nat.le_of_ble_eq_true rfl) (Nat.le_of_ble_eq_true rfl) (hM.1.1) (hM.1.2) rfl rfl rfl rfl (Nat.le_of_ble_eq_true rfl) dX7_tide_3 (fun z4 L5 f6 hz7 => ?_)
  obtain ⟨rfl, t2, hM1, he3⟩ := hz7
  change ZW G pZ la eZ (zRm 5 0 0) sZ mZ aZ bZ hZ cZ AZ 5 0 0 _ L f6 6 [(0, .ref o), (1, .int (iI c)), (2, .int (iI d)), (3, .int (iI h))] [.int (iI z4)]
  refine z_if_ne C 18 dX7_tide_6 (by decide) (by omega) (fun h6 => ?_) (fun h6 => ?_)
  · refine z_iconst C dX7_tide_18 ?_
    exact z_ireturn C dX7_tide_19 (Nat.le_of_ble_eq_true rfl) (Nat.le_of_ble_eq_true rfl) ⟨rfl, _, _, _, _, hM1, by unfold o_tide; (repeat' (first | (exfalso; omega) | split)) <;> (refine Prod.ext ?_ (Prod.ext ?_ ?_) <;> first | rfl | omega | (dsimp only; omega) | (dsimp only; split <;> omega))⟩
  · refine z_aload_n C 0 dX7_tide_9 rfl ?_
    refine z_iload_n C 2 dX7_tide_10 rfl ?_
    refine z_iload_n C 3 dX7_tide_11 rfl ?_
    refine z_cV (As := [.int (iI d), .int (iI h)]) C zc_X7_noHour (c_X7_noHour hX hM1 d h (by omega) (by omega) ) zl_6_187 (Nat.le_of_ble_eq_true rfl) (Nat.le_of_ble_eq_true rfl) (Nat.le_of_ble_eq_true rfl) (hM1.1.1) (hM1.1.2) rfl rfl rfl rfl (Nat.le_of_ble_eq_true rfl) dX7_tide_12 (fun z11 L12 f13 hz14 => ?_)
    obtain ⟨rfl, t9, hM8, he10⟩ := hz14
    change ZW G pZ la eZ (zRm 5 0 0) sZ mZ aZ bZ hZ cZ AZ 5 0 0 _ L f13 15 [(0, .ref o), (1, .int (iI c)), (2, .int (iI d)), (3, .int (iI h))] [.int (iI z11)]
    refine z_if_eq C 20 dX7_tide_15 (by decide) (by omega) (fun h15 => ?_) (fun h15 => ?_)
    · refine z_aload_n C 0 dX7_tide_20 rfl ?_
      refine z_iload_n C 1 dX7_tide_21 rfl ?_
      refine z_iload_n C 2 dX7_tide_22 rfl ?_
      refine z_iload_n C 3 dX7_tide_23 rfl ?_
      refine z_cV (As := [.int (iI c), .int (iI d), .int (iI h)]) C zc_X7_tideIn (c_X7_tideIn hX hM8 hI c d h (by omega) (by omega) (by omega)) zl_7_7 (Nat.le_of_ble_eq_true rfl) (Nat.le_of_ble_eq_true rfl) (Nat.le_of_ble_eq_true rfl) (hM8.1.1) (hM8.1.2) rfl rfl rfl rfl (Nat.le_of_ble_eq_true rfl) dX7_tide_24 (fun z16 L17 f18 hz19 => ?_)
      obtain ⟨hz19, rfl, rfl⟩ := hz19
      subst hz19
      have hr15 := spTide_rng hI (c := c) (d := d) (h := h) (by omega) (by omega)
      change ZW G pZ la eZ (zRm 5 0 0) sZ mZ aZ bZ hZ cZ AZ 5 0 0 _ L f13 27 [(0, .ref o), (1, .int (iI c)), (2, .int (iI d)), (3, .int (iI h))] [.int (iI (spTide μ c d h))]
      refine z_nm (fun x20 hx20 => ?_)
      refine z_istore (ls' := [(4, .int (iI x20)), (0, .ref o), (1, .int (iI c)), (2, .int (iI d)), (3, .int (iI h))]) C dX7_tide_27 (Nat.le_of_ble_eq_true rfl) rfl ?_
      refine z_iload C 0 dX7_tide_29 rfl ?_
      refine z_ldc (n := (-2147483648)) C zl_7_2 rfl dX7_tide_31 ?_
      refine z_icmp_ne C 42 dX7_tide_33 (by decide) (by omega) (by omega) (fun h33 => ?_) (fun h33 => ?_)
      · refine z_iload C 0 dX7_tide_42 rfl ?_
        exact z_ireturn C dX7_tide_44 (Nat.le_of_ble_eq_true rfl) (Nat.le_of_ble_eq_true rfl) ⟨rfl, _, _, _, _, hM8, by unfold o_tide; (repeat' (first | (exfalso; omega) | split)) <;> (refine Prod.ext ?_ (Prod.ext ?_ ?_) <;> first | rfl | omega | (dsimp only; omega) | (dsimp only; split <;> omega))⟩
      · refine z_aload_n C 1 dX7_tide_36 rfl ?_
        refine z_iconst C dX7_tide_37 ?_
        refine z_cV (As := [.int (iI 2)]) C zc_X7_refuse (c_X7_refuse hX hM8 2) zl_6_179 (Nat.le_of_ble_eq_true rfl) (Nat.le_of_ble_eq_true rfl) (Nat.le_of_ble_eq_true rfl) (hM8.1.1) (hM8.1.2) rfl rfl rfl rfl (Nat.le_of_ble_eq_true rfl) dX7_tide_38 (fun z22 L23 f24 hz25 => ?_)
        obtain ⟨rfl, rfl, hM21⟩ := hz25
        change ZW G pZ la eZ (zRm 5 0 0) sZ mZ aZ bZ hZ cZ AZ 5 0 0 _ L f24 41 [(4, .int (iI x20)), (0, .ref o), (1, .int (iI c)), (2, .int (iI d)), (3, .int (iI h))] [.int (iI 0)]
        exact z_ireturn C dX7_tide_41 (Nat.le_of_ble_eq_true rfl) (Nat.le_of_ble_eq_true rfl) ⟨rfl, _, _, _, _, hM21, by unfold o_tide; (repeat' (first | (exfalso; omega) | split)) <;> (refine Prod.ext ?_ (Prod.ext ?_ ?_) <;> first | rfl | omega | (dsimp only; omega) | (dsimp only; split <;> omega))⟩
    · refine z_iconst C dX7_tide_18 ?_
      exact z_ireturn C dX7_tide_19 (Nat.le_of_ble_eq_true rfl) (Nat.le_of_ble_eq_true rfl) ⟨rfl, _, _, _, _, hM8, by unfold o_tide; (repeat' (first | (exfalso; omega) | split)) <;> (refine Prod.ext ?_ (Prod.ext ?_ ?_) <;> first | rfl | omega | (dsimp only; omega) | (dsimp only; split <;> omega))⟩
