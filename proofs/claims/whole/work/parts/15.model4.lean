set_option maxRecDepth 100000 in
set_option maxHeartbeats 200000 in
theorem c_X7_noLine {la : Launch} {G : zG} {X : (Nat → Prop) → State → Prop} (hX : zX X) {L : List Nat} {f : Nat → va_E} {o : Nat} {ad : Nat → Nat} {μ : zMu} {t : Int} {u v : Int → Int} (hM : MR G L f o ad μ t u v) (hI : MI μ) (l : Int) (hl : zR l) : zM la G X yX7_noLine (.code yX7_noLine cX7_noLine 2 (some .boolean) :: zT) 1 0 0 [.ref o, .int (iI l)] L f zeI (fun z L' f' => L = L' ∧ ∃ t', MR G L f' o ad μ t' u v ∧ ((spLine μ l) ∧ t' = 0 ∧ z = 0 ∨ ¬(spLine μ l) ∧ t' = 1 ∧ z = 1)) := by
  refine zM_intro hX (by decide) (Nat.le_of_ble_eq_true rfl) (fun pZ eZ sZ mZ aZ bZ hZ cZ AZ C hini => ?_)
  change ZW G pZ la eZ (zRm 1 0 0) sZ mZ aZ bZ hZ cZ AZ 2 0 0 _ L f 0 [(0, .ref o), (1, .int (iI l))] []
  have hn9 := hI.n
  have hNO : zNO = -2147483648 := rfl
  
  refine z_aload_n C 0 dX7_noLine_0 rfl ?_
  refine z_iload_n C 1 dX7_noLine_1 rfl ?_
  refine z_iconst C dX7_noLine_2 ?_
  refine z_aload_n C 0 dX7_noLine_3 rfl ?_
  refine z_getf C 2 zin_X7 (hM.1.1) (hM.1.2) rfl (Nat.le_of_ble_eq_true rfl) zl_6_100 rfl rfl dX7_noLine_4 ?_
  refine z_iconst C dX7_noLine_7 ?_
  refine z_isub C dX7_noLine_8 ?_
  refine z_cS (As := [.int (iI l), .int (iI 0), .int (iI ((μ 2 0) - 1))]) C zc_X7_isIn (c_X7_isIn hX l 0 ((μ 2 0) - 1) (by omega) (by omega) (by omega)) zl_6_176 (Nat.le_of_ble_eq_true rfl) (Nat.le_of_ble_eq_true rfl) (Nat.le_of_ble_eq_true rfl) rfl rfl (Nat.le_of_ble_eq_true rfl) dX7_noLine_9 (fun z1 L2 f3 hz4 => ?_)
  obtain ⟨hz4, rfl, rfl⟩ := hz4
  subst hz4
  change ZW G pZ la eZ (zRm 1 0 0) sZ mZ aZ bZ hZ cZ AZ 2 0 0 _ L f 12 [(0, .ref o), (1, .int (iI l))] [.int (iI (bI (0 ≤ l ∧ l ≤ (μ 2 0) - 1))), .ref o]
  skip
  refine z_if_eq_b C 19 dX7_noLine_12 (by decide) (fun h12 => ?_) (fun h12 => ?_)
  · refine z_iconst C dX7_noLine_19 ?_
    refine m_put0 C hM dX7_noLine_20 (fun f5 hM6 => ?_)
    refine z_aload_n C 0 dX7_noLine_23 rfl ?_
    refine z_getf C 0 zin_X7 (hM6.1.1) (hM6.1.2) rfl (Nat.le_of_ble_eq_true rfl) zl_6_98 rfl rfl dX7_noLine_24 ?_
    refine z_if_eq C 34 dX7_noLine_27 (by decide) (by omega) (fun h27 => ?_) (fun h27 => ?_)
    · refine z_iconst C dX7_noLine_34 ?_
      exact z_zreturn C (by first | omega | (unfold bI; split <;> omega)) dX7_noLine_35 (Nat.le_of_ble_eq_true rfl) (Nat.le_of_ble_eq_true rfl) ⟨rfl, _, hM6, by omega⟩
    · refine z_iconst C dX7_noLine_30 ?_
      refine z_goto C 35 dX7_noLine_31 (by decide) ?_
      exact z_zreturn C (by first | omega | (unfold bI; split <;> omega)) dX7_noLine_35 (Nat.le_of_ble_eq_true rfl) (Nat.le_of_ble_eq_true rfl) ⟨rfl, _, hM6, by omega⟩
  · refine z_iconst C dX7_noLine_15 ?_
    refine z_goto C 20 dX7_noLine_16 (by decide) ?_
    refine m_put0 C hM dX7_noLine_20 (fun f7 hM8 => ?_)
    refine z_aload_n C 0 dX7_noLine_23 rfl ?_
    refine z_getf C 0 zin_X7 (hM8.1.1) (hM8.1.2) rfl (Nat.le_of_ble_eq_true rfl) zl_6_98 rfl rfl dX7_noLine_24 ?_
    refine z_if_eq C 34 dX7_noLine_27 (by decide) (by omega) (fun h27 => ?_) (fun h27 => ?_)
    · refine z_iconst C dX7_noLine_34 ?_
      exact z_zreturn C (by first | omega | (unfold bI; split <;> omega)) dX7_noLine_35 (Nat.le_of_ble_eq_true rfl) (Nat.le_of_ble_eq_true rfl) ⟨rfl, _, hM8, by omega⟩
    · refine z_iconst C dX7_noLine_30 ?_
      refine z_goto C 35 dX7_noLine_31 (by decide) ?_
      exact z_zreturn C (by first | omega | (unfold bI; split <;> omega)) dX7_noLine_35 (Nat.le_of_ble_eq_true rfl) (Nat.le_of_ble_eq_true rfl) ⟨rfl, _, hM8, by omega⟩

set_option maxRecDepth 100000 in
set_option maxHeartbeats 200000 in
theorem c_X7_found {la : Launch} {G : zG} {X : (Nat → Prop) → State → Prop} (hX : zX X) {L : List Nat} {f : Nat → va_E} {o : Nat} {ad : Nat → Nat} {μ : zMu} {t : Int} {u v : Int → Int} (hM : MR G L f o ad μ t u v) (hI : MI μ) (l k s : Int) (hl : zR l) (hk : zR k) (hs : zR s) : zM la G X yX7_found (.code yX7_found cX7_found 5 (some .int) :: zT) 2 0 0 [.ref o, .int (iI l), .int (iI k), .int (iI s)] L f zeI (fun z L' f' => L = L' ∧ ∃ t', MR G L f' o ad μ t' u v ∧ (¬ spLine μ l ∧ t' = 1 ∧ z = -1 ∨ spLine μ l ∧ spOk μ l k s ∧ t' = 0 ∧ z = 7 * (20 * l + k) + s + 3 ∨ spLine μ l ∧ ¬ spOk μ l k s ∧ t' = 2 ∧ z = -1)) := by
  refine zM_intro hX (by decide) (Nat.le_of_ble_eq_true rfl) (fun pZ eZ sZ mZ aZ bZ hZ cZ AZ C hini => ?_)
  change ZW G pZ la eZ (zRm 2 0 0) sZ mZ aZ bZ hZ cZ AZ 5 0 0 _ L f 0 [(0, .ref o), (1, .int (iI l)), (2, .int (iI k)), (3, .int (iI s))] []
  have hn9 := hI.n
  have hNO : zNO = -2147483648 := rfl
  
  refine z_aload_n C 0 dX7_found_0 rfl ?_
  refine z_iload_n C 1 dX7_found_1 rfl ?_
  refine z_cV (As := [.int (iI l)]) C zc_X7_noLine (c_X7_noLine hX hM hI l (by omega) ) zl_7_61 (Nat.le_of_ble_eq_true rfl) (Nat.le_of_ble_eq_true rfl) (Nat.le_of_ble_eq_true rfl) (hM.1.1) (hM.1.2) rfl rfl rfl rfl (Nat.le_of_ble_eq_true rfl) dX7_found_2 (fun z4 L5 f6 hz7 => ?_)
  obtain ⟨rfl, t2, hM1, he3⟩ := hz7
  change ZW G pZ la eZ (zRm 2 0 0) sZ mZ aZ bZ hZ cZ AZ 5 0 0 _ L f6 5 [(0, .ref o), (1, .int (iI l)), (2, .int (iI k)), (3, .int (iI s))] [.int (iI z4)]
  refine z_if_eq C 10 dX7_found_5 (by decide) (by omega) (fun h5 => ?_) (fun h5 => ?_)
  · refine z_iload_n C 2 dX7_found_10 rfl ?_
    refine z_iconst C dX7_found_11 ?_
    refine z_aload_n C 0 dX7_found_12 rfl ?_
    refine z_iload_n C 1 dX7_found_13 rfl ?_
    refine z_cV (As := [.int (iI l)]) C zc_X7_size (c_X7_size hX hM1 hI.J l (by omega)) zl_7_22 (Nat.le_of_ble_eq_true rfl) (Nat.le_of_ble_eq_true rfl) (Nat.le_of_ble_eq_true rfl) (hM1.1.1) (hM1.1.2) rfl rfl rfl rfl (Nat.le_of_ble_eq_true rfl) dX7_found_14 (fun z9 L10 f11 hz12 => ?_)
    obtain ⟨hz12, rfl, rfl⟩ := hz12
    subst hz12
    have hr8 := spSize_rng hI.J (l := l) (by omega)
    change ZW G pZ la eZ (zRm 2 0 0) sZ mZ aZ bZ hZ cZ AZ 5 0 0 _ L f6 17 [(0, .ref o), (1, .int (iI l)), (2, .int (iI k)), (3, .int (iI s))] [.int (iI (spSize μ l)), .int (iI 0), .int (iI k)]
    refine z_iconst C dX7_found_17 ?_
    refine z_isub C dX7_found_18 ?_
    refine z_cS (As := [.int (iI k), .int (iI 0), .int (iI ((spSize μ l) - 1))]) C zc_X7_isIn (c_X7_isIn hX k 0 ((spSize μ l) - 1) (by omega) (by omega) (by omega)) zl_6_176 (Nat.le_of_ble_eq_true rfl) (Nat.le_of_ble_eq_true rfl) (Nat.le_of_ble_eq_true rfl) rfl rfl (Nat.le_of_ble_eq_true rfl) dX7_found_19 (fun z13 L14 f15 hz16 => ?_)
    obtain ⟨hz16, rfl, rfl⟩ := hz16
    subst hz16
    change ZW G pZ la eZ (zRm 2 0 0) sZ mZ aZ bZ hZ cZ AZ 5 0 0 _ L f6 22 [(0, .ref o), (1, .int (iI l)), (2, .int (iI k)), (3, .int (iI s))] [.int (iI (bI (0 ≤ k ∧ k ≤ (spSize μ l) - 1)))]
    refine z_if_eq_b C 56 dX7_found_22 (by decide) (fun h22 => ?_) (fun h22 => ?_)
    · refine z_iconst C dX7_found_56 ?_
      refine z_istore (ls' := [(4, .int (iI 0)), (0, .ref o), (1, .int (iI l)), (2, .int (iI k)), (3, .int (iI s))]) C dX7_found_57 (Nat.le_of_ble_eq_true rfl) rfl ?_
      refine z_aload_n C 1 dX7_found_59 rfl ?_
      refine z_iload C 0 dX7_found_60 rfl ?_
      refine z_if_eq C 69 dX7_found_62 (by decide) (by omega) (fun h62 => ?_) (fun h62 => ?_)
      · refine z_iconst C dX7_found_69 ?_
        refine m_put0 C hM1 dX7_found_70 (fun f17 hM18 => ?_)
        refine z_iload C 0 dX7_found_73 rfl ?_
        refine z_if_eq C 88 dX7_found_75 (by decide) (by omega) (fun h75 => ?_) (fun h75 => ?_)
        · refine z_iconst C dX7_found_88 ?_
          exact z_ireturn C dX7_found_89 (Nat.le_of_ble_eq_true rfl) (Nat.le_of_ble_eq_true rfl) ⟨rfl, _, hM18, by first | exact Or.inl ⟨by omega, by omega, by omega⟩ | exact Or.inr (Or.inl ⟨by omega, ⟨by omega, by omega, by omega⟩, by omega, by omega⟩) | exact Or.inr (Or.inr ⟨by omega, by intro hok; obtain ⟨q1, q2, q3⟩ := hok; omega, by omega, by omega⟩)⟩
        · refine z_aload_n C 1 dX7_found_78 rfl ?_
          refine z_iload_n C 2 dX7_found_79 rfl ?_
          refine z_iload_n C 3 dX7_found_80 rfl ?_
          refine z_iload_n C 4 dX7_found_81 rfl ?_
          refine z_cV (As := [.int (iI l), .int (iI k), .int (iI s)]) C zc_X7_place (c_X7_place hX hM18 l k s) zl_7_30 (Nat.le_of_ble_eq_true rfl) (Nat.le_of_ble_eq_true rfl) (Nat.le_of_ble_eq_true rfl) (hM18.1.1) (hM18.1.2) rfl rfl rfl rfl (Nat.le_of_ble_eq_true rfl) dX7_found_82 (fun z19 L20 f21 hz22 => ?_)
          obtain ⟨hz22, rfl, rfl⟩ := hz22
          subst hz22
          change ZW G pZ la eZ (zRm 2 0 0) sZ mZ aZ bZ hZ cZ AZ 5 0 0 _ L f17 85 [(4, .int (iI 0)), (0, .ref o), (1, .int (iI l)), (2, .int (iI k)), (3, .int (iI s))] [.int (iI (7 * (20 * l + k) + s + 3))]
          refine z_goto C 89 dX7_found_85 (by decide) ?_
          exact z_ireturn C dX7_found_89 (Nat.le_of_ble_eq_true rfl) (Nat.le_of_ble_eq_true rfl) ⟨rfl, _, hM18, by first | exact Or.inl ⟨by omega, by omega, by omega⟩ | exact Or.inr (Or.inl ⟨by omega, ⟨by omega, by omega, by omega⟩, by omega, by omega⟩) | exact Or.inr (Or.inr ⟨by omega, by intro hok; obtain ⟨q1, q2, q3⟩ := hok; omega, by omega, by omega⟩)⟩
      · refine z_iconst C dX7_found_65 ?_
        refine z_goto C 70 dX7_found_66 (by decide) ?_
        refine m_put0 C hM1 dX7_found_70 (fun f23 hM24 => ?_)
        refine z_iload C 0 dX7_found_73 rfl ?_
        refine z_if_eq C 88 dX7_found_75 (by decide) (by omega) (fun h75 => ?_) (fun h75 => ?_)
        · refine z_iconst C dX7_found_88 ?_
          exact z_ireturn C dX7_found_89 (Nat.le_of_ble_eq_true rfl) (Nat.le_of_ble_eq_true rfl) ⟨rfl, _, hM24, by first | exact Or.inl ⟨by omega, by omega, by omega⟩ | exact Or.inr (Or.inl ⟨by omega, ⟨by omega, by omega, by omega⟩, by omega, by omega⟩) | exact Or.inr (Or.inr ⟨by omega, by intro hok; obtain ⟨q1, q2, q3⟩ := hok; omega, by omega, by omega⟩)⟩
        · refine z_aload_n C 1 dX7_found_78 rfl ?_
          refine z_iload_n C 2 dX7_found_79 rfl ?_
          refine z_iload_n C 3 dX7_found_80 rfl ?_
          refine z_iload_n C 4 dX7_found_81 rfl ?_
          refine z_cV (As := [.int (iI l), .int (iI k), .int (iI s)]) C zc_X7_place (c_X7_place hX hM24 l k s) zl_7_30 (Nat.le_of_ble_eq_true rfl) (Nat.le_of_ble_eq_true rfl) (Nat.le_of_ble_eq_true rfl) (hM24.1.1) (hM24.1.2) rfl rfl rfl rfl (Nat.le_of_ble_eq_true rfl) dX7_found_82 (fun z25 L26 f27 hz28 => ?_)
          obtain ⟨hz28, rfl, rfl⟩ := hz28
          subst hz28
          change ZW G pZ la eZ (zRm 2 0 0) sZ mZ aZ bZ hZ cZ AZ 5 0 0 _ L f23 85 [(4, .int (iI 0)), (0, .ref o), (1, .int (iI l)), (2, .int (iI k)), (3, .int (iI s))] [.int (iI (7 * (20 * l + k) + s + 3))]
          refine z_goto C 89 dX7_found_85 (by decide) ?_
          exact z_ireturn C dX7_found_89 (Nat.le_of_ble_eq_true rfl) (Nat.le_of_ble_eq_true rfl) ⟨rfl, _, hM24, by first | exact Or.inl ⟨by omega, by omega, by omega⟩ | exact Or.inr (Or.inl ⟨by omega, ⟨by omega, by omega, by omega⟩, by omega, by omega⟩) | exact Or.inr (Or.inr ⟨by omega, by intro hok; obtain ⟨q1, q2, q3⟩ := hok; omega, by omega, by omega⟩)⟩
    · refine z_iload_n C 3 dX7_found_25 rfl ?_
      refine z_bipush C dX7_found_26 (by decide) ?_
      refine z_iconst C dX7_found_28 ?_
      refine z_cS (As := [.int (iI s), .int (iI (-3)), .int (iI 3)]) C zc_X7_isIn (c_X7_isIn hX s (-3) 3 (by omega) (by omega) (by omega)) zl_6_176 (Nat.le_of_ble_eq_true rfl) (Nat.le_of_ble_eq_true rfl) (Nat.le_of_ble_eq_true rfl) rfl rfl (Nat.le_of_ble_eq_true rfl) dX7_found_29 (fun z29 L30 f31 hz32 => ?_)
      obtain ⟨hz32, rfl, rfl⟩ := hz32
      subst hz32
      change ZW G pZ la eZ (zRm 2 0 0) sZ mZ aZ bZ hZ cZ AZ 5 0 0 _ L f6 32 [(0, .ref o), (1, .int (iI l)), (2, .int (iI k)), (3, .int (iI s))] [.int (iI (bI ((-3) ≤ s ∧ s ≤ 3)))]
      refine z_if_eq_b C 56 dX7_found_32 (by decide) (fun h32 => ?_) (fun h32 => ?_)
      · refine z_iconst C dX7_found_56 ?_
        refine z_istore (ls' := [(4, .int (iI 0)), (0, .ref o), (1, .int (iI l)), (2, .int (iI k)), (3, .int (iI s))]) C dX7_found_57 (Nat.le_of_ble_eq_true rfl) rfl ?_
        refine z_aload_n C 1 dX7_found_59 rfl ?_
        refine z_iload C 0 dX7_found_60 rfl ?_
        refine z_if_eq C 69 dX7_found_62 (by decide) (by omega) (fun h62 => ?_) (fun h62 => ?_)
        · refine z_iconst C dX7_found_69 ?_
          refine m_put0 C hM1 dX7_found_70 (fun f33 hM34 => ?_)
          refine z_iload C 0 dX7_found_73 rfl ?_
          refine z_if_eq C 88 dX7_found_75 (by decide) (by omega) (fun h75 => ?_) (fun h75 => ?_)
          · refine z_iconst C dX7_found_88 ?_
            exact z_ireturn C dX7_found_89 (Nat.le_of_ble_eq_true rfl) (Nat.le_of_ble_eq_true rfl) ⟨rfl, _, hM34, by first | exact Or.inl ⟨by omega, by omega, by omega⟩ | exact Or.inr (Or.inl ⟨by omega, ⟨by omega, by omega, by omega⟩, by omega, by omega⟩) | exact Or.inr (Or.inr ⟨by omega, by intro hok; obtain ⟨q1, q2, q3⟩ := hok; omega, by omega, by omega⟩)⟩
          · refine z_aload_n C 1 dX7_found_78 rfl ?_
            refine z_iload_n C 2 dX7_found_79 rfl ?_
            refine z_iload_n C 3 dX7_found_80 rfl ?_
            refine z_iload_n C 4 dX7_found_81 rfl ?_
            refine z_cV (As := [.int (iI l), .int (iI k), .int (iI s)]) C zc_X7_place (c_X7_place hX hM34 l k s) zl_7_30 (Nat.le_of_ble_eq_true rfl) (Nat.le_of_ble_eq_true rfl) (Nat.le_of_ble_eq_true rfl) (hM34.1.1) (hM34.1.2) rfl rfl rfl rfl (Nat.le_of_ble_eq_true rfl) dX7_found_82 (fun z35 L36 f37 hz38 => ?_)
            obtain ⟨hz38, rfl, rfl⟩ := hz38
            subst hz38
            change ZW G pZ la eZ (zRm 2 0 0) sZ mZ aZ bZ hZ cZ AZ 5 0 0 _ L f33 85 [(4, .int (iI 0)), (0, .ref o), (1, .int (iI l)), (2, .int (iI k)), (3, .int (iI s))] [.int (iI (7 * (20 * l + k) + s + 3))]
            refine z_goto C 89 dX7_found_85 (by decide) ?_
            exact z_ireturn C dX7_found_89 (Nat.le_of_ble_eq_true rfl) (Nat.le_of_ble_eq_true rfl) ⟨rfl, _, hM34, by first | exact Or.inl ⟨by omega, by omega, by omega⟩ | exact Or.inr (Or.inl ⟨by omega, ⟨by omega, by omega, by omega⟩, by omega, by omega⟩) | exact Or.inr (Or.inr ⟨by omega, by intro hok; obtain ⟨q1, q2, q3⟩ := hok; omega, by omega, by omega⟩)⟩
        · refine z_iconst C dX7_found_65 ?_
          refine z_goto C 70 dX7_found_66 (by decide) ?_
          refine m_put0 C hM1 dX7_found_70 (fun f39 hM40 => ?_)
          refine z_iload C 0 dX7_found_73 rfl ?_
          refine z_if_eq C 88 dX7_found_75 (by decide) (by omega) (fun h75 => ?_) (fun h75 => ?_)
          · refine z_iconst C dX7_found_88 ?_
            exact z_ireturn C dX7_found_89 (Nat.le_of_ble_eq_true rfl) (Nat.le_of_ble_eq_true rfl) ⟨rfl, _, hM40, by first | exact Or.inl ⟨by omega, by omega, by omega⟩ | exact Or.inr (Or.inl ⟨by omega, ⟨by omega, by omega, by omega⟩, by omega, by omega⟩) | exact Or.inr (Or.inr ⟨by omega, by intro hok; obtain ⟨q1, q2, q3⟩ := hok; omega, by omega, by omega⟩)⟩
          · refine z_aload_n C 1 dX7_found_78 rfl ?_
            refine z_iload_n C 2 dX7_found_79 rfl ?_
            refine z_iload_n C 3 dX7_found_80 rfl ?_
            refine z_iload_n C 4 dX7_found_81 rfl ?_
            refine z_cV (As := [.int (iI l), .int (iI k), .int (iI s)]) C zc_X7_place (c_X7_place hX hM40 l k s) zl_7_30 (Nat.le_of_ble_eq_true rfl) (Nat.le_of_ble_eq_true rfl) (Nat.le_of_ble_eq_true rfl) (hM40.1.1) (hM40.1.2) rfl rfl rfl rfl (Nat.le_of_ble_eq_true rfl) dX7_found_82 (fun z41 L42 f43 hz44 => ?_)
            obtain ⟨hz44, rfl, rfl⟩ := hz44
            subst hz44
            change ZW G pZ la eZ (zRm 2 0 0) sZ mZ aZ bZ hZ cZ AZ 5 0 0 _ L f39 85 [(4, .int (iI 0)), (0, .ref o), (1, .int (iI l)), (2, .int (iI k)), (3, .int (iI s))] [.int (iI (7 * (20 * l + k) + s + 3))]
            refine z_goto C 89 dX7_found_85 (by decide) ?_
            exact z_ireturn C dX7_found_89 (Nat.le_of_ble_eq_true rfl) (Nat.le_of_ble_eq_true rfl) ⟨rfl, _, hM40, by first | exact Or.inl ⟨by omega, by omega, by omega⟩ | exact Or.inr (Or.inl ⟨by omega, ⟨by omega, by omega, by omega⟩, by omega, by omega⟩) | exact Or.inr (Or.inr ⟨by omega, by intro hok; obtain ⟨q1, q2, q3⟩ := hok; omega, by omega, by omega⟩)⟩
      · refine z_aload_n C 0 dX7_found_35 rfl ?_
        refine z_getf C 18 zin_X7 (hM1.1.1) (hM1.1.2) rfl (Nat.le_of_ble_eq_true rfl) zl_6_116 rfl rfl dX7_found_36 ?_
        refine z_aload_n C 0 dX7_found_39 rfl ?_
        refine z_iload_n C 1 dX7_found_40 rfl ?_
        refine z_iload_n C 2 dX7_found_41 rfl ?_
        refine z_iload_n C 3 dX7_found_42 rfl ?_
        refine z_cV (As := [.int (iI l), .int (iI k), .int (iI s)]) C zc_X7_place (c_X7_place hX hM1 l k s) zl_7_30 (Nat.le_of_ble_eq_true rfl) (Nat.le_of_ble_eq_true rfl) (Nat.le_of_ble_eq_true rfl) (hM1.1.1) (hM1.1.2) rfl rfl rfl rfl (Nat.le_of_ble_eq_true rfl) dX7_found_43 (fun z45 L46 f47 hz48 => ?_)
        obtain ⟨hz48, rfl, rfl⟩ := hz48
        subst hz48
        change ZW G pZ la eZ (zRm 2 0 0) sZ mZ aZ bZ hZ cZ AZ 5 0 0 _ L f6 46 [(0, .ref o), (1, .int (iI l)), (2, .int (iI k)), (3, .int (iI s))] [.int (iI (7 * (20 * l + k) + s + 3)), .ref (ad 18)]
        refine z_iald C (MR_a18 hM1) (by omega) (by omega) (by omega) dX7_found_46 ?_
        have hb49 := hI.b18 (7 * (20 * l + k) + s + 3) (by omega) (by omega)
        refine z_ldc (n := (-2147483648)) C zl_7_2 rfl dX7_found_47 ?_
        refine z_icmp_eq C 56 dX7_found_49 (by decide) (by omega) (by omega) (fun h49 => ?_) (fun h49 => ?_)
        · refine z_iconst C dX7_found_56 ?_
          refine z_istore (ls' := [(4, .int (iI 0)), (0, .ref o), (1, .int (iI l)), (2, .int (iI k)), (3, .int (iI s))]) C dX7_found_57 (Nat.le_of_ble_eq_true rfl) rfl ?_
          refine z_aload_n C 1 dX7_found_59 rfl ?_
          refine z_iload C 0 dX7_found_60 rfl ?_
          refine z_if_eq C 69 dX7_found_62 (by decide) (by omega) (fun h62 => ?_) (fun h62 => ?_)
          · refine z_iconst C dX7_found_69 ?_
            refine m_put0 C hM1 dX7_found_70 (fun f50 hM51 => ?_)
            refine z_iload C 0 dX7_found_73 rfl ?_
            refine z_if_eq C 88 dX7_found_75 (by decide) (by omega) (fun h75 => ?_) (fun h75 => ?_)
            · refine z_iconst C dX7_found_88 ?_
              exact z_ireturn C dX7_found_89 (Nat.le_of_ble_eq_true rfl) (Nat.le_of_ble_eq_true rfl) ⟨rfl, _, hM51, by first | exact Or.inl ⟨by omega, by omega, by omega⟩ | exact Or.inr (Or.inl ⟨by omega, ⟨by omega, by omega, by omega⟩, by omega, by omega⟩) | exact Or.inr (Or.inr ⟨by omega, by intro hok; obtain ⟨q1, q2, q3⟩ := hok; omega, by omega, by omega⟩)⟩
            · refine z_aload_n C 1 dX7_found_78 rfl ?_
              refine z_iload_n C 2 dX7_found_79 rfl ?_
              refine z_iload_n C 3 dX7_found_80 rfl ?_
              refine z_iload_n C 4 dX7_found_81 rfl ?_
              refine z_cV (As := [.int (iI l), .int (iI k), .int (iI s)]) C zc_X7_place (c_X7_place hX hM51 l k s) zl_7_30 (Nat.le_of_ble_eq_true rfl) (Nat.le_of_ble_eq_true rfl) (Nat.le_of_ble_eq_true rfl) (hM51.1.1) (hM51.1.2) rfl rfl rfl rfl (Nat.le_of_ble_eq_true rfl) dX7_found_82 (fun z52 L53 f54 hz55 => ?_)
              obtain ⟨hz55, rfl, rfl⟩ := hz55
              subst hz55
              change ZW G pZ la eZ (zRm 2 0 0) sZ mZ aZ bZ hZ cZ AZ 5 0 0 _ L f50 85 [(4, .int (iI 0)), (0, .ref o), (1, .int (iI l)), (2, .int (iI k)), (3, .int (iI s))] [.int (iI (7 * (20 * l + k) + s + 3))]
              refine z_goto C 89 dX7_found_85 (by decide) ?_
              exact z_ireturn C dX7_found_89 (Nat.le_of_ble_eq_true rfl) (Nat.le_of_ble_eq_true rfl) ⟨rfl, _, hM51, by first | exact Or.inl ⟨by omega, by omega, by omega⟩ | exact Or.inr (Or.inl ⟨by omega, ⟨by omega, by omega, by omega⟩, by omega, by omega⟩) | exact Or.inr (Or.inr ⟨by omega, by intro hok; obtain ⟨q1, q2, q3⟩ := hok; omega, by omega, by omega⟩)⟩
          · refine z_iconst C dX7_found_65 ?_
            refine z_goto C 70 dX7_found_66 (by decide) ?_
            refine m_put0 C hM1 dX7_found_70 (fun f56 hM57 => ?_)
            refine z_iload C 0 dX7_found_73 rfl ?_
            refine z_if_eq C 88 dX7_found_75 (by decide) (by omega) (fun h75 => ?_) (fun h75 => ?_)
            · refine z_iconst C dX7_found_88 ?_
              exact z_ireturn C dX7_found_89 (Nat.le_of_ble_eq_true rfl) (Nat.le_of_ble_eq_true rfl) ⟨rfl, _, hM57, by first | exact Or.inl ⟨by omega, by omega, by omega⟩ | exact Or.inr (Or.inl ⟨by omega, ⟨by omega, by omega, by omega⟩, by omega, by omega⟩) | exact Or.inr (Or.inr ⟨by omega, by intro hok; obtain ⟨q1, q2, q3⟩ := hok; omega, by omega, by omega⟩)⟩
            · refine z_aload_n C 1 dX7_found_78 rfl ?_
              refine z_iload_n C 2 dX7_found_79 rfl ?_
              refine z_iload_n C 3 dX7_found_80 rfl ?_
              refine z_iload_n C 4 dX7_found_81 rfl ?_
              refine z_cV (As := [.int (iI l), .int (iI k), .int (iI s)]) C zc_X7_place (c_X7_place hX hM57 l k s) zl_7_30 (Nat.le_of_ble_eq_true rfl) (Nat.le_of_ble_eq_true rfl) (Nat.le_of_ble_eq_true rfl) (hM57.1.1) (hM57.1.2) rfl rfl rfl rfl (Nat.le_of_ble_eq_true rfl) dX7_found_82 (fun z58 L59 f60 hz61 => ?_)
              obtain ⟨hz61, rfl, rfl⟩ := hz61
              subst hz61
              change ZW G pZ la eZ (zRm 2 0 0) sZ mZ aZ bZ hZ cZ AZ 5 0 0 _ L f56 85 [(4, .int (iI 0)), (0, .ref o), (1, .int (iI l)), (2, .int (iI k)), (3, .int (iI s))] [.int (iI (7 * (20 * l + k) + s + 3))]
              refine z_goto C 89 dX7_found_85 (by decide) ?_
              exact z_ireturn C dX7_found_89 (Nat.le_of_ble_eq_true rfl) (Nat.le_of_ble_eq_true rfl) ⟨rfl, _, hM57, by first | exact Or.inl ⟨by omega, by omega, by omega⟩ | exact Or.inr (Or.inl ⟨by omega, ⟨by omega, by omega, by omega⟩, by omega, by omega⟩) | exact Or.inr (Or.inr ⟨by omega, by intro hok; obtain ⟨q1, q2, q3⟩ := hok; omega, by omega, by omega⟩)⟩
        · refine z_iconst C dX7_found_52 ?_
          refine z_goto C 57 dX7_found_53 (by decide) ?_
          refine z_istore (ls' := [(4, .int (iI 1)), (0, .ref o), (1, .int (iI l)), (2, .int (iI k)), (3, .int (iI s))]) C dX7_found_57 (Nat.le_of_ble_eq_true rfl) rfl ?_
          refine z_aload_n C 1 dX7_found_59 rfl ?_
          refine z_iload C 0 dX7_found_60 rfl ?_
          refine z_if_eq C 69 dX7_found_62 (by decide) (by omega) (fun h62 => ?_) (fun h62 => ?_)
          · refine z_iconst C dX7_found_69 ?_
            refine m_put0 C hM1 dX7_found_70 (fun f62 hM63 => ?_)
            refine z_iload C 0 dX7_found_73 rfl ?_
            refine z_if_eq C 88 dX7_found_75 (by decide) (by omega) (fun h75 => ?_) (fun h75 => ?_)
            · refine z_iconst C dX7_found_88 ?_
              exact z_ireturn C dX7_found_89 (Nat.le_of_ble_eq_true rfl) (Nat.le_of_ble_eq_true rfl) ⟨rfl, _, hM63, by first | exact Or.inl ⟨by omega, by omega, by omega⟩ | exact Or.inr (Or.inl ⟨by omega, ⟨by omega, by omega, by omega⟩, by omega, by omega⟩) | exact Or.inr (Or.inr ⟨by omega, by intro hok; obtain ⟨q1, q2, q3⟩ := hok; omega, by omega, by omega⟩)⟩
            · refine z_aload_n C 1 dX7_found_78 rfl ?_
              refine z_iload_n C 2 dX7_found_79 rfl ?_
              refine z_iload_n C 3 dX7_found_80 rfl ?_
              refine z_iload_n C 4 dX7_found_81 rfl ?_
              refine z_cV (As := [.int (iI l), .int (iI k), .int (iI s)]) C zc_X7_place (c_X7_place hX hM63 l k s) zl_7_30 (Nat.le_of_ble_eq_true rfl) (Nat.le_of_ble_eq_true rfl) (Nat.le_of_ble_eq_true rfl) (hM63.1.1) (hM63.1.2) rfl rfl rfl rfl (Nat.le_of_ble_eq_true rfl) dX7_found_82 (fun z64 L65 f66 hz67 => ?_)
              obtain ⟨hz67, rfl, rfl⟩ := hz67
              subst hz67
              change ZW G pZ la eZ (zRm 2 0 0) sZ mZ aZ bZ hZ cZ AZ 5 0 0 _ L f62 85 [(4, .int (iI 1)), (0, .ref o), (1, .int (iI l)), (2, .int (iI k)), (3, .int (iI s))] [.int (iI (7 * (20 * l + k) + s + 3))]
              refine z_goto C 89 dX7_found_85 (by decide) ?_
              exact z_ireturn C dX7_found_89 (Nat.le_of_ble_eq_true rfl) (Nat.le_of_ble_eq_true rfl) ⟨rfl, _, hM63, by first | exact Or.inl ⟨by omega, by omega, by omega⟩ | exact Or.inr (Or.inl ⟨by omega, ⟨by omega, by omega, by omega⟩, by omega, by omega⟩) | exact Or.inr (Or.inr ⟨by omega, by intro hok; obtain ⟨q1, q2, q3⟩ := hok; omega, by omega, by omega⟩)⟩
          · refine z_iconst C dX7_found_65 ?_
            refine z_goto C 70 dX7_found_66 (by decide) ?_
            refine m_put0 C hM1 dX7_found_70 (fun f68 hM69 => ?_)
            refine z_iload C 0 dX7_found_73 rfl ?_
            refine z_if_eq C 88 dX7_found_75 (by decide) (by omega) (fun h75 => ?_) (fun h75 => ?_)
            · refine z_iconst C dX7_found_88 ?_
              exact z_ireturn C dX7_found_89 (Nat.le_of_ble_eq_true rfl) (Nat.le_of_ble_eq_true rfl) ⟨rfl, _, hM69, by first | exact Or.inl ⟨by omega, by omega, by omega⟩ | exact Or.inr (Or.inl ⟨by omega, ⟨by omega, by omega, by omega⟩, by omega, by omega⟩) | exact Or.inr (Or.inr ⟨by omega, by intro hok; obtain ⟨q1, q2, q3⟩ := hok; omega, by omega, by omega⟩)⟩
            · refine z_aload_n C 1 dX7_found_78 rfl ?_
              refine z_iload_n C 2 dX7_found_79 rfl ?_
              refine z_iload_n C 3 dX7_found_80 rfl ?_
              refine z_iload_n C 4 dX7_found_81 rfl ?_
              refine z_cV (As := [.int (iI l), .int (iI k), .int (iI s)]) C zc_X7_place (c_X7_place hX hM69 l k s) zl_7_30 (Nat.le_of_ble_eq_true rfl) (Nat.le_of_ble_eq_true rfl) (Nat.le_of_ble_eq_true rfl) (hM69.1.1) (hM69.1.2) rfl rfl rfl rfl (Nat.le_of_ble_eq_true rfl) dX7_found_82 (fun z70 L71 f72 hz73 => ?_)
              obtain ⟨hz73, rfl, rfl⟩ := hz73
              subst hz73
              change ZW G pZ la eZ (zRm 2 0 0) sZ mZ aZ bZ hZ cZ AZ 5 0 0 _ L f68 85 [(4, .int (iI 1)), (0, .ref o), (1, .int (iI l)), (2, .int (iI k)), (3, .int (iI s))] [.int (iI (7 * (20 * l + k) + s + 3))]
              refine z_goto C 89 dX7_found_85 (by decide) ?_
              exact z_ireturn C dX7_found_89 (Nat.le_of_ble_eq_true rfl) (Nat.le_of_ble_eq_true rfl) ⟨rfl, _, hM69, by first | exact Or.inl ⟨by omega, by omega, by omega⟩ | exact Or.inr (Or.inl ⟨by omega, ⟨by omega, by omega, by omega⟩, by omega, by omega⟩) | exact Or.inr (Or.inr ⟨by omega, by intro hok; obtain ⟨q1, q2, q3⟩ := hok; omega, by omega, by omega⟩)⟩
  · refine z_iconst C dX7_found_8 ?_
    exact z_ireturn C dX7_found_9 (Nat.le_of_ble_eq_true rfl) (Nat.le_of_ble_eq_true rfl) ⟨rfl, _, hM1, by first | exact Or.inl ⟨by omega, by omega, by omega⟩ | exact Or.inr (Or.inl ⟨by omega, ⟨by omega, by omega, by omega⟩, by omega, by omega⟩) | exact Or.inr (Or.inr ⟨by omega, by intro hok; obtain ⟨q1, q2, q3⟩ := hok; omega, by omega, by omega⟩)⟩

set_option maxRecDepth 100000 in
set_option maxHeartbeats 200000 in
theorem c_X7_disturb {la : Launch} {G : zG} {X : (Nat → Prop) → State → Prop} (hX : zX X) {L : List Nat} {f : Nat → va_E} {o : Nat} {ad : Nat → Nat} {μ : zMu} {t : Int} {u v : Int → Int} (hM : MR G L f o ad μ t u v) (hI : MI μ) (l k s x : Int) (hl : zR l) (hk : zR k) (hs : zR s) (hx : zR x) : zM la G X yX7_disturb (.code yX7_disturb cX7_disturb 7 (some .int) :: zT) 3 0 0 [.ref o, .int (iI l), .int (iI k), .int (iI s), .int (iI x)] L f zeI (fun z L' f' => L = L' ∧ ∃ t' μ' u' v', MR G L f' o ad μ' t' u' v' ∧ o_disturb μ l k s x = (t', if t' = 0 then z else 0, μ')) := by
  refine zM_intro hX (by decide) (Nat.le_of_ble_eq_true rfl) (fun pZ eZ sZ mZ aZ bZ hZ cZ AZ C hini => ?_)
  change ZW G pZ la eZ (zRm 3 0 0) sZ mZ aZ bZ hZ cZ AZ 7 0 0 _ L f 0 [(0, .ref o), (1, .int (iI l)), (2, .int (iI k)), (3, .int (iI s)), (4, .int (iI x))] []
  have hn9 := hI.n
  have hNO : zNO = -2147483648 := rfl
  
  refine z_aload_n C 0 dX7_disturb_0 rfl ?_
  refine z_iload_n C 1 dX7_disturb_1 rfl ?_
  refine z_iload_n C 2 dX7_disturb_2 rfl ?_
  refine z_iload_n C 3 dX7_disturb_3 rfl ?_
  refine z_cV (As := [.int (iI l), .int (iI k), .int (iI s)]) C zc_X7_found (c_X7_found hX hM hI l k s (by omega) (by omega) (by omega)) zl_7_88 (Nat.le_of_ble_eq_true rfl) (Nat.le_of_ble_eq_true rfl) (Nat.le_of_ble_eq_true rfl) (hM.1.1) (hM.1.2) rfl rfl rfl rfl (Nat.le_of_ble_eq_true rfl) dX7_disturb_4 (fun pf L4 f5 hz6 => ?_)
  obtain ⟨rfl, t2, hM1, he3⟩ := hz6
  have hzr : -1 ≤ pf ∧ pf < 2240 := by
    rcases he3 with q | q | q
    · omega
    · obtain ⟨q1, ⟨q2, q3, q4⟩, q5, q6⟩ := q
      have := spSize_rng hI.J (l := l) (by omega)
      omega
    · omega
  change ZW G pZ la eZ (zRm 3 0 0) sZ mZ aZ bZ hZ cZ AZ 7 0 0 _ L f5 7 [(0, .ref o), (1, .int (iI l)), (2, .int (iI k)), (3, .int (iI s)), (4, .int (iI x))] [.int (iI pf)]
  have hfd : ¬ spLine μ l ∧ t2 = 1 ∧ pf = -1 ∨ spLine μ l ∧ spOk μ l k s ∧ t2 = 0 ∧ pf = 7 * (20 * l + k) + s + 3 ∨ spLine μ l ∧ ¬ spOk μ l k s ∧ t2 = 2 ∧ pf = -1 := by assumption
  refine z_istore (ls' := [(5, .int (iI pf)), (0, .ref o), (1, .int (iI l)), (2, .int (iI k)), (3, .int (iI s)), (4, .int (iI x))]) C dX7_disturb_7 (Nat.le_of_ble_eq_true rfl) rfl ?_
  refine z_iload C 0 dX7_disturb_9 rfl ?_
  refine z_if_ge C 16 dX7_disturb_11 (by decide) (by omega) (fun h11 => ?_) (fun h11 => ?_)
  · refine z_iload C 5 dX7_disturb_16 rfl ?_
    refine z_bipush C dX7_disturb_18 (by decide) ?_
    refine z_bipush C dX7_disturb_20 (by decide) ?_
    refine z_cS (As := [.int (iI x), .int (iI (-60)), .int (iI 60)]) C zc_X7_isIn (c_X7_isIn hX x (-60) 60 (by omega) (by omega) (by omega)) zl_6_176 (Nat.le_of_ble_eq_true rfl) (Nat.le_of_ble_eq_true rfl) (Nat.le_of_ble_eq_true rfl) rfl rfl (Nat.le_of_ble_eq_true rfl) dX7_disturb_22 (fun z7 L8 f9 hz10 => ?_)
    obtain ⟨hz10, rfl, rfl⟩ := hz10
    subst hz10
    change ZW G pZ la eZ (zRm 3 0 0) sZ mZ aZ bZ hZ cZ AZ 7 0 0 _ L f5 25 [(5, .int (iI pf)), (0, .ref o), (1, .int (iI l)), (2, .int (iI k)), (3, .int (iI s)), (4, .int (iI x))] [.int (iI (bI ((-60) ≤ x ∧ x ≤ 60)))]
    refine z_if_ne_b C 34 dX7_disturb_25 (by decide) (fun h25 => ?_) (fun h25 => ?_)
    · refine z_aload_n C 1 dX7_disturb_34 rfl ?_
      refine z_getf C 19 zin_X7 (hM1.1.1) (hM1.1.2) rfl (Nat.le_of_ble_eq_true rfl) zl_6_117 rfl rfl dX7_disturb_35 ?_
      refine z_iload C 0 dX7_disturb_38 rfl ?_
      refine z_iald C (MR_a19 hM1) (by omega) (by omega) (by omega) dX7_disturb_40 ?_
      have hb11 := hI.b18 pf (by omega) (by omega)
      refine z_nm (fun x12 hx12 => ?_)
      refine z_istore (ls' := [(6, .int (iI x12)), (5, .int (iI pf)), (0, .ref o), (1, .int (iI l)), (2, .int (iI k)), (3, .int (iI s)), (4, .int (iI x))]) C dX7_disturb_41 (Nat.le_of_ble_eq_true rfl) rfl ?_
      refine z_aload_n C 2 dX7_disturb_43 rfl ?_
      refine z_getf C 19 zin_X7 (hM1.1.1) (hM1.1.2) rfl (Nat.le_of_ble_eq_true rfl) zl_6_117 rfl rfl dX7_disturb_44 ?_
      refine z_iload C 1 dX7_disturb_47 rfl ?_
      refine z_iload C 6 dX7_disturb_49 rfl ?_
      refine z_iast C (MR_a19 hM1) (by omega) (by omega) (by omega) dX7_disturb_51 (fun f13 ha14 hk15 => ?_)
      have hM16 := MR_w19 hM1 ha14 hk15
      refine z_iload C 0 dX7_disturb_52 rfl ?_
      exact z_ireturn C dX7_disturb_54 (Nat.le_of_ble_eq_true rfl) (Nat.le_of_ble_eq_true rfl) ⟨rfl, _, _, _, _, hM16, by unfold o_disturb; rcases hfd with q | q | q; (rw [if_neg q.1]; first | (exfalso; omega) | (refine Prod.ext ?_ (Prod.ext ?_ ?_) <;> first | rfl | omega | (dsimp only; omega) | (dsimp only; split <;> omega))); (obtain ⟨q1, q2, q3, q4⟩ := q; first | (exfalso; omega) | (rw [if_pos q1, if_pos q2]; rw [if_pos (by omega), ← q4]; (refine Prod.ext ?_ (Prod.ext ?_ ?_) <;> first | rfl | omega | (dsimp only; omega) | (dsimp only; split <;> omega)))); (obtain ⟨q1, q2, q3, q4⟩ := q; rw [if_pos q1, if_neg q2]; first | (exfalso; omega) | (refine Prod.ext ?_ (Prod.ext ?_ ?_) <;> first | rfl | omega | (dsimp only; omega) | (dsimp only; split <;> omega)))⟩
    · refine z_aload_n C 1 dX7_disturb_28 rfl ?_
      refine z_iconst C dX7_disturb_29 ?_
      refine z_cV (As := [.int (iI 3)]) C zc_X7_refuse (c_X7_refuse hX hM1 3) zl_6_179 (Nat.le_of_ble_eq_true rfl) (Nat.le_of_ble_eq_true rfl) (Nat.le_of_ble_eq_true rfl) (hM1.1.1) (hM1.1.2) rfl rfl rfl rfl (Nat.le_of_ble_eq_true rfl) dX7_disturb_30 (fun z18 L19 f20 hz21 => ?_)
      obtain ⟨rfl, rfl, hM17⟩ := hz21
      change ZW G pZ la eZ (zRm 3 0 0) sZ mZ aZ bZ hZ cZ AZ 7 0 0 _ L f20 33 [(5, .int (iI pf)), (0, .ref o), (1, .int (iI l)), (2, .int (iI k)), (3, .int (iI s)), (4, .int (iI x))] [.int (iI 0)]
      exact z_ireturn C dX7_disturb_33 (Nat.le_of_ble_eq_true rfl) (Nat.le_of_ble_eq_true rfl) ⟨rfl, _, _, _, _, hM17, by unfold o_disturb; rcases hfd with q | q | q; (rw [if_neg q.1]; first | (exfalso; omega) | (refine Prod.ext ?_ (Prod.ext ?_ ?_) <;> first | rfl | omega | (dsimp only; omega) | (dsimp only; split <;> omega))); (obtain ⟨q1, q2, q3, q4⟩ := q; first | (exfalso; omega) | (rw [if_pos q1, if_pos q2]; rw [if_neg (by omega)]; (refine Prod.ext ?_ (Prod.ext ?_ ?_) <;> first | rfl | omega | (dsimp only; omega) | (dsimp only; split <;> omega)))); (obtain ⟨q1, q2, q3, q4⟩ := q; rw [if_pos q1, if_neg q2]; first | (exfalso; omega) | (refine Prod.ext ?_ (Prod.ext ?_ ?_) <;> first | rfl | omega | (dsimp only; omega) | (dsimp only; split <;> omega)))⟩
  · refine z_iconst C dX7_disturb_14 ?_
    exact z_ireturn C dX7_disturb_15 (Nat.le_of_ble_eq_true rfl) (Nat.le_of_ble_eq_true rfl) ⟨rfl, _, _, _, _, hM1, by unfold o_disturb; rcases hfd with q | q | q; (rw [if_neg q.1]; first | (exfalso; omega) | (refine Prod.ext ?_ (Prod.ext ?_ ?_) <;> first | rfl | omega | (dsimp only; omega) | (dsimp only; split <;> omega))); (obtain ⟨q1, q2, q3, q4⟩ := q; first | (exfalso; omega) | (rw [if_pos q1, if_pos q2]; exfalso; omega)); (obtain ⟨q1, q2, q3, q4⟩ := q; rw [if_pos q1, if_neg q2]; first | (exfalso; omega) | (refine Prod.ext ?_ (Prod.ext ?_ ?_) <;> first | rfl | omega | (dsimp only; omega) | (dsimp only; split <;> omega)))⟩

set_option maxRecDepth 100000 in
set_option maxHeartbeats 200000 in
theorem c_X7_sounding {la : Launch} {G : zG} {X : (Nat → Prop) → State → Prop} (hX : zX X) {L : List Nat} {f : Nat → va_E} {o : Nat} {ad : Nat → Nat} {μ : zMu} {t : Int} {u v : Int → Int} (hM : MR G L f o ad μ t u v) (hI : MI μ) (l k s : Int) (hl : zR l) (hk : zR k) (hs : zR s) : zM la G X yX7_sounding (.code yX7_sounding cX7_sounding 5 (some .int) :: zT) 3 0 0 [.ref o, .int (iI l), .int (iI k), .int (iI s)] L f zeI (fun z L' f' => L = L' ∧ ∃ t' μ' u' v', MR G L f' o ad μ' t' u' v' ∧ o_sounding μ l k s = (t', if t' = 0 then z else 0, μ')) := by
  refine zM_intro hX (by decide) (Nat.le_of_ble_eq_true rfl) (fun pZ eZ sZ mZ aZ bZ hZ cZ AZ C hini => ?_)
  change ZW G pZ la eZ (zRm 3 0 0) sZ mZ aZ bZ hZ cZ AZ 5 0 0 _ L f 0 [(0, .ref o), (1, .int (iI l)), (2, .int (iI k)), (3, .int (iI s))] []
  have hn9 := hI.n
  have hNO : zNO = -2147483648 := rfl
  
  refine z_aload_n C 0 dX7_sounding_0 rfl ?_
  refine z_iload_n C 1 dX7_sounding_1 rfl ?_
  refine z_iload_n C 2 dX7_sounding_2 rfl ?_
  refine z_iload_n C 3 dX7_sounding_3 rfl ?_
  refine z_cV (As := [.int (iI l), .int (iI k), .int (iI s)]) C zc_X7_found (c_X7_found hX hM hI l k s (by omega) (by omega) (by omega)) zl_7_88 (Nat.le_of_ble_eq_true rfl) (Nat.le_of_ble_eq_true rfl) (Nat.le_of_ble_eq_true rfl) (hM.1.1) (hM.1.2) rfl rfl rfl rfl (Nat.le_of_ble_eq_true rfl) dX7_sounding_4 (fun pf L4 f5 hz6 => ?_)
  obtain ⟨rfl, t2, hM1, he3⟩ := hz6
  have hzr : -1 ≤ pf ∧ pf < 2240 := by
    rcases he3 with q | q | q
    · omega
    · obtain ⟨q1, ⟨q2, q3, q4⟩, q5, q6⟩ := q
      have := spSize_rng hI.J (l := l) (by omega)
      omega
    · omega
  change ZW G pZ la eZ (zRm 3 0 0) sZ mZ aZ bZ hZ cZ AZ 5 0 0 _ L f5 7 [(0, .ref o), (1, .int (iI l)), (2, .int (iI k)), (3, .int (iI s))] [.int (iI pf)]
  have hfd : ¬ spLine μ l ∧ t2 = 1 ∧ pf = -1 ∨ spLine μ l ∧ spOk μ l k s ∧ t2 = 0 ∧ pf = 7 * (20 * l + k) + s + 3 ∨ spLine μ l ∧ ¬ spOk μ l k s ∧ t2 = 2 ∧ pf = -1 := by assumption
  refine z_istore (ls' := [(4, .int (iI pf)), (0, .ref o), (1, .int (iI l)), (2, .int (iI k)), (3, .int (iI s))]) C dX7_sounding_7 (Nat.le_of_ble_eq_true rfl) rfl ?_
  refine z_iload C 0 dX7_sounding_9 rfl ?_
  refine z_if_ge C 18 dX7_sounding_11 (by decide) (by omega) (fun h11 => ?_) (fun h11 => ?_)
  · refine z_aload_n C 1 dX7_sounding_18 rfl ?_
    refine z_getf C 18 zin_X7 (hM1.1.1) (hM1.1.2) rfl (Nat.le_of_ble_eq_true rfl) zl_6_116 rfl rfl dX7_sounding_19 ?_
    refine z_iload C 0 dX7_sounding_22 rfl ?_
    refine z_iald C (MR_a18 hM1) (by omega) (by omega) (by omega) dX7_sounding_24 ?_
    have hb7 := hI.b18 pf (by omega) (by omega)
    refine z_aload_n C 1 dX7_sounding_25 rfl ?_
    refine z_getf C 19 zin_X7 (hM1.1.1) (hM1.1.2) rfl (Nat.le_of_ble_eq_true rfl) zl_6_117 rfl rfl dX7_sounding_26 ?_
    refine z_iload C 0 dX7_sounding_29 rfl ?_
    refine z_iald C (MR_a19 hM1) (by omega) (by omega) (by omega) dX7_sounding_31 ?_
    have hb8 := hI.b18 pf (by omega) (by omega)
    refine z_iadd C dX7_sounding_32 ?_
    exact z_ireturn C dX7_sounding_33 (Nat.le_of_ble_eq_true rfl) (Nat.le_of_ble_eq_true rfl) ⟨rfl, _, _, _, _, hM1, by unfold o_sounding; rcases hfd with q | q | q; (rw [if_neg q.1]; first | (exfalso; omega) | (refine Prod.ext ?_ (Prod.ext ?_ ?_) <;> first | rfl | omega | (dsimp only; omega) | (dsimp only; split <;> omega))); (obtain ⟨q1, q2, q3, q4⟩ := q; first | (exfalso; omega) | (rw [if_pos q1, if_pos q2]; rw [← q4]; (refine Prod.ext ?_ (Prod.ext ?_ ?_) <;> first | rfl | omega | (dsimp only; omega) | (dsimp only; split <;> omega)))); (obtain ⟨q1, q2, q3, q4⟩ := q; rw [if_pos q1, if_neg q2]; first | (exfalso; omega) | (refine Prod.ext ?_ (Prod.ext ?_ ?_) <;> first | rfl | omega | (dsimp only; omega) | (dsimp only; split <;> omega)))⟩
  · refine z_iconst C dX7_sounding_14 ?_
    refine z_goto C 33 dX7_sounding_15 (by decide) ?_
    exact z_ireturn C dX7_sounding_33 (Nat.le_of_ble_eq_true rfl) (Nat.le_of_ble_eq_true rfl) ⟨rfl, _, _, _, _, hM1, by unfold o_sounding; rcases hfd with q | q | q; (rw [if_neg q.1]; first | (exfalso; omega) | (refine Prod.ext ?_ (Prod.ext ?_ ?_) <;> first | rfl | omega | (dsimp only; omega) | (dsimp only; split <;> omega))); (obtain ⟨q1, q2, q3, q4⟩ := q; first | (exfalso; omega) | (rw [if_pos q1, if_pos q2]; rw [← q4]; (refine Prod.ext ?_ (Prod.ext ?_ ?_) <;> first | rfl | omega | (dsimp only; omega) | (dsimp only; split <;> omega)))); (obtain ⟨q1, q2, q3, q4⟩ := q; rw [if_pos q1, if_neg q2]; first | (exfalso; omega) | (refine Prod.ext ?_ (Prod.ext ?_ ?_) <;> first | rfl | omega | (dsimp only; omega) | (dsimp only; split <;> omega)))⟩

set_option maxRecDepth 100000 in
set_option maxHeartbeats 200000 in
theorem c_X7_reduces {la : Launch} {G : zG} {X : (Nat → Prop) → State → Prop} (hX : zX X) {L : List Nat} {f : Nat → va_E} {o : Nat} {ad : Nat → Nat} {μ : zMu} {t : Int} {u v : Int → Int} (hM : MR G L f o ad μ t u v) (hI : MI μ) (l k s : Int) (hl : 0 ≤ l ∧ l < 16) (hk : -1000 ≤ k ∧ k ≤ 1000) (hs : -3 ≤ s ∧ s ≤ 3) : zM la G X yX7_reduces (.code yX7_reduces cX7_reduces 5 (some .int) :: zT) 5 0 0 [.ref o, .int (iI l), .int (iI k), .int (iI s)] L f zeI (zRd L f (fun z => z = spRed μ l k s)) := by
  refine zM_intro hX (by decide) (Nat.le_of_ble_eq_true rfl) (fun pZ eZ sZ mZ aZ bZ hZ cZ AZ C hini => ?_)
  change ZW G pZ la eZ (zRm 5 0 0) sZ mZ aZ bZ hZ cZ AZ 5 0 0 _ L f 0 [(0, .ref o), (1, .int (iI l)), (2, .int (iI k)), (3, .int (iI s))] []
  have hn9 := hI.n
  have hNO : zNO = -2147483648 := rfl
  
  refine z_iload_n C 2 dX7_reduces_0 rfl ?_
  refine z_if_lt C 30 dX7_reduces_1 (by decide) (by omega) (fun h1 => ?_) (fun h1 => ?_)
  · refine z_ldc (n := (-2147483648)) C zl_7_2 rfl dX7_reduces_30 ?_
    exact z_ireturn C dX7_reduces_32 (Nat.le_of_ble_eq_true rfl) (Nat.le_of_ble_eq_true rfl) ⟨by unfold spRed; rw [if_pos (by omega)]; rfl, rfl, rfl⟩
  · refine z_iload_n C 2 dX7_reduces_4 rfl ?_
    refine z_aload_n C 0 dX7_reduces_5 rfl ?_
    refine z_iload_n C 1 dX7_reduces_6 rfl ?_
    refine z_cV (As := [.int (iI l)]) C zc_X7_size (c_X7_size hX hM hI.J l (by omega)) zl_7_22 (Nat.le_of_ble_eq_true rfl) (Nat.le_of_ble_eq_true rfl) (Nat.le_of_ble_eq_true rfl) (hM.1.1) (hM.1.2) rfl rfl rfl rfl (Nat.le_of_ble_eq_true rfl) dX7_reduces_7 (fun z2 L3 f4 hz5 => ?_)
    obtain ⟨hz5, rfl, rfl⟩ := hz5
    subst hz5
    have hr1 := spSize_rng hI.J (l := l) (by omega)
    change ZW G pZ la eZ (zRm 5 0 0) sZ mZ aZ bZ hZ cZ AZ 5 0 0 _ L f 10 [(0, .ref o), (1, .int (iI l)), (2, .int (iI k)), (3, .int (iI s))] [.int (iI (spSize μ l)), .int (iI k)]
    refine z_icmp_ge C 30 dX7_reduces_10 (by decide) (by omega) (by omega) (fun h10 => ?_) (fun h10 => ?_)
    · refine z_ldc (n := (-2147483648)) C zl_7_2 rfl dX7_reduces_30 ?_
      exact z_ireturn C dX7_reduces_32 (Nat.le_of_ble_eq_true rfl) (Nat.le_of_ble_eq_true rfl) ⟨by unfold spRed; rw [if_pos (by omega)]; rfl, rfl, rfl⟩
    · refine z_aload_n C 0 dX7_reduces_13 rfl ?_
      refine z_getf C 18 zin_X7 (hM.1.1) (hM.1.2) rfl (Nat.le_of_ble_eq_true rfl) zl_6_116 rfl rfl dX7_reduces_14 ?_
      refine z_aload_n C 0 dX7_reduces_17 rfl ?_
      refine z_iload_n C 1 dX7_reduces_18 rfl ?_
      refine z_iload_n C 2 dX7_reduces_19 rfl ?_
      refine z_iload_n C 3 dX7_reduces_20 rfl ?_
      refine z_cV (As := [.int (iI l), .int (iI k), .int (iI s)]) C zc_X7_place (c_X7_place hX hM l k s) zl_7_30 (Nat.le_of_ble_eq_true rfl) (Nat.le_of_ble_eq_true rfl) (Nat.le_of_ble_eq_true rfl) (hM.1.1) (hM.1.2) rfl rfl rfl rfl (Nat.le_of_ble_eq_true rfl) dX7_reduces_21 (fun z6 L7 f8 hz9 => ?_)
      obtain ⟨hz9, rfl, rfl⟩ := hz9
      subst hz9
      change ZW G pZ la eZ (zRm 5 0 0) sZ mZ aZ bZ hZ cZ AZ 5 0 0 _ L f 24 [(0, .ref o), (1, .int (iI l)), (2, .int (iI k)), (3, .int (iI s))] [.int (iI (7 * (20 * l + k) + s + 3)), .ref (ad 18)]
      refine z_iald C (MR_a18 hM) (by omega) (by omega) (by omega) dX7_reduces_24 ?_
      have hb10 := hI.b18 (7 * (20 * l + k) + s + 3) (by omega) (by omega)
      refine z_ldc (n := (-2147483648)) C zl_7_2 rfl dX7_reduces_25 ?_
      refine z_icmp_ne C 33 dX7_reduces_27 (by decide) (by omega) (by omega) (fun h27 => ?_) (fun h27 => ?_)
      · have hz9 := spSize_rng hI.J hl
        have ho9 := spOn_own hI.J hl (k := k) (by omega)
        refine z_aload_n C 0 dX7_reduces_33 rfl ?_
        refine z_aload_n C 0 dX7_reduces_34 rfl ?_
        refine z_iload_n C 1 dX7_reduces_35 rfl ?_
        refine z_iload_n C 2 dX7_reduces_36 rfl ?_
        refine z_iconst C dX7_reduces_37 ?_
        refine z_cV (As := [.int (iI l), .int (iI k), .int (iI 0)]) C zc_X7_columnOf (c_X7_columnOf hX hM hI.J l k 0 (by omega) (by omega) (by omega)) zl_7_38 (Nat.le_of_ble_eq_true rfl) (Nat.le_of_ble_eq_true rfl) (Nat.le_of_ble_eq_true rfl) (hM.1.1) (hM.1.2) rfl rfl rfl rfl (Nat.le_of_ble_eq_true rfl) dX7_reduces_38 (fun z12 L13 f14 hz15 => ?_)
        obtain ⟨hz15, rfl, rfl⟩ := hz15
        subst hz15
        have hr11 := spCol_rng hI.J (l := l) (k := k) (s := 0) (by omega) (by omega) (by omega)
        change ZW G pZ la eZ (zRm 5 0 0) sZ mZ aZ bZ hZ cZ AZ 5 0 0 _ L f 41 [(0, .ref o), (1, .int (iI l)), (2, .int (iI k)), (3, .int (iI s))] [.int (iI (spCol μ l k 0)), .ref o]
        refine z_aload_n C 0 dX7_reduces_41 rfl ?_
        refine z_getf C 16 zin_X7 (hM.1.1) (hM.1.2) rfl (Nat.le_of_ble_eq_true rfl) zl_6_114 rfl rfl dX7_reduces_42 ?_
        refine z_iload_n C 1 dX7_reduces_45 rfl ?_
        refine z_iald C (MR_a16 hM) (by omega) (by omega) (by omega) dX7_reduces_46 ?_
        have hb16 := hI.J.b12 l (by omega) (by omega)
        refine z_aload_n C 0 dX7_reduces_47 rfl ?_
        refine z_getf C 17 zin_X7 (hM.1.1) (hM.1.2) rfl (Nat.le_of_ble_eq_true rfl) zl_6_115 rfl rfl dX7_reduces_48 ?_
        refine z_iload_n C 1 dX7_reduces_51 rfl ?_
        refine z_iald C (MR_a17 hM) (by omega) (by omega) (by omega) dX7_reduces_52 ?_
        have hb17 := hI.J.b12 l (by omega) (by omega)
        refine z_iload_n C 2 dX7_reduces_53 rfl ?_
        refine z_iconst C dX7_reduces_54 ?_
        refine z_idivP C dX7_reduces_55 (by omega) (by omega) ?_
        refine z_iadd C dX7_reduces_56 ?_
        refine z_cV (As := [.int (iI (spCol μ l k 0)), .int (iI ((μ 16) l)), .int (iI (((μ 17) l) + (k / 5)))]) C zc_X7_tideIn (c_X7_tideIn hX hM hI (spCol μ l k 0) ((μ 16) l) (((μ 17) l) + (k / 5)) (by omega) (by omega) (by omega)) zl_7_7 (Nat.le_of_ble_eq_true rfl) (Nat.le_of_ble_eq_true rfl) (Nat.le_of_ble_eq_true rfl) (hM.1.1) (hM.1.2) rfl rfl rfl rfl (Nat.le_of_ble_eq_true rfl) dX7_reduces_57 (fun z19 L20 f21 hz22 => ?_)
        obtain ⟨hz22, rfl, rfl⟩ := hz22
        subst hz22
        have hr18 := spTide_rng hI (c := (spCol μ l k 0)) (d := ((μ 16) l)) (h := (((μ 17) l) + (k / 5))) (by omega) (by omega)
        change ZW G pZ la eZ (zRm 5 0 0) sZ mZ aZ bZ hZ cZ AZ 5 0 0 _ L f 60 [(0, .ref o), (1, .int (iI l)), (2, .int (iI k)), (3, .int (iI s))] [.int (iI (spTide μ (spCol μ l k 0) ((μ 16) l) (((μ 17) l) + (k / 5))))]
        refine z_nm (fun td htd => ?_)
        refine z_istore (ls' := [(4, .int (iI td)), (0, .ref o), (1, .int (iI l)), (2, .int (iI k)), (3, .int (iI s))]) C dX7_reduces_60 (Nat.le_of_ble_eq_true rfl) rfl ?_
        have htd2 : td = spTi μ l k := htd
        refine z_iload C 0 dX7_reduces_62 rfl ?_
        refine z_ldc (n := (-2147483648)) C zl_7_2 rfl dX7_reduces_64 ?_
        refine z_icmp_ne C 74 dX7_reduces_66 (by decide) (by omega) (by omega) (fun h66 => ?_) (fun h66 => ?_)
        · refine z_aload_n C 1 dX7_reduces_74 rfl ?_
          refine z_getf C 18 zin_X7 (hM.1.1) (hM.1.2) rfl (Nat.le_of_ble_eq_true rfl) zl_6_116 rfl rfl dX7_reduces_75 ?_
          refine z_aload_n C 1 dX7_reduces_78 rfl ?_
          refine z_iload_n C 2 dX7_reduces_79 rfl ?_
          refine z_iload_n C 3 dX7_reduces_80 rfl ?_
          refine z_iload_n C 4 dX7_reduces_81 rfl ?_
          refine z_cV (As := [.int (iI l), .int (iI k), .int (iI s)]) C zc_X7_place (c_X7_place hX hM l k s) zl_7_30 (Nat.le_of_ble_eq_true rfl) (Nat.le_of_ble_eq_true rfl) (Nat.le_of_ble_eq_true rfl) (hM.1.1) (hM.1.2) rfl rfl rfl rfl (Nat.le_of_ble_eq_true rfl) dX7_reduces_82 (fun z23 L24 f25 hz26 => ?_)
          obtain ⟨hz26, rfl, rfl⟩ := hz26
          subst hz26
          change ZW G pZ la eZ (zRm 5 0 0) sZ mZ aZ bZ hZ cZ AZ 5 0 0 _ L f 85 [(4, .int (iI td)), (0, .ref o), (1, .int (iI l)), (2, .int (iI k)), (3, .int (iI s))] [.int (iI (7 * (20 * l + k) + s + 3)), .ref (ad 18)]
          refine z_iald C (MR_a18 hM) (by omega) (by omega) (by omega) dX7_reduces_85 ?_
          have hb27 := hI.b18 (7 * (20 * l + k) + s + 3) (by omega) (by omega)
          refine z_aload_n C 1 dX7_reduces_86 rfl ?_
          refine z_getf C 19 zin_X7 (hM.1.1) (hM.1.2) rfl (Nat.le_of_ble_eq_true rfl) zl_6_117 rfl rfl dX7_reduces_87 ?_
          refine z_aload_n C 1 dX7_reduces_90 rfl ?_
          refine z_iload_n C 2 dX7_reduces_91 rfl ?_
          refine z_iload_n C 3 dX7_reduces_92 rfl ?_
          refine z_iload_n C 4 dX7_reduces_93 rfl ?_
          refine z_cV (As := [.int (iI l), .int (iI k), .int (iI s)]) C zc_X7_place (c_X7_place hX hM l k s) zl_7_30 (Nat.le_of_ble_eq_true rfl) (Nat.le_of_ble_eq_true rfl) (Nat.le_of_ble_eq_true rfl) (hM.1.1) (hM.1.2) rfl rfl rfl rfl (Nat.le_of_ble_eq_true rfl) dX7_reduces_94 (fun z28 L29 f30 hz31 => ?_)
          obtain ⟨hz31, rfl, rfl⟩ := hz31
          subst hz31
          change ZW G pZ la eZ (zRm 5 0 0) sZ mZ aZ bZ hZ cZ AZ 5 0 0 _ L f 97 [(4, .int (iI td)), (0, .ref o), (1, .int (iI l)), (2, .int (iI k)), (3, .int (iI s))] [.int (iI (7 * (20 * l + k) + s + 3)), .ref (ad 19), .int (iI ((μ 18) (7 * (20 * l + k) + s + 3)))]
          refine z_iald C (MR_a19 hM) (by omega) (by omega) (by omega) dX7_reduces_97 ?_
          have hb32 := hI.b18 (7 * (20 * l + k) + s + 3) (by omega) (by omega)
          refine z_iadd C dX7_reduces_98 ?_
          refine z_iload C 0 dX7_reduces_99 rfl ?_
          refine z_isub C dX7_reduces_101 ?_
          exact z_ireturn C dX7_reduces_102 (Nat.le_of_ble_eq_true rfl) (Nat.le_of_ble_eq_true rfl) ⟨by unfold spRed; rw [if_neg (by omega), ← htd2]; first | (rw [if_pos (by omega)]; rfl) | rw [if_neg (by omega)], rfl, rfl⟩
        · refine z_ldc (n := (-2147483648)) C zl_7_2 rfl dX7_reduces_69 ?_
          refine z_goto C 102 dX7_reduces_71 (by decide) ?_
          exact z_ireturn C dX7_reduces_102 (Nat.le_of_ble_eq_true rfl) (Nat.le_of_ble_eq_true rfl) ⟨by unfold spRed; rw [if_neg (by omega), ← htd2]; first | (rw [if_pos (by omega)]; rfl) | rw [if_neg (by omega)], rfl, rfl⟩
      · refine z_ldc (n := (-2147483648)) C zl_7_2 rfl dX7_reduces_30 ?_
        exact z_ireturn C dX7_reduces_32 (Nat.le_of_ble_eq_true rfl) (Nat.le_of_ble_eq_true rfl) ⟨by unfold spRed; rw [if_pos (by omega)]; rfl, rfl, rfl⟩

set_option maxRecDepth 100000 in
set_option maxHeartbeats 200000 in
theorem c_X7_isFar {la : Launch} {G : zG} {X : (Nat → Prop) → State → Prop} (hX : zX X) {L : List Nat} {f : Nat → va_E} (a b : Int) (ha : -1000 ≤ a ∧ a ≤ 1000) (hb : -1000 ≤ b ∧ b ≤ 1000) : zM la G X yX7_isFar (.code yX7_isFar cX7_isFar 2 (some .boolean) :: zT) 0 0 0 [.int (iI a), .int (iI b)] L f zeI (zRd L f (fun z => z = bI (spFar a b))) := by
  refine zM_intro hX (by decide) (Nat.le_of_ble_eq_true rfl) (fun pZ eZ sZ mZ aZ bZ hZ cZ AZ C hini => ?_)
  change ZW G pZ la eZ (zRm 0 0 0) sZ mZ aZ bZ hZ cZ AZ 2 0 0 _ L f 0 [(0, .int (iI a)), (1, .int (iI b))] []
  refine z_iload_n C 0 dX7_isFar_0 rfl ?_
  refine z_iload_n C 1 dX7_isFar_1 rfl ?_
  refine z_isub C dX7_isFar_2 ?_
  refine z_iconst C dX7_isFar_3 ?_
  refine z_icmp_gt C 14 dX7_isFar_4 (by decide) (by omega) (by omega) (fun h4 => ?_) (fun h4 => ?_)
  · refine z_iconst C dX7_isFar_14 ?_
    refine z_goto C 19 dX7_isFar_15 (by decide) ?_
    exact z_zreturn C (by first | omega | (unfold bI; split <;> omega)) dX7_isFar_19 (Nat.le_of_ble_eq_true rfl) (Nat.le_of_ble_eq_true rfl) ⟨by unfold bI; split <;> omega, rfl, rfl⟩
  · refine z_iload_n C 1 dX7_isFar_7 rfl ?_
    refine z_iload_n C 0 dX7_isFar_8 rfl ?_
    refine z_isub C dX7_isFar_9 ?_
    refine z_iconst C dX7_isFar_10 ?_
    refine z_icmp_le C 18 dX7_isFar_11 (by decide) (by omega) (by omega) (fun h11 => ?_) (fun h11 => ?_)
    · refine z_iconst C dX7_isFar_18 ?_
      exact z_zreturn C (by first | omega | (unfold bI; split <;> omega)) dX7_isFar_19 (Nat.le_of_ble_eq_true rfl) (Nat.le_of_ble_eq_true rfl) ⟨by unfold bI; split <;> omega, rfl, rfl⟩
    · refine z_iconst C dX7_isFar_14 ?_
      refine z_goto C 19 dX7_isFar_15 (by decide) ?_
      exact z_zreturn C (by first | omega | (unfold bI; split <;> omega)) dX7_isFar_19 (Nat.le_of_ble_eq_true rfl) (Nat.le_of_ble_eq_true rfl) ⟨by unfold bI; split <;> omega, rfl, rfl⟩

set_option maxRecDepth 100000 in
set_option maxHeartbeats 200000 in
theorem c_X7_reduced {la : Launch} {G : zG} {X : (Nat → Prop) → State → Prop} (hX : zX X) {L : List Nat} {f : Nat → va_E} {o : Nat} {ad : Nat → Nat} {μ : zMu} {t : Int} {u v : Int → Int} (hM : MR G L f o ad μ t u v) (hI : MI μ) (l k s : Int) (hl : zR l) (hk : zR k) (hs : zR s) : zM la G X yX7_reduced (.code yX7_reduced cX7_reduced 5 (some .int) :: zT) 6 0 0 [.ref o, .int (iI l), .int (iI k), .int (iI s)] L f zeI (fun z L' f' => L = L' ∧ ∃ t' μ' u' v', MR G L f' o ad μ' t' u' v' ∧ o_reduced μ l k s = (t', if t' = 0 then z else 0, μ')) := by
  refine zM_intro hX (by decide) (Nat.le_of_ble_eq_true rfl) (fun pZ eZ sZ mZ aZ bZ hZ cZ AZ C hini => ?_)
  change ZW G pZ la eZ (zRm 6 0 0) sZ mZ aZ bZ hZ cZ AZ 5 0 0 _ L f 0 [(0, .ref o), (1, .int (iI l)), (2, .int (iI k)), (3, .int (iI s))] []
  have hn9 := hI.n
  have hNO : zNO = -2147483648 := rfl
  
  refine z_aload_n C 0 dX7_reduced_0 rfl ?_
  refine z_iload_n C 1 dX7_reduced_1 rfl ?_
  refine z_iload_n C 2 dX7_reduced_2 rfl ?_
  refine z_iload_n C 3 dX7_reduced_3 rfl ?_
  refine z_cV (As := [.int (iI l), .int (iI k), .int (iI s)]) C zc_X7_found (c_X7_found hX hM hI l k s (by omega) (by omega) (by omega)) zl_7_88 (Nat.le_of_ble_eq_true rfl) (Nat.le_of_ble_eq_true rfl) (Nat.le_of_ble_eq_true rfl) (hM.1.1) (hM.1.2) rfl rfl rfl rfl (Nat.le_of_ble_eq_true rfl) dX7_reduced_4 (fun pf L4 f5 hz6 => ?_)
  obtain ⟨rfl, t2, hM1, he3⟩ := hz6
  have hzr : -1 ≤ pf ∧ pf < 2240 := by
    rcases he3 with q | q | q
    · omega
    · obtain ⟨q1, ⟨q2, q3, q4⟩, q5, q6⟩ := q
      have := spSize_rng hI.J (l := l) (by omega)
      omega
    · omega
  change ZW G pZ la eZ (zRm 6 0 0) sZ mZ aZ bZ hZ cZ AZ 5 0 0 _ L f5 7 [(0, .ref o), (1, .int (iI l)), (2, .int (iI k)), (3, .int (iI s))] [.int (iI pf)]
  have hfd : ¬ spLine μ l ∧ t2 = 1 ∧ pf = -1 ∨ spLine μ l ∧ spOk μ l k s ∧ t2 = 0 ∧ pf = 7 * (20 * l + k) + s + 3 ∨ spLine μ l ∧ ¬ spOk μ l k s ∧ t2 = 2 ∧ pf = -1 := by assumption
  refine z_if_ge C 12 dX7_reduced_7 (by decide) (by omega) (fun h7 => ?_) (fun h7 => ?_)
  · have hsz := spSize_rng hI.J (l := l) (by omega)
    have hok : spOk μ l k s := by
      rcases hfd with q | q | q
      · omega
      · exact q.2.1
      · omega
    obtain ⟨k1, k2, k3⟩ := id hok
    refine z_aload_n C 0 dX7_reduced_12 rfl ?_
    refine z_iload_n C 1 dX7_reduced_13 rfl ?_
    refine z_iload_n C 2 dX7_reduced_14 rfl ?_
    refine z_iload_n C 3 dX7_reduced_15 rfl ?_
    refine z_cV (As := [.int (iI l), .int (iI k), .int (iI s)]) C zc_X7_reduces (c_X7_reduces hX hM1 hI l k s (by omega) (by omega) (by omega)) zl_7_73 (Nat.le_of_ble_eq_true rfl) (Nat.le_of_ble_eq_true rfl) (Nat.le_of_ble_eq_true rfl) (hM1.1.1) (hM1.1.2) rfl rfl rfl rfl (Nat.le_of_ble_eq_true rfl) dX7_reduced_16 (fun z8 L9 f10 hz11 => ?_)
    obtain ⟨hz11, rfl, rfl⟩ := hz11
    subst hz11
    have hr7 := spRed_rng hI (l := l) k (s := s) (by omega) (by omega)
    change ZW G pZ la eZ (zRm 6 0 0) sZ mZ aZ bZ hZ cZ AZ 5 0 0 _ L f5 19 [(0, .ref o), (1, .int (iI l)), (2, .int (iI k)), (3, .int (iI s))] [.int (iI (spRed μ l k s))]
    refine z_nm (fun x12 hx12 => ?_)
    refine z_istore (ls' := [(4, .int (iI x12)), (0, .ref o), (1, .int (iI l)), (2, .int (iI k)), (3, .int (iI s))]) C dX7_reduced_19 (Nat.le_of_ble_eq_true rfl) rfl ?_
    refine z_iload C 0 dX7_reduced_21 rfl ?_
    refine z_ldc (n := (-2147483648)) C zl_7_2 rfl dX7_reduced_23 ?_
    refine z_icmp_ne C 34 dX7_reduced_25 (by decide) (by omega) (by omega) (fun h25 => ?_) (fun h25 => ?_)
    · refine z_iload C 0 dX7_reduced_34 rfl ?_
      exact z_ireturn C dX7_reduced_36 (Nat.le_of_ble_eq_true rfl) (Nat.le_of_ble_eq_true rfl) ⟨rfl, _, _, _, _, hM1, by unfold o_reduced; rcases hfd with q | q | q; (rw [if_neg q.1]; first | (exfalso; omega) | (refine Prod.ext ?_ (Prod.ext ?_ ?_) <;> first | rfl | omega | (dsimp only; omega) | (dsimp only; split <;> omega))); (obtain ⟨q1, q2, q3, q4⟩ := q; first | (exfalso; omega) | (rw [if_pos q1, if_pos q2]; rw [if_neg (by omega)]; (refine Prod.ext ?_ (Prod.ext ?_ ?_) <;> first | rfl | omega | (dsimp only; omega) | (dsimp only; split <;> omega)))); (obtain ⟨q1, q2, q3, q4⟩ := q; rw [if_pos q1, if_neg q2]; first | (exfalso; omega) | (refine Prod.ext ?_ (Prod.ext ?_ ?_) <;> first | rfl | omega | (dsimp only; omega) | (dsimp only; split <;> omega)))⟩
    · refine z_aload_n C 1 dX7_reduced_28 rfl ?_
      refine z_iconst C dX7_reduced_29 ?_
      refine z_cV (As := [.int (iI 3)]) C zc_X7_refuse (c_X7_refuse hX hM1 3) zl_6_179 (Nat.le_of_ble_eq_true rfl) (Nat.le_of_ble_eq_true rfl) (Nat.le_of_ble_eq_true rfl) (hM1.1.1) (hM1.1.2) rfl rfl rfl rfl (Nat.le_of_ble_eq_true rfl) dX7_reduced_30 (fun z14 L15 f16 hz17 => ?_)
      obtain ⟨rfl, rfl, hM13⟩ := hz17
      change ZW G pZ la eZ (zRm 6 0 0) sZ mZ aZ bZ hZ cZ AZ 5 0 0 _ L f16 33 [(4, .int (iI x12)), (0, .ref o), (1, .int (iI l)), (2, .int (iI k)), (3, .int (iI s))] [.int (iI 0)]
      exact z_ireturn C dX7_reduced_33 (Nat.le_of_ble_eq_true rfl) (Nat.le_of_ble_eq_true rfl) ⟨rfl, _, _, _, _, hM13, by unfold o_reduced; rcases hfd with q | q | q; (rw [if_neg q.1]; first | (exfalso; omega) | (refine Prod.ext ?_ (Prod.ext ?_ ?_) <;> first | rfl | omega | (dsimp only; omega) | (dsimp only; split <;> omega))); (obtain ⟨q1, q2, q3, q4⟩ := q; first | (exfalso; omega) | (rw [if_pos q1, if_pos q2]; rw [if_pos (by omega)]; (refine Prod.ext ?_ (Prod.ext ?_ ?_) <;> first | rfl | omega | (dsimp only; omega) | (dsimp only; split <;> omega)))); (obtain ⟨q1, q2, q3, q4⟩ := q; rw [if_pos q1, if_neg q2]; first | (exfalso; omega) | (refine Prod.ext ?_ (Prod.ext ?_ ?_) <;> first | rfl | omega | (dsimp only; omega) | (dsimp only; split <;> omega)))⟩
  · refine z_iconst C dX7_reduced_10 ?_
    exact z_ireturn C dX7_reduced_11 (Nat.le_of_ble_eq_true rfl) (Nat.le_of_ble_eq_true rfl) ⟨rfl, _, _, _, _, hM1, by unfold o_reduced; rcases hfd with q | q | q; (rw [if_neg q.1]; first | (exfalso; omega) | (refine Prod.ext ?_ (Prod.ext ?_ ?_) <;> first | rfl | omega | (dsimp only; omega) | (dsimp only; split <;> omega))); (obtain ⟨q1, q2, q3, q4⟩ := q; first | (exfalso; omega) | (rw [if_pos q1, if_pos q2]; exfalso; omega)); (obtain ⟨q1, q2, q3, q4⟩ := q; rw [if_pos q1, if_neg q2]; first | (exfalso; omega) | (refine Prod.ext ?_ (Prod.ext ?_ ?_) <;> first | rfl | omega | (dsimp only; omega) | (dsimp only; split <;> omega)))⟩

set_option maxRecDepth 100000 in
set_option maxHeartbeats 200000 in
theorem c_X7_spike {la : Launch} {G : zG} {X : (Nat → Prop) → State → Prop} (hX : zX X) {L : List Nat} {f : Nat → va_E} {o : Nat} {ad : Nat → Nat} {μ : zMu} {t : Int} {u v : Int → Int} (hM : MR G L f o ad μ t u v) (hI : MI μ) (l k s : Int) (hl : 0 ≤ l ∧ l < 16) (hk : -900 ≤ k ∧ k ≤ 900) (hs : -3 ≤ s ∧ s ≤ 3) : zM la G X yX7_spike (.code yX7_spike cX7_spike 7 (some .boolean) :: zT) 6 0 0 [.ref o, .int (iI l), .int (iI k), .int (iI s)] L f zeI (zRd L f (fun z => z = bI (spSpike μ l k s))) := by
  refine zM_intro hX (by decide) (Nat.le_of_ble_eq_true rfl) (fun pZ eZ sZ mZ aZ bZ hZ cZ AZ C hini => ?_)
  change ZW G pZ la eZ (zRm 6 0 0) sZ mZ aZ bZ hZ cZ AZ 7 0 0 _ L f 0 [(0, .ref o), (1, .int (iI l)), (2, .int (iI k)), (3, .int (iI s))] []
  have hn9 := hI.n
  have hNO : zNO = -2147483648 := rfl
  
  refine z_aload_n C 0 dX7_spike_0 rfl ?_
  refine z_iload_n C 1 dX7_spike_1 rfl ?_
  refine z_iload_n C 2 dX7_spike_2 rfl ?_
  refine z_iload_n C 3 dX7_spike_3 rfl ?_
  refine z_cV (As := [.int (iI l), .int (iI k), .int (iI s)]) C zc_X7_reduces (c_X7_reduces hX hM hI l k s (by omega) (by omega) (by omega)) zl_7_73 (Nat.le_of_ble_eq_true rfl) (Nat.le_of_ble_eq_true rfl) (Nat.le_of_ble_eq_true rfl) (hM.1.1) (hM.1.2) rfl rfl rfl rfl (Nat.le_of_ble_eq_true rfl) dX7_spike_4 (fun z2 L3 f4 hz5 => ?_)
  obtain ⟨hz5, rfl, rfl⟩ := hz5
  subst hz5
  have hr1 := spRed_rng hI (l := l) k (s := s) (by omega) (by omega)
  change ZW G pZ la eZ (zRm 6 0 0) sZ mZ aZ bZ hZ cZ AZ 7 0 0 _ L f 7 [(0, .ref o), (1, .int (iI l)), (2, .int (iI k)), (3, .int (iI s))] [.int (iI (spRed μ l k s))]
  refine z_nm (fun ra hra => ?_)
  refine z_istore (ls' := [(4, .int (iI ra)), (0, .ref o), (1, .int (iI l)), (2, .int (iI k)), (3, .int (iI s))]) C dX7_spike_7 (Nat.le_of_ble_eq_true rfl) rfl ?_
  refine z_aload_n C 1 dX7_spike_9 rfl ?_
  refine z_iload_n C 2 dX7_spike_10 rfl ?_
  refine z_iload_n C 3 dX7_spike_11 rfl ?_
  refine z_iconst C dX7_spike_12 ?_
  refine z_isub C dX7_spike_13 ?_
  refine z_iload_n C 4 dX7_spike_14 rfl ?_
  refine z_cV (As := [.int (iI l), .int (iI (k - 1)), .int (iI s)]) C zc_X7_reduces (c_X7_reduces hX hM hI l (k - 1) s (by omega) (by omega) (by omega)) zl_7_73 (Nat.le_of_ble_eq_true rfl) (Nat.le_of_ble_eq_true rfl) (Nat.le_of_ble_eq_true rfl) (hM.1.1) (hM.1.2) rfl rfl rfl rfl (Nat.le_of_ble_eq_true rfl) dX7_spike_15 (fun z7 L8 f9 hz10 => ?_)
  obtain ⟨hz10, rfl, rfl⟩ := hz10
  subst hz10
  have hr6 := spRed_rng hI (l := l) (k - 1) (s := s) (by omega) (by omega)
  change ZW G pZ la eZ (zRm 6 0 0) sZ mZ aZ bZ hZ cZ AZ 7 0 0 _ L f 18 [(4, .int (iI ra)), (0, .ref o), (1, .int (iI l)), (2, .int (iI k)), (3, .int (iI s))] [.int (iI (spRed μ l (k - 1) s))]
  refine z_nm (fun rb hrb => ?_)
  refine z_istore (ls' := [(5, .int (iI rb)), (4, .int (iI ra)), (0, .ref o), (1, .int (iI l)), (2, .int (iI k)), (3, .int (iI s))]) C dX7_spike_18 (Nat.le_of_ble_eq_true rfl) rfl ?_
  refine z_aload_n C 2 dX7_spike_20 rfl ?_
  refine z_iload_n C 3 dX7_spike_21 rfl ?_
  refine z_iload_n C 4 dX7_spike_22 rfl ?_
  refine z_iconst C dX7_spike_23 ?_
  refine z_iadd C dX7_spike_24 ?_
  refine z_iload_n C 5 dX7_spike_25 rfl ?_
  refine z_cV (As := [.int (iI l), .int (iI (k + 1)), .int (iI s)]) C zc_X7_reduces (c_X7_reduces hX hM hI l (k + 1) s (by omega) (by omega) (by omega)) zl_7_73 (Nat.le_of_ble_eq_true rfl) (Nat.le_of_ble_eq_true rfl) (Nat.le_of_ble_eq_true rfl) (hM.1.1) (hM.1.2) rfl rfl rfl rfl (Nat.le_of_ble_eq_true rfl) dX7_spike_26 (fun z12 L13 f14 hz15 => ?_)
  obtain ⟨hz15, rfl, rfl⟩ := hz15
  subst hz15
  have hr11 := spRed_rng hI (l := l) (k + 1) (s := s) (by omega) (by omega)
  change ZW G pZ la eZ (zRm 6 0 0) sZ mZ aZ bZ hZ cZ AZ 7 0 0 _ L f 29 [(5, .int (iI rb)), (4, .int (iI ra)), (0, .ref o), (1, .int (iI l)), (2, .int (iI k)), (3, .int (iI s))] [.int (iI (spRed μ l (k + 1) s))]
  refine z_nm (fun rc hrc => ?_)
  refine z_istore (ls' := [(6, .int (iI rc)), (5, .int (iI rb)), (4, .int (iI ra)), (0, .ref o), (1, .int (iI l)), (2, .int (iI k)), (3, .int (iI s))]) C dX7_spike_29 (Nat.le_of_ble_eq_true rfl) rfl ?_
  refine z_iload C 2 dX7_spike_31 rfl ?_
  refine z_ldc (n := (-2147483648)) C zl_7_2 rfl dX7_spike_33 ?_
  refine z_icmp_eq C 52 dX7_spike_35 (by decide) (by omega) (by omega) (fun h35 => ?_) (fun h35 => ?_)
  · refine z_iconst C dX7_spike_52 ?_
    exact z_zreturn C (by first | omega | (unfold bI; split <;> omega)) dX7_spike_53 (Nat.le_of_ble_eq_true rfl) (Nat.le_of_ble_eq_true rfl) ⟨by unfold spSpike; rw [← hra, ← hrb, ← hrc]; unfold bI; split <;> omega, rfl, rfl⟩
  · refine z_iload C 1 dX7_spike_38 rfl ?_
    refine z_ldc (n := (-2147483648)) C zl_7_2 rfl dX7_spike_40 ?_
    refine z_icmp_ne C 54 dX7_spike_42 (by decide) (by omega) (by omega) (fun h42 => ?_) (fun h42 => ?_)
    · refine z_iload C 1 dX7_spike_54 rfl ?_
      refine z_ldc (n := (-2147483648)) C zl_7_2 rfl dX7_spike_56 ?_
      refine z_icmp_eq C 71 dX7_spike_58 (by decide) (by omega) (by omega) (fun h58 => ?_) (fun h58 => ?_)
      · refine z_iload C 0 dX7_spike_71 rfl ?_
        refine z_ldc (n := (-2147483648)) C zl_7_2 rfl dX7_spike_73 ?_
        refine z_icmp_eq C 88 dX7_spike_75 (by decide) (by omega) (by omega) (fun h75 => ?_) (fun h75 => ?_)
        · refine z_iconst C dX7_spike_88 ?_
          refine z_goto C 93 dX7_spike_89 (by decide) ?_
          exact z_zreturn C (by first | omega | (unfold bI; split <;> omega)) dX7_spike_93 (Nat.le_of_ble_eq_true rfl) (Nat.le_of_ble_eq_true rfl) ⟨by unfold spSpike; rw [← hra, ← hrb, ← hrc]; unfold bI; split <;> omega, rfl, rfl⟩
        · refine z_iload C 2 dX7_spike_78 rfl ?_
          refine z_iload C 0 dX7_spike_80 rfl ?_
          refine z_cS (As := [.int (iI ra), .int (iI rc)]) C zc_X7_isFar (c_X7_isFar hX ra rc (by omega) (by omega)) zl_7_81 (Nat.le_of_ble_eq_true rfl) (Nat.le_of_ble_eq_true rfl) (Nat.le_of_ble_eq_true rfl) rfl rfl (Nat.le_of_ble_eq_true rfl) dX7_spike_82 (fun z16 L17 f18 hz19 => ?_)
          obtain ⟨hz19, rfl, rfl⟩ := hz19
          subst hz19
          change ZW G pZ la eZ (zRm 6 0 0) sZ mZ aZ bZ hZ cZ AZ 7 0 0 _ L f 85 [(6, .int (iI rc)), (5, .int (iI rb)), (4, .int (iI ra)), (0, .ref o), (1, .int (iI l)), (2, .int (iI k)), (3, .int (iI s))] [.int (iI (bI (spFar ra rc)))]
          refine z_if_eq_b C 92 dX7_spike_85 (by decide) (fun h85 => ?_) (fun h85 => ?_)
          · refine z_iconst C dX7_spike_92 ?_
            exact z_zreturn C (by first | omega | (unfold bI; split <;> omega)) dX7_spike_93 (Nat.le_of_ble_eq_true rfl) (Nat.le_of_ble_eq_true rfl) ⟨by unfold spSpike; rw [← hra, ← hrb, ← hrc]; unfold bI; split <;> omega, rfl, rfl⟩
          · refine z_iconst C dX7_spike_88 ?_
            refine z_goto C 93 dX7_spike_89 (by decide) ?_
            exact z_zreturn C (by first | omega | (unfold bI; split <;> omega)) dX7_spike_93 (Nat.le_of_ble_eq_true rfl) (Nat.le_of_ble_eq_true rfl) ⟨by unfold spSpike; rw [← hra, ← hrb, ← hrc]; unfold bI; split <;> omega, rfl, rfl⟩
      · refine z_iload C 2 dX7_spike_61 rfl ?_
        refine z_iload C 1 dX7_spike_63 rfl ?_
        refine z_cS (As := [.int (iI ra), .int (iI rb)]) C zc_X7_isFar (c_X7_isFar hX ra rb (by omega) (by omega)) zl_7_81 (Nat.le_of_ble_eq_true rfl) (Nat.le_of_ble_eq_true rfl) (Nat.le_of_ble_eq_true rfl) rfl rfl (Nat.le_of_ble_eq_true rfl) dX7_spike_65 (fun z20 L21 f22 hz23 => ?_)
        obtain ⟨hz23, rfl, rfl⟩ := hz23
        subst hz23
        change ZW G pZ la eZ (zRm 6 0 0) sZ mZ aZ bZ hZ cZ AZ 7 0 0 _ L f 68 [(6, .int (iI rc)), (5, .int (iI rb)), (4, .int (iI ra)), (0, .ref o), (1, .int (iI l)), (2, .int (iI k)), (3, .int (iI s))] [.int (iI (bI (spFar ra rb)))]
        refine z_if_eq_b C 92 dX7_spike_68 (by decide) (fun h68 => ?_) (fun h68 => ?_)
        · refine z_iconst C dX7_spike_92 ?_
          exact z_zreturn C (by first | omega | (unfold bI; split <;> omega)) dX7_spike_93 (Nat.le_of_ble_eq_true rfl) (Nat.le_of_ble_eq_true rfl) ⟨by unfold spSpike; rw [← hra, ← hrb, ← hrc]; unfold bI; split <;> omega, rfl, rfl⟩
        · refine z_iload C 0 dX7_spike_71 rfl ?_
          refine z_ldc (n := (-2147483648)) C zl_7_2 rfl dX7_spike_73 ?_
          refine z_icmp_eq C 88 dX7_spike_75 (by decide) (by omega) (by omega) (fun h75 => ?_) (fun h75 => ?_)
          · refine z_iconst C dX7_spike_88 ?_
            refine z_goto C 93 dX7_spike_89 (by decide) ?_
            exact z_zreturn C (by first | omega | (unfold bI; split <;> omega)) dX7_spike_93 (Nat.le_of_ble_eq_true rfl) (Nat.le_of_ble_eq_true rfl) ⟨by unfold spSpike; rw [← hra, ← hrb, ← hrc]; unfold bI; split <;> omega, rfl, rfl⟩
          · refine z_iload C 2 dX7_spike_78 rfl ?_
            refine z_iload C 0 dX7_spike_80 rfl ?_
            refine z_cS (As := [.int (iI ra), .int (iI rc)]) C zc_X7_isFar (c_X7_isFar hX ra rc (by omega) (by omega)) zl_7_81 (Nat.le_of_ble_eq_true rfl) (Nat.le_of_ble_eq_true rfl) (Nat.le_of_ble_eq_true rfl) rfl rfl (Nat.le_of_ble_eq_true rfl) dX7_spike_82 (fun z24 L25 f26 hz27 => ?_)
            obtain ⟨hz27, rfl, rfl⟩ := hz27
            subst hz27
            change ZW G pZ la eZ (zRm 6 0 0) sZ mZ aZ bZ hZ cZ AZ 7 0 0 _ L f 85 [(6, .int (iI rc)), (5, .int (iI rb)), (4, .int (iI ra)), (0, .ref o), (1, .int (iI l)), (2, .int (iI k)), (3, .int (iI s))] [.int (iI (bI (spFar ra rc)))]
            refine z_if_eq_b C 92 dX7_spike_85 (by decide) (fun h85 => ?_) (fun h85 => ?_)
            · refine z_iconst C dX7_spike_92 ?_
              exact z_zreturn C (by first | omega | (unfold bI; split <;> omega)) dX7_spike_93 (Nat.le_of_ble_eq_true rfl) (Nat.le_of_ble_eq_true rfl) ⟨by unfold spSpike; rw [← hra, ← hrb, ← hrc]; unfold bI; split <;> omega, rfl, rfl⟩
            · refine z_iconst C dX7_spike_88 ?_
              refine z_goto C 93 dX7_spike_89 (by decide) ?_
              exact z_zreturn C (by first | omega | (unfold bI; split <;> omega)) dX7_spike_93 (Nat.le_of_ble_eq_true rfl) (Nat.le_of_ble_eq_true rfl) ⟨by unfold spSpike; rw [← hra, ← hrb, ← hrc]; unfold bI; split <;> omega, rfl, rfl⟩
    · refine z_iload C 0 dX7_spike_45 rfl ?_
      refine z_ldc (n := (-2147483648)) C zl_7_2 rfl dX7_spike_47 ?_
      refine z_icmp_ne C 54 dX7_spike_49 (by decide) (by omega) (by omega) (fun h49 => ?_) (fun h49 => ?_)
      · refine z_iload C 1 dX7_spike_54 rfl ?_
        refine z_ldc (n := (-2147483648)) C zl_7_2 rfl dX7_spike_56 ?_
        refine z_icmp_eq C 71 dX7_spike_58 (by decide) (by omega) (by omega) (fun h58 => ?_) (fun h58 => ?_)
        · refine z_iload C 0 dX7_spike_71 rfl ?_
          refine z_ldc (n := (-2147483648)) C zl_7_2 rfl dX7_spike_73 ?_
          refine z_icmp_eq C 88 dX7_spike_75 (by decide) (by omega) (by omega) (fun h75 => ?_) (fun h75 => ?_)
          · refine z_iconst C dX7_spike_88 ?_
            refine z_goto C 93 dX7_spike_89 (by decide) ?_
            exact z_zreturn C (by first | omega | (unfold bI; split <;> omega)) dX7_spike_93 (Nat.le_of_ble_eq_true rfl) (Nat.le_of_ble_eq_true rfl) ⟨by unfold spSpike; rw [← hra, ← hrb, ← hrc]; unfold bI; split <;> omega, rfl, rfl⟩
          · refine z_iload C 2 dX7_spike_78 rfl ?_
            refine z_iload C 0 dX7_spike_80 rfl ?_
            refine z_cS (As := [.int (iI ra), .int (iI rc)]) C zc_X7_isFar (c_X7_isFar hX ra rc (by omega) (by omega)) zl_7_81 (Nat.le_of_ble_eq_true rfl) (Nat.le_of_ble_eq_true rfl) (Nat.le_of_ble_eq_true rfl) rfl rfl (Nat.le_of_ble_eq_true rfl) dX7_spike_82 (fun z28 L29 f30 hz31 => ?_)
            obtain ⟨hz31, rfl, rfl⟩ := hz31
            subst hz31
            change ZW G pZ la eZ (zRm 6 0 0) sZ mZ aZ bZ hZ cZ AZ 7 0 0 _ L f 85 [(6, .int (iI rc)), (5, .int (iI rb)), (4, .int (iI ra)), (0, .ref o), (1, .int (iI l)), (2, .int (iI k)), (3, .int (iI s))] [.int (iI (bI (spFar ra rc)))]
            refine z_if_eq_b C 92 dX7_spike_85 (by decide) (fun h85 => ?_) (fun h85 => ?_)
            · refine z_iconst C dX7_spike_92 ?_
              exact z_zreturn C (by first | omega | (unfold bI; split <;> omega)) dX7_spike_93 (Nat.le_of_ble_eq_true rfl) (Nat.le_of_ble_eq_true rfl) ⟨by unfold spSpike; rw [← hra, ← hrb, ← hrc]; unfold bI; split <;> omega, rfl, rfl⟩
            · refine z_iconst C dX7_spike_88 ?_
              refine z_goto C 93 dX7_spike_89 (by decide) ?_
              exact z_zreturn C (by first | omega | (unfold bI; split <;> omega)) dX7_spike_93 (Nat.le_of_ble_eq_true rfl) (Nat.le_of_ble_eq_true rfl) ⟨by unfold spSpike; rw [← hra, ← hrb, ← hrc]; unfold bI; split <;> omega, rfl, rfl⟩
        · refine z_iload C 2 dX7_spike_61 rfl ?_
          refine z_iload C 1 dX7_spike_63 rfl ?_
          refine z_cS (As := [.int (iI ra), .int (iI rb)]) C zc_X7_isFar (c_X7_isFar hX ra rb (by omega) (by omega)) zl_7_81 (Nat.le_of_ble_eq_true rfl) (Nat.le_of_ble_eq_true rfl) (Nat.le_of_ble_eq_true rfl) rfl rfl (Nat.le_of_ble_eq_true rfl) dX7_spike_65 (fun z32 L33 f34 hz35 => ?_)
          obtain ⟨hz35, rfl, rfl⟩ := hz35
          subst hz35
          change ZW G pZ la eZ (zRm 6 0 0) sZ mZ aZ bZ hZ cZ AZ 7 0 0 _ L f 68 [(6, .int (iI rc)), (5, .int (iI rb)), (4, .int (iI ra)), (0, .ref o), (1, .int (iI l)), (2, .int (iI k)), (3, .int (iI s))] [.int (iI (bI (spFar ra rb)))]
          refine z_if_eq_b C 92 dX7_spike_68 (by decide) (fun h68 => ?_) (fun h68 => ?_)
          · refine z_iconst C dX7_spike_92 ?_
            exact z_zreturn C (by first | omega | (unfold bI; split <;> omega)) dX7_spike_93 (Nat.le_of_ble_eq_true rfl) (Nat.le_of_ble_eq_true rfl) ⟨by unfold spSpike; rw [← hra, ← hrb, ← hrc]; unfold bI; split <;> omega, rfl, rfl⟩
          · refine z_iload C 0 dX7_spike_71 rfl ?_
            refine z_ldc (n := (-2147483648)) C zl_7_2 rfl dX7_spike_73 ?_
            refine z_icmp_eq C 88 dX7_spike_75 (by decide) (by omega) (by omega) (fun h75 => ?_) (fun h75 => ?_)
            · refine z_iconst C dX7_spike_88 ?_
              refine z_goto C 93 dX7_spike_89 (by decide) ?_
              exact z_zreturn C (by first | omega | (unfold bI; split <;> omega)) dX7_spike_93 (Nat.le_of_ble_eq_true rfl) (Nat.le_of_ble_eq_true rfl) ⟨by unfold spSpike; rw [← hra, ← hrb, ← hrc]; unfold bI; split <;> omega, rfl, rfl⟩
            · refine z_iload C 2 dX7_spike_78 rfl ?_
              refine z_iload C 0 dX7_spike_80 rfl ?_
              refine z_cS (As := [.int (iI ra), .int (iI rc)]) C zc_X7_isFar (c_X7_isFar hX ra rc (by omega) (by omega)) zl_7_81 (Nat.le_of_ble_eq_true rfl) (Nat.le_of_ble_eq_true rfl) (Nat.le_of_ble_eq_true rfl) rfl rfl (Nat.le_of_ble_eq_true rfl) dX7_spike_82 (fun z36 L37 f38 hz39 => ?_)
              obtain ⟨hz39, rfl, rfl⟩ := hz39
              subst hz39
              change ZW G pZ la eZ (zRm 6 0 0) sZ mZ aZ bZ hZ cZ AZ 7 0 0 _ L f 85 [(6, .int (iI rc)), (5, .int (iI rb)), (4, .int (iI ra)), (0, .ref o), (1, .int (iI l)), (2, .int (iI k)), (3, .int (iI s))] [.int (iI (bI (spFar ra rc)))]
              refine z_if_eq_b C 92 dX7_spike_85 (by decide) (fun h85 => ?_) (fun h85 => ?_)
              · refine z_iconst C dX7_spike_92 ?_
                exact z_zreturn C (by first | omega | (unfold bI; split <;> omega)) dX7_spike_93 (Nat.le_of_ble_eq_true rfl) (Nat.le_of_ble_eq_true rfl) ⟨by unfold spSpike; rw [← hra, ← hrb, ← hrc]; unfold bI; split <;> omega, rfl, rfl⟩
              · refine z_iconst C dX7_spike_88 ?_
                refine z_goto C 93 dX7_spike_89 (by decide) ?_
                exact z_zreturn C (by first | omega | (unfold bI; split <;> omega)) dX7_spike_93 (Nat.le_of_ble_eq_true rfl) (Nat.le_of_ble_eq_true rfl) ⟨by unfold spSpike; rw [← hra, ← hrb, ← hrc]; unfold bI; split <;> omega, rfl, rfl⟩
      · refine z_iconst C dX7_spike_52 ?_
        exact z_zreturn C (by first | omega | (unfold bI; split <;> omega)) dX7_spike_53 (Nat.le_of_ble_eq_true rfl) (Nat.le_of_ble_eq_true rfl) ⟨by unfold spSpike; rw [← hra, ← hrb, ← hrc]; unfold bI; split <;> omega, rfl, rfl⟩

set_option maxRecDepth 100000 in
set_option maxHeartbeats 200000 in
theorem c_X7_isSpike {la : Launch} {G : zG} {X : (Nat → Prop) → State → Prop} (hX : zX X) {L : List Nat} {f : Nat → va_E} {o : Nat} {ad : Nat → Nat} {μ : zMu} {t : Int} {u v : Int → Int} (hM : MR G L f o ad μ t u v) (hI : MI μ) (l k s : Int) (hl : zR l) (hk : zR k) (hs : zR s) : zM la G X yX7_isSpike (.code yX7_isSpike cX7_isSpike 4 (some .boolean) :: zT) 7 0 0 [.ref o, .int (iI l), .int (iI k), .int (iI s)] L f zeI (fun z L' f' => L = L' ∧ ∃ t' μ' u' v', MR G L f' o ad μ' t' u' v' ∧ o_isSpike μ l k s = (t', if t' = 0 then z else 0, μ')) := by
  refine zM_intro hX (by decide) (Nat.le_of_ble_eq_true rfl) (fun pZ eZ sZ mZ aZ bZ hZ cZ AZ C hini => ?_)
  change ZW G pZ la eZ (zRm 7 0 0) sZ mZ aZ bZ hZ cZ AZ 4 0 0 _ L f 0 [(0, .ref o), (1, .int (iI l)), (2, .int (iI k)), (3, .int (iI s))] []
  have hn9 := hI.n
  have hNO : zNO = -2147483648 := rfl
  
  refine z_aload_n C 0 dX7_isSpike_0 rfl ?_
  refine z_iload_n C 1 dX7_isSpike_1 rfl ?_
  refine z_iload_n C 2 dX7_isSpike_2 rfl ?_
  refine z_iload_n C 3 dX7_isSpike_3 rfl ?_
  refine z_cV (As := [.int (iI l), .int (iI k), .int (iI s)]) C zc_X7_found (c_X7_found hX hM hI l k s (by omega) (by omega) (by omega)) zl_7_88 (Nat.le_of_ble_eq_true rfl) (Nat.le_of_ble_eq_true rfl) (Nat.le_of_ble_eq_true rfl) (hM.1.1) (hM.1.2) rfl rfl rfl rfl (Nat.le_of_ble_eq_true rfl) dX7_isSpike_4 (fun pf L4 f5 hz6 => ?_)
  obtain ⟨rfl, t2, hM1, he3⟩ := hz6
  have hzr : -1 ≤ pf ∧ pf < 2240 := by
    rcases he3 with q | q | q
    · omega
    · obtain ⟨q1, ⟨q2, q3, q4⟩, q5, q6⟩ := q
      have := spSize_rng hI.J (l := l) (by omega)
      omega
    · omega
  change ZW G pZ la eZ (zRm 7 0 0) sZ mZ aZ bZ hZ cZ AZ 4 0 0 _ L f5 7 [(0, .ref o), (1, .int (iI l)), (2, .int (iI k)), (3, .int (iI s))] [.int (iI pf)]
  have hfd : ¬ spLine μ l ∧ t2 = 1 ∧ pf = -1 ∨ spLine μ l ∧ spOk μ l k s ∧ t2 = 0 ∧ pf = 7 * (20 * l + k) + s + 3 ∨ spLine μ l ∧ ¬ spOk μ l k s ∧ t2 = 2 ∧ pf = -1 := by assumption
  refine z_if_lt C 24 dX7_isSpike_7 (by decide) (by omega) (fun h7 => ?_) (fun h7 => ?_)
  · refine z_iconst C dX7_isSpike_24 ?_
    exact z_zreturn C (by first | omega | (unfold bI; split <;> omega)) dX7_isSpike_25 (Nat.le_of_ble_eq_true rfl) (Nat.le_of_ble_eq_true rfl) ⟨rfl, _, _, _, _, hM1, by unfold o_isSpike; rcases hfd with q | q | q; (rw [if_neg q.1]; first | (exfalso; omega) | (refine Prod.ext ?_ (Prod.ext ?_ ?_) <;> first | rfl | omega | (dsimp only; omega) | (dsimp only; split <;> omega))); (obtain ⟨q1, q2, q3, q4⟩ := q; first | (exfalso; omega) | (rw [if_pos q1, if_pos q2]; first | (rw [bI_1 (by assumption)]; (refine Prod.ext ?_ (Prod.ext ?_ ?_) <;> first | rfl | omega | (dsimp only; omega) | (dsimp only; split <;> omega))) | (rw [bI_0 (by assumption)]; (refine Prod.ext ?_ (Prod.ext ?_ ?_) <;> first | rfl | omega | (dsimp only; omega) | (dsimp only; split <;> omega))))); (obtain ⟨q1, q2, q3, q4⟩ := q; rw [if_pos q1, if_neg q2]; first | (exfalso; omega) | (refine Prod.ext ?_ (Prod.ext ?_ ?_) <;> first | rfl | omega | (dsimp only; omega) | (dsimp only; split <;> omega)))⟩
  · have hsz := spSize_rng hI.J (l := l) (by omega)
    have hok : spOk μ l k s := by
      rcases hfd with q | q | q
      · omega
      · exact q.2.1
      · omega
    obtain ⟨k1, k2, k3⟩ := id hok
    refine z_aload_n C 0 dX7_isSpike_10 rfl ?_
    refine z_iload_n C 1 dX7_isSpike_11 rfl ?_
    refine z_iload_n C 2 dX7_isSpike_12 rfl ?_
    refine z_iload_n C 3 dX7_isSpike_13 rfl ?_
    refine z_cV (As := [.int (iI l), .int (iI k), .int (iI s)]) C zc_X7_spike (c_X7_spike hX hM1 hI l k s (by omega) (by omega) (by omega)) zl_7_77 (Nat.le_of_ble_eq_true rfl) (Nat.le_of_ble_eq_true rfl) (Nat.le_of_ble_eq_true rfl) (hM1.1.1) (hM1.1.2) rfl rfl rfl rfl (Nat.le_of_ble_eq_true rfl) dX7_isSpike_14 (fun z7 L8 f9 hz10 => ?_)
    obtain ⟨hz10, rfl, rfl⟩ := hz10
    subst hz10
    change ZW G pZ la eZ (zRm 7 0 0) sZ mZ aZ bZ hZ cZ AZ 4 0 0 _ L f5 17 [(0, .ref o), (1, .int (iI l)), (2, .int (iI k)), (3, .int (iI s))] [.int (iI (bI (spSpike μ l k s)))]
    refine z_if_eq_b C 24 dX7_isSpike_17 (by decide) (fun h17 => ?_) (fun h17 => ?_)
    · refine z_iconst C dX7_isSpike_24 ?_
      exact z_zreturn C (by first | omega | (unfold bI; split <;> omega)) dX7_isSpike_25 (Nat.le_of_ble_eq_true rfl) (Nat.le_of_ble_eq_true rfl) ⟨rfl, _, _, _, _, hM1, by unfold o_isSpike; rcases hfd with q | q | q; (rw [if_neg q.1]; first | (exfalso; omega) | (refine Prod.ext ?_ (Prod.ext ?_ ?_) <;> first | rfl | omega | (dsimp only; omega) | (dsimp only; split <;> omega))); (obtain ⟨q1, q2, q3, q4⟩ := q; first | (exfalso; omega) | (rw [if_pos q1, if_pos q2]; first | (rw [bI_1 (by assumption)]; (refine Prod.ext ?_ (Prod.ext ?_ ?_) <;> first | rfl | omega | (dsimp only; omega) | (dsimp only; split <;> omega))) | (rw [bI_0 (by assumption)]; (refine Prod.ext ?_ (Prod.ext ?_ ?_) <;> first | rfl | omega | (dsimp only; omega) | (dsimp only; split <;> omega))))); (obtain ⟨q1, q2, q3, q4⟩ := q; rw [if_pos q1, if_neg q2]; first | (exfalso; omega) | (refine Prod.ext ?_ (Prod.ext ?_ ?_) <;> first | rfl | omega | (dsimp only; omega) | (dsimp only; split <;> omega)))⟩
    · refine z_iconst C dX7_isSpike_20 ?_
      refine z_goto C 25 dX7_isSpike_21 (by decide) ?_
      exact z_zreturn C (by first | omega | (unfold bI; split <;> omega)) dX7_isSpike_25 (Nat.le_of_ble_eq_true rfl) (Nat.le_of_ble_eq_true rfl) ⟨rfl, _, _, _, _, hM1, by unfold o_isSpike; rcases hfd with q | q | q; (rw [if_neg q.1]; first | (exfalso; omega) | (refine Prod.ext ?_ (Prod.ext ?_ ?_) <;> first | rfl | omega | (dsimp only; omega) | (dsimp only; split <;> omega))); (obtain ⟨q1, q2, q3, q4⟩ := q; first | (exfalso; omega) | (rw [if_pos q1, if_pos q2]; first | (rw [bI_1 (by assumption)]; (refine Prod.ext ?_ (Prod.ext ?_ ?_) <;> first | rfl | omega | (dsimp only; omega) | (dsimp only; split <;> omega))) | (rw [bI_0 (by assumption)]; (refine Prod.ext ?_ (Prod.ext ?_ ?_) <;> first | rfl | omega | (dsimp only; omega) | (dsimp only; split <;> omega))))); (obtain ⟨q1, q2, q3, q4⟩ := q; rw [if_pos q1, if_neg q2]; first | (exfalso; omega) | (refine Prod.ext ?_ (Prod.ext ?_ ?_) <;> first | rfl | omega | (dsimp only; omega) | (dsimp only; split <;> omega)))⟩

set_option maxRecDepth 100000 in
set_option maxHeartbeats 200000 in
theorem c_X7_lostOf {la : Launch} {G : zG} {X : (Nat → Prop) → State → Prop} (hX : zX X) {L : List Nat} {f : Nat → va_E} {o : Nat} {ad : Nat → Nat} {μ : zMu} {t : Int} {u v : Int → Int} (hM : MR G L f o ad μ t u v) (hI : MI μ) (l : Int) (hl : 0 ≤ l ∧ l < 16) : zM la G X yX7_lostOf (.code yX7_lostOf cX7_lostOf 5 (some .int) :: zT) 6 0 0 [.ref o, .int (iI l)] L f zeI (zRd L f (fun z => z = spLost μ l)) := by
  refine zM_intro hX (by decide) (Nat.le_of_ble_eq_true rfl) (fun pZ eZ sZ mZ aZ bZ hZ cZ AZ C hini => ?_)
  change ZW G pZ la eZ (zRm 6 0 0) sZ mZ aZ bZ hZ cZ AZ 5 0 0 _ L f 0 [(0, .ref o), (1, .int (iI l))] []
  have hn9 := hI.n
  have hNO : zNO = -2147483648 := rfl
  have hsz := spSize_rng hI.J hl
  refine z_iconst C dX7_lostOf_0 ?_
  refine z_istore_n (ls' := [(2, .int (iI 0)), (0, .ref o), (1, .int (iI l))]) C dX7_lostOf_1 (Nat.le_of_ble_eq_true rfl) rfl ?_
  refine z_iconst C dX7_lostOf_2 ?_
  refine z_istore_n (ls' := [(3, .int (iI 0)), (2, .int (iI 0)), (0, .ref o), (1, .int (iI l))]) C dX7_lostOf_3 (Nat.le_of_ble_eq_true rfl) rfl ?_
  have key4 : ∀ (n4 : Nat) (m : Int) (k : Int) , (0 ≤ k ∧ k ≤ spSize μ l ∧ m = zsum (fun k => zsum (spLst μ l k) 7) k.toNat) → spSize μ l - k < (n4 : Int) → ZW G pZ la eZ (zRm 6 0 0) sZ mZ aZ bZ hZ cZ AZ 5 0 0 (MQ bZ (zQ G zeI (zRd L f (fun z => z = spLost μ l)) AZ) aZ sZ 0 0 AZ) L f 4 [(0, .ref o), (1, .int (iI l)), (2, .int (iI m)), (3, .int (iI k))] [] := by
    intro n4
    induction n4 with
    | zero => intro m k  hi4 hn4; exfalso; omega
    | succ n4 ih4 =>
      intro m k  hi4 hn4
      obtain ⟨hk0, hk1, hm⟩ := hi4
      refine z_iload_n C 3 dX7_lostOf_4 rfl ?_
      refine z_aload_n C 0 dX7_lostOf_5 rfl ?_
      refine z_iload_n C 1 dX7_lostOf_6 rfl ?_
      refine z_cV (As := [.int (iI l)]) C zc_X7_size (c_X7_size hX hM hI.J l (by omega)) zl_7_22 (Nat.le_of_ble_eq_true rfl) (Nat.le_of_ble_eq_true rfl) (Nat.le_of_ble_eq_true rfl) (hM.1.1) (hM.1.2) rfl rfl rfl rfl (Nat.le_of_ble_eq_true rfl) dX7_lostOf_7 (fun z2 L3 f4 hz5 => ?_)
      obtain ⟨hz5, rfl, rfl⟩ := hz5
      subst hz5
      have hr1 := spSize_rng hI.J (l := l) (by omega)
      change ZW G pZ la eZ (zRm 6 0 0) sZ mZ aZ bZ hZ cZ AZ 5 0 0 _ L f 10 [(0, .ref o), (1, .int (iI l)), (2, .int (iI m)), (3, .int (iI k))] [.int (iI (spSize μ l)), .int (iI k)]
      refine z_icmp_ge C 74 dX7_lostOf_10 (by decide) (by omega) (by omega) (fun h10 => ?_) (fun h10 => ?_)
      · refine z_iload_n C 2 dX7_lostOf_74 rfl ?_
        exact z_ireturn C dX7_lostOf_75 (Nat.le_of_ble_eq_true rfl) (Nat.le_of_ble_eq_true rfl) ⟨by rw [hm]; unfold spLost; congr 1; omega, rfl, rfl⟩
      · refine z_bipush C dX7_lostOf_13 (by decide) ?_
        refine z_istore (ls' := [(4, .int (iI (-3))), (0, .ref o), (1, .int (iI l)), (2, .int (iI m)), (3, .int (iI k))]) C dX7_lostOf_15 (Nat.le_of_ble_eq_true rfl) rfl ?_
        have key17 : ∀ (n17 : Nat) (m2 : Int) (s : Int) , (-3 ≤ s ∧ s ≤ 4 ∧ m2 = zsum (fun k => zsum (spLst μ l k) 7) k.toNat + zsum (spLst μ l k) (s + 3).toNat) → 4 - s < (n17 : Int) → ZW G pZ la eZ (zRm 6 0 0) sZ mZ aZ bZ hZ cZ AZ 5 0 0 (MQ bZ (zQ G zeI (zRd L f (fun z => z = spLost μ l)) AZ) aZ sZ 0 0 AZ) L f 17 [(0, .ref o), (1, .int (iI l)), (2, .int (iI m2)), (3, .int (iI k)), (4, .int (iI s))] [] := by
          intro n17
          induction n17 with
          | zero => intro m2 s  hi17 hn17; exfalso; omega
          | succ n17 ih17 =>
            intro m2 s  hi17 hn17
            obtain ⟨hs0, hs1, hm2⟩ := hi17
            refine z_iload C 4 dX7_lostOf_17 rfl ?_
            refine z_iconst C dX7_lostOf_19 ?_
            refine z_icmp_gt C 68 dX7_lostOf_20 (by decide) (by omega) (by omega) (fun h20 => ?_) (fun h20 => ?_)
            · refine z_iinc (ls' := [(3, .int (iI (k + 1))), (0, .ref o), (1, .int (iI l)), (2, .int (iI m2)), (4, .int (iI s))]) C 3 dX7_lostOf_68 rfl (Nat.le_of_ble_eq_true rfl) rfl ?_
              refine z_goto C 4 dX7_lostOf_71 (by decide) ?_
              refine z_perm [1, 2, 3, 0] rfl ?_
              exact ih4 _ _  ⟨by omega, by omega, by rw [zsum_s _ hk0, hm2, show (s + 3).toNat = 7 by omega]⟩ (by omega)
            · have rg1 := spLsts_rng μ l k.toNat
              have rg2 := spLst_rng μ l k (s + 3).toNat
              refine z_iload_n C 2 dX7_lostOf_23 rfl ?_
              refine z_aload_n C 0 dX7_lostOf_24 rfl ?_
              refine z_getf C 18 zin_X7 (hM.1.1) (hM.1.2) rfl (Nat.le_of_ble_eq_true rfl) zl_6_116 rfl rfl dX7_lostOf_25 ?_
              refine z_aload_n C 0 dX7_lostOf_28 rfl ?_
              refine z_iload_n C 1 dX7_lostOf_29 rfl ?_
              refine z_iload_n C 3 dX7_lostOf_30 rfl ?_
              refine z_iload C 4 dX7_lostOf_31 rfl ?_
              refine z_cV (As := [.int (iI l), .int (iI k), .int (iI s)]) C zc_X7_place (c_X7_place hX hM l k s) zl_7_30 (Nat.le_of_ble_eq_true rfl) (Nat.le_of_ble_eq_true rfl) (Nat.le_of_ble_eq_true rfl) (hM.1.1) (hM.1.2) rfl rfl rfl rfl (Nat.le_of_ble_eq_true rfl) dX7_lostOf_33 (fun z6 L7 f8 hz9 => ?_)
              obtain ⟨hz9, rfl, rfl⟩ := hz9
              subst hz9
              change ZW G pZ la eZ (zRm 6 0 0) sZ mZ aZ bZ hZ cZ AZ 5 0 0 _ L f 36 [(0, .ref o), (1, .int (iI l)), (2, .int (iI m2)), (3, .int (iI k)), (4, .int (iI s))] [.int (iI (7 * (20 * l + k) + s + 3)), .ref (ad 18), .int (iI m2)]
              refine z_iald C (MR_a18 hM) (by omega) (by omega) (by omega) dX7_lostOf_36 ?_
              have hb10 := hI.b18 (7 * (20 * l + k) + s + 3) (by omega) (by omega)
              refine z_ldc (n := (-2147483648)) C zl_7_2 rfl dX7_lostOf_37 ?_
              refine z_icmp_eq C 59 dX7_lostOf_39 (by decide) (by omega) (by omega) (fun h39 => ?_) (fun h39 => ?_)
              · refine z_iconst C dX7_lostOf_59 ?_
                refine z_iadd C dX7_lostOf_60 ?_
                refine z_nm (fun x11 hx11 => ?_)
                refine z_istore_n (ls' := [(2, .int (iI x11)), (0, .ref o), (1, .int (iI l)), (3, .int (iI k)), (4, .int (iI s))]) C dX7_lostOf_61 (Nat.le_of_ble_eq_true rfl) rfl ?_
                refine z_iinc (ls' := [(4, .int (iI (s + 1))), (2, .int (iI x11)), (0, .ref o), (1, .int (iI l)), (3, .int (iI k))]) C 4 dX7_lostOf_62 rfl (Nat.le_of_ble_eq_true rfl) rfl ?_
                refine z_goto C 17 dX7_lostOf_65 (by decide) ?_
                refine z_perm [2, 3, 1, 4, 0] rfl ?_
                exact ih17 _ _  ⟨by omega, by omega, by rw [show s + 1 + 3 = s + 3 + 1 by omega, zsum_s _ (by omega)]; have e9 : spLst μ l k (s + 3) = bI (spHas μ l k s ∧ spRed μ l k s = zNO) := (by unfold spLst; rw [show s + 3 - 3 = s by omega]); first | (rw [bI_1 (by assumption)] at e9; omega) | (rw [bI_0 (by assumption)] at e9; omega) | (rw [bI_1 (by refine ⟨by omega, by omega⟩)] at e9; omega) | (rw [bI_0 (by intro z; omega)] at e9; omega)⟩ (by omega)
              · refine z_aload_n C 0 dX7_lostOf_42 rfl ?_
                refine z_iload_n C 1 dX7_lostOf_43 rfl ?_
                refine z_iload_n C 3 dX7_lostOf_44 rfl ?_
                refine z_iload C 4 dX7_lostOf_45 rfl ?_
                refine z_cV (As := [.int (iI l), .int (iI k), .int (iI s)]) C zc_X7_reduces (c_X7_reduces hX hM hI l k s (by omega) (by omega) (by omega)) zl_7_73 (Nat.le_of_ble_eq_true rfl) (Nat.le_of_ble_eq_true rfl) (Nat.le_of_ble_eq_true rfl) (hM.1.1) (hM.1.2) rfl rfl rfl rfl (Nat.le_of_ble_eq_true rfl) dX7_lostOf_47 (fun z13 L14 f15 hz16 => ?_)
                obtain ⟨hz16, rfl, rfl⟩ := hz16
                subst hz16
                have hr12 := spRed_rng hI (l := l) k (s := s) (by omega) (by omega)
                change ZW G pZ la eZ (zRm 6 0 0) sZ mZ aZ bZ hZ cZ AZ 5 0 0 _ L f 50 [(0, .ref o), (1, .int (iI l)), (2, .int (iI m2)), (3, .int (iI k)), (4, .int (iI s))] [.int (iI (spRed μ l k s)), .int (iI m2)]
                refine z_ldc (n := (-2147483648)) C zl_7_2 rfl dX7_lostOf_50 ?_
                refine z_icmp_ne C 59 dX7_lostOf_52 (by decide) (by omega) (by omega) (fun h52 => ?_) (fun h52 => ?_)
                · refine z_iconst C dX7_lostOf_59 ?_
                  refine z_iadd C dX7_lostOf_60 ?_
                  refine z_nm (fun x17 hx17 => ?_)
                  refine z_istore_n (ls' := [(2, .int (iI x17)), (0, .ref o), (1, .int (iI l)), (3, .int (iI k)), (4, .int (iI s))]) C dX7_lostOf_61 (Nat.le_of_ble_eq_true rfl) rfl ?_
                  refine z_iinc (ls' := [(4, .int (iI (s + 1))), (2, .int (iI x17)), (0, .ref o), (1, .int (iI l)), (3, .int (iI k))]) C 4 dX7_lostOf_62 rfl (Nat.le_of_ble_eq_true rfl) rfl ?_
                  refine z_goto C 17 dX7_lostOf_65 (by decide) ?_
                  refine z_perm [2, 3, 1, 4, 0] rfl ?_
                  exact ih17 _ _  ⟨by omega, by omega, by rw [show s + 1 + 3 = s + 3 + 1 by omega, zsum_s _ (by omega)]; have e9 : spLst μ l k (s + 3) = bI (spHas μ l k s ∧ spRed μ l k s = zNO) := (by unfold spLst; rw [show s + 3 - 3 = s by omega]); first | (rw [bI_1 (by assumption)] at e9; omega) | (rw [bI_0 (by assumption)] at e9; omega) | (rw [bI_1 (by refine ⟨by omega, by omega⟩)] at e9; omega) | (rw [bI_0 (by intro z; omega)] at e9; omega)⟩ (by omega)
                · refine z_iconst C dX7_lostOf_55 ?_
                  refine z_goto C 60 dX7_lostOf_56 (by decide) ?_
                  refine z_iadd C dX7_lostOf_60 ?_
                  refine z_nm (fun x18 hx18 => ?_)
                  refine z_istore_n (ls' := [(2, .int (iI x18)), (0, .ref o), (1, .int (iI l)), (3, .int (iI k)), (4, .int (iI s))]) C dX7_lostOf_61 (Nat.le_of_ble_eq_true rfl) rfl ?_
                  refine z_iinc (ls' := [(4, .int (iI (s + 1))), (2, .int (iI x18)), (0, .ref o), (1, .int (iI l)), (3, .int (iI k))]) C 4 dX7_lostOf_62 rfl (Nat.le_of_ble_eq_true rfl) rfl ?_
                  refine z_goto C 17 dX7_lostOf_65 (by decide) ?_
                  refine z_perm [2, 3, 1, 4, 0] rfl ?_
                  exact ih17 _ _  ⟨by omega, by omega, by rw [show s + 1 + 3 = s + 3 + 1 by omega, zsum_s _ (by omega)]; have e9 : spLst μ l k (s + 3) = bI (spHas μ l k s ∧ spRed μ l k s = zNO) := (by unfold spLst; rw [show s + 3 - 3 = s by omega]); first | (rw [bI_1 (by assumption)] at e9; omega) | (rw [bI_0 (by assumption)] at e9; omega) | (rw [bI_1 (by refine ⟨by omega, by omega⟩)] at e9; omega) | (rw [bI_0 (by intro z; omega)] at e9; omega)⟩ (by omega)
        refine z_perm [1, 2, 3, 4, 0] rfl ?_
        exact key17 2000 _ _  ⟨by omega, by omega, by rw [hm]; exact (Int.add_zero _).symm⟩ (by omega)
  refine z_perm [2, 3, 1, 0] rfl ?_
  exact key4 2000 _ _  ⟨by omega, by omega, rfl⟩ (by omega)

set_option maxRecDepth 100000 in
set_option maxHeartbeats 200000 in
theorem c_X7_spikes {la : Launch} {G : zG} {X : (Nat → Prop) → State → Prop} (hX : zX X) {L : List Nat} {f : Nat → va_E} {o : Nat} {ad : Nat → Nat} {μ : zMu} {t : Int} {u v : Int → Int} (hM : MR G L f o ad μ t u v) (hI : MI μ) (l : Int) (hl : zR l) : zM la G X yX7_spikes (.code yX7_spikes cX7_spikes 5 (some .int) :: zT) 7 0 0 [.ref o, .int (iI l)] L f zeI (fun z L' f' => L = L' ∧ ∃ t' μ' u' v', MR G L f' o ad μ' t' u' v' ∧ o_spikes μ l = (t', if t' = 0 then z else 0, μ')) := by
  refine zM_intro hX (by decide) (Nat.le_of_ble_eq_true rfl) (fun pZ eZ sZ mZ aZ bZ hZ cZ AZ C hini => ?_)
  change ZW G pZ la eZ (zRm 7 0 0) sZ mZ aZ bZ hZ cZ AZ 5 0 0 _ L f 0 [(0, .ref o), (1, .int (iI l))] []
  have hn9 := hI.n
  have hNO : zNO = -2147483648 := rfl
  
  refine z_aload_n C 0 dX7_spikes_0 rfl ?_
  refine z_iload_n C 1 dX7_spikes_1 rfl ?_
  refine z_cV (As := [.int (iI l)]) C zc_X7_noLine (c_X7_noLine hX hM hI l (by omega) ) zl_7_61 (Nat.le_of_ble_eq_true rfl) (Nat.le_of_ble_eq_true rfl) (Nat.le_of_ble_eq_true rfl) (hM.1.1) (hM.1.2) rfl rfl rfl rfl (Nat.le_of_ble_eq_true rfl) dX7_spikes_2 (fun z4 L5 f6 hz7 => ?_)
  obtain ⟨rfl, t2, hM1, he3⟩ := hz7
  change ZW G pZ la eZ (zRm 7 0 0) sZ mZ aZ bZ hZ cZ AZ 5 0 0 _ L f6 5 [(0, .ref o), (1, .int (iI l))] [.int (iI z4)]
  refine z_if_eq C 10 dX7_spikes_5 (by decide) (by omega) (fun h5 => ?_) (fun h5 => ?_)
  · refine z_iconst C dX7_spikes_10 ?_
    refine z_istore_n (ls' := [(2, .int (iI 0)), (0, .ref o), (1, .int (iI l))]) C dX7_spikes_11 (Nat.le_of_ble_eq_true rfl) rfl ?_
    have hsz := spSize_rng hI.J (l := l) (by omega)
    refine z_iconst C dX7_spikes_12 ?_
    refine z_istore_n (ls' := [(3, .int (iI 0)), (2, .int (iI 0)), (0, .ref o), (1, .int (iI l))]) C dX7_spikes_13 (Nat.le_of_ble_eq_true rfl) rfl ?_
    have key14 : ∀ (n14 : Nat) (m : Int) (k : Int) , (0 ≤ k ∧ k ≤ spSize μ l ∧ m = zsum (fun k => zsum (spSpk μ l k) 7) k.toNat) → spSize μ l - k < (n14 : Int) → ZW G pZ la eZ (zRm 7 0 0) sZ mZ aZ bZ hZ cZ AZ 5 0 0 (MQ bZ (zQ G zeI (fun z L' f' => L = L' ∧ ∃ t' μ' u' v', MR G L f' o ad μ' t' u' v' ∧ o_spikes μ l = (t', if t' = 0 then z else 0, μ')) AZ) aZ sZ 0 0 AZ) L f6 14 [(0, .ref o), (1, .int (iI l)), (2, .int (iI m)), (3, .int (iI k))] [] := by
      intro n14
      induction n14 with
      | zero => intro m k  hi14 hn14; exfalso; omega
      | succ n14 ih14 =>
        intro m k  hi14 hn14
        obtain ⟨hk0, hk1, hm⟩ := hi14
        refine z_iload_n C 3 dX7_spikes_14 rfl ?_
        refine z_aload_n C 0 dX7_spikes_15 rfl ?_
        refine z_iload_n C 1 dX7_spikes_16 rfl ?_
        refine z_cV (As := [.int (iI l)]) C zc_X7_size (c_X7_size hX hM1 hI.J l (by omega)) zl_7_22 (Nat.le_of_ble_eq_true rfl) (Nat.le_of_ble_eq_true rfl) (Nat.le_of_ble_eq_true rfl) (hM1.1.1) (hM1.1.2) rfl rfl rfl rfl (Nat.le_of_ble_eq_true rfl) dX7_spikes_17 (fun z9 L10 f11 hz12 => ?_)
        obtain ⟨hz12, rfl, rfl⟩ := hz12
        subst hz12
        have hr8 := spSize_rng hI.J (l := l) (by omega)
        change ZW G pZ la eZ (zRm 7 0 0) sZ mZ aZ bZ hZ cZ AZ 5 0 0 _ L f6 20 [(0, .ref o), (1, .int (iI l)), (2, .int (iI m)), (3, .int (iI k))] [.int (iI (spSize μ l)), .int (iI k)]
        refine z_icmp_ge C 64 dX7_spikes_20 (by decide) (by omega) (by omega) (fun h20 => ?_) (fun h20 => ?_)
        · refine z_iload_n C 2 dX7_spikes_64 rfl ?_
          exact z_ireturn C dX7_spikes_65 (Nat.le_of_ble_eq_true rfl) (Nat.le_of_ble_eq_true rfl) ⟨rfl, _, _, _, _, hM1, by unfold o_spikes; (rw [if_pos (by omega), show spSpikes μ l = m by rw [hm]; unfold spSpikes; congr 1; omega]) <;> (refine Prod.ext ?_ (Prod.ext ?_ ?_) <;> first | rfl | omega | (dsimp only; omega) | (dsimp only; split <;> omega))⟩
        · refine z_bipush C dX7_spikes_23 (by decide) ?_
          refine z_istore (ls' := [(4, .int (iI (-3))), (0, .ref o), (1, .int (iI l)), (2, .int (iI m)), (3, .int (iI k))]) C dX7_spikes_25 (Nat.le_of_ble_eq_true rfl) rfl ?_
          have key27 : ∀ (n27 : Nat) (m2 : Int) (s : Int) , (-3 ≤ s ∧ s ≤ 4 ∧ m2 = zsum (fun k => zsum (spSpk μ l k) 7) k.toNat + zsum (spSpk μ l k) (s + 3).toNat) → 4 - s < (n27 : Int) → ZW G pZ la eZ (zRm 7 0 0) sZ mZ aZ bZ hZ cZ AZ 5 0 0 (MQ bZ (zQ G zeI (fun z L' f' => L = L' ∧ ∃ t' μ' u' v', MR G L f' o ad μ' t' u' v' ∧ o_spikes μ l = (t', if t' = 0 then z else 0, μ')) AZ) aZ sZ 0 0 AZ) L f6 27 [(0, .ref o), (1, .int (iI l)), (2, .int (iI m2)), (3, .int (iI k)), (4, .int (iI s))] [] := by
            intro n27
            induction n27 with
            | zero => intro m2 s  hi27 hn27; exfalso; omega
            | succ n27 ih27 =>
              intro m2 s  hi27 hn27
              obtain ⟨hs0, hs1, hm2⟩ := hi27
              refine z_iload C 4 dX7_spikes_27 rfl ?_
              refine z_iconst C dX7_spikes_29 ?_
              refine z_icmp_gt C 58 dX7_spikes_30 (by decide) (by omega) (by omega) (fun h30 => ?_) (fun h30 => ?_)
              · refine z_iinc (ls' := [(3, .int (iI (k + 1))), (0, .ref o), (1, .int (iI l)), (2, .int (iI m2)), (4, .int (iI s))]) C 3 dX7_spikes_58 rfl (Nat.le_of_ble_eq_true rfl) rfl ?_
                refine z_goto C 14 dX7_spikes_61 (by decide) ?_
                refine z_perm [1, 2, 3, 0] rfl ?_
                exact ih14 _ _  ⟨by omega, by omega, by rw [zsum_s _ hk0, hm2, show (s + 3).toNat = 7 by omega]⟩ (by omega)
              · have rg1 := spSpks_rng μ l k.toNat
                have rg2 := spSpk_rng μ l k (s + 3).toNat
                refine z_iload_n C 2 dX7_spikes_33 rfl ?_
                refine z_aload_n C 0 dX7_spikes_34 rfl ?_
                refine z_iload_n C 1 dX7_spikes_35 rfl ?_
                refine z_iload_n C 3 dX7_spikes_36 rfl ?_
                refine z_iload C 4 dX7_spikes_37 rfl ?_
                refine z_cV (As := [.int (iI l), .int (iI k), .int (iI s)]) C zc_X7_spike (c_X7_spike hX hM1 hI l k s (by omega) (by omega) (by omega)) zl_7_77 (Nat.le_of_ble_eq_true rfl) (Nat.le_of_ble_eq_true rfl) (Nat.le_of_ble_eq_true rfl) (hM1.1.1) (hM1.1.2) rfl rfl rfl rfl (Nat.le_of_ble_eq_true rfl) dX7_spikes_39 (fun z13 L14 f15 hz16 => ?_)
                obtain ⟨hz16, rfl, rfl⟩ := hz16
                subst hz16
                change ZW G pZ la eZ (zRm 7 0 0) sZ mZ aZ bZ hZ cZ AZ 5 0 0 _ L f6 42 [(0, .ref o), (1, .int (iI l)), (2, .int (iI m2)), (3, .int (iI k)), (4, .int (iI s))] [.int (iI (bI (spSpike μ l k s))), .int (iI m2)]
                refine z_if_eq_b C 49 dX7_spikes_42 (by decide) (fun h42 => ?_) (fun h42 => ?_)
                · refine z_iconst C dX7_spikes_49 ?_
                  refine z_iadd C dX7_spikes_50 ?_
                  refine z_nm (fun x17 hx17 => ?_)
                  refine z_istore_n (ls' := [(2, .int (iI x17)), (0, .ref o), (1, .int (iI l)), (3, .int (iI k)), (4, .int (iI s))]) C dX7_spikes_51 (Nat.le_of_ble_eq_true rfl) rfl ?_
                  refine z_iinc (ls' := [(4, .int (iI (s + 1))), (2, .int (iI x17)), (0, .ref o), (1, .int (iI l)), (3, .int (iI k))]) C 4 dX7_spikes_52 rfl (Nat.le_of_ble_eq_true rfl) rfl ?_
                  refine z_goto C 27 dX7_spikes_55 (by decide) ?_
                  refine z_perm [2, 3, 1, 4, 0] rfl ?_
                  exact ih27 _ _  ⟨by omega, by omega, by rw [show s + 1 + 3 = s + 3 + 1 by omega, zsum_s _ (by omega)]; have e9 : spSpk μ l k (s + 3) = bI (spSpike μ l k s) := (by unfold spSpk; rw [show s + 3 - 3 = s by omega]); first | (rw [bI_1 (by assumption)] at e9; omega) | (rw [bI_0 (by assumption)] at e9; omega) | (rw [bI_1 (by refine ⟨by omega, by omega⟩)] at e9; omega) | (rw [bI_0 (by intro z; omega)] at e9; omega)⟩ (by omega)
                · refine z_iconst C dX7_spikes_45 ?_
                  refine z_goto C 50 dX7_spikes_46 (by decide) ?_
                  refine z_iadd C dX7_spikes_50 ?_
                  refine z_nm (fun x18 hx18 => ?_)
                  refine z_istore_n (ls' := [(2, .int (iI x18)), (0, .ref o), (1, .int (iI l)), (3, .int (iI k)), (4, .int (iI s))]) C dX7_spikes_51 (Nat.le_of_ble_eq_true rfl) rfl ?_
                  refine z_iinc (ls' := [(4, .int (iI (s + 1))), (2, .int (iI x18)), (0, .ref o), (1, .int (iI l)), (3, .int (iI k))]) C 4 dX7_spikes_52 rfl (Nat.le_of_ble_eq_true rfl) rfl ?_
                  refine z_goto C 27 dX7_spikes_55 (by decide) ?_
                  refine z_perm [2, 3, 1, 4, 0] rfl ?_
                  exact ih27 _ _  ⟨by omega, by omega, by rw [show s + 1 + 3 = s + 3 + 1 by omega, zsum_s _ (by omega)]; have e9 : spSpk μ l k (s + 3) = bI (spSpike μ l k s) := (by unfold spSpk; rw [show s + 3 - 3 = s by omega]); first | (rw [bI_1 (by assumption)] at e9; omega) | (rw [bI_0 (by assumption)] at e9; omega) | (rw [bI_1 (by refine ⟨by omega, by omega⟩)] at e9; omega) | (rw [bI_0 (by intro z; omega)] at e9; omega)⟩ (by omega)
          refine z_perm [1, 2, 3, 4, 0] rfl ?_
          exact key27 2000 _ _  ⟨by omega, by omega, by rw [hm]; exact (Int.add_zero _).symm⟩ (by omega)
    refine z_perm [2, 3, 1, 0] rfl ?_
    exact key14 2000 _ _  ⟨by omega, by omega, rfl⟩ (by omega)
  · refine z_iconst C dX7_spikes_8 ?_
    exact z_ireturn C dX7_spikes_9 (Nat.le_of_ble_eq_true rfl) (Nat.le_of_ble_eq_true rfl) ⟨rfl, _, _, _, _, hM1, by unfold o_spikes; (repeat' (first | (exfalso; omega) | split)) <;> (refine Prod.ext ?_ (Prod.ext ?_ ?_) <;> first | rfl | omega | (dsimp only; omega) | (dsimp only; split <;> omega))⟩

set_option maxRecDepth 100000 in
set_option maxHeartbeats 200000 in
theorem c_X7_lost {la : Launch} {G : zG} {X : (Nat → Prop) → State → Prop} (hX : zX X) {L : List Nat} {f : Nat → va_E} {o : Nat} {ad : Nat → Nat} {μ : zMu} {t : Int} {u v : Int → Int} (hM : MR G L f o ad μ t u v) (hI : MI μ) (l : Int) (hl : zR l) : zM la G X yX7_lost (.code yX7_lost cX7_lost 2 (some .int) :: zT) 7 0 0 [.ref o, .int (iI l)] L f zeI (fun z L' f' => L = L' ∧ ∃ t' μ' u' v', MR G L f' o ad μ' t' u' v' ∧ o_lost μ l = (t', if t' = 0 then z else 0, μ')) := by
  refine zM_intro hX (by decide) (Nat.le_of_ble_eq_true rfl) (fun pZ eZ sZ mZ aZ bZ hZ cZ AZ C hini => ?_)
  change ZW G pZ la eZ (zRm 7 0 0) sZ mZ aZ bZ hZ cZ AZ 2 0 0 _ L f 0 [(0, .ref o), (1, .int (iI l))] []
  have hn9 := hI.n
  have hNO : zNO = -2147483648 := rfl
  
  refine z_aload_n C 0 dX7_lost_0 rfl ?_
  refine z_iload_n C 1 dX7_lost_1 rfl ?_
  refine z_cV (As := [.int (iI l)]) C zc_X7_noLine (c_X7_noLine hX hM hI l (by omega) ) zl_7_61 (Nat.le_of_ble_eq_true rfl) (Nat.le_of_ble_eq_true rfl) (Nat.le_of_ble_eq_true rfl) (hM.1.1) (hM.1.2) rfl rfl rfl rfl (Nat.le_of_ble_eq_true rfl) dX7_lost_2 (fun z4 L5 f6 hz7 => ?_)
  obtain ⟨rfl, t2, hM1, he3⟩ := hz7
  change ZW G pZ la eZ (zRm 7 0 0) sZ mZ aZ bZ hZ cZ AZ 2 0 0 _ L f6 5 [(0, .ref o), (1, .int (iI l))] [.int (iI z4)]
  refine z_if_eq C 12 dX7_lost_5 (by decide) (by omega) (fun h5 => ?_) (fun h5 => ?_)
  · refine z_aload_n C 0 dX7_lost_12 rfl ?_
    refine z_iload_n C 1 dX7_lost_13 rfl ?_
    refine z_cV (As := [.int (iI l)]) C zc_X7_lostOf (c_X7_lostOf hX hM1 hI l (by omega)) zl_7_116 (Nat.le_of_ble_eq_true rfl) (Nat.le_of_ble_eq_true rfl) (Nat.le_of_ble_eq_true rfl) (hM1.1.1) (hM1.1.2) rfl rfl rfl rfl (Nat.le_of_ble_eq_true rfl) dX7_lost_14 (fun z9 L10 f11 hz12 => ?_)
    obtain ⟨hz12, rfl, rfl⟩ := hz12
    subst hz12
    have hr8 : 0 ≤ spLost μ l ∧ spLost μ l ≤ 7 * (spSize μ l).toNat := spLsts_rng μ l _
    have hr8z := spSize_rng hI.J (l := l) (by omega)
    change ZW G pZ la eZ (zRm 7 0 0) sZ mZ aZ bZ hZ cZ AZ 2 0 0 _ L f6 17 [(0, .ref o), (1, .int (iI l))] [.int (iI (spLost μ l))]
    exact z_ireturn C dX7_lost_17 (Nat.le_of_ble_eq_true rfl) (Nat.le_of_ble_eq_true rfl) ⟨rfl, _, _, _, _, hM1, by unfold o_lost; (repeat' (first | (exfalso; omega) | split)) <;> (refine Prod.ext ?_ (Prod.ext ?_ ?_) <;> first | rfl | omega | (dsimp only; omega) | (dsimp only; split <;> omega))⟩
  · refine z_iconst C dX7_lost_8 ?_
    refine z_goto C 17 dX7_lost_9 (by decide) ?_
    exact z_ireturn C dX7_lost_17 (Nat.le_of_ble_eq_true rfl) (Nat.le_of_ble_eq_true rfl) ⟨rfl, _, _, _, _, hM1, by unfold o_lost; (repeat' (first | (exfalso; omega) | split)) <;> (refine Prod.ext ?_ (Prod.ext ?_ ?_) <;> first | rfl | omega | (dsimp only; omega) | (dsimp only; split <;> omega))⟩

set_option maxRecDepth 100000 in
set_option maxHeartbeats 200000 in
theorem c_X7_soundings {la : Launch} {G : zG} {X : (Nat → Prop) → State → Prop} (hX : zX X) {L : List Nat} {f : Nat → va_E} {o : Nat} {ad : Nat → Nat} {μ : zMu} {t : Int} {u v : Int → Int} (hM : MR G L f o ad μ t u v) (hI : MI μ) (l : Int) (hl : zR l) : zM la G X yX7_soundings (.code yX7_soundings cX7_soundings 4 (some .int) :: zT) 2 0 0 [.ref o, .int (iI l)] L f zeI (fun z L' f' => L = L' ∧ ∃ t' μ' u' v', MR G L f' o ad μ' t' u' v' ∧ o_soundings μ l = (t', if t' = 0 then z else 0, μ')) := by
  refine zM_intro hX (by decide) (Nat.le_of_ble_eq_true rfl) (fun pZ eZ sZ mZ aZ bZ hZ cZ AZ C hini => ?_)
  change ZW G pZ la eZ (zRm 2 0 0) sZ mZ aZ bZ hZ cZ AZ 4 0 0 _ L f 0 [(0, .ref o), (1, .int (iI l))] []
  have hn9 := hI.n
  have hNO : zNO = -2147483648 := rfl
  
  refine z_aload_n C 0 dX7_soundings_0 rfl ?_
  refine z_iload_n C 1 dX7_soundings_1 rfl ?_
  refine z_cV (As := [.int (iI l)]) C zc_X7_noLine (c_X7_noLine hX hM hI l (by omega) ) zl_7_61 (Nat.le_of_ble_eq_true rfl) (Nat.le_of_ble_eq_true rfl) (Nat.le_of_ble_eq_true rfl) (hM.1.1) (hM.1.2) rfl rfl rfl rfl (Nat.le_of_ble_eq_true rfl) dX7_soundings_2 (fun z4 L5 f6 hz7 => ?_)
  obtain ⟨rfl, t2, hM1, he3⟩ := hz7
  change ZW G pZ la eZ (zRm 2 0 0) sZ mZ aZ bZ hZ cZ AZ 4 0 0 _ L f6 5 [(0, .ref o), (1, .int (iI l))] [.int (iI z4)]
  refine z_if_eq C 10 dX7_soundings_5 (by decide) (by omega) (fun h5 => ?_) (fun h5 => ?_)
  · refine z_iconst C dX7_soundings_10 ?_
    refine z_istore_n (ls' := [(2, .int (iI 0)), (0, .ref o), (1, .int (iI l))]) C dX7_soundings_11 (Nat.le_of_ble_eq_true rfl) rfl ?_
    refine z_aload_n C 1 dX7_soundings_12 rfl ?_
    refine z_iload_n C 2 dX7_soundings_13 rfl ?_
    refine z_iconst C dX7_soundings_14 ?_
    refine z_bipush C dX7_soundings_15 (by decide) ?_
    refine z_cV (As := [.int (iI l), .int (iI 0), .int (iI (-3))]) C zc_X7_place (c_X7_place hX hM1 l 0 (-3)) zl_7_30 (Nat.le_of_ble_eq_true rfl) (Nat.le_of_ble_eq_true rfl) (Nat.le_of_ble_eq_true rfl) (hM1.1.1) (hM1.1.2) rfl rfl rfl rfl (Nat.le_of_ble_eq_true rfl) dX7_soundings_17 (fun z8 L9 f10 hz11 => ?_)
    obtain ⟨hz11, rfl, rfl⟩ := hz11
    subst hz11
    change ZW G pZ la eZ (zRm 2 0 0) sZ mZ aZ bZ hZ cZ AZ 4 0 0 _ L f6 20 [(2, .int (iI 0)), (0, .ref o), (1, .int (iI l))] [.int (iI (7 * (20 * l + 0) + (-3) + 3))]
    refine z_istore_n (ls' := [(3, .int (iI (7 * (20 * l + 0) + (-3) + 3))), (2, .int (iI 0)), (0, .ref o), (1, .int (iI l))]) C dX7_soundings_20 (Nat.le_of_ble_eq_true rfl) rfl ?_
    have key21 : ∀ (n21 : Nat) (m : Int) (p : Int) , (140 * l ≤ p ∧ p ≤ 140 * l + 140 ∧ m = zsum (fun p => bI (μ 18 (140 * l + p) ≠ zNO)) (p - 140 * l).toNat) → 140 * l + 140 - p < (n21 : Int) → ZW G pZ la eZ (zRm 2 0 0) sZ mZ aZ bZ hZ cZ AZ 4 0 0 (MQ bZ (zQ G zeI (fun z L' f' => L = L' ∧ ∃ t' μ' u' v', MR G L f' o ad μ' t' u' v' ∧ o_soundings μ l = (t', if t' = 0 then z else 0, μ')) AZ) aZ sZ 0 0 AZ) L f6 21 [(0, .ref o), (1, .int (iI l)), (2, .int (iI m)), (3, .int (iI p))] [] := by
      intro n21
      induction n21 with
      | zero => intro m p  hi21 hn21; exfalso; omega
      | succ n21 ih21 =>
        intro m p  hi21 hn21
        obtain ⟨hp0, hp1, hm⟩ := hi21
        refine z_iload_n C 3 dX7_soundings_21 rfl ?_
        refine z_aload_n C 0 dX7_soundings_22 rfl ?_
        refine z_iload_n C 1 dX7_soundings_23 rfl ?_
        refine z_bipush C dX7_soundings_24 (by decide) ?_
        refine z_iconst C dX7_soundings_26 ?_
        refine z_cV (As := [.int (iI l), .int (iI 19), .int (iI 3)]) C zc_X7_place (c_X7_place hX hM1 l 19 3) zl_7_30 (Nat.le_of_ble_eq_true rfl) (Nat.le_of_ble_eq_true rfl) (Nat.le_of_ble_eq_true rfl) (hM1.1.1) (hM1.1.2) rfl rfl rfl rfl (Nat.le_of_ble_eq_true rfl) dX7_soundings_27 (fun z12 L13 f14 hz15 => ?_)
        obtain ⟨hz15, rfl, rfl⟩ := hz15
        subst hz15
        change ZW G pZ la eZ (zRm 2 0 0) sZ mZ aZ bZ hZ cZ AZ 4 0 0 _ L f6 30 [(0, .ref o), (1, .int (iI l)), (2, .int (iI m)), (3, .int (iI p))] [.int (iI (7 * (20 * l + 19) + 3 + 3)), .int (iI p)]
        refine z_icmp_gt C 58 dX7_soundings_30 (by decide) (by omega) (by omega) (fun h30 => ?_) (fun h30 => ?_)
        · refine z_iload_n C 2 dX7_soundings_58 rfl ?_
          exact z_ireturn C dX7_soundings_59 (Nat.le_of_ble_eq_true rfl) (Nat.le_of_ble_eq_true rfl) ⟨rfl, _, _, _, _, hM1, by unfold o_soundings; (rw [if_pos (by omega), show spCount μ l = m by rw [hm, show (p - 140 * l).toNat = 140 by omega]; rfl]) <;> (refine Prod.ext ?_ (Prod.ext ?_ ?_) <;> first | rfl | omega | (dsimp only; omega) | (dsimp only; split <;> omega))⟩
        · have rg := zsum_rng (c := 1) (by decide) (fun i => bI_rng (μ 18 (140 * l + i) ≠ zNO)) (p - 140 * l).toNat
          refine z_iload_n C 2 dX7_soundings_33 rfl ?_
          refine z_aload_n C 0 dX7_soundings_34 rfl ?_
          refine z_getf C 18 zin_X7 (hM1.1.1) (hM1.1.2) rfl (Nat.le_of_ble_eq_true rfl) zl_6_116 rfl rfl dX7_soundings_35 ?_
          refine z_iload_n C 3 dX7_soundings_38 rfl ?_
          refine z_iald C (MR_a18 hM1) (by omega) (by omega) (by omega) dX7_soundings_39 ?_
          have hb16 := hI.b18 p (by omega) (by omega)
          refine z_ldc (n := (-2147483648)) C zl_7_2 rfl dX7_soundings_40 ?_
          refine z_icmp_eq C 49 dX7_soundings_42 (by decide) (by omega) (by omega) (fun h42 => ?_) (fun h42 => ?_)
          · refine z_iconst C dX7_soundings_49 ?_
            refine z_iadd C dX7_soundings_50 ?_
            refine z_nm (fun x17 hx17 => ?_)
            refine z_istore_n (ls' := [(2, .int (iI x17)), (0, .ref o), (1, .int (iI l)), (3, .int (iI p))]) C dX7_soundings_51 (Nat.le_of_ble_eq_true rfl) rfl ?_
            refine z_iinc (ls' := [(3, .int (iI (p + 1))), (2, .int (iI x17)), (0, .ref o), (1, .int (iI l))]) C 3 dX7_soundings_52 rfl (Nat.le_of_ble_eq_true rfl) rfl ?_
            refine z_goto C 21 dX7_soundings_55 (by decide) ?_
            refine z_perm [2, 3, 1, 0] rfl ?_
            exact ih21 _ _  ⟨by omega, by omega, by rw [show p + 1 - 140 * l = p - 140 * l + 1 by omega, zsum_s _ (by omega), ← hm, show 140 * l + (p - 140 * l) = p by omega]; first | (rw [bI_1 (by omega)]; omega) | (rw [bI_0 (by omega)]; omega)⟩ (by omega)
          · refine z_iconst C dX7_soundings_45 ?_
            refine z_goto C 50 dX7_soundings_46 (by decide) ?_
            refine z_iadd C dX7_soundings_50 ?_
            refine z_nm (fun x18 hx18 => ?_)
            refine z_istore_n (ls' := [(2, .int (iI x18)), (0, .ref o), (1, .int (iI l)), (3, .int (iI p))]) C dX7_soundings_51 (Nat.le_of_ble_eq_true rfl) rfl ?_
            refine z_iinc (ls' := [(3, .int (iI (p + 1))), (2, .int (iI x18)), (0, .ref o), (1, .int (iI l))]) C 3 dX7_soundings_52 rfl (Nat.le_of_ble_eq_true rfl) rfl ?_
            refine z_goto C 21 dX7_soundings_55 (by decide) ?_
            refine z_perm [2, 3, 1, 0] rfl ?_
            exact ih21 _ _  ⟨by omega, by omega, by rw [show p + 1 - 140 * l = p - 140 * l + 1 by omega, zsum_s _ (by omega), ← hm, show 140 * l + (p - 140 * l) = p by omega]; first | (rw [bI_1 (by omega)]; omega) | (rw [bI_0 (by omega)]; omega)⟩ (by omega)
    refine z_perm [2, 3, 1, 0] rfl ?_
    exact key21 2000 _ _  ⟨by omega, by omega, by rw [show (7 * (20 * l + 0) + (-3) + 3 - 140 * l).toNat = 0 by omega]; rfl⟩ (by omega)
  · refine z_iconst C dX7_soundings_8 ?_
    exact z_ireturn C dX7_soundings_9 (Nat.le_of_ble_eq_true rfl) (Nat.le_of_ble_eq_true rfl) ⟨rfl, _, _, _, _, hM1, by unfold o_soundings; (repeat' (first | (exfalso; omega) | split)) <;> (refine Prod.ext ?_ (Prod.ext ?_ ?_) <;> first | rfl | omega | (dsimp only; omega) | (dsimp only; split <;> omega))⟩

set_option maxRecDepth 100000 in
set_option maxHeartbeats 200000 in
theorem c_X7_dayOf {la : Launch} {G : zG} {X : (Nat → Prop) → State → Prop} (hX : zX X) {L : List Nat} {f : Nat → va_E} {o : Nat} {ad : Nat → Nat} {μ : zMu} {t : Int} {u v : Int → Int} (hM : MR G L f o ad μ t u v) (hI : MI μ) (l : Int) (hl : zR l) : zM la G X yX7_dayOf (.code yX7_dayOf cX7_dayOf 2 (some .int) :: zT) 2 0 0 [.ref o, .int (iI l)] L f zeI (fun z L' f' => L = L' ∧ ∃ t' μ' u' v', MR G L f' o ad μ' t' u' v' ∧ o_dayOf μ l = (t', if t' = 0 then z else 0, μ')) := by
  refine zM_intro hX (by decide) (Nat.le_of_ble_eq_true rfl) (fun pZ eZ sZ mZ aZ bZ hZ cZ AZ C hini => ?_)
  change ZW G pZ la eZ (zRm 2 0 0) sZ mZ aZ bZ hZ cZ AZ 2 0 0 _ L f 0 [(0, .ref o), (1, .int (iI l))] []
  have hn9 := hI.n
  have hNO : zNO = -2147483648 := rfl
  
  refine z_aload_n C 0 dX7_dayOf_0 rfl ?_
  refine z_iload_n C 1 dX7_dayOf_1 rfl ?_
  refine z_cV (As := [.int (iI l)]) C zc_X7_noLine (c_X7_noLine hX hM hI l (by omega) ) zl_7_61 (Nat.le_of_ble_eq_true rfl) (Nat.le_of_ble_eq_true rfl) (Nat.le_of_ble_eq_true rfl) (hM.1.1) (hM.1.2) rfl rfl rfl rfl (Nat.le_of_ble_eq_true rfl) dX7_dayOf_2 (fun z4 L5 f6 hz7 => ?_)
  obtain ⟨rfl, t2, hM1, he3⟩ := hz7
  change ZW G pZ la eZ (zRm 2 0 0) sZ mZ aZ bZ hZ cZ AZ 2 0 0 _ L f6 5 [(0, .ref o), (1, .int (iI l))] [.int (iI z4)]
  refine z_if_eq C 12 dX7_dayOf_5 (by decide) (by omega) (fun h5 => ?_) (fun h5 => ?_)
  · refine z_aload_n C 0 dX7_dayOf_12 rfl ?_
    refine z_getf C 16 zin_X7 (hM1.1.1) (hM1.1.2) rfl (Nat.le_of_ble_eq_true rfl) zl_6_114 rfl rfl dX7_dayOf_13 ?_
    refine z_iload_n C 1 dX7_dayOf_16 rfl ?_
    refine z_iald C (MR_a16 hM1) (by omega) (by omega) (by omega) dX7_dayOf_17 ?_
    have hb8 := hI.J.b12 l (by omega) (by omega)
    exact z_ireturn C dX7_dayOf_18 (Nat.le_of_ble_eq_true rfl) (Nat.le_of_ble_eq_true rfl) ⟨rfl, _, _, _, _, hM1, by unfold o_dayOf; (repeat' (first | (exfalso; omega) | split)) <;> (refine Prod.ext ?_ (Prod.ext ?_ ?_) <;> first | rfl | omega | (dsimp only; omega) | (dsimp only; split <;> omega))⟩
  · refine z_iconst C dX7_dayOf_8 ?_
    refine z_goto C 18 dX7_dayOf_9 (by decide) ?_
    exact z_ireturn C dX7_dayOf_18 (Nat.le_of_ble_eq_true rfl) (Nat.le_of_ble_eq_true rfl) ⟨rfl, _, _, _, _, hM1, by unfold o_dayOf; (repeat' (first | (exfalso; omega) | split)) <;> (refine Prod.ext ?_ (Prod.ext ?_ ?_) <;> first | rfl | omega | (dsimp only; omega) | (dsimp only; split <;> omega))⟩
