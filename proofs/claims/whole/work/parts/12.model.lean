def o_setFloor (μ : zMu) (c r x : Int) : Int × Int × zMu := if 0 ≤ c ∧ c ≤ 19 ∧ 0 ≤ r ∧ r ≤ 11 then (if 1 ≤ x ∧ x ≤ 99 then (0, μ 4 (20 * r + c), zset μ 4 (zup (μ 4) (20 * r + c) x)) else (2, 0, μ)) else (1, 0, μ)
def o_setWater (μ : zMu) (d h x : Int) : Int × Int × zMu := if 0 ≤ d ∧ d ≤ 9 ∧ 0 ≤ h ∧ h ≤ 23 then (if 0 ≤ x ∧ x ≤ 30 then (0, μ 5 (24 * d + h), zset μ 5 (zup (μ 5) (24 * d + h) x)) else (2, 0, μ)) else (1, 0, μ)
def o_setSlope (μ : zMu) (d x : Int) : Int × Int × zMu := if 0 ≤ d ∧ d ≤ 9 then (if -2 ≤ x ∧ x ≤ 2 then (0, μ 6 d, zset μ 6 (zup (μ 6) d x)) else (2, 0, μ)) else (1, 0, μ)
def o_setWeather (μ : zMu) (d x : Int) : Int × Int × zMu := if 0 ≤ d ∧ d ≤ 9 then (if 0 ≤ x ∧ x ≤ 9 then (0, μ 7 d, zset μ 7 (zup (μ 7) d x)) else (2, 0, μ)) else (1, 0, μ)
def o_waterAt (μ : zMu) (c d h : Int) : Int × Int × zMu := if 0 ≤ c ∧ c ≤ 19 ∧ 0 ≤ d ∧ d ≤ 9 ∧ 0 ≤ h ∧ h ≤ 23 then (0, spWater μ c d h, μ) else (1, 0, μ)
noncomputable def o_addGauge (μ : zMu) (c : Int) : Int × Int × zMu := if 0 ≤ c ∧ c ≤ 19 then zif (∃ g, 0 ≤ g ∧ g < μ 1 0 ∧ μ 8 g = c) (2, 0, μ) (if μ 1 0 = 3 then (3, 0, μ) else (0, μ 1 0, zset (zset μ 8 (zup (μ 8) (μ 1 0) c)) 1 (fun _ => μ 1 0 + 1))) else (1, 0, μ)
def o_fail (μ : zMu) (g d h n : Int) : Int × Int × zMu := if 0 ≤ g ∧ g < μ 1 0 then (if 0 ≤ d ∧ d ≤ 9 ∧ 0 ≤ h ∧ h ≤ 23 then (if h + 1 ≤ n ∧ n ≤ 24 then (0, 24 - zcnt (zfill (μ 11) (240 * g + 24 * d + h) (240 * g + 24 * d + n) 1) (240 * g + 24 * d) 24, zset μ 11 (zfill (μ 11) (240 * g + 24 * d + h) (240 * g + 24 * d + n) 1)) else (3, 0, μ)) else (2, 0, μ)) else (1, 0, μ)
def o_mend (μ : zMu) (g d : Int) : Int × Int × zMu := if 0 ≤ g ∧ g < μ 1 0 then (if 0 ≤ d ∧ d ≤ 9 then (0, zcnt (μ 11) (240 * g + 24 * d) 24, zset μ 11 (zfill (μ 11) (240 * g + 24 * d) (240 * g + 24 * d + 24) 0)) else (2, 0, μ)) else (1, 0, μ)
set_option maxRecDepth 100000 in
set_option maxHeartbeats 200000 in
theorem c_X7_isIn {la : Launch} {G : zG} {X : (Nat → Prop) → State → Prop} (hX : zX X) {L : List Nat} {f : Nat → va_E} (x lo hi : Int) (hx : zR x) (hl : zR lo) (hh : zR hi) : zM la G X yX7_isIn (.code yX7_isIn cX7_isIn 3 (some .boolean) :: zT) 0 0 0 [.int (iI x), .int (iI lo), .int (iI hi)] L f zeI (zRd L f (fun z => z = bI (lo ≤ x ∧ x ≤ hi))) := by
  refine zM_intro hX (by decide) (Nat.le_of_ble_eq_true rfl) (fun pZ eZ sZ mZ aZ bZ hZ cZ AZ C hini => ?_)
  change ZW G pZ la eZ (zRm 0 0 0) sZ mZ aZ bZ hZ cZ AZ 3 0 0 _ L f 0 [(0, .int (iI x)), (1, .int (iI lo)), (2, .int (iI hi))] []
  refine z_iload_n C 0 dX7_isIn_0 rfl ?_
  refine z_iload_n C 1 dX7_isIn_1 rfl ?_
  refine z_icmp_lt C 14 dX7_isIn_2 (by decide) (by omega) (by omega) (fun h2 => ?_) (fun h2 => ?_)
  · refine z_iconst C dX7_isIn_14 ?_
    exact z_zreturn C (by first | omega | (unfold bI; split <;> omega)) dX7_isIn_15 (Nat.le_of_ble_eq_true rfl) (Nat.le_of_ble_eq_true rfl) ⟨by unfold bI; split <;> omega, rfl, rfl⟩
  · refine z_iload_n C 0 dX7_isIn_5 rfl ?_
    refine z_iload_n C 2 dX7_isIn_6 rfl ?_
    refine z_icmp_gt C 14 dX7_isIn_7 (by decide) (by omega) (by omega) (fun h7 => ?_) (fun h7 => ?_)
    · refine z_iconst C dX7_isIn_14 ?_
      exact z_zreturn C (by first | omega | (unfold bI; split <;> omega)) dX7_isIn_15 (Nat.le_of_ble_eq_true rfl) (Nat.le_of_ble_eq_true rfl) ⟨by unfold bI; split <;> omega, rfl, rfl⟩
    · refine z_iconst C dX7_isIn_10 ?_
      refine z_goto C 15 dX7_isIn_11 (by decide) ?_
      exact z_zreturn C (by first | omega | (unfold bI; split <;> omega)) dX7_isIn_15 (Nat.le_of_ble_eq_true rfl) (Nat.le_of_ble_eq_true rfl) ⟨by unfold bI; split <;> omega, rfl, rfl⟩

set_option maxRecDepth 100000 in
set_option maxHeartbeats 200000 in
theorem c_X7_down {la : Launch} {G : zG} {X : (Nat → Prop) → State → Prop} (hX : zX X) {L : List Nat} {f : Nat → va_E} (a b : Int) (ha : -1000000000 ≤ a ∧ a ≤ 1000000000) (hb : 0 < b ∧ b ≤ 1000000) : zM la G X yX7_down (.code yX7_down cX7_down 3 (some .int) :: zT) 0 0 0 [.int (iI a), .int (iI b)] L f zeI (zRd L f (fun z => z = a / b)) := by
  refine zM_intro hX (by decide) (Nat.le_of_ble_eq_true rfl) (fun pZ eZ sZ mZ aZ bZ hZ cZ AZ C hini => ?_)
  change ZW G pZ la eZ (zRm 0 0 0) sZ mZ aZ bZ hZ cZ AZ 3 0 0 _ L f 0 [(0, .int (iI a)), (1, .int (iI b))] []
  have hq : -1000000000 ≤ a.tdiv b ∧ a.tdiv b ≤ 1000000000 := by
    have h1 := Int.natAbs_tdiv_le_natAbs a b
    omega
  have hr : -1000000 ≤ a.tmod b ∧ a.tmod b ≤ 1000000 := by
    have h1 := Int.tmod_lt_of_pos a hb.1
    have h2 := Int.lt_tmod_of_pos a hb.1
    omega
  have hz := zdown (a := a) hb.1
  refine z_iload_n C 0 dX7_down_0 rfl ?_
  refine z_iload_n C 1 dX7_down_1 rfl ?_
  refine z_idiv C dX7_down_2 (by omega) (by omega) ?_
  refine z_nm (fun x1 hx1 => ?_)
  refine z_istore_n (ls' := [(2, .int (iI x1)), (0, .int (iI a)), (1, .int (iI b))]) C dX7_down_3 (Nat.le_of_ble_eq_true rfl) rfl ?_
  refine z_iload_n C 1 dX7_down_4 rfl ?_
  refine z_iload_n C 2 dX7_down_5 rfl ?_
  refine z_irem C dX7_down_6 (by omega) (by omega) ?_
  refine z_if_ge C 16 dX7_down_7 (by decide) (by omega) (fun h7 => ?_) (fun h7 => ?_)
  · refine z_iload_n C 0 dX7_down_16 rfl ?_
    exact z_ireturn C dX7_down_17 (Nat.le_of_ble_eq_true rfl) (Nat.le_of_ble_eq_true rfl) ⟨by first | (rw [if_neg (by omega)] at hz; omega) | (rw [if_pos (by omega)] at hz; omega), rfl, rfl⟩
  · refine z_iload_n C 0 dX7_down_10 rfl ?_
    refine z_iconst C dX7_down_11 ?_
    refine z_isub C dX7_down_12 ?_
    refine z_goto C 17 dX7_down_13 (by decide) ?_
    exact z_ireturn C dX7_down_17 (Nat.le_of_ble_eq_true rfl) (Nat.le_of_ble_eq_true rfl) ⟨by first | (rw [if_neg (by omega)] at hz; omega) | (rw [if_pos (by omega)] at hz; omega), rfl, rfl⟩

set_option maxRecDepth 100000 in
set_option maxHeartbeats 200000 in
theorem c_X7_thrown {la : Launch} {G : zG} {X : (Nat → Prop) → State → Prop} (hX : zX X) {L : List Nat} {f : Nat → va_E} {o : Nat} {ad : Nat → Nat} {μ : zMu} {t : Int} {u v : Int → Int} (hM : MR G L f o ad μ t u v)   : zM la G X yX7_thrown (.code yX7_thrown cX7_thrown 1 (some .int) :: zT) 0 0 0 [.ref o] L f zeI (zRd L f (fun z => z = t)) := by
  refine zM_intro hX (by decide) (Nat.le_of_ble_eq_true rfl) (fun pZ eZ sZ mZ aZ bZ hZ cZ AZ C hini => ?_)
  change ZW G pZ la eZ (zRm 0 0 0) sZ mZ aZ bZ hZ cZ AZ 1 0 0 _ L f 0 [(0, .ref o)] []
  have hNO : zNO = -2147483648 := rfl
  
  refine z_aload_n C 0 dX7_thrown_0 rfl ?_
  refine z_getf C 0 zin_X7 (hM.1.1) (hM.1.2) rfl (Nat.le_of_ble_eq_true rfl) zl_6_98 rfl rfl dX7_thrown_1 ?_
  exact z_ireturn C dX7_thrown_4 (Nat.le_of_ble_eq_true rfl) (Nat.le_of_ble_eq_true rfl) ⟨rfl, rfl, rfl⟩

set_option maxRecDepth 100000 in
set_option maxHeartbeats 200000 in
theorem c_X7_refuse {la : Launch} {G : zG} {X : (Nat → Prop) → State → Prop} (hX : zX X) {L : List Nat} {f : Nat → va_E} {o : Nat} {ad : Nat → Nat} {μ : zMu} {t : Int} {u v : Int → Int} (hM : MR G L f o ad μ t u v) (x : Int)  : zM la G X yX7_refuse (.code yX7_refuse cX7_refuse 2 (some .int) :: zT) 0 0 0 [.ref o, .int (iI x)] L f zeI (fun z L' f' => z = 0 ∧ L = L' ∧ MR G L f' o ad μ x u v) := by
  refine zM_intro hX (by decide) (Nat.le_of_ble_eq_true rfl) (fun pZ eZ sZ mZ aZ bZ hZ cZ AZ C hini => ?_)
  change ZW G pZ la eZ (zRm 0 0 0) sZ mZ aZ bZ hZ cZ AZ 2 0 0 _ L f 0 [(0, .ref o), (1, .int (iI x))] []
  have hNO : zNO = -2147483648 := rfl
  
  refine z_aload_n C 0 dX7_refuse_0 rfl ?_
  refine z_iload_n C 1 dX7_refuse_1 rfl ?_
  refine m_put0 C hM dX7_refuse_2 (fun f1 hM2 => ?_)
  refine z_iconst C dX7_refuse_5 ?_
  exact z_ireturn C dX7_refuse_6 (Nat.le_of_ble_eq_true rfl) (Nat.le_of_ble_eq_true rfl) ⟨rfl, rfl, hM2⟩

set_option maxRecDepth 100000 in
set_option maxHeartbeats 200000 in
theorem c_X7_noCell {la : Launch} {G : zG} {X : (Nat → Prop) → State → Prop} (hX : zX X) {L : List Nat} {f : Nat → va_E} {o : Nat} {ad : Nat → Nat} {μ : zMu} {t : Int} {u v : Int → Int} (hM : MR G L f o ad μ t u v) (c r : Int) (hx : zR c) (hy : zR r) : zM la G X yX7_noCell (.code yX7_noCell cX7_noCell 3 (some .boolean) :: zT) 1 0 0 [.ref o, .int (iI c), .int (iI r)] L f zeI (fun z L' f' => L = L' ∧ ∃ t', MR G L f' o ad μ t' u v ∧ ((0 ≤ c ∧ c ≤ 19 ∧ 0 ≤ r ∧ r ≤ 11) ∧ t' = 0 ∧ z = 0 ∨ ¬(0 ≤ c ∧ c ≤ 19 ∧ 0 ≤ r ∧ r ≤ 11) ∧ t' = 1 ∧ z = 1)) := by
  refine zM_intro hX (by decide) (Nat.le_of_ble_eq_true rfl) (fun pZ eZ sZ mZ aZ bZ hZ cZ AZ C hini => ?_)
  change ZW G pZ la eZ (zRm 1 0 0) sZ mZ aZ bZ hZ cZ AZ 3 0 0 _ L f 0 [(0, .ref o), (1, .int (iI c)), (2, .int (iI r))] []
  have hNO : zNO = -2147483648 := rfl
  
  refine z_aload_n C 0 dX7_noCell_0 rfl ?_
  refine z_iload_n C 1 dX7_noCell_1 rfl ?_
  refine z_iconst C dX7_noCell_2 ?_
  refine z_bipush C dX7_noCell_3 (by decide) ?_
  refine z_cS (As := [.int (iI c), .int (iI 0), .int (iI 19)]) C zc_X7_isIn (c_X7_isIn hX c 0 19 (by omega) (by omega) (by omega)) zl_6_176 (Nat.le_of_ble_eq_true rfl) (Nat.le_of_ble_eq_true rfl) (Nat.le_of_ble_eq_true rfl) rfl rfl (Nat.le_of_ble_eq_true rfl) dX7_noCell_5 (fun z1 L2 f3 hz4 => ?_)
  obtain ⟨hz4, rfl, rfl⟩ := hz4
  subst hz4
  change ZW G pZ la eZ (zRm 1 0 0) sZ mZ aZ bZ hZ cZ AZ 3 0 0 _ L f 8 [(0, .ref o), (1, .int (iI c)), (2, .int (iI r))] [.int (iI (bI (0 ≤ c ∧ c ≤ 19))), .ref o]
  refine z_if_eq_b C 25 dX7_noCell_8 (by decide) (fun h8 => ?_) (fun h8 => ?_)
  · refine z_iconst C dX7_noCell_25 ?_
    refine m_put0 C hM dX7_noCell_26 (fun f5 hM6 => ?_)
    refine z_aload_n C 0 dX7_noCell_29 rfl ?_
    refine z_getf C 0 zin_X7 (hM6.1.1) (hM6.1.2) rfl (Nat.le_of_ble_eq_true rfl) zl_6_98 rfl rfl dX7_noCell_30 ?_
    refine z_if_eq C 40 dX7_noCell_33 (by decide) (by omega) (fun h33 => ?_) (fun h33 => ?_)
    · refine z_iconst C dX7_noCell_40 ?_
      exact z_zreturn C (by first | omega | (unfold bI; split <;> omega)) dX7_noCell_41 (Nat.le_of_ble_eq_true rfl) (Nat.le_of_ble_eq_true rfl) ⟨rfl, _, hM6, by omega⟩
    · refine z_iconst C dX7_noCell_36 ?_
      refine z_goto C 41 dX7_noCell_37 (by decide) ?_
      exact z_zreturn C (by first | omega | (unfold bI; split <;> omega)) dX7_noCell_41 (Nat.le_of_ble_eq_true rfl) (Nat.le_of_ble_eq_true rfl) ⟨rfl, _, hM6, by omega⟩
  · refine z_iload_n C 2 dX7_noCell_11 rfl ?_
    refine z_iconst C dX7_noCell_12 ?_
    refine z_bipush C dX7_noCell_13 (by decide) ?_
    refine z_cS (As := [.int (iI r), .int (iI 0), .int (iI 11)]) C zc_X7_isIn (c_X7_isIn hX r 0 11 (by omega) (by omega) (by omega)) zl_6_176 (Nat.le_of_ble_eq_true rfl) (Nat.le_of_ble_eq_true rfl) (Nat.le_of_ble_eq_true rfl) rfl rfl (Nat.le_of_ble_eq_true rfl) dX7_noCell_15 (fun z7 L8 f9 hz10 => ?_)
    obtain ⟨hz10, rfl, rfl⟩ := hz10
    subst hz10
    change ZW G pZ la eZ (zRm 1 0 0) sZ mZ aZ bZ hZ cZ AZ 3 0 0 _ L f 18 [(0, .ref o), (1, .int (iI c)), (2, .int (iI r))] [.int (iI (bI (0 ≤ r ∧ r ≤ 11))), .ref o]
    refine z_if_eq_b C 25 dX7_noCell_18 (by decide) (fun h18 => ?_) (fun h18 => ?_)
    · refine z_iconst C dX7_noCell_25 ?_
      refine m_put0 C hM dX7_noCell_26 (fun f11 hM12 => ?_)
      refine z_aload_n C 0 dX7_noCell_29 rfl ?_
      refine z_getf C 0 zin_X7 (hM12.1.1) (hM12.1.2) rfl (Nat.le_of_ble_eq_true rfl) zl_6_98 rfl rfl dX7_noCell_30 ?_
      refine z_if_eq C 40 dX7_noCell_33 (by decide) (by omega) (fun h33 => ?_) (fun h33 => ?_)
      · refine z_iconst C dX7_noCell_40 ?_
        exact z_zreturn C (by first | omega | (unfold bI; split <;> omega)) dX7_noCell_41 (Nat.le_of_ble_eq_true rfl) (Nat.le_of_ble_eq_true rfl) ⟨rfl, _, hM12, by omega⟩
      · refine z_iconst C dX7_noCell_36 ?_
        refine z_goto C 41 dX7_noCell_37 (by decide) ?_
        exact z_zreturn C (by first | omega | (unfold bI; split <;> omega)) dX7_noCell_41 (Nat.le_of_ble_eq_true rfl) (Nat.le_of_ble_eq_true rfl) ⟨rfl, _, hM12, by omega⟩
    · refine z_iconst C dX7_noCell_21 ?_
      refine z_goto C 26 dX7_noCell_22 (by decide) ?_
      refine m_put0 C hM dX7_noCell_26 (fun f13 hM14 => ?_)
      refine z_aload_n C 0 dX7_noCell_29 rfl ?_
      refine z_getf C 0 zin_X7 (hM14.1.1) (hM14.1.2) rfl (Nat.le_of_ble_eq_true rfl) zl_6_98 rfl rfl dX7_noCell_30 ?_
      refine z_if_eq C 40 dX7_noCell_33 (by decide) (by omega) (fun h33 => ?_) (fun h33 => ?_)
      · refine z_iconst C dX7_noCell_40 ?_
        exact z_zreturn C (by first | omega | (unfold bI; split <;> omega)) dX7_noCell_41 (Nat.le_of_ble_eq_true rfl) (Nat.le_of_ble_eq_true rfl) ⟨rfl, _, hM14, by omega⟩
      · refine z_iconst C dX7_noCell_36 ?_
        refine z_goto C 41 dX7_noCell_37 (by decide) ?_
        exact z_zreturn C (by first | omega | (unfold bI; split <;> omega)) dX7_noCell_41 (Nat.le_of_ble_eq_true rfl) (Nat.le_of_ble_eq_true rfl) ⟨rfl, _, hM14, by omega⟩

set_option maxRecDepth 100000 in
set_option maxHeartbeats 200000 in
theorem c_X7_noHour {la : Launch} {G : zG} {X : (Nat → Prop) → State → Prop} (hX : zX X) {L : List Nat} {f : Nat → va_E} {o : Nat} {ad : Nat → Nat} {μ : zMu} {t : Int} {u v : Int → Int} (hM : MR G L f o ad μ t u v) (d h : Int) (hx : zR d) (hy : zR h) : zM la G X yX7_noHour (.code yX7_noHour cX7_noHour 3 (some .boolean) :: zT) 1 0 0 [.ref o, .int (iI d), .int (iI h)] L f zeI (fun z L' f' => L = L' ∧ ∃ t', MR G L f' o ad μ t' u v ∧ ((0 ≤ d ∧ d ≤ 9 ∧ 0 ≤ h ∧ h ≤ 23) ∧ t' = 0 ∧ z = 0 ∨ ¬(0 ≤ d ∧ d ≤ 9 ∧ 0 ≤ h ∧ h ≤ 23) ∧ t' = 1 ∧ z = 1)) := by
  refine zM_intro hX (by decide) (Nat.le_of_ble_eq_true rfl) (fun pZ eZ sZ mZ aZ bZ hZ cZ AZ C hini => ?_)
  change ZW G pZ la eZ (zRm 1 0 0) sZ mZ aZ bZ hZ cZ AZ 3 0 0 _ L f 0 [(0, .ref o), (1, .int (iI d)), (2, .int (iI h))] []
  have hNO : zNO = -2147483648 := rfl
  
  refine z_aload_n C 0 dX7_noHour_0 rfl ?_
  refine z_iload_n C 1 dX7_noHour_1 rfl ?_
  refine z_iconst C dX7_noHour_2 ?_
  refine z_bipush C dX7_noHour_3 (by decide) ?_
  refine z_cS (As := [.int (iI d), .int (iI 0), .int (iI 9)]) C zc_X7_isIn (c_X7_isIn hX d 0 9 (by omega) (by omega) (by omega)) zl_6_176 (Nat.le_of_ble_eq_true rfl) (Nat.le_of_ble_eq_true rfl) (Nat.le_of_ble_eq_true rfl) rfl rfl (Nat.le_of_ble_eq_true rfl) dX7_noHour_5 (fun z1 L2 f3 hz4 => ?_)
  obtain ⟨hz4, rfl, rfl⟩ := hz4
  subst hz4
  change ZW G pZ la eZ (zRm 1 0 0) sZ mZ aZ bZ hZ cZ AZ 3 0 0 _ L f 8 [(0, .ref o), (1, .int (iI d)), (2, .int (iI h))] [.int (iI (bI (0 ≤ d ∧ d ≤ 9))), .ref o]
  refine z_if_eq_b C 25 dX7_noHour_8 (by decide) (fun h8 => ?_) (fun h8 => ?_)
  · refine z_iconst C dX7_noHour_25 ?_
    refine m_put0 C hM dX7_noHour_26 (fun f5 hM6 => ?_)
    refine z_aload_n C 0 dX7_noHour_29 rfl ?_
    refine z_getf C 0 zin_X7 (hM6.1.1) (hM6.1.2) rfl (Nat.le_of_ble_eq_true rfl) zl_6_98 rfl rfl dX7_noHour_30 ?_
    refine z_if_eq C 40 dX7_noHour_33 (by decide) (by omega) (fun h33 => ?_) (fun h33 => ?_)
    · refine z_iconst C dX7_noHour_40 ?_
      exact z_zreturn C (by first | omega | (unfold bI; split <;> omega)) dX7_noHour_41 (Nat.le_of_ble_eq_true rfl) (Nat.le_of_ble_eq_true rfl) ⟨rfl, _, hM6, by omega⟩
    · refine z_iconst C dX7_noHour_36 ?_
      refine z_goto C 41 dX7_noHour_37 (by decide) ?_
      exact z_zreturn C (by first | omega | (unfold bI; split <;> omega)) dX7_noHour_41 (Nat.le_of_ble_eq_true rfl) (Nat.le_of_ble_eq_true rfl) ⟨rfl, _, hM6, by omega⟩
  · refine z_iload_n C 2 dX7_noHour_11 rfl ?_
    refine z_iconst C dX7_noHour_12 ?_
    refine z_bipush C dX7_noHour_13 (by decide) ?_
    refine z_cS (As := [.int (iI h), .int (iI 0), .int (iI 23)]) C zc_X7_isIn (c_X7_isIn hX h 0 23 (by omega) (by omega) (by omega)) zl_6_176 (Nat.le_of_ble_eq_true rfl) (Nat.le_of_ble_eq_true rfl) (Nat.le_of_ble_eq_true rfl) rfl rfl (Nat.le_of_ble_eq_true rfl) dX7_noHour_15 (fun z7 L8 f9 hz10 => ?_)
    obtain ⟨hz10, rfl, rfl⟩ := hz10
    subst hz10
    change ZW G pZ la eZ (zRm 1 0 0) sZ mZ aZ bZ hZ cZ AZ 3 0 0 _ L f 18 [(0, .ref o), (1, .int (iI d)), (2, .int (iI h))] [.int (iI (bI (0 ≤ h ∧ h ≤ 23))), .ref o]
    refine z_if_eq_b C 25 dX7_noHour_18 (by decide) (fun h18 => ?_) (fun h18 => ?_)
    · refine z_iconst C dX7_noHour_25 ?_
      refine m_put0 C hM dX7_noHour_26 (fun f11 hM12 => ?_)
      refine z_aload_n C 0 dX7_noHour_29 rfl ?_
      refine z_getf C 0 zin_X7 (hM12.1.1) (hM12.1.2) rfl (Nat.le_of_ble_eq_true rfl) zl_6_98 rfl rfl dX7_noHour_30 ?_
      refine z_if_eq C 40 dX7_noHour_33 (by decide) (by omega) (fun h33 => ?_) (fun h33 => ?_)
      · refine z_iconst C dX7_noHour_40 ?_
        exact z_zreturn C (by first | omega | (unfold bI; split <;> omega)) dX7_noHour_41 (Nat.le_of_ble_eq_true rfl) (Nat.le_of_ble_eq_true rfl) ⟨rfl, _, hM12, by omega⟩
      · refine z_iconst C dX7_noHour_36 ?_
        refine z_goto C 41 dX7_noHour_37 (by decide) ?_
        exact z_zreturn C (by first | omega | (unfold bI; split <;> omega)) dX7_noHour_41 (Nat.le_of_ble_eq_true rfl) (Nat.le_of_ble_eq_true rfl) ⟨rfl, _, hM12, by omega⟩
    · refine z_iconst C dX7_noHour_21 ?_
      refine z_goto C 26 dX7_noHour_22 (by decide) ?_
      refine m_put0 C hM dX7_noHour_26 (fun f13 hM14 => ?_)
      refine z_aload_n C 0 dX7_noHour_29 rfl ?_
      refine z_getf C 0 zin_X7 (hM14.1.1) (hM14.1.2) rfl (Nat.le_of_ble_eq_true rfl) zl_6_98 rfl rfl dX7_noHour_30 ?_
      refine z_if_eq C 40 dX7_noHour_33 (by decide) (by omega) (fun h33 => ?_) (fun h33 => ?_)
      · refine z_iconst C dX7_noHour_40 ?_
        exact z_zreturn C (by first | omega | (unfold bI; split <;> omega)) dX7_noHour_41 (Nat.le_of_ble_eq_true rfl) (Nat.le_of_ble_eq_true rfl) ⟨rfl, _, hM14, by omega⟩
      · refine z_iconst C dX7_noHour_36 ?_
        refine z_goto C 41 dX7_noHour_37 (by decide) ?_
        exact z_zreturn C (by first | omega | (unfold bI; split <;> omega)) dX7_noHour_41 (Nat.le_of_ble_eq_true rfl) (Nat.le_of_ble_eq_true rfl) ⟨rfl, _, hM14, by omega⟩

set_option maxRecDepth 100000 in
set_option maxHeartbeats 200000 in
theorem c_X7_noDay {la : Launch} {G : zG} {X : (Nat → Prop) → State → Prop} (hX : zX X) {L : List Nat} {f : Nat → va_E} {o : Nat} {ad : Nat → Nat} {μ : zMu} {t : Int} {u v : Int → Int} (hM : MR G L f o ad μ t u v) (d : Int) (hx : zR d) : zM la G X yX7_noDay (.code yX7_noDay cX7_noDay 2 (some .boolean) :: zT) 2 0 0 [.ref o, .int (iI d)] L f zeI (fun z L' f' => L = L' ∧ ∃ t', MR G L f' o ad μ t' u v ∧ ((0 ≤ d ∧ d ≤ 9) ∧ t' = 0 ∧ z = 0 ∨ ¬(0 ≤ d ∧ d ≤ 9) ∧ t' = 1 ∧ z = 1)) := by
  refine zM_intro hX (by decide) (Nat.le_of_ble_eq_true rfl) (fun pZ eZ sZ mZ aZ bZ hZ cZ AZ C hini => ?_)
  change ZW G pZ la eZ (zRm 2 0 0) sZ mZ aZ bZ hZ cZ AZ 2 0 0 _ L f 0 [(0, .ref o), (1, .int (iI d))] []
  have hNO : zNO = -2147483648 := rfl
  
  refine z_aload_n C 0 dX7_noDay_0 rfl ?_
  refine z_iload_n C 1 dX7_noDay_1 rfl ?_
  refine z_iconst C dX7_noDay_2 ?_
  refine z_cV (As := [.int (iI d), .int (iI 0)]) C zc_X7_noHour (c_X7_noHour hX hM d 0 (by omega) (by omega) ) zl_6_187 (Nat.le_of_ble_eq_true rfl) (Nat.le_of_ble_eq_true rfl) (Nat.le_of_ble_eq_true rfl) (hM.1.1) (hM.1.2) rfl rfl rfl rfl (Nat.le_of_ble_eq_true rfl) dX7_noDay_3 (fun z4 L5 f6 hz7 => ?_)
  obtain ⟨rfl, t2, hM1, he3⟩ := hz7
  change ZW G pZ la eZ (zRm 2 0 0) sZ mZ aZ bZ hZ cZ AZ 2 0 0 _ L f6 6 [(0, .ref o), (1, .int (iI d))] [.int (iI z4)]
  exact z_zreturn C (by first | omega | (unfold bI; split <;> omega)) dX7_noDay_6 (Nat.le_of_ble_eq_true rfl) (Nat.le_of_ble_eq_true rfl) ⟨rfl, _, hM1, by omega⟩

set_option maxRecDepth 100000 in
set_option maxHeartbeats 200000 in
theorem c_X7_setFloor {la : Launch} {G : zG} {X : (Nat → Prop) → State → Prop} (hX : zX X) {L : List Nat} {f : Nat → va_E} {o : Nat} {ad : Nat → Nat} {μ : zMu} {t : Int} {u v : Int → Int} (hM : MR G L f o ad μ t u v) (hI : MI μ) (c r x : Int) (hx : zR c) (hy : zR r) (hz : zR x) : zM la G X yX7_setFloor (.code yX7_setFloor cX7_setFloor 5 (some .int) :: zT) 3 0 0 [.ref o, .int (iI c), .int (iI r), .int (iI x)] L f zeI (fun z L' f' => L = L' ∧ ∃ t' μ' u' v', MR G L f' o ad μ' t' u' v' ∧ o_setFloor μ c r x = (t', if t' = 0 then z else 0, μ')) := by
  refine zM_intro hX (by decide) (Nat.le_of_ble_eq_true rfl) (fun pZ eZ sZ mZ aZ bZ hZ cZ AZ C hini => ?_)
  change ZW G pZ la eZ (zRm 3 0 0) sZ mZ aZ bZ hZ cZ AZ 5 0 0 _ L f 0 [(0, .ref o), (1, .int (iI c)), (2, .int (iI r)), (3, .int (iI x))] []
  have hn9 := hI.n
  have hNO : zNO = -2147483648 := rfl
  
  refine z_aload_n C 0 dX7_setFloor_0 rfl ?_
  refine z_iload_n C 1 dX7_setFloor_1 rfl ?_
  refine z_iload_n C 2 dX7_setFloor_2 rfl ?_
  refine z_cV (As := [.int (iI c), .int (iI r)]) C zc_X7_noCell (c_X7_noCell hX hM c r (by omega) (by omega) ) zl_6_172 (Nat.le_of_ble_eq_true rfl) (Nat.le_of_ble_eq_true rfl) (Nat.le_of_ble_eq_true rfl) (hM.1.1) (hM.1.2) rfl rfl rfl rfl (Nat.le_of_ble_eq_true rfl) dX7_setFloor_3 (fun z4 L5 f6 hz7 => ?_)
  obtain ⟨rfl, t2, hM1, he3⟩ := hz7
  change ZW G pZ la eZ (zRm 3 0 0) sZ mZ aZ bZ hZ cZ AZ 5 0 0 _ L f6 6 [(0, .ref o), (1, .int (iI c)), (2, .int (iI r)), (3, .int (iI x))] [.int (iI z4)]
  refine z_if_eq C 11 dX7_setFloor_6 (by decide) (by omega) (fun h6 => ?_) (fun h6 => ?_)
  · refine z_iload_n C 3 dX7_setFloor_11 rfl ?_
    refine z_iconst C dX7_setFloor_12 ?_
    refine z_bipush C dX7_setFloor_13 (by decide) ?_
    refine z_cS (As := [.int (iI x), .int (iI 1), .int (iI 99)]) C zc_X7_isIn (c_X7_isIn hX x 1 99 (by omega) (by omega) (by omega)) zl_6_176 (Nat.le_of_ble_eq_true rfl) (Nat.le_of_ble_eq_true rfl) (Nat.le_of_ble_eq_true rfl) rfl rfl (Nat.le_of_ble_eq_true rfl) dX7_setFloor_15 (fun z8 L9 f10 hz11 => ?_)
    obtain ⟨hz11, rfl, rfl⟩ := hz11
    subst hz11
    change ZW G pZ la eZ (zRm 3 0 0) sZ mZ aZ bZ hZ cZ AZ 5 0 0 _ L f6 18 [(0, .ref o), (1, .int (iI c)), (2, .int (iI r)), (3, .int (iI x))] [.int (iI (bI (1 ≤ x ∧ x ≤ 99)))]
    refine z_if_ne_b C 27 dX7_setFloor_18 (by decide) (fun h18 => ?_) (fun h18 => ?_)
    · refine z_aload_n C 0 dX7_setFloor_27 rfl ?_
      refine z_getf C 4 zin_X7 (hM1.1.1) (hM1.1.2) rfl (Nat.le_of_ble_eq_true rfl) zl_6_102 rfl rfl dX7_setFloor_28 ?_
      refine z_bipush C dX7_setFloor_31 (by decide) ?_
      refine z_iload_n C 2 dX7_setFloor_33 rfl ?_
      refine z_imul C dX7_setFloor_34 ?_
      refine z_iload_n C 1 dX7_setFloor_35 rfl ?_
      refine z_iadd C dX7_setFloor_36 ?_
      refine z_iald C (MR_a4 hM1) (by omega) (by omega) (by omega) dX7_setFloor_37 ?_
      have hb12 := hI.J.b4 ((20 * r) + c) (by omega) (by omega)
      refine z_nm (fun x13 hx13 => ?_)
      refine z_istore (ls' := [(4, .int (iI x13)), (0, .ref o), (1, .int (iI c)), (2, .int (iI r)), (3, .int (iI x))]) C dX7_setFloor_38 (Nat.le_of_ble_eq_true rfl) rfl ?_
      refine z_aload_n C 1 dX7_setFloor_40 rfl ?_
      refine z_getf C 4 zin_X7 (hM1.1.1) (hM1.1.2) rfl (Nat.le_of_ble_eq_true rfl) zl_6_102 rfl rfl dX7_setFloor_41 ?_
      refine z_bipush C dX7_setFloor_44 (by decide) ?_
      refine z_iload_n C 3 dX7_setFloor_46 rfl ?_
      refine z_imul C dX7_setFloor_47 ?_
      refine z_iload_n C 2 dX7_setFloor_48 rfl ?_
      refine z_iadd C dX7_setFloor_49 ?_
      refine z_iload_n C 4 dX7_setFloor_50 rfl ?_
      refine z_iast C (MR_a4 hM1) (by omega) (by omega) (by omega) dX7_setFloor_51 (fun f14 ha15 hk16 => ?_)
      have hM17 := MR_w4 hM1 ha15 hk16
      refine z_iload C 0 dX7_setFloor_52 rfl ?_
      exact z_ireturn C dX7_setFloor_54 (Nat.le_of_ble_eq_true rfl) (Nat.le_of_ble_eq_true rfl) ⟨rfl, _, _, _, _, hM17, by unfold o_setFloor; (repeat' (first | rfl | (exfalso; omega) | split)) <;> (refine Prod.ext ?_ (Prod.ext ?_ ?_) <;> first | rfl | omega | (dsimp only; omega))⟩
    · refine z_aload_n C 0 dX7_setFloor_21 rfl ?_
      refine z_iconst C dX7_setFloor_22 ?_
      refine z_cV (As := [.int (iI 2)]) C zc_X7_refuse (c_X7_refuse hX hM1 2) zl_6_179 (Nat.le_of_ble_eq_true rfl) (Nat.le_of_ble_eq_true rfl) (Nat.le_of_ble_eq_true rfl) (hM1.1.1) (hM1.1.2) rfl rfl rfl rfl (Nat.le_of_ble_eq_true rfl) dX7_setFloor_23 (fun z19 L20 f21 hz22 => ?_)
      obtain ⟨rfl, rfl, hM18⟩ := hz22
      change ZW G pZ la eZ (zRm 3 0 0) sZ mZ aZ bZ hZ cZ AZ 5 0 0 _ L f21 26 [(0, .ref o), (1, .int (iI c)), (2, .int (iI r)), (3, .int (iI x))] [.int (iI 0)]
      exact z_ireturn C dX7_setFloor_26 (Nat.le_of_ble_eq_true rfl) (Nat.le_of_ble_eq_true rfl) ⟨rfl, _, _, _, _, hM18, by unfold o_setFloor; (repeat' (first | rfl | (exfalso; omega) | split)) <;> (refine Prod.ext ?_ (Prod.ext ?_ ?_) <;> first | rfl | omega | (dsimp only; omega))⟩
  · refine z_iconst C dX7_setFloor_9 ?_
    exact z_ireturn C dX7_setFloor_10 (Nat.le_of_ble_eq_true rfl) (Nat.le_of_ble_eq_true rfl) ⟨rfl, _, _, _, _, hM1, by unfold o_setFloor; (repeat' (first | rfl | (exfalso; omega) | split)) <;> (refine Prod.ext ?_ (Prod.ext ?_ ?_) <;> first | rfl | omega | (dsimp only; omega))⟩

set_option maxRecDepth 100000 in
set_option maxHeartbeats 200000 in
theorem c_X7_setWater {la : Launch} {G : zG} {X : (Nat → Prop) → State → Prop} (hX : zX X) {L : List Nat} {f : Nat → va_E} {o : Nat} {ad : Nat → Nat} {μ : zMu} {t : Int} {u v : Int → Int} (hM : MR G L f o ad μ t u v) (hI : MI μ) (d h x : Int) (hx : zR d) (hy : zR h) (hz : zR x) : zM la G X yX7_setWater (.code yX7_setWater cX7_setWater 5 (some .int) :: zT) 3 0 0 [.ref o, .int (iI d), .int (iI h), .int (iI x)] L f zeI (fun z L' f' => L = L' ∧ ∃ t' μ' u' v', MR G L f' o ad μ' t' u' v' ∧ o_setWater μ d h x = (t', if t' = 0 then z else 0, μ')) := by
  refine zM_intro hX (by decide) (Nat.le_of_ble_eq_true rfl) (fun pZ eZ sZ mZ aZ bZ hZ cZ AZ C hini => ?_)
  change ZW G pZ la eZ (zRm 3 0 0) sZ mZ aZ bZ hZ cZ AZ 5 0 0 _ L f 0 [(0, .ref o), (1, .int (iI d)), (2, .int (iI h)), (3, .int (iI x))] []
  have hn9 := hI.n
  have hNO : zNO = -2147483648 := rfl
  
  refine z_aload_n C 0 dX7_setWater_0 rfl ?_
  refine z_iload_n C 1 dX7_setWater_1 rfl ?_
  refine z_iload_n C 2 dX7_setWater_2 rfl ?_
  refine z_cV (As := [.int (iI d), .int (iI h)]) C zc_X7_noHour (c_X7_noHour hX hM d h (by omega) (by omega) ) zl_6_187 (Nat.le_of_ble_eq_true rfl) (Nat.le_of_ble_eq_true rfl) (Nat.le_of_ble_eq_true rfl) (hM.1.1) (hM.1.2) rfl rfl rfl rfl (Nat.le_of_ble_eq_true rfl) dX7_setWater_3 (fun z4 L5 f6 hz7 => ?_)
  obtain ⟨rfl, t2, hM1, he3⟩ := hz7
  change ZW G pZ la eZ (zRm 3 0 0) sZ mZ aZ bZ hZ cZ AZ 5 0 0 _ L f6 6 [(0, .ref o), (1, .int (iI d)), (2, .int (iI h)), (3, .int (iI x))] [.int (iI z4)]
  refine z_if_eq C 11 dX7_setWater_6 (by decide) (by omega) (fun h6 => ?_) (fun h6 => ?_)
  · refine z_iload_n C 3 dX7_setWater_11 rfl ?_
    refine z_iconst C dX7_setWater_12 ?_
    refine z_bipush C dX7_setWater_13 (by decide) ?_
    refine z_cS (As := [.int (iI x), .int (iI 0), .int (iI 30)]) C zc_X7_isIn (c_X7_isIn hX x 0 30 (by omega) (by omega) (by omega)) zl_6_176 (Nat.le_of_ble_eq_true rfl) (Nat.le_of_ble_eq_true rfl) (Nat.le_of_ble_eq_true rfl) rfl rfl (Nat.le_of_ble_eq_true rfl) dX7_setWater_15 (fun z8 L9 f10 hz11 => ?_)
    obtain ⟨hz11, rfl, rfl⟩ := hz11
    subst hz11
    change ZW G pZ la eZ (zRm 3 0 0) sZ mZ aZ bZ hZ cZ AZ 5 0 0 _ L f6 18 [(0, .ref o), (1, .int (iI d)), (2, .int (iI h)), (3, .int (iI x))] [.int (iI (bI (0 ≤ x ∧ x ≤ 30)))]
    refine z_if_ne_b C 27 dX7_setWater_18 (by decide) (fun h18 => ?_) (fun h18 => ?_)
    · refine z_aload_n C 0 dX7_setWater_27 rfl ?_
      refine z_getf C 5 zin_X7 (hM1.1.1) (hM1.1.2) rfl (Nat.le_of_ble_eq_true rfl) zl_6_103 rfl rfl dX7_setWater_28 ?_
      refine z_bipush C dX7_setWater_31 (by decide) ?_
      refine z_iload_n C 1 dX7_setWater_33 rfl ?_
      refine z_imul C dX7_setWater_34 ?_
      refine z_iload_n C 2 dX7_setWater_35 rfl ?_
      refine z_iadd C dX7_setWater_36 ?_
      refine z_iald C (MR_a5 hM1) (by omega) (by omega) (by omega) dX7_setWater_37 ?_
      have hb12 := hI.J.b5 ((24 * d) + h) (by omega) (by omega)
      refine z_nm (fun x13 hx13 => ?_)
      refine z_istore (ls' := [(4, .int (iI x13)), (0, .ref o), (1, .int (iI d)), (2, .int (iI h)), (3, .int (iI x))]) C dX7_setWater_38 (Nat.le_of_ble_eq_true rfl) rfl ?_
      refine z_aload_n C 1 dX7_setWater_40 rfl ?_
      refine z_getf C 5 zin_X7 (hM1.1.1) (hM1.1.2) rfl (Nat.le_of_ble_eq_true rfl) zl_6_103 rfl rfl dX7_setWater_41 ?_
      refine z_bipush C dX7_setWater_44 (by decide) ?_
      refine z_iload_n C 2 dX7_setWater_46 rfl ?_
      refine z_imul C dX7_setWater_47 ?_
      refine z_iload_n C 3 dX7_setWater_48 rfl ?_
      refine z_iadd C dX7_setWater_49 ?_
      refine z_iload_n C 4 dX7_setWater_50 rfl ?_
      refine z_iast C (MR_a5 hM1) (by omega) (by omega) (by omega) dX7_setWater_51 (fun f14 ha15 hk16 => ?_)
      have hM17 := MR_w5 hM1 ha15 hk16
      refine z_iload C 0 dX7_setWater_52 rfl ?_
      exact z_ireturn C dX7_setWater_54 (Nat.le_of_ble_eq_true rfl) (Nat.le_of_ble_eq_true rfl) ⟨rfl, _, _, _, _, hM17, by unfold o_setWater; (repeat' (first | rfl | (exfalso; omega) | split)) <;> (refine Prod.ext ?_ (Prod.ext ?_ ?_) <;> first | rfl | omega | (dsimp only; omega))⟩
    · refine z_aload_n C 0 dX7_setWater_21 rfl ?_
      refine z_iconst C dX7_setWater_22 ?_
      refine z_cV (As := [.int (iI 2)]) C zc_X7_refuse (c_X7_refuse hX hM1 2) zl_6_179 (Nat.le_of_ble_eq_true rfl) (Nat.le_of_ble_eq_true rfl) (Nat.le_of_ble_eq_true rfl) (hM1.1.1) (hM1.1.2) rfl rfl rfl rfl (Nat.le_of_ble_eq_true rfl) dX7_setWater_23 (fun z19 L20 f21 hz22 => ?_)
      obtain ⟨rfl, rfl, hM18⟩ := hz22
      change ZW G pZ la eZ (zRm 3 0 0) sZ mZ aZ bZ hZ cZ AZ 5 0 0 _ L f21 26 [(0, .ref o), (1, .int (iI d)), (2, .int (iI h)), (3, .int (iI x))] [.int (iI 0)]
      exact z_ireturn C dX7_setWater_26 (Nat.le_of_ble_eq_true rfl) (Nat.le_of_ble_eq_true rfl) ⟨rfl, _, _, _, _, hM18, by unfold o_setWater; (repeat' (first | rfl | (exfalso; omega) | split)) <;> (refine Prod.ext ?_ (Prod.ext ?_ ?_) <;> first | rfl | omega | (dsimp only; omega))⟩
  · refine z_iconst C dX7_setWater_9 ?_
    exact z_ireturn C dX7_setWater_10 (Nat.le_of_ble_eq_true rfl) (Nat.le_of_ble_eq_true rfl) ⟨rfl, _, _, _, _, hM1, by unfold o_setWater; (repeat' (first | rfl | (exfalso; omega) | split)) <;> (refine Prod.ext ?_ (Prod.ext ?_ ?_) <;> first | rfl | omega | (dsimp only; omega))⟩

set_option maxRecDepth 100000 in
set_option maxHeartbeats 200000 in
theorem c_X7_setSlope {la : Launch} {G : zG} {X : (Nat → Prop) → State → Prop} (hX : zX X) {L : List Nat} {f : Nat → va_E} {o : Nat} {ad : Nat → Nat} {μ : zMu} {t : Int} {u v : Int → Int} (hM : MR G L f o ad μ t u v) (hI : MI μ) (d x : Int) (hx : zR d) (hz : zR x) : zM la G X yX7_setSlope (.code yX7_setSlope cX7_setSlope 4 (some .int) :: zT) 3 0 0 [.ref o, .int (iI d), .int (iI x)] L f zeI (fun z L' f' => L = L' ∧ ∃ t' μ' u' v', MR G L f' o ad μ' t' u' v' ∧ o_setSlope μ d x = (t', if t' = 0 then z else 0, μ')) := by
  refine zM_intro hX (by decide) (Nat.le_of_ble_eq_true rfl) (fun pZ eZ sZ mZ aZ bZ hZ cZ AZ C hini => ?_)
  change ZW G pZ la eZ (zRm 3 0 0) sZ mZ aZ bZ hZ cZ AZ 4 0 0 _ L f 0 [(0, .ref o), (1, .int (iI d)), (2, .int (iI x))] []
  have hn9 := hI.n
  have hNO : zNO = -2147483648 := rfl
  
  refine z_aload_n C 0 dX7_setSlope_0 rfl ?_
  refine z_iload_n C 1 dX7_setSlope_1 rfl ?_
  refine z_cV (As := [.int (iI d)]) C zc_X7_noDay (c_X7_noDay hX hM d (by omega) ) zl_6_195 (Nat.le_of_ble_eq_true rfl) (Nat.le_of_ble_eq_true rfl) (Nat.le_of_ble_eq_true rfl) (hM.1.1) (hM.1.2) rfl rfl rfl rfl (Nat.le_of_ble_eq_true rfl) dX7_setSlope_2 (fun z4 L5 f6 hz7 => ?_)
  obtain ⟨rfl, t2, hM1, he3⟩ := hz7
  change ZW G pZ la eZ (zRm 3 0 0) sZ mZ aZ bZ hZ cZ AZ 4 0 0 _ L f6 5 [(0, .ref o), (1, .int (iI d)), (2, .int (iI x))] [.int (iI z4)]
  refine z_if_eq C 10 dX7_setSlope_5 (by decide) (by omega) (fun h5 => ?_) (fun h5 => ?_)
  · refine z_iload_n C 2 dX7_setSlope_10 rfl ?_
    refine z_bipush C dX7_setSlope_11 (by decide) ?_
    refine z_iconst C dX7_setSlope_13 ?_
    refine z_cS (As := [.int (iI x), .int (iI (-2)), .int (iI 2)]) C zc_X7_isIn (c_X7_isIn hX x (-2) 2 (by omega) (by omega) (by omega)) zl_6_176 (Nat.le_of_ble_eq_true rfl) (Nat.le_of_ble_eq_true rfl) (Nat.le_of_ble_eq_true rfl) rfl rfl (Nat.le_of_ble_eq_true rfl) dX7_setSlope_14 (fun z8 L9 f10 hz11 => ?_)
    obtain ⟨hz11, rfl, rfl⟩ := hz11
    subst hz11
    change ZW G pZ la eZ (zRm 3 0 0) sZ mZ aZ bZ hZ cZ AZ 4 0 0 _ L f6 17 [(0, .ref o), (1, .int (iI d)), (2, .int (iI x))] [.int (iI (bI ((-2) ≤ x ∧ x ≤ 2)))]
    refine z_if_ne_b C 26 dX7_setSlope_17 (by decide) (fun h17 => ?_) (fun h17 => ?_)
    · refine z_aload_n C 0 dX7_setSlope_26 rfl ?_
      refine z_getf C 6 zin_X7 (hM1.1.1) (hM1.1.2) rfl (Nat.le_of_ble_eq_true rfl) zl_6_104 rfl rfl dX7_setSlope_27 ?_
      refine z_iload_n C 1 dX7_setSlope_30 rfl ?_
      refine z_iald C (MR_a6 hM1) (by omega) (by omega) (by omega) dX7_setSlope_31 ?_
      have hb12 := hI.J.b6 d (by omega) (by omega)
      refine z_nm (fun x13 hx13 => ?_)
      refine z_istore_n (ls' := [(3, .int (iI x13)), (0, .ref o), (1, .int (iI d)), (2, .int (iI x))]) C dX7_setSlope_32 (Nat.le_of_ble_eq_true rfl) rfl ?_
      refine z_aload_n C 1 dX7_setSlope_33 rfl ?_
      refine z_getf C 6 zin_X7 (hM1.1.1) (hM1.1.2) rfl (Nat.le_of_ble_eq_true rfl) zl_6_104 rfl rfl dX7_setSlope_34 ?_
      refine z_iload_n C 2 dX7_setSlope_37 rfl ?_
      refine z_iload_n C 3 dX7_setSlope_38 rfl ?_
      refine z_iast C (MR_a6 hM1) (by omega) (by omega) (by omega) dX7_setSlope_39 (fun f14 ha15 hk16 => ?_)
      have hM17 := MR_w6 hM1 ha15 hk16
      refine z_iload_n C 0 dX7_setSlope_40 rfl ?_
      exact z_ireturn C dX7_setSlope_41 (Nat.le_of_ble_eq_true rfl) (Nat.le_of_ble_eq_true rfl) ⟨rfl, _, _, _, _, hM17, by unfold o_setSlope; (repeat' (first | rfl | (exfalso; omega) | split)) <;> (refine Prod.ext ?_ (Prod.ext ?_ ?_) <;> first | rfl | omega | (dsimp only; omega))⟩
    · refine z_aload_n C 0 dX7_setSlope_20 rfl ?_
      refine z_iconst C dX7_setSlope_21 ?_
      refine z_cV (As := [.int (iI 2)]) C zc_X7_refuse (c_X7_refuse hX hM1 2) zl_6_179 (Nat.le_of_ble_eq_true rfl) (Nat.le_of_ble_eq_true rfl) (Nat.le_of_ble_eq_true rfl) (hM1.1.1) (hM1.1.2) rfl rfl rfl rfl (Nat.le_of_ble_eq_true rfl) dX7_setSlope_22 (fun z19 L20 f21 hz22 => ?_)
      obtain ⟨rfl, rfl, hM18⟩ := hz22
      change ZW G pZ la eZ (zRm 3 0 0) sZ mZ aZ bZ hZ cZ AZ 4 0 0 _ L f21 25 [(0, .ref o), (1, .int (iI d)), (2, .int (iI x))] [.int (iI 0)]
      exact z_ireturn C dX7_setSlope_25 (Nat.le_of_ble_eq_true rfl) (Nat.le_of_ble_eq_true rfl) ⟨rfl, _, _, _, _, hM18, by unfold o_setSlope; (repeat' (first | rfl | (exfalso; omega) | split)) <;> (refine Prod.ext ?_ (Prod.ext ?_ ?_) <;> first | rfl | omega | (dsimp only; omega))⟩
  · refine z_iconst C dX7_setSlope_8 ?_
    exact z_ireturn C dX7_setSlope_9 (Nat.le_of_ble_eq_true rfl) (Nat.le_of_ble_eq_true rfl) ⟨rfl, _, _, _, _, hM1, by unfold o_setSlope; (repeat' (first | rfl | (exfalso; omega) | split)) <;> (refine Prod.ext ?_ (Prod.ext ?_ ?_) <;> first | rfl | omega | (dsimp only; omega))⟩

set_option maxRecDepth 100000 in
set_option maxHeartbeats 200000 in
theorem c_X7_setWeather {la : Launch} {G : zG} {X : (Nat → Prop) → State → Prop} (hX : zX X) {L : List Nat} {f : Nat → va_E} {o : Nat} {ad : Nat → Nat} {μ : zMu} {t : Int} {u v : Int → Int} (hM : MR G L f o ad μ t u v) (hI : MI μ) (d x : Int) (hx : zR d) (hz : zR x) : zM la G X yX7_setWeather (.code yX7_setWeather cX7_setWeather 4 (some .int) :: zT) 3 0 0 [.ref o, .int (iI d), .int (iI x)] L f zeI (fun z L' f' => L = L' ∧ ∃ t' μ' u' v', MR G L f' o ad μ' t' u' v' ∧ o_setWeather μ d x = (t', if t' = 0 then z else 0, μ')) := by
  refine zM_intro hX (by decide) (Nat.le_of_ble_eq_true rfl) (fun pZ eZ sZ mZ aZ bZ hZ cZ AZ C hini => ?_)
  change ZW G pZ la eZ (zRm 3 0 0) sZ mZ aZ bZ hZ cZ AZ 4 0 0 _ L f 0 [(0, .ref o), (1, .int (iI d)), (2, .int (iI x))] []
  have hn9 := hI.n
  have hNO : zNO = -2147483648 := rfl
  
  refine z_aload_n C 0 dX7_setWeather_0 rfl ?_
  refine z_iload_n C 1 dX7_setWeather_1 rfl ?_
  refine z_cV (As := [.int (iI d)]) C zc_X7_noDay (c_X7_noDay hX hM d (by omega) ) zl_6_195 (Nat.le_of_ble_eq_true rfl) (Nat.le_of_ble_eq_true rfl) (Nat.le_of_ble_eq_true rfl) (hM.1.1) (hM.1.2) rfl rfl rfl rfl (Nat.le_of_ble_eq_true rfl) dX7_setWeather_2 (fun z4 L5 f6 hz7 => ?_)
  obtain ⟨rfl, t2, hM1, he3⟩ := hz7
  change ZW G pZ la eZ (zRm 3 0 0) sZ mZ aZ bZ hZ cZ AZ 4 0 0 _ L f6 5 [(0, .ref o), (1, .int (iI d)), (2, .int (iI x))] [.int (iI z4)]
  refine z_if_eq C 10 dX7_setWeather_5 (by decide) (by omega) (fun h5 => ?_) (fun h5 => ?_)
  · refine z_iload_n C 2 dX7_setWeather_10 rfl ?_
    refine z_iconst C dX7_setWeather_11 ?_
    refine z_bipush C dX7_setWeather_12 (by decide) ?_
    refine z_cS (As := [.int (iI x), .int (iI 0), .int (iI 9)]) C zc_X7_isIn (c_X7_isIn hX x 0 9 (by omega) (by omega) (by omega)) zl_6_176 (Nat.le_of_ble_eq_true rfl) (Nat.le_of_ble_eq_true rfl) (Nat.le_of_ble_eq_true rfl) rfl rfl (Nat.le_of_ble_eq_true rfl) dX7_setWeather_14 (fun z8 L9 f10 hz11 => ?_)
    obtain ⟨hz11, rfl, rfl⟩ := hz11
    subst hz11
    change ZW G pZ la eZ (zRm 3 0 0) sZ mZ aZ bZ hZ cZ AZ 4 0 0 _ L f6 17 [(0, .ref o), (1, .int (iI d)), (2, .int (iI x))] [.int (iI (bI (0 ≤ x ∧ x ≤ 9)))]
    refine z_if_ne_b C 26 dX7_setWeather_17 (by decide) (fun h17 => ?_) (fun h17 => ?_)
    · refine z_aload_n C 0 dX7_setWeather_26 rfl ?_
      refine z_getf C 7 zin_X7 (hM1.1.1) (hM1.1.2) rfl (Nat.le_of_ble_eq_true rfl) zl_6_105 rfl rfl dX7_setWeather_27 ?_
      refine z_iload_n C 1 dX7_setWeather_30 rfl ?_
      refine z_iald C (MR_a7 hM1) (by omega) (by omega) (by omega) dX7_setWeather_31 ?_
      have hb12 := hI.J.b7 d (by omega) (by omega)
      refine z_nm (fun x13 hx13 => ?_)
      refine z_istore_n (ls' := [(3, .int (iI x13)), (0, .ref o), (1, .int (iI d)), (2, .int (iI x))]) C dX7_setWeather_32 (Nat.le_of_ble_eq_true rfl) rfl ?_
      refine z_aload_n C 1 dX7_setWeather_33 rfl ?_
      refine z_getf C 7 zin_X7 (hM1.1.1) (hM1.1.2) rfl (Nat.le_of_ble_eq_true rfl) zl_6_105 rfl rfl dX7_setWeather_34 ?_
      refine z_iload_n C 2 dX7_setWeather_37 rfl ?_
      refine z_iload_n C 3 dX7_setWeather_38 rfl ?_
      refine z_iast C (MR_a7 hM1) (by omega) (by omega) (by omega) dX7_setWeather_39 (fun f14 ha15 hk16 => ?_)
      have hM17 := MR_w7 hM1 ha15 hk16
      refine z_iload_n C 0 dX7_setWeather_40 rfl ?_
      exact z_ireturn C dX7_setWeather_41 (Nat.le_of_ble_eq_true rfl) (Nat.le_of_ble_eq_true rfl) ⟨rfl, _, _, _, _, hM17, by unfold o_setWeather; (repeat' (first | rfl | (exfalso; omega) | split)) <;> (refine Prod.ext ?_ (Prod.ext ?_ ?_) <;> first | rfl | omega | (dsimp only; omega))⟩
    · refine z_aload_n C 0 dX7_setWeather_20 rfl ?_
      refine z_iconst C dX7_setWeather_21 ?_
      refine z_cV (As := [.int (iI 2)]) C zc_X7_refuse (c_X7_refuse hX hM1 2) zl_6_179 (Nat.le_of_ble_eq_true rfl) (Nat.le_of_ble_eq_true rfl) (Nat.le_of_ble_eq_true rfl) (hM1.1.1) (hM1.1.2) rfl rfl rfl rfl (Nat.le_of_ble_eq_true rfl) dX7_setWeather_22 (fun z19 L20 f21 hz22 => ?_)
      obtain ⟨rfl, rfl, hM18⟩ := hz22
      change ZW G pZ la eZ (zRm 3 0 0) sZ mZ aZ bZ hZ cZ AZ 4 0 0 _ L f21 25 [(0, .ref o), (1, .int (iI d)), (2, .int (iI x))] [.int (iI 0)]
      exact z_ireturn C dX7_setWeather_25 (Nat.le_of_ble_eq_true rfl) (Nat.le_of_ble_eq_true rfl) ⟨rfl, _, _, _, _, hM18, by unfold o_setWeather; (repeat' (first | rfl | (exfalso; omega) | split)) <;> (refine Prod.ext ?_ (Prod.ext ?_ ?_) <;> first | rfl | omega | (dsimp only; omega))⟩
  · refine z_iconst C dX7_setWeather_8 ?_
    exact z_ireturn C dX7_setWeather_9 (Nat.le_of_ble_eq_true rfl) (Nat.le_of_ble_eq_true rfl) ⟨rfl, _, _, _, _, hM1, by unfold o_setWeather; (repeat' (first | rfl | (exfalso; omega) | split)) <;> (refine Prod.ext ?_ (Prod.ext ?_ ?_) <;> first | rfl | omega | (dsimp only; omega))⟩

set_option maxRecDepth 100000 in
set_option maxHeartbeats 200000 in
theorem c_X7_water {la : Launch} {G : zG} {X : (Nat → Prop) → State → Prop} (hX : zX X) {L : List Nat} {f : Nat → va_E} {o : Nat} {ad : Nat → Nat} {μ : zMu} {t : Int} {u v : Int → Int} (hM : MR G L f o ad μ t u v) (hI : MJ μ) (c d h : Int) (hc : 0 ≤ c ∧ c ≤ 19) (hd : 0 ≤ d ∧ d ≤ 9) (hh : 0 ≤ h ∧ h ≤ 23) : zM la G X yX7_water (.code yX7_water cX7_water 4 (some .int) :: zT) 2 0 0 [.ref o, .int (iI c), .int (iI d), .int (iI h)] L f zeI (zRd L f (fun z => z = spWater μ c d h)) := by
  refine zM_intro hX (by decide) (Nat.le_of_ble_eq_true rfl) (fun pZ eZ sZ mZ aZ bZ hZ cZ AZ C hini => ?_)
  change ZW G pZ la eZ (zRm 2 0 0) sZ mZ aZ bZ hZ cZ AZ 4 0 0 _ L f 0 [(0, .ref o), (1, .int (iI c)), (2, .int (iI d)), (3, .int (iI h))] []
  have hn9 := hI.n
  have hNO : zNO = -2147483648 := rfl
  have hb6 := hI.b6 d (by omega) (by omega)
  have h1 : -38 ≤ μ 6 d * c ∧ μ 6 d * c ≤ 38 := by
    have a1 : μ 6 d * c ≤ 2 * c := Int.mul_le_mul_of_nonneg_right hb6.2 hc.1
    have a2 : -2 * c ≤ μ 6 d * c := Int.mul_le_mul_of_nonneg_right hb6.1 hc.1
    omega
  refine z_aload_n C 0 dX7_water_0 rfl ?_
  refine z_getf C 5 zin_X7 (hM.1.1) (hM.1.2) rfl (Nat.le_of_ble_eq_true rfl) zl_6_103 rfl rfl dX7_water_1 ?_
  refine z_bipush C dX7_water_4 (by decide) ?_
  refine z_iload_n C 2 dX7_water_6 rfl ?_
  refine z_imul C dX7_water_7 ?_
  refine z_iload_n C 3 dX7_water_8 rfl ?_
  refine z_iadd C dX7_water_9 ?_
  refine z_iald C (MR_a5 hM) (by omega) (by omega) (by omega) dX7_water_10 ?_
  have hb1 := hI.b5 ((24 * d) + h) (by omega) (by omega)
  refine z_aload_n C 0 dX7_water_11 rfl ?_
  refine z_getf C 6 zin_X7 (hM.1.1) (hM.1.2) rfl (Nat.le_of_ble_eq_true rfl) zl_6_104 rfl rfl dX7_water_12 ?_
  refine z_iload_n C 2 dX7_water_15 rfl ?_
  refine z_iald C (MR_a6 hM) (by omega) (by omega) (by omega) dX7_water_16 ?_
  have hb2 := hI.b6 d (by omega) (by omega)
  refine z_iload_n C 1 dX7_water_17 rfl ?_
  refine z_imul C dX7_water_18 ?_
  refine z_iconst C dX7_water_19 ?_
  refine z_cS (As := [.int (iI (((μ 6) d) * c)), .int (iI 4)]) C zc_X7_down (c_X7_down hX (((μ 6) d) * c) 4 (by omega) (by omega)) zl_6_207 (Nat.le_of_ble_eq_true rfl) (Nat.le_of_ble_eq_true rfl) (Nat.le_of_ble_eq_true rfl) rfl rfl (Nat.le_of_ble_eq_true rfl) dX7_water_20 (fun z3 L4 f5 hz6 => ?_)
  obtain ⟨hz6, rfl, rfl⟩ := hz6
  subst hz6
  change ZW G pZ la eZ (zRm 2 0 0) sZ mZ aZ bZ hZ cZ AZ 4 0 0 _ L f 23 [(0, .ref o), (1, .int (iI c)), (2, .int (iI d)), (3, .int (iI h))] [.int (iI ((((μ 6) d) * c) / 4)), .int (iI ((μ 5) ((24 * d) + h)))]
  refine z_iadd C dX7_water_23 ?_
  exact z_ireturn C dX7_water_24 (Nat.le_of_ble_eq_true rfl) (Nat.le_of_ble_eq_true rfl) ⟨rfl, rfl, rfl⟩

set_option maxRecDepth 100000 in
set_option maxHeartbeats 200000 in
theorem c_X7_waterAt {la : Launch} {G : zG} {X : (Nat → Prop) → State → Prop} (hX : zX X) {L : List Nat} {f : Nat → va_E} {o : Nat} {ad : Nat → Nat} {μ : zMu} {t : Int} {u v : Int → Int} (hM : MR G L f o ad μ t u v) (hI : MI μ) (c d h : Int) (hc : zR c) (hd : zR d) (hh : zR h) : zM la G X yX7_waterAt (.code yX7_waterAt cX7_waterAt 4 (some .int) :: zT) 3 0 0 [.ref o, .int (iI c), .int (iI d), .int (iI h)] L f zeI (fun z L' f' => L = L' ∧ ∃ t' μ' u' v', MR G L f' o ad μ' t' u' v' ∧ o_waterAt μ c d h = (t', if t' = 0 then z else 0, μ')) := by
  refine zM_intro hX (by decide) (Nat.le_of_ble_eq_true rfl) (fun pZ eZ sZ mZ aZ bZ hZ cZ AZ C hini => ?_)
  change ZW G pZ la eZ (zRm 3 0 0) sZ mZ aZ bZ hZ cZ AZ 4 0 0 _ L f 0 [(0, .ref o), (1, .int (iI c)), (2, .int (iI d)), (3, .int (iI h))] []
  have hn9 := hI.n
  have hNO : zNO = -2147483648 := rfl
  
  refine z_aload_n C 0 dX7_waterAt_0 rfl ?_
  refine z_iload_n C 1 dX7_waterAt_1 rfl ?_
  refine z_iconst C dX7_waterAt_2 ?_
  refine z_cV (As := [.int (iI c), .int (iI 0)]) C zc_X7_noCell (c_X7_noCell hX hM c 0 (by omega) (by omega) ) zl_6_172 (Nat.le_of_ble_eq_true rfl) (Nat.le_of_ble_eq_true rfl) (Nat.le_of_ble_eq_true rfl) (hM.1.1) (hM.1.2) rfl rfl rfl rfl (Nat.le_of_ble_eq_true rfl) dX7_waterAt_3 (fun z4 L5 f6 hz7 => ?_)
  obtain ⟨rfl, t2, hM1, he3⟩ := hz7
  change ZW G pZ la eZ (zRm 3 0 0) sZ mZ aZ bZ hZ cZ AZ 4 0 0 _ L f6 6 [(0, .ref o), (1, .int (iI c)), (2, .int (iI d)), (3, .int (iI h))] [.int (iI z4)]
  refine z_if_ne C 18 dX7_waterAt_6 (by decide) (by omega) (fun h6 => ?_) (fun h6 => ?_)
  · refine z_iconst C dX7_waterAt_18 ?_
    exact z_ireturn C dX7_waterAt_19 (Nat.le_of_ble_eq_true rfl) (Nat.le_of_ble_eq_true rfl) ⟨rfl, _, _, _, _, hM1, by unfold o_waterAt; (repeat' (first | rfl | (exfalso; omega) | split)) <;> (refine Prod.ext ?_ (Prod.ext ?_ ?_) <;> first | rfl | omega | (dsimp only; omega))⟩
  · refine z_aload_n C 0 dX7_waterAt_9 rfl ?_
    refine z_iload_n C 2 dX7_waterAt_10 rfl ?_
    refine z_iload_n C 3 dX7_waterAt_11 rfl ?_
    refine z_cV (As := [.int (iI d), .int (iI h)]) C zc_X7_noHour (c_X7_noHour hX hM1 d h (by omega) (by omega) ) zl_6_187 (Nat.le_of_ble_eq_true rfl) (Nat.le_of_ble_eq_true rfl) (Nat.le_of_ble_eq_true rfl) (hM1.1.1) (hM1.1.2) rfl rfl rfl rfl (Nat.le_of_ble_eq_true rfl) dX7_waterAt_12 (fun z11 L12 f13 hz14 => ?_)
    obtain ⟨rfl, t9, hM8, he10⟩ := hz14
    change ZW G pZ la eZ (zRm 3 0 0) sZ mZ aZ bZ hZ cZ AZ 4 0 0 _ L f13 15 [(0, .ref o), (1, .int (iI c)), (2, .int (iI d)), (3, .int (iI h))] [.int (iI z11)]
    refine z_if_eq C 20 dX7_waterAt_15 (by decide) (by omega) (fun h15 => ?_) (fun h15 => ?_)
    · refine z_aload_n C 0 dX7_waterAt_20 rfl ?_
      refine z_iload_n C 1 dX7_waterAt_21 rfl ?_
      refine z_iload_n C 2 dX7_waterAt_22 rfl ?_
      refine z_iload_n C 3 dX7_waterAt_23 rfl ?_
      refine z_cV (As := [.int (iI c), .int (iI d), .int (iI h)]) C zc_X7_water (c_X7_water hX hM8 hI.J c d h (by omega) (by omega) (by omega)) zl_6_203 (Nat.le_of_ble_eq_true rfl) (Nat.le_of_ble_eq_true rfl) (Nat.le_of_ble_eq_true rfl) (hM8.1.1) (hM8.1.2) rfl rfl rfl rfl (Nat.le_of_ble_eq_true rfl) dX7_waterAt_24 (fun z15 L16 f17 hz18 => ?_)
      obtain ⟨hz18, rfl, rfl⟩ := hz18
      subst hz18
      change ZW G pZ la eZ (zRm 3 0 0) sZ mZ aZ bZ hZ cZ AZ 4 0 0 _ L f13 27 [(0, .ref o), (1, .int (iI c)), (2, .int (iI d)), (3, .int (iI h))] [.int (iI (spWater μ c d h))]
      exact z_ireturn C dX7_waterAt_27 (Nat.le_of_ble_eq_true rfl) (Nat.le_of_ble_eq_true rfl) ⟨rfl, _, _, _, _, hM8, by unfold o_waterAt; (repeat' (first | rfl | (exfalso; omega) | split)) <;> (refine Prod.ext ?_ (Prod.ext ?_ ?_) <;> first | rfl | omega | (dsimp only; omega))⟩
    · refine z_iconst C dX7_waterAt_18 ?_
      exact z_ireturn C dX7_waterAt_19 (Nat.le_of_ble_eq_true rfl) (Nat.le_of_ble_eq_true rfl) ⟨rfl, _, _, _, _, hM8, by unfold o_waterAt; (repeat' (first | rfl | (exfalso; omega) | split)) <;> (refine Prod.ext ?_ (Prod.ext ?_ ?_) <;> first | rfl | omega | (dsimp only; omega))⟩
