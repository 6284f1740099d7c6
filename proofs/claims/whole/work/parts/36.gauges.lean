set_option maxRecDepth 100000 in
set_option maxHeartbeats 200000 in
theorem c_areFull {la : Launch} {G : zG} {X : (Nat → Prop) → State → Prop} (hX : zX X) {L : List Nat} {f : Nat → va_E} {w p : Nat} {n : Int} {ga gr gx : Nat → Nat} {k : Int → Int} {σ : Nat → Int → Int} (hGs : zGs G L f w p n ga gr gx k σ)  (hn : 0 ≤ n ∧ n ≤ 3) : zM la G X yX2_areFull (.code yX2_areFull cX2_areFull 1 (some .boolean) :: zT) 0 0 0 [.ref w] L f zeI (zRd L f (fun z => z = bI (3 ≤ n))) := by
  refine zM_intro hX (by decide) (Nat.le_of_ble_eq_true rfl) (fun pZ eZ sZ mZ aZ bZ hZ cZ AZ C hini => ?_)
  change ZW G pZ la eZ (zRm 0 0 0) sZ mZ aZ bZ hZ cZ AZ 1 0 0 _ L f 0 [(0, .ref w)] []
  refine z_aload_n C 0 dX2_areFull_0 rfl ?_
  refine z_getf C 1 zin_X2 (hGs.1.1) (hGs.1.2) rfl (Nat.le_of_ble_eq_true rfl) zl_1_85 rfl rfl dX2_areFull_1 ?_
  refine z_aload_n C 0 dX2_areFull_4 rfl ?_
  refine z_getf C 0 zin_X2 (hGs.1.1) (hGs.1.2) rfl (Nat.le_of_ble_eq_true rfl) zl_1_84 rfl rfl dX2_areFull_5 ?_
  refine z_alenP C (hGs.2.1) rfl dX2_areFull_8 ?_
  refine z_icmp_lt C 16 dX2_areFull_9 (by decide) (by omega) (by omega) (fun h9 => ?_) (fun h9 => ?_)
  · refine z_iconst C dX2_areFull_16 ?_
    exact z_zreturn C (by first | omega | (unfold bI; split <;> omega)) dX2_areFull_17 (Nat.le_of_ble_eq_true rfl) (Nat.le_of_ble_eq_true rfl) ⟨by unfold bI; first | (rw [if_pos (by omega)]; done) | (rw [if_neg (by omega)]; done), rfl, rfl⟩
  · refine z_iconst C dX2_areFull_12 ?_
    refine z_goto C 17 dX2_areFull_13 (by decide) ?_
    exact z_zreturn C (by first | omega | (unfold bI; split <;> omega)) dX2_areFull_17 (Nat.le_of_ble_eq_true rfl) (Nat.le_of_ble_eq_true rfl) ⟨by unfold bI; first | (rw [if_pos (by omega)]; done) | (rw [if_neg (by omega)]; done), rfl, rfl⟩

set_option maxRecDepth 100000 in
set_option maxHeartbeats 200000 in
theorem c_gaugeOrNull {la : Launch} {G : zG} {X : (Nat → Prop) → State → Prop} (hX : zX X) {L : List Nat} {f : Nat → va_E} {w p : Nat} {n : Int} {ga gr gx : Nat → Nat} {k : Int → Int} {σ : Nat → Int → Int} (hGs : zGs G L f w p n ga gr gx k σ) (i : Int) (hn : 0 ≤ n ∧ n ≤ 3) (hi : zR i) : zM la G X yX2_gaugeOrNull (.code yX2_gaugeOrNull cX2_gaugeOrNull 2 (some (.object "SwathSurvey$Gauge")) :: zT) 0 0 0 [.ref w, .int (iI i)] L f zeQ (zRd L f (fun z => z = if 0 ≤ i ∧ i < n then some (ga i.toNat) else none)) := by
  refine zM_intro hX (by decide) (Nat.le_of_ble_eq_true rfl) (fun pZ eZ sZ mZ aZ bZ hZ cZ AZ C hini => ?_)
  change ZW G pZ la eZ (zRm 0 0 0) sZ mZ aZ bZ hZ cZ AZ 2 0 0 _ L f 0 [(0, .ref w), (1, .int (iI i))] []
  refine z_iload_n C 1 dX2_gaugeOrNull_0 rfl ?_
  refine z_if_lt C 30 dX2_gaugeOrNull_1 (by decide) (by omega) (fun h1 => ?_) (fun h1 => ?_)
  · refine z_aconstN C dX2_gaugeOrNull_30 ?_
    exact z_qreturn C dX2_gaugeOrNull_31 (Nat.le_of_ble_eq_true rfl) (Nat.le_of_ble_eq_true rfl) ⟨by first | (rw [if_neg (by omega)]; done) | (dsimp only; rw [if_pos (by omega), if_pos (by omega)]; done), rfl, rfl⟩
  · refine z_iload_n C 1 dX2_gaugeOrNull_4 rfl ?_
    refine z_aload_n C 0 dX2_gaugeOrNull_5 rfl ?_
    refine z_getf C 1 zin_X2 (hGs.1.1) (hGs.1.2) rfl (Nat.le_of_ble_eq_true rfl) zl_1_85 rfl rfl dX2_gaugeOrNull_6 ?_
    refine z_icmp_ge C 30 dX2_gaugeOrNull_9 (by decide) (by omega) (by omega) (fun h9 => ?_) (fun h9 => ?_)
    · refine z_aconstN C dX2_gaugeOrNull_30 ?_
      exact z_qreturn C dX2_gaugeOrNull_31 (Nat.le_of_ble_eq_true rfl) (Nat.le_of_ble_eq_true rfl) ⟨by first | (rw [if_neg (by omega)]; done) | (dsimp only; rw [if_pos (by omega), if_pos (by omega)]; done), rfl, rfl⟩
    · refine z_iload_n C 1 dX2_gaugeOrNull_12 rfl ?_
      refine z_aload_n C 0 dX2_gaugeOrNull_13 rfl ?_
      refine z_getf C 0 zin_X2 (hGs.1.1) (hGs.1.2) rfl (Nat.le_of_ble_eq_true rfl) zl_1_84 rfl rfl dX2_gaugeOrNull_14 ?_
      refine z_alenP C (hGs.2.1) rfl dX2_gaugeOrNull_17 ?_
      refine z_icmp_ge C 30 dX2_gaugeOrNull_18 (by decide) (by omega) (by omega) (fun h18 => ?_) (fun h18 => ?_)
      · refine z_aconstN C dX2_gaugeOrNull_30 ?_
        exact z_qreturn C dX2_gaugeOrNull_31 (Nat.le_of_ble_eq_true rfl) (Nat.le_of_ble_eq_true rfl) ⟨by first | (rw [if_neg (by omega)]; done) | (dsimp only; rw [if_pos (by omega), if_pos (by omega)]; done), rfl, rfl⟩
      · refine z_aload_n C 0 dX2_gaugeOrNull_21 rfl ?_
        refine z_getf C 0 zin_X2 (hGs.1.1) (hGs.1.2) rfl (Nat.le_of_ble_eq_true rfl) zl_1_84 rfl rfl dX2_gaugeOrNull_22 ?_
        refine z_iload_n C 1 dX2_gaugeOrNull_25 rfl ?_
        refine z_aald C (hGs.2.1) rfl (Nat.le_of_ble_eq_true rfl) (by omega) (by omega) dX2_gaugeOrNull_26 ?_
        refine z_goto C 31 dX2_gaugeOrNull_27 (by decide) ?_
        exact z_qreturn C dX2_gaugeOrNull_31 (Nat.le_of_ble_eq_true rfl) (Nat.le_of_ble_eq_true rfl) ⟨by first | (rw [if_neg (by omega)]; done) | (dsimp only; rw [if_pos (by omega), if_pos (by omega)]; done), rfl, rfl⟩

set_option maxRecDepth 100000 in
set_option maxHeartbeats 200000 in
theorem c_gaugeAt {la : Launch} {G : zG} {X : (Nat → Prop) → State → Prop} (hX : zX X) {L : List Nat} {f : Nat → va_E} {w p : Nat} {n : Int} {ga gr gx : Nat → Nat} {k : Int → Int} {σ : Nat → Int → Int} (hGs : zGs G L f w p n ga gr gx k σ) (i : Int) (hn : 0 ≤ n ∧ n ≤ 3) (hi : 0 ≤ i ∧ i < n) : zM la G X yX2_gaugeOrNull (.code yX2_gaugeOrNull cX2_gaugeOrNull 2 (some (.object "SwathSurvey$Gauge")) :: zT) 0 0 0 [.ref w, .int (iI i)] L f zeQ (zRd L f (fun z => z = some (ga i.toNat))) := by
  refine zM_intro hX (by decide) (Nat.le_of_ble_eq_true rfl) (fun pZ eZ sZ mZ aZ bZ hZ cZ AZ C hini => ?_)
  change ZW G pZ la eZ (zRm 0 0 0) sZ mZ aZ bZ hZ cZ AZ 2 0 0 _ L f 0 [(0, .ref w), (1, .int (iI i))] []
  refine z_iload_n C 1 dX2_gaugeOrNull_0 rfl ?_
  refine z_if_lt C 30 dX2_gaugeOrNull_1 (by decide) (by omega) (fun h1 => ?_) (fun h1 => ?_)
  · exfalso; omega
  · refine z_iload_n C 1 dX2_gaugeOrNull_4 rfl ?_
    refine z_aload_n C 0 dX2_gaugeOrNull_5 rfl ?_
    refine z_getf C 1 zin_X2 (hGs.1.1) (hGs.1.2) rfl (Nat.le_of_ble_eq_true rfl) zl_1_85 rfl rfl dX2_gaugeOrNull_6 ?_
    refine z_icmp_ge C 30 dX2_gaugeOrNull_9 (by decide) (by omega) (by omega) (fun h9 => ?_) (fun h9 => ?_)
    · exfalso; omega
    · refine z_iload_n C 1 dX2_gaugeOrNull_12 rfl ?_
      refine z_aload_n C 0 dX2_gaugeOrNull_13 rfl ?_
      refine z_getf C 0 zin_X2 (hGs.1.1) (hGs.1.2) rfl (Nat.le_of_ble_eq_true rfl) zl_1_84 rfl rfl dX2_gaugeOrNull_14 ?_
      refine z_alenP C (hGs.2.1) rfl dX2_gaugeOrNull_17 ?_
      refine z_icmp_ge C 30 dX2_gaugeOrNull_18 (by decide) (by omega) (by omega) (fun h18 => ?_) (fun h18 => ?_)
      · exfalso; omega
      · refine z_aload_n C 0 dX2_gaugeOrNull_21 rfl ?_
        refine z_getf C 0 zin_X2 (hGs.1.1) (hGs.1.2) rfl (Nat.le_of_ble_eq_true rfl) zl_1_84 rfl rfl dX2_gaugeOrNull_22 ?_
        refine z_iload_n C 1 dX2_gaugeOrNull_25 rfl ?_
        refine z_aald C (hGs.2.1) rfl (Nat.le_of_ble_eq_true rfl) (by omega) (by omega) dX2_gaugeOrNull_26 ?_
        refine z_goto C 31 dX2_gaugeOrNull_27 (by decide) ?_
        exact z_qreturn C dX2_gaugeOrNull_31 (Nat.le_of_ble_eq_true rfl) (Nat.le_of_ble_eq_true rfl) ⟨by dsimp only; rw [if_pos (by omega)], rfl, rfl⟩

set_option maxRecDepth 100000 in
set_option maxHeartbeats 200000 in
theorem c_standIn {la : Launch} {G : zG} {X : (Nat → Prop) → State → Prop} (hX : zX X) {L : List Nat} {f : Nat → va_E} {w p : Nat} {n : Int} {ga gr gx : Nat → Nat} {k : Int → Int} {σ : Nat → Int → Int} (hGs : zGs G L f w p n ga gr gx k σ) (c : Int) (hn : 0 ≤ n ∧ n ≤ 3) (hk : ∀ g : Int, 0 ≤ g → g < n → 0 ≤ k g ∧ k g ≤ 19) (hc : zR c) : zM la G X yX2_standIn (.code yX2_standIn cX2_standIn 4 (some .boolean) :: zT) 1 0 0 [.ref w, .int (iI c)] L f zeI (zRd L f (fun z => z = 1 ∧ (∃ g, 0 ≤ g ∧ g < n ∧ k g = c) ∨ z = 0 ∧ ¬ (∃ g, 0 ≤ g ∧ g < n ∧ k g = c))) := by
  refine zM_intro hX (by decide) (Nat.le_of_ble_eq_true rfl) (fun pZ eZ sZ mZ aZ bZ hZ cZ AZ C hini => ?_)
  change ZW G pZ la eZ (zRm 1 0 0) sZ mZ aZ bZ hZ cZ AZ 4 0 0 _ L f 0 [(0, .ref w), (1, .int (iI c))] []
  refine z_iconst C dX2_standIn_0 ?_
  refine z_istore_n (ls' := [(2, .int (iI 0)), (0, .ref w), (1, .int (iI c))]) C dX2_standIn_1 (Nat.le_of_ble_eq_true rfl) rfl ?_
  have key2 : ∀ (n2 : Nat) (g : Int) , (0 ≤ g ∧ g ≤ n ∧ ∀ j, 0 ≤ j → j < g → k j ≠ c) → n - g < (n2 : Int) → ZW G pZ la eZ (zRm 1 0 0) sZ mZ aZ bZ hZ cZ AZ 4 0 0 (MQ bZ (zQ G zeI (zRd L f (fun z => z = 1 ∧ (∃ g, 0 ≤ g ∧ g < n ∧ k g = c) ∨ z = 0 ∧ ¬ (∃ g, 0 ≤ g ∧ g < n ∧ k g = c))) AZ) aZ sZ 0 0 AZ) L f 2 [(0, .ref w), (1, .int (iI c)), (2, .int (iI g))] [] := by
    intro n2
    induction n2 with
    | zero => intro g  hi2 hn2; exfalso; omega
    | succ n2 ih2 =>
      intro g  hi2 hn2
      obtain ⟨hg0, hg1, hall⟩ := hi2
      refine z_iload_n C 2 dX2_standIn_2 rfl ?_
      refine z_aload_n C 0 dX2_standIn_3 rfl ?_
      refine z_getf C 1 zin_X2 (hGs.1.1) (hGs.1.2) rfl (Nat.le_of_ble_eq_true rfl) zl_1_85 rfl rfl dX2_standIn_4 ?_
      refine z_icmp_ge C 36 dX2_standIn_7 (by decide) (by omega) (by omega) (fun h7 => ?_) (fun h7 => ?_)
      · refine z_iconst C dX2_standIn_36 ?_
        exact z_zreturn C (by first | omega | (unfold bI; split <;> omega)) dX2_standIn_37 (Nat.le_of_ble_eq_true rfl) (Nat.le_of_ble_eq_true rfl) ⟨Or.inr ⟨rfl, fun ⟨j, q1, q2, q3⟩ => hall j q1 (by omega) q3⟩, rfl, rfl⟩
      · refine z_aload_n C 0 dX2_standIn_10 rfl ?_
        refine z_iload_n C 2 dX2_standIn_11 rfl ?_
        refine z_cV (As := [.int (iI g)]) C zc_X2_gaugeOrNull (c_gaugeAt hX hGs g hn (by omega)) zl_2_32 (Nat.le_of_ble_eq_true rfl) (Nat.le_of_ble_eq_true rfl) (Nat.le_of_ble_eq_true rfl) (hGs.1.1) (hGs.1.2) rfl rfl rfl rfl (Nat.le_of_ble_eq_true rfl) dX2_standIn_12 (fun z1 L2 f3 hz4 => ?_)
        obtain ⟨hz4, rfl, rfl⟩ := hz4
        subst hz4
        change ZW G pZ la eZ (zRm 1 0 0) sZ mZ aZ bZ hZ cZ AZ 4 0 0 _ L f 15 [(0, .ref w), (1, .int (iI c)), (2, .int (iI g))] [.ref (ga (g).toNat)]
        refine z_astore_n (ls' := [(3, .ref (ga (g).toNat)), (0, .ref w), (1, .int (iI c)), (2, .int (iI g))]) C dX2_standIn_15 (Nat.le_of_ble_eq_true rfl) rfl ?_
        refine z_aload_n C 0 dX2_standIn_16 rfl ?_
        refine z_ifnullr C dX2_standIn_17 ?_
        refine z_aload_n C 0 dX2_standIn_20 rfl ?_
        refine z_cV (As := []) C zc_X1_place (c_place hX (hGs.2.2 (g).toNat (by omega))) zl_2_66 (Nat.le_of_ble_eq_true rfl) (Nat.le_of_ble_eq_true rfl) (Nat.le_of_ble_eq_true rfl) ((hGs.2.2 (g).toNat (by omega)).1.1) ((hGs.2.2 (g).toNat (by omega)).1.2) rfl rfl rfl rfl (Nat.le_of_ble_eq_true rfl) dX2_standIn_21 (fun z5 L6 f7 hz8 => ?_)
        obtain ⟨hz8, rfl, rfl⟩ := hz8
        subst hz8
        have hkg : k (((g).toNat : Nat) : Int) = k g := by rw [Int.toNat_of_nonneg (by omega)]
        have hkr := hk (g) (by omega) (by omega)
        change ZW G pZ la eZ (zRm 1 0 0) sZ mZ aZ bZ hZ cZ AZ 4 0 0 _ L f 24 [(3, .ref (ga (g).toNat)), (0, .ref w), (1, .int (iI c)), (2, .int (iI g))] [.int (iI (k (((g).toNat : Nat) : Int)))]
        refine z_iload_n C 2 dX2_standIn_24 rfl ?_
        refine z_icmp_ne C 30 dX2_standIn_25 (by decide) (by omega) (by omega) (fun h25 => ?_) (fun h25 => ?_)
        · refine z_iinc (ls' := [(2, .int (iI (g + 1))), (3, .ref (ga (g).toNat)), (0, .ref w), (1, .int (iI c))]) C 3 dX2_standIn_30 rfl (Nat.le_of_ble_eq_true rfl) rfl ?_
          refine z_goto C 2 dX2_standIn_33 (by decide) ?_
          refine z_perm [2, 3, 0] rfl ?_
          exact ih2 _  ⟨by omega, by omega, fun j q1 q2 => by rcases Int.lt_or_eq_of_le (show j ≤ g by omega) with q | q; exact hall j q1 q; rw [q]; omega⟩ (by omega)
        · refine z_iconst C dX2_standIn_28 ?_
          exact z_zreturn C (by first | omega | (unfold bI; split <;> omega)) dX2_standIn_29 (Nat.le_of_ble_eq_true rfl) (Nat.le_of_ble_eq_true rfl) ⟨Or.inl ⟨rfl, g, by omega, by omega, by omega⟩, rfl, rfl⟩
  refine z_perm [1, 2, 0] rfl ?_
  exact key2 2000 _  ⟨by omega, by omega, fun j _ _ => by omega⟩ (by omega)
