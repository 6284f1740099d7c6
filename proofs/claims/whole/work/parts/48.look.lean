set_option maxRecDepth 100000 in
set_option maxHeartbeats 200000 in
theorem c_lineOrNull {la : Launch} {G : zG} {X : (Nat → Prop) → State → Prop} (hX : zX X) {L : List Nat} {f : Nat → va_E} {o : Nat} {ω : Nat → Nat → Nat} {μ : zMu} {ch : Int → Int} {rd : Nat → Int → Int} {tx : List Int} (hR : SR G L f o ω μ ch rd tx) (i : Int) (hI : MI μ) (hi : zR i) : zM la G X yX6_lineOrNull (.code yX6_lineOrNull cX6_lineOrNull 2 (some (.object "SwathSurvey$Line")) :: zT) 0 0 0 [.ref o, .int (iI i)] L f zeQ (zRd L f (fun z => z = if 0 ≤ i ∧ i < μ 2 0 then some (ω 5 i.toNat) else none)) := by
  refine zM_intro hX (by decide) (Nat.le_of_ble_eq_true rfl) (fun pZ eZ sZ mZ aZ bZ hZ cZ AZ C hini => ?_)
  change ZW G pZ la eZ (zRm 0 0 0) sZ mZ aZ bZ hZ cZ AZ 2 0 0 _ L f 0 [(0, .ref o), (1, .int (iI i))] []
  have hNO : zNO = -2147483648 := rfl
  have hn := hI.n
  have hSK : zSK (zK μ) := MJ_SK hI.J
  have hBl : ∀ j : Nat, (j : Int) < μ 2 0 → zLB μ j := fun j hj => hI.J.b12 j (by omega) (by omega)
  refine z_iload_n C 1 dX6_lineOrNull_0 rfl ?_
  refine z_if_lt C 30 dX6_lineOrNull_1 (by decide) (by omega) (fun h1 => ?_) (fun h1 => ?_)
  · refine z_aconstN C dX6_lineOrNull_30 ?_
    exact z_qreturn C dX6_lineOrNull_31 (Nat.le_of_ble_eq_true rfl) (Nat.le_of_ble_eq_true rfl) ⟨by first | (rw [if_neg (by omega)]; done) | (dsimp only; rw [if_pos (by omega), if_pos (by omega)]; done), rfl, rfl⟩
  · refine z_iload_n C 1 dX6_lineOrNull_4 rfl ?_
    refine z_aload_n C 0 dX6_lineOrNull_5 rfl ?_
    refine z_getf C 3 zin_X6 (hR.ob.1) (hR.ob.2) rfl (Nat.le_of_ble_eq_true rfl) zl_1_142 rfl rfl dX6_lineOrNull_6 ?_
    refine z_icmp_ge C 30 dX6_lineOrNull_9 (by decide) (by omega) (by omega) (fun h9 => ?_) (fun h9 => ?_)
    · refine z_aconstN C dX6_lineOrNull_30 ?_
      exact z_qreturn C dX6_lineOrNull_31 (Nat.le_of_ble_eq_true rfl) (Nat.le_of_ble_eq_true rfl) ⟨by first | (rw [if_neg (by omega)]; done) | (dsimp only; rw [if_pos (by omega), if_pos (by omega)]; done), rfl, rfl⟩
    · refine z_iload_n C 1 dX6_lineOrNull_12 rfl ?_
      refine z_aload_n C 0 dX6_lineOrNull_13 rfl ?_
      refine z_getf C 2 zin_X6 (hR.ob.1) (hR.ob.2) rfl (Nat.le_of_ble_eq_true rfl) zl_1_141 rfl rfl dX6_lineOrNull_14 ?_
      refine z_alenP C (hR.la) rfl dX6_lineOrNull_17 ?_
      refine z_icmp_ge C 30 dX6_lineOrNull_18 (by decide) (by omega) (by omega) (fun h18 => ?_) (fun h18 => ?_)
      · refine z_aconstN C dX6_lineOrNull_30 ?_
        exact z_qreturn C dX6_lineOrNull_31 (Nat.le_of_ble_eq_true rfl) (Nat.le_of_ble_eq_true rfl) ⟨by first | (rw [if_neg (by omega)]; done) | (dsimp only; rw [if_pos (by omega), if_pos (by omega)]; done), rfl, rfl⟩
      · refine z_aload_n C 0 dX6_lineOrNull_21 rfl ?_
        refine z_getf C 2 zin_X6 (hR.ob.1) (hR.ob.2) rfl (Nat.le_of_ble_eq_true rfl) zl_1_141 rfl rfl dX6_lineOrNull_22 ?_
        refine z_iload_n C 1 dX6_lineOrNull_25 rfl ?_
        refine z_aald C (hR.la) rfl (Nat.le_of_ble_eq_true rfl) (by omega) (by omega) dX6_lineOrNull_26 ?_
        refine z_goto C 31 dX6_lineOrNull_27 (by decide) ?_
        exact z_qreturn C dX6_lineOrNull_31 (Nat.le_of_ble_eq_true rfl) (Nat.le_of_ble_eq_true rfl) ⟨by first | (rw [if_neg (by omega)]; done) | (dsimp only; rw [if_pos (by omega), if_pos (by omega)]; done), rfl, rfl⟩

set_option maxRecDepth 100000 in
set_option maxHeartbeats 200000 in
theorem c_lineAt {la : Launch} {G : zG} {X : (Nat → Prop) → State → Prop} (hX : zX X) {L : List Nat} {f : Nat → va_E} {o : Nat} {ω : Nat → Nat → Nat} {μ : zMu} {ch : Int → Int} {rd : Nat → Int → Int} {tx : List Int} (hR : SR G L f o ω μ ch rd tx) (i : Int) (hI : MI μ) (hi : 0 ≤ i ∧ i < μ 2 0) : zM la G X yX6_lineOrNull (.code yX6_lineOrNull cX6_lineOrNull 2 (some (.object "SwathSurvey$Line")) :: zT) 0 0 0 [.ref o, .int (iI i)] L f zeQ (zRd L f (fun z => z = some (ω 5 i.toNat))) := by
  refine zM_intro hX (by decide) (Nat.le_of_ble_eq_true rfl) (fun pZ eZ sZ mZ aZ bZ hZ cZ AZ C hini => ?_)
  change ZW G pZ la eZ (zRm 0 0 0) sZ mZ aZ bZ hZ cZ AZ 2 0 0 _ L f 0 [(0, .ref o), (1, .int (iI i))] []
  have hNO : zNO = -2147483648 := rfl
  have hn := hI.n
  have hSK : zSK (zK μ) := MJ_SK hI.J
  have hBl : ∀ j : Nat, (j : Int) < μ 2 0 → zLB μ j := fun j hj => hI.J.b12 j (by omega) (by omega)
  refine z_iload_n C 1 dX6_lineOrNull_0 rfl ?_
  refine z_if_lt C 30 dX6_lineOrNull_1 (by decide) (by omega) (fun h1 => ?_) (fun h1 => ?_)
  · exfalso; omega
  · refine z_iload_n C 1 dX6_lineOrNull_4 rfl ?_
    refine z_aload_n C 0 dX6_lineOrNull_5 rfl ?_
    refine z_getf C 3 zin_X6 (hR.ob.1) (hR.ob.2) rfl (Nat.le_of_ble_eq_true rfl) zl_1_142 rfl rfl dX6_lineOrNull_6 ?_
    refine z_icmp_ge C 30 dX6_lineOrNull_9 (by decide) (by omega) (by omega) (fun h9 => ?_) (fun h9 => ?_)
    · exfalso; omega
    · refine z_iload_n C 1 dX6_lineOrNull_12 rfl ?_
      refine z_aload_n C 0 dX6_lineOrNull_13 rfl ?_
      refine z_getf C 2 zin_X6 (hR.ob.1) (hR.ob.2) rfl (Nat.le_of_ble_eq_true rfl) zl_1_141 rfl rfl dX6_lineOrNull_14 ?_
      refine z_alenP C (hR.la) rfl dX6_lineOrNull_17 ?_
      refine z_icmp_ge C 30 dX6_lineOrNull_18 (by decide) (by omega) (by omega) (fun h18 => ?_) (fun h18 => ?_)
      · exfalso; omega
      · refine z_aload_n C 0 dX6_lineOrNull_21 rfl ?_
        refine z_getf C 2 zin_X6 (hR.ob.1) (hR.ob.2) rfl (Nat.le_of_ble_eq_true rfl) zl_1_141 rfl rfl dX6_lineOrNull_22 ?_
        refine z_iload_n C 1 dX6_lineOrNull_25 rfl ?_
        refine z_aald C (hR.la) rfl (Nat.le_of_ble_eq_true rfl) (by omega) (by omega) dX6_lineOrNull_26 ?_
        refine z_goto C 31 dX6_lineOrNull_27 (by decide) ?_
        exact z_qreturn C dX6_lineOrNull_31 (Nat.le_of_ble_eq_true rfl) (Nat.le_of_ble_eq_true rfl) ⟨by dsimp only; rw [if_pos (by omega)], rfl, rfl⟩

set_option maxRecDepth 100000 in
set_option maxHeartbeats 200000 in
theorem c_hoursOn {la : Launch} {G : zG} {X : (Nat → Prop) → State → Prop} (hX : zX X) {L : List Nat} {f : Nat → va_E} {o : Nat} {ω : Nat → Nat → Nat} {μ : zMu} {ch : Int → Int} {rd : Nat → Int → Int} {tx : List Int} (hR : SR G L f o ω μ ch rd tx) (d : Int) (hI : MI μ) (hd : zR d) : zM la G X yX6_hoursOn (.code yX6_hoursOn cX6_hoursOn 5 (some .int) :: zT) 3 0 0 [.ref o, .int (iI d)] L f zeI (zRd L f (fun z => z = spHours μ d)) := by
  refine zM_intro hX (by decide) (Nat.le_of_ble_eq_true rfl) (fun pZ eZ sZ mZ aZ bZ hZ cZ AZ C hini => ?_)
  change ZW G pZ la eZ (zRm 3 0 0) sZ mZ aZ bZ hZ cZ AZ 5 0 0 _ L f 0 [(0, .ref o), (1, .int (iI d))] []
  have hNO : zNO = -2147483648 := rfl
  have hn := hI.n
  have hSK : zSK (zK μ) := MJ_SK hI.J
  have hBl : ∀ j : Nat, (j : Int) < μ 2 0 → zLB μ j := fun j hj => hI.J.b12 j (by omega) (by omega)
  refine z_iconst C dX6_hoursOn_0 ?_
  refine z_istore_n (ls' := [(2, .int (iI 0)), (0, .ref o), (1, .int (iI d))]) C dX6_hoursOn_1 (Nat.le_of_ble_eq_true rfl) rfl ?_
  refine z_iconst C dX6_hoursOn_2 ?_
  refine z_istore_n (ls' := [(3, .int (iI 0)), (2, .int (iI 0)), (0, .ref o), (1, .int (iI d))]) C dX6_hoursOn_3 (Nat.le_of_ble_eq_true rfl) rfl ?_
  have key4 : ∀ (n4 : Nat) (m : Int) (k : Int) , (0 ≤ k ∧ k ≤ μ 2 0 ∧ m = zsum (spHr μ d) k.toNat) → μ 2 0 - k < (n4 : Int) → ZW G pZ la eZ (zRm 3 0 0) sZ mZ aZ bZ hZ cZ AZ 5 0 0 (MQ bZ (zQ G zeI (zRd L f (fun z => z = spHours μ d)) AZ) aZ sZ 0 0 AZ) L f 4 [(0, .ref o), (1, .int (iI d)), (2, .int (iI m)), (3, .int (iI k))] [] := by
    intro n4
    induction n4 with
    | zero => intro m k  hi4 hn4; exfalso; omega
    | succ n4 ih4 =>
      intro m k  hi4 hn4
      obtain ⟨hk0, hk1, hm⟩ := hi4
      refine z_iload_n C 3 dX6_hoursOn_4 rfl ?_
      refine z_aload_n C 0 dX6_hoursOn_5 rfl ?_
      refine z_getf C 3 zin_X6 (hR.ob.1) (hR.ob.2) rfl (Nat.le_of_ble_eq_true rfl) zl_1_142 rfl rfl dX6_hoursOn_6 ?_
      refine z_icmp_ge C 49 dX6_hoursOn_9 (by decide) (by omega) (by omega) (fun h9 => ?_) (fun h9 => ?_)
      · refine z_iload_n C 2 dX6_hoursOn_49 rfl ?_
        exact z_ireturn C dX6_hoursOn_50 (Nat.le_of_ble_eq_true rfl) (Nat.le_of_ble_eq_true rfl) ⟨by rw [hm, show k = μ 2 0 by omega]; rfl, rfl, rfl⟩
      · refine z_aload_n C 0 dX6_hoursOn_12 rfl ?_
        refine z_iload_n C 3 dX6_hoursOn_13 rfl ?_
        refine z_cV (As := [.int (iI k)]) C zc_X6_lineOrNull (c_lineAt hX hR k hI (by omega)) zl_1_178 (Nat.le_of_ble_eq_true rfl) (Nat.le_of_ble_eq_true rfl) (Nat.le_of_ble_eq_true rfl) (hR.ob.1) (hR.ob.2) rfl rfl rfl rfl (Nat.le_of_ble_eq_true rfl) dX6_hoursOn_14 (fun z1 L2 f3 hz4 => ?_)
        obtain ⟨hz4, rfl, rfl⟩ := hz4
        subst hz4
        have hkn : (((k).toNat : Nat) : Int) = k := Int.toNat_of_nonneg (by omega)
        change ZW G pZ la eZ (zRm 3 0 0) sZ mZ aZ bZ hZ cZ AZ 5 0 0 _ L f 17 [(0, .ref o), (1, .int (iI d)), (2, .int (iI m)), (3, .int (iI k))] [.ref (ω 5 (k).toNat)]
        have rg := spHr_rng hI.J d (n := k.toNat) (by omega)
        refine z_astore (ls' := [(4, .ref (ω 5 (k).toNat)), (0, .ref o), (1, .int (iI d)), (2, .int (iI m)), (3, .int (iI k))]) C dX6_hoursOn_17 (Nat.le_of_ble_eq_true rfl) rfl ?_
        refine z_aload C 0 dX6_hoursOn_19 rfl ?_
        refine z_ifnullr C dX6_hoursOn_21 ?_
        refine z_aload C 0 dX6_hoursOn_24 rfl ?_
        refine z_cV (As := []) C zc_X3_ranOn (c_ranOn hX (hR.ln ((k).toNat) (by omega)) (hBl ((k).toNat) (by omega))) zl_1_207 (Nat.le_of_ble_eq_true rfl) (Nat.le_of_ble_eq_true rfl) (Nat.le_of_ble_eq_true rfl) ((hR.ln ((k).toNat) (by omega)).1.1) ((hR.ln ((k).toNat) (by omega)).1.2) rfl rfl rfl rfl (Nat.le_of_ble_eq_true rfl) dX6_hoursOn_26 (fun z5 L6 f7 hz8 => ?_)
        obtain ⟨hz8, rfl, rfl⟩ := hz8
        subst hz8
        have hb16 := hBl ((k).toNat) (by omega)
        have e16 : μ 16 (((k).toNat : Nat) : Int) = μ 16 k := by rw [hkn]
        change ZW G pZ la eZ (zRm 3 0 0) sZ mZ aZ bZ hZ cZ AZ 5 0 0 _ L f 29 [(4, .ref (ω 5 (k).toNat)), (0, .ref o), (1, .int (iI d)), (2, .int (iI m)), (3, .int (iI k))] [.int (iI (μ 16 (((k).toNat : Nat) : Int)))]
        refine z_iload_n C 2 dX6_hoursOn_29 rfl ?_
        refine z_icmp_ne C 43 dX6_hoursOn_30 (by decide) (by omega) (by omega) (fun h30 => ?_) (fun h30 => ?_)
        · refine z_iinc (ls' := [(3, .int (iI (k + 1))), (4, .ref (ω 5 (k).toNat)), (0, .ref o), (1, .int (iI d)), (2, .int (iI m))]) C 4 dX6_hoursOn_43 rfl (Nat.le_of_ble_eq_true rfl) rfl ?_
          refine z_goto C 4 dX6_hoursOn_46 (by decide) ?_
          refine z_perm [2, 3, 4, 0] rfl ?_
          exact ih4 _ _  ⟨by omega, by omega, by rw [zsum_s _ hk0, ← hm]; unfold spHr; first | (rw [if_pos (by omega)]; omega) | (rw [if_neg (by omega)]; omega)⟩ (by omega)
        · refine z_iload_n C 3 dX6_hoursOn_33 rfl ?_
          refine z_aload C 0 dX6_hoursOn_34 rfl ?_
          refine z_cV (As := []) C zc_X3_lastBehind (c_lastBehind hX (hR.ln ((k).toNat) (by omega)) (hBl ((k).toNat) (by omega))) zl_1_222 (Nat.le_of_ble_eq_true rfl) (Nat.le_of_ble_eq_true rfl) (Nat.le_of_ble_eq_true rfl) ((hR.ln ((k).toNat) (by omega)).1.1) ((hR.ln ((k).toNat) (by omega)).1.2) rfl rfl rfl rfl (Nat.le_of_ble_eq_true rfl) dX6_hoursOn_36 (fun z9 L10 f11 hz12 => ?_)
          obtain ⟨hz12, rfl, rfl⟩ := hz12
          subst hz12
          have hbsz := zLB_sz (hBl ((k).toNat) (by omega))
          have esz : spSize μ (((k).toNat : Nat) : Int) = spSize μ k := by rw [hkn]
          change ZW G pZ la eZ (zRm 3 0 0) sZ mZ aZ bZ hZ cZ AZ 5 0 0 _ L f 39 [(4, .ref (ω 5 (k).toNat)), (0, .ref o), (1, .int (iI d)), (2, .int (iI m)), (3, .int (iI k))] [.int (iI ((spSize μ (((k).toNat : Nat) : Int) - 1) / 5)), .int (iI m)]
          refine z_iconst C dX6_hoursOn_39 ?_
          refine z_iadd C dX6_hoursOn_40 ?_
          refine z_iadd C dX6_hoursOn_41 ?_
          refine z_nm (fun x13 hx13 => ?_)
          refine z_istore_n (ls' := [(2, .int (iI x13)), (4, .ref (ω 5 (k).toNat)), (0, .ref o), (1, .int (iI d)), (3, .int (iI k))]) C dX6_hoursOn_42 (Nat.le_of_ble_eq_true rfl) rfl ?_
          refine z_iinc (ls' := [(3, .int (iI (k + 1))), (2, .int (iI x13)), (4, .ref (ω 5 (k).toNat)), (0, .ref o), (1, .int (iI d))]) C 4 dX6_hoursOn_43 rfl (Nat.le_of_ble_eq_true rfl) rfl ?_
          refine z_goto C 4 dX6_hoursOn_46 (by decide) ?_
          refine z_perm [3, 4, 1, 0] rfl ?_
          exact ih4 _ _  ⟨by omega, by omega, by rw [zsum_s _ hk0, ← hm]; unfold spHr; first | (rw [if_pos (by omega)]; omega) | (rw [if_neg (by omega)]; omega)⟩ (by omega)
  refine z_perm [2, 3, 1, 0] rfl ?_
  exact key4 2000 _ _  ⟨by omega, by omega, rfl⟩ (by omega)

set_option maxRecDepth 100000 in
set_option maxHeartbeats 200000 in
theorem c_lastDay {la : Launch} {G : zG} {X : (Nat → Prop) → State → Prop} (hX : zX X) {L : List Nat} {f : Nat → va_E} {o : Nat} {ω : Nat → Nat → Nat} {μ : zMu} {ch : Int → Int} {rd : Nat → Int → Int} {tx : List Int} (hR : SR G L f o ω μ ch rd tx)  (hI : MI μ) : zM la G X yX6_lastDay (.code yX6_lastDay cX6_lastDay 4 (some .int) :: zT) 1 0 0 [.ref o] L f zeI (zRd L f (fun z => z = spLastDay μ)) := by
  refine zM_intro hX (by decide) (Nat.le_of_ble_eq_true rfl) (fun pZ eZ sZ mZ aZ bZ hZ cZ AZ C hini => ?_)
  change ZW G pZ la eZ (zRm 1 0 0) sZ mZ aZ bZ hZ cZ AZ 4 0 0 _ L f 0 [(0, .ref o)] []
  have hNO : zNO = -2147483648 := rfl
  have hn := hI.n
  have hSK : zSK (zK μ) := MJ_SK hI.J
  have hBl : ∀ j : Nat, (j : Int) < μ 2 0 → zLB μ j := fun j hj => hI.J.b12 j (by omega) (by omega)
  refine z_iconst C dX6_lastDay_0 ?_
  refine z_istore_n (ls' := [(1, .int (iI (-1))), (0, .ref o)]) C dX6_lastDay_1 (Nat.le_of_ble_eq_true rfl) rfl ?_
  refine z_iconst C dX6_lastDay_2 ?_
  refine z_istore_n (ls' := [(2, .int (iI 0)), (1, .int (iI (-1))), (0, .ref o)]) C dX6_lastDay_3 (Nat.le_of_ble_eq_true rfl) rfl ?_
  have key4 : ∀ (n4 : Nat) (m : Int) (k : Int) , (0 ≤ k ∧ k ≤ μ 2 0 ∧ m = zfold (fun l w => if w < μ 16 l then μ 16 l else w) k.toNat (-1)) → μ 2 0 - k < (n4 : Int) → ZW G pZ la eZ (zRm 1 0 0) sZ mZ aZ bZ hZ cZ AZ 4 0 0 (MQ bZ (zQ G zeI (zRd L f (fun z => z = spLastDay μ)) AZ) aZ sZ 0 0 AZ) L f 4 [(0, .ref o), (1, .int (iI m)), (2, .int (iI k))] [] := by
    intro n4
    induction n4 with
    | zero => intro m k  hi4 hn4; exfalso; omega
    | succ n4 ih4 =>
      intro m k  hi4 hn4
      obtain ⟨hk0, hk1, hm⟩ := hi4
      refine z_iload_n C 2 dX6_lastDay_4 rfl ?_
      refine z_aload_n C 0 dX6_lastDay_5 rfl ?_
      refine z_getf C 3 zin_X6 (hR.ob.1) (hR.ob.2) rfl (Nat.le_of_ble_eq_true rfl) zl_1_142 rfl rfl dX6_lastDay_6 ?_
      refine z_icmp_ge C 37 dX6_lastDay_9 (by decide) (by omega) (by omega) (fun h9 => ?_) (fun h9 => ?_)
      · refine z_iload_n C 1 dX6_lastDay_37 rfl ?_
        exact z_ireturn C dX6_lastDay_38 (Nat.le_of_ble_eq_true rfl) (Nat.le_of_ble_eq_true rfl) ⟨by rw [hm, show k = μ 2 0 by omega]; rfl, rfl, rfl⟩
      · refine z_aload_n C 0 dX6_lastDay_12 rfl ?_
        refine z_iload_n C 2 dX6_lastDay_13 rfl ?_
        refine z_cV (As := [.int (iI k)]) C zc_X6_lineOrNull (c_lineAt hX hR k hI (by omega)) zl_1_178 (Nat.le_of_ble_eq_true rfl) (Nat.le_of_ble_eq_true rfl) (Nat.le_of_ble_eq_true rfl) (hR.ob.1) (hR.ob.2) rfl rfl rfl rfl (Nat.le_of_ble_eq_true rfl) dX6_lastDay_14 (fun z1 L2 f3 hz4 => ?_)
        obtain ⟨hz4, rfl, rfl⟩ := hz4
        subst hz4
        have hkn : (((k).toNat : Nat) : Int) = k := Int.toNat_of_nonneg (by omega)
        change ZW G pZ la eZ (zRm 1 0 0) sZ mZ aZ bZ hZ cZ AZ 4 0 0 _ L f 17 [(0, .ref o), (1, .int (iI m)), (2, .int (iI k))] [.ref (ω 5 (k).toNat)]
        have rg := spLd_r hI.J (n := k.toNat) (by omega)
        refine z_astore_n (ls' := [(3, .ref (ω 5 (k).toNat)), (0, .ref o), (1, .int (iI m)), (2, .int (iI k))]) C dX6_lastDay_17 (Nat.le_of_ble_eq_true rfl) rfl ?_
        refine z_aload_n C 0 dX6_lastDay_18 rfl ?_
        refine z_ifnullr C dX6_lastDay_19 ?_
        refine z_iload_n C 2 dX6_lastDay_22 rfl ?_
        refine z_aload_n C 0 dX6_lastDay_23 rfl ?_
        refine z_cV (As := []) C zc_X3_ranOn (c_ranOn hX (hR.ln ((k).toNat) (by omega)) (hBl ((k).toNat) (by omega))) zl_1_207 (Nat.le_of_ble_eq_true rfl) (Nat.le_of_ble_eq_true rfl) (Nat.le_of_ble_eq_true rfl) ((hR.ln ((k).toNat) (by omega)).1.1) ((hR.ln ((k).toNat) (by omega)).1.2) rfl rfl rfl rfl (Nat.le_of_ble_eq_true rfl) dX6_lastDay_24 (fun z5 L6 f7 hz8 => ?_)
        obtain ⟨hz8, rfl, rfl⟩ := hz8
        subst hz8
        have hb16 := hBl ((k).toNat) (by omega)
        have e16 : μ 16 (((k).toNat : Nat) : Int) = μ 16 k := by rw [hkn]
        change ZW G pZ la eZ (zRm 1 0 0) sZ mZ aZ bZ hZ cZ AZ 4 0 0 _ L f 27 [(3, .ref (ω 5 (k).toNat)), (0, .ref o), (1, .int (iI m)), (2, .int (iI k))] [.int (iI (μ 16 (((k).toNat : Nat) : Int))), .int (iI m)]
        refine z_mmax C zl_1_211 (Nat.le_of_ble_eq_true rfl) (Nat.le_of_ble_eq_true rfl) (Nat.le_of_ble_eq_true rfl) (by omega) (by omega) (Nat.le_of_ble_eq_true rfl) dX6_lastDay_27 (fun w9 hw10 => ?_)
        refine z_istore_n (ls' := [(1, .int (iI w9)), (3, .ref (ω 5 (k).toNat)), (0, .ref o), (2, .int (iI k))]) C dX6_lastDay_30 (Nat.le_of_ble_eq_true rfl) rfl ?_
        refine z_iinc (ls' := [(2, .int (iI (k + 1))), (1, .int (iI w9)), (3, .ref (ω 5 (k).toNat)), (0, .ref o)]) C 3 dX6_lastDay_31 rfl (Nat.le_of_ble_eq_true rfl) rfl ?_
        refine z_goto C 4 dX6_lastDay_34 (by decide) ?_
        refine z_perm [3, 1, 0] rfl ?_
        exact ih4 _ _  ⟨by omega, by omega, by rw [zfold_s _ hk0, ← hm]; split <;> omega⟩ (by omega)
  refine z_perm [2, 1, 0] rfl ?_
  exact key4 2000 _ _  ⟨by omega, by omega, rfl⟩ (by omega)

set_option maxRecDepth 100000 in
set_option maxHeartbeats 200000 in
theorem c_costOf {la : Launch} {G : zG} {X : (Nat → Prop) → State → Prop} (hX : zX X) {L : List Nat} {f : Nat → va_E} {o : Nat} {ω : Nat → Nat → Nat} {μ : zMu} {ch : Int → Int} {rd : Nat → Int → Int} {tx : List Int} (hR : SR G L f o ω μ ch rd tx) (d : Int) (hI : MI μ) (hd : 0 ≤ d ∧ d ≤ 9) : zM la G X yX6_costOf (.code yX6_costOf cX6_costOf 3 (some .int) :: zT) 4 0 0 [.ref o, .int (iI d)] L f zeI (zRd L f (fun z => z = spDay μ d)) := by
  refine zM_intro hX (by decide) (Nat.le_of_ble_eq_true rfl) (fun pZ eZ sZ mZ aZ bZ hZ cZ AZ C hini => ?_)
  change ZW G pZ la eZ (zRm 4 0 0) sZ mZ aZ bZ hZ cZ AZ 3 0 0 _ L f 0 [(0, .ref o), (1, .int (iI d))] []
  have hNO : zNO = -2147483648 := rfl
  have hn := hI.n
  have hSK : zSK (zK μ) := MJ_SK hI.J
  have hBl : ∀ j : Nat, (j : Int) < μ 2 0 → zLB μ j := fun j hj => hI.J.b12 j (by omega) (by omega)
  refine z_aload_n C 0 dX6_costOf_0 rfl ?_
  refine z_iload_n C 1 dX6_costOf_1 rfl ?_
  refine z_cV (As := [.int (iI d)]) C zc_X6_hoursOn (c_hoursOn hX hR d hI (by omega)) zl_1_218 (Nat.le_of_ble_eq_true rfl) (Nat.le_of_ble_eq_true rfl) (Nat.le_of_ble_eq_true rfl) (hR.ob.1) (hR.ob.2) rfl rfl rfl rfl (Nat.le_of_ble_eq_true rfl) dX6_costOf_2 (fun z1 L2 f3 hz4 => ?_)
  obtain ⟨hz4, rfl, rfl⟩ := hz4
  subst hz4
  have hsh := spHr_rng hI.J d (n := (μ 2 0).toNat) (by omega)
  have hsh2 : 0 ≤ spHours μ d ∧ spHours μ d ≤ 4 * ((μ 2 0).toNat : Int) := hsh
  change ZW G pZ la eZ (zRm 4 0 0) sZ mZ aZ bZ hZ cZ AZ 3 0 0 _ L f 5 [(0, .ref o), (1, .int (iI d))] [.int (iI (spHours μ d))]
  refine z_nm (fun x5 hx5 => ?_)
  refine z_istore_n (ls' := [(2, .int (iI x5)), (0, .ref o), (1, .int (iI d))]) C dX6_costOf_5 (Nat.le_of_ble_eq_true rfl) rfl ?_
  refine z_iload_n C 0 dX6_costOf_6 rfl ?_
  refine z_if_le C 26 dX6_costOf_7 (by decide) (by omega) (fun h7 => ?_) (fun h7 => ?_)
  · refine z_aload_n C 1 dX6_costOf_26 rfl ?_
    refine z_getf C 0 zin_X6 (hR.ob.1) (hR.ob.2) rfl (Nat.le_of_ble_eq_true rfl) zl_1_139 rfl rfl dX6_costOf_27 ?_
    refine z_iload_n C 2 dX6_costOf_30 rfl ?_
    refine z_cV (As := [.int (iI d)]) C zc_X5_isRough (c_isRough hX hR.sea d hSK (by omega)) zl_1_232 (Nat.le_of_ble_eq_true rfl) (Nat.le_of_ble_eq_true rfl) (Nat.le_of_ble_eq_true rfl) (hR.sea.1.1) (hR.sea.1.2) rfl rfl rfl rfl (Nat.le_of_ble_eq_true rfl) dX6_costOf_31 (fun z6 L7 f8 hz9 => ?_)
    obtain ⟨hz9, rfl, rfl⟩ := hz9
    subst hz9
    change ZW G pZ la eZ (zRm 4 0 0) sZ mZ aZ bZ hZ cZ AZ 3 0 0 _ L f 34 [(2, .int (iI x5)), (0, .ref o), (1, .int (iI d))] [.int (iI (bI (4 < μ 7 d)))]
    refine z_if_eq_b C 43 dX6_costOf_34 (by decide) (fun h34 => ?_) (fun h34 => ?_)
    · refine z_sipush C dX6_costOf_43 (by decide) ?_
      exact z_ireturn C dX6_costOf_46 (Nat.le_of_ble_eq_true rfl) (Nat.le_of_ble_eq_true rfl) ⟨by unfold spDay; first | (rw [if_pos (by omega)]; split <;> omega) | (rw [if_neg (by omega)]; first | (rw [if_pos (by omega)]; done) | (rw [if_neg (by omega)]; done)), rfl, rfl⟩
    · refine z_sipush C dX6_costOf_37 (by decide) ?_
      refine z_goto C 46 dX6_costOf_40 (by decide) ?_
      exact z_ireturn C dX6_costOf_46 (Nat.le_of_ble_eq_true rfl) (Nat.le_of_ble_eq_true rfl) ⟨by unfold spDay; first | (rw [if_pos (by omega)]; split <;> omega) | (rw [if_neg (by omega)]; first | (rw [if_pos (by omega)]; done) | (rw [if_neg (by omega)]; done)), rfl, rfl⟩
  · refine z_sipush C dX6_costOf_10 (by decide) ?_
    refine z_bipush C dX6_costOf_13 (by decide) ?_
    refine z_iconst C dX6_costOf_15 ?_
    refine z_iload_n C 0 dX6_costOf_16 rfl ?_
    refine z_bipush C dX6_costOf_17 (by decide) ?_
    refine z_isub C dX6_costOf_19 ?_
    refine z_mmax C zl_1_211 (Nat.le_of_ble_eq_true rfl) (Nat.le_of_ble_eq_true rfl) (Nat.le_of_ble_eq_true rfl) (by omega) (by omega) (Nat.le_of_ble_eq_true rfl) dX6_costOf_20 (fun w10 hw11 => ?_)
    refine z_imul C dX6_costOf_23 ?_
    refine z_iadd C dX6_costOf_24 ?_
    exact z_ireturn C dX6_costOf_25 (Nat.le_of_ble_eq_true rfl) (Nat.le_of_ble_eq_true rfl) ⟨by unfold spDay; first | (rw [if_pos (by omega)]; split <;> omega) | (rw [if_neg (by omega)]; first | (rw [if_pos (by omega)]; done) | (rw [if_neg (by omega)]; done)), rfl, rfl⟩

set_option maxRecDepth 100000 in
set_option maxHeartbeats 200000 in
theorem c_isFree {la : Launch} {G : zG} {X : (Nat → Prop) → State → Prop} (hX : zX X) {L : List Nat} {f : Nat → va_E} {o : Nat} {ω : Nat → Nat → Nat} {μ : zMu} {ch : Int → Int} {rd : Nat → Int → Int} {tx : List Int} (hR : SR G L f o ω μ ch rd tx) {w : Nat} (bh d h t : Int) (hI : MI μ) (hbh : 0 ≤ bh ∧ bh ≤ 1000) (ht : ∀ l : Nat, (l : Int) < μ 2 0 → (ω 5 l = w ↔ (l : Int) = t)) (hd : zR d) (hh : 0 ≤ h ∧ h ≤ 23) : zM la G X yX6_isFree (.code yX6_isFree cX6_isFree 8 (some .boolean) :: zT) 4 0 0 [.ref o, .ref w, .int (iI bh), .int (iI d), .int (iI h)] L f zeI (zRd L f (fun z => z = 1 ∧ h + bh < 24 ∧ ¬ spBusy μ t d h (h + bh) ∨ z = 0 ∧ ¬ (h + bh < 24 ∧ ¬ spBusy μ t d h (h + bh)))) := by
  refine zM_intro hX (by decide) (Nat.le_of_ble_eq_true rfl) (fun pZ eZ sZ mZ aZ bZ hZ cZ AZ C hini => ?_)
  change ZW G pZ la eZ (zRm 4 0 0) sZ mZ aZ bZ hZ cZ AZ 8 0 0 _ L f 0 [(0, .ref o), (1, .ref w), (2, .int (iI bh)), (3, .int (iI d)), (4, .int (iI h))] []
  have hNO : zNO = -2147483648 := rfl
  have hn := hI.n
  have hSK : zSK (zK μ) := MJ_SK hI.J
  have hBl : ∀ j : Nat, (j : Int) < μ 2 0 → zLB μ j := fun j hj => hI.J.b12 j (by omega) (by omega)
  refine z_iload C 4 dX6_isFree_0 rfl ?_
  refine z_iload_n C 2 dX6_isFree_2 rfl ?_
  refine z_iadd C dX6_isFree_3 ?_
  refine z_nm (fun la9 hla9 => ?_)
  refine z_istore (ls' := [(5, .int (iI la9)), (0, .ref o), (1, .ref w), (2, .int (iI bh)), (3, .int (iI d)), (4, .int (iI h))]) C dX6_isFree_4 (Nat.le_of_ble_eq_true rfl) rfl ?_
  refine z_iload C 0 dX6_isFree_6 rfl ?_
  refine z_bipush C dX6_isFree_8 (by decide) ?_
  refine z_icmp_lt C 15 dX6_isFree_10 (by decide) (by omega) (by omega) (fun h10 => ?_) (fun h10 => ?_)
  · have hx1v : la9 = h + bh := by omega
    refine z_iconst C dX6_isFree_15 ?_
    refine z_istore (ls' := [(6, .int (iI 0)), (5, .int (iI la9)), (0, .ref o), (1, .ref w), (2, .int (iI bh)), (3, .int (iI d)), (4, .int (iI h))]) C dX6_isFree_16 (Nat.le_of_ble_eq_true rfl) rfl ?_
    have key18 : ∀ (n18 : Nat) (k : Int) , (0 ≤ k ∧ k ≤ μ 2 0 ∧ ∀ l, 0 ≤ l → l < k → ¬ (l ≠ t ∧ μ 16 l = d ∧ μ 17 l ≤ h + bh ∧ h ≤ μ 17 l + (spSize μ l - 1) / 5)) → μ 2 0 - k < (n18 : Int) → ZW G pZ la eZ (zRm 4 0 0) sZ mZ aZ bZ hZ cZ AZ 8 0 0 (MQ bZ (zQ G zeI (zRd L f (fun z => z = 1 ∧ h + bh < 24 ∧ ¬ spBusy μ t d h (h + bh) ∨ z = 0 ∧ ¬ (h + bh < 24 ∧ ¬ spBusy μ t d h (h + bh)))) AZ) aZ sZ 0 0 AZ) L f 18 [(0, .ref o), (1, .ref w), (2, .int (iI bh)), (3, .int (iI d)), (4, .int (iI h)), (5, .int (iI la9)), (6, .int (iI k))] [] := by
      intro n18
      induction n18 with
      | zero => intro k  hi18 hn18; exfalso; omega
      | succ n18 ih18 =>
        intro k  hi18 hn18
        obtain ⟨hk0, hk1, hall⟩ := hi18
        refine z_iload C 6 dX6_isFree_18 rfl ?_
        refine z_aload_n C 0 dX6_isFree_20 rfl ?_
        refine z_getf C 3 zin_X6 (hR.ob.1) (hR.ob.2) rfl (Nat.le_of_ble_eq_true rfl) zl_1_142 rfl rfl dX6_isFree_21 ?_
        refine z_icmp_ge C 67 dX6_isFree_24 (by decide) (by omega) (by omega) (fun h24 => ?_) (fun h24 => ?_)
        · refine z_iconst C dX6_isFree_67 ?_
          exact z_zreturn C (by first | omega | (unfold bI; split <;> omega)) dX6_isFree_68 (Nat.le_of_ble_eq_true rfl) (Nat.le_of_ble_eq_true rfl) ⟨Or.inl ⟨rfl, by omega, fun ⟨l, q0, q1, q2⟩ => hall l q0 (by omega) q2⟩, rfl, rfl⟩
        · refine z_aload_n C 0 dX6_isFree_27 rfl ?_
          refine z_iload C 6 dX6_isFree_28 rfl ?_
          refine z_cV (As := [.int (iI k)]) C zc_X6_lineOrNull (c_lineAt hX hR k hI (by omega)) zl_1_178 (Nat.le_of_ble_eq_true rfl) (Nat.le_of_ble_eq_true rfl) (Nat.le_of_ble_eq_true rfl) (hR.ob.1) (hR.ob.2) rfl rfl rfl rfl (Nat.le_of_ble_eq_true rfl) dX6_isFree_30 (fun z1 L2 f3 hz4 => ?_)
          obtain ⟨hz4, rfl, rfl⟩ := hz4
          subst hz4
          have hkn : (((k).toNat : Nat) : Int) = k := Int.toNat_of_nonneg (by omega)
          change ZW G pZ la eZ (zRm 4 0 0) sZ mZ aZ bZ hZ cZ AZ 8 0 0 _ L f 33 [(0, .ref o), (1, .ref w), (2, .int (iI bh)), (3, .int (iI d)), (4, .int (iI h)), (5, .int (iI la9)), (6, .int (iI k))] [.ref (ω 5 (k).toNat)]
          refine z_astore (ls' := [(7, .ref (ω 5 (k).toNat)), (0, .ref o), (1, .ref w), (2, .int (iI bh)), (3, .int (iI d)), (4, .int (iI h)), (5, .int (iI la9)), (6, .int (iI k))]) C dX6_isFree_33 (Nat.le_of_ble_eq_true rfl) rfl ?_
          refine z_aload C 0 dX6_isFree_35 rfl ?_
          refine z_ifnullr C dX6_isFree_37 ?_
          refine z_aload C 0 dX6_isFree_40 rfl ?_
          refine z_aload_n C 2 dX6_isFree_42 rfl ?_
          refine z_acmp_eq C 61 dX6_isFree_43 (by decide) (fun h43 => ?_) (fun h43 => ?_)
          · refine z_iinc (ls' := [(6, .int (iI (k + 1))), (7, .ref (ω 5 (k).toNat)), (0, .ref o), (1, .ref w), (2, .int (iI bh)), (3, .int (iI d)), (4, .int (iI h)), (5, .int (iI la9))]) C 7 dX6_isFree_61 rfl (Nat.le_of_ble_eq_true rfl) rfl ?_
            refine z_goto C 18 dX6_isFree_64 (by decide) ?_
            refine z_perm [2, 3, 4, 5, 6, 7, 0] rfl ?_
            exact ih18 _  ⟨by omega, by omega, fun l q0 q1 => by
              rcases Int.lt_or_eq_of_le (show l ≤ k by omega) with q | q
              · exact hall l q0 q
              · rw [q]
                intro z
                first | (exact z.1 (by have := (ht k.toNat (by omega)).mp h43; omega)) | (exact h56 (by rw [hkn, show la9 = h + bh by omega]; exact z.2))⟩ (by omega)
          · refine z_aload C 0 dX6_isFree_46 rfl ?_
            refine z_iload_n C 4 dX6_isFree_48 rfl ?_
            refine z_iload C 5 dX6_isFree_49 rfl ?_
            refine z_iload C 6 dX6_isFree_51 rfl ?_
            refine z_cV (As := [.int (iI d), .int (iI h), .int (iI la9)]) C zc_X3_isSoundedIn (c_isSoundedIn hX (hR.ln ((k).toNat) (by omega)) d h la9 (hBl ((k).toNat) (by omega)) (by omega) (by omega) (by omega)) zl_4_0 (Nat.le_of_ble_eq_true rfl) (Nat.le_of_ble_eq_true rfl) (Nat.le_of_ble_eq_true rfl) ((hR.ln ((k).toNat) (by omega)).1.1) ((hR.ln ((k).toNat) (by omega)).1.2) rfl rfl rfl rfl (Nat.le_of_ble_eq_true rfl) dX6_isFree_53 (fun z5 L6 f7 hz8 => ?_)
            obtain ⟨hz8, rfl, rfl⟩ := hz8
            subst hz8
            change ZW G pZ la eZ (zRm 4 0 0) sZ mZ aZ bZ hZ cZ AZ 8 0 0 _ L f 56 [(7, .ref (ω 5 (k).toNat)), (0, .ref o), (1, .ref w), (2, .int (iI bh)), (3, .int (iI d)), (4, .int (iI h)), (5, .int (iI la9)), (6, .int (iI k))] [.int (iI (bI (μ 16 (((k).toNat : Nat) : Int) = d ∧ μ 17 (((k).toNat : Nat) : Int) ≤ la9 ∧ h ≤ μ 17 (((k).toNat : Nat) : Int) + (spSize μ (((k).toNat : Nat) : Int) - 1) / 5)))]
            refine z_if_eq_b C 61 dX6_isFree_56 (by decide) (fun h56 => ?_) (fun h56 => ?_)
            · refine z_iinc (ls' := [(6, .int (iI (k + 1))), (7, .ref (ω 5 (k).toNat)), (0, .ref o), (1, .ref w), (2, .int (iI bh)), (3, .int (iI d)), (4, .int (iI h)), (5, .int (iI la9))]) C 7 dX6_isFree_61 rfl (Nat.le_of_ble_eq_true rfl) rfl ?_
              refine z_goto C 18 dX6_isFree_64 (by decide) ?_
              refine z_perm [2, 3, 4, 5, 6, 7, 0] rfl ?_
              exact ih18 _  ⟨by omega, by omega, fun l q0 q1 => by
                rcases Int.lt_or_eq_of_le (show l ≤ k by omega) with q | q
                · exact hall l q0 q
                · rw [q]
                  intro z
                  first | (exact z.1 (by have := (ht k.toNat (by omega)).mp h43; omega)) | (exact h56 (by rw [hkn, show la9 = h + bh by omega]; exact z.2))⟩ (by omega)
            · refine z_iconst C dX6_isFree_59 ?_
              exact z_zreturn C (by first | omega | (unfold bI; split <;> omega)) dX6_isFree_60 (Nat.le_of_ble_eq_true rfl) (Nat.le_of_ble_eq_true rfl) ⟨Or.inr ⟨rfl, fun z => z.2 ⟨k, hk0, by omega, fun z2 => h43 ((ht k.toNat (by omega)).mpr (by omega)), by rw [hkn, hx1v] at h56; exact h56⟩⟩, rfl, rfl⟩
    refine z_perm [2, 3, 4, 5, 6, 1, 0] rfl ?_
    exact key18 2000 _  ⟨by omega, by omega, fun l _ _ => by omega⟩ (by omega)
  · refine z_iconst C dX6_isFree_13 ?_
    exact z_zreturn C (by first | omega | (unfold bI; split <;> omega)) dX6_isFree_14 (Nat.le_of_ble_eq_true rfl) (Nat.le_of_ble_eq_true rfl) ⟨Or.inr ⟨rfl, fun z => by omega⟩, rfl, rfl⟩

set_option maxRecDepth 100000 in
set_option maxHeartbeats 200000 in
theorem c_isFreeN {la : Launch} {G : zG} {X : (Nat → Prop) → State → Prop} (hX : zX X) {L : List Nat} {f : Nat → va_E} {o : Nat} {ω : Nat → Nat → Nat} {μ : zMu} {ch : Int → Int} {rd : Nat → Int → Int} {tx : List Int} (hR : SR G L f o ω μ ch rd tx) (bh d h t : Int) (hI : MI μ) (hbh : 0 ≤ bh ∧ bh ≤ 1000) (ht : t < 0) (hd : zR d) (hh : 0 ≤ h ∧ h ≤ 23) : zM la G X yX6_isFree (.code yX6_isFree cX6_isFree 8 (some .boolean) :: zT) 4 0 0 [.ref o, va_rf none, .int (iI bh), .int (iI d), .int (iI h)] L f zeI (zRd L f (fun z => z = 1 ∧ h + bh < 24 ∧ ¬ spBusy μ t d h (h + bh) ∨ z = 0 ∧ ¬ (h + bh < 24 ∧ ¬ spBusy μ t d h (h + bh)))) := by
  refine zM_intro hX (by decide) (Nat.le_of_ble_eq_true rfl) (fun pZ eZ sZ mZ aZ bZ hZ cZ AZ C hini => ?_)
  change ZW G pZ la eZ (zRm 4 0 0) sZ mZ aZ bZ hZ cZ AZ 8 0 0 _ L f 0 [(0, .ref o), (1, va_rf none), (2, .int (iI bh)), (3, .int (iI d)), (4, .int (iI h))] []
  have hNO : zNO = -2147483648 := rfl
  have hn := hI.n
  have hSK : zSK (zK μ) := MJ_SK hI.J
  have hBl : ∀ j : Nat, (j : Int) < μ 2 0 → zLB μ j := fun j hj => hI.J.b12 j (by omega) (by omega)
  refine z_iload C 4 dX6_isFree_0 rfl ?_
  refine z_iload_n C 2 dX6_isFree_2 rfl ?_
  refine z_iadd C dX6_isFree_3 ?_
  refine z_nm (fun la9 hla9 => ?_)
  refine z_istore (ls' := [(5, .int (iI la9)), (0, .ref o), (1, va_rf none), (2, .int (iI bh)), (3, .int (iI d)), (4, .int (iI h))]) C dX6_isFree_4 (Nat.le_of_ble_eq_true rfl) rfl ?_
  refine z_iload C 0 dX6_isFree_6 rfl ?_
  refine z_bipush C dX6_isFree_8 (by decide) ?_
  refine z_icmp_lt C 15 dX6_isFree_10 (by decide) (by omega) (by omega) (fun h10 => ?_) (fun h10 => ?_)
  · have hx1v : la9 = h + bh := by omega
    refine z_iconst C dX6_isFree_15 ?_
    refine z_istore (ls' := [(6, .int (iI 0)), (5, .int (iI la9)), (0, .ref o), (1, va_rf none), (2, .int (iI bh)), (3, .int (iI d)), (4, .int (iI h))]) C dX6_isFree_16 (Nat.le_of_ble_eq_true rfl) rfl ?_
    have key18 : ∀ (n18 : Nat) (k : Int) , (0 ≤ k ∧ k ≤ μ 2 0 ∧ ∀ l, 0 ≤ l → l < k → ¬ (l ≠ t ∧ μ 16 l = d ∧ μ 17 l ≤ h + bh ∧ h ≤ μ 17 l + (spSize μ l - 1) / 5)) → μ 2 0 - k < (n18 : Int) → ZW G pZ la eZ (zRm 4 0 0) sZ mZ aZ bZ hZ cZ AZ 8 0 0 (MQ bZ (zQ G zeI (zRd L f (fun z => z = 1 ∧ h + bh < 24 ∧ ¬ spBusy μ t d h (h + bh) ∨ z = 0 ∧ ¬ (h + bh < 24 ∧ ¬ spBusy μ t d h (h + bh)))) AZ) aZ sZ 0 0 AZ) L f 18 [(0, .ref o), (1, va_rf none), (2, .int (iI bh)), (3, .int (iI d)), (4, .int (iI h)), (5, .int (iI la9)), (6, .int (iI k))] [] := by
      intro n18
      induction n18 with
      | zero => intro k  hi18 hn18; exfalso; omega
      | succ n18 ih18 =>
        intro k  hi18 hn18
        obtain ⟨hk0, hk1, hall⟩ := hi18
        refine z_iload C 6 dX6_isFree_18 rfl ?_
        refine z_aload_n C 0 dX6_isFree_20 rfl ?_
        refine z_getf C 3 zin_X6 (hR.ob.1) (hR.ob.2) rfl (Nat.le_of_ble_eq_true rfl) zl_1_142 rfl rfl dX6_isFree_21 ?_
        refine z_icmp_ge C 67 dX6_isFree_24 (by decide) (by omega) (by omega) (fun h24 => ?_) (fun h24 => ?_)
        · refine z_iconst C dX6_isFree_67 ?_
          exact z_zreturn C (by first | omega | (unfold bI; split <;> omega)) dX6_isFree_68 (Nat.le_of_ble_eq_true rfl) (Nat.le_of_ble_eq_true rfl) ⟨Or.inl ⟨rfl, by omega, fun ⟨l, q0, q1, q2⟩ => hall l q0 (by omega) q2⟩, rfl, rfl⟩
        · refine z_aload_n C 0 dX6_isFree_27 rfl ?_
          refine z_iload C 6 dX6_isFree_28 rfl ?_
          refine z_cV (As := [.int (iI k)]) C zc_X6_lineOrNull (c_lineAt hX hR k hI (by omega)) zl_1_178 (Nat.le_of_ble_eq_true rfl) (Nat.le_of_ble_eq_true rfl) (Nat.le_of_ble_eq_true rfl) (hR.ob.1) (hR.ob.2) rfl rfl rfl rfl (Nat.le_of_ble_eq_true rfl) dX6_isFree_30 (fun z1 L2 f3 hz4 => ?_)
          obtain ⟨hz4, rfl, rfl⟩ := hz4
          subst hz4
          have hkn : (((k).toNat : Nat) : Int) = k := Int.toNat_of_nonneg (by omega)
          change ZW G pZ la eZ (zRm 4 0 0) sZ mZ aZ bZ hZ cZ AZ 8 0 0 _ L f 33 [(0, .ref o), (1, va_rf none), (2, .int (iI bh)), (3, .int (iI d)), (4, .int (iI h)), (5, .int (iI la9)), (6, .int (iI k))] [.ref (ω 5 (k).toNat)]
          refine z_astore (ls' := [(7, .ref (ω 5 (k).toNat)), (0, .ref o), (1, va_rf none), (2, .int (iI bh)), (3, .int (iI d)), (4, .int (iI h)), (5, .int (iI la9)), (6, .int (iI k))]) C dX6_isFree_33 (Nat.le_of_ble_eq_true rfl) rfl ?_
          refine z_aload C 0 dX6_isFree_35 rfl ?_
          refine z_ifnullr C dX6_isFree_37 ?_
          refine z_aload C 0 dX6_isFree_40 rfl ?_
          refine z_qload_n C 2 dX6_isFree_42 rfl ?_
          refine z_acmp_eqQ C 61 dX6_isFree_43 (by decide) (fun h43 => ?_) (fun h43 => ?_)
          · exfalso; cases h43
          · refine z_aload C 0 dX6_isFree_46 rfl ?_
            refine z_iload_n C 4 dX6_isFree_48 rfl ?_
            refine z_iload C 5 dX6_isFree_49 rfl ?_
            refine z_iload C 6 dX6_isFree_51 rfl ?_
            refine z_cV (As := [.int (iI d), .int (iI h), .int (iI la9)]) C zc_X3_isSoundedIn (c_isSoundedIn hX (hR.ln ((k).toNat) (by omega)) d h la9 (hBl ((k).toNat) (by omega)) (by omega) (by omega) (by omega)) zl_4_0 (Nat.le_of_ble_eq_true rfl) (Nat.le_of_ble_eq_true rfl) (Nat.le_of_ble_eq_true rfl) ((hR.ln ((k).toNat) (by omega)).1.1) ((hR.ln ((k).toNat) (by omega)).1.2) rfl rfl rfl rfl (Nat.le_of_ble_eq_true rfl) dX6_isFree_53 (fun z5 L6 f7 hz8 => ?_)
            obtain ⟨hz8, rfl, rfl⟩ := hz8
            subst hz8
            change ZW G pZ la eZ (zRm 4 0 0) sZ mZ aZ bZ hZ cZ AZ 8 0 0 _ L f 56 [(7, .ref (ω 5 (k).toNat)), (0, .ref o), (1, va_rf none), (2, .int (iI bh)), (3, .int (iI d)), (4, .int (iI h)), (5, .int (iI la9)), (6, .int (iI k))] [.int (iI (bI (μ 16 (((k).toNat : Nat) : Int) = d ∧ μ 17 (((k).toNat : Nat) : Int) ≤ la9 ∧ h ≤ μ 17 (((k).toNat : Nat) : Int) + (spSize μ (((k).toNat : Nat) : Int) - 1) / 5)))]
            refine z_if_eq_b C 61 dX6_isFree_56 (by decide) (fun h56 => ?_) (fun h56 => ?_)
            · refine z_iinc (ls' := [(6, .int (iI (k + 1))), (7, .ref (ω 5 (k).toNat)), (0, .ref o), (1, va_rf none), (2, .int (iI bh)), (3, .int (iI d)), (4, .int (iI h)), (5, .int (iI la9))]) C 7 dX6_isFree_61 rfl (Nat.le_of_ble_eq_true rfl) rfl ?_
              refine z_goto C 18 dX6_isFree_64 (by decide) ?_
              refine z_perm [2, 3, 4, 5, 6, 7, 0] rfl ?_
              exact ih18 _  ⟨by omega, by omega, fun l q0 q1 => by
                rcases Int.lt_or_eq_of_le (show l ≤ k by omega) with q | q
                · exact hall l q0 q
                · rw [q]
                  intro z
                  first | (exact h56 (by rw [hkn, show la9 = h + bh by omega]; exact z.2))⟩ (by omega)
            · refine z_iconst C dX6_isFree_59 ?_
              exact z_zreturn C (by first | omega | (unfold bI; split <;> omega)) dX6_isFree_60 (Nat.le_of_ble_eq_true rfl) (Nat.le_of_ble_eq_true rfl) ⟨Or.inr ⟨rfl, fun z => z.2 ⟨k, hk0, by omega, by omega, by rw [hkn, hx1v] at h56; exact h56⟩⟩, rfl, rfl⟩
    refine z_perm [2, 3, 4, 5, 6, 1, 0] rfl ?_
    exact key18 2000 _  ⟨by omega, by omega, fun l _ _ => by omega⟩ (by omega)
  · refine z_iconst C dX6_isFree_13 ?_
    exact z_zreturn C (by first | omega | (unfold bI; split <;> omega)) dX6_isFree_14 (Nat.le_of_ble_eq_true rfl) (Nat.le_of_ble_eq_true rfl) ⟨Or.inr ⟨rfl, fun z => by omega⟩, rfl, rfl⟩

set_option maxRecDepth 100000 in
set_option maxHeartbeats 1000000 in
theorem c_gainOfRow {la : Launch} {G : zG} {X : (Nat → Prop) → State → Prop} (hX : zX X) {L : List Nat} {f : Nat → va_E} {o : Nat} {ω : Nat → Nat → Nat} {μ : zMu} {ch : Int → Int} {rd : Nat → Int → Int} {tx : List Int} (hR : SR G L f o ω μ ch rd tx) (r : Int) (hI : MI μ) (hu : zCr ch) (hr : 0 ≤ r ∧ r ≤ 11) : zM la G X yX6_gainOfRow (.code yX6_gainOfRow cX6_gainOfRow 6 (some .int) :: zT) 4 0 0 [.ref o, .int (iI r)] L f zeI (zRd L f (fun z => z = spGain μ ch r)) := by
  refine zM_intro hX (by decide) (Nat.le_of_ble_eq_true rfl) (fun pZ eZ sZ mZ aZ bZ hZ cZ AZ C hini => ?_)
  change ZW G pZ la eZ (zRm 4 0 0) sZ mZ aZ bZ hZ cZ AZ 6 0 0 _ L f 0 [(0, .ref o), (1, .int (iI r))] []
  have hNO : zNO = -2147483648 := rfl
  have hn := hI.n
  have hSK : zSK (zK μ) := MJ_SK hI.J
  have hBl : ∀ j : Nat, (j : Int) < μ 2 0 → zLB μ j := fun j hj => hI.J.b12 j (by omega) (by omega)
  refine z_iconst C dX6_gainOfRow_0 ?_
  refine z_istore_n (ls' := [(2, .int (iI 0)), (0, .ref o), (1, .int (iI r))]) C dX6_gainOfRow_1 (Nat.le_of_ble_eq_true rfl) rfl ?_
  refine z_iconst C dX6_gainOfRow_2 ?_
  refine z_istore_n (ls' := [(3, .int (iI 0)), (2, .int (iI 0)), (0, .ref o), (1, .int (iI r))]) C dX6_gainOfRow_3 (Nat.le_of_ble_eq_true rfl) rfl ?_
  have key4 : ∀ (n4 : Nat) (m : Int) (c : Int) , (0 ≤ c ∧ c ≤ 20 ∧ m = zsum (fun c => zsum (spGs μ ch r c) 7) c.toNat) → 20 - c < (n4 : Int) → ZW G pZ la eZ (zRm 4 0 0) sZ mZ aZ bZ hZ cZ AZ 6 0 0 (MQ bZ (zQ G zeI (zRd L f (fun z => z = spGain μ ch r)) AZ) aZ sZ 0 0 AZ) L f 4 [(0, .ref o), (1, .int (iI r)), (2, .int (iI m)), (3, .int (iI c))] [] := by
    intro n4
    induction n4 with
    | zero => intro m c  hi4 hn4; exfalso; omega
    | succ n4 ih4 =>
      intro m c  hi4 hn4
      obtain ⟨hc0, hc1, hm⟩ := hi4
      refine z_iload_n C 3 dX6_gainOfRow_4 rfl ?_
      refine z_bipush C dX6_gainOfRow_5 (by decide) ?_
      refine z_icmp_ge C 63 dX6_gainOfRow_7 (by decide) (by omega) (by omega) (fun h7 => ?_) (fun h7 => ?_)
      · refine z_iload_n C 2 dX6_gainOfRow_63 rfl ?_
        exact z_ireturn C dX6_gainOfRow_64 (Nat.le_of_ble_eq_true rfl) (Nat.le_of_ble_eq_true rfl) ⟨by rw [hm, show c = 20 by omega]; rfl, rfl, rfl⟩
      · refine z_aload_n C 0 dX6_gainOfRow_10 rfl ?_
        refine z_getf C 0 zin_X6 (hR.ob.1) (hR.ob.2) rfl (Nat.le_of_ble_eq_true rfl) zl_1_139 rfl rfl dX6_gainOfRow_11 ?_
        refine z_iload_n C 3 dX6_gainOfRow_14 rfl ?_
        refine z_iload_n C 1 dX6_gainOfRow_15 rfl ?_
        refine z_cV (As := [.int (iI c), .int (iI r)]) C zc_X5_reachFrom (c_reachFrom hX hR.sea c r hSK (by omega) (by omega)) zl_4_184 (Nat.le_of_ble_eq_true rfl) (Nat.le_of_ble_eq_true rfl) (Nat.le_of_ble_eq_true rfl) (hR.sea.1.1) (hR.sea.1.2) rfl rfl rfl rfl (Nat.le_of_ble_eq_true rfl) dX6_gainOfRow_16 (fun rc0 L1 f2 hrc0 => ?_)
        obtain ⟨hrc0, rfl, rfl⟩ := hrc0
        subst hrc0
        have hrg := spReach_rng (x := μ 4 (20 * r + c)) (by have q := hI.b4 (20 * r + c) (by omega) (by omega); omega)
        change ZW G pZ la eZ (zRm 4 0 0) sZ mZ aZ bZ hZ cZ AZ 6 0 0 _ L f 19 [(0, .ref o), (1, .int (iI r)), (2, .int (iI m)), (3, .int (iI c))] [.int (iI (spReach (μ 4 (20 * r + c))))]
        refine z_nm (fun rc hrc => ?_)
        refine z_istore (ls' := [(4, .int (iI rc)), (0, .ref o), (1, .int (iI r)), (2, .int (iI m)), (3, .int (iI c))]) C dX6_gainOfRow_19 (Nat.le_of_ble_eq_true rfl) rfl ?_
        refine z_iload C 0 dX6_gainOfRow_21 rfl ?_
        refine z_ineg C dX6_gainOfRow_23 ?_
        refine z_nm (fun x3 hx3 => ?_)
        refine z_istore (ls' := [(5, .int (iI x3)), (4, .int (iI rc)), (0, .ref o), (1, .int (iI r)), (2, .int (iI m)), (3, .int (iI c))]) C dX6_gainOfRow_24 (Nat.le_of_ble_eq_true rfl) rfl ?_
        have key26 : ∀ (n26 : Nat) (m2 : Int) (t : Int) , (-rc ≤ t ∧ t ≤ rc + 1 ∧ m2 = zsum (fun c => zsum (spGs μ ch r c) 7) c.toNat + zsum (spGs μ ch r c) (t + 3).toNat) → rc + 1 - t < (n26 : Int) → ZW G pZ la eZ (zRm 4 0 0) sZ mZ aZ bZ hZ cZ AZ 6 0 0 (MQ bZ (zQ G zeI (zRd L f (fun z => z = spGain μ ch r)) AZ) aZ sZ 0 0 AZ) L f 26 [(0, .ref o), (1, .int (iI r)), (2, .int (iI m2)), (3, .int (iI c)), (4, .int (iI rc)), (5, .int (iI t))] [] := by
          intro n26
          induction n26 with
          | zero => intro m2 t  hi26 hn26; exfalso; omega
          | succ n26 ih26 =>
            intro m2 t  hi26 hn26
            obtain ⟨ht0, ht1, hm2⟩ := hi26
            refine z_iload C 5 dX6_gainOfRow_26 rfl ?_
            refine z_iload C 4 dX6_gainOfRow_28 rfl ?_
            refine z_icmp_gt C 57 dX6_gainOfRow_30 (by decide) (by omega) (by omega) (fun h30 => ?_) (fun h30 => ?_)
            · refine z_iinc (ls' := [(3, .int (iI (c + 1))), (0, .ref o), (1, .int (iI r)), (2, .int (iI m2)), (4, .int (iI rc)), (5, .int (iI t))]) C 3 dX6_gainOfRow_57 rfl (Nat.le_of_ble_eq_true rfl) rfl ?_
              refine z_goto C 4 dX6_gainOfRow_60 (by decide) ?_
              refine z_perm [1, 2, 3, 0] rfl ?_
              exact ih4 _ _  ⟨by omega, by omega, by rw [zsum_s _ hc0, hm2, spGs_right μ ch (t := t) (by omega) (by omega) (by omega)]⟩ (by omega)
            · have rg1 := spGss_rng μ ch r c.toNat
              have rg2 := spGs_rng μ ch r c (t + 3).toNat
              refine z_aload_n C 0 dX6_gainOfRow_33 rfl ?_
              refine z_getf C 4 zin_X6 (hR.ob.1) (hR.ob.2) rfl (Nat.le_of_ble_eq_true rfl) zl_1_143 rfl rfl dX6_gainOfRow_34 ?_
              refine z_iload_n C 3 dX6_gainOfRow_37 rfl ?_
              refine z_iload_n C 1 dX6_gainOfRow_38 rfl ?_
              refine z_iload C 5 dX6_gainOfRow_39 rfl ?_
              refine z_iadd C dX6_gainOfRow_41 ?_
              refine z_cV (As := [.int (iI c), .int (iI (r + t))]) C zc_X0_lacks (c_lacks hX hR.ct c (r + t) hu (by omega) (by omega)) zl_4_185 (Nat.le_of_ble_eq_true rfl) (Nat.le_of_ble_eq_true rfl) (Nat.le_of_ble_eq_true rfl) (hR.ct.1.1) (hR.ct.1.2) rfl rfl rfl rfl (Nat.le_of_ble_eq_true rfl) dX6_gainOfRow_42 (fun z4 L5 f6 hz7 => ?_)
              obtain ⟨hz7, rfl, rfl⟩ := hz7
              subst hz7
              change ZW G pZ la eZ (zRm 4 0 0) sZ mZ aZ bZ hZ cZ AZ 6 0 0 _ L f 45 [(0, .ref o), (1, .int (iI r)), (2, .int (iI m2)), (3, .int (iI c)), (4, .int (iI rc)), (5, .int (iI t))] [.int (iI (bI (zOn c (r + t) ∧ ch (20 * (r + t) + c) = zNO)))]
              refine z_if_eq_b C 51 dX6_gainOfRow_45 (by decide) (fun h45 => ?_) (fun h45 => ?_)
              · refine z_iinc (ls' := [(5, .int (iI (t + 1))), (0, .ref o), (1, .int (iI r)), (2, .int (iI m2)), (3, .int (iI c)), (4, .int (iI rc))]) C 5 dX6_gainOfRow_51 rfl (Nat.le_of_ble_eq_true rfl) rfl ?_
                refine z_goto C 26 dX6_gainOfRow_54 (by decide) ?_
                refine z_perm [1, 2, 3, 4, 5, 0] rfl ?_
                exact ih26 _ _  ⟨by omega, by omega, by rw [spGs_s μ ch r c (by omega)]; first | (rw [bI_1 (show spGc μ ch r c t from ⟨by omega, by omega, h45.2⟩)]; omega) | (rw [bI_0 (fun z : spGc μ ch r c t => h45 ⟨by unfold zOn; omega, z.2.2⟩)]; omega)⟩ (by omega)
              · refine z_iinc (ls' := [(2, .int (iI (m2 + 1))), (0, .ref o), (1, .int (iI r)), (3, .int (iI c)), (4, .int (iI rc)), (5, .int (iI t))]) C 2 dX6_gainOfRow_48 rfl (Nat.le_of_ble_eq_true rfl) rfl ?_
                refine z_iinc (ls' := [(5, .int (iI (t + 1))), (2, .int (iI (m2 + 1))), (0, .ref o), (1, .int (iI r)), (3, .int (iI c)), (4, .int (iI rc))]) C 5 dX6_gainOfRow_51 rfl (Nat.le_of_ble_eq_true rfl) rfl ?_
                refine z_goto C 26 dX6_gainOfRow_54 (by decide) ?_
                refine z_perm [2, 3, 1, 4, 5, 0] rfl ?_
                exact ih26 _ _  ⟨by omega, by omega, by rw [spGs_s μ ch r c (by omega)]; first | (rw [bI_1 (show spGc μ ch r c t from ⟨by omega, by omega, h45.2⟩)]; omega) | (rw [bI_0 (fun z : spGc μ ch r c t => h45 ⟨by unfold zOn; omega, z.2.2⟩)]; omega)⟩ (by omega)
        refine z_perm [2, 3, 4, 5, 1, 0] rfl ?_
        exact key26 2000 _ _  ⟨by omega, by omega, by rw [spGs_left μ ch (by omega) (by omega) (by omega)]; omega⟩ (by omega)
  refine z_perm [2, 3, 1, 0] rfl ?_
  exact key4 2000 _ _  ⟨by omega, by omega, rfl⟩ (by omega)
