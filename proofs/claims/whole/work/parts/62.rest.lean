set_option maxRecDepth 100000 in
set_option maxHeartbeats 200000 in
theorem c_charted {la : Launch} {G : zG} {X : (Nat → Prop) → State → Prop} (hX : zX X) {L : List Nat} {f : Nat → va_E} {o : Nat} {ω : Nat → Nat → Nat} {μ : zMu} (hR : SRC G L f o ω μ)  (hI : MI μ) (hK : MK μ) : zM la G X yX6_charted (.code yX6_charted cX6_charted 1 (some .int) :: zT) 8 0 0 [.ref o] L f zeI (fun z L' f' => z = spCharted μ ∧ CSx G L' f' o μ) := by
  refine zM_intro hX (by decide) (Nat.le_of_ble_eq_true rfl) (fun pZ eZ sZ mZ aZ bZ hZ cZ AZ C hini => ?_)
  change ZW G pZ la eZ (zRm 8 0 0) sZ mZ aZ bZ hZ cZ AZ 1 0 0 _ L f 0 [(0, .ref o)] []
  have hNO : zNO = -2147483648 := rfl
  have hn := hI.n
  have hSK : zSK (zK μ) := MJ_SK hI.J
  have hBl : ∀ j : Nat, (j : Int) < μ 2 0 → zLB μ j := fun j hj => hI.J.b12 j (by omega) (by omega)
  have hC0 : CSx G L f o μ := ⟨ω, hR, hI, hK⟩
  have hu := spChart_r hI
  refine z_aload_n C 0 dX6_charted_0 rfl ?_
  refine z_getf C 4 zin_X6 (hR.ob.1) (hR.ob.2) rfl (Nat.le_of_ble_eq_true rfl) zl_1_143 rfl rfl dX6_charted_1 ?_
  refine z_cV (As := []) C zc_X0_countDepths (c_countDepths hX hR.ct (spChart_r hI)) zl_1_162 (Nat.le_of_ble_eq_true rfl) (Nat.le_of_ble_eq_true rfl) (Nat.le_of_ble_eq_true rfl) (hR.ct.1.1) (hR.ct.1.2) rfl rfl rfl rfl (Nat.le_of_ble_eq_true rfl) dX6_charted_4 (fun zc L1 f2 hzc => ?_)
  obtain ⟨hzc, rfl, rfl⟩ := hzc
  change ZW G pZ la eZ (zRm 8 0 0) sZ mZ aZ bZ hZ cZ AZ 1 0 0 _ L f 7 [(0, .ref o)] [.int (iI zc)]
  exact z_ireturn C dX6_charted_7 (Nat.le_of_ble_eq_true rfl) (Nat.le_of_ble_eq_true rfl) ⟨hzc, hC0⟩

set_option maxRecDepth 100000 in
set_option maxHeartbeats 200000 in
theorem c_lines {la : Launch} {G : zG} {X : (Nat → Prop) → State → Prop} (hX : zX X) {L : List Nat} {f : Nat → va_E} {o : Nat} {ω : Nat → Nat → Nat} {μ : zMu} (hR : SRC G L f o ω μ)  (hI : MI μ) (hK : MK μ) : zM la G X yX6_lines (.code yX6_lines cX6_lines 1 (some .int) :: zT) 8 0 0 [.ref o] L f zeI (fun z L' f' => z = μ 2 0 ∧ CSx G L' f' o μ) := by
  refine zM_intro hX (by decide) (Nat.le_of_ble_eq_true rfl) (fun pZ eZ sZ mZ aZ bZ hZ cZ AZ C hini => ?_)
  change ZW G pZ la eZ (zRm 8 0 0) sZ mZ aZ bZ hZ cZ AZ 1 0 0 _ L f 0 [(0, .ref o)] []
  have hNO : zNO = -2147483648 := rfl
  have hn := hI.n
  have hSK : zSK (zK μ) := MJ_SK hI.J
  have hBl : ∀ j : Nat, (j : Int) < μ 2 0 → zLB μ j := fun j hj => hI.J.b12 j (by omega) (by omega)
  have hC0 : CSx G L f o μ := ⟨ω, hR, hI, hK⟩
  have hu := spChart_r hI
  refine z_aload_n C 0 dX6_lines_0 rfl ?_
  refine z_getf C 3 zin_X6 (hR.ob.1) (hR.ob.2) rfl (Nat.le_of_ble_eq_true rfl) zl_1_142 rfl rfl dX6_lines_1 ?_
  exact z_ireturn C dX6_lines_4 (Nat.le_of_ble_eq_true rfl) (Nat.le_of_ble_eq_true rfl) ⟨rfl, hC0⟩

set_option maxRecDepth 100000 in
set_option maxHeartbeats 200000 in
theorem c_toRun {la : Launch} {G : zG} {X : (Nat → Prop) → State → Prop} (hX : zX X) {L : List Nat} {f : Nat → va_E} {o : Nat} {ω : Nat → Nat → Nat} {μ : zMu} (hR : SRC G L f o ω μ)  (hI : MI μ) (hK : MK μ) : zM la G X yX6_toRun (.code yX6_toRun cX6_toRun 4 (some .int) :: zT) 8 0 0 [.ref o] L f zeI (fun z L' f' => z = spToRun μ ∧ CSx G L' f' o μ) := by
  refine zM_intro hX (by decide) (Nat.le_of_ble_eq_true rfl) (fun pZ eZ sZ mZ aZ bZ hZ cZ AZ C hini => ?_)
  change ZW G pZ la eZ (zRm 8 0 0) sZ mZ aZ bZ hZ cZ AZ 4 0 0 _ L f 0 [(0, .ref o)] []
  have hNO : zNO = -2147483648 := rfl
  have hn := hI.n
  have hSK : zSK (zK μ) := MJ_SK hI.J
  have hBl : ∀ j : Nat, (j : Int) < μ 2 0 → zLB μ j := fun j hj => hI.J.b12 j (by omega) (by omega)
  have hC0 : CSx G L f o μ := ⟨ω, hR, hI, hK⟩
  have hu := spChart_r hI
  refine z_iconst C dX6_toRun_0 ?_
  refine z_istore_n (ls' := [(1, .int (iI 0)), (0, .ref o)]) C dX6_toRun_1 (Nat.le_of_ble_eq_true rfl) rfl ?_
  refine z_iconst C dX6_toRun_2 ?_
  refine z_istore_n (ls' := [(2, .int (iI 0)), (1, .int (iI 0)), (0, .ref o)]) C dX6_toRun_3 (Nat.le_of_ble_eq_true rfl) rfl ?_
  have key4 : ∀ (n4 : Nat) (m : Int) (k : Int) , (0 ≤ k ∧ k ≤ μ 2 0 ∧ m = zsum (fun l => bI (0 < spLost μ l)) k.toNat) → μ 2 0 - k < (n4 : Int) → ZW G pZ la eZ (zRm 8 0 0) sZ mZ aZ bZ hZ cZ AZ 4 0 0 (MQ bZ (zQ G zeI (fun z L' f' => z = spToRun μ ∧ CSx G L' f' o μ) AZ) aZ sZ 0 0 AZ) L f 4 [(0, .ref o), (1, .int (iI m)), (2, .int (iI k))] [] := by
    intro n4
    induction n4 with
    | zero => intro m k  hi4 hn4; exfalso; omega
    | succ n4 ih4 =>
      intro m k  hi4 hn4
      obtain ⟨hk0, hk1, hm⟩ := hi4
      refine z_iload_n C 2 dX6_toRun_4 rfl ?_
      refine z_aload_n C 0 dX6_toRun_5 rfl ?_
      refine z_getf C 3 zin_X6 (hR.ob.1) (hR.ob.2) rfl (Nat.le_of_ble_eq_true rfl) zl_1_142 rfl rfl dX6_toRun_6 ?_
      refine z_icmp_ge C 38 dX6_toRun_9 (by decide) (by omega) (by omega) (fun h9 => ?_) (fun h9 => ?_)
      · refine z_iload_n C 1 dX6_toRun_38 rfl ?_
        exact z_ireturn C dX6_toRun_39 (Nat.le_of_ble_eq_true rfl) (Nat.le_of_ble_eq_true rfl) ⟨by rw [hm, show k = μ 2 0 by omega]; rfl, hC0⟩
      · have rg := zsum_rng (c := 1) (by decide) (fun i => bI_rng (0 < spLost μ i)) k.toNat
        refine z_aload_n C 0 dX6_toRun_12 rfl ?_
        refine z_iload_n C 2 dX6_toRun_13 rfl ?_
        refine z_cV (As := [.int (iI k)]) C zc_X6_lineOrNull (c_lineAt hX hR k hI (by omega)) zl_1_178 (Nat.le_of_ble_eq_true rfl) (Nat.le_of_ble_eq_true rfl) (Nat.le_of_ble_eq_true rfl) (hR.ob.1) (hR.ob.2) rfl rfl rfl rfl (Nat.le_of_ble_eq_true rfl) dX6_toRun_14 (fun z1 L2 f3 hz4 => ?_)
        obtain ⟨hz4, rfl, rfl⟩ := hz4
        subst hz4
        have hkn : (((k).toNat : Nat) : Int) = k := Int.toNat_of_nonneg (by omega)
        change ZW G pZ la eZ (zRm 8 0 0) sZ mZ aZ bZ hZ cZ AZ 4 0 0 _ L f 17 [(0, .ref o), (1, .int (iI m)), (2, .int (iI k))] [.ref (ω 5 (k).toNat)]
        refine z_astore_n (ls' := [(3, .ref (ω 5 (k).toNat)), (0, .ref o), (1, .int (iI m)), (2, .int (iI k))]) C dX6_toRun_17 (Nat.le_of_ble_eq_true rfl) rfl ?_
        refine z_aload_n C 0 dX6_toRun_18 rfl ?_
        refine z_ifnullr C dX6_toRun_19 ?_
        refine z_aload_n C 0 dX6_toRun_22 rfl ?_
        refine z_cV (As := []) C zc_X3_countLost (c_countLost hX (hR.ln ((k).toNat) (by omega)) (hBl ((k).toNat) (by omega)) (zsl_cr hI ⟨by omega, by omega⟩) (zrl_cr hI ⟨by omega, by omega⟩)) zl_1_182 (Nat.le_of_ble_eq_true rfl) (Nat.le_of_ble_eq_true rfl) (Nat.le_of_ble_eq_true rfl) ((hR.ln ((k).toNat) (by omega)).1.1) ((hR.ln ((k).toNat) (by omega)).1.2) rfl rfl rfl rfl (Nat.le_of_ble_eq_true rfl) dX6_toRun_23 (fun zk L5 f6 hzk => ?_)
        obtain ⟨hzk, rfl, rfl⟩ := hzk
        have hzk2 : zk = spLost μ k := by rw [hkn, spLost_n hI ⟨by omega, by omega⟩] at hzk; exact hzk
        have hlr : 0 ≤ spLost μ k ∧ spLost μ k ≤ 7 * ((spSize μ k).toNat : Int) := spLsts_rng μ k (spSize μ k).toNat
        have hbsz := spSize_rng hI.J (l := k) ⟨by omega, by omega⟩
        change ZW G pZ la eZ (zRm 8 0 0) sZ mZ aZ bZ hZ cZ AZ 4 0 0 _ L f 26 [(3, .ref (ω 5 (k).toNat)), (0, .ref o), (1, .int (iI m)), (2, .int (iI k))] [.int (iI zk)]
        refine z_if_le C 32 dX6_toRun_26 (by decide) (by omega) (fun h26 => ?_) (fun h26 => ?_)
        · refine z_iinc (ls' := [(2, .int (iI (k + 1))), (3, .ref (ω 5 (k).toNat)), (0, .ref o), (1, .int (iI m))]) C 3 dX6_toRun_32 rfl (Nat.le_of_ble_eq_true rfl) rfl ?_
          refine z_goto C 4 dX6_toRun_35 (by decide) ?_
          refine z_perm [2, 3, 0] rfl ?_
          exact ih4 _ _  ⟨by omega, by omega, by rw [zsum_s _ hk0, ← hm]; unfold bI; first | (rw [if_pos (by omega)]; done) | (rw [if_pos (by omega)]; omega) | (rw [if_neg (by omega)]; done) | (rw [if_neg (by omega)]; omega)⟩ (by omega)
        · refine z_iinc (ls' := [(1, .int (iI (m + 1))), (3, .ref (ω 5 (k).toNat)), (0, .ref o), (2, .int (iI k))]) C 2 dX6_toRun_29 rfl (Nat.le_of_ble_eq_true rfl) rfl ?_
          refine z_iinc (ls' := [(2, .int (iI (k + 1))), (1, .int (iI (m + 1))), (3, .ref (ω 5 (k).toNat)), (0, .ref o)]) C 3 dX6_toRun_32 rfl (Nat.le_of_ble_eq_true rfl) rfl ?_
          refine z_goto C 4 dX6_toRun_35 (by decide) ?_
          refine z_perm [3, 1, 0] rfl ?_
          exact ih4 _ _  ⟨by omega, by omega, by rw [zsum_s _ hk0, ← hm]; unfold bI; first | (rw [if_pos (by omega)]; done) | (rw [if_pos (by omega)]; omega) | (rw [if_neg (by omega)]; done) | (rw [if_neg (by omega)]; omega)⟩ (by omega)
  refine z_perm [2, 1, 0] rfl ?_
  exact key4 2000 _ _  ⟨by omega, by omega, rfl⟩ (by omega)

set_option maxRecDepth 100000 in
set_option maxHeartbeats 200000 in
theorem c_hire {la : Launch} {G : zG} {X : (Nat → Prop) → State → Prop} (hX : zX X) {L : List Nat} {f : Nat → va_E} {o : Nat} {ω : Nat → Nat → Nat} {μ : zMu} (hR : SRC G L f o ω μ)  (hI : MI μ) (hK : MK μ) : zM la G X yX6_hire (.code yX6_hire cX6_hire 5 (some .long) :: zT) 8 0 0 [.ref o] L f zeL (fun z L' f' => z = iL (spHire μ) ∧ CSx G L' f' o μ) := by
  refine zM_intro hX (by decide) (Nat.le_of_ble_eq_true rfl) (fun pZ eZ sZ mZ aZ bZ hZ cZ AZ C hini => ?_)
  change ZW G pZ la eZ (zRm 8 0 0) sZ mZ aZ bZ hZ cZ AZ 5 0 0 _ L f 0 [(0, .ref o)] []
  have hNO : zNO = -2147483648 := rfl
  have hn := hI.n
  have hSK : zSK (zK μ) := MJ_SK hI.J
  have hBl : ∀ j : Nat, (j : Int) < μ 2 0 → zLB μ j := fun j hj => hI.J.b12 j (by omega) (by omega)
  have hC0 : CSx G L f o μ := ⟨ω, hR, hI, hK⟩
  have hu := spChart_r hI
  refine z_aload_n C 0 dX6_hire_0 rfl ?_
  refine z_cV (As := []) C zc_X6_lastDay (c_lastDay hX hR hI) zl_1_203 (Nat.le_of_ble_eq_true rfl) (Nat.le_of_ble_eq_true rfl) (Nat.le_of_ble_eq_true rfl) (hR.ob.1) (hR.ob.2) rfl rfl rfl rfl (Nat.le_of_ble_eq_true rfl) dX6_hire_1 (fun b L1 f2 hb => ?_)
  obtain ⟨hb, rfl, rfl⟩ := hb
  have hb9 := spLd_r hI.J (n := (μ 2 0).toNat) (by omega)
  have hb8 : -1 ≤ b ∧ b ≤ 9 := by rw [hb]; exact hb9
  change ZW G pZ la eZ (zRm 8 0 0) sZ mZ aZ bZ hZ cZ AZ 5 0 0 _ L f 4 [(0, .ref o)] [.int (iI b)]
  refine z_istore_n (ls' := [(1, .int (iI b)), (0, .ref o)]) C dX6_hire_4 (Nat.le_of_ble_eq_true rfl) rfl ?_
  refine z_lconst C dX6_hire_5 ?_
  refine z_lstore_n (ls' := [(2, .long (iL 0)), (1, .int (iI b)), (0, .ref o)]) C dX6_hire_6 (Nat.le_of_ble_eq_true rfl) rfl ?_
  refine z_iconst C dX6_hire_7 ?_
  refine z_istore (ls' := [(4, .int (iI 0)), (2, .long (iL 0)), (1, .int (iI b)), (0, .ref o)]) C dX6_hire_8 (Nat.le_of_ble_eq_true rfl) rfl ?_
  have key10 : ∀ (n10 : Nat) (m : Int) (d : Int) , (0 ≤ d ∧ d ≤ b + 1 ∧ m = zsum (spDay μ) d.toNat) → b + 1 - d < (n10 : Int) → ZW G pZ la eZ (zRm 8 0 0) sZ mZ aZ bZ hZ cZ AZ 5 0 0 (MQ bZ (zQ G zeL (fun z L' f' => z = iL (spHire μ) ∧ CSx G L' f' o μ) AZ) aZ sZ 0 0 AZ) L f 10 [(0, .ref o), (1, .int (iI b)), (2, .long (iL m)), (4, .int (iI d))] [] := by
    intro n10
    induction n10 with
    | zero => intro m d  hi10 hn10; exfalso; omega
    | succ n10 ih10 =>
      intro m d  hi10 hn10
      obtain ⟨hd0, hd1, hm⟩ := hi10
      refine z_iload C 3 dX6_hire_10 rfl ?_
      refine z_bipush C dX6_hire_12 (by decide) ?_
      refine z_icmp_ge C 39 dX6_hire_14 (by decide) (by omega) (by omega) (fun h14 => ?_) (fun h14 => ?_)
      · refine z_lload_n C 2 dX6_hire_39 rfl ?_
        exact z_lreturn C dX6_hire_40 (Nat.le_of_ble_eq_true rfl) (Nat.le_of_ble_eq_true rfl) ⟨by rw [hm]; unfold spHire; rw [show (spLastDay μ + 1).toNat = d.toNat by omega], hC0⟩
      · refine z_iload C 3 dX6_hire_17 rfl ?_
        refine z_iload_n C 1 dX6_hire_19 rfl ?_
        refine z_icmp_gt C 39 dX6_hire_20 (by decide) (by omega) (by omega) (fun h20 => ?_) (fun h20 => ?_)
        · refine z_lload_n C 2 dX6_hire_39 rfl ?_
          exact z_lreturn C dX6_hire_40 (Nat.le_of_ble_eq_true rfl) (Nat.le_of_ble_eq_true rfl) ⟨by rw [hm]; unfold spHire; rw [show (spLastDay μ + 1).toNat = d.toNat by omega], hC0⟩
        · refine z_lload_n C 2 dX6_hire_23 rfl ?_
          refine z_aload_n C 0 dX6_hire_24 rfl ?_
          refine z_iload C 3 dX6_hire_25 rfl ?_
          refine z_cV (As := [.int (iI d)]) C zc_X6_costOf (c_costOf hX hR d hI (by omega)) zl_1_214 (Nat.le_of_ble_eq_true rfl) (Nat.le_of_ble_eq_true rfl) (Nat.le_of_ble_eq_true rfl) (hR.ob.1) (hR.ob.2) rfl rfl rfl rfl (Nat.le_of_ble_eq_true rfl) dX6_hire_27 (fun zk L3 f4 hzk => ?_)
          obtain ⟨hzk, rfl, rfl⟩ := hzk
          have hrk : zR zk := by
            have h := spHr_rng hI.J d (n := (μ 2 0).toNat) (by omega)
            have h2 : 0 ≤ spHours μ d ∧ spHours μ d ≤ 4 * ((μ 2 0).toNat : Int) := h
            rw [hzk]
            unfold spDay
            split
            · split <;> omega
            · split <;> omega
          change ZW G pZ la eZ (zRm 8 0 0) sZ mZ aZ bZ hZ cZ AZ 5 0 0 _ L f 30 [(0, .ref o), (1, .int (iI b)), (2, .long (iL m)), (4, .int (iI d))] [.int (iI zk), .long (iL m)]
          refine z_i2l C dX6_hire_30 (by omega) ?_
          refine z_ladd C dX6_hire_31 ?_
          refine z_lstore_n (ls' := [(2, .long (iL (m + zk))), (0, .ref o), (1, .int (iI b)), (4, .int (iI d))]) C dX6_hire_32 (Nat.le_of_ble_eq_true rfl) rfl ?_
          refine z_iinc (ls' := [(4, .int (iI (d + 1))), (2, .long (iL (m + zk))), (0, .ref o), (1, .int (iI b))]) C 3 dX6_hire_33 rfl (Nat.le_of_ble_eq_true rfl) rfl ?_
          refine z_goto C 10 dX6_hire_36 (by decide) ?_
          refine z_perm [2, 3, 1, 0] rfl ?_
          exact ih10 _ _  ⟨by omega, by omega, by rw [zsum_s _ hd0, ← hm, ← hzk]⟩ (by omega)
  refine z_perm [3, 2, 1, 0] rfl ?_
  exact key10 2000 _ _  ⟨by omega, by omega, rfl⟩ (by omega)

set_option maxRecDepth 100000 in
set_option maxHeartbeats 200000 in
theorem c_chartedShare {la : Launch} {G : zG} {X : (Nat → Prop) → State → Prop} (hX : zX X) {L : List Nat} {f : Nat → va_E} {o : Nat} {ω : Nat → Nat → Nat} {μ : zMu} (hR : SRC G L f o ω μ)  (hI : MI μ) (hK : MK μ) : zM la G X yX6_chartedShare (.code yX6_chartedShare cX6_chartedShare 1 (some .float) :: zT) 8 0 0 [.ref o] L f zeF (fun z L' f' => z = FP.fdiv (FP.i2f (iI (spCharted μ))) 1131413504 ∧ CSx G L' f' o μ) := by
  refine zM_intro hX (by decide) (Nat.le_of_ble_eq_true rfl) (fun pZ eZ sZ mZ aZ bZ hZ cZ AZ C hini => ?_)
  change ZW G pZ la eZ (zRm 8 0 0) sZ mZ aZ bZ hZ cZ AZ 1 0 0 _ L f 0 [(0, .ref o)] []
  have hNO : zNO = -2147483648 := rfl
  have hn := hI.n
  have hSK : zSK (zK μ) := MJ_SK hI.J
  have hBl : ∀ j : Nat, (j : Int) < μ 2 0 → zLB μ j := fun j hj => hI.J.b12 j (by omega) (by omega)
  have hC0 : CSx G L f o μ := ⟨ω, hR, hI, hK⟩
  have hu := spChart_r hI
  refine z_aload_n C 0 dX6_chartedShare_0 rfl ?_
  refine z_getf C 4 zin_X6 (hR.ob.1) (hR.ob.2) rfl (Nat.le_of_ble_eq_true rfl) zl_1_143 rfl rfl dX6_chartedShare_1 ?_
  refine z_cV (As := []) C zc_X0_countDepths (c_countDepths hX hR.ct (spChart_r hI)) zl_1_162 (Nat.le_of_ble_eq_true rfl) (Nat.le_of_ble_eq_true rfl) (Nat.le_of_ble_eq_true rfl) (hR.ct.1.1) (hR.ct.1.2) rfl rfl rfl rfl (Nat.le_of_ble_eq_true rfl) dX6_chartedShare_4 (fun zc L1 f2 hzc => ?_)
  obtain ⟨hzc, rfl, rfl⟩ := hzc
  have hcr := zsum_rng (c := 1) (by decide) (fun i => bI_rng (spChart μ i ≠ zNO)) 240
  have hzc2 : zc = spCharted μ := hzc
  have hcr2 : 0 ≤ spCharted μ ∧ spCharted μ ≤ 1 * ((240 : Nat) : Int) := hcr
  change ZW G pZ la eZ (zRm 8 0 0) sZ mZ aZ bZ hZ cZ AZ 1 0 0 _ L f 7 [(0, .ref o)] [.int (iI zc)]
  refine z_i2f C dX6_chartedShare_7 ?_
  refine z_ldcfw (v := 1131413504) C zl_2_1 dX6_chartedShare_8 ?_
  refine z_fdiv C dX6_chartedShare_11 (fp_share (by omega)) ?_
  exact z_freturn C dX6_chartedShare_12 (Nat.le_of_ble_eq_true rfl) (Nat.le_of_ble_eq_true rfl) ⟨by rw [hzc2], hC0⟩

set_option maxRecDepth 100000 in
set_option maxHeartbeats 400000 in
theorem c_bestRow {la : Launch} {G : zG} {X : (Nat → Prop) → State → Prop} (hX : zX X) (h4 : zT4 X) (hfl : la.stackTraces = false) {L : List Nat} {f : Nat → va_E} {o : Nat} {ω : Nat → Nat → Nat} {μ : zMu} (hR : SRC G L f o ω μ)  (hI : MI μ) (hK : MK μ) : zMX la G X yX6_bestRow (.code yX6_bestRow cX6_bestRow 5 (some .int) :: zT) 8 8 48 [.ref o] L f zeI (CR G o (o_bestRow μ)) (CX G o ["java/lang/IllegalStateException"] (o_bestRow μ)) := by
  refine zMX_intro hX (by decide) (Nat.le_of_ble_eq_true rfl) (fun pZ eZ sZ mZ aZ bZ hZ cZ AZ C hnt => ?_)
  change ZW G pZ la eZ (zRm 8 8 48) sZ mZ aZ bZ hZ cZ AZ 5 0 0 _ L f 0 [(0, .ref o)] []
  have hNO : zNO = -2147483648 := rfl
  have hn := hI.n
  have hSK : zSK (zK μ) := MJ_SK hI.J
  have hBl : ∀ j : Nat, (j : Int) < μ 2 0 → zLB μ j := fun j hj => hI.J.b12 j (by omega) (by omega)
  have hC0 : CSx G L f o μ := ⟨ω, hR, hI, hK⟩
  have hu := spChart_r hI
  refine z_aload_n C 0 dX6_bestRow_0 rfl ?_
  refine z_getf C 4 zin_X6 (hR.ob.1) (hR.ob.2) rfl (Nat.le_of_ble_eq_true rfl) zl_1_143 rfl rfl dX6_bestRow_1 ?_
  refine z_cV (As := []) C zc_X0_countDepths (c_countDepths hX hR.ct (spChart_r hI)) zl_1_162 (Nat.le_of_ble_eq_true rfl) (Nat.le_of_ble_eq_true rfl) (Nat.le_of_ble_eq_true rfl) (hR.ct.1.1) (hR.ct.1.2) rfl rfl rfl rfl (Nat.le_of_ble_eq_true rfl) dX6_bestRow_4 (fun zc L1 f2 hzc => ?_)
  obtain ⟨hzc, rfl, rfl⟩ := hzc
  have hcr := zsum_rng (c := 1) (by decide) (fun i => bI_rng (spChart μ i ≠ zNO)) 240
  have hzc2 : zc = spCharted μ := hzc
  have hcr2 : 0 ≤ spCharted μ ∧ spCharted μ ≤ 1 * ((240 : Nat) : Int) := hcr
  change ZW G pZ la eZ (zRm 8 8 48) sZ mZ aZ bZ hZ cZ AZ 5 0 0 _ L f 7 [(0, .ref o)] [.int (iI zc)]
  refine z_sipush C dX6_bestRow_7 (by decide) ?_
  refine z_icmp_ne C 23 dX6_bestRow_10 (by decide) (by omega) (by omega) (fun h10 => ?_) (fun h10 => ?_)
  · refine z_iconst C dX6_bestRow_23 ?_
    refine z_istore_n (ls' := [(1, .int (iI 0)), (0, .ref o)]) C dX6_bestRow_24 (Nat.le_of_ble_eq_true rfl) rfl ?_
    refine z_iconst C dX6_bestRow_25 ?_
    refine z_istore_n (ls' := [(2, .int (iI 0)), (1, .int (iI 0)), (0, .ref o)]) C dX6_bestRow_26 (Nat.le_of_ble_eq_true rfl) rfl ?_
    refine z_iconst C dX6_bestRow_27 ?_
    refine z_istore_n (ls' := [(3, .int (iI 0)), (2, .int (iI 0)), (1, .int (iI 0)), (0, .ref o)]) C dX6_bestRow_28 (Nat.le_of_ble_eq_true rfl) rfl ?_
    have key29 : ∀ (n29 : Nat) (b : Int) (m : Int) (k : Int) , (0 ≤ k ∧ k ≤ 12 ∧ 0 ≤ m ∧ m ≤ 140 ∧ (k = 0 ∧ b = 0 ∧ m = 0 ∨ 1 ≤ k ∧ b = spBst (spGain μ (spChart μ)) (k - 1).toNat ∧ m = (spGain μ (spChart μ)) b)) → 12 - k < (n29 : Int) → ZW G pZ la eZ (zRm 8 8 48) sZ mZ aZ bZ hZ cZ AZ 5 0 0 (vx_MQ bZ (zQ G zeI (CR G o (o_bestRow μ)) AZ) (zXC G (CX G o ["java/lang/IllegalStateException"] (o_bestRow μ)) AZ) aZ sZ 8 48 AZ) L f 29 [(0, .ref o), (1, .int (iI b)), (2, .int (iI m)), (3, .int (iI k))] [] := by
      intro n29
      induction n29 with
      | zero => intro b m k  hi29 hn29; exfalso; omega
      | succ n29 ih29 =>
        intro b m k  hi29 hn29
        obtain ⟨hk0, hk1, hm0, hm1, hbm⟩ := hi29
        refine z_iload_n C 3 dX6_bestRow_29 rfl ?_
        refine z_bipush C dX6_bestRow_30 (by decide) ?_
        refine z_icmp_ge C 59 dX6_bestRow_32 (by decide) (by omega) (by omega) (fun h32 => ?_) (fun h32 => ?_)
        · refine z_iload_n C 1 dX6_bestRow_59 rfl ?_
          refine z_xr ?_
          exact z_ireturn C dX6_bestRow_60 (Nat.le_of_ble_eq_true rfl) (Nat.le_of_ble_eq_true rfl) (CR_mk (v := spBst (spGain μ (spChart μ)) 11) (μ' := μ) (by unfold o_bestRow; (repeat (first | rw [if_pos (by omega)] | rw [if_neg (by omega)]))) (by rcases hbm with q | q; omega; rw [q.2.1, show (k - 1).toNat = 11 by omega]) hC0)
        · refine z_aload_n C 0 dX6_bestRow_35 rfl ?_
          refine z_iload_n C 3 dX6_bestRow_36 rfl ?_
          refine z_cV (As := [.int (iI k)]) C zc_X6_gainOfRow (c_gainOfRow hX hR k hI hu (by omega)) zl_4_180 (Nat.le_of_ble_eq_true rfl) (Nat.le_of_ble_eq_true rfl) (Nat.le_of_ble_eq_true rfl) (hR.ob.1) (hR.ob.2) rfl rfl rfl rfl (Nat.le_of_ble_eq_true rfl) dX6_bestRow_37 (fun zg L3 f4 hzg => ?_)
          obtain ⟨hzg, rfl, rfl⟩ := hzg
          have hgr := spGain_rng μ (spChart μ) k
          change ZW G pZ la eZ (zRm 8 8 48) sZ mZ aZ bZ hZ cZ AZ 5 0 0 _ L f 40 [(0, .ref o), (1, .int (iI b)), (2, .int (iI m)), (3, .int (iI k))] [.int (iI zg)]
          refine z_istore (ls' := [(4, .int (iI zg)), (0, .ref o), (1, .int (iI b)), (2, .int (iI m)), (3, .int (iI k))]) C dX6_bestRow_40 (Nat.le_of_ble_eq_true rfl) rfl ?_
          refine z_iload C 0 dX6_bestRow_42 rfl ?_
          refine z_iload_n C 3 dX6_bestRow_44 rfl ?_
          refine z_icmp_le C 53 dX6_bestRow_45 (by decide) (by omega) (by omega) (fun h45 => ?_) (fun h45 => ?_)
          · refine z_iinc (ls' := [(3, .int (iI (k + 1))), (4, .int (iI zg)), (0, .ref o), (1, .int (iI b)), (2, .int (iI m))]) C 4 dX6_bestRow_53 rfl (Nat.le_of_ble_eq_true rfl) rfl ?_
            refine z_goto C 29 dX6_bestRow_56 (by decide) ?_
            refine z_perm [2, 3, 4, 0] rfl ?_
            exact ih29 _ _ _  ⟨by omega, by omega, by omega, by omega, by
              right
              refine ⟨by omega, ?_⟩
              rw [show k + 1 - 1 = k by omega]
              rcases hbm with ⟨e1, e2, e3⟩ | ⟨e1, e2, e3⟩
              · subst e1
                first
                | exact ⟨rfl, by omega⟩
                | (subst e2; exact ⟨rfl, by omega⟩)
              · rw [spBst_s _ e1]
                first
                | (rw [if_pos (by rw [← e2, ← e3]; omega)]; exact ⟨rfl, by omega⟩)
                | (rw [if_neg (by rw [← e2, ← e3]; omega)]; exact ⟨e2, e3⟩)⟩ (by omega)
          · refine z_iload C 0 dX6_bestRow_48 rfl ?_
            refine z_istore_n (ls' := [(2, .int (iI zg)), (4, .int (iI zg)), (0, .ref o), (1, .int (iI b)), (3, .int (iI k))]) C dX6_bestRow_50 (Nat.le_of_ble_eq_true rfl) rfl ?_
            refine z_iload_n C 4 dX6_bestRow_51 rfl ?_
            refine z_istore_n (ls' := [(1, .int (iI k)), (2, .int (iI zg)), (4, .int (iI zg)), (0, .ref o), (3, .int (iI k))]) C dX6_bestRow_52 (Nat.le_of_ble_eq_true rfl) rfl ?_
            refine z_iinc (ls' := [(3, .int (iI (k + 1))), (1, .int (iI k)), (2, .int (iI zg)), (4, .int (iI zg)), (0, .ref o)]) C 4 dX6_bestRow_53 rfl (Nat.le_of_ble_eq_true rfl) rfl ?_
            refine z_goto C 29 dX6_bestRow_56 (by decide) ?_
            refine z_perm [4, 1, 2, 0] rfl ?_
            exact ih29 _ _ _  ⟨by omega, by omega, by omega, by omega, by
              right
              refine ⟨by omega, ?_⟩
              rw [show k + 1 - 1 = k by omega]
              rcases hbm with ⟨e1, e2, e3⟩ | ⟨e1, e2, e3⟩
              · subst e1
                first
                | exact ⟨rfl, by omega⟩
                | (subst e2; exact ⟨rfl, by omega⟩)
              · rw [spBst_s _ e1]
                first
                | (rw [if_pos (by rw [← e2, ← e3]; omega)]; exact ⟨rfl, by omega⟩)
                | (rw [if_neg (by rw [← e2, ← e3]; omega)]; exact ⟨e2, e3⟩)⟩ (by omega)
    refine z_perm [3, 2, 1, 0] rfl ?_
    exact key29 2000 _ _ _  ⟨by omega, by omega, by omega, by omega, by omega⟩ (by omega)
  · exact z_throwS C h4 hfl hnt (by decide +kernel) zl_3_117 zl_1_21 (List.mem_of_getElem? (i := 22) rfl) zthwISE zthgISE dX6_bestRow_13 dX6_bestRow_16 dX6_bestRow_17 dX6_bestRow_19 dX6_bestRow_22 (Nat.le_of_ble_eq_true rfl) (Nat.le_of_ble_eq_true rfl) (Nat.le_of_ble_eq_true rfl) (Nat.le_of_ble_eq_true rfl) (CX_mk (j := 1) (v := 0) (μ' := μ) (by unfold o_bestRow; (repeat (first | rw [if_pos (by omega)] | rw [if_neg (by omega)]))) (by decide) rfl hC0)

set_option maxRecDepth 100000 in
set_option maxHeartbeats 200000 in
theorem c_depthAnew {la : Launch} {G : zG} {X : (Nat → Prop) → State → Prop} (hX : zX X) (h4 : zT4 X) (hfl : la.stackTraces = false) {L : List Nat} {f : Nat → va_E} {o : Nat} {ω : Nat → Nat → Nat} {μ : zMu} (hR : SRC G L f o ω μ) (c r : Int) (hI : MI μ) (hK : MK μ) (hc : zR c) (hr : zR r) : zMX la G X yX6_depthAnew (.code yX6_depthAnew cX6_depthAnew 3 (some .int) :: zT) 8 8 48 [.ref o, .int (iI c), .int (iI r)] L f zeI (CR G o (o_depth μ c r)) (CX G o ["java/lang/IndexOutOfBoundsException", "java/lang/UnsupportedOperationException"] (o_depth μ c r)) := by
  refine zMX_intro hX (by decide) (Nat.le_of_ble_eq_true rfl) (fun pZ eZ sZ mZ aZ bZ hZ cZ AZ C hnt => ?_)
  change ZW G pZ la eZ (zRm 8 8 48) sZ mZ aZ bZ hZ cZ AZ 3 0 0 _ L f 0 [(0, .ref o), (1, .int (iI c)), (2, .int (iI r))] []
  have hNO : zNO = -2147483648 := rfl
  have hn := hI.n
  have hSK : zSK (zK μ) := MJ_SK hI.J
  have hBl : ∀ j : Nat, (j : Int) < μ 2 0 → zLB μ j := fun j hj => hI.J.b12 j (by omega) (by omega)
  have hC0 : CSx G L f o μ := ⟨ω, hR, hI, hK⟩
  have hu := spChart_r hI
  refine z_iload_n C 1 dX6_depthAnew_0 rfl ?_
  refine z_iload_n C 2 dX6_depthAnew_1 rfl ?_
  refine z_cSX (As := [.int (iI c), .int (iI r)]) C zc_X6_requireCell (c_reqCell hX h4 hfl c r (by omega) (by omega)) zl_2_203 (Nat.le_of_ble_eq_true rfl) (Nat.le_of_ble_eq_true rfl) (Nat.le_of_ble_eq_true rfl) rfl rfl (Nat.le_of_ble_eq_true rfl) dX6_depthAnew_2 (fun E L9 f9 hxE => z_xout C hnt (Nat.le_of_ble_eq_true rfl) (Nat.le_of_ble_eq_true rfl) (by obtain ⟨rfl, hx, rfl, rfl⟩ := hxE; exact CX_mk (j := 1) (v := 0) (μ' := μ) (by unfold o_depth; (repeat (first | rw [if_pos (by omega)] | rw [if_neg (by omega)]))) (by decide) rfl hC0)) (fun z2 L3 f4 hz5 => ?_)
  obtain ⟨hq1, rfl, rfl⟩ := hz5
  change ZW G pZ la eZ (zRm 8 8 48) sZ mZ aZ bZ hZ cZ AZ 3 1 6 _ L f 5 [(0, .ref o), (1, .int (iI c)), (2, .int (iI r))] []
  refine z_aload_n C 0 dX6_depthAnew_5 rfl ?_
  refine z_cV (As := []) C zc_X6_reduceLines (c_reduceLines hX hR hI hK (zrd0_r μ)) zl_2_6 (Nat.le_of_ble_eq_true rfl) (Nat.le_of_ble_eq_true rfl) (Nat.le_of_ble_eq_true rfl) (hR.ob.1) (hR.ob.2) rfl rfl rfl rfl (Nat.le_of_ble_eq_true rfl) dX6_depthAnew_6 (fun z6 L7 f8 hz9 => ?_)
  obtain ⟨rfl, hR2⟩ := hz9
  have hC2 : CSx G L f8 o μ := ⟨ω, hR2, hI, hK⟩
  change ZW G pZ la eZ (zRm 8 8 48) sZ mZ aZ bZ hZ cZ AZ 3 1 6 _ L f8 9 [(0, .ref o), (1, .int (iI c)), (2, .int (iI r))] []
  refine z_aload_n C 0 dX6_depthAnew_9 rfl ?_
  refine z_iload_n C 1 dX6_depthAnew_10 rfl ?_
  refine z_iload_n C 2 dX6_depthAnew_11 rfl ?_
  refine z_cV (As := [.int (iI c), .int (iI r)]) C zc_X6_leastDepth (c_leastDepth hX hR2 c r hI (by omega) (by omega)) zl_2_86 (Nat.le_of_ble_eq_true rfl) (Nat.le_of_ble_eq_true rfl) (Nat.le_of_ble_eq_true rfl) (hR2.ob.1) (hR2.ob.2) rfl rfl rfl rfl (Nat.le_of_ble_eq_true rfl) dX6_depthAnew_12 (fun zl L10 f11 hzl => ?_)
  obtain ⟨hzl, rfl, rfl⟩ := hzl
  have hzl2 : zl = cN (spChart μ (20 * r + c)) := by rw [spLeast_chart hI hK ⟨by omega, by omega, by omega, by omega⟩] at hzl; exact hzl
  have hdc := cN_cs (hu (20 * r + c))
  change ZW G pZ la eZ (zRm 8 8 48) sZ mZ aZ bZ hZ cZ AZ 3 1 6 _ L f8 15 [(0, .ref o), (1, .int (iI c)), (2, .int (iI r))] [.int (iI zl)]
  refine z_cSX (As := [.int (iI zl)]) C zc_X6_requireDepth (c_reqDepth hX h4 hfl zl (by omega)) zl_4_150 (Nat.le_of_ble_eq_true rfl) (Nat.le_of_ble_eq_true rfl) (Nat.le_of_ble_eq_true rfl) rfl rfl (Nat.le_of_ble_eq_true rfl) dX6_depthAnew_15 (fun E L9 f9 hxE => z_xout C hnt (Nat.le_of_ble_eq_true rfl) (Nat.le_of_ble_eq_true rfl) (by obtain ⟨rfl, hx, rfl, rfl⟩ := hxE; exact CX_mk (j := 2) (v := 0) (μ' := μ) (by unfold o_depth; (repeat (first | rw [if_pos (by omega)] | rw [if_neg (by omega)]))) (by decide) rfl hC2)) (fun z13 L14 f15 hz16 => ?_)
  obtain ⟨⟨hv12, hq12⟩, rfl, rfl⟩ := hz16
  replace hv12 := hv12.symm
  subst hv12
  change ZW G pZ la eZ (zRm 8 8 48) sZ mZ aZ bZ hZ cZ AZ 3 2 12 _ L f8 18 [(0, .ref o), (1, .int (iI c)), (2, .int (iI r))] [.int (iI zl)]
  refine z_xr ?_
  exact z_ireturn C dX6_depthAnew_18 (Nat.le_of_ble_eq_true rfl) (Nat.le_of_ble_eq_true rfl) (CR_mk (v := spChart μ (20 * r + c)) (μ' := μ) (by unfold o_depth; (repeat (first | rw [if_pos (by omega)] | rw [if_neg (by omega)]))) (by omega) hC2)

set_option maxRecDepth 100000 in
set_option maxHeartbeats 200000 in
theorem c_isSure {la : Launch} {G : zG} {X : (Nat → Prop) → State → Prop} (hX : zX X) {L : List Nat} {f : Nat → va_E} {o : Nat} {ω : Nat → Nat → Nat} {μ : zMu} (hR : SRC G L f o ω μ)  (hI : MI μ) (hK : MK μ) : zM la G X yX6_isSure (.code yX6_isSure cX6_isSure 3 (some .boolean) :: zT) 8 0 0 [.ref o] L f zeI (fun z L' f' => z = 1 ∧ CSx G L' f' o μ) := by
  refine zM_intro hX (by decide) (Nat.le_of_ble_eq_true rfl) (fun pZ eZ sZ mZ aZ bZ hZ cZ AZ C hini => ?_)
  change ZW G pZ la eZ (zRm 8 0 0) sZ mZ aZ bZ hZ cZ AZ 3 0 0 _ L f 0 [(0, .ref o)] []
  have hNO : zNO = -2147483648 := rfl
  have hn := hI.n
  have hSK : zSK (zK μ) := MJ_SK hI.J
  have hBl : ∀ j : Nat, (j : Int) < μ 2 0 → zLB μ j := fun j hj => hI.J.b12 j (by omega) (by omega)
  have hC0 : CSx G L f o μ := ⟨ω, hR, hI, hK⟩
  have hu := spChart_r hI
  refine z_aload_n C 0 dX6_isSure_0 rfl ?_
  refine z_cV (As := []) C zc_X6_reduceLines (c_reduceLines hX hR hI hK (zrd0_r μ)) zl_2_6 (Nat.le_of_ble_eq_true rfl) (Nat.le_of_ble_eq_true rfl) (Nat.le_of_ble_eq_true rfl) (hR.ob.1) (hR.ob.2) rfl rfl rfl rfl (Nat.le_of_ble_eq_true rfl) dX6_isSure_1 (fun z1 L2 f3 hz4 => ?_)
  obtain ⟨rfl, hR2⟩ := hz4
  have hC2 : CSx G L f3 o μ := ⟨ω, hR2, hI, hK⟩
  change ZW G pZ la eZ (zRm 8 0 0) sZ mZ aZ bZ hZ cZ AZ 3 0 0 _ L f3 4 [(0, .ref o)] []
  refine z_iconst C dX6_isSure_4 ?_
  refine z_istore_n (ls' := [(1, .int (iI 0)), (0, .ref o)]) C dX6_isSure_5 (Nat.le_of_ble_eq_true rfl) rfl ?_
  have key6 : ∀ (n6 : Nat) (r : Int) , (0 ≤ r ∧ r ≤ 12) → 12 - r < (n6 : Int) → ZW G pZ la eZ (zRm 8 0 0) sZ mZ aZ bZ hZ cZ AZ 3 0 0 (MQ bZ (zQ G zeI (fun z L' f' => z = 1 ∧ CSx G L' f' o μ) AZ) aZ sZ 0 0 AZ) L f3 6 [(0, .ref o), (1, .int (iI r))] [] := by
    intro n6
    induction n6 with
    | zero => intro r  hi6 hn6; exfalso; omega
    | succ n6 ih6 =>
      intro r  hi6 hn6
      obtain ⟨hr0, hr1⟩ := hi6
      refine z_iload_n C 1 dX6_isSure_6 rfl ?_
      refine z_bipush C dX6_isSure_7 (by decide) ?_
      refine z_icmp_ge C 52 dX6_isSure_9 (by decide) (by omega) (by omega) (fun h9 => ?_) (fun h9 => ?_)
      · refine z_iconst C dX6_isSure_52 ?_
        exact z_zreturn C (by first | omega | (unfold bI; split <;> omega)) dX6_isSure_53 (Nat.le_of_ble_eq_true rfl) (Nat.le_of_ble_eq_true rfl) ⟨rfl, hC2⟩
      · refine z_iconst C dX6_isSure_12 ?_
        refine z_istore_n (ls' := [(2, .int (iI 0)), (0, .ref o), (1, .int (iI r))]) C dX6_isSure_13 (Nat.le_of_ble_eq_true rfl) rfl ?_
        have key14 : ∀ (n14 : Nat) (c : Int) , (0 ≤ c ∧ c ≤ 20) → 20 - c < (n14 : Int) → ZW G pZ la eZ (zRm 8 0 0) sZ mZ aZ bZ hZ cZ AZ 3 0 0 (MQ bZ (zQ G zeI (fun z L' f' => z = 1 ∧ CSx G L' f' o μ) AZ) aZ sZ 0 0 AZ) L f3 14 [(0, .ref o), (1, .int (iI r)), (2, .int (iI c))] [] := by
          intro n14
          induction n14 with
          | zero => intro c  hi14 hn14; exfalso; omega
          | succ n14 ih14 =>
            intro c  hi14 hn14
            obtain ⟨hc0, hc1⟩ := hi14
            refine z_iload_n C 2 dX6_isSure_14 rfl ?_
            refine z_bipush C dX6_isSure_15 (by decide) ?_
            refine z_icmp_ge C 46 dX6_isSure_17 (by decide) (by omega) (by omega) (fun h17 => ?_) (fun h17 => ?_)
            · refine z_iinc (ls' := [(1, .int (iI (r + 1))), (0, .ref o), (2, .int (iI c))]) C 1 dX6_isSure_46 rfl (Nat.le_of_ble_eq_true rfl) rfl ?_
              refine z_goto C 6 dX6_isSure_49 (by decide) ?_
              refine z_perm [1, 0] rfl ?_
              exact ih6 _  ⟨by omega, by omega⟩ (by omega)
            · refine z_aload_n C 0 dX6_isSure_20 rfl ?_
              refine z_getf C 4 zin_X6 (hR2.ob.1) (hR2.ob.2) rfl (Nat.le_of_ble_eq_true rfl) zl_1_143 rfl rfl dX6_isSure_21 ?_
              refine z_iload_n C 2 dX6_isSure_24 rfl ?_
              refine z_iload_n C 1 dX6_isSure_25 rfl ?_
              refine z_cV (As := [.int (iI c), .int (iI r)]) C zc_X0_depthIn (c_depthIn hX hR2.ct c r hu (by omega) (by omega)) zl_2_79 (Nat.le_of_ble_eq_true rfl) (Nat.le_of_ble_eq_true rfl) (Nat.le_of_ble_eq_true rfl) (hR2.ct.1.1) (hR2.ct.1.2) rfl rfl rfl rfl (Nat.le_of_ble_eq_true rfl) dX6_isSure_26 (fun zd L5 f6 hzd => ?_)
              obtain ⟨hzd, rfl, rfl⟩ := hzd
              have hzd2 : zd = cN (spChart μ (20 * r + c)) := by rw [if_pos (by omega)] at hzd; exact hzd
              change ZW G pZ la eZ (zRm 8 0 0) sZ mZ aZ bZ hZ cZ AZ 3 0 0 _ L f3 29 [(0, .ref o), (1, .int (iI r)), (2, .int (iI c))] [.int (iI zd)]
              refine z_aload_n C 0 dX6_isSure_29 rfl ?_
              refine z_iload_n C 2 dX6_isSure_30 rfl ?_
              refine z_iload_n C 1 dX6_isSure_31 rfl ?_
              refine z_cV (As := [.int (iI c), .int (iI r)]) C zc_X6_leastDepth (c_leastDepth hX hR2 c r hI (by omega) (by omega)) zl_2_86 (Nat.le_of_ble_eq_true rfl) (Nat.le_of_ble_eq_true rfl) (Nat.le_of_ble_eq_true rfl) (hR2.ob.1) (hR2.ob.2) rfl rfl rfl rfl (Nat.le_of_ble_eq_true rfl) dX6_isSure_32 (fun zl L7 f8 hzl => ?_)
              obtain ⟨hzl, rfl, rfl⟩ := hzl
              have hzl2 : zl = cN (spChart μ (20 * r + c)) := by rw [spLeast_chart hI hK ⟨by omega, by omega, by omega, by omega⟩] at hzl; exact hzl
              have hdc := cN_cs (hu (20 * r + c))
              change ZW G pZ la eZ (zRm 8 0 0) sZ mZ aZ bZ hZ cZ AZ 3 0 0 _ L f3 35 [(0, .ref o), (1, .int (iI r)), (2, .int (iI c))] [.int (iI zl), .int (iI zd)]
              refine z_icmp_eq C 40 dX6_isSure_35 (by decide) (by omega) (by omega) (fun h35 => ?_) (fun h35 => ?_)
              · refine z_iinc (ls' := [(2, .int (iI (c + 1))), (0, .ref o), (1, .int (iI r))]) C 2 dX6_isSure_40 rfl (Nat.le_of_ble_eq_true rfl) rfl ?_
                refine z_goto C 14 dX6_isSure_43 (by decide) ?_
                refine z_perm [1, 2, 0] rfl ?_
                exact ih14 _  ⟨by omega, by omega⟩ (by omega)
              · exfalso; omega
        refine z_perm [1, 2, 0] rfl ?_
        exact key14 2000 _  ⟨by omega, by omega⟩ (by omega)
  refine z_perm [1, 0] rfl ?_
  exact key6 2000 _  ⟨by omega, by omega⟩ (by omega)

set_option maxRecDepth 100000 in
set_option maxHeartbeats 200000 in
theorem c_cross {la : Launch} {G : zG} {X : (Nat → Prop) → State → Prop} (hX : zX X) (h4 : zT4 X) (hfl : la.stackTraces = false) {L : List Nat} {f : Nat → va_E} {o : Nat} {ω : Nat → Nat → Nat} {μ : zMu} (hR : SRC G L f o ω μ) (l m : Int) (hI : MI μ) (hK : MK μ) (hl : zR l) (hm : zR m) : zMX la G X yX6_cross (.code yX6_cross cX6_cross 6 (some .int) :: zT) 8 8 48 [.ref o, .int (iI l), .int (iI m)] L f zeI (CR G o (o_cross μ l m)) (CX G o ["java/util/NoSuchElementException", "java/lang/IllegalArgumentException", "java/lang/UnsupportedOperationException"] (o_cross μ l m)) := by
  refine zMX_intro hX (by decide) (Nat.le_of_ble_eq_true rfl) (fun pZ eZ sZ mZ aZ bZ hZ cZ AZ C hnt => ?_)
  change ZW G pZ la eZ (zRm 8 8 48) sZ mZ aZ bZ hZ cZ AZ 6 0 0 _ L f 0 [(0, .ref o), (1, .int (iI l)), (2, .int (iI m))] []
  have hNO : zNO = -2147483648 := rfl
  have hn := hI.n
  have hSK : zSK (zK μ) := MJ_SK hI.J
  have hBl : ∀ j : Nat, (j : Int) < μ 2 0 → zLB μ j := fun j hj => hI.J.b12 j (by omega) (by omega)
  have hC0 : CSx G L f o μ := ⟨ω, hR, hI, hK⟩
  have hu := spChart_r hI
  refine z_aload_n C 0 dX6_cross_0 rfl ?_
  refine z_iload_n C 1 dX6_cross_1 rfl ?_
  refine z_cVX (As := [.int (iI l)]) C zc_X6_requireLine (c_reqLine hX h4 hfl hR l hI (by omega)) zl_4_67 (Nat.le_of_ble_eq_true rfl) (Nat.le_of_ble_eq_true rfl) (Nat.le_of_ble_eq_true rfl) (hR.ob.1) (hR.ob.2) rfl rfl rfl rfl (Nat.le_of_ble_eq_true rfl) dX6_cross_2 (fun E L9 f9 hxE => z_xout C hnt (Nat.le_of_ble_eq_true rfl) (Nat.le_of_ble_eq_true rfl) (by obtain ⟨rfl, hx, rfl, rfl⟩ := hxE; exact CX_mk (j := 1) (v := 0) (μ' := μ) (by unfold o_cross; (repeat (first | rw [if_pos (by omega)] | rw [if_neg (by omega)]))) (by decide) rfl hC0)) (fun z2 L3 f4 hz5 => ?_)
  obtain ⟨rfl, hq1, rfl, rfl⟩ := hz5
  have hkl : (((l).toNat : Nat) : Int) = l := Int.toNat_of_nonneg (by omega)
  change ZW G pZ la eZ (zRm 8 8 48) sZ mZ aZ bZ hZ cZ AZ 6 1 6 _ L f 5 [(0, .ref o), (1, .int (iI l)), (2, .int (iI m))] [.ref (ω 5 (l).toNat)]
  refine z_astore_n (ls' := [(3, .ref (ω 5 (l).toNat)), (0, .ref o), (1, .int (iI l)), (2, .int (iI m))]) C dX6_cross_5 (Nat.le_of_ble_eq_true rfl) rfl ?_
  refine z_aload_n C 1 dX6_cross_6 rfl ?_
  refine z_iload_n C 3 dX6_cross_7 rfl ?_
  refine z_cVX (As := [.int (iI m)]) C zc_X6_requireLine (c_reqLine hX h4 hfl hR m hI (by omega)) zl_4_67 (Nat.le_of_ble_eq_true rfl) (Nat.le_of_ble_eq_true rfl) (Nat.le_of_ble_eq_true rfl) (hR.ob.1) (hR.ob.2) rfl rfl rfl rfl (Nat.le_of_ble_eq_true rfl) dX6_cross_8 (fun E L9 f9 hxE => z_xout C hnt (Nat.le_of_ble_eq_true rfl) (Nat.le_of_ble_eq_true rfl) (by obtain ⟨rfl, hx, rfl, rfl⟩ := hxE; exact CX_mk (j := 1) (v := 0) (μ' := μ) (by unfold o_cross; (repeat (first | rw [if_pos (by omega)] | rw [if_neg (by omega)]))) (by decide) rfl hC0)) (fun z7 L8 f9 hz10 => ?_)
  obtain ⟨rfl, hq6, rfl, rfl⟩ := hz10
  have hkm : (((m).toNat : Nat) : Int) = m := Int.toNat_of_nonneg (by omega)
  change ZW G pZ la eZ (zRm 8 8 48) sZ mZ aZ bZ hZ cZ AZ 6 2 12 _ L f 11 [(3, .ref (ω 5 (l).toNat)), (0, .ref o), (1, .int (iI l)), (2, .int (iI m))] [.ref (ω 5 (m).toNat)]
  refine z_astore (ls' := [(4, .ref (ω 5 (m).toNat)), (3, .ref (ω 5 (l).toNat)), (0, .ref o), (1, .int (iI l)), (2, .int (iI m))]) C dX6_cross_11 (Nat.le_of_ble_eq_true rfl) rfl ?_
  refine z_aload_n C 1 dX6_cross_13 rfl ?_
  refine z_aload C 0 dX6_cross_14 rfl ?_
  refine z_cV (As := [.ref (ω 5 (m).toNat)]) C zc_X3_meets (c_meets hX (hR.ln ((l).toNat) (by omega)) (hR.ln ((m).toNat) (by omega)) (hBl ((l).toNat) (by omega)) (hBl ((m).toNat) (by omega))) zl_4_204 (Nat.le_of_ble_eq_true rfl) (Nat.le_of_ble_eq_true rfl) (Nat.le_of_ble_eq_true rfl) ((hR.ln ((l).toNat) (by omega)).1.1) ((hR.ln ((l).toNat) (by omega)).1.2) rfl rfl rfl rfl (Nat.le_of_ble_eq_true rfl) dX6_cross_16 (fun zt L11 f12 hzt => ?_)
  obtain ⟨hzt, rfl, rfl⟩ := hzt
  rw [hkl, hkm] at hzt
  have hzt2 : zt = 0 ∨ zt = 1 := by
    rcases hzt with q | q
    · exact Or.inl q.1
    · exact Or.inr q.1
  change ZW G pZ la eZ (zRm 8 8 48) sZ mZ aZ bZ hZ cZ AZ 6 2 12 _ L f 19 [(4, .ref (ω 5 (m).toNat)), (3, .ref (ω 5 (l).toNat)), (0, .ref o), (1, .int (iI l)), (2, .int (iI m))] [.int (iI zt)]
  refine z_if_ne C 32 dX6_cross_19 (by decide) (by omega) (fun h19 => ?_) (fun h19 => ?_)
  · have hx9 : l ≠ m ∧ spX μ l m := by
      rcases hzt with ⟨q1, q2⟩ | ⟨q1, q2⟩
      · clear q2; omega
      · exact ⟨fun z => q2.1 (by rw [z]), q2⟩
    refine z_aload_n C 1 dX6_cross_32 rfl ?_
    refine z_aload C 0 dX6_cross_33 rfl ?_
    refine z_cV (As := [.ref (ω 5 (m).toNat)]) C zc_X3_misfitTo (c_misfitTo hX (hR.ln ((l).toNat) (by omega)) (hR.ln ((m).toNat) (by omega)) (hBl ((l).toNat) (by omega)) (hBl ((m).toNat) (by omega)) (zrl_cr hI ⟨by omega, by omega⟩) (zrl_cr hI ⟨by omega, by omega⟩)) zl_4_209 (Nat.le_of_ble_eq_true rfl) (Nat.le_of_ble_eq_true rfl) (Nat.le_of_ble_eq_true rfl) ((hR.ln ((l).toNat) (by omega)).1.1) ((hR.ln ((l).toNat) (by omega)).1.2) rfl rfl rfl rfl (Nat.le_of_ble_eq_true rfl) dX6_cross_35 (fun zt2 L13 f14 hzm => ?_)
    obtain ⟨hzm, rfl, rfl⟩ := hzm
    rw [hkl, hkm, zls_own hI ⟨by omega, by omega⟩, zls_own hI ⟨by omega, by omega⟩] at hzm
    have hro1 : spOwn μ l m = zNO ∨ (-108 ≤ spOwn μ l m ∧ spOwn μ l m ≤ 208) := spRed_rng hI _ ⟨by omega, by omega⟩ ⟨by decide, by decide⟩
    have hro2 : spOwn μ m l = zNO ∨ (-108 ≤ spOwn μ m l ∧ spOwn μ m l ≤ 208) := spRed_rng hI _ ⟨by omega, by omega⟩ ⟨by decide, by decide⟩
    have hzm2 : (zt2 = -1000000 ∧ ¬ (spOwn μ l m ≠ zNO ∧ spOwn μ m l ≠ zNO)) ∨ ((spOwn μ l m ≠ zNO ∧ spOwn μ m l ≠ zNO) ∧ zt2 = spOwn μ l m - spOwn μ m l) := by
      by_cases q : spOwn μ l m ≠ zNO ∧ spOwn μ m l ≠ zNO
      · rw [if_pos q] at hzm; exact Or.inr ⟨q, hzm⟩
      · rw [if_neg q] at hzm; exact Or.inl ⟨hzm, q⟩
    change ZW G pZ la eZ (zRm 8 8 48) sZ mZ aZ bZ hZ cZ AZ 6 2 12 _ L f 38 [(4, .ref (ω 5 (m).toNat)), (3, .ref (ω 5 (l).toNat)), (0, .ref o), (1, .int (iI l)), (2, .int (iI m))] [.int (iI zt2)]
    refine z_istore (ls' := [(5, .int (iI zt2)), (4, .ref (ω 5 (m).toNat)), (3, .ref (ω 5 (l).toNat)), (0, .ref o), (1, .int (iI l)), (2, .int (iI m))]) C dX6_cross_38 (Nat.le_of_ble_eq_true rfl) rfl ?_
    refine z_iload C 0 dX6_cross_40 rfl ?_
    refine z_ldc (n := (-1000000)) C zl_2_90 rfl dX6_cross_42 ?_
    refine z_icmp_ne C 57 dX6_cross_44 (by decide) (by omega) (by omega) (fun h44 => ?_) (fun h44 => ?_)
    · refine z_iload C 0 dX6_cross_57 rfl ?_
      refine z_xr ?_
      exact z_ireturn C dX6_cross_59 (Nat.le_of_ble_eq_true rfl) (Nat.le_of_ble_eq_true rfl) (CR_mk (v := spOwn μ l m - spOwn μ m l) (μ' := μ) (by unfold o_cross; rw [if_pos (show spLine μ l ∧ spLine μ m from ⟨by omega, by omega⟩)]; rw [if_pos hx9, if_pos (by omega)]) (by omega) hC0)
    · exact z_throwS C h4 hfl hnt (by decide +kernel) zl_3_97 zl_1_20 (List.mem_of_getElem? (i := 24) rfl) zthwUOE zthgUOE dX6_cross_47 dX6_cross_50 dX6_cross_51 dX6_cross_53 dX6_cross_56 (Nat.le_of_ble_eq_true rfl) (Nat.le_of_ble_eq_true rfl) (Nat.le_of_ble_eq_true rfl) (Nat.le_of_ble_eq_true rfl) (CX_mk (j := 3) (v := 0) (μ' := μ) (by unfold o_cross; rw [if_pos (show spLine μ l ∧ spLine μ m from ⟨by omega, by omega⟩)]; rw [if_pos hx9, if_neg (by omega)]) (by decide) rfl hC0)
  · have hnx9 : ¬ spX μ l m := by
      rcases hzt with ⟨q1, q2⟩ | ⟨q1, q2⟩
      · exact q2
      · clear q2; omega
    exact z_throwS C h4 hfl hnt (by decide +kernel) zl_2_220 zl_1_17 (List.mem_of_getElem? (i := 23) rfl) zthwIAE zthgIAE dX6_cross_22 dX6_cross_25 dX6_cross_26 dX6_cross_28 dX6_cross_31 (Nat.le_of_ble_eq_true rfl) (Nat.le_of_ble_eq_true rfl) (Nat.le_of_ble_eq_true rfl) (Nat.le_of_ble_eq_true rfl) (CX_mk (j := 2) (v := 0) (μ' := μ) (by unfold o_cross; rw [if_pos (show spLine μ l ∧ spLine μ m from ⟨by omega, by omega⟩)]; rw [if_neg (fun z => hnx9 z.2)]) (by decide) rfl hC0)

set_option maxRecDepth 100000 in
set_option maxHeartbeats 1000000 in
theorem c_worstCross {la : Launch} {G : zG} {X : (Nat → Prop) → State → Prop} (hX : zX X) (h4 : zT4 X) (hfl : la.stackTraces = false) {L : List Nat} {f : Nat → va_E} {o : Nat} {ω : Nat → Nat → Nat} {μ : zMu} (hR : SRC G L f o ω μ)  (hI : MI μ) (hK : MK μ) : zMX la G X yX6_worstCross (.code yX6_worstCross cX6_worstCross 4 (some .int) :: zT) 8 8 48 [.ref o] L f zeI (CR G o (o_worst μ)) (CX G o ["java/lang/UnsupportedOperationException"] (o_worst μ)) := by
  refine zMX_intro hX (by decide) (Nat.le_of_ble_eq_true rfl) (fun pZ eZ sZ mZ aZ bZ hZ cZ AZ C hnt => ?_)
  change ZW G pZ la eZ (zRm 8 8 48) sZ mZ aZ bZ hZ cZ AZ 4 0 0 _ L f 0 [(0, .ref o)] []
  have hNO : zNO = -2147483648 := rfl
  have hn := hI.n
  have hSK : zSK (zK μ) := MJ_SK hI.J
  have hBl : ∀ j : Nat, (j : Int) < μ 2 0 → zLB μ j := fun j hj => hI.J.b12 j (by omega) (by omega)
  have hC0 : CSx G L f o μ := ⟨ω, hR, hI, hK⟩
  have hu := spChart_r hI
  refine z_ldc (n := (-1000000)) C zl_2_90 rfl dX6_worstCross_0 ?_
  refine z_istore_n (ls' := [(1, .int (iI (-1000000))), (0, .ref o)]) C dX6_worstCross_2 (Nat.le_of_ble_eq_true rfl) rfl ?_
  refine z_iconst C dX6_worstCross_3 ?_
  refine z_istore_n (ls' := [(2, .int (iI 0)), (1, .int (iI (-1000000))), (0, .ref o)]) C dX6_worstCross_4 (Nat.le_of_ble_eq_true rfl) rfl ?_
  have key5 : ∀ (n5 : Nat) (m : Int) (k : Int) , (0 ≤ k ∧ k ≤ μ 2 0 ∧ zWst μ k (k + 1) m ∧ m ≤ 1000 ∧ -1000000 ≤ m) → μ 2 0 - k < (n5 : Int) → ZW G pZ la eZ (zRm 8 8 48) sZ mZ aZ bZ hZ cZ AZ 4 0 0 (vx_MQ bZ (zQ G zeI (CR G o (o_worst μ)) AZ) (zXC G (CX G o ["java/lang/UnsupportedOperationException"] (o_worst μ)) AZ) aZ sZ 8 48 AZ) L f 5 [(0, .ref o), (1, .int (iI m)), (2, .int (iI k))] [] := by
    intro n5
    induction n5 with
    | zero => intro m k  hi5 hn5; exfalso; omega
    | succ n5 ih5 =>
      intro m k  hi5 hn5
      obtain ⟨hk0, hk1, hW, hm9, hm8⟩ := hi5
      refine z_iload_n C 2 dX6_worstCross_5 rfl ?_
      refine z_aload_n C 0 dX6_worstCross_6 rfl ?_
      refine z_getf C 3 zin_X6 (hR.ob.1) (hR.ob.2) rfl (Nat.le_of_ble_eq_true rfl) zl_1_142 rfl rfl dX6_worstCross_7 ?_
      refine z_icmp_ge C 55 dX6_worstCross_10 (by decide) (by omega) (by omega) (fun h10 => ?_) (fun h10 => ?_)
      · have hend := zWst_end (μ := μ) (by omega) (by rw [show k = μ 2 0 by omega] at hW; exact hW)
        refine z_iload_n C 1 dX6_worstCross_55 rfl ?_
        refine z_ldc (n := (-1000000)) C zl_2_90 rfl dX6_worstCross_56 ?_
        refine z_icmp_ne C 72 dX6_worstCross_58 (by decide) (by omega) (by omega) (fun h58 => ?_) (fun h58 => ?_)
        · refine z_iload_n C 1 dX6_worstCross_72 rfl ?_
          refine z_xr ?_
          exact z_ireturn C dX6_worstCross_73 (Nat.le_of_ble_eq_true rfl) (Nat.le_of_ble_eq_true rfl) (CR_mk (v := spWorst μ) (μ' := μ) (by unfold o_worst; rw [if_neg (by omega)]) (by omega) hC0)
        · exact z_throwSW C h4 hfl hnt (by decide +kernel) zl_3_97 zl_1_20 (List.mem_of_getElem? (i := 25) rfl) zthwUOE zthgUOE dX6_worstCross_61 dX6_worstCross_64 dX6_worstCross_65 dX6_worstCross_68 dX6_worstCross_71 (Nat.le_of_ble_eq_true rfl) (Nat.le_of_ble_eq_true rfl) (Nat.le_of_ble_eq_true rfl) (Nat.le_of_ble_eq_true rfl) (CX_mk (j := 1) (v := 0) (μ' := μ) (by unfold o_worst; rw [if_pos (by omega)]) (by decide) rfl hC0)
      · refine z_iload_n C 2 dX6_worstCross_13 rfl ?_
        refine z_iconst C dX6_worstCross_14 ?_
        refine z_iadd C dX6_worstCross_15 ?_
        refine z_nm (fun x1 hx1 => ?_)
        refine z_istore_n (ls' := [(3, .int (iI x1)), (0, .ref o), (1, .int (iI m)), (2, .int (iI k))]) C dX6_worstCross_16 (Nat.le_of_ble_eq_true rfl) rfl ?_
        have key17 : ∀ (n17 : Nat) (m2 : Int) (j : Int) , (k + 1 ≤ j ∧ (j ≤ μ 2 0 ∨ j = k + 1) ∧ zWst μ k j m2 ∧ m2 ≤ 1000 ∧ -1000000 ≤ m2) → μ 2 0 - j < (n17 : Int) → ZW G pZ la eZ (zRm 8 8 48) sZ mZ aZ bZ hZ cZ AZ 4 0 0 (vx_MQ bZ (zQ G zeI (CR G o (o_worst μ)) AZ) (zXC G (CX G o ["java/lang/UnsupportedOperationException"] (o_worst μ)) AZ) aZ sZ 8 48 AZ) L f 17 [(0, .ref o), (1, .int (iI m2)), (2, .int (iI k)), (3, .int (iI j))] [] := by
          intro n17
          induction n17 with
          | zero => intro m2 j  hi17 hn17; exfalso; omega
          | succ n17 ih17 =>
            intro m2 j  hi17 hn17
            obtain ⟨hj0, hj1, hW2, hm92, hm82⟩ := hi17
            refine z_iload_n C 3 dX6_worstCross_17 rfl ?_
            refine z_aload_n C 0 dX6_worstCross_18 rfl ?_
            refine z_getf C 3 zin_X6 (hR.ob.1) (hR.ob.2) rfl (Nat.le_of_ble_eq_true rfl) zl_1_142 rfl rfl dX6_worstCross_19 ?_
            refine z_icmp_ge C 49 dX6_worstCross_22 (by decide) (by omega) (by omega) (fun h22 => ?_) (fun h22 => ?_)
            · refine z_iinc (ls' := [(2, .int (iI (k + 1))), (0, .ref o), (1, .int (iI m2)), (3, .int (iI j))]) C 2 dX6_worstCross_49 rfl (Nat.le_of_ble_eq_true rfl) rfl ?_
              refine z_goto C 5 dX6_worstCross_52 (by decide) ?_
              refine z_perm [1, 2, 0] rfl ?_
              exact ih5 _ _  ⟨by omega, by omega, by have q := zWst_k hW2 (by omega); rw [show k + 2 = k + 1 + 1 by omega] at q; exact q, by omega, by omega⟩ (by omega)
            · refine z_iload_n C 1 dX6_worstCross_25 rfl ?_
              refine z_aload_n C 0 dX6_worstCross_26 rfl ?_
              refine z_iload_n C 2 dX6_worstCross_27 rfl ?_
              refine z_cV (As := [.int (iI k)]) C zc_X6_lineOrNull (c_lineAt hX hR k hI (by omega)) zl_1_178 (Nat.le_of_ble_eq_true rfl) (Nat.le_of_ble_eq_true rfl) (Nat.le_of_ble_eq_true rfl) (hR.ob.1) (hR.ob.2) rfl rfl rfl rfl (Nat.le_of_ble_eq_true rfl) dX6_worstCross_28 (fun z2 L3 f4 hz5 => ?_)
              obtain ⟨hz5, rfl, rfl⟩ := hz5
              subst hz5
              have hknk : (((k).toNat : Nat) : Int) = k := Int.toNat_of_nonneg (by omega)
              change ZW G pZ la eZ (zRm 8 8 48) sZ mZ aZ bZ hZ cZ AZ 4 0 0 _ L f 31 [(0, .ref o), (1, .int (iI m2)), (2, .int (iI k)), (3, .int (iI j))] [.ref (ω 5 (k).toNat), .int (iI m2)]
              refine z_aload_n C 0 dX6_worstCross_31 rfl ?_
              refine z_iload_n C 3 dX6_worstCross_32 rfl ?_
              refine z_cV (As := [.int (iI j)]) C zc_X6_lineOrNull (c_lineAt hX hR j hI (by omega)) zl_1_178 (Nat.le_of_ble_eq_true rfl) (Nat.le_of_ble_eq_true rfl) (Nat.le_of_ble_eq_true rfl) (hR.ob.1) (hR.ob.2) rfl rfl rfl rfl (Nat.le_of_ble_eq_true rfl) dX6_worstCross_33 (fun z6 L7 f8 hz9 => ?_)
              obtain ⟨hz9, rfl, rfl⟩ := hz9
              subst hz9
              have hknj : (((j).toNat : Nat) : Int) = j := Int.toNat_of_nonneg (by omega)
              change ZW G pZ la eZ (zRm 8 8 48) sZ mZ aZ bZ hZ cZ AZ 4 0 0 _ L f 36 [(0, .ref o), (1, .int (iI m2)), (2, .int (iI k)), (3, .int (iI j))] [.ref (ω 5 (j).toNat), .ref (ω 5 (k).toNat), .int (iI m2)]
              refine z_cS (As := [.ref (ω 5 (k).toNat), .ref (ω 5 (j).toNat)]) C zc_X6_misfit (c_misfit hX (hR.ln ((k).toNat) (by omega)) (hR.ln ((j).toNat) (by omega)) (hBl ((k).toNat) (by omega)) (hBl ((j).toNat) (by omega)) (zrl_cr hI ⟨by omega, by omega⟩) (zrl_cr hI ⟨by omega, by omega⟩)) zl_4_221 (Nat.le_of_ble_eq_true rfl) (Nat.le_of_ble_eq_true rfl) (Nat.le_of_ble_eq_true rfl) rfl rfl (Nat.le_of_ble_eq_true rfl) dX6_worstCross_36 (fun zt L10 f11 hzt => ?_)
              obtain ⟨hzt, rfl, rfl⟩ := hzt
              rw [hknk, hknj] at hzt
              have hzq := zMis_q hI ⟨by omega, by omega⟩ ⟨by omega, by omega⟩ hzt
              clear hzt
              have hzr : zt = -1000000 ∨ (0 ≤ zt ∧ zt ≤ 1000) := by
                have r1 : spOwn μ k j = zNO ∨ (-108 ≤ spOwn μ k j ∧ spOwn μ k j ≤ 208) := spRed_rng hI _ ⟨by omega, by omega⟩ ⟨by decide, by decide⟩
                have r2 : spOwn μ j k = zNO ∨ (-108 ≤ spOwn μ j k ∧ spOwn μ j k ≤ 208) := spRed_rng hI _ ⟨by omega, by omega⟩ ⟨by decide, by decide⟩
                rcases hzq with q | ⟨q1, q2, q3⟩
                · exact Or.inl q.1
                · right
                  have q4 := q1.2
                  clear q1
                  unfold zDf at q3
                  omega
              change ZW G pZ la eZ (zRm 8 8 48) sZ mZ aZ bZ hZ cZ AZ 4 0 0 _ L f 39 [(0, .ref o), (1, .int (iI m2)), (2, .int (iI k)), (3, .int (iI j))] [.int (iI zt), .int (iI m2)]
              refine z_mmax C zl_1_211 (Nat.le_of_ble_eq_true rfl) (Nat.le_of_ble_eq_true rfl) (Nat.le_of_ble_eq_true rfl) (by omega) (by omega) (Nat.le_of_ble_eq_true rfl) dX6_worstCross_39 (fun w12 hw13 => ?_)
              refine z_istore_n (ls' := [(1, .int (iI w12)), (0, .ref o), (2, .int (iI k)), (3, .int (iI j))]) C dX6_worstCross_42 (Nat.le_of_ble_eq_true rfl) rfl ?_
              refine z_iinc (ls' := [(3, .int (iI (j + 1))), (1, .int (iI w12)), (0, .ref o), (2, .int (iI k))]) C 3 dX6_worstCross_43 rfl (Nat.le_of_ble_eq_true rfl) rfl ?_
              refine z_goto C 17 dX6_worstCross_46 (by decide) ?_
              refine z_perm [2, 1, 3, 0] rfl ?_
              exact ih17 _ _  ⟨by omega, by omega, zWst_s hW2 hk0 (by omega) (by omega) hzq (by clear hzq; omega), by clear hzq; omega, by clear hzq; omega⟩ (by omega)
        refine z_perm [1, 2, 3, 0] rfl ?_
        exact key17 2000 _ _  ⟨by omega, by omega, by rw [show x1 = k + 1 by omega]; exact hW, by omega, by omega⟩ (by omega)
  refine z_perm [2, 1, 0] rfl ?_
  exact key5 2000 _ _  ⟨by omega, by omega, zWst_0 μ, by decide, by decide⟩ (by omega)

set_option maxRecDepth 100000 in
set_option maxHeartbeats 200000 in
theorem c_meanDepth {la : Launch} {G : zG} {X : (Nat → Prop) → State → Prop} (hX : zX X) (h4 : zT4 X) (hfl : la.stackTraces = false) {L : List Nat} {f : Nat → va_E} {o : Nat} {ω : Nat → Nat → Nat} {μ : zMu} (hR : SRC G L f o ω μ)  (hI : MI μ) (hK : MK μ) : zMX la G X yX6_meanDepth (.code yX6_meanDepth cX6_meanDepth 2 (some .double) :: zT) 8 8 48 [.ref o] L f zeD (fun z L' f' => (spCharted μ ≠ 0 ∧ z = FP.ddiv (FP.i2d (iI (spSum μ))) (FP.i2d (iI (spCharted μ)))) ∧ CSx G L' f' o μ) (fun E L' f' => (E = "java/lang/ArithmeticException" ∧ spCharted μ = 0) ∧ CSx G L' f' o μ) := by
  refine zMX_intro hX (by decide) (Nat.le_of_ble_eq_true rfl) (fun pZ eZ sZ mZ aZ bZ hZ cZ AZ C hnt => ?_)
  change ZW G pZ la eZ (zRm 8 8 48) sZ mZ aZ bZ hZ cZ AZ 2 0 0 _ L f 0 [(0, .ref o)] []
  have hNO : zNO = -2147483648 := rfl
  have hn := hI.n
  have hSK : zSK (zK μ) := MJ_SK hI.J
  have hBl : ∀ j : Nat, (j : Int) < μ 2 0 → zLB μ j := fun j hj => hI.J.b12 j (by omega) (by omega)
  have hC0 : CSx G L f o μ := ⟨ω, hR, hI, hK⟩
  have hu := spChart_r hI
  refine z_aload_n C 0 dX6_meanDepth_0 rfl ?_
  refine z_getf C 4 zin_X6 (hR.ob.1) (hR.ob.2) rfl (Nat.le_of_ble_eq_true rfl) zl_1_143 rfl rfl dX6_meanDepth_1 ?_
  refine z_cV (As := []) C zc_X0_countDepths (c_countDepths hX hR.ct (spChart_r hI)) zl_1_162 (Nat.le_of_ble_eq_true rfl) (Nat.le_of_ble_eq_true rfl) (Nat.le_of_ble_eq_true rfl) (hR.ct.1.1) (hR.ct.1.2) rfl rfl rfl rfl (Nat.le_of_ble_eq_true rfl) dX6_meanDepth_4 (fun zc L1 f2 hzc => ?_)
  obtain ⟨hzc, rfl, rfl⟩ := hzc
  have hcr := zsum_rng (c := 1) (by decide) (fun i => bI_rng (spChart μ i ≠ zNO)) 240
  have hzc2 : zc = spCharted μ := hzc
  have hcr2 : 0 ≤ spCharted μ ∧ spCharted μ ≤ 1 * ((240 : Nat) : Int) := hcr
  change ZW G pZ la eZ (zRm 8 8 48) sZ mZ aZ bZ hZ cZ AZ 2 0 0 _ L f 7 [(0, .ref o)] [.int (iI zc)]
  refine z_istore_n (ls' := [(1, .int (iI zc)), (0, .ref o)]) C dX6_meanDepth_7 (Nat.le_of_ble_eq_true rfl) rfl ?_
  refine z_iload_n C 0 dX6_meanDepth_8 rfl ?_
  refine z_if_ne C 23 dX6_meanDepth_9 (by decide) (by omega) (fun h9 => ?_) (fun h9 => ?_)
  · refine z_aload_n C 1 dX6_meanDepth_23 rfl ?_
    refine z_getf C 4 zin_X6 (hR.ob.1) (hR.ob.2) rfl (Nat.le_of_ble_eq_true rfl) zl_1_143 rfl rfl dX6_meanDepth_24 ?_
    refine z_cV (As := []) C zc_X0_sumOfDepths (c_sumOfDepths hX hR.ct hu) zl_5_16 (Nat.le_of_ble_eq_true rfl) (Nat.le_of_ble_eq_true rfl) (Nat.le_of_ble_eq_true rfl) (hR.ct.1.1) (hR.ct.1.2) rfl rfl rfl rfl (Nat.le_of_ble_eq_true rfl) dX6_meanDepth_27 (fun zs L3 f4 hzs => ?_)
    obtain ⟨hzs, rfl, rfl⟩ := hzs
    have hzs2 : zs = spSum μ := hzs
    change ZW G pZ la eZ (zRm 8 8 48) sZ mZ aZ bZ hZ cZ AZ 2 0 0 _ L f 30 [(1, .int (iI zc)), (0, .ref o)] [.int (iI zs)]
    refine z_i2d C dX6_meanDepth_30 ?_
    refine z_iload_n C 0 dX6_meanDepth_31 rfl ?_
    refine z_i2d C dX6_meanDepth_32 ?_
    refine z_ddiv C dX6_meanDepth_33 (fp_mean _ (by omega)) ?_
    refine z_xr ?_
    exact z_dreturn C dX6_meanDepth_34 (Nat.le_of_ble_eq_true rfl) (Nat.le_of_ble_eq_true rfl) ⟨⟨by omega, by rw [← hzs2, ← hzc2]⟩, hC0⟩
  · exact z_throwSW C h4 hfl hnt (by decide +kernel) zl_5_13 zl_1_24 (List.mem_of_getElem? (i := 26) rfl) zthwARE zthgARE dX6_meanDepth_12 dX6_meanDepth_15 dX6_meanDepth_16 dX6_meanDepth_19 dX6_meanDepth_22 (Nat.le_of_ble_eq_true rfl) (Nat.le_of_ble_eq_true rfl) (Nat.le_of_ble_eq_true rfl) (Nat.le_of_ble_eq_true rfl) (⟨⟨rfl, by omega⟩, hC0⟩)
