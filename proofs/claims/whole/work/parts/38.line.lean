set_option maxRecDepth 100000 in
set_option maxHeartbeats 200000 in
theorem c_slotOf {la : Launch} {G : zG} {X : (Nat → Prop) → State → Prop} (hX : zX X) {L : List Nat} {f : Nat → va_E} (k t : Int) (hk : zR k) (ht : zR t) : zM la G X yX3_slotOf (.code yX3_slotOf cX3_slotOf 3 (some .int) :: zT) 0 0 0 [.int (iI k), .int (iI t)] L f zeI (zRd L f (fun z => z = zslot k t)) := by
  refine zM_intro hX (by decide) (Nat.le_of_ble_eq_true rfl) (fun pZ eZ sZ mZ aZ bZ hZ cZ AZ C hini => ?_)
  change ZW G pZ la eZ (zRm 0 0 0) sZ mZ aZ bZ hZ cZ AZ 3 0 0 _ L f 0 [(0, .int (iI k)), (1, .int (iI t))] []
  have J26 : ∀ (w : Int)   (hj26 : w = 0 ∧ ¬ (0 ≤ k ∧ k ≤ 19 ∧ -3 ≤ t ∧ t ≤ 3) ∨ w = 1 ∧ (0 ≤ k ∧ k ≤ 19 ∧ -3 ≤ t ∧ t ≤ 3)), ZW G pZ la eZ (zRm 0 0 0) sZ mZ aZ bZ hZ cZ AZ 3 0 0 (MQ bZ (zQ G zeI (zRd L f (fun z => z = zslot k t)) AZ) aZ sZ 0 0 AZ) L f 26 [(0, .int (iI k)), (1, .int (iI t))] [.int (iI w)] := by
    intro w   hj26
    have hw := hj26
    refine z_istore_n (ls' := [(2, .int (iI w)), (0, .int (iI k)), (1, .int (iI t))]) C dX3_slotOf_26 (Nat.le_of_ble_eq_true rfl) rfl ?_
    refine z_iload_n C 0 dX3_slotOf_27 rfl ?_
    refine z_if_eq C 42 dX3_slotOf_28 (by decide) (by omega) (fun h28 => ?_) (fun h28 => ?_)
    · refine z_iconst C dX3_slotOf_42 ?_
      exact z_ireturn C dX3_slotOf_43 (Nat.le_of_ble_eq_true rfl) (Nat.le_of_ble_eq_true rfl) ⟨by unfold zslot; first | (rw [if_pos (by omega)]; omega) | rw [if_neg (by omega)], rfl, rfl⟩
    · refine z_iload_n C 1 dX3_slotOf_31 rfl ?_
      refine z_bipush C dX3_slotOf_32 (by decide) ?_
      refine z_imul C dX3_slotOf_34 ?_
      refine z_iload_n C 2 dX3_slotOf_35 rfl ?_
      refine z_iadd C dX3_slotOf_36 ?_
      refine z_iconst C dX3_slotOf_37 ?_
      refine z_iadd C dX3_slotOf_38 ?_
      refine z_goto C 43 dX3_slotOf_39 (by decide) ?_
      exact z_ireturn C dX3_slotOf_43 (Nat.le_of_ble_eq_true rfl) (Nat.le_of_ble_eq_true rfl) ⟨by unfold zslot; first | (rw [if_pos (by omega)]; omega) | rw [if_neg (by omega)], rfl, rfl⟩
  refine z_iload_n C 0 dX3_slotOf_0 rfl ?_
  refine z_if_lt C 25 dX3_slotOf_1 (by decide) (by omega) (fun h1 => ?_) (fun h1 => ?_)
  · refine z_iconst C dX3_slotOf_25 ?_
    refine z_perm [0, 1] rfl ?_
    exact J26 _  (by omega)
  · refine z_iload_n C 0 dX3_slotOf_4 rfl ?_
    refine z_bipush C dX3_slotOf_5 (by decide) ?_
    refine z_icmp_ge C 25 dX3_slotOf_7 (by decide) (by omega) (by omega) (fun h7 => ?_) (fun h7 => ?_)
    · refine z_iconst C dX3_slotOf_25 ?_
      refine z_perm [0, 1] rfl ?_
      exact J26 _  (by omega)
    · refine z_iload_n C 1 dX3_slotOf_10 rfl ?_
      refine z_bipush C dX3_slotOf_11 (by decide) ?_
      refine z_icmp_lt C 25 dX3_slotOf_13 (by decide) (by omega) (by omega) (fun h13 => ?_) (fun h13 => ?_)
      · refine z_iconst C dX3_slotOf_25 ?_
        refine z_perm [0, 1] rfl ?_
        exact J26 _  (by omega)
      · refine z_iload_n C 1 dX3_slotOf_16 rfl ?_
        refine z_iconst C dX3_slotOf_17 ?_
        refine z_icmp_gt C 25 dX3_slotOf_18 (by decide) (by omega) (by omega) (fun h18 => ?_) (fun h18 => ?_)
        · refine z_iconst C dX3_slotOf_25 ?_
          refine z_perm [0, 1] rfl ?_
          exact J26 _  (by omega)
        · refine z_iconst C dX3_slotOf_21 ?_
          refine z_goto C 26 dX3_slotOf_22 (by decide) ?_
          refine z_perm [0, 1] rfl ?_
          exact J26 _  (by omega)

set_option maxRecDepth 100000 in
set_option maxHeartbeats 200000 in
theorem c_isFar {la : Launch} {G : zG} {X : (Nat → Prop) → State → Prop} (hX : zX X) {L : List Nat} {f : Nat → va_E} (a b : Int) (ha : -1000000 ≤ a ∧ a ≤ 1000) (hb : -1000000 ≤ b ∧ b ≤ 1000) : zM la G X yX3_isFar (.code yX3_isFar cX3_isFar 2 (some .boolean) :: zT) 1 0 0 [.int (iI a), .int (iI b)] L f zeI (zRd L f (fun z => z = bI (b = -1000000 ∨ spFar a b))) := by
  refine zM_intro hX (by decide) (Nat.le_of_ble_eq_true rfl) (fun pZ eZ sZ mZ aZ bZ hZ cZ AZ C hini => ?_)
  change ZW G pZ la eZ (zRm 1 0 0) sZ mZ aZ bZ hZ cZ AZ 2 0 0 _ L f 0 [(0, .int (iI a)), (1, .int (iI b))] []
  refine z_iload_n C 1 dX3_isFar_0 rfl ?_
  refine z_ldc (n := (-1000000)) C zl_1_194 rfl dX3_isFar_1 ?_
  refine z_icmp_eq C 16 dX3_isFar_3 (by decide) (by omega) (by omega) (fun h3 => ?_) (fun h3 => ?_)
  · refine z_iconst C dX3_isFar_16 ?_
    refine z_goto C 21 dX3_isFar_17 (by decide) ?_
    exact z_zreturn C (by first | omega | (unfold bI; split <;> omega)) dX3_isFar_21 (Nat.le_of_ble_eq_true rfl) (Nat.le_of_ble_eq_true rfl) ⟨by unfold bI; first | (rw [if_pos (by omega)]; done) | (rw [if_neg (by omega)]; done), rfl, rfl⟩
  · refine z_iload_n C 0 dX3_isFar_6 rfl ?_
    refine z_iload_n C 1 dX3_isFar_7 rfl ?_
    refine z_isub C dX3_isFar_8 ?_
    refine z_mabs C zl_2_103 (Nat.le_of_ble_eq_true rfl) (Nat.le_of_ble_eq_true rfl) (Nat.le_of_ble_eq_true rfl) (by omega) (Nat.le_of_ble_eq_true rfl) dX3_isFar_9 (fun w1 hw2 => ?_)
    refine z_iconst C dX3_isFar_12 ?_
    refine z_icmp_le C 20 dX3_isFar_13 (by decide) (by omega) (by omega) (fun h13 => ?_) (fun h13 => ?_)
    · refine z_iconst C dX3_isFar_20 ?_
      exact z_zreturn C (by first | omega | (unfold bI; split <;> omega)) dX3_isFar_21 (Nat.le_of_ble_eq_true rfl) (Nat.le_of_ble_eq_true rfl) ⟨by unfold bI; first | (rw [if_pos (by omega)]; done) | (rw [if_neg (by omega)]; done), rfl, rfl⟩
    · refine z_iconst C dX3_isFar_16 ?_
      refine z_goto C 21 dX3_isFar_17 (by decide) ?_
      exact z_zreturn C (by first | omega | (unfold bI; split <;> omega)) dX3_isFar_21 (Nat.le_of_ble_eq_true rfl) (Nat.le_of_ble_eq_true rfl) ⟨by unfold bI; first | (rw [if_pos (by omega)]; done) | (rw [if_neg (by omega)]; done), rfl, rfl⟩

set_option maxRecDepth 100000 in
set_option maxHeartbeats 200000 in
theorem c_ranOn {la : Launch} {G : zG} {X : (Nat → Prop) → State → Prop} (hX : zX X) {L : List Nat} {f : Nat → va_E} {w : Nat} {μ : zMu} {l : Int} {r0 r1 r2 a0 a1 a2 : Nat} {s e rd : Int → Int} (hLn : zLn G L f w μ l r0 r1 r2 a0 a1 a2 s e rd)  (hB : zLB μ l) : zM la G X yX3_ranOn (.code yX3_ranOn cX3_ranOn 1 (some .int) :: zT) 0 0 0 [.ref w] L f zeI (zRd L f (fun z => z = μ 16 l)) := by
  refine zM_intro hX (by decide) (Nat.le_of_ble_eq_true rfl) (fun pZ eZ sZ mZ aZ bZ hZ cZ AZ C hini => ?_)
  change ZW G pZ la eZ (zRm 0 0 0) sZ mZ aZ bZ hZ cZ AZ 1 0 0 _ L f 0 [(0, .ref w)] []
  have hNO : zNO = -2147483648 := rfl
  have hsz := zLB_sz hB
  
  refine z_aload_n C 0 dX3_ranOn_0 rfl ?_
  refine z_getf C 5 zin_X3 (hLn.1.1) (hLn.1.2) rfl (Nat.le_of_ble_eq_true rfl) zl_4_17 rfl rfl dX3_ranOn_1 ?_
  exact z_ireturn C dX3_ranOn_4 (Nat.le_of_ble_eq_true rfl) (Nat.le_of_ble_eq_true rfl) ⟨rfl, rfl, rfl⟩

set_option maxRecDepth 100000 in
set_option maxHeartbeats 200000 in
theorem c_hoursBehind {la : Launch} {G : zG} {X : (Nat → Prop) → State → Prop} (hX : zX X) {L : List Nat} {f : Nat → va_E} (x y : Int) (hx : -1000 ≤ x ∧ x ≤ 1000) (hy : -1000 ≤ y ∧ y ≤ 1000) : zM la G X yX6_hoursBehind (.code yX6_hoursBehind cX6_hoursBehind 2 (some .int) :: zT) 1 0 0 [.int (iI x), .int (iI y)] L f zeI (zRd L f (fun z => z = (spSz x y - 1) / 5)) := by
  refine zM_intro hX (by decide) (Nat.le_of_ble_eq_true rfl) (fun pZ eZ sZ mZ aZ bZ hZ cZ AZ C hini => ?_)
  change ZW G pZ la eZ (zRm 1 0 0) sZ mZ aZ bZ hZ cZ AZ 2 0 0 _ L f 0 [(0, .int (iI x)), (1, .int (iI y))] []
  refine z_iload_n C 1 dX6_hoursBehind_0 rfl ?_
  refine z_iload_n C 0 dX6_hoursBehind_1 rfl ?_
  refine z_isub C dX6_hoursBehind_2 ?_
  refine z_mabs C zl_1_229 (Nat.le_of_ble_eq_true rfl) (Nat.le_of_ble_eq_true rfl) (Nat.le_of_ble_eq_true rfl) (by omega) (Nat.le_of_ble_eq_true rfl) dX6_hoursBehind_3 (fun w1 hw2 => ?_)
  refine z_iconst C dX6_hoursBehind_6 ?_
  refine z_idivP C dX6_hoursBehind_7 (by omega) (by omega) ?_
  exact z_ireturn C dX6_hoursBehind_8 (Nat.le_of_ble_eq_true rfl) (Nat.le_of_ble_eq_true rfl) ⟨by unfold spSz; split <;> omega, rfl, rfl⟩

set_option maxRecDepth 100000 in
set_option maxHeartbeats 200000 in
theorem c_lastBehind {la : Launch} {G : zG} {X : (Nat → Prop) → State → Prop} (hX : zX X) {L : List Nat} {f : Nat → va_E} {w : Nat} {μ : zMu} {l : Int} {r0 r1 r2 a0 a1 a2 : Nat} {s e rd : Int → Int} (hLn : zLn G L f w μ l r0 r1 r2 a0 a1 a2 s e rd)  (hB : zLB μ l) : zM la G X yX3_lastBehind (.code yX3_lastBehind cX3_lastBehind 1 (some .int) :: zT) 2 0 0 [.ref w] L f zeI (zRd L f (fun z => z = (spSize μ l - 1) / 5)) := by
  refine zM_intro hX (by decide) (Nat.le_of_ble_eq_true rfl) (fun pZ eZ sZ mZ aZ bZ hZ cZ AZ C hini => ?_)
  change ZW G pZ la eZ (zRm 2 0 0) sZ mZ aZ bZ hZ cZ AZ 1 0 0 _ L f 0 [(0, .ref w)] []
  have hNO : zNO = -2147483648 := rfl
  have hsz := zLB_sz hB
  
  refine z_aload_n C 0 dX3_lastBehind_0 rfl ?_
  refine z_getf C 2 zin_X3 (hLn.1.1) (hLn.1.2) rfl (Nat.le_of_ble_eq_true rfl) zl_4_14 rfl rfl dX3_lastBehind_1 ?_
  refine z_aload_n C 0 dX3_lastBehind_4 rfl ?_
  refine z_getf C 3 zin_X3 (hLn.1.1) (hLn.1.2) rfl (Nat.le_of_ble_eq_true rfl) zl_4_15 rfl rfl dX3_lastBehind_5 ?_
  refine z_cSN (As := [.int (iI (μ 14 l)), .int (iI (μ 15 l))]) C zc_X6_hoursBehind (c_hoursBehind hX (μ 14 l) (μ 15 l) (by omega) (by omega)) zn_56_RX3 (Nat.le_of_ble_eq_true rfl) (Nat.le_of_ble_eq_true rfl) (Nat.le_of_ble_eq_true rfl) rfl rfl (Nat.le_of_ble_eq_true rfl) dX3_lastBehind_8 (fun z1 L2 f3 hz4 => ?_)
  obtain ⟨hz4, rfl, rfl⟩ := hz4
  subst hz4
  change ZW G pZ la eZ (zRm 2 0 0) sZ mZ aZ bZ hZ cZ AZ 1 0 0 _ L f 11 [(0, .ref w)] [.int (iI ((spSz (μ 14 l) (μ 15 l) - 1) / 5))]
  exact z_ireturn C dX3_lastBehind_11 (Nat.le_of_ble_eq_true rfl) (Nat.le_of_ble_eq_true rfl) ⟨rfl, rfl, rfl⟩

set_option maxRecDepth 100000 in
set_option maxHeartbeats 200000 in
theorem c_isSoundedIn {la : Launch} {G : zG} {X : (Nat → Prop) → State → Prop} (hX : zX X) {L : List Nat} {f : Nat → va_E} {w : Nat} {μ : zMu} {l : Int} {r0 r1 r2 a0 a1 a2 : Nat} {s e rd : Int → Int} (hLn : zLn G L f w μ l r0 r1 r2 a0 a1 a2 s e rd) (d b n : Int) (hB : zLB μ l) (hd : zR d) (hb : zR b) (hn : zR n) : zM la G X yX3_isSoundedIn (.code yX3_isSoundedIn cX3_isSoundedIn 4 (some .boolean) :: zT) 3 0 0 [.ref w, .int (iI d), .int (iI b), .int (iI n)] L f zeI (zRd L f (fun z => z = bI (μ 16 l = d ∧ μ 17 l ≤ n ∧ b ≤ μ 17 l + (spSize μ l - 1) / 5))) := by
  refine zM_intro hX (by decide) (Nat.le_of_ble_eq_true rfl) (fun pZ eZ sZ mZ aZ bZ hZ cZ AZ C hini => ?_)
  change ZW G pZ la eZ (zRm 3 0 0) sZ mZ aZ bZ hZ cZ AZ 4 0 0 _ L f 0 [(0, .ref w), (1, .int (iI d)), (2, .int (iI b)), (3, .int (iI n))] []
  have hNO : zNO = -2147483648 := rfl
  have hsz := zLB_sz hB
  
  refine z_aload_n C 0 dX3_isSoundedIn_0 rfl ?_
  refine z_getf C 5 zin_X3 (hLn.1.1) (hLn.1.2) rfl (Nat.le_of_ble_eq_true rfl) zl_4_17 rfl rfl dX3_isSoundedIn_1 ?_
  refine z_iload_n C 1 dX3_isSoundedIn_4 rfl ?_
  refine z_icmp_ne C 33 dX3_isSoundedIn_5 (by decide) (by omega) (by omega) (fun h5 => ?_) (fun h5 => ?_)
  · refine z_iconst C dX3_isSoundedIn_33 ?_
    exact z_zreturn C (by first | omega | (unfold bI; split <;> omega)) dX3_isSoundedIn_34 (Nat.le_of_ble_eq_true rfl) (Nat.le_of_ble_eq_true rfl) ⟨by unfold bI; first | (rw [if_pos (by omega)]; done) | (rw [if_neg (by omega)]; done), rfl, rfl⟩
  · refine z_aload_n C 0 dX3_isSoundedIn_8 rfl ?_
    refine z_getf C 6 zin_X3 (hLn.1.1) (hLn.1.2) rfl (Nat.le_of_ble_eq_true rfl) zl_4_18 rfl rfl dX3_isSoundedIn_9 ?_
    refine z_iload_n C 3 dX3_isSoundedIn_12 rfl ?_
    refine z_icmp_gt C 33 dX3_isSoundedIn_13 (by decide) (by omega) (by omega) (fun h13 => ?_) (fun h13 => ?_)
    · refine z_iconst C dX3_isSoundedIn_33 ?_
      exact z_zreturn C (by first | omega | (unfold bI; split <;> omega)) dX3_isSoundedIn_34 (Nat.le_of_ble_eq_true rfl) (Nat.le_of_ble_eq_true rfl) ⟨by unfold bI; first | (rw [if_pos (by omega)]; done) | (rw [if_neg (by omega)]; done), rfl, rfl⟩
    · refine z_aload_n C 0 dX3_isSoundedIn_16 rfl ?_
      refine z_getf C 6 zin_X3 (hLn.1.1) (hLn.1.2) rfl (Nat.le_of_ble_eq_true rfl) zl_4_18 rfl rfl dX3_isSoundedIn_17 ?_
      refine z_aload_n C 0 dX3_isSoundedIn_20 rfl ?_
      refine z_cV (As := []) C zc_X3_lastBehind (c_lastBehind hX hLn hB) zl_4_4 (Nat.le_of_ble_eq_true rfl) (Nat.le_of_ble_eq_true rfl) (Nat.le_of_ble_eq_true rfl) (hLn.1.1) (hLn.1.2) rfl rfl rfl rfl (Nat.le_of_ble_eq_true rfl) dX3_isSoundedIn_21 (fun z1 L2 f3 hz4 => ?_)
      obtain ⟨hz4, rfl, rfl⟩ := hz4
      subst hz4
      change ZW G pZ la eZ (zRm 3 0 0) sZ mZ aZ bZ hZ cZ AZ 4 0 0 _ L f 24 [(0, .ref w), (1, .int (iI d)), (2, .int (iI b)), (3, .int (iI n))] [.int (iI ((spSize μ l - 1) / 5)), .int (iI (μ 17 l))]
      refine z_iadd C dX3_isSoundedIn_24 ?_
      refine z_iload_n C 2 dX3_isSoundedIn_25 rfl ?_
      refine z_icmp_lt C 33 dX3_isSoundedIn_26 (by decide) (by omega) (by omega) (fun h26 => ?_) (fun h26 => ?_)
      · refine z_iconst C dX3_isSoundedIn_33 ?_
        exact z_zreturn C (by first | omega | (unfold bI; split <;> omega)) dX3_isSoundedIn_34 (Nat.le_of_ble_eq_true rfl) (Nat.le_of_ble_eq_true rfl) ⟨by unfold bI; first | (rw [if_pos (by omega)]; done) | (rw [if_neg (by omega)]; done), rfl, rfl⟩
      · refine z_iconst C dX3_isSoundedIn_29 ?_
        refine z_goto C 34 dX3_isSoundedIn_30 (by decide) ?_
        exact z_zreturn C (by first | omega | (unfold bI; split <;> omega)) dX3_isSoundedIn_34 (Nat.le_of_ble_eq_true rfl) (Nat.le_of_ble_eq_true rfl) ⟨by unfold bI; first | (rw [if_pos (by omega)]; done) | (rw [if_neg (by omega)]; done), rfl, rfl⟩

set_option maxRecDepth 100000 in
set_option maxHeartbeats 200000 in
theorem c_placeOf {la : Launch} {G : zG} {X : (Nat → Prop) → State → Prop} (hX : zX X) {L : List Nat} {f : Nat → va_E} {w : Nat} {μ : zMu} {l : Int} {r0 r1 r2 a0 a1 a2 : Nat} {s e rd : Int → Int} (hLn : zLn G L f w μ l r0 r1 r2 a0 a1 a2 s e rd) (k : Int) (hB : zLB μ l) (hk : -100 ≤ k ∧ k ≤ 100) : zM la G X yX3_placeOf (.code yX3_placeOf cX3_placeOf 2 (some .int) :: zT) 0 0 0 [.ref w, .int (iI k)] L f zeI (zRd L f (fun z => z = spAlong μ l k)) := by
  refine zM_intro hX (by decide) (Nat.le_of_ble_eq_true rfl) (fun pZ eZ sZ mZ aZ bZ hZ cZ AZ C hini => ?_)
  change ZW G pZ la eZ (zRm 0 0 0) sZ mZ aZ bZ hZ cZ AZ 2 0 0 _ L f 0 [(0, .ref w), (1, .int (iI k))] []
  have hNO : zNO = -2147483648 := rfl
  have hsz := zLB_sz hB
  
  refine z_aload_n C 0 dX3_placeOf_0 rfl ?_
  refine z_getf C 2 zin_X3 (hLn.1.1) (hLn.1.2) rfl (Nat.le_of_ble_eq_true rfl) zl_4_14 rfl rfl dX3_placeOf_1 ?_
  refine z_aload_n C 0 dX3_placeOf_4 rfl ?_
  refine z_getf C 3 zin_X3 (hLn.1.1) (hLn.1.2) rfl (Nat.le_of_ble_eq_true rfl) zl_4_15 rfl rfl dX3_placeOf_5 ?_
  refine z_icmp_gt C 20 dX3_placeOf_8 (by decide) (by omega) (by omega) (fun h8 => ?_) (fun h8 => ?_)
  · refine z_aload_n C 0 dX3_placeOf_20 rfl ?_
    refine z_getf C 2 zin_X3 (hLn.1.1) (hLn.1.2) rfl (Nat.le_of_ble_eq_true rfl) zl_4_14 rfl rfl dX3_placeOf_21 ?_
    refine z_iload_n C 1 dX3_placeOf_24 rfl ?_
    refine z_isub C dX3_placeOf_25 ?_
    exact z_ireturn C dX3_placeOf_26 (Nat.le_of_ble_eq_true rfl) (Nat.le_of_ble_eq_true rfl) ⟨by unfold spAlong; first | rw [if_pos (by omega)] | rw [if_neg (by omega)], rfl, rfl⟩
  · refine z_aload_n C 0 dX3_placeOf_11 rfl ?_
    refine z_getf C 2 zin_X3 (hLn.1.1) (hLn.1.2) rfl (Nat.le_of_ble_eq_true rfl) zl_4_14 rfl rfl dX3_placeOf_12 ?_
    refine z_iload_n C 1 dX3_placeOf_15 rfl ?_
    refine z_iadd C dX3_placeOf_16 ?_
    refine z_goto C 26 dX3_placeOf_17 (by decide) ?_
    exact z_ireturn C dX3_placeOf_26 (Nat.le_of_ble_eq_true rfl) (Nat.le_of_ble_eq_true rfl) ⟨by unfold spAlong; first | rw [if_pos (by omega)] | rw [if_neg (by omega)], rfl, rfl⟩

set_option maxRecDepth 100000 in
set_option maxHeartbeats 200000 in
theorem c_columnOf {la : Launch} {G : zG} {X : (Nat → Prop) → State → Prop} (hX : zX X) {L : List Nat} {f : Nat → va_E} {w : Nat} {μ : zMu} {l : Int} {r0 r1 r2 a0 a1 a2 : Nat} {s e rd : Int → Int} (hLn : zLn G L f w μ l r0 r1 r2 a0 a1 a2 s e rd) (k t : Int) (hB : zLB μ l) (hk : -100 ≤ k ∧ k ≤ 100) (ht : -100 ≤ t ∧ t ≤ 100) : zM la G X yX3_columnOf (.code yX3_columnOf cX3_columnOf 3 (some .int) :: zT) 1 0 0 [.ref w, .int (iI k), .int (iI t)] L f zeI (zRd L f (fun z => z = spCol μ l k t)) := by
  refine zM_intro hX (by decide) (Nat.le_of_ble_eq_true rfl) (fun pZ eZ sZ mZ aZ bZ hZ cZ AZ C hini => ?_)
  change ZW G pZ la eZ (zRm 1 0 0) sZ mZ aZ bZ hZ cZ AZ 3 0 0 _ L f 0 [(0, .ref w), (1, .int (iI k)), (2, .int (iI t))] []
  have hNO : zNO = -2147483648 := rfl
  have hsz := zLB_sz hB
  
  refine z_aload_n C 0 dX3_columnOf_0 rfl ?_
  refine z_getf C 0 zin_X3 (hLn.1.1) (hLn.1.2) rfl (Nat.le_of_ble_eq_true rfl) zl_4_12 rfl rfl dX3_columnOf_1 ?_
  refine z_if_eq C 15 dX3_columnOf_4 (by decide) (by omega) (fun h4 => ?_) (fun h4 => ?_)
  · refine z_aload_n C 0 dX3_columnOf_15 rfl ?_
    refine z_getf C 1 zin_X3 (hLn.1.1) (hLn.1.2) rfl (Nat.le_of_ble_eq_true rfl) zl_4_13 rfl rfl dX3_columnOf_16 ?_
    refine z_iload_n C 2 dX3_columnOf_19 rfl ?_
    refine z_iadd C dX3_columnOf_20 ?_
    exact z_ireturn C dX3_columnOf_21 (Nat.le_of_ble_eq_true rfl) (Nat.le_of_ble_eq_true rfl) ⟨by unfold spCol; first | rw [if_pos (by omega)] | rw [if_neg (by omega)], rfl, rfl⟩
  · refine z_aload_n C 0 dX3_columnOf_7 rfl ?_
    refine z_iload_n C 1 dX3_columnOf_8 rfl ?_
    refine z_cV (As := [.int (iI k)]) C zc_X3_placeOf (c_placeOf hX hLn k hB (by omega)) zl_2_19 (Nat.le_of_ble_eq_true rfl) (Nat.le_of_ble_eq_true rfl) (Nat.le_of_ble_eq_true rfl) (hLn.1.1) (hLn.1.2) rfl rfl rfl rfl (Nat.le_of_ble_eq_true rfl) dX3_columnOf_9 (fun z1 L2 f3 hz4 => ?_)
    obtain ⟨hz4, rfl, rfl⟩ := hz4
    subst hz4
    change ZW G pZ la eZ (zRm 1 0 0) sZ mZ aZ bZ hZ cZ AZ 3 0 0 _ L f 12 [(0, .ref w), (1, .int (iI k)), (2, .int (iI t))] [.int (iI (spAlong μ l k))]
    refine z_goto C 21 dX3_columnOf_12 (by decide) ?_
    exact z_ireturn C dX3_columnOf_21 (Nat.le_of_ble_eq_true rfl) (Nat.le_of_ble_eq_true rfl) ⟨by unfold spCol; first | rw [if_pos (by omega)] | rw [if_neg (by omega)], rfl, rfl⟩

set_option maxRecDepth 100000 in
set_option maxHeartbeats 200000 in
theorem c_rowOf {la : Launch} {G : zG} {X : (Nat → Prop) → State → Prop} (hX : zX X) {L : List Nat} {f : Nat → va_E} {w : Nat} {μ : zMu} {l : Int} {r0 r1 r2 a0 a1 a2 : Nat} {s e rd : Int → Int} (hLn : zLn G L f w μ l r0 r1 r2 a0 a1 a2 s e rd) (k t : Int) (hB : zLB μ l) (hk : -100 ≤ k ∧ k ≤ 100) (ht : -100 ≤ t ∧ t ≤ 100) : zM la G X yX3_rowOf (.code yX3_rowOf cX3_rowOf 3 (some .int) :: zT) 1 0 0 [.ref w, .int (iI k), .int (iI t)] L f zeI (zRd L f (fun z => z = spRow μ l k t)) := by
  refine zM_intro hX (by decide) (Nat.le_of_ble_eq_true rfl) (fun pZ eZ sZ mZ aZ bZ hZ cZ AZ C hini => ?_)
  change ZW G pZ la eZ (zRm 1 0 0) sZ mZ aZ bZ hZ cZ AZ 3 0 0 _ L f 0 [(0, .ref w), (1, .int (iI k)), (2, .int (iI t))] []
  have hNO : zNO = -2147483648 := rfl
  have hsz := zLB_sz hB
  
  refine z_aload_n C 0 dX3_rowOf_0 rfl ?_
  refine z_getf C 0 zin_X3 (hLn.1.1) (hLn.1.2) rfl (Nat.le_of_ble_eq_true rfl) zl_4_12 rfl rfl dX3_rowOf_1 ?_
  refine z_if_eq C 16 dX3_rowOf_4 (by decide) (by omega) (fun h4 => ?_) (fun h4 => ?_)
  · refine z_aload_n C 0 dX3_rowOf_16 rfl ?_
    refine z_iload_n C 1 dX3_rowOf_17 rfl ?_
    refine z_cV (As := [.int (iI k)]) C zc_X3_placeOf (c_placeOf hX hLn k hB (by omega)) zl_2_19 (Nat.le_of_ble_eq_true rfl) (Nat.le_of_ble_eq_true rfl) (Nat.le_of_ble_eq_true rfl) (hLn.1.1) (hLn.1.2) rfl rfl rfl rfl (Nat.le_of_ble_eq_true rfl) dX3_rowOf_18 (fun z1 L2 f3 hz4 => ?_)
    obtain ⟨hz4, rfl, rfl⟩ := hz4
    subst hz4
    change ZW G pZ la eZ (zRm 1 0 0) sZ mZ aZ bZ hZ cZ AZ 3 0 0 _ L f 21 [(0, .ref w), (1, .int (iI k)), (2, .int (iI t))] [.int (iI (spAlong μ l k))]
    exact z_ireturn C dX3_rowOf_21 (Nat.le_of_ble_eq_true rfl) (Nat.le_of_ble_eq_true rfl) ⟨by unfold spRow; first | rw [if_pos (by omega)] | rw [if_neg (by omega)], rfl, rfl⟩
  · refine z_aload_n C 0 dX3_rowOf_7 rfl ?_
    refine z_getf C 1 zin_X3 (hLn.1.1) (hLn.1.2) rfl (Nat.le_of_ble_eq_true rfl) zl_4_13 rfl rfl dX3_rowOf_8 ?_
    refine z_iload_n C 2 dX3_rowOf_11 rfl ?_
    refine z_iadd C dX3_rowOf_12 ?_
    refine z_goto C 21 dX3_rowOf_13 (by decide) ?_
    exact z_ireturn C dX3_rowOf_21 (Nat.le_of_ble_eq_true rfl) (Nat.le_of_ble_eq_true rfl) ⟨by unfold spRow; first | rw [if_pos (by omega)] | rw [if_neg (by omega)], rfl, rfl⟩

set_option maxRecDepth 100000 in
set_option maxHeartbeats 200000 in
theorem c_hourOf {la : Launch} {G : zG} {X : (Nat → Prop) → State → Prop} (hX : zX X) {L : List Nat} {f : Nat → va_E} {w : Nat} {μ : zMu} {l : Int} {r0 r1 r2 a0 a1 a2 : Nat} {s e rd : Int → Int} (hLn : zLn G L f w μ l r0 r1 r2 a0 a1 a2 s e rd) (k : Int) (hB : zLB μ l) (hk : 0 ≤ k ∧ k ≤ 100) : zM la G X yX3_hourOf (.code yX3_hourOf cX3_hourOf 2 (some .int) :: zT) 0 0 0 [.ref w, .int (iI k)] L f zeI (zRd L f (fun z => z = μ 17 l + k / 5)) := by
  refine zM_intro hX (by decide) (Nat.le_of_ble_eq_true rfl) (fun pZ eZ sZ mZ aZ bZ hZ cZ AZ C hini => ?_)
  change ZW G pZ la eZ (zRm 0 0 0) sZ mZ aZ bZ hZ cZ AZ 2 0 0 _ L f 0 [(0, .ref w), (1, .int (iI k))] []
  have hNO : zNO = -2147483648 := rfl
  have hsz := zLB_sz hB
  
  refine z_aload_n C 0 dX3_hourOf_0 rfl ?_
  refine z_getf C 6 zin_X3 (hLn.1.1) (hLn.1.2) rfl (Nat.le_of_ble_eq_true rfl) zl_4_18 rfl rfl dX3_hourOf_1 ?_
  refine z_iload_n C 1 dX3_hourOf_4 rfl ?_
  refine z_iconst C dX3_hourOf_5 ?_
  refine z_idivP C dX3_hourOf_6 (by omega) (by omega) ?_
  refine z_iadd C dX3_hourOf_7 ?_
  exact z_ireturn C dX3_hourOf_8 (Nat.le_of_ble_eq_true rfl) (Nat.le_of_ble_eq_true rfl) ⟨rfl, rfl, rfl⟩

set_option maxRecDepth 100000 in
set_option maxHeartbeats 200000 in
theorem c_lcellAt {la : Launch} {G : zG} {X : (Nat → Prop) → State → Prop} (hX : zX X) {L : List Nat} {f : Nat → va_E} {w : Nat} {μ : zMu} {l : Int} {r0 r1 r2 a0 a1 a2 : Nat} {s e rd : Int → Int} (hLn : zLn G L f w μ l r0 r1 r2 a0 a1 a2 s e rd) (i : Int) (hB : zLB μ l) (hi : -1000 ≤ i ∧ i ≤ 1000) : zM la G X yX3_cellAt (.code yX3_cellAt cX3_cellAt 3 (some .int) :: zT) 1 0 0 [.ref w, .int (iI i)] L f zeI (zRd L f (fun z => z = spAt μ l i)) := by
  refine zM_intro hX (by decide) (Nat.le_of_ble_eq_true rfl) (fun pZ eZ sZ mZ aZ bZ hZ cZ AZ C hini => ?_)
  change ZW G pZ la eZ (zRm 1 0 0) sZ mZ aZ bZ hZ cZ AZ 3 0 0 _ L f 0 [(0, .ref w), (1, .int (iI i))] []
  have hNO : zNO = -2147483648 := rfl
  have hsz := zLB_sz hB
  
  have J35 : ∀ (y : Int)   (hj35 : y = 0 ∧ ¬ ((μ 14 l ≤ i ∧ i ≤ μ 15 l) ∨ (μ 15 l ≤ i ∧ i ≤ μ 14 l)) ∨ y = 1 ∧ ((μ 14 l ≤ i ∧ i ≤ μ 15 l) ∨ (μ 15 l ≤ i ∧ i ≤ μ 14 l))), ZW G pZ la eZ (zRm 1 0 0) sZ mZ aZ bZ hZ cZ AZ 3 0 0 (MQ bZ (zQ G zeI (zRd L f (fun z => z = spAt μ l i)) AZ) aZ sZ 0 0 AZ) L f 35 [(0, .ref w), (1, .int (iI i))] [.int (iI y)] := by
    intro y   hj35
    have hy := hj35
    refine z_istore_n (ls' := [(2, .int (iI y)), (0, .ref w), (1, .int (iI i))]) C dX3_cellAt_35 (Nat.le_of_ble_eq_true rfl) rfl ?_
    refine z_iload_n C 0 dX3_cellAt_36 rfl ?_
    refine z_if_eq C 52 dX3_cellAt_37 (by decide) (by omega) (fun h37 => ?_) (fun h37 => ?_)
    · refine z_iconst C dX3_cellAt_52 ?_
      exact z_ireturn C dX3_cellAt_53 (Nat.le_of_ble_eq_true rfl) (Nat.le_of_ble_eq_true rfl) ⟨by unfold spAt; first | (rw [if_neg (by omega)]; done) | (rw [if_pos (by omega)]; split <;> omega), rfl, rfl⟩
    · refine z_iload_n C 2 dX3_cellAt_40 rfl ?_
      refine z_aload_n C 1 dX3_cellAt_41 rfl ?_
      refine z_getf C 2 zin_X3 (hLn.1.1) (hLn.1.2) rfl (Nat.le_of_ble_eq_true rfl) zl_4_14 rfl rfl dX3_cellAt_42 ?_
      refine z_isub C dX3_cellAt_45 ?_
      refine z_mabs C zl_2_103 (Nat.le_of_ble_eq_true rfl) (Nat.le_of_ble_eq_true rfl) (Nat.le_of_ble_eq_true rfl) (by omega) (Nat.le_of_ble_eq_true rfl) dX3_cellAt_46 (fun w1 hw2 => ?_)
      refine z_goto C 53 dX3_cellAt_49 (by decide) ?_
      exact z_ireturn C dX3_cellAt_53 (Nat.le_of_ble_eq_true rfl) (Nat.le_of_ble_eq_true rfl) ⟨by unfold spAt; first | (rw [if_neg (by omega)]; done) | (rw [if_pos (by omega)]; split <;> omega), rfl, rfl⟩
  refine z_iload_n C 1 dX3_cellAt_0 rfl ?_
  refine z_aload_n C 0 dX3_cellAt_1 rfl ?_
  refine z_getf C 2 zin_X3 (hLn.1.1) (hLn.1.2) rfl (Nat.le_of_ble_eq_true rfl) zl_4_14 rfl rfl dX3_cellAt_2 ?_
  refine z_aload_n C 0 dX3_cellAt_5 rfl ?_
  refine z_getf C 3 zin_X3 (hLn.1.1) (hLn.1.2) rfl (Nat.le_of_ble_eq_true rfl) zl_4_15 rfl rfl dX3_cellAt_6 ?_
  refine z_mmin C zl_2_99 (Nat.le_of_ble_eq_true rfl) (Nat.le_of_ble_eq_true rfl) (Nat.le_of_ble_eq_true rfl) (by omega) (by omega) (Nat.le_of_ble_eq_true rfl) dX3_cellAt_9 (fun w3 hw4 => ?_)
  refine z_icmp_lt C 34 dX3_cellAt_12 (by decide) (by omega) (by omega) (fun h12 => ?_) (fun h12 => ?_)
  · refine z_iconst C dX3_cellAt_34 ?_
    refine z_perm [0, 1] rfl ?_
    exact J35 _  (by omega)
  · refine z_iload_n C 1 dX3_cellAt_15 rfl ?_
    refine z_aload_n C 0 dX3_cellAt_16 rfl ?_
    refine z_getf C 2 zin_X3 (hLn.1.1) (hLn.1.2) rfl (Nat.le_of_ble_eq_true rfl) zl_4_14 rfl rfl dX3_cellAt_17 ?_
    refine z_aload_n C 0 dX3_cellAt_20 rfl ?_
    refine z_getf C 3 zin_X3 (hLn.1.1) (hLn.1.2) rfl (Nat.le_of_ble_eq_true rfl) zl_4_15 rfl rfl dX3_cellAt_21 ?_
    refine z_mmax C zl_2_102 (Nat.le_of_ble_eq_true rfl) (Nat.le_of_ble_eq_true rfl) (Nat.le_of_ble_eq_true rfl) (by omega) (by omega) (Nat.le_of_ble_eq_true rfl) dX3_cellAt_24 (fun w5 hw6 => ?_)
    refine z_icmp_gt C 34 dX3_cellAt_27 (by decide) (by omega) (by omega) (fun h27 => ?_) (fun h27 => ?_)
    · refine z_iconst C dX3_cellAt_34 ?_
      refine z_perm [0, 1] rfl ?_
      exact J35 _  (by omega)
    · refine z_iconst C dX3_cellAt_30 ?_
      refine z_goto C 35 dX3_cellAt_31 (by decide) ?_
      refine z_perm [0, 1] rfl ?_
      exact J35 _  (by omega)
