set_option maxRecDepth 100000 in
set_option maxHeartbeats 200000 in
theorem c_reducedAt {la : Launch} {G : zG} {X : (Nat → Prop) → State → Prop} (hX : zX X) {L : List Nat} {f : Nat → va_E} {w : Nat} {μ : zMu} {l : Int} {r0 r1 r2 a0 a1 a2 : Nat} {s e rd : Int → Int} (hLn : zLn G L f w μ l r0 r1 r2 a0 a1 a2 s e rd) (k t : Int) (hB : zLB μ l) (hk : -1000 ≤ k ∧ k ≤ 1000) (ht : -1000 ≤ t ∧ t ≤ 1000) : zM la G X yX3_reducedAt (.code yX3_reducedAt cX3_reducedAt 3 (some .int) :: zT) 1 0 0 [.ref w, .int (iI k), .int (iI t)] L f zeI (zRd L f (fun z => z = cN (zls rd k t))) := by
  refine zM_intro hX (by decide) (Nat.le_of_ble_eq_true rfl) (fun pZ eZ sZ mZ aZ bZ hZ cZ AZ C hini => ?_)
  change ZW G pZ la eZ (zRm 1 0 0) sZ mZ aZ bZ hZ cZ AZ 3 0 0 _ L f 0 [(0, .ref w), (1, .int (iI k)), (2, .int (iI t))] []
  have hNO : zNO = -2147483648 := rfl
  have hsz := zLB_sz hB
  
  refine z_aload_n C 0 dX3_reducedAt_0 rfl ?_
  refine z_getf C 9 zin_X3 (hLn.1.1) (hLn.1.2) rfl (Nat.le_of_ble_eq_true rfl) zl_4_21 rfl rfl dX3_reducedAt_1 ?_
  refine z_iload_n C 1 dX3_reducedAt_4 rfl ?_
  refine z_iload_n C 2 dX3_reducedAt_5 rfl ?_
  refine z_cS (As := [.int (iI k), .int (iI t)]) C zc_X3_slotOf (c_slotOf hX k t (by omega) (by omega)) zl_1_190 (Nat.le_of_ble_eq_true rfl) (Nat.le_of_ble_eq_true rfl) (Nat.le_of_ble_eq_true rfl) rfl rfl (Nat.le_of_ble_eq_true rfl) dX3_reducedAt_6 (fun z2 L3 f4 hz5 => ?_)
  obtain ⟨hz5, rfl, rfl⟩ := hz5
  subst hz5
  have hr1 := zslot_rng k t
  change ZW G pZ la eZ (zRm 1 0 0) sZ mZ aZ bZ hZ cZ AZ 3 0 0 _ L f 9 [(0, .ref w), (1, .int (iI k)), (2, .int (iI t))] [.int (iI (zslot k t)), .ref r2]
  refine z_cV (As := [.int (iI (zslot k t))]) C zc_X4_read (c_read hX (hLn.2.2.2) (zslot k t) (by decide) (by omega)) zl_1_193 (Nat.le_of_ble_eq_true rfl) (Nat.le_of_ble_eq_true rfl) (Nat.le_of_ble_eq_true rfl) (hLn.2.2.2.1.1) (hLn.2.2.2.1.2) rfl rfl rfl rfl (Nat.le_of_ble_eq_true rfl) dX3_reducedAt_9 (fun z6 L7 f8 hz9 => ?_)
  obtain ⟨hz9, rfl, rfl⟩ := hz9
  subst hz9
  have hv2 : zrd 140 (-1000000) (fun p => cN (rd p)) (zslot k t) = cN (zls rd k t) := zrd_slot rd k t
  change ZW G pZ la eZ (zRm 1 0 0) sZ mZ aZ bZ hZ cZ AZ 3 0 0 _ L f 12 [(0, .ref w), (1, .int (iI k)), (2, .int (iI t))] [.int (iI (zrd 140 (-1000000) (fun p => cN (rd p)) (zslot k t)))]
  exact z_ireturn C dX3_reducedAt_12 (Nat.le_of_ble_eq_true rfl) (Nat.le_of_ble_eq_true rfl) ⟨by rw [hv2], rfl, rfl⟩

set_option maxRecDepth 100000 in
set_option maxHeartbeats 200000 in
theorem c_hasSounded {la : Launch} {G : zG} {X : (Nat → Prop) → State → Prop} (hX : zX X) {L : List Nat} {f : Nat → va_E} {w : Nat} {μ : zMu} {l : Int} {r0 r1 r2 a0 a1 a2 : Nat} {s e rd : Int → Int} (hLn : zLn G L f w μ l r0 r1 r2 a0 a1 a2 s e rd) (k t : Int) (hB : zLB μ l) (hk : -1000 ≤ k ∧ k ≤ 1000) (ht : -1000 ≤ t ∧ t ≤ 1000) (hss : zCr s) : zM la G X yX3_hasSounded (.code yX3_hasSounded cX3_hasSounded 3 (some .boolean) :: zT) 1 0 0 [.ref w, .int (iI k), .int (iI t)] L f zeI (zRd L f (fun z => z = bI (zls s k t ≠ zNO))) := by
  refine zM_intro hX (by decide) (Nat.le_of_ble_eq_true rfl) (fun pZ eZ sZ mZ aZ bZ hZ cZ AZ C hini => ?_)
  change ZW G pZ la eZ (zRm 1 0 0) sZ mZ aZ bZ hZ cZ AZ 3 0 0 _ L f 0 [(0, .ref w), (1, .int (iI k)), (2, .int (iI t))] []
  have hNO : zNO = -2147483648 := rfl
  have hsz := zLB_sz hB
  
  refine z_aload_n C 0 dX3_hasSounded_0 rfl ?_
  refine z_getf C 7 zin_X3 (hLn.1.1) (hLn.1.2) rfl (Nat.le_of_ble_eq_true rfl) zl_4_19 rfl rfl dX3_hasSounded_1 ?_
  refine z_iload_n C 1 dX3_hasSounded_4 rfl ?_
  refine z_iload_n C 2 dX3_hasSounded_5 rfl ?_
  refine z_cS (As := [.int (iI k), .int (iI t)]) C zc_X3_slotOf (c_slotOf hX k t (by omega) (by omega)) zl_1_190 (Nat.le_of_ble_eq_true rfl) (Nat.le_of_ble_eq_true rfl) (Nat.le_of_ble_eq_true rfl) rfl rfl (Nat.le_of_ble_eq_true rfl) dX3_hasSounded_6 (fun z2 L3 f4 hz5 => ?_)
  obtain ⟨hz5, rfl, rfl⟩ := hz5
  subst hz5
  have hr1 := zslot_rng k t
  change ZW G pZ la eZ (zRm 1 0 0) sZ mZ aZ bZ hZ cZ AZ 3 0 0 _ L f 9 [(0, .ref w), (1, .int (iI k)), (2, .int (iI t))] [.int (iI (zslot k t)), .ref r0]
  refine z_cV (As := [.int (iI (zslot k t))]) C zc_X4_read (c_read hX (hLn.2.1) (zslot k t) (by decide) (by omega)) zl_1_193 (Nat.le_of_ble_eq_true rfl) (Nat.le_of_ble_eq_true rfl) (Nat.le_of_ble_eq_true rfl) (hLn.2.1.1.1) (hLn.2.1.1.2) rfl rfl rfl rfl (Nat.le_of_ble_eq_true rfl) dX3_hasSounded_9 (fun z6 L7 f8 hz9 => ?_)
  obtain ⟨hz9, rfl, rfl⟩ := hz9
  subst hz9
  have hv0 : zrd 140 (-1000000) (fun p => cN (s p)) (zslot k t) = cN (zls s k t) := zrd_slot s k t
  have hcs := cN_cs (zls_cr hss k t)
  change ZW G pZ la eZ (zRm 1 0 0) sZ mZ aZ bZ hZ cZ AZ 3 0 0 _ L f 12 [(0, .ref w), (1, .int (iI k)), (2, .int (iI t))] [.int (iI (zrd 140 (-1000000) (fun p => cN (s p)) (zslot k t)))]
  refine z_ldc (n := (-1000000)) C zl_1_194 rfl dX3_hasSounded_12 ?_
  refine z_icmp_eq C 21 dX3_hasSounded_14 (by decide) (by omega) (by omega) (fun h14 => ?_) (fun h14 => ?_)
  · refine z_iconst C dX3_hasSounded_21 ?_
    exact z_zreturn C (by first | omega | (unfold bI; split <;> omega)) dX3_hasSounded_22 (Nat.le_of_ble_eq_true rfl) (Nat.le_of_ble_eq_true rfl) ⟨by unfold bI; first | (rw [if_pos (by omega)]; done) | (rw [if_neg (by omega)]; done), rfl, rfl⟩
  · refine z_iconst C dX3_hasSounded_17 ?_
    refine z_goto C 22 dX3_hasSounded_18 (by decide) ?_
    exact z_zreturn C (by first | omega | (unfold bI; split <;> omega)) dX3_hasSounded_22 (Nat.le_of_ble_eq_true rfl) (Nat.le_of_ble_eq_true rfl) ⟨by unfold bI; first | (rw [if_pos (by omega)]; done) | (rw [if_neg (by omega)]; done), rfl, rfl⟩

set_option maxRecDepth 100000 in
set_option maxHeartbeats 200000 in
theorem c_standsOut {la : Launch} {G : zG} {X : (Nat → Prop) → State → Prop} (hX : zX X) {L : List Nat} {f : Nat → va_E} {w : Nat} {μ : zMu} {l : Int} {r0 r1 r2 a0 a1 a2 : Nat} {s e rd : Int → Int} (hLn : zLn G L f w μ l r0 r1 r2 a0 a1 a2 s e rd) (k t : Int) (hB : zLB μ l) (hk : -900 ≤ k ∧ k ≤ 900) (ht : -1000 ≤ t ∧ t ≤ 1000) (hrd : zCr rd) : zM la G X yX3_standsOut (.code yX3_standsOut cX3_standsOut 6 (some .boolean) :: zT) 2 0 0 [.ref w, .int (iI k), .int (iI t)] L f zeI (zRd L f (fun z => z = bI (zspk rd k t))) := by
  refine zM_intro hX (by decide) (Nat.le_of_ble_eq_true rfl) (fun pZ eZ sZ mZ aZ bZ hZ cZ AZ C hini => ?_)
  change ZW G pZ la eZ (zRm 2 0 0) sZ mZ aZ bZ hZ cZ AZ 6 0 0 _ L f 0 [(0, .ref w), (1, .int (iI k)), (2, .int (iI t))] []
  have hNO : zNO = -2147483648 := rfl
  have hsz := zLB_sz hB
  
  refine z_aload_n C 0 dX3_standsOut_0 rfl ?_
  refine z_iload_n C 1 dX3_standsOut_1 rfl ?_
  refine z_iload_n C 2 dX3_standsOut_2 rfl ?_
  refine z_cV (As := [.int (iI k), .int (iI t)]) C zc_X3_reducedAt (c_reducedAt hX hLn k t hB (by omega) (by omega)) zl_1_195 (Nat.le_of_ble_eq_true rfl) (Nat.le_of_ble_eq_true rfl) (Nat.le_of_ble_eq_true rfl) (hLn.1.1) (hLn.1.2) rfl rfl rfl rfl (Nat.le_of_ble_eq_true rfl) dX3_standsOut_3 (fun zr1 L3 f4 hz2 => ?_)
  obtain ⟨hz2, rfl, rfl⟩ := hz2
  have hz2c := cN_cs (zls_cr hrd k t)
  have hz2d : (zls rd k t = zNO ∧ zr1 = -1000000) ∨ (-108 ≤ zls rd k t ∧ zls rd k t ≤ 208 ∧ zls rd k t ≠ zNO ∧ zr1 = zls rd k t) := by rw [hz2]; exact hz2c
  change ZW G pZ la eZ (zRm 2 0 0) sZ mZ aZ bZ hZ cZ AZ 6 0 0 _ L f 6 [(0, .ref w), (1, .int (iI k)), (2, .int (iI t))] [.int (iI zr1)]
  refine z_istore_n (ls' := [(3, .int (iI zr1)), (0, .ref w), (1, .int (iI k)), (2, .int (iI t))]) C dX3_standsOut_6 (Nat.le_of_ble_eq_true rfl) rfl ?_
  refine z_aload_n C 1 dX3_standsOut_7 rfl ?_
  refine z_iload_n C 2 dX3_standsOut_8 rfl ?_
  refine z_iconst C dX3_standsOut_9 ?_
  refine z_isub C dX3_standsOut_10 ?_
  refine z_iload_n C 3 dX3_standsOut_11 rfl ?_
  refine z_cV (As := [.int (iI (k - 1)), .int (iI t)]) C zc_X3_reducedAt (c_reducedAt hX hLn (k - 1) t hB (by omega) (by omega)) zl_1_195 (Nat.le_of_ble_eq_true rfl) (Nat.le_of_ble_eq_true rfl) (Nat.le_of_ble_eq_true rfl) (hLn.1.1) (hLn.1.2) rfl rfl rfl rfl (Nat.le_of_ble_eq_true rfl) dX3_standsOut_12 (fun zr5 L7 f8 hz6 => ?_)
  obtain ⟨hz6, rfl, rfl⟩ := hz6
  have hz6c := cN_cs (zls_cr hrd (k - 1) t)
  have hz6d : (zls rd (k - 1) t = zNO ∧ zr5 = -1000000) ∨ (-108 ≤ zls rd (k - 1) t ∧ zls rd (k - 1) t ≤ 208 ∧ zls rd (k - 1) t ≠ zNO ∧ zr5 = zls rd (k - 1) t) := by rw [hz6]; exact hz6c
  change ZW G pZ la eZ (zRm 2 0 0) sZ mZ aZ bZ hZ cZ AZ 6 0 0 _ L f 15 [(3, .int (iI zr1)), (0, .ref w), (1, .int (iI k)), (2, .int (iI t))] [.int (iI zr5)]
  refine z_istore (ls' := [(4, .int (iI zr5)), (3, .int (iI zr1)), (0, .ref w), (1, .int (iI k)), (2, .int (iI t))]) C dX3_standsOut_15 (Nat.le_of_ble_eq_true rfl) rfl ?_
  refine z_aload_n C 2 dX3_standsOut_17 rfl ?_
  refine z_iload_n C 3 dX3_standsOut_18 rfl ?_
  refine z_iconst C dX3_standsOut_19 ?_
  refine z_iadd C dX3_standsOut_20 ?_
  refine z_iload_n C 4 dX3_standsOut_21 rfl ?_
  refine z_cV (As := [.int (iI (k + 1)), .int (iI t)]) C zc_X3_reducedAt (c_reducedAt hX hLn (k + 1) t hB (by omega) (by omega)) zl_1_195 (Nat.le_of_ble_eq_true rfl) (Nat.le_of_ble_eq_true rfl) (Nat.le_of_ble_eq_true rfl) (hLn.1.1) (hLn.1.2) rfl rfl rfl rfl (Nat.le_of_ble_eq_true rfl) dX3_standsOut_22 (fun zr9 L11 f12 hz10 => ?_)
  obtain ⟨hz10, rfl, rfl⟩ := hz10
  have hz10c := cN_cs (zls_cr hrd (k + 1) t)
  have hz10d : (zls rd (k + 1) t = zNO ∧ zr9 = -1000000) ∨ (-108 ≤ zls rd (k + 1) t ∧ zls rd (k + 1) t ≤ 208 ∧ zls rd (k + 1) t ≠ zNO ∧ zr9 = zls rd (k + 1) t) := by rw [hz10]; exact hz10c
  change ZW G pZ la eZ (zRm 2 0 0) sZ mZ aZ bZ hZ cZ AZ 6 0 0 _ L f 25 [(4, .int (iI zr5)), (3, .int (iI zr1)), (0, .ref w), (1, .int (iI k)), (2, .int (iI t))] [.int (iI zr9)]
  refine z_istore (ls' := [(5, .int (iI zr9)), (4, .int (iI zr5)), (3, .int (iI zr1)), (0, .ref w), (1, .int (iI k)), (2, .int (iI t))]) C dX3_standsOut_25 (Nat.le_of_ble_eq_true rfl) rfl ?_
  refine z_iload_n C 2 dX3_standsOut_27 rfl ?_
  refine z_ldc (n := (-1000000)) C zl_1_194 rfl dX3_standsOut_28 ?_
  refine z_icmp_eq C 47 dX3_standsOut_30 (by decide) (by omega) (by omega) (fun h30 => ?_) (fun h30 => ?_)
  · refine z_iconst C dX3_standsOut_47 ?_
    exact z_zreturn C (by first | omega | (unfold bI; split <;> omega)) dX3_standsOut_48 (Nat.le_of_ble_eq_true rfl) (Nat.le_of_ble_eq_true rfl) ⟨by unfold bI; first | (rw [if_pos (by omega)]; done) | (rw [if_neg (by omega)]; done), rfl, rfl⟩
  · refine z_iload C 1 dX3_standsOut_33 rfl ?_
    refine z_ldc (n := (-1000000)) C zl_1_194 rfl dX3_standsOut_35 ?_
    refine z_icmp_ne C 49 dX3_standsOut_37 (by decide) (by omega) (by omega) (fun h37 => ?_) (fun h37 => ?_)
    · refine z_iload_n C 2 dX3_standsOut_49 rfl ?_
      refine z_iload C 1 dX3_standsOut_50 rfl ?_
      refine z_cS (As := [.int (iI zr1), .int (iI zr5)]) C zc_X3_isFar (c_isFar hX zr1 zr5 (by omega) (by omega)) zl_2_112 (Nat.le_of_ble_eq_true rfl) (Nat.le_of_ble_eq_true rfl) (Nat.le_of_ble_eq_true rfl) rfl rfl (Nat.le_of_ble_eq_true rfl) dX3_standsOut_52 (fun z13 L14 f15 hz16 => ?_)
      obtain ⟨hz16, rfl, rfl⟩ := hz16
      subst hz16
      change ZW G pZ la eZ (zRm 2 0 0) sZ mZ aZ bZ hZ cZ AZ 6 0 0 _ L f 55 [(5, .int (iI zr9)), (4, .int (iI zr5)), (3, .int (iI zr1)), (0, .ref w), (1, .int (iI k)), (2, .int (iI t))] [.int (iI (bI (zr5 = -1000000 ∨ spFar zr1 zr5)))]
      refine z_if_eq_b C 71 dX3_standsOut_55 (by decide) (fun h55 => ?_) (fun h55 => ?_)
      · refine z_iconst C dX3_standsOut_71 ?_
        exact z_zreturn C (by first | omega | (unfold bI; split <;> omega)) dX3_standsOut_72 (Nat.le_of_ble_eq_true rfl) (Nat.le_of_ble_eq_true rfl) ⟨by unfold bI; first | (rw [if_pos (by omega)]; done) | (rw [if_neg (by omega)]; done), rfl, rfl⟩
      · refine z_iload_n C 2 dX3_standsOut_58 rfl ?_
        refine z_iload C 0 dX3_standsOut_59 rfl ?_
        refine z_cS (As := [.int (iI zr1), .int (iI zr9)]) C zc_X3_isFar (c_isFar hX zr1 zr9 (by omega) (by omega)) zl_2_112 (Nat.le_of_ble_eq_true rfl) (Nat.le_of_ble_eq_true rfl) (Nat.le_of_ble_eq_true rfl) rfl rfl (Nat.le_of_ble_eq_true rfl) dX3_standsOut_61 (fun z17 L18 f19 hz20 => ?_)
        obtain ⟨hz20, rfl, rfl⟩ := hz20
        subst hz20
        change ZW G pZ la eZ (zRm 2 0 0) sZ mZ aZ bZ hZ cZ AZ 6 0 0 _ L f 64 [(5, .int (iI zr9)), (4, .int (iI zr5)), (3, .int (iI zr1)), (0, .ref w), (1, .int (iI k)), (2, .int (iI t))] [.int (iI (bI (zr9 = -1000000 ∨ spFar zr1 zr9)))]
        refine z_if_eq_b C 71 dX3_standsOut_64 (by decide) (fun h64 => ?_) (fun h64 => ?_)
        · refine z_iconst C dX3_standsOut_71 ?_
          exact z_zreturn C (by first | omega | (unfold bI; split <;> omega)) dX3_standsOut_72 (Nat.le_of_ble_eq_true rfl) (Nat.le_of_ble_eq_true rfl) ⟨by unfold bI; first | (rw [if_pos (by omega)]; done) | (rw [if_neg (by omega)]; done), rfl, rfl⟩
        · refine z_iconst C dX3_standsOut_67 ?_
          refine z_goto C 72 dX3_standsOut_68 (by decide) ?_
          exact z_zreturn C (by first | omega | (unfold bI; split <;> omega)) dX3_standsOut_72 (Nat.le_of_ble_eq_true rfl) (Nat.le_of_ble_eq_true rfl) ⟨by unfold bI; first | (rw [if_pos (by omega)]; done) | (rw [if_neg (by omega)]; done), rfl, rfl⟩
    · refine z_iload C 0 dX3_standsOut_40 rfl ?_
      refine z_ldc (n := (-1000000)) C zl_1_194 rfl dX3_standsOut_42 ?_
      refine z_icmp_ne C 49 dX3_standsOut_44 (by decide) (by omega) (by omega) (fun h44 => ?_) (fun h44 => ?_)
      · refine z_iload_n C 2 dX3_standsOut_49 rfl ?_
        refine z_iload C 1 dX3_standsOut_50 rfl ?_
        refine z_cS (As := [.int (iI zr1), .int (iI zr5)]) C zc_X3_isFar (c_isFar hX zr1 zr5 (by omega) (by omega)) zl_2_112 (Nat.le_of_ble_eq_true rfl) (Nat.le_of_ble_eq_true rfl) (Nat.le_of_ble_eq_true rfl) rfl rfl (Nat.le_of_ble_eq_true rfl) dX3_standsOut_52 (fun z21 L22 f23 hz24 => ?_)
        obtain ⟨hz24, rfl, rfl⟩ := hz24
        subst hz24
        change ZW G pZ la eZ (zRm 2 0 0) sZ mZ aZ bZ hZ cZ AZ 6 0 0 _ L f 55 [(5, .int (iI zr9)), (4, .int (iI zr5)), (3, .int (iI zr1)), (0, .ref w), (1, .int (iI k)), (2, .int (iI t))] [.int (iI (bI (zr5 = -1000000 ∨ spFar zr1 zr5)))]
        refine z_if_eq_b C 71 dX3_standsOut_55 (by decide) (fun h55 => ?_) (fun h55 => ?_)
        · refine z_iconst C dX3_standsOut_71 ?_
          exact z_zreturn C (by first | omega | (unfold bI; split <;> omega)) dX3_standsOut_72 (Nat.le_of_ble_eq_true rfl) (Nat.le_of_ble_eq_true rfl) ⟨by unfold bI; first | (rw [if_pos (by omega)]; done) | (rw [if_neg (by omega)]; done), rfl, rfl⟩
        · refine z_iload_n C 2 dX3_standsOut_58 rfl ?_
          refine z_iload C 0 dX3_standsOut_59 rfl ?_
          refine z_cS (As := [.int (iI zr1), .int (iI zr9)]) C zc_X3_isFar (c_isFar hX zr1 zr9 (by omega) (by omega)) zl_2_112 (Nat.le_of_ble_eq_true rfl) (Nat.le_of_ble_eq_true rfl) (Nat.le_of_ble_eq_true rfl) rfl rfl (Nat.le_of_ble_eq_true rfl) dX3_standsOut_61 (fun z25 L26 f27 hz28 => ?_)
          obtain ⟨hz28, rfl, rfl⟩ := hz28
          subst hz28
          change ZW G pZ la eZ (zRm 2 0 0) sZ mZ aZ bZ hZ cZ AZ 6 0 0 _ L f 64 [(5, .int (iI zr9)), (4, .int (iI zr5)), (3, .int (iI zr1)), (0, .ref w), (1, .int (iI k)), (2, .int (iI t))] [.int (iI (bI (zr9 = -1000000 ∨ spFar zr1 zr9)))]
          refine z_if_eq_b C 71 dX3_standsOut_64 (by decide) (fun h64 => ?_) (fun h64 => ?_)
          · refine z_iconst C dX3_standsOut_71 ?_
            exact z_zreturn C (by first | omega | (unfold bI; split <;> omega)) dX3_standsOut_72 (Nat.le_of_ble_eq_true rfl) (Nat.le_of_ble_eq_true rfl) ⟨by unfold bI; first | (rw [if_pos (by omega)]; done) | (rw [if_neg (by omega)]; done), rfl, rfl⟩
          · refine z_iconst C dX3_standsOut_67 ?_
            refine z_goto C 72 dX3_standsOut_68 (by decide) ?_
            exact z_zreturn C (by first | omega | (unfold bI; split <;> omega)) dX3_standsOut_72 (Nat.le_of_ble_eq_true rfl) (Nat.le_of_ble_eq_true rfl) ⟨by unfold bI; first | (rw [if_pos (by omega)]; done) | (rw [if_neg (by omega)]; done), rfl, rfl⟩
      · refine z_iconst C dX3_standsOut_47 ?_
        exact z_zreturn C (by first | omega | (unfold bI; split <;> omega)) dX3_standsOut_48 (Nat.le_of_ble_eq_true rfl) (Nat.le_of_ble_eq_true rfl) ⟨by unfold bI; first | (rw [if_pos (by omega)]; done) | (rw [if_neg (by omega)]; done), rfl, rfl⟩

set_option maxRecDepth 100000 in
set_option maxHeartbeats 200000 in
theorem c_isGood {la : Launch} {G : zG} {X : (Nat → Prop) → State → Prop} (hX : zX X) {L : List Nat} {f : Nat → va_E} {w : Nat} {μ : zMu} {l : Int} {r0 r1 r2 a0 a1 a2 : Nat} {s e rd : Int → Int} (hLn : zLn G L f w μ l r0 r1 r2 a0 a1 a2 s e rd) (k t : Int) (hB : zLB μ l) (hk : -900 ≤ k ∧ k ≤ 900) (ht : -1000 ≤ t ∧ t ≤ 1000) (hrd : zCr rd) : zM la G X yX3_isGood (.code yX3_isGood cX3_isGood 3 (some .boolean) :: zT) 3 0 0 [.ref w, .int (iI k), .int (iI t)] L f zeI (zRd L f (fun z => z = bI (zgood2 rd k t))) := by
  refine zM_intro hX (by decide) (Nat.le_of_ble_eq_true rfl) (fun pZ eZ sZ mZ aZ bZ hZ cZ AZ C hini => ?_)
  change ZW G pZ la eZ (zRm 3 0 0) sZ mZ aZ bZ hZ cZ AZ 3 0 0 _ L f 0 [(0, .ref w), (1, .int (iI k)), (2, .int (iI t))] []
  have hNO : zNO = -2147483648 := rfl
  have hsz := zLB_sz hB
  
  refine z_aload_n C 0 dX3_isGood_0 rfl ?_
  refine z_iload_n C 1 dX3_isGood_1 rfl ?_
  refine z_iload_n C 2 dX3_isGood_2 rfl ?_
  refine z_cV (As := [.int (iI k), .int (iI t)]) C zc_X3_reducedAt (c_reducedAt hX hLn k t hB (by omega) (by omega)) zl_1_195 (Nat.le_of_ble_eq_true rfl) (Nat.le_of_ble_eq_true rfl) (Nat.le_of_ble_eq_true rfl) (hLn.1.1) (hLn.1.2) rfl rfl rfl rfl (Nat.le_of_ble_eq_true rfl) dX3_isGood_3 (fun zr1 L3 f4 hz2 => ?_)
  obtain ⟨hz2, rfl, rfl⟩ := hz2
  have hz2c := cN_cs (zls_cr hrd k t)
  have hz2d : (zls rd k t = zNO ∧ zr1 = -1000000) ∨ (-108 ≤ zls rd k t ∧ zls rd k t ≤ 208 ∧ zls rd k t ≠ zNO ∧ zr1 = zls rd k t) := by rw [hz2]; exact hz2c
  change ZW G pZ la eZ (zRm 3 0 0) sZ mZ aZ bZ hZ cZ AZ 3 0 0 _ L f 6 [(0, .ref w), (1, .int (iI k)), (2, .int (iI t))] [.int (iI zr1)]
  refine z_ldc (n := (-1000000)) C zl_1_194 rfl dX3_isGood_6 ?_
  refine z_icmp_eq C 24 dX3_isGood_8 (by decide) (by omega) (by omega) (fun h8 => ?_) (fun h8 => ?_)
  · refine z_iconst C dX3_isGood_24 ?_
    exact z_zreturn C (by first | omega | (unfold bI; split <;> omega)) dX3_isGood_25 (Nat.le_of_ble_eq_true rfl) (Nat.le_of_ble_eq_true rfl) ⟨by unfold bI; first | (rw [if_pos ⟨by omega, by assumption⟩]; done) | (rw [if_neg (fun q => by first | (exact absurd q.1 (by omega)) | (exact q.2 (by assumption)))]; done), rfl, rfl⟩
  · refine z_aload_n C 0 dX3_isGood_11 rfl ?_
    refine z_iload_n C 1 dX3_isGood_12 rfl ?_
    refine z_iload_n C 2 dX3_isGood_13 rfl ?_
    refine z_cV (As := [.int (iI k), .int (iI t)]) C zc_X3_standsOut (c_standsOut hX hLn k t hB (by omega) (by omega) hrd) zl_2_108 (Nat.le_of_ble_eq_true rfl) (Nat.le_of_ble_eq_true rfl) (Nat.le_of_ble_eq_true rfl) (hLn.1.1) (hLn.1.2) rfl rfl rfl rfl (Nat.le_of_ble_eq_true rfl) dX3_isGood_14 (fun z5 L6 f7 hz8 => ?_)
    obtain ⟨hz8, rfl, rfl⟩ := hz8
    subst hz8
    change ZW G pZ la eZ (zRm 3 0 0) sZ mZ aZ bZ hZ cZ AZ 3 0 0 _ L f 17 [(0, .ref w), (1, .int (iI k)), (2, .int (iI t))] [.int (iI (bI (zspk rd k t)))]
    refine z_if_ne_b C 24 dX3_isGood_17 (by decide) (fun h17 => ?_) (fun h17 => ?_)
    · refine z_iconst C dX3_isGood_24 ?_
      exact z_zreturn C (by first | omega | (unfold bI; split <;> omega)) dX3_isGood_25 (Nat.le_of_ble_eq_true rfl) (Nat.le_of_ble_eq_true rfl) ⟨by unfold bI; first | (rw [if_pos ⟨by omega, by assumption⟩]; done) | (rw [if_neg (fun q => by first | (exact absurd q.1 (by omega)) | (exact q.2 (by assumption)))]; done), rfl, rfl⟩
    · refine z_iconst C dX3_isGood_20 ?_
      refine z_goto C 25 dX3_isGood_21 (by decide) ?_
      exact z_zreturn C (by first | omega | (unfold bI; split <;> omega)) dX3_isGood_25 (Nat.le_of_ble_eq_true rfl) (Nat.le_of_ble_eq_true rfl) ⟨by unfold bI; first | (rw [if_pos ⟨by omega, by assumption⟩]; done) | (rw [if_neg (fun q => by first | (exact absurd q.1 (by omega)) | (exact q.2 (by assumption)))]; done), rfl, rfl⟩
