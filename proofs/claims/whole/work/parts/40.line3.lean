set_option maxRecDepth 100000 in
set_option maxHeartbeats 200000 in
theorem c_putError {la : Launch} {G : zG} {X : (Nat → Prop) → State → Prop} (hX : zX X) {L : List Nat} {f : Nat → va_E} {w : Nat} {μ : zMu} {l : Int} {r0 r1 r2 a0 a1 a2 : Nat} {s e rd : Int → Int} (hLn : zLn G L f w μ l r0 r1 r2 a0 a1 a2 s e rd) (k t x : Int) (hB : zLB μ l) (hk : -1000 ≤ k ∧ k ≤ 1000) (ht : -1000 ≤ t ∧ t ≤ 1000) (hx : zR x) : zM la G X yX3_putError (.code yX3_putError cX3_putError 4 (some .int) :: zT) 2 0 0 [.ref w, .int (iI k), .int (iI t), .int (iI x)] L f zeI (fun z L' f' => L = L' ∧ zA G 0 L f' a1 140 (zwr 140 e (zslot k t) x) ∧ (∀ c, c ≠ a1 → f' c = f c) ∧ z = zrd 140 0 e (zslot k t)) := by
  refine zM_intro hX (by decide) (Nat.le_of_ble_eq_true rfl) (fun pZ eZ sZ mZ aZ bZ hZ cZ AZ C hini => ?_)
  change ZW G pZ la eZ (zRm 2 0 0) sZ mZ aZ bZ hZ cZ AZ 4 0 0 _ L f 0 [(0, .ref w), (1, .int (iI k)), (2, .int (iI t)), (3, .int (iI x))] []
  have hNO : zNO = -2147483648 := rfl
  have hsz := zLB_sz hB
  
  refine z_aload_n C 0 dX3_putError_0 rfl ?_
  refine z_getf C 8 zin_X3 (hLn.1.1) (hLn.1.2) rfl (Nat.le_of_ble_eq_true rfl) zl_4_20 rfl rfl dX3_putError_1 ?_
  refine z_iload_n C 1 dX3_putError_4 rfl ?_
  refine z_iload_n C 2 dX3_putError_5 rfl ?_
  refine z_cS (As := [.int (iI k), .int (iI t)]) C zc_X3_slotOf (c_slotOf hX k t (by omega) (by omega)) zl_1_190 (Nat.le_of_ble_eq_true rfl) (Nat.le_of_ble_eq_true rfl) (Nat.le_of_ble_eq_true rfl) rfl rfl (Nat.le_of_ble_eq_true rfl) dX3_putError_6 (fun z2 L3 f4 hz5 => ?_)
  obtain ⟨hz5, rfl, rfl⟩ := hz5
  subst hz5
  have hr1 := zslot_rng k t
  change ZW G pZ la eZ (zRm 2 0 0) sZ mZ aZ bZ hZ cZ AZ 4 0 0 _ L f 9 [(0, .ref w), (1, .int (iI k)), (2, .int (iI t)), (3, .int (iI x))] [.int (iI (zslot k t)), .ref r1]
  refine z_iload_n C 3 dX3_putError_9 rfl ?_
  refine z_cV (As := [.int (iI (zslot k t)), .int (iI x)]) C zc_X4_write (c_write hX (hLn.2.2.1) (zslot k t) x (by decide) (by omega) (by omega)) zl_2_75 (Nat.le_of_ble_eq_true rfl) (Nat.le_of_ble_eq_true rfl) (Nat.le_of_ble_eq_true rfl) (hLn.2.2.1.1.1) (hLn.2.2.1.1.2) rfl rfl rfl rfl (Nat.le_of_ble_eq_true rfl) dX3_putError_10 (fun z7 L8 f9 hz10 => ?_)
  obtain ⟨rfl, hw6a, hw6k, hw6z⟩ := hz10
  change ZW G pZ la eZ (zRm 2 0 0) sZ mZ aZ bZ hZ cZ AZ 4 0 0 _ L f9 13 [(0, .ref w), (1, .int (iI k)), (2, .int (iI t)), (3, .int (iI x))] [.int (iI z7)]
  exact z_ireturn C dX3_putError_13 (Nat.le_of_ble_eq_true rfl) (Nat.le_of_ble_eq_true rfl) ⟨rfl, hw6a, hw6k, hw6z⟩

set_option maxRecDepth 100000 in
set_option maxHeartbeats 200000 in
theorem c_soundingAt {la : Launch} {G : zG} {X : (Nat → Prop) → State → Prop} (hX : zX X) {L : List Nat} {f : Nat → va_E} {w : Nat} {μ : zMu} {l : Int} {r0 r1 r2 a0 a1 a2 : Nat} {s e rd : Int → Int} (hLn : zLn G L f w μ l r0 r1 r2 a0 a1 a2 s e rd) (k t : Int) (hB : zLB μ l) (hin : 0 ≤ k ∧ k ≤ 19 ∧ -3 ≤ t ∧ t ≤ 3) (hss : zCr s) (he : ∀ p, -60 ≤ e p ∧ e p ≤ 60) (hno : zls s k t ≠ zNO) : zM la G X yX3_soundingAt (.code yX3_soundingAt cX3_soundingAt 4 (some .int) :: zT) 1 0 0 [.ref w, .int (iI k), .int (iI t)] L f zeI (zRd L f (fun z => z = zls s k t + e (7 * k + t + 3))) := by
  refine zM_intro hX (by decide) (Nat.le_of_ble_eq_true rfl) (fun pZ eZ sZ mZ aZ bZ hZ cZ AZ C hini => ?_)
  change ZW G pZ la eZ (zRm 1 0 0) sZ mZ aZ bZ hZ cZ AZ 4 0 0 _ L f 0 [(0, .ref w), (1, .int (iI k)), (2, .int (iI t))] []
  have hNO : zNO = -2147483648 := rfl
  have hsz := zLB_sz hB
  
  refine z_iload_n C 1 dX3_soundingAt_0 rfl ?_
  refine z_iload_n C 2 dX3_soundingAt_1 rfl ?_
  refine z_cS (As := [.int (iI k), .int (iI t)]) C zc_X3_slotOf (c_slotOf hX k t (by omega) (by omega)) zl_1_190 (Nat.le_of_ble_eq_true rfl) (Nat.le_of_ble_eq_true rfl) (Nat.le_of_ble_eq_true rfl) rfl rfl (Nat.le_of_ble_eq_true rfl) dX3_soundingAt_2 (fun z2 L3 f4 hz5 => ?_)
  obtain ⟨hz5, rfl, rfl⟩ := hz5
  subst hz5
  have hr1 := zslot_rng k t
  change ZW G pZ la eZ (zRm 1 0 0) sZ mZ aZ bZ hZ cZ AZ 4 0 0 _ L f 5 [(0, .ref w), (1, .int (iI k)), (2, .int (iI t))] [.int (iI (zslot k t))]
  refine z_istore_n (ls' := [(3, .int (iI (zslot k t))), (0, .ref w), (1, .int (iI k)), (2, .int (iI t))]) C dX3_soundingAt_5 (Nat.le_of_ble_eq_true rfl) rfl ?_
  refine z_aload_n C 1 dX3_soundingAt_6 rfl ?_
  refine z_getf C 7 zin_X3 (hLn.1.1) (hLn.1.2) rfl (Nat.le_of_ble_eq_true rfl) zl_4_19 rfl rfl dX3_soundingAt_7 ?_
  refine z_iload_n C 0 dX3_soundingAt_10 rfl ?_
  refine z_cV (As := [.int (iI (zslot k t))]) C zc_X4_read (c_read hX (hLn.2.1) (zslot k t) (by decide) (by omega)) zl_1_193 (Nat.le_of_ble_eq_true rfl) (Nat.le_of_ble_eq_true rfl) (Nat.le_of_ble_eq_true rfl) (hLn.2.1.1.1) (hLn.2.1.1.2) rfl rfl rfl rfl (Nat.le_of_ble_eq_true rfl) dX3_soundingAt_11 (fun z6 L7 f8 hz9 => ?_)
  obtain ⟨hz9, rfl, rfl⟩ := hz9
  subst hz9
  have hv0 : zrd 140 (-1000000) (fun p => cN (s p)) (zslot k t) = cN (zls s k t) := zrd_slot s k t
  have hcs := cN_cs (zls_cr hss k t)
  change ZW G pZ la eZ (zRm 1 0 0) sZ mZ aZ bZ hZ cZ AZ 4 0 0 _ L f 14 [(3, .int (iI (zslot k t))), (0, .ref w), (1, .int (iI k)), (2, .int (iI t))] [.int (iI (zrd 140 (-1000000) (fun p => cN (s p)) (zslot k t)))]
  refine z_aload_n C 1 dX3_soundingAt_14 rfl ?_
  refine z_getf C 8 zin_X3 (hLn.1.1) (hLn.1.2) rfl (Nat.le_of_ble_eq_true rfl) zl_4_20 rfl rfl dX3_soundingAt_15 ?_
  refine z_iload_n C 0 dX3_soundingAt_18 rfl ?_
  refine z_cV (As := [.int (iI (zslot k t))]) C zc_X4_read (c_read hX (hLn.2.2.1) (zslot k t) (by decide) (by omega)) zl_1_193 (Nat.le_of_ble_eq_true rfl) (Nat.le_of_ble_eq_true rfl) (Nat.le_of_ble_eq_true rfl) (hLn.2.2.1.1.1) (hLn.2.2.1.1.2) rfl rfl rfl rfl (Nat.le_of_ble_eq_true rfl) dX3_soundingAt_19 (fun z10 L11 f12 hz13 => ?_)
  obtain ⟨hz13, rfl, rfl⟩ := hz13
  subst hz13
  have hv1 : zrd 140 0 e (zslot k t) = e (7 * k + t + 3) := by rw [show (zslot k t) = 7 * k + t + 3 from if_pos hin]; exact zrd_in (by omega)
  have hev := he (7 * k + t + 3)
  change ZW G pZ la eZ (zRm 1 0 0) sZ mZ aZ bZ hZ cZ AZ 4 0 0 _ L f 22 [(3, .int (iI (zslot k t))), (0, .ref w), (1, .int (iI k)), (2, .int (iI t))] [.int (iI (zrd 140 0 e (zslot k t))), .int (iI (zrd 140 (-1000000) (fun p => cN (s p)) (zslot k t)))]
  refine z_iadd C dX3_soundingAt_22 ?_
  exact z_ireturn C dX3_soundingAt_23 (Nat.le_of_ble_eq_true rfl) (Nat.le_of_ble_eq_true rfl) ⟨by omega, rfl, rfl⟩
