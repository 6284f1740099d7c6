set_option maxRecDepth 100000 in
set_option maxHeartbeats 2000000 in
theorem c_reduceBy {la : Launch} {G : zG} {X : (Nat → Prop) → State → Prop} (hX : zX X) {L : List Nat} {f : Nat → va_E} {w : Nat} {μ : zMu} {l : Int} {r0 r1 r2 a0 a1 a2 : Nat} {rd : Int → Int} (hLn : zLn G L f w μ l r0 r1 r2 a0 a1 a2 (zsl μ l) (zel μ l) rd) {v : Nat} {xr xa : Nat → Nat} (hS : zSea G L f v xr xa (zK μ)) {u p : Nat} {ga gr gx : Nat → Nat} (hGs : zGs G L f u p (μ 1 0) ga gr gx (μ 8) (zfl μ)) (hI : MI μ) (hl : 0 ≤ l ∧ l < 16) (hd : a0 ≠ a2 ∧ a1 ≠ a2) (hx : ∀ i, i < 4 → xa i ≠ a2) (hgx : ∀ g : Nat, (g : Int) < μ 1 0 → gx g ≠ a2) (hrd : ∀ p, 7 * spSize μ l ≤ p → p < 140 → rd p = zNO) : zM la G X yX3_reduceBy (.code yX3_reduceBy cX3_reduceBy 7 none :: zT) 5 0 0 [.ref w, .ref u, .ref v] L f zeV (fun _ L' f' => L = L' ∧ zLn G L f' w μ l r0 r1 r2 a0 a1 a2 (zsl μ l) (zel μ l) (zrl μ l) ∧ ∀ c, c ≠ a2 → f' c = f c) := by
  refine zM_intro hX (by decide) (Nat.le_of_ble_eq_true rfl) (fun pZ eZ sZ mZ aZ bZ hZ cZ AZ C hini => ?_)
  change ZW G pZ la eZ (zRm 5 0 0) sZ mZ aZ bZ hZ cZ AZ 7 0 0 _ L f 0 [(0, .ref w), (1, .ref u), (2, .ref v)] []
  have hNO : zNO = -2147483648 := rfl
  have hSK : zSK (zK μ) := MJ_SK hI.J
  have hB : zLB μ l := hI.J.b12 l hl.1 hl.2
  have hsz := spSize_rng hI.J hl
  have hn : 0 ≤ μ 1 0 ∧ μ 1 0 ≤ 3 := ⟨hI.n.1, hI.n.2.1⟩
  have hkk : ∀ g : Int, 0 ≤ g → g < μ 1 0 → 0 ≤ μ 8 g ∧ μ 8 g ≤ 19 := fun g q0 q1 => hI.b8 g q0 (by omega)
  have h01 : ∀ g : Nat, (g : Int) < μ 1 0 → ∀ i, 0 ≤ i → i < 240 → 0 ≤ zfl μ g i ∧ zfl μ g i ≤ 1 := fun g q i q0 q1 => hI.b11 _ (by omega) (by omega)
  have hss := zsl_cr hI hl
  have hee := zel_r hI hl
  have hfr : ∀ c, c ≠ a2 → f c = f c := fun c _ => rfl
  refine z_iconst C dX3_reduceBy_0 ?_
  refine z_istore_n (ls' := [(3, .int (iI 0)), (0, .ref w), (1, .ref u), (2, .ref v)]) C dX3_reduceBy_1 (Nat.le_of_ble_eq_true rfl) rfl ?_
  have key2 : ∀ (n2 : Nat) (k : Int) (f9 : Nat → va_E), (0 ≤ k ∧ k ≤ spSize μ l ∧ zLn G L f9 w μ l r0 r1 r2 a0 a1 a2 (zsl μ l) (zel μ l) (zrb μ l (7 * k) rd) ∧ zSea G L f9 v xr xa (zK μ) ∧ zGs G L f9 u p (μ 1 0) ga gr gx (μ 8) (zfl μ) ∧ ∀ c, c ≠ a2 → f9 c = f c) → spSize μ l - k < (n2 : Int) → ZW G pZ la eZ (zRm 5 0 0) sZ mZ aZ bZ hZ cZ AZ 7 0 0 (MQ bZ (zQ G zeV (fun _ L' f' => L = L' ∧ zLn G L f' w μ l r0 r1 r2 a0 a1 a2 (zsl μ l) (zel μ l) (zrl μ l) ∧ ∀ c, c ≠ a2 → f' c = f c) AZ) aZ sZ 0 0 AZ) L f9 2 [(0, .ref w), (1, .ref u), (2, .ref v), (3, .int (iI k))] [] := by
    intro n2
    induction n2 with
    | zero => intro k f9 hi2 hn2; exfalso; omega
    | succ n2 ih2 =>
      intro k f9 hi2 hn2
      obtain ⟨hk0, hk1, hLn9, hS9, hG9, hk9⟩ := hi2
      refine z_iload_n C 3 dX3_reduceBy_2 rfl ?_
      refine z_aload_n C 0 dX3_reduceBy_3 rfl ?_
      refine z_getf C 4 zin_X3 (hLn9.1.1) (hLn9.1.2) rfl (Nat.le_of_ble_eq_true rfl) zl_4_16 rfl rfl dX3_reduceBy_4 ?_
      refine z_icmp_ge C 112 dX3_reduceBy_7 (by decide) (by omega) (by omega) (fun h7 => ?_) (fun h7 => ?_)
      · exact z_vreturn C dX3_reduceBy_112 (Nat.le_of_ble_eq_true rfl) (Nat.le_of_ble_eq_true rfl) ⟨rfl, zLn_c hLn9 (fun p _ _ => rfl) (fun p _ _ => rfl) (zrb_end (show k = spSize μ l by omega) hrd), hk9⟩
      · have how := spOn_own hI.J hl (k := k) ⟨hk0, by omega⟩
        refine z_aload_n C 1 dX3_reduceBy_10 rfl ?_
        refine z_aload_n C 2 dX3_reduceBy_11 rfl ?_
        refine z_aload_n C 0 dX3_reduceBy_12 rfl ?_
        refine z_iload_n C 3 dX3_reduceBy_13 rfl ?_
        refine z_iconst C dX3_reduceBy_14 ?_
        refine z_cV (As := [.int (iI k), .int (iI 0)]) C zc_X3_columnOf (c_columnOf hX hLn9 k 0 hB (by omega) (by omega)) zl_2_14 (Nat.le_of_ble_eq_true rfl) (Nat.le_of_ble_eq_true rfl) (Nat.le_of_ble_eq_true rfl) (hLn9.1.1) (hLn9.1.2) rfl rfl rfl rfl (Nat.le_of_ble_eq_true rfl) dX3_reduceBy_15 (fun z1 L2 f3 hz4 => ?_)
        obtain ⟨hz4, rfl, rfl⟩ := hz4
        subst hz4
        change ZW G pZ la eZ (zRm 5 0 0) sZ mZ aZ bZ hZ cZ AZ 7 0 0 _ L f9 18 [(0, .ref w), (1, .ref u), (2, .ref v), (3, .int (iI k))] [.int (iI (spCol μ l k 0)), .ref v, .ref u]
        refine z_aload_n C 0 dX3_reduceBy_18 rfl ?_
        refine z_getf C 5 zin_X3 (hLn9.1.1) (hLn9.1.2) rfl (Nat.le_of_ble_eq_true rfl) zl_4_17 rfl rfl dX3_reduceBy_19 ?_
        refine z_aload_n C 0 dX3_reduceBy_22 rfl ?_
        refine z_iload_n C 3 dX3_reduceBy_23 rfl ?_
        refine z_cV (As := [.int (iI k)]) C zc_X3_hourOf (c_hourOf hX hLn9 k hB (by omega)) zl_2_23 (Nat.le_of_ble_eq_true rfl) (Nat.le_of_ble_eq_true rfl) (Nat.le_of_ble_eq_true rfl) (hLn9.1.1) (hLn9.1.2) rfl rfl rfl rfl (Nat.le_of_ble_eq_true rfl) dX3_reduceBy_24 (fun z5 L6 f7 hz8 => ?_)
        obtain ⟨hz8, rfl, rfl⟩ := hz8
        subst hz8
        change ZW G pZ la eZ (zRm 5 0 0) sZ mZ aZ bZ hZ cZ AZ 7 0 0 _ L f9 27 [(0, .ref w), (1, .ref u), (2, .ref v), (3, .int (iI k))] [.int (iI (μ 17 l + k / 5)), .int (iI (μ 16 l)), .int (iI (spCol μ l k 0)), .ref v, .ref u]
        refine z_cV (As := [.ref v, .int (iI (spCol μ l k 0)), .int (iI (μ 16 l)), .int (iI (μ 17 l + k / 5))]) C zc_X2_tideIn (c_tideIn hX hG9 hS9 (spCol μ l k 0) (μ 16 l) (μ 17 l + k / 5) hn hkk hSK h01 (by omega) (by omega) (by omega)) zl_2_27 (Nat.le_of_ble_eq_true rfl) (Nat.le_of_ble_eq_true rfl) (Nat.le_of_ble_eq_true rfl) (hG9.1.1) (hG9.1.2) rfl rfl rfl rfl (Nat.le_of_ble_eq_true rfl) dX3_reduceBy_27 (fun tz L10 f11 htz => ?_)
        obtain ⟨htz, rfl, rfl⟩ := htz
        have htz2 : tz = cN (spTi μ l k) := by rw [gT_tide] at htz; exact htz
        have htz3 : (spTi μ l k = zNO ∧ tz = -1000000) ∨ (spTi μ l k ≠ zNO ∧ tz = spTi μ l k ∧ -10 ≤ tz ∧ tz ≤ 39) := by
          rcases spTi_rng hI hl (k := k) ⟨hk0, by omega⟩ with q | q
          · left; exact ⟨q, by rw [htz2, q]; exact cN_no⟩
          · right; rw [cN_in (by omega)] at htz2; exact ⟨by omega, htz2, by omega, by omega⟩
        change ZW G pZ la eZ (zRm 5 0 0) sZ mZ aZ bZ hZ cZ AZ 7 0 0 _ L f9 30 [(0, .ref w), (1, .ref u), (2, .ref v), (3, .int (iI k))] [.int (iI tz)]
        refine z_istore (ls' := [(4, .int (iI tz)), (0, .ref w), (1, .ref u), (2, .ref v), (3, .int (iI k))]) C dX3_reduceBy_30 (Nat.le_of_ble_eq_true rfl) rfl ?_
        refine z_bipush C dX3_reduceBy_32 (by decide) ?_
        refine z_istore (ls' := [(5, .int (iI (-3))), (4, .int (iI tz)), (0, .ref w), (1, .ref u), (2, .ref v), (3, .int (iI k))]) C dX3_reduceBy_34 (Nat.le_of_ble_eq_true rfl) rfl ?_
        have key36 : ∀ (n36 : Nat) (t : Int) (f9 : Nat → va_E), (-3 ≤ t ∧ t ≤ 4 ∧ zLn G L f9 w μ l r0 r1 r2 a0 a1 a2 (zsl μ l) (zel μ l) (zrb μ l (7 * k + t + 3) rd) ∧ zSea G L f9 v xr xa (zK μ) ∧ zGs G L f9 u p (μ 1 0) ga gr gx (μ 8) (zfl μ) ∧ ∀ c, c ≠ a2 → f9 c = f c) → 4 - t < (n36 : Int) → ZW G pZ la eZ (zRm 5 0 0) sZ mZ aZ bZ hZ cZ AZ 7 0 0 (MQ bZ (zQ G zeV (fun _ L' f' => L = L' ∧ zLn G L f' w μ l r0 r1 r2 a0 a1 a2 (zsl μ l) (zel μ l) (zrl μ l) ∧ ∀ c, c ≠ a2 → f' c = f c) AZ) aZ sZ 0 0 AZ) L f9 36 [(0, .ref w), (1, .ref u), (2, .ref v), (3, .int (iI k)), (4, .int (iI tz)), (5, .int (iI t))] [] := by
          intro n36
          induction n36 with
          | zero => intro t f9 hi36 hn36; exfalso; omega
          | succ n36 ih36 =>
            intro t f9 hi36 hn36
            obtain ⟨ht0, ht1, hLn9, hS9, hG9, hk9⟩ := hi36
            refine z_iload C 5 dX3_reduceBy_36 rfl ?_
            refine z_iconst C dX3_reduceBy_38 ?_
            refine z_icmp_gt C 106 dX3_reduceBy_39 (by decide) (by omega) (by omega) (fun h39 => ?_) (fun h39 => ?_)
            · refine z_iinc (ls' := [(3, .int (iI (k + 1))), (0, .ref w), (1, .ref u), (2, .ref v), (4, .int (iI tz)), (5, .int (iI t))]) C 3 dX3_reduceBy_106 rfl (Nat.le_of_ble_eq_true rfl) rfl ?_
              refine z_goto C 2 dX3_reduceBy_109 (by decide) ?_
              refine z_perm [1, 2, 3, 0] rfl ?_
              exact ih2 _ _ ⟨by omega, by omega, by rw [show 7 * (k + 1) = 7 * k + t + 3 by omega]; exact hLn9, hS9, hG9, hk9⟩ (by omega)
            · have J64 : ∀ (y : Int)   (hj64 : y = 0 ∧ cN (spRed μ l k t) = -1000000 ∨ y = 1 ∧ zls (zsl μ l) k t ≠ zNO ∧ spTi μ l k ≠ zNO), ZW G pZ la eZ (zRm 5 0 0) sZ mZ aZ bZ hZ cZ AZ 7 0 0 (MQ bZ (zQ G zeV (fun _ L' f' => L = L' ∧ zLn G L f' w μ l r0 r1 r2 a0 a1 a2 (zsl μ l) (zel μ l) (zrl μ l) ∧ ∀ c, c ≠ a2 → f' c = f c) AZ) aZ sZ 0 0 AZ) L f9 64 [(0, .ref w), (1, .ref u), (2, .ref v), (3, .int (iI k)), (4, .int (iI tz)), (5, .int (iI t))] [.int (iI y)] := by
                intro y   hj64
                have hy := hj64
                have hrv := zred_v (μ := μ) (l := l) (k := k) (t := t) ⟨hk0, by omega⟩ (by omega) ⟨by omega, by omega⟩
                have hrr := spRed_rng hI k hl (s := t) (by omega)
                have hcn : (spRed μ l k t = zNO ∧ cN (spRed μ l k t) = -1000000) ∨ (-108 ≤ spRed μ l k t ∧ spRed μ l k t ≤ 208 ∧ spRed μ l k t ≠ zNO ∧ cN (spRed μ l k t) = spRed μ l k t) := cN_cs hrr
                have hzs := zls_cr hss k t
                have hze := hee (7 * k + t + 3)
                refine z_istore (ls' := [(6, .int (iI y)), (0, .ref w), (1, .ref u), (2, .ref v), (3, .int (iI k)), (4, .int (iI tz)), (5, .int (iI t))]) C dX3_reduceBy_64 (Nat.le_of_ble_eq_true rfl) rfl ?_
                refine z_aload_n C 1 dX3_reduceBy_66 rfl ?_
                refine z_getf C 9 zin_X3 (hLn9.1.1) (hLn9.1.2) rfl (Nat.le_of_ble_eq_true rfl) zl_4_21 rfl rfl dX3_reduceBy_67 ?_
                refine z_iload_n C 4 dX3_reduceBy_70 rfl ?_
                refine z_iload C 6 dX3_reduceBy_71 rfl ?_
                refine z_cS (As := [.int (iI k), .int (iI t)]) C zc_X3_slotOf (c_slotOf hX k t (by omega) (by omega)) zl_1_190 (Nat.le_of_ble_eq_true rfl) (Nat.le_of_ble_eq_true rfl) (Nat.le_of_ble_eq_true rfl) rfl rfl (Nat.le_of_ble_eq_true rfl) dX3_reduceBy_73 (fun z13 L14 f15 hz16 => ?_)
                obtain ⟨hz16, rfl, rfl⟩ := hz16
                subst hz16
                have hr12 := zslot_rng k t
                change ZW G pZ la eZ (zRm 5 0 0) sZ mZ aZ bZ hZ cZ AZ 7 0 0 _ L f9 76 [(6, .int (iI y)), (0, .ref w), (1, .ref u), (2, .ref v), (3, .int (iI k)), (4, .int (iI tz)), (5, .int (iI t))] [.int (iI (zslot k t)), .ref r2]
                refine z_iload C 0 dX3_reduceBy_76 rfl ?_
                refine z_if_eq C 94 dX3_reduceBy_78 (by decide) (by omega) (fun h78 => ?_) (fun h78 => ?_)
                · refine z_ldc (n := (-1000000)) C zl_1_194 rfl dX3_reduceBy_94 ?_
                  refine z_cV (As := [.int (iI (zslot k t)), .int (iI (-1000000))]) C zc_X4_write (c_write hX (hLn9.2.2.2) (zslot k t) (-1000000) (by decide) (by omega) (by omega)) zl_2_75 (Nat.le_of_ble_eq_true rfl) (Nat.le_of_ble_eq_true rfl) (Nat.le_of_ble_eq_true rfl) (hLn9.2.2.2.1.1) (hLn9.2.2.2.1.2) rfl rfl rfl rfl (Nat.le_of_ble_eq_true rfl) dX3_reduceBy_96 (fun z18 L19 f20 hz21 => ?_)
                  obtain ⟨rfl, hw17a, hw17k, hw17z⟩ := hz21
                  have hLn22 : zLn G L f20 w μ l r0 r1 r2 a0 a1 a2 (zsl μ l) (zel μ l) (zrb μ l (7 * k + (t + 1) + 3) rd) := zLn_w2 hLn9 hd.1 hd.2 (by have q := hw17a; unfold zwr at q; rw [zslot_in (by omega), if_pos (by omega), show (-1000000) = cN (spRed μ l k t) by omega, cN_upc, zrb_s _ _ hk0 (by omega)] at q; exact q) hw17k
                  have hS23 : zSea G L f20 v xr xa (zK μ) := zSea_wA hS9 hLn9.2.2.2.2 hx hw17k
                  have hG24 : zGs G L f20 u p (μ 1 0) ga gr gx (μ 8) (zfl μ) := zGs_wA hG9 hLn9.2.2.2.2 hgx hw17k
                  have hq25 : ∀ c, c ≠ a2 → f20 c = f c := fun c q0 => by rw [hw17k c q0]; exact hk9 c q0
                  change ZW G pZ la eZ (zRm 5 0 0) sZ mZ aZ bZ hZ cZ AZ 7 0 0 _ L f20 99 [(6, .int (iI y)), (0, .ref w), (1, .ref u), (2, .ref v), (3, .int (iI k)), (4, .int (iI tz)), (5, .int (iI t))] [.int (iI z18)]
                  refine z_pop C dX3_reduceBy_99 rfl ?_
                  refine z_iinc (ls' := [(5, .int (iI (t + 1))), (6, .int (iI y)), (0, .ref w), (1, .ref u), (2, .ref v), (3, .int (iI k)), (4, .int (iI tz))]) C 6 dX3_reduceBy_100 rfl (Nat.le_of_ble_eq_true rfl) rfl ?_
                  refine z_goto C 36 dX3_reduceBy_103 (by decide) ?_
                  refine z_perm [2, 3, 4, 5, 6, 0] rfl ?_
                  exact ih36 _ _ ⟨by omega, by omega, hLn22, hS23, hG24, hq25⟩ (by omega)
                · refine z_aload_n C 1 dX3_reduceBy_81 rfl ?_
                  refine z_iload_n C 4 dX3_reduceBy_82 rfl ?_
                  refine z_iload C 6 dX3_reduceBy_83 rfl ?_
                  refine z_cV (As := [.int (iI k), .int (iI t)]) C zc_X3_soundingAt (c_soundingAt hX hLn9 k t hB ⟨hk0, by omega, by omega, by omega⟩ hss hee (by omega)) zl_2_71 (Nat.le_of_ble_eq_true rfl) (Nat.le_of_ble_eq_true rfl) (Nat.le_of_ble_eq_true rfl) (hLn9.1.1) (hLn9.1.2) rfl rfl rfl rfl (Nat.le_of_ble_eq_true rfl) dX3_reduceBy_85 (fun z26 L27 f28 hz29 => ?_)
                  obtain ⟨hz29, rfl, rfl⟩ := hz29
                  subst hz29
                  change ZW G pZ la eZ (zRm 5 0 0) sZ mZ aZ bZ hZ cZ AZ 7 0 0 _ L f9 88 [(6, .int (iI y)), (0, .ref w), (1, .ref u), (2, .ref v), (3, .int (iI k)), (4, .int (iI tz)), (5, .int (iI t))] [.int (iI (zls (zsl μ l) k t + zel μ l (7 * k + t + 3))), .int (iI (zslot k t)), .ref r2]
                  refine z_iload C 5 dX3_reduceBy_88 rfl ?_
                  refine z_isub C dX3_reduceBy_90 ?_
                  refine z_goto C 96 dX3_reduceBy_91 (by decide) ?_
                  refine z_cV (As := [.int (iI (zslot k t)), .int (iI ((zls (zsl μ l) k t + zel μ l (7 * k + t + 3)) - tz))]) C zc_X4_write (c_write hX (hLn9.2.2.2) (zslot k t) ((zls (zsl μ l) k t + zel μ l (7 * k + t + 3)) - tz) (by decide) (by omega) (by omega)) zl_2_75 (Nat.le_of_ble_eq_true rfl) (Nat.le_of_ble_eq_true rfl) (Nat.le_of_ble_eq_true rfl) (hLn9.2.2.2.1.1) (hLn9.2.2.2.1.2) rfl rfl rfl rfl (Nat.le_of_ble_eq_true rfl) dX3_reduceBy_96 (fun z31 L32 f33 hz34 => ?_)
                  obtain ⟨rfl, hw30a, hw30k, hw30z⟩ := hz34
                  have hLn35 : zLn G L f33 w μ l r0 r1 r2 a0 a1 a2 (zsl μ l) (zel μ l) (zrb μ l (7 * k + (t + 1) + 3) rd) := zLn_w2 hLn9 hd.1 hd.2 (by have q := hw30a; unfold zwr at q; rw [zslot_in (by omega), if_pos (by omega), show ((zls (zsl μ l) k t + zel μ l (7 * k + t + 3)) - tz) = cN (spRed μ l k t) by omega, cN_upc, zrb_s _ _ hk0 (by omega)] at q; exact q) hw30k
                  have hS36 : zSea G L f33 v xr xa (zK μ) := zSea_wA hS9 hLn9.2.2.2.2 hx hw30k
                  have hG37 : zGs G L f33 u p (μ 1 0) ga gr gx (μ 8) (zfl μ) := zGs_wA hG9 hLn9.2.2.2.2 hgx hw30k
                  have hq38 : ∀ c, c ≠ a2 → f33 c = f c := fun c q0 => by rw [hw30k c q0]; exact hk9 c q0
                  change ZW G pZ la eZ (zRm 5 0 0) sZ mZ aZ bZ hZ cZ AZ 7 0 0 _ L f33 99 [(6, .int (iI y)), (0, .ref w), (1, .ref u), (2, .ref v), (3, .int (iI k)), (4, .int (iI tz)), (5, .int (iI t))] [.int (iI z31)]
                  refine z_pop C dX3_reduceBy_99 rfl ?_
                  refine z_iinc (ls' := [(5, .int (iI (t + 1))), (6, .int (iI y)), (0, .ref w), (1, .ref u), (2, .ref v), (3, .int (iI k)), (4, .int (iI tz))]) C 6 dX3_reduceBy_100 rfl (Nat.le_of_ble_eq_true rfl) rfl ?_
                  refine z_goto C 36 dX3_reduceBy_103 (by decide) ?_
                  refine z_perm [2, 3, 4, 5, 6, 0] rfl ?_
                  exact ih36 _ _ ⟨by omega, by omega, hLn35, hS36, hG37, hq38⟩ (by omega)
              have hrv := zred_v (μ := μ) (l := l) (k := k) (t := t) ⟨hk0, by omega⟩ (by omega) ⟨by omega, by omega⟩
              have hrr := spRed_rng hI k hl (s := t) (by omega)
              have hcn : (spRed μ l k t = zNO ∧ cN (spRed μ l k t) = -1000000) ∨ (-108 ≤ spRed μ l k t ∧ spRed μ l k t ≤ 208 ∧ spRed μ l k t ≠ zNO ∧ cN (spRed μ l k t) = spRed μ l k t) := cN_cs hrr
              have hzs := zls_cr hss k t
              have hze := hee (7 * k + t + 3)
              refine z_iload C 4 dX3_reduceBy_42 rfl ?_
              refine z_ldc (n := (-1000000)) C zl_1_194 rfl dX3_reduceBy_44 ?_
              refine z_icmp_eq C 63 dX3_reduceBy_46 (by decide) (by omega) (by omega) (fun h46 => ?_) (fun h46 => ?_)
              · refine z_iconst C dX3_reduceBy_63 ?_
                refine z_perm [0, 1, 2, 3, 4, 5] rfl ?_
                exact J64 _  (by omega)
              · refine z_aload_n C 0 dX3_reduceBy_49 rfl ?_
                refine z_iload_n C 3 dX3_reduceBy_50 rfl ?_
                refine z_iload C 5 dX3_reduceBy_51 rfl ?_
                refine z_cV (As := [.int (iI k), .int (iI t)]) C zc_X3_hasSounded (c_hasSounded hX hLn9 k t hB (by omega) (by omega) hss) zl_1_186 (Nat.le_of_ble_eq_true rfl) (Nat.le_of_ble_eq_true rfl) (Nat.le_of_ble_eq_true rfl) (hLn9.1.1) (hLn9.1.2) rfl rfl rfl rfl (Nat.le_of_ble_eq_true rfl) dX3_reduceBy_53 (fun z39 L40 f41 hz42 => ?_)
                obtain ⟨hz42, rfl, rfl⟩ := hz42
                subst hz42
                change ZW G pZ la eZ (zRm 5 0 0) sZ mZ aZ bZ hZ cZ AZ 7 0 0 _ L f9 56 [(0, .ref w), (1, .ref u), (2, .ref v), (3, .int (iI k)), (4, .int (iI tz)), (5, .int (iI t))] [.int (iI (bI (zls (zsl μ l) k t ≠ zNO)))]
                refine z_if_eq_b C 63 dX3_reduceBy_56 (by decide) (fun h56 => ?_) (fun h56 => ?_)
                · refine z_iconst C dX3_reduceBy_63 ?_
                  refine z_perm [0, 1, 2, 3, 4, 5] rfl ?_
                  exact J64 _  (by omega)
                · refine z_iconst C dX3_reduceBy_59 ?_
                  refine z_goto C 64 dX3_reduceBy_60 (by decide) ?_
                  refine z_perm [0, 1, 2, 3, 4, 5] rfl ?_
                  exact J64 _  (by omega)
        refine z_perm [2, 3, 4, 5, 1, 0] rfl ?_
        exact key36 2000 _ _ ⟨by omega, by omega, by rw [show 7 * k + -3 + 3 = 7 * k by omega]; exact hLn9, hS9, hG9, hk9⟩ (by omega)
  refine z_perm [1, 2, 3, 0] rfl ?_
  exact key2 2000 _ _ ⟨by omega, by omega, by rw [zrb_0 _ _ (by omega)]; exact hLn, hS, hGs, hfr⟩ (by omega)

set_option maxRecDepth 100000 in
set_option maxHeartbeats 2000000 in
theorem c_drawOn {la : Launch} {G : zG} {X : (Nat → Prop) → State → Prop} (hX : zX X) {L : List Nat} {f : Nat → va_E} {w : Nat} {μ : zMu} {l : Int} {r0 r1 r2 a0 a1 a2 : Nat} (hLn : zLn G L f w μ l r0 r1 r2 a0 a1 a2 (zsl μ l) (zel μ l) (zrl μ l)) {v r a : Nat} {u : Int → Int} (hC : zCh G L f v r a u) (hI : MI μ) (hK : MK μ) (hl2 : 0 ≤ l ∧ l < μ 2 0) (hd : a0 ≠ a ∧ a1 ≠ a ∧ a2 ≠ a) (hu : zCr u) : zM la G X yX3_drawOn (.code yX3_drawOn cX3_drawOn 4 none :: zT) 4 0 0 [.ref w, .ref v] L f zeV (fun _ L' f' => L = L' ∧ zCh G L f' v r a (spC2 μ l (spSize μ l).toNat u) ∧ ∀ c, c ≠ a → f' c = f c) := by
  refine zM_intro hX (by decide) (Nat.le_of_ble_eq_true rfl) (fun pZ eZ sZ mZ aZ bZ hZ cZ AZ C hini => ?_)
  change ZW G pZ la eZ (zRm 4 0 0) sZ mZ aZ bZ hZ cZ AZ 4 0 0 _ L f 0 [(0, .ref w), (1, .ref v)] []
  have hNO : zNO = -2147483648 := rfl
  have hl : 0 ≤ l ∧ l < 16 := ⟨hl2.1, by have := hI.n; omega⟩
  have hB : zLB μ l := hI.J.b12 l hl.1 hl.2
  have hsz := spSize_rng hI.J hl
  have hrd := zrl_cr hI hl
  have hfr : ∀ c, c ≠ a → f c = f c := fun c _ => rfl
  refine z_iconst C dX3_drawOn_0 ?_
  refine z_istore_n (ls' := [(2, .int (iI 0)), (0, .ref w), (1, .ref v)]) C dX3_drawOn_1 (Nat.le_of_ble_eq_true rfl) rfl ?_
  have key2 : ∀ (n2 : Nat) (k : Int) (f9 : Nat → va_E), (0 ≤ k ∧ k ≤ spSize μ l ∧ zLn G L f9 w μ l r0 r1 r2 a0 a1 a2 (zsl μ l) (zel μ l) (zrl μ l) ∧ zCh G L f9 v r a (spC2 μ l k.toNat u) ∧ ∀ c, c ≠ a → f9 c = f c) → spSize μ l - k < (n2 : Int) → ZW G pZ la eZ (zRm 4 0 0) sZ mZ aZ bZ hZ cZ AZ 4 0 0 (MQ bZ (zQ G zeV (fun _ L' f' => L = L' ∧ zCh G L f' v r a (spC2 μ l (spSize μ l).toNat u) ∧ ∀ c, c ≠ a → f' c = f c) AZ) aZ sZ 0 0 AZ) L f9 2 [(0, .ref w), (1, .ref v), (2, .int (iI k))] [] := by
    intro n2
    induction n2 with
    | zero => intro k f9 hi2 hn2; exfalso; omega
    | succ n2 ih2 =>
      intro k f9 hi2 hn2
      obtain ⟨hk0, hk1, hLn9, hC9, hk9⟩ := hi2
      refine z_iload_n C 2 dX3_drawOn_2 rfl ?_
      refine z_aload_n C 0 dX3_drawOn_3 rfl ?_
      refine z_getf C 4 zin_X3 (hLn9.1.1) (hLn9.1.2) rfl (Nat.le_of_ble_eq_true rfl) zl_4_16 rfl rfl dX3_drawOn_4 ?_
      refine z_icmp_ge C 61 dX3_drawOn_7 (by decide) (by omega) (by omega) (fun h7 => ?_) (fun h7 => ?_)
      · exact z_vreturn C dX3_drawOn_61 (Nat.le_of_ble_eq_true rfl) (Nat.le_of_ble_eq_true rfl) ⟨rfl, by rw [show spSize μ l = k by omega]; exact hC9, hk9⟩
      · refine z_bipush C dX3_drawOn_10 (by decide) ?_
        refine z_istore_n (ls' := [(3, .int (iI (-3))), (0, .ref w), (1, .ref v), (2, .int (iI k))]) C dX3_drawOn_12 (Nat.le_of_ble_eq_true rfl) rfl ?_
        have key13 : ∀ (n13 : Nat) (t : Int) (f9 : Nat → va_E), (-3 ≤ t ∧ t ≤ 4 ∧ zLn G L f9 w μ l r0 r1 r2 a0 a1 a2 (zsl μ l) (zel μ l) (zrl μ l) ∧ zCh G L f9 v r a (spC3 μ l k (t + 3).toNat (spC2 μ l k.toNat u)) ∧ ∀ c, c ≠ a → f9 c = f c) → 4 - t < (n13 : Int) → ZW G pZ la eZ (zRm 4 0 0) sZ mZ aZ bZ hZ cZ AZ 4 0 0 (MQ bZ (zQ G zeV (fun _ L' f' => L = L' ∧ zCh G L f' v r a (spC2 μ l (spSize μ l).toNat u) ∧ ∀ c, c ≠ a → f' c = f c) AZ) aZ sZ 0 0 AZ) L f9 13 [(0, .ref w), (1, .ref v), (2, .int (iI k)), (3, .int (iI t))] [] := by
          intro n13
          induction n13 with
          | zero => intro t f9 hi13 hn13; exfalso; omega
          | succ n13 ih13 =>
            intro t f9 hi13 hn13
            obtain ⟨ht0, ht1, hLn9, hC9, hk9⟩ := hi13
            refine z_iload_n C 3 dX3_drawOn_13 rfl ?_
            refine z_iconst C dX3_drawOn_14 ?_
            refine z_icmp_gt C 55 dX3_drawOn_15 (by decide) (by omega) (by omega) (fun h15 => ?_) (fun h15 => ?_)
            · refine z_iinc (ls' := [(2, .int (iI (k + 1))), (0, .ref w), (1, .ref v), (3, .int (iI t))]) C 2 dX3_drawOn_55 rfl (Nat.le_of_ble_eq_true rfl) rfl ?_
              refine z_goto C 2 dX3_drawOn_58 (by decide) ?_
              refine z_perm [1, 2, 0] rfl ?_
              exact ih2 _ _ ⟨by omega, by omega, hLn9, by rw [spC2_s _ _ hk0, show 7 = (t + 3).toNat by omega]; exact hC9, hk9⟩ (by omega)
            · refine z_aload_n C 0 dX3_drawOn_18 rfl ?_
              refine z_iload_n C 2 dX3_drawOn_19 rfl ?_
              refine z_iload_n C 3 dX3_drawOn_20 rfl ?_
              refine z_cV (As := [.int (iI k), .int (iI t)]) C zc_X3_isGood (c_isGood hX hLn9 k t hB (by omega) (by omega) hrd) zl_2_104 (Nat.le_of_ble_eq_true rfl) (Nat.le_of_ble_eq_true rfl) (Nat.le_of_ble_eq_true rfl) (hLn9.1.1) (hLn9.1.2) rfl rfl rfl rfl (Nat.le_of_ble_eq_true rfl) dX3_drawOn_21 (fun z1 L2 f3 hz4 => ?_)
              obtain ⟨hz4, rfl, rfl⟩ := hz4
              subst hz4
              change ZW G pZ la eZ (zRm 4 0 0) sZ mZ aZ bZ hZ cZ AZ 4 0 0 _ L f9 24 [(0, .ref w), (1, .ref v), (2, .int (iI k)), (3, .int (iI t))] [.int (iI (bI (zgood2 (zrl μ l) k t)))]
              refine z_if_eq_b C 49 dX3_drawOn_24 (by decide) (fun h24 => ?_) (fun h24 => ?_)
              · refine z_iinc (ls' := [(3, .int (iI (t + 1))), (0, .ref w), (1, .ref v), (2, .int (iI k))]) C 3 dX3_drawOn_49 rfl (Nat.le_of_ble_eq_true rfl) rfl ?_
                refine z_goto C 13 dX3_drawOn_52 (by decide) ?_
                refine z_perm [1, 2, 3, 0] rfl ?_
                exact ih13 _ _ ⟨by omega, by omega, hLn9, by rw [show t + 1 + 3 = t + 3 + 1 by omega, spC3_s _ _ _ (by omega), show t + 3 - 3 = t by omega]; unfold spCu; rw [if_pos (by by_cases z : spRed μ l k t = zNO; exact Or.inl z; right; exact Classical.not_not.mp (fun z2 => h24 ((zgood_iff ⟨by omega, hsz.2.1⟩ k ⟨by omega, by omega⟩).mpr ⟨z, z2⟩)))]; exact hC9, hk9⟩ (by omega)
              · have hgd := (zgood_iff (μ := μ) (l := l) ⟨by omega, hsz.2.1⟩ k (t := t) ⟨by omega, by omega⟩).mp h24
                have hon := (hK l k t hl2.1 hl2.2 hk0 (by omega) (by omega) (by omega) (spRed_has hgd.1).2.2).2
                unfold spOn at hon
                have hrr := (spRed_rng hI k hl (s := t) (by omega)).resolve_left hgd.1
                have hu9 : zCr (spC3 μ l k (t + 3).toNat (spC2 μ l k.toNat u)) := spC3_r hI hl (by omega) (spC2_r hI hl _ hu)
                refine z_aload_n C 1 dX3_drawOn_27 rfl ?_
                refine z_aload_n C 0 dX3_drawOn_28 rfl ?_
                refine z_iload_n C 2 dX3_drawOn_29 rfl ?_
                refine z_iload_n C 3 dX3_drawOn_30 rfl ?_
                refine z_cV (As := [.int (iI k), .int (iI t)]) C zc_X3_columnOf (c_columnOf hX hLn9 k t hB (by omega) (by omega)) zl_2_14 (Nat.le_of_ble_eq_true rfl) (Nat.le_of_ble_eq_true rfl) (Nat.le_of_ble_eq_true rfl) (hLn9.1.1) (hLn9.1.2) rfl rfl rfl rfl (Nat.le_of_ble_eq_true rfl) dX3_drawOn_31 (fun z5 L6 f7 hz8 => ?_)
                obtain ⟨hz8, rfl, rfl⟩ := hz8
                subst hz8
                change ZW G pZ la eZ (zRm 4 0 0) sZ mZ aZ bZ hZ cZ AZ 4 0 0 _ L f9 34 [(0, .ref w), (1, .ref v), (2, .int (iI k)), (3, .int (iI t))] [.int (iI (spCol μ l k t)), .ref v]
                refine z_aload_n C 0 dX3_drawOn_34 rfl ?_
                refine z_iload_n C 2 dX3_drawOn_35 rfl ?_
                refine z_iload_n C 3 dX3_drawOn_36 rfl ?_
                refine z_cV (As := [.int (iI k), .int (iI t)]) C zc_X3_rowOf (c_rowOf hX hLn9 k t hB (by omega) (by omega)) zl_3_35 (Nat.le_of_ble_eq_true rfl) (Nat.le_of_ble_eq_true rfl) (Nat.le_of_ble_eq_true rfl) (hLn9.1.1) (hLn9.1.2) rfl rfl rfl rfl (Nat.le_of_ble_eq_true rfl) dX3_drawOn_37 (fun z9 L10 f11 hz12 => ?_)
                obtain ⟨hz12, rfl, rfl⟩ := hz12
                subst hz12
                change ZW G pZ la eZ (zRm 4 0 0) sZ mZ aZ bZ hZ cZ AZ 4 0 0 _ L f9 40 [(0, .ref w), (1, .ref v), (2, .int (iI k)), (3, .int (iI t))] [.int (iI (spRow μ l k t)), .int (iI (spCol μ l k t)), .ref v]
                refine z_aload_n C 0 dX3_drawOn_40 rfl ?_
                refine z_iload_n C 2 dX3_drawOn_41 rfl ?_
                refine z_iload_n C 3 dX3_drawOn_42 rfl ?_
                refine z_cV (As := [.int (iI k), .int (iI t)]) C zc_X3_reducedAt (c_reducedAt hX hLn9 k t hB (by omega) (by omega)) zl_1_195 (Nat.le_of_ble_eq_true rfl) (Nat.le_of_ble_eq_true rfl) (Nat.le_of_ble_eq_true rfl) (hLn9.1.1) (hLn9.1.2) rfl rfl rfl rfl (Nat.le_of_ble_eq_true rfl) dX3_drawOn_43 (fun z13 L14 f15 hz16 => ?_)
                obtain ⟨hz16, rfl, rfl⟩ := hz16
                subst hz16
                have hzr := zls_zrl (μ := μ) (l := l) ⟨by omega, hsz.2.1⟩ k (t := t) (by omega)
                have hcn : cN (zls (zrl μ l) k t) = spRed μ l k t := by rw [hzr]; exact cN_in (by omega)
                change ZW G pZ la eZ (zRm 4 0 0) sZ mZ aZ bZ hZ cZ AZ 4 0 0 _ L f9 46 [(0, .ref w), (1, .ref v), (2, .int (iI k)), (3, .int (iI t))] [.int (iI (cN (zls (zrl μ l) k t))), .int (iI (spRow μ l k t)), .int (iI (spCol μ l k t)), .ref v]
                refine z_cV (As := [.int (iI (spCol μ l k t)), .int (iI (spRow μ l k t)), .int (iI (cN (zls (zrl μ l) k t)))]) C zc_X0_lower (c_lower hX hC9 (spCol μ l k t) (spRow μ l k t) (cN (zls (zrl μ l) k t)) hu9 (by unfold zOn; omega) (by omega)) zl_3_39 (Nat.le_of_ble_eq_true rfl) (Nat.le_of_ble_eq_true rfl) (Nat.le_of_ble_eq_true rfl) (hC9.1.1) (hC9.1.2) rfl rfl rfl rfl (Nat.le_of_ble_eq_true rfl) dX3_drawOn_46 (fun z18 L19 f20 hz21 => ?_)
                obtain ⟨rfl, hw17a, hw17k⟩ := hz21
                have hLn22 : zLn G L f20 w μ l r0 r1 r2 a0 a1 a2 (zsl μ l) (zel μ l) (zrl μ l) := zLn_wA hLn9 hC9.2.2 hd.1 hd.2.1 hd.2.2 hw17k
                have hC23 : zCh G L f20 v r a (spC3 μ l k (t + 1 + 3).toNat (spC2 μ l k.toNat u)) := zCh_w hC9 (by rw [show t + 1 + 3 = t + 3 + 1 by omega, spC3_s _ _ _ (by omega), show t + 3 - 3 = t by omega]; unfold spCu; rw [if_neg (fun z => by rcases z with z | z; exact hgd.1 z; exact hgd.2 z)]; have q := hw17a; rw [hcn] at q; exact q) hw17k
                have hq24 : ∀ c, c ≠ a → f20 c = f c := fun c q0 => by rw [hw17k c q0]; exact hk9 c q0
                change ZW G pZ la eZ (zRm 4 0 0) sZ mZ aZ bZ hZ cZ AZ 4 0 0 _ L f20 49 [(0, .ref w), (1, .ref v), (2, .int (iI k)), (3, .int (iI t))] []
                refine z_iinc (ls' := [(3, .int (iI (t + 1))), (0, .ref w), (1, .ref v), (2, .int (iI k))]) C 3 dX3_drawOn_49 rfl (Nat.le_of_ble_eq_true rfl) rfl ?_
                refine z_goto C 13 dX3_drawOn_52 (by decide) ?_
                refine z_perm [1, 2, 3, 0] rfl ?_
                exact ih13 _ _ ⟨by omega, by omega, hLn22, by skip; exact hC23, hq24⟩ (by omega)
        refine z_perm [1, 2, 3, 0] rfl ?_
        exact key13 2000 _ _ ⟨by omega, by omega, hLn9, hC9, hk9⟩ (by omega)
  refine z_perm [1, 2, 0] rfl ?_
  exact key2 2000 _ _ ⟨by omega, by omega, hLn, hC, hfr⟩ (by omega)
