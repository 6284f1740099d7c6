set_option maxRecDepth 100000 in
set_option maxHeartbeats 2000000 in
theorem c_soundAll {la : Launch} {G : zG} {X : (Nat → Prop) → State → Prop} (hX : zX X) {L : List Nat} {f : Nat → va_E} {w : Nat} {μ : zMu} {l d h : Int} {r0 r1 r2 a0 a1 a2 : Nat} {s e rd : Int → Int} (hLn : zLn G L f w μ l r0 r1 r2 a0 a1 a2 s e rd) {v : Nat} {xr xa : Nat → Nat} (hS : zSea G L f v xr xa (zK μ)) (hJ : MJ (zanew μ l d h)) (hl : 0 ≤ l ∧ l < 16) (hdy : 0 ≤ d ∧ d ≤ 9) (hh : 0 ≤ h ∧ h ≤ 23) (h24 : h + (spSize (zanew μ l d h) l - 1) / 5 < 24) (hd : a0 ≠ a1 ∧ a0 ≠ a2 ∧ a1 ≠ a2) (hx : ∀ i, i < 4 → xa i ≠ a0 ∧ xa i ≠ a1) : zM la G X yX3_soundAll (.code yX3_soundAll cX3_soundAll 10 none :: zT) 4 0 0 [.ref w, .ref v, .int (iI d), .int (iI h)] L f zeV (fun _ L' f' => L = L' ∧ zLn G L f' w (spSM (zanew μ l d h) l (140 * l + 140)) l r0 r1 r2 a0 a1 a2 (zsl (spSM (zanew μ l d h) l (140 * l + 140)) l) (zel (spSM (zanew μ l d h) l (140 * l + 140)) l) rd ∧ ∀ c, c ≠ w → c ≠ a0 → c ≠ a1 → f' c = f c) := by
  refine zM_intro hX (by decide) (Nat.le_of_ble_eq_true rfl) (fun pZ eZ sZ mZ aZ bZ hZ cZ AZ C hini => ?_)
  change ZW G pZ la eZ (zRm 4 0 0) sZ mZ aZ bZ hZ cZ AZ 10 0 0 _ L f 0 [(0, .ref w), (1, .ref v), (2, .int (iI d)), (3, .int (iI h))] []
  have hNO : zNO = -2147483648 := rfl
  have hSK : zSK (zK μ) := MJ_SK (μ := zanew μ l d h) hJ
  have hB : zLB (zanew μ l d h) l := hJ.b12 l hl.1 hl.2
  have hsz : 1 ≤ spSize (zanew μ l d h) l ∧ spSize (zanew μ l d h) l ≤ 20 := zLB_sz hB
  have e16 := zanew_16 μ l d h
  have e17 := zanew_17 μ l d h
  refine z_aload_n C 0 dX3_soundAll_0 rfl ?_
  refine z_iload_n C 2 dX3_soundAll_1 rfl ?_
  refine z_putG C 5 zin_X3 tyX3_ok nmX3 hLn.1.1 hLn.1.2 rfl (Nat.le_of_ble_eq_true rfl) zl_4_17 rfl rfl rfl rfl rfl (Nat.le_of_ble_eq_true rfl) dX3_soundAll_2 (fun f1 hf2 hk3 => ?_)
  have hLn4 : zLn G L f1 w (zday μ l d) l r0 r1 r2 a0 a1 a2 s e rd := zLn_wO hLn (by rw [hf2, zday_16]; rfl) hk3
  have hS5 : zSea G L f1 v xr xa (zK μ) := zSea_wO hS hLn.1.2 (by decide) (by decide) hk3
  have hq6 : ∀ c, c ≠ w → c ≠ a0 → c ≠ a1 → f1 c = f c := fun c q0 q1 q2 => by rw [hk3 c q0]
  refine z_aload_n C 0 dX3_soundAll_5 rfl ?_
  refine z_iload_n C 3 dX3_soundAll_6 rfl ?_
  refine z_putG C 6 zin_X3 tyX3_ok nmX3 hLn4.1.1 hLn4.1.2 rfl (Nat.le_of_ble_eq_true rfl) zl_4_18 rfl rfl rfl rfl rfl (Nat.le_of_ble_eq_true rfl) dX3_soundAll_7 (fun f7 hf8 hk9 => ?_)
  have hLn10 : zLn G L f7 w (zanew μ l d h) l r0 r1 r2 a0 a1 a2 s e rd := zLn_wO hLn4 (by rw [hf8, zanew_17]; rfl) hk9
  have hS11 : zSea G L f7 v xr xa (zK μ) := zSea_wO hS5 hLn4.1.2 (by decide) (by decide) hk9
  have hq12 : ∀ c, c ≠ w → c ≠ a0 → c ≠ a1 → f7 c = f c := fun c q0 q1 q2 => by rw [hk9 c q0]; exact hq6 c q0 q1 q2
  refine z_aload_n C 0 dX3_soundAll_10 rfl ?_
  refine z_getf C 7 zin_X3 (hLn10.1.1) (hLn10.1.2) rfl (Nat.le_of_ble_eq_true rfl) zl_4_19 rfl rfl dX3_soundAll_11 ?_
  refine z_cV (As := []) C zc_X4_clear (c_clear hX (hLn10.2.1) (by decide)) zl_4_47 (Nat.le_of_ble_eq_true rfl) (Nat.le_of_ble_eq_true rfl) (Nat.le_of_ble_eq_true rfl) (hLn10.2.1.1.1) (hLn10.2.1.1.2) rfl rfl rfl rfl (Nat.le_of_ble_eq_true rfl) dX3_soundAll_14 (fun z14 L15 f16 hz17 => ?_)
  obtain ⟨rfl, hc13a, hc13k⟩ := hz17
  have hLn18 : zLn G L f16 w (zanew μ l d h) l r0 r1 r2 a0 a1 a2 (fun _ => zNO) e rd := zLn_w0 hLn10 hd.1.symm hd.2.1.symm (zA_cong hc13a (fun i q0 q1 => by rw [cN_no])) hc13k
  have hS19 : zSea G L f16 v xr xa (zK μ) := zSea_wA hS11 hLn10.2.1.2 (fun i hi => (hx i hi).1) hc13k
  have hq20 : ∀ c, c ≠ w → c ≠ a0 → c ≠ a1 → f16 c = f c := fun c q0 q1 q2 => by rw [hc13k c q1]; exact hq12 c q0 q1 q2
  change ZW G pZ la eZ (zRm 4 0 0) sZ mZ aZ bZ hZ cZ AZ 10 0 0 _ L f16 17 [(0, .ref w), (1, .ref v), (2, .int (iI d)), (3, .int (iI h))] []
  refine z_aload_n C 0 dX3_soundAll_17 rfl ?_
  refine z_getf C 8 zin_X3 (hLn18.1.1) (hLn18.1.2) rfl (Nat.le_of_ble_eq_true rfl) zl_4_20 rfl rfl dX3_soundAll_18 ?_
  refine z_cV (As := []) C zc_X4_clear (c_clear hX (hLn18.2.2.1) (by decide)) zl_4_47 (Nat.le_of_ble_eq_true rfl) (Nat.le_of_ble_eq_true rfl) (Nat.le_of_ble_eq_true rfl) (hLn18.2.2.1.1.1) (hLn18.2.2.1.1.2) rfl rfl rfl rfl (Nat.le_of_ble_eq_true rfl) dX3_soundAll_21 (fun z22 L23 f24 hz25 => ?_)
  obtain ⟨rfl, hc21a, hc21k⟩ := hz25
  have hLn26 : zLn G L f24 w (zanew μ l d h) l r0 r1 r2 a0 a1 a2 (fun _ => zNO) (fun _ => 0) rd := zLn_w1 hLn18 hd.1 hd.2.2.symm hc21a hc21k
  have hS27 : zSea G L f24 v xr xa (zK μ) := zSea_wA hS19 hLn18.2.2.1.2 (fun i hi => (hx i hi).2) hc21k
  have hq28 : ∀ c, c ≠ w → c ≠ a0 → c ≠ a1 → f24 c = f c := fun c q0 q1 q2 => by rw [hc21k c q2]; exact hq20 c q0 q1 q2
  change ZW G pZ la eZ (zRm 4 0 0) sZ mZ aZ bZ hZ cZ AZ 10 0 0 _ L f24 24 [(0, .ref w), (1, .ref v), (2, .int (iI d)), (3, .int (iI h))] []
  refine z_iconst C dX3_soundAll_24 ?_
  refine z_istore (ls' := [(4, .int (iI 0)), (0, .ref w), (1, .ref v), (2, .int (iI d)), (3, .int (iI h))]) C dX3_soundAll_25 (Nat.le_of_ble_eq_true rfl) rfl ?_
  have key27 : ∀ (n27 : Nat) (k : Int) (f9 : Nat → va_E), (0 ≤ k ∧ k ≤ spSize (zanew μ l d h) l ∧ zLn G L f9 w (zanew μ l d h) l r0 r1 r2 a0 a1 a2 (zsb (zanew μ l d h) l (7 * k)) (fun _ => 0) rd ∧ zSea G L f9 v xr xa (zK μ) ∧ ∀ c, c ≠ w → c ≠ a0 → c ≠ a1 → f9 c = f c) → spSize (zanew μ l d h) l - k < (n27 : Int) → ZW G pZ la eZ (zRm 4 0 0) sZ mZ aZ bZ hZ cZ AZ 10 0 0 (MQ bZ (zQ G zeV (fun _ L' f' => L = L' ∧ zLn G L f' w (spSM (zanew μ l d h) l (140 * l + 140)) l r0 r1 r2 a0 a1 a2 (zsl (spSM (zanew μ l d h) l (140 * l + 140)) l) (zel (spSM (zanew μ l d h) l (140 * l + 140)) l) rd ∧ ∀ c, c ≠ w → c ≠ a0 → c ≠ a1 → f' c = f c) AZ) aZ sZ 0 0 AZ) L f9 27 [(0, .ref w), (1, .ref v), (2, .int (iI d)), (3, .int (iI h)), (4, .int (iI k))] [] := by
    intro n27
    induction n27 with
    | zero => intro k f9 hi27 hn27; exfalso; omega
    | succ n27 ih27 =>
      intro k f9 hi27 hn27
      obtain ⟨hk0, hk1, hLn9, hS9, hk9⟩ := hi27
      refine z_iload C 4 dX3_soundAll_27 rfl ?_
      refine z_aload_n C 0 dX3_soundAll_29 rfl ?_
      refine z_getf C 4 zin_X3 (hLn9.1.1) (hLn9.1.2) rfl (Nat.le_of_ble_eq_true rfl) zl_4_16 rfl rfl dX3_soundAll_30 ?_
      refine z_icmp_ge C 159 dX3_soundAll_33 (by decide) (by omega) (by omega) (fun h33 => ?_) (fun h33 => ?_)
      · exact z_vreturn C dX3_soundAll_159 (Nat.le_of_ble_eq_true rfl) (Nat.le_of_ble_eq_true rfl) ⟨rfl, by rw [zsl_SM, zel_SM, ← zsb_end (zanew μ l d h) l (k := k) (by omega) (by omega)]; exact hLn9, hk9⟩
      · have how := spOn_own hJ hl (k := k) ⟨hk0, by omega⟩
        have hwr := spWater_rng hJ (c := spCol (zanew μ l d h) l k 0) (d := (zanew μ l d h) 16 l) (h := (zanew μ l d h) 17 l + k / 5) (by omega) (by omega) (by omega)
        have hrr := spReach_rng (x := (zanew μ l d h) 4 (spCell (zanew μ l d h) l k 0)) (by have q := hJ.b4 (spCell (zanew μ l d h) l k 0) (by unfold spCell; omega) (by unfold spCell; omega); exact Int.le_trans (by decide) q.1)
        refine z_aload_n C 1 dX3_soundAll_36 rfl ?_
        refine z_aload_n C 0 dX3_soundAll_37 rfl ?_
        refine z_iload C 4 dX3_soundAll_38 rfl ?_
        refine z_iconst C dX3_soundAll_40 ?_
        refine z_cV (As := [.int (iI k), .int (iI 0)]) C zc_X3_columnOf (c_columnOf hX hLn9 k 0 hB (by omega) (by omega)) zl_2_14 (Nat.le_of_ble_eq_true rfl) (Nat.le_of_ble_eq_true rfl) (Nat.le_of_ble_eq_true rfl) (hLn9.1.1) (hLn9.1.2) rfl rfl rfl rfl (Nat.le_of_ble_eq_true rfl) dX3_soundAll_41 (fun z29 L30 f31 hz32 => ?_)
        obtain ⟨hz32, rfl, rfl⟩ := hz32
        subst hz32
        change ZW G pZ la eZ (zRm 4 0 0) sZ mZ aZ bZ hZ cZ AZ 10 0 0 _ L f9 44 [(0, .ref w), (1, .ref v), (2, .int (iI d)), (3, .int (iI h)), (4, .int (iI k))] [.int (iI (spCol (zanew μ l d h) l k 0)), .ref v]
        refine z_aload_n C 0 dX3_soundAll_44 rfl ?_
        refine z_getf C 5 zin_X3 (hLn9.1.1) (hLn9.1.2) rfl (Nat.le_of_ble_eq_true rfl) zl_4_17 rfl rfl dX3_soundAll_45 ?_
        refine z_aload_n C 0 dX3_soundAll_48 rfl ?_
        refine z_iload C 4 dX3_soundAll_49 rfl ?_
        refine z_cV (As := [.int (iI k)]) C zc_X3_hourOf (c_hourOf hX hLn9 k hB (by omega)) zl_2_23 (Nat.le_of_ble_eq_true rfl) (Nat.le_of_ble_eq_true rfl) (Nat.le_of_ble_eq_true rfl) (hLn9.1.1) (hLn9.1.2) rfl rfl rfl rfl (Nat.le_of_ble_eq_true rfl) dX3_soundAll_51 (fun z33 L34 f35 hz36 => ?_)
        obtain ⟨hz36, rfl, rfl⟩ := hz36
        subst hz36
        change ZW G pZ la eZ (zRm 4 0 0) sZ mZ aZ bZ hZ cZ AZ 10 0 0 _ L f9 54 [(0, .ref w), (1, .ref v), (2, .int (iI d)), (3, .int (iI h)), (4, .int (iI k))] [.int (iI ((zanew μ l d h) 17 l + k / 5)), .int (iI ((zanew μ l d h) 16 l)), .int (iI (spCol (zanew μ l d h) l k 0)), .ref v]
        refine z_cV (As := [.int (iI (spCol (zanew μ l d h) l k 0)), .int (iI ((zanew μ l d h) 16 l)), .int (iI ((zanew μ l d h) 17 l + k / 5))]) C zc_X5_waterIn (c_waterIn hX hS9 (spCol (zanew μ l d h) l k 0) ((zanew μ l d h) 16 l) ((zanew μ l d h) 17 l + k / 5) hSK (by omega) (by omega) (by omega)) zl_4_48 (Nat.le_of_ble_eq_true rfl) (Nat.le_of_ble_eq_true rfl) (Nat.le_of_ble_eq_true rfl) (hS9.1.1) (hS9.1.2) rfl rfl rfl rfl (Nat.le_of_ble_eq_true rfl) dX3_soundAll_54 (fun z37 L38 f39 hz40 => ?_)
        obtain ⟨hz40, rfl, rfl⟩ := hz40
        subst hz40
        change ZW G pZ la eZ (zRm 4 0 0) sZ mZ aZ bZ hZ cZ AZ 10 0 0 _ L f9 57 [(0, .ref w), (1, .ref v), (2, .int (iI d)), (3, .int (iI h)), (4, .int (iI k))] [.int (iI (spWater (zanew μ l d h) (spCol (zanew μ l d h) l k 0) ((zanew μ l d h) 16 l) ((zanew μ l d h) 17 l + k / 5)))]
        refine z_nm (fun wt hwt => ?_)
        refine z_istore (ls' := [(5, .int (iI wt)), (0, .ref w), (1, .ref v), (2, .int (iI d)), (3, .int (iI h)), (4, .int (iI k))]) C dX3_soundAll_57 (Nat.le_of_ble_eq_true rfl) rfl ?_
        refine z_aload_n C 2 dX3_soundAll_59 rfl ?_
        refine z_aload_n C 1 dX3_soundAll_60 rfl ?_
        refine z_iload C 5 dX3_soundAll_61 rfl ?_
        refine z_iconst C dX3_soundAll_63 ?_
        refine z_cV (As := [.int (iI k), .int (iI 0)]) C zc_X3_columnOf (c_columnOf hX hLn9 k 0 hB (by omega) (by omega)) zl_2_14 (Nat.le_of_ble_eq_true rfl) (Nat.le_of_ble_eq_true rfl) (Nat.le_of_ble_eq_true rfl) (hLn9.1.1) (hLn9.1.2) rfl rfl rfl rfl (Nat.le_of_ble_eq_true rfl) dX3_soundAll_64 (fun z41 L42 f43 hz44 => ?_)
        obtain ⟨hz44, rfl, rfl⟩ := hz44
        subst hz44
        change ZW G pZ la eZ (zRm 4 0 0) sZ mZ aZ bZ hZ cZ AZ 10 0 0 _ L f9 67 [(5, .int (iI wt)), (0, .ref w), (1, .ref v), (2, .int (iI d)), (3, .int (iI h)), (4, .int (iI k))] [.int (iI (spCol (zanew μ l d h) l k 0)), .ref v]
        refine z_aload_n C 1 dX3_soundAll_67 rfl ?_
        refine z_iload C 5 dX3_soundAll_68 rfl ?_
        refine z_iconst C dX3_soundAll_70 ?_
        refine z_cV (As := [.int (iI k), .int (iI 0)]) C zc_X3_rowOf (c_rowOf hX hLn9 k 0 hB (by omega) (by omega)) zl_3_35 (Nat.le_of_ble_eq_true rfl) (Nat.le_of_ble_eq_true rfl) (Nat.le_of_ble_eq_true rfl) (hLn9.1.1) (hLn9.1.2) rfl rfl rfl rfl (Nat.le_of_ble_eq_true rfl) dX3_soundAll_71 (fun z45 L46 f47 hz48 => ?_)
        obtain ⟨hz48, rfl, rfl⟩ := hz48
        subst hz48
        change ZW G pZ la eZ (zRm 4 0 0) sZ mZ aZ bZ hZ cZ AZ 10 0 0 _ L f9 74 [(5, .int (iI wt)), (0, .ref w), (1, .ref v), (2, .int (iI d)), (3, .int (iI h)), (4, .int (iI k))] [.int (iI (spRow (zanew μ l d h) l k 0)), .int (iI (spCol (zanew μ l d h) l k 0)), .ref v]
        refine z_cV (As := [.int (iI (spCol (zanew μ l d h) l k 0)), .int (iI (spRow (zanew μ l d h) l k 0))]) C zc_X5_reachFrom (c_reachFrom hX hS9 (spCol (zanew μ l d h) l k 0) (spRow (zanew μ l d h) l k 0) hSK (by omega) (by omega)) zl_4_49 (Nat.le_of_ble_eq_true rfl) (Nat.le_of_ble_eq_true rfl) (Nat.le_of_ble_eq_true rfl) (hS9.1.1) (hS9.1.2) rfl rfl rfl rfl (Nat.le_of_ble_eq_true rfl) dX3_soundAll_74 (fun z49 L50 f51 hz52 => ?_)
        obtain ⟨hz52, rfl, rfl⟩ := hz52
        subst hz52
        change ZW G pZ la eZ (zRm 4 0 0) sZ mZ aZ bZ hZ cZ AZ 10 0 0 _ L f9 77 [(5, .int (iI wt)), (0, .ref w), (1, .ref v), (2, .int (iI d)), (3, .int (iI h)), (4, .int (iI k))] [.int (iI (spReach (μ 4 (20 * (spRow (zanew μ l d h) l k 0) + (spCol (zanew μ l d h) l k 0)))))]
        refine z_nm (fun rc hrc => ?_)
        refine z_istore (ls' := [(6, .int (iI rc)), (5, .int (iI wt)), (0, .ref w), (1, .ref v), (2, .int (iI d)), (3, .int (iI h)), (4, .int (iI k))]) C dX3_soundAll_77 (Nat.le_of_ble_eq_true rfl) rfl ?_
        have hrc2 : rc = spReach ((zanew μ l d h) 4 (spCell (zanew μ l d h) l k 0)) := hrc
        refine z_iload C 0 dX3_soundAll_79 rfl ?_
        refine z_ineg C dX3_soundAll_81 ?_
        refine z_nm (fun t0 ht0 => ?_)
        refine z_istore (ls' := [(7, .int (iI t0)), (6, .int (iI rc)), (5, .int (iI wt)), (0, .ref w), (1, .ref v), (2, .int (iI d)), (3, .int (iI h)), (4, .int (iI k))]) C dX3_soundAll_82 (Nat.le_of_ble_eq_true rfl) rfl ?_
        have key84 : ∀ (n84 : Nat) (t : Int) (f9 : Nat → va_E), (-rc ≤ t ∧ t ≤ rc + 1 ∧ zLn G L f9 w (zanew μ l d h) l r0 r1 r2 a0 a1 a2 (zsb (zanew μ l d h) l (7 * k + t + 3)) (fun _ => 0) rd ∧ zSea G L f9 v xr xa (zK μ) ∧ ∀ c, c ≠ w → c ≠ a0 → c ≠ a1 → f9 c = f c) → rc + 1 - t < (n84 : Int) → ZW G pZ la eZ (zRm 4 0 0) sZ mZ aZ bZ hZ cZ AZ 10 0 0 (MQ bZ (zQ G zeV (fun _ L' f' => L = L' ∧ zLn G L f' w (spSM (zanew μ l d h) l (140 * l + 140)) l r0 r1 r2 a0 a1 a2 (zsl (spSM (zanew μ l d h) l (140 * l + 140)) l) (zel (spSM (zanew μ l d h) l (140 * l + 140)) l) rd ∧ ∀ c, c ≠ w → c ≠ a0 → c ≠ a1 → f' c = f c) AZ) aZ sZ 0 0 AZ) L f9 84 [(0, .ref w), (1, .ref v), (2, .int (iI d)), (3, .int (iI h)), (4, .int (iI k)), (5, .int (iI wt)), (6, .int (iI rc)), (7, .int (iI t))] [] := by
          intro n84
          induction n84 with
          | zero => intro t f9 hi84 hn84; exfalso; omega
          | succ n84 ih84 =>
            intro t f9 hi84 hn84
            obtain ⟨ht0, ht1, hLn9, hS9, hk9⟩ := hi84
            refine z_iload C 7 dX3_soundAll_84 rfl ?_
            refine z_iload C 6 dX3_soundAll_86 rfl ?_
            refine z_icmp_gt C 153 dX3_soundAll_88 (by decide) (by omega) (by omega) (fun h88 => ?_) (fun h88 => ?_)
            · refine z_iinc (ls' := [(4, .int (iI (k + 1))), (0, .ref w), (1, .ref v), (2, .int (iI d)), (3, .int (iI h)), (5, .int (iI wt)), (6, .int (iI rc)), (7, .int (iI t))]) C 4 dX3_soundAll_153 rfl (Nat.le_of_ble_eq_true rfl) rfl ?_
              refine z_goto C 27 dX3_soundAll_156 (by decide) ?_
              refine z_perm [1, 2, 3, 4, 0] rfl ?_
              exact ih27 _ _ ⟨by omega, by omega, by rw [← zsb_right hk0 (t := t) (by omega) (by omega) (by omega)]; exact hLn9, hS9, hk9⟩ (by omega)
            · have hcr := spCol_rng hJ hl (k := k) (s := t) (by omega) (by omega)
              have hrr2 := spRow_rng hJ hl (k := k) (s := t) (by omega) (by omega)
              refine z_aload_n C 0 dX3_soundAll_91 rfl ?_
              refine z_iload C 4 dX3_soundAll_92 rfl ?_
              refine z_iload C 7 dX3_soundAll_94 rfl ?_
              refine z_cV (As := [.int (iI k), .int (iI t)]) C zc_X3_columnOf (c_columnOf hX hLn9 k t hB (by omega) (by omega)) zl_2_14 (Nat.le_of_ble_eq_true rfl) (Nat.le_of_ble_eq_true rfl) (Nat.le_of_ble_eq_true rfl) (hLn9.1.1) (hLn9.1.2) rfl rfl rfl rfl (Nat.le_of_ble_eq_true rfl) dX3_soundAll_96 (fun z53 L54 f55 hz56 => ?_)
              obtain ⟨hz56, rfl, rfl⟩ := hz56
              subst hz56
              change ZW G pZ la eZ (zRm 4 0 0) sZ mZ aZ bZ hZ cZ AZ 10 0 0 _ L f9 99 [(0, .ref w), (1, .ref v), (2, .int (iI d)), (3, .int (iI h)), (4, .int (iI k)), (5, .int (iI wt)), (6, .int (iI rc)), (7, .int (iI t))] [.int (iI (spCol (zanew μ l d h) l k t))]
              refine z_nm (fun co hco => ?_)
              refine z_istore (ls' := [(8, .int (iI co)), (0, .ref w), (1, .ref v), (2, .int (iI d)), (3, .int (iI h)), (4, .int (iI k)), (5, .int (iI wt)), (6, .int (iI rc)), (7, .int (iI t))]) C dX3_soundAll_99 (Nat.le_of_ble_eq_true rfl) rfl ?_
              refine z_aload_n C 1 dX3_soundAll_101 rfl ?_
              refine z_iload C 5 dX3_soundAll_102 rfl ?_
              refine z_iload C 8 dX3_soundAll_104 rfl ?_
              refine z_cV (As := [.int (iI k), .int (iI t)]) C zc_X3_rowOf (c_rowOf hX hLn9 k t hB (by omega) (by omega)) zl_3_35 (Nat.le_of_ble_eq_true rfl) (Nat.le_of_ble_eq_true rfl) (Nat.le_of_ble_eq_true rfl) (hLn9.1.1) (hLn9.1.2) rfl rfl rfl rfl (Nat.le_of_ble_eq_true rfl) dX3_soundAll_106 (fun z57 L58 f59 hz60 => ?_)
              obtain ⟨hz60, rfl, rfl⟩ := hz60
              subst hz60
              change ZW G pZ la eZ (zRm 4 0 0) sZ mZ aZ bZ hZ cZ AZ 10 0 0 _ L f9 109 [(8, .int (iI co)), (0, .ref w), (1, .ref v), (2, .int (iI d)), (3, .int (iI h)), (4, .int (iI k)), (5, .int (iI wt)), (6, .int (iI rc)), (7, .int (iI t))] [.int (iI (spRow (zanew μ l d h) l k t))]
              refine z_nm (fun ro hro => ?_)
              refine z_istore (ls' := [(9, .int (iI ro)), (8, .int (iI co)), (0, .ref w), (1, .ref v), (2, .int (iI d)), (3, .int (iI h)), (4, .int (iI k)), (5, .int (iI wt)), (6, .int (iI rc)), (7, .int (iI t))]) C dX3_soundAll_109 (Nat.le_of_ble_eq_true rfl) rfl ?_
              have hzc : (zOn co ro ∧ zcell co ro = 20 * ro + co) ∨ (¬ zOn co ro ∧ zcell co ro = -1) := by
                by_cases q : zOn co ro
                · exact Or.inl ⟨q, zcell_on q⟩
                · exact Or.inr ⟨q, zcell_no q⟩
              refine z_iload C 1 dX3_soundAll_111 rfl ?_
              refine z_iload C 0 dX3_soundAll_113 rfl ?_
              refine z_cSN (As := [.int (iI co), .int (iI ro)]) C zc_X6_cellNumber (c_cellNumber hX co ro (by omega) (by omega)) zn_85_RX3 (Nat.le_of_ble_eq_true rfl) (Nat.le_of_ble_eq_true rfl) (Nat.le_of_ble_eq_true rfl) rfl rfl (Nat.le_of_ble_eq_true rfl) dX3_soundAll_115 (fun z62 L63 f64 hz65 => ?_)
              obtain ⟨hz65, rfl, rfl⟩ := hz65
              subst hz65
              have hr61 := zcell_rng co ro
              change ZW G pZ la eZ (zRm 4 0 0) sZ mZ aZ bZ hZ cZ AZ 10 0 0 _ L f9 118 [(9, .int (iI ro)), (8, .int (iI co)), (0, .ref w), (1, .ref v), (2, .int (iI d)), (3, .int (iI h)), (4, .int (iI k)), (5, .int (iI wt)), (6, .int (iI rc)), (7, .int (iI t))] [.int (iI (zcell co ro))]
              refine z_if_lt C 147 dX3_soundAll_118 (by decide) (by omega) (fun h118 => ?_) (fun h118 => ?_)
              · have hon : ¬ spOn (zanew μ l d h) l k t := by unfold spOn; rw [← hco, ← hro]; omega
                refine z_iinc (ls' := [(7, .int (iI (t + 1))), (9, .int (iI ro)), (8, .int (iI co)), (0, .ref w), (1, .ref v), (2, .int (iI d)), (3, .int (iI h)), (4, .int (iI k)), (5, .int (iI wt)), (6, .int (iI rc))]) C 9 dX3_soundAll_147 rfl (Nat.le_of_ble_eq_true rfl) rfl ?_
                refine z_goto C 84 dX3_soundAll_150 (by decide) ?_
                refine z_perm [3, 4, 5, 6, 7, 8, 9, 0] rfl ?_
                exact ih84 _ _ ⟨by omega, by omega, by rw [← zsb_skip (zanew μ l d h) l (b := 7 * k + t + 3) (by omega) (fun p h0 h1 h2 => by rw [show p / 7 = k by omega, show p % 7 - 3 = t by omega]; exact spSv_far (Or.inr (Or.inl hon)))]; exact hLn9, hS9, hk9⟩ (by omega)
              · have hon : spOn (zanew μ l d h) l k t := by unfold spOn; rw [← hco, ← hro]; omega
                have hce := spOn_cell hon
                have hnear := spSv_near (μ := (zanew μ l d h)) (l := l) (k := k) (s := t) (by omega) hon (by omega)
                refine z_aload_n C 2 dX3_soundAll_121 rfl ?_
                refine z_getf C 7 zin_X3 (hLn9.1.1) (hLn9.1.2) rfl (Nat.le_of_ble_eq_true rfl) zl_4_19 rfl rfl dX3_soundAll_122 ?_
                refine z_iload C 6 dX3_soundAll_125 rfl ?_
                refine z_iload C 9 dX3_soundAll_127 rfl ?_
                refine z_cS (As := [.int (iI k), .int (iI t)]) C zc_X3_slotOf (c_slotOf hX k t (by omega) (by omega)) zl_1_190 (Nat.le_of_ble_eq_true rfl) (Nat.le_of_ble_eq_true rfl) (Nat.le_of_ble_eq_true rfl) rfl rfl (Nat.le_of_ble_eq_true rfl) dX3_soundAll_129 (fun z67 L68 f69 hz70 => ?_)
                obtain ⟨hz70, rfl, rfl⟩ := hz70
                subst hz70
                have hr66 := zslot_rng k t
                change ZW G pZ la eZ (zRm 4 0 0) sZ mZ aZ bZ hZ cZ AZ 10 0 0 _ L f9 132 [(9, .int (iI ro)), (8, .int (iI co)), (0, .ref w), (1, .ref v), (2, .int (iI d)), (3, .int (iI h)), (4, .int (iI k)), (5, .int (iI wt)), (6, .int (iI rc)), (7, .int (iI t))] [.int (iI (zslot k t)), .ref r0]
                refine z_aload_n C 3 dX3_soundAll_132 rfl ?_
                refine z_iload C 1 dX3_soundAll_133 rfl ?_
                refine z_iload C 0 dX3_soundAll_135 rfl ?_
                refine z_cV (As := [.int (iI co), .int (iI ro)]) C zc_X5_floorIn (c_floorIn hX hS9 co ro (by omega) (by omega)) zl_4_59 (Nat.le_of_ble_eq_true rfl) (Nat.le_of_ble_eq_true rfl) (Nat.le_of_ble_eq_true rfl) (hS9.1.1) (hS9.1.2) rfl rfl rfl rfl (Nat.le_of_ble_eq_true rfl) dX3_soundAll_137 (fun z71 L72 f73 hz74 => ?_)
                obtain ⟨hz74, rfl, rfl⟩ := hz74
                subst hz74
                have hfl : zrd 240 20 (zK μ 0) (zcell co ro) = (zanew μ l d h) 4 (spCell (zanew μ l d h) l k t) := by rw [zcell_on (by omega), zrd_in (by omega), hco, hro]; rfl
                have hf4 := hJ.b4 (spCell (zanew μ l d h) l k t) hce.1 hce.2
                change ZW G pZ la eZ (zRm 4 0 0) sZ mZ aZ bZ hZ cZ AZ 10 0 0 _ L f9 140 [(9, .int (iI ro)), (8, .int (iI co)), (0, .ref w), (1, .ref v), (2, .int (iI d)), (3, .int (iI h)), (4, .int (iI k)), (5, .int (iI wt)), (6, .int (iI rc)), (7, .int (iI t))] [.int (iI (zrd 240 20 (zK μ 0) (zcell co ro))), .int (iI (zslot k t)), .ref r0]
                refine z_iload C 7 dX3_soundAll_140 rfl ?_
                refine z_iadd C dX3_soundAll_142 ?_
                refine z_cV (As := [.int (iI (zslot k t)), .int (iI ((zrd 240 20 (zK μ 0) (zcell co ro)) + wt))]) C zc_X4_write (c_write hX (hLn9.2.1) (zslot k t) ((zrd 240 20 (zK μ 0) (zcell co ro)) + wt) (by decide) (by omega) (by omega)) zl_2_75 (Nat.le_of_ble_eq_true rfl) (Nat.le_of_ble_eq_true rfl) (Nat.le_of_ble_eq_true rfl) (hLn9.2.1.1.1) (hLn9.2.1.1.2) rfl rfl rfl rfl (Nat.le_of_ble_eq_true rfl) dX3_soundAll_143 (fun z76 L77 f78 hz79 => ?_)
                obtain ⟨rfl, hw75a, hw75k, hw75z⟩ := hz79
                have hLn80 : zLn G L f78 w (zanew μ l d h) l r0 r1 r2 a0 a1 a2 (zsb (zanew μ l d h) l (7 * k + (t + 1) + 3)) (fun _ => 0) rd := zLn_w0 hLn9 hd.1.symm hd.2.1.symm (by have q := hw75a; unfold zwr at q; rw [zslot_in (by omega), if_pos (by omega), cN_upd (by omega), show ((zrd 240 20 (zK μ 0) (zcell co ro)) + wt) = spSv (zanew μ l d h) l k t by omega, zsb_s _ _ (by omega) (by omega)] at q; exact q) hw75k
                have hS81 : zSea G L f78 v xr xa (zK μ) := zSea_wA hS9 hLn9.2.1.2 (fun i hi => (hx i hi).1) hw75k
                have hq82 : ∀ c, c ≠ w → c ≠ a0 → c ≠ a1 → f78 c = f c := fun c q0 q1 q2 => by rw [hw75k c q1]; exact hk9 c q0 q1 q2
                change ZW G pZ la eZ (zRm 4 0 0) sZ mZ aZ bZ hZ cZ AZ 10 0 0 _ L f78 146 [(9, .int (iI ro)), (8, .int (iI co)), (0, .ref w), (1, .ref v), (2, .int (iI d)), (3, .int (iI h)), (4, .int (iI k)), (5, .int (iI wt)), (6, .int (iI rc)), (7, .int (iI t))] [.int (iI z76)]
                refine z_pop C dX3_soundAll_146 rfl ?_
                skip
                refine z_iinc (ls' := [(7, .int (iI (t + 1))), (9, .int (iI ro)), (8, .int (iI co)), (0, .ref w), (1, .ref v), (2, .int (iI d)), (3, .int (iI h)), (4, .int (iI k)), (5, .int (iI wt)), (6, .int (iI rc))]) C 9 dX3_soundAll_147 rfl (Nat.le_of_ble_eq_true rfl) rfl ?_
                refine z_goto C 84 dX3_soundAll_150 (by decide) ?_
                refine z_perm [3, 4, 5, 6, 7, 8, 9, 0] rfl ?_
                exact ih84 _ _ ⟨by omega, by omega, by skip; exact hLn80, hS81, hq82⟩ (by omega)
        refine z_perm [3, 4, 5, 6, 7, 2, 1, 0] rfl ?_
        exact key84 2000 _ _ ⟨by omega, by omega, by rw [← zsb_left hk0 (by omega) (by omega) (by omega)]; exact hLn9, hS9, hk9⟩ (by omega)
  refine z_perm [1, 2, 3, 4, 0] rfl ?_
  exact key27 2000 _ _ ⟨by omega, by omega, by rw [zsb_0 _ _ (by omega)]; exact hLn26, hS27, hq28⟩ (by omega)
