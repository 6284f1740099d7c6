set_option maxRecDepth 100000 in
set_option maxHeartbeats 1000000 in
theorem c_X7_gains {la : Launch} {G : zG} {X : (Nat → Prop) → State → Prop} (hX : zX X) {L : List Nat} {f : Nat → va_E} {o : Nat} {ad : Nat → Nat} {μ : zMu} {t : Int} {u v : Int → Int} (hM : MR G L f o ad μ t u v) (hI : MI μ) (r : Int) (hr : 0 ≤ r ∧ r ≤ 11) (hu : ∀ i : Int, 0 ≤ i → i < 240 → -2147483648 ≤ u i ∧ u i ≤ 208) : zM la G X yX7_gains (.code yX7_gains cX7_gains 7 (some .int) :: zT) 2 0 0 [.ref o, .int (iI r)] L f zeI (fun z L' f' => L = L' ∧ ∃ v', MR G L f' o ad μ t u v' ∧ z = spGain μ u r) := by
  refine zM_intro hX (by decide) (Nat.le_of_ble_eq_true rfl) (fun pZ eZ sZ mZ aZ bZ hZ cZ AZ C hini => ?_)
  change ZW G pZ la eZ (zRm 2 0 0) sZ mZ aZ bZ hZ cZ AZ 7 0 0 _ L f 0 [(0, .ref o), (1, .int (iI r))] []
  have hn9 := hI.n
  have hNO : zNO = -2147483648 := rfl
  
  refine z_iconst C dX7_gains_0 ?_
  refine z_istore_n (ls' := [(2, .int (iI 0)), (0, .ref o), (1, .int (iI r))]) C dX7_gains_1 (Nat.le_of_ble_eq_true rfl) rfl ?_
  have key2 : ∀ (n2 : Nat) (c : Int) (f6 : Nat → va_E), (0 ≤ c ∧ c ≤ 240 ∧ MR G L f6 o ad μ t u (zfill v 0 c 0)) → 240 - c < (n2 : Int) → ZW G pZ la eZ (zRm 2 0 0) sZ mZ aZ bZ hZ cZ AZ 7 0 0 (MQ bZ (zQ G zeI (fun z L' f' => L = L' ∧ ∃ v', MR G L f' o ad μ t u v' ∧ z = spGain μ u r) AZ) aZ sZ 0 0 AZ) L f6 2 [(0, .ref o), (1, .int (iI r)), (2, .int (iI c))] [] := by
    intro n2
    induction n2 with
    | zero => intro c f6 hi2 hn2; exfalso; omega
    | succ n2 ih2 =>
      intro c f6 hi2 hn2
      obtain ⟨hc0, hc1, hM6⟩ := hi2
      refine z_iload_n C 2 dX7_gains_2 rfl ?_
      refine z_sipush C dX7_gains_3 (by decide) ?_
      refine z_icmp_ge C 22 dX7_gains_6 (by decide) (by omega) (by omega) (fun h6 => ?_) (fun h6 => ?_)
      · refine z_iconst C dX7_gains_22 ?_
        refine z_istore_n (ls' := [(2, .int (iI 0)), (0, .ref o), (1, .int (iI r))]) C dX7_gains_23 (Nat.le_of_ble_eq_true rfl) rfl ?_
        refine z_iconst C dX7_gains_24 ?_
        refine z_istore_n (ls' := [(3, .int (iI 0)), (2, .int (iI 0)), (0, .ref o), (1, .int (iI r))]) C dX7_gains_25 (Nat.le_of_ble_eq_true rfl) rfl ?_
        have key26 : ∀ (n26 : Nat) (m : Int) (c : Int) (f7 : Nat → va_E) (v7 : Int → Int), (0 ≤ c ∧ c ≤ 20 ∧ m = zsum (fun c => zsum (spGs μ u r c) 7) c.toNat ∧ zVs v7 r c (-3) ∧ MR G L f7 o ad μ t u v7) → 20 - c < (n26 : Int) → ZW G pZ la eZ (zRm 2 0 0) sZ mZ aZ bZ hZ cZ AZ 7 0 0 (MQ bZ (zQ G zeI (fun z L' f' => L = L' ∧ ∃ v', MR G L f' o ad μ t u v' ∧ z = spGain μ u r) AZ) aZ sZ 0 0 AZ) L f7 26 [(0, .ref o), (1, .int (iI r)), (2, .int (iI m)), (3, .int (iI c))] [] := by
          intro n26
          induction n26 with
          | zero => intro m c f7 v7 hi26 hn26; exfalso; omega
          | succ n26 ih26 =>
            intro m c f7 v7 hi26 hn26
            obtain ⟨hc0, hc1, hm, hVs, hM7⟩ := hi26
            refine z_iload_n C 3 dX7_gains_26 rfl ?_
            refine z_bipush C dX7_gains_27 (by decide) ?_
            refine z_icmp_ge C 154 dX7_gains_29 (by decide) (by omega) (by omega) (fun h29 => ?_) (fun h29 => ?_)
            · refine z_iload_n C 2 dX7_gains_154 rfl ?_
              exact z_ireturn C dX7_gains_155 (Nat.le_of_ble_eq_true rfl) (Nat.le_of_ble_eq_true rfl) ⟨rfl, _, hM7, by rw [hm, show c.toNat = 20 by omega]; rfl⟩
            · refine z_bipush C dX7_gains_32 (by decide) ?_
              refine z_istore (ls' := [(4, .int (iI (-3))), (0, .ref o), (1, .int (iI r)), (2, .int (iI m)), (3, .int (iI c))]) C dX7_gains_34 (Nat.le_of_ble_eq_true rfl) rfl ?_
              have key36 : ∀ (n36 : Nat) (m2 : Int) (s : Int) (f8 : Nat → va_E) (v8 : Int → Int), (-3 ≤ s ∧ s ≤ 4 ∧ m2 = zsum (fun c => zsum (spGs μ u r c) 7) c.toNat + zsum (spGs μ u r c) (s + 3).toNat ∧ zVs v8 r c s ∧ MR G L f8 o ad μ t u v8) → 4 - s < (n36 : Int) → ZW G pZ la eZ (zRm 2 0 0) sZ mZ aZ bZ hZ cZ AZ 7 0 0 (MQ bZ (zQ G zeI (fun z L' f' => L = L' ∧ ∃ v', MR G L f' o ad μ t u v' ∧ z = spGain μ u r) AZ) aZ sZ 0 0 AZ) L f8 36 [(0, .ref o), (1, .int (iI r)), (2, .int (iI m2)), (3, .int (iI c)), (4, .int (iI s))] [] := by
                intro n36
                induction n36 with
                | zero => intro m2 s f8 v8 hi36 hn36; exfalso; omega
                | succ n36 ih36 =>
                  intro m2 s f8 v8 hi36 hn36
                  obtain ⟨hs0, hs1, hm2, hVs, hM8⟩ := hi36
                  refine z_iload C 4 dX7_gains_36 rfl ?_
                  refine z_iconst C dX7_gains_38 ?_
                  refine z_icmp_gt C 148 dX7_gains_39 (by decide) (by omega) (by omega) (fun h39 => ?_) (fun h39 => ?_)
                  · refine z_iinc (ls' := [(3, .int (iI (c + 1))), (0, .ref o), (1, .int (iI r)), (2, .int (iI m2)), (4, .int (iI s))]) C 3 dX7_gains_148 rfl (Nat.le_of_ble_eq_true rfl) rfl ?_
                    refine z_goto C 26 dX7_gains_151 (by decide) ?_
                    refine z_perm [1, 2, 3, 0] rfl ?_
                    exact ih26 _ _ _ _ ⟨by omega, by omega, by rw [zsum_s _ hc0, hm2, show (s + 3).toNat = 7 by omega], zVs_c hVs (by omega), hM8⟩ (by omega)
                  · have J55 : ∀ (ab : Int)   (hj55 : (s < 0 ∧ ab = -s) ∨ (0 ≤ s ∧ ab = s)), ZW G pZ la eZ (zRm 2 0 0) sZ mZ aZ bZ hZ cZ AZ 7 0 0 (MQ bZ (zQ G zeI (fun z L' f' => L = L' ∧ ∃ v', MR G L f' o ad μ t u v' ∧ z = spGain μ u r) AZ) aZ sZ 0 0 AZ) L f8 55 [(0, .ref o), (1, .int (iI r)), (2, .int (iI m2)), (3, .int (iI c)), (4, .int (iI s))] [.int (iI ab)] := by
                      intro ab   hj55
                      have hab := hj55
                      refine z_istore (ls' := [(5, .int (iI ab)), (0, .ref o), (1, .int (iI r)), (2, .int (iI m2)), (3, .int (iI c)), (4, .int (iI s))]) C dX7_gains_55 (Nat.le_of_ble_eq_true rfl) rfl ?_
                      refine z_bipush C dX7_gains_57 (by decide) ?_
                      refine z_iload_n C 2 dX7_gains_59 rfl ?_
                      refine z_iload C 5 dX7_gains_60 rfl ?_
                      refine z_iadd C dX7_gains_62 ?_
                      refine z_imul C dX7_gains_63 ?_
                      refine z_iload_n C 4 dX7_gains_64 rfl ?_
                      refine z_iadd C dX7_gains_65 ?_
                      refine z_nm (fun px hpx => ?_)
                      refine z_istore (ls' := [(6, .int (iI px)), (5, .int (iI ab)), (0, .ref o), (1, .int (iI r)), (2, .int (iI m2)), (3, .int (iI c)), (4, .int (iI s))]) C dX7_gains_66 (Nat.le_of_ble_eq_true rfl) rfl ?_
                      refine z_iload C 1 dX7_gains_68 rfl ?_
                      refine z_aload_n C 2 dX7_gains_70 rfl ?_
                      refine z_getf C 4 zin_X7 (hM8.1.1) (hM8.1.2) rfl (Nat.le_of_ble_eq_true rfl) zl_6_102 rfl rfl dX7_gains_71 ?_
                      refine z_bipush C dX7_gains_74 (by decide) ?_
                      refine z_iload_n C 3 dX7_gains_76 rfl ?_
                      refine z_imul C dX7_gains_77 ?_
                      refine z_iload_n C 5 dX7_gains_78 rfl ?_
                      refine z_iadd C dX7_gains_79 ?_
                      refine z_iald C (MR_a4 hM8) (by omega) (by omega) (by omega) dX7_gains_80 ?_
                      have hb1 := hI.J.b4 ((20 * r) + c) (by omega) (by omega)
                      refine z_cS (As := [.int (iI ((μ 4) ((20 * r) + c)))]) C zc_X7_reach (c_X7_reach hX ((μ 4) ((20 * r) + c)) (by omega)) zl_7_54 (Nat.le_of_ble_eq_true rfl) (Nat.le_of_ble_eq_true rfl) (Nat.le_of_ble_eq_true rfl) rfl rfl (Nat.le_of_ble_eq_true rfl) dX7_gains_81 (fun z3 L4 f5 hz6 => ?_)
                      obtain ⟨hz6, rfl, rfl⟩ := hz6
                      subst hz6
                      have hr2 := spReach_rng (x := ((μ 4) ((20 * r) + c))) (by omega)
                      change ZW G pZ la eZ (zRm 2 0 0) sZ mZ aZ bZ hZ cZ AZ 7 0 0 _ L f8 84 [(6, .int (iI px)), (5, .int (iI ab)), (0, .ref o), (1, .int (iI r)), (2, .int (iI m2)), (3, .int (iI c)), (4, .int (iI s))] [.int (iI (spReach ((μ 4) ((20 * r) + c)))), .int (iI ab)]
                      refine z_icmp_gt C 142 dX7_gains_84 (by decide) (by omega) (by omega) (fun h84 => ?_) (fun h84 => ?_)
                      · refine z_iinc (ls' := [(4, .int (iI (s + 1))), (6, .int (iI px)), (5, .int (iI ab)), (0, .ref o), (1, .int (iI r)), (2, .int (iI m2)), (3, .int (iI c))]) C 6 dX7_gains_142 rfl (Nat.le_of_ble_eq_true rfl) rfl ?_
                        refine z_goto C 36 dX7_gains_145 (by decide) ?_
                        refine z_perm [3, 4, 5, 6, 0] rfl ?_
                        exact ih36 _ _ _ _ ⟨by omega, by omega, by rw [spGs_s _ _ _ _ (by omega)]; first | (rw [bI_1 (by refine ⟨by omega, by omega, by first | assumption | (rw [show 20 * (r + s) + c = px by omega]; omega)⟩)]; omega) | (rw [bI_0 (by intro z; have z1 := z.1; have z2 := z.2.1; have z3 := z.2.2; first | omega | (rw [show 20 * (r + s) + c = px by omega] at z3; omega))]; omega), zVs_s hVs, hM8⟩ (by omega)
                      · refine z_iload_n C 3 dX7_gains_87 rfl ?_
                        refine z_iload C 6 dX7_gains_88 rfl ?_
                        refine z_iadd C dX7_gains_90 ?_
                        refine z_iconst C dX7_gains_91 ?_
                        refine z_bipush C dX7_gains_92 (by decide) ?_
                        refine z_cS (As := [.int (iI (r + s)), .int (iI 0), .int (iI 11)]) C zc_X7_isIn (c_X7_isIn hX (r + s) 0 11 (by omega) (by omega) (by omega)) zl_6_176 (Nat.le_of_ble_eq_true rfl) (Nat.le_of_ble_eq_true rfl) (Nat.le_of_ble_eq_true rfl) rfl rfl (Nat.le_of_ble_eq_true rfl) dX7_gains_94 (fun z7 L8 f9 hz10 => ?_)
                        obtain ⟨hz10, rfl, rfl⟩ := hz10
                        subst hz10
                        change ZW G pZ la eZ (zRm 2 0 0) sZ mZ aZ bZ hZ cZ AZ 7 0 0 _ L f8 97 [(6, .int (iI px)), (5, .int (iI ab)), (0, .ref o), (1, .int (iI r)), (2, .int (iI m2)), (3, .int (iI c)), (4, .int (iI s))] [.int (iI (bI (0 ≤ r + s ∧ r + s ≤ 11)))]
                        refine z_if_eq_b C 142 dX7_gains_97 (by decide) (fun h97 => ?_) (fun h97 => ?_)
                        · refine z_iinc (ls' := [(4, .int (iI (s + 1))), (6, .int (iI px)), (5, .int (iI ab)), (0, .ref o), (1, .int (iI r)), (2, .int (iI m2)), (3, .int (iI c))]) C 6 dX7_gains_142 rfl (Nat.le_of_ble_eq_true rfl) rfl ?_
                          refine z_goto C 36 dX7_gains_145 (by decide) ?_
                          refine z_perm [3, 4, 5, 6, 0] rfl ?_
                          exact ih36 _ _ _ _ ⟨by omega, by omega, by rw [spGs_s _ _ _ _ (by omega)]; first | (rw [bI_1 (by refine ⟨by omega, by omega, by first | assumption | (rw [show 20 * (r + s) + c = px by omega]; omega)⟩)]; omega) | (rw [bI_0 (by intro z; have z1 := z.1; have z2 := z.2.1; have z3 := z.2.2; first | omega | (rw [show 20 * (r + s) + c = px by omega] at z3; omega))]; omega), zVs_s hVs, hM8⟩ (by omega)
                        · refine z_aload_n C 2 dX7_gains_100 rfl ?_
                          refine z_getf C 10 zin_X7 (hM8.1.1) (hM8.1.2) rfl (Nat.le_of_ble_eq_true rfl) zl_6_108 rfl rfl dX7_gains_101 ?_
                          refine z_iload C 0 dX7_gains_104 rfl ?_
                          refine z_iald C (MR_a10 hM8) (by omega) (by omega) (by omega) dX7_gains_106 ?_
                          have hb11 := hVs px (by omega) (by omega)
                          refine z_iconst C dX7_gains_107 ?_
                          refine z_icmp_ne C 114 dX7_gains_108 (by decide) (by omega) (by omega) (fun h108 => ?_) (fun h108 => ?_)
                          · refine z_aload_n C 2 dX7_gains_114 rfl ?_
                            refine z_getf C 10 zin_X7 (hM8.1.1) (hM8.1.2) rfl (Nat.le_of_ble_eq_true rfl) zl_6_108 rfl rfl dX7_gains_115 ?_
                            refine z_iload C 0 dX7_gains_118 rfl ?_
                            refine z_iconst C dX7_gains_120 ?_
                            refine z_iast C (MR_a10 hM8) (by omega) (by omega) (by omega) dX7_gains_121 (fun f12 ha13 hk14 => ?_)
                            have hM15 := MR_w10 hM8 ha13 hk14
                            refine z_iload_n C 4 dX7_gains_122 rfl ?_
                            refine z_aload_n C 2 dX7_gains_123 rfl ?_
                            refine z_getf C 9 zin_X7 (hM15.1.1) (hM15.1.2) rfl (Nat.le_of_ble_eq_true rfl) zl_6_107 rfl rfl dX7_gains_124 ?_
                            refine z_iload C 0 dX7_gains_127 rfl ?_
                            refine z_iald C (MR_a9 hM15) (by omega) (by omega) (by omega) dX7_gains_129 ?_
                            have hb16 := hu px (by omega) (by omega)
                            refine z_ldc (n := (-2147483648)) C zl_7_2 rfl dX7_gains_130 ?_
                            refine z_icmp_ne C 139 dX7_gains_132 (by decide) (by omega) (by omega) (fun h132 => ?_) (fun h132 => ?_)
                            · refine z_iconst C dX7_gains_139 ?_
                              refine z_iadd C dX7_gains_140 ?_
                              refine z_nm (fun x17 hx17 => ?_)
                              refine z_istore_n (ls' := [(2, .int (iI x17)), (6, .int (iI px)), (5, .int (iI ab)), (0, .ref o), (1, .int (iI r)), (3, .int (iI c)), (4, .int (iI s))]) C dX7_gains_141 (Nat.le_of_ble_eq_true rfl) rfl ?_
                              refine z_iinc (ls' := [(4, .int (iI (s + 1))), (2, .int (iI x17)), (6, .int (iI px)), (5, .int (iI ab)), (0, .ref o), (1, .int (iI r)), (3, .int (iI c))]) C 6 dX7_gains_142 rfl (Nat.le_of_ble_eq_true rfl) rfl ?_
                              refine z_goto C 36 dX7_gains_145 (by decide) ?_
                              refine z_perm [4, 5, 1, 6, 0] rfl ?_
                              exact ih36 _ _ _ _ ⟨by omega, by omega, by rw [spGs_s _ _ _ _ (by omega)]; first | (rw [bI_1 (by refine ⟨by omega, by omega, by first | assumption | (rw [show 20 * (r + s) + c = px by omega]; omega)⟩)]; omega) | (rw [bI_0 (by intro z; have z1 := z.1; have z2 := z.2.1; have z3 := z.2.2; first | omega | (rw [show 20 * (r + s) + c = px by omega] at z3; omega))]; omega), zVs_w hVs (by omega) (by omega), hM15⟩ (by omega)
                            · refine z_iconst C dX7_gains_135 ?_
                              refine z_goto C 140 dX7_gains_136 (by decide) ?_
                              refine z_iadd C dX7_gains_140 ?_
                              refine z_nm (fun x18 hx18 => ?_)
                              refine z_istore_n (ls' := [(2, .int (iI x18)), (6, .int (iI px)), (5, .int (iI ab)), (0, .ref o), (1, .int (iI r)), (3, .int (iI c)), (4, .int (iI s))]) C dX7_gains_141 (Nat.le_of_ble_eq_true rfl) rfl ?_
                              refine z_iinc (ls' := [(4, .int (iI (s + 1))), (2, .int (iI x18)), (6, .int (iI px)), (5, .int (iI ab)), (0, .ref o), (1, .int (iI r)), (3, .int (iI c))]) C 6 dX7_gains_142 rfl (Nat.le_of_ble_eq_true rfl) rfl ?_
                              refine z_goto C 36 dX7_gains_145 (by decide) ?_
                              refine z_perm [4, 5, 1, 6, 0] rfl ?_
                              exact ih36 _ _ _ _ ⟨by omega, by omega, by rw [spGs_s _ _ _ _ (by omega)]; first | (rw [bI_1 (by refine ⟨by omega, by omega, by first | assumption | (rw [show 20 * (r + s) + c = px by omega]; omega)⟩)]; omega) | (rw [bI_0 (by intro z; have z1 := z.1; have z2 := z.2.1; have z3 := z.2.2; first | omega | (rw [show 20 * (r + s) + c = px by omega] at z3; omega))]; omega), zVs_w hVs (by omega) (by omega), hM15⟩ (by omega)
                          · refine z_goto C 142 dX7_gains_111 (by decide) ?_
                            refine z_iinc (ls' := [(4, .int (iI (s + 1))), (6, .int (iI px)), (5, .int (iI ab)), (0, .ref o), (1, .int (iI r)), (2, .int (iI m2)), (3, .int (iI c))]) C 6 dX7_gains_142 rfl (Nat.le_of_ble_eq_true rfl) rfl ?_
                            refine z_goto C 36 dX7_gains_145 (by decide) ?_
                            refine z_perm [3, 4, 5, 6, 0] rfl ?_
                            exact ih36 _ _ _ _ ⟨by omega, by omega, by rw [spGs_s _ _ _ _ (by omega)]; first | (rw [bI_1 (by refine ⟨by omega, by omega, by first | assumption | (rw [show 20 * (r + s) + c = px by omega]; omega)⟩)]; omega) | (rw [bI_0 (by intro z; have z1 := z.1; have z2 := z.2.1; have z3 := z.2.2; first | omega | (rw [show 20 * (r + s) + c = px by omega] at z3; omega))]; omega), zVs_s hVs, hM8⟩ (by omega)
                    have rg1 := spGss_rng μ u r c.toNat
                    have rg2 := spGs_rng μ u r c (s + 3).toNat
                    refine z_iload C 4 dX7_gains_42 rfl ?_
                    refine z_if_ge C 53 dX7_gains_44 (by decide) (by omega) (fun h44 => ?_) (fun h44 => ?_)
                    · refine z_iload C 4 dX7_gains_53 rfl ?_
                      refine z_perm [0, 1, 2, 3, 4] rfl ?_
                      exact J55 _  (by omega)
                    · refine z_iload C 4 dX7_gains_47 rfl ?_
                      refine z_ineg C dX7_gains_49 ?_
                      refine z_goto C 55 dX7_gains_50 (by decide) ?_
                      refine z_perm [0, 1, 2, 3, 4] rfl ?_
                      exact J55 _  (by omega)
              refine z_perm [1, 2, 3, 4, 0] rfl ?_
              exact key36 2000 _ _ _ _ ⟨by omega, by omega, by rw [hm]; exact (Int.add_zero _).symm, hVs, hM7⟩ (by omega)
        refine z_perm [2, 3, 1, 0] rfl ?_
        exact key26 2000 _ _ _ _ ⟨by omega, by omega, rfl, zVs_0 (by omega), hM6⟩ (by omega)
      · refine z_aload_n C 0 dX7_gains_9 rfl ?_
        refine z_getf C 10 zin_X7 (hM6.1.1) (hM6.1.2) rfl (Nat.le_of_ble_eq_true rfl) zl_6_108 rfl rfl dX7_gains_10 ?_
        refine z_iload_n C 2 dX7_gains_13 rfl ?_
        refine z_iconst C dX7_gains_14 ?_
        refine z_iast C (MR_a10 hM6) (by omega) (by omega) (by omega) dX7_gains_15 (fun f19 ha20 hk21 => ?_)
        have hM22 := MR_w10 hM6 ha20 hk21
        refine z_iinc (ls' := [(2, .int (iI (c + 1))), (0, .ref o), (1, .int (iI r))]) C 2 dX7_gains_16 rfl (Nat.le_of_ble_eq_true rfl) rfl ?_
        refine z_goto C 2 dX7_gains_19 (by decide) ?_
        refine z_perm [1, 2, 0] rfl ?_
        exact ih2 _ _ ⟨by omega, by omega, by have q := hM22; rw [← zfill_1 _ (by omega)]; exact q⟩ (by omega)
  refine z_perm [1, 2, 0] rfl ?_
  exact key2 2000 _ _ ⟨by omega, by omega, by rw [zfill_0]; exact hM⟩ (by omega)

set_option maxRecDepth 100000 in
set_option maxHeartbeats 400000 in
theorem c_X7_bestRow {la : Launch} {G : zG} {X : (Nat → Prop) → State → Prop} (hX : zX X) {L : List Nat} {f : Nat → va_E} {o : Nat} {ad : Nat → Nat} {μ : zMu} {t : Int} {u v : Int → Int} (hM : MR G L f o ad μ t u v) (hI : MI μ)  (hK : MK μ) : zM la G X yX7_bestRow (.code yX7_bestRow cX7_bestRow 3 (some .int) :: zT) 9 0 0 [.ref o] L f zeI (fun z L' f' => L = L' ∧ ∃ t' μ' u' v', MR G L f' o ad μ' t' u' v' ∧ o_bestRow μ = (t', if t' = 0 then z else 0, μ')) := by
  refine zM_intro hX (by decide) (Nat.le_of_ble_eq_true rfl) (fun pZ eZ sZ mZ aZ bZ hZ cZ AZ C hini => ?_)
  change ZW G pZ la eZ (zRm 9 0 0) sZ mZ aZ bZ hZ cZ AZ 3 0 0 _ L f 0 [(0, .ref o)] []
  have hn9 := hI.n
  have hNO : zNO = -2147483648 := rfl
  
  refine z_aload_n C 0 dX7_bestRow_0 rfl ?_
  refine z_cV (As := []) C zc_X7_charted (c_X7_charted hX hM hI hK) zl_7_65 (Nat.le_of_ble_eq_true rfl) (Nat.le_of_ble_eq_true rfl) (Nat.le_of_ble_eq_true rfl) (hM.1.1) (hM.1.2) rfl rfl rfl rfl (Nat.le_of_ble_eq_true rfl) dX7_bestRow_1 (fun zc9 L2 f3 hz4 => ?_)
  obtain ⟨rfl, hM1, hzc⟩ := hz4
  have hchr : 0 ≤ spCharted μ ∧ spCharted μ ≤ 1 * (240 : Nat) := spCharted_rng μ 240
  change ZW G pZ la eZ (zRm 9 0 0) sZ mZ aZ bZ hZ cZ AZ 3 0 0 _ L f3 4 [(0, .ref o)] [.int (iI zc9)]
  refine z_sipush C dX7_bestRow_4 (by decide) ?_
  refine z_icmp_ne C 16 dX7_bestRow_7 (by decide) (by omega) (by omega) (fun h7 => ?_) (fun h7 => ?_)
  · refine z_aload_n C 0 dX7_bestRow_16 rfl ?_
    refine z_iconst C dX7_bestRow_17 ?_
    refine m_put0 C hM1 dX7_bestRow_18 (fun f5 hM6 => ?_)
    refine z_iconst C dX7_bestRow_21 ?_
    refine z_istore_n (ls' := [(1, .int (iI 0)), (0, .ref o)]) C dX7_bestRow_22 (Nat.le_of_ble_eq_true rfl) rfl ?_
    refine z_iconst C dX7_bestRow_23 ?_
    refine z_istore_n (ls' := [(2, .int (iI 1)), (1, .int (iI 0)), (0, .ref o)]) C dX7_bestRow_24 (Nat.le_of_ble_eq_true rfl) rfl ?_
    have key25 : ∀ (n25 : Nat) (b : Int) (r : Int) (f7 : Nat → va_E) (v7 : Int → Int), (1 ≤ r ∧ r ≤ 12 ∧ b = spBst (spGain μ (spChart μ)) (r - 1).toNat ∧ MR G L f7 o ad μ 0 (spChart μ) v7) → 12 - r < (n25 : Int) → ZW G pZ la eZ (zRm 9 0 0) sZ mZ aZ bZ hZ cZ AZ 3 0 0 (MQ bZ (zQ G zeI (fun z L' f' => L = L' ∧ ∃ t' μ' u' v', MR G L f' o ad μ' t' u' v' ∧ o_bestRow μ = (t', if t' = 0 then z else 0, μ')) AZ) aZ sZ 0 0 AZ) L f7 25 [(0, .ref o), (1, .int (iI b)), (2, .int (iI r))] [] := by
      intro n25
      induction n25 with
      | zero => intro b r f7 v7 hi25 hn25; exfalso; omega
      | succ n25 ih25 =>
        intro b r f7 v7 hi25 hn25
        obtain ⟨hr0, hr1, hb, hM7⟩ := hi25
        refine z_iload_n C 2 dX7_bestRow_25 rfl ?_
        refine z_bipush C dX7_bestRow_26 (by decide) ?_
        refine z_icmp_ge C 52 dX7_bestRow_28 (by decide) (by omega) (by omega) (fun h28 => ?_) (fun h28 => ?_)
        · refine z_iload_n C 1 dX7_bestRow_52 rfl ?_
          exact z_ireturn C dX7_bestRow_53 (Nat.le_of_ble_eq_true rfl) (Nat.le_of_ble_eq_true rfl) ⟨rfl, _, _, _, _, hM7, by unfold o_bestRow; (rw [if_neg (by omega), show (11 : Nat) = (r - 1).toNat by omega, ← hb]) <;> (refine Prod.ext ?_ (Prod.ext ?_ ?_) <;> first | rfl | omega | (dsimp only; omega) | (dsimp only; split <;> omega))⟩
        · have hbr := spBst_rng (spGain μ (spChart μ)) (r - 1).toNat
          refine z_aload_n C 0 dX7_bestRow_31 rfl ?_
          refine z_iload_n C 2 dX7_bestRow_32 rfl ?_
          refine z_cV (As := [.int (iI r)]) C zc_X7_gains (c_X7_gains hX hM7 hI r (by omega) (zCr_b (spChart_r hI))) zl_7_138 (Nat.le_of_ble_eq_true rfl) (Nat.le_of_ble_eq_true rfl) (Nat.le_of_ble_eq_true rfl) (hM7.1.1) (hM7.1.2) rfl rfl rfl rfl (Nat.le_of_ble_eq_true rfl) dX7_bestRow_33 (fun zg11 L12 f13 hz14 => ?_)
          obtain ⟨rfl, v8, hM7, hz9⟩ := hz14
          have hr10 := spGain_rng μ (spChart μ) r
          change ZW G pZ la eZ (zRm 9 0 0) sZ mZ aZ bZ hZ cZ AZ 3 0 0 _ L f13 36 [(0, .ref o), (1, .int (iI b)), (2, .int (iI r))] [.int (iI zg11)]
          refine z_aload_n C 0 dX7_bestRow_36 rfl ?_
          refine z_iload_n C 1 dX7_bestRow_37 rfl ?_
          refine z_cV (As := [.int (iI b)]) C zc_X7_gains (c_X7_gains hX hM7 hI b (by omega) (zCr_b (spChart_r hI))) zl_7_138 (Nat.le_of_ble_eq_true rfl) (Nat.le_of_ble_eq_true rfl) (Nat.le_of_ble_eq_true rfl) (hM7.1.1) (hM7.1.2) rfl rfl rfl rfl (Nat.le_of_ble_eq_true rfl) dX7_bestRow_38 (fun zg19 L20 f21 hz22 => ?_)
          obtain ⟨rfl, v16, hM15, hz17⟩ := hz22
          have hr18 := spGain_rng μ (spChart μ) b
          change ZW G pZ la eZ (zRm 9 0 0) sZ mZ aZ bZ hZ cZ AZ 3 0 0 _ L f21 41 [(0, .ref o), (1, .int (iI b)), (2, .int (iI r))] [.int (iI zg19), .int (iI zg11)]
          refine z_icmp_le C 46 dX7_bestRow_41 (by decide) (by omega) (by omega) (fun h41 => ?_) (fun h41 => ?_)
          · refine z_iinc (ls' := [(2, .int (iI (r + 1))), (0, .ref o), (1, .int (iI b))]) C 2 dX7_bestRow_46 rfl (Nat.le_of_ble_eq_true rfl) rfl ?_
            refine z_goto C 25 dX7_bestRow_49 (by decide) ?_
            refine z_perm [1, 2, 0] rfl ?_
            exact ih25 _ _ _ _ ⟨by omega, by omega, by rw [show r + 1 - 1 = r by omega, spBst_s _ (by omega), ← hb]; first | rw [if_pos (by omega)] | rw [if_neg (by omega)], hM15⟩ (by omega)
          · refine z_iload_n C 2 dX7_bestRow_44 rfl ?_
            refine z_istore_n (ls' := [(1, .int (iI r)), (0, .ref o), (2, .int (iI r))]) C dX7_bestRow_45 (Nat.le_of_ble_eq_true rfl) rfl ?_
            refine z_iinc (ls' := [(2, .int (iI (r + 1))), (1, .int (iI r)), (0, .ref o)]) C 2 dX7_bestRow_46 rfl (Nat.le_of_ble_eq_true rfl) rfl ?_
            refine z_goto C 25 dX7_bestRow_49 (by decide) ?_
            refine z_perm [2, 1, 0] rfl ?_
            exact ih25 _ _ _ _ ⟨by omega, by omega, by rw [show r + 1 - 1 = r by omega, spBst_s _ (by omega), ← hb]; first | rw [if_pos (by omega)] | rw [if_neg (by omega)], hM15⟩ (by omega)
    refine z_perm [2, 1, 0] rfl ?_
    exact key25 2000 _ _ _ _ ⟨by omega, by omega, rfl, hM6⟩ (by omega)
  · refine z_aload_n C 0 dX7_bestRow_10 rfl ?_
    refine z_iconst C dX7_bestRow_11 ?_
    refine z_cV (As := [.int (iI 1)]) C zc_X7_refuse (c_X7_refuse hX hM1 1) zl_6_179 (Nat.le_of_ble_eq_true rfl) (Nat.le_of_ble_eq_true rfl) (Nat.le_of_ble_eq_true rfl) (hM1.1.1) (hM1.1.2) rfl rfl rfl rfl (Nat.le_of_ble_eq_true rfl) dX7_bestRow_12 (fun z24 L25 f26 hz27 => ?_)
    obtain ⟨rfl, rfl, hM23⟩ := hz27
    change ZW G pZ la eZ (zRm 9 0 0) sZ mZ aZ bZ hZ cZ AZ 3 0 0 _ L f26 15 [(0, .ref o)] [.int (iI 0)]
    exact z_ireturn C dX7_bestRow_15 (Nat.le_of_ble_eq_true rfl) (Nat.le_of_ble_eq_true rfl) ⟨rfl, _, _, _, _, hM23, by unfold o_bestRow; (rw [if_pos (by omega)]) <;> (refine Prod.ext ?_ (Prod.ext ?_ ?_) <;> first | rfl | omega | (dsimp only; omega) | (dsimp only; split <;> omega))⟩

set_option maxRecDepth 100000 in
set_option maxHeartbeats 200000 in
theorem c_X7_lines {la : Launch} {G : zG} {X : (Nat → Prop) → State → Prop} (hX : zX X) {L : List Nat} {f : Nat → va_E} {o : Nat} {ad : Nat → Nat} {μ : zMu} {t : Int} {u v : Int → Int} (hM : MR G L f o ad μ t u v) (hI : MI μ)   : zM la G X yX7_lines (.code yX7_lines cX7_lines 1 (some .int) :: zT) 0 0 0 [.ref o] L f zeI (zRd L f (fun z => z = μ 2 0)) := by
  refine zM_intro hX (by decide) (Nat.le_of_ble_eq_true rfl) (fun pZ eZ sZ mZ aZ bZ hZ cZ AZ C hini => ?_)
  change ZW G pZ la eZ (zRm 0 0 0) sZ mZ aZ bZ hZ cZ AZ 1 0 0 _ L f 0 [(0, .ref o)] []
  have hn9 := hI.n
  have hNO : zNO = -2147483648 := rfl
  
  refine z_aload_n C 0 dX7_lines_0 rfl ?_
  refine z_getf C 2 zin_X7 (hM.1.1) (hM.1.2) rfl (Nat.le_of_ble_eq_true rfl) zl_6_100 rfl rfl dX7_lines_1 ?_
  exact z_ireturn C dX7_lines_4 (Nat.le_of_ble_eq_true rfl) (Nat.le_of_ble_eq_true rfl) ⟨rfl, rfl, rfl⟩

set_option maxRecDepth 100000 in
set_option maxHeartbeats 200000 in
theorem c_X7_toRun {la : Launch} {G : zG} {X : (Nat → Prop) → State → Prop} (hX : zX X) {L : List Nat} {f : Nat → va_E} {o : Nat} {ad : Nat → Nat} {μ : zMu} {t : Int} {u v : Int → Int} (hM : MR G L f o ad μ t u v) (hI : MI μ)   : zM la G X yX7_toRun (.code yX7_toRun cX7_toRun 3 (some .int) :: zT) 7 0 0 [.ref o] L f zeI (zRd L f (fun z => z = spToRun μ)) := by
  refine zM_intro hX (by decide) (Nat.le_of_ble_eq_true rfl) (fun pZ eZ sZ mZ aZ bZ hZ cZ AZ C hini => ?_)
  change ZW G pZ la eZ (zRm 7 0 0) sZ mZ aZ bZ hZ cZ AZ 3 0 0 _ L f 0 [(0, .ref o)] []
  have hn9 := hI.n
  have hNO : zNO = -2147483648 := rfl
  
  refine z_iconst C dX7_toRun_0 ?_
  refine z_istore_n (ls' := [(1, .int (iI 0)), (0, .ref o)]) C dX7_toRun_1 (Nat.le_of_ble_eq_true rfl) rfl ?_
  refine z_iconst C dX7_toRun_2 ?_
  refine z_istore_n (ls' := [(2, .int (iI 0)), (1, .int (iI 0)), (0, .ref o)]) C dX7_toRun_3 (Nat.le_of_ble_eq_true rfl) rfl ?_
  have key4 : ∀ (n4 : Nat) (m : Int) (l : Int) , (0 ≤ l ∧ l ≤ μ 2 0 ∧ m = zsum (fun l => bI (0 < spLost μ l)) l.toNat) → μ 2 0 - l < (n4 : Int) → ZW G pZ la eZ (zRm 7 0 0) sZ mZ aZ bZ hZ cZ AZ 3 0 0 (MQ bZ (zQ G zeI (zRd L f (fun z => z = spToRun μ)) AZ) aZ sZ 0 0 AZ) L f 4 [(0, .ref o), (1, .int (iI m)), (2, .int (iI l))] [] := by
    intro n4
    induction n4 with
    | zero => intro m l  hi4 hn4; exfalso; omega
    | succ n4 ih4 =>
      intro m l  hi4 hn4
      obtain ⟨hl0, hl1, hm⟩ := hi4
      refine z_iload_n C 2 dX7_toRun_4 rfl ?_
      refine z_aload_n C 0 dX7_toRun_5 rfl ?_
      refine z_getf C 2 zin_X7 (hM.1.1) (hM.1.2) rfl (Nat.le_of_ble_eq_true rfl) zl_6_100 rfl rfl dX7_toRun_6 ?_
      refine z_icmp_ge C 34 dX7_toRun_9 (by decide) (by omega) (by omega) (fun h9 => ?_) (fun h9 => ?_)
      · refine z_iload_n C 1 dX7_toRun_34 rfl ?_
        exact z_ireturn C dX7_toRun_35 (Nat.le_of_ble_eq_true rfl) (Nat.le_of_ble_eq_true rfl) ⟨by rw [hm]; unfold spToRun; congr 1; omega, rfl, rfl⟩
      · have rg := zsum_rng (c := 1) (by decide) (fun i => bI_rng (0 < spLost μ i)) l.toNat
        refine z_iload_n C 1 dX7_toRun_12 rfl ?_
        refine z_aload_n C 0 dX7_toRun_13 rfl ?_
        refine z_iload_n C 2 dX7_toRun_14 rfl ?_
        refine z_cV (As := [.int (iI l)]) C zc_X7_lostOf (c_X7_lostOf hX hM hI l (by omega)) zl_7_116 (Nat.le_of_ble_eq_true rfl) (Nat.le_of_ble_eq_true rfl) (Nat.le_of_ble_eq_true rfl) (hM.1.1) (hM.1.2) rfl rfl rfl rfl (Nat.le_of_ble_eq_true rfl) dX7_toRun_15 (fun z2 L3 f4 hz5 => ?_)
        obtain ⟨hz5, rfl, rfl⟩ := hz5
        subst hz5
        have hr1 : 0 ≤ spLost μ l ∧ spLost μ l ≤ 7 * (spSize μ l).toNat := spLsts_rng μ l _
        have hr1z := spSize_rng hI.J (l := l) (by omega)
        change ZW G pZ la eZ (zRm 7 0 0) sZ mZ aZ bZ hZ cZ AZ 3 0 0 _ L f 18 [(0, .ref o), (1, .int (iI m)), (2, .int (iI l))] [.int (iI (spLost μ l)), .int (iI m)]
        refine z_if_le C 25 dX7_toRun_18 (by decide) (by omega) (fun h18 => ?_) (fun h18 => ?_)
        · refine z_iconst C dX7_toRun_25 ?_
          refine z_iadd C dX7_toRun_26 ?_
          refine z_nm (fun x6 hx6 => ?_)
          refine z_istore_n (ls' := [(1, .int (iI x6)), (0, .ref o), (2, .int (iI l))]) C dX7_toRun_27 (Nat.le_of_ble_eq_true rfl) rfl ?_
          refine z_iinc (ls' := [(2, .int (iI (l + 1))), (1, .int (iI x6)), (0, .ref o)]) C 2 dX7_toRun_28 rfl (Nat.le_of_ble_eq_true rfl) rfl ?_
          refine z_goto C 4 dX7_toRun_31 (by decide) ?_
          refine z_perm [2, 1, 0] rfl ?_
          exact ih4 _ _  ⟨by omega, by omega, by rw [zsum_s _ hl0]; first | (rw [bI_1 (by omega)]; omega) | (rw [bI_0 (by omega)]; omega)⟩ (by omega)
        · refine z_iconst C dX7_toRun_21 ?_
          refine z_goto C 26 dX7_toRun_22 (by decide) ?_
          refine z_iadd C dX7_toRun_26 ?_
          refine z_nm (fun x7 hx7 => ?_)
          refine z_istore_n (ls' := [(1, .int (iI x7)), (0, .ref o), (2, .int (iI l))]) C dX7_toRun_27 (Nat.le_of_ble_eq_true rfl) rfl ?_
          refine z_iinc (ls' := [(2, .int (iI (l + 1))), (1, .int (iI x7)), (0, .ref o)]) C 2 dX7_toRun_28 rfl (Nat.le_of_ble_eq_true rfl) rfl ?_
          refine z_goto C 4 dX7_toRun_31 (by decide) ?_
          refine z_perm [2, 1, 0] rfl ?_
          exact ih4 _ _  ⟨by omega, by omega, by rw [zsum_s _ hl0]; first | (rw [bI_1 (by omega)]; omega) | (rw [bI_0 (by omega)]; omega)⟩ (by omega)
  refine z_perm [2, 1, 0] rfl ?_
  exact key4 2000 _ _  ⟨by omega, by omega, rfl⟩ (by omega)

set_option maxRecDepth 100000 in
set_option maxHeartbeats 200000 in
theorem c_X7_cellAt {la : Launch} {G : zG} {X : (Nat → Prop) → State → Prop} (hX : zX X) {L : List Nat} {f : Nat → va_E} {o : Nat} {ad : Nat → Nat} {μ : zMu} {t : Int} {u v : Int → Int} (hM : MR G L f o ad μ t u v) (hI : MI μ) (l i : Int) (hl : 0 ≤ l ∧ l < 16) (hi : zR i) : zM la G X yX7_cellAt (.code yX7_cellAt cX7_cellAt 4 (some .int) :: zT) 1 0 0 [.ref o, .int (iI l), .int (iI i)] L f zeI (zRd L f (fun z => z = spAt μ l i)) := by
  refine zM_intro hX (by decide) (Nat.le_of_ble_eq_true rfl) (fun pZ eZ sZ mZ aZ bZ hZ cZ AZ C hini => ?_)
  change ZW G pZ la eZ (zRm 1 0 0) sZ mZ aZ bZ hZ cZ AZ 4 0 0 _ L f 0 [(0, .ref o), (1, .int (iI l)), (2, .int (iI i))] []
  have hn9 := hI.n
  have hNO : zNO = -2147483648 := rfl
  have hsz9 := spSize_rng hI.J hl
  refine z_iconst C dX7_cellAt_0 ?_
  refine z_istore_n (ls' := [(3, .int (iI 0)), (0, .ref o), (1, .int (iI l)), (2, .int (iI i))]) C dX7_cellAt_1 (Nat.le_of_ble_eq_true rfl) rfl ?_
  have key2 : ∀ (n2 : Nat) (k : Int) , (0 ≤ k ∧ k ≤ spSize μ l ∧ ∀ j, 0 ≤ j → j < k → spAlong μ l j ≠ i) → spSize μ l - k < (n2 : Int) → ZW G pZ la eZ (zRm 1 0 0) sZ mZ aZ bZ hZ cZ AZ 4 0 0 (MQ bZ (zQ G zeI (zRd L f (fun z => z = spAt μ l i)) AZ) aZ sZ 0 0 AZ) L f 2 [(0, .ref o), (1, .int (iI l)), (2, .int (iI i)), (3, .int (iI k))] [] := by
    intro n2
    induction n2 with
    | zero => intro k  hi2 hn2; exfalso; omega
    | succ n2 ih2 =>
      intro k  hi2 hn2
      obtain ⟨hk0, hk1, hall⟩ := hi2
      refine z_iload_n C 3 dX7_cellAt_2 rfl ?_
      refine z_aload_n C 0 dX7_cellAt_3 rfl ?_
      refine z_iload_n C 1 dX7_cellAt_4 rfl ?_
      refine z_cV (As := [.int (iI l)]) C zc_X7_size (c_X7_size hX hM hI.J l (by omega)) zl_7_22 (Nat.le_of_ble_eq_true rfl) (Nat.le_of_ble_eq_true rfl) (Nat.le_of_ble_eq_true rfl) (hM.1.1) (hM.1.2) rfl rfl rfl rfl (Nat.le_of_ble_eq_true rfl) dX7_cellAt_5 (fun z2 L3 f4 hz5 => ?_)
      obtain ⟨hz5, rfl, rfl⟩ := hz5
      subst hz5
      have hr1 := spSize_rng hI.J (l := l) (by omega)
      change ZW G pZ la eZ (zRm 1 0 0) sZ mZ aZ bZ hZ cZ AZ 4 0 0 _ L f 8 [(0, .ref o), (1, .int (iI l)), (2, .int (iI i)), (3, .int (iI k))] [.int (iI (spSize μ l)), .int (iI k)]
      refine z_icmp_ge C 29 dX7_cellAt_8 (by decide) (by omega) (by omega) (fun h8 => ?_) (fun h8 => ?_)
      · refine z_iconst C dX7_cellAt_29 ?_
        exact z_ireturn C dX7_cellAt_30 (Nat.le_of_ble_eq_true rfl) (Nat.le_of_ble_eq_true rfl) ⟨(spAt_no hI.J hl (fun j q1 q2 => hall j q1 (by omega))).symm, rfl, rfl⟩
      · refine z_aload_n C 0 dX7_cellAt_11 rfl ?_
        refine z_iload_n C 1 dX7_cellAt_12 rfl ?_
        refine z_iload_n C 3 dX7_cellAt_13 rfl ?_
        refine z_cV (As := [.int (iI l), .int (iI k)]) C zc_X7_along (c_X7_along hX hM hI.J l k (by omega) (by omega)) zl_7_42 (Nat.le_of_ble_eq_true rfl) (Nat.le_of_ble_eq_true rfl) (Nat.le_of_ble_eq_true rfl) (hM.1.1) (hM.1.2) rfl rfl rfl rfl (Nat.le_of_ble_eq_true rfl) dX7_cellAt_14 (fun z7 L8 f9 hz10 => ?_)
        obtain ⟨hz10, rfl, rfl⟩ := hz10
        subst hz10
        have hr6 := spAlong_rng hI.J (l := l) (by omega) (k := k) (by omega)
        change ZW G pZ la eZ (zRm 1 0 0) sZ mZ aZ bZ hZ cZ AZ 4 0 0 _ L f 17 [(0, .ref o), (1, .int (iI l)), (2, .int (iI i)), (3, .int (iI k))] [.int (iI (spAlong μ l k))]
        refine z_iload_n C 2 dX7_cellAt_17 rfl ?_
        refine z_icmp_ne C 23 dX7_cellAt_18 (by decide) (by omega) (by omega) (fun h18 => ?_) (fun h18 => ?_)
        · refine z_iinc (ls' := [(3, .int (iI (k + 1))), (0, .ref o), (1, .int (iI l)), (2, .int (iI i))]) C 3 dX7_cellAt_23 rfl (Nat.le_of_ble_eq_true rfl) rfl ?_
          refine z_goto C 2 dX7_cellAt_26 (by decide) ?_
          refine z_perm [1, 2, 3, 0] rfl ?_
          exact ih2 _  ⟨by omega, by omega, fun j q1 q2 => by rcases Int.lt_or_eq_of_le (show j ≤ k by omega) with q | q; exact hall j q1 q; rw [q]; omega⟩ (by omega)
        · refine z_iload_n C 3 dX7_cellAt_21 rfl ?_
          exact z_ireturn C dX7_cellAt_22 (Nat.le_of_ble_eq_true rfl) (Nat.le_of_ble_eq_true rfl) ⟨(spAt_eq hI.J hl (by omega) (by omega)).symm, rfl, rfl⟩
  refine z_perm [1, 2, 3, 0] rfl ?_
  exact key2 2000 _  ⟨by omega, by omega, fun j _ _ => by omega⟩ (by omega)

set_option maxRecDepth 100000 in
set_option maxHeartbeats 200000 in
theorem c_X7_isCrossing {la : Launch} {G : zG} {X : (Nat → Prop) → State → Prop} (hX : zX X) {L : List Nat} {f : Nat → va_E} {o : Nat} {ad : Nat → Nat} {μ : zMu} {t : Int} {u v : Int → Int} (hM : MR G L f o ad μ t u v) (hI : MI μ) (l m : Int) (hl : 0 ≤ l ∧ l < 16) (hm : 0 ≤ m ∧ m < 16) : zM la G X yX7_isCrossing (.code yX7_isCrossing cX7_isCrossing 3 (some .boolean) :: zT) 2 0 0 [.ref o, .int (iI l), .int (iI m)] L f zeI (zRd L f (fun z => z = 0 ∧ ¬ spX μ l m ∨ z = 1 ∧ spX μ l m)) := by
  refine zM_intro hX (by decide) (Nat.le_of_ble_eq_true rfl) (fun pZ eZ sZ mZ aZ bZ hZ cZ AZ C hini => ?_)
  change ZW G pZ la eZ (zRm 2 0 0) sZ mZ aZ bZ hZ cZ AZ 3 0 0 _ L f 0 [(0, .ref o), (1, .int (iI l)), (2, .int (iI m))] []
  have hn9 := hI.n
  have hNO : zNO = -2147483648 := rfl
  
  refine z_aload_n C 0 dX7_isCrossing_0 rfl ?_
  refine z_getf C 12 zin_X7 (hM.1.1) (hM.1.2) rfl (Nat.le_of_ble_eq_true rfl) zl_6_110 rfl rfl dX7_isCrossing_1 ?_
  refine z_iload_n C 1 dX7_isCrossing_4 rfl ?_
  refine z_zald C (MR_a12 hM) (by omega) (by omega) (by omega) dX7_isCrossing_5 ?_
  have hb1 := hI.J.b12 l (by omega) (by omega)
  refine z_aload_n C 0 dX7_isCrossing_6 rfl ?_
  refine z_getf C 12 zin_X7 (hM.1.1) (hM.1.2) rfl (Nat.le_of_ble_eq_true rfl) zl_6_110 rfl rfl dX7_isCrossing_7 ?_
  refine z_iload_n C 2 dX7_isCrossing_10 rfl ?_
  refine z_zald C (MR_a12 hM) (by omega) (by omega) (by omega) dX7_isCrossing_11 ?_
  have hb2 := hI.J.b12 m (by omega) (by omega)
  refine z_icmp_eq C 47 dX7_isCrossing_12 (by decide) (by omega) (by omega) (fun h12 => ?_) (fun h12 => ?_)
  · refine z_iconst C dX7_isCrossing_47 ?_
    exact z_zreturn C (by first | omega | (unfold bI; split <;> omega)) dX7_isCrossing_48 (Nat.le_of_ble_eq_true rfl) (Nat.le_of_ble_eq_true rfl) ⟨by unfold spX; omega, rfl, rfl⟩
  · refine z_aload_n C 0 dX7_isCrossing_15 rfl ?_
    refine z_iload_n C 1 dX7_isCrossing_16 rfl ?_
    refine z_aload_n C 0 dX7_isCrossing_17 rfl ?_
    refine z_getf C 13 zin_X7 (hM.1.1) (hM.1.2) rfl (Nat.le_of_ble_eq_true rfl) zl_6_111 rfl rfl dX7_isCrossing_18 ?_
    refine z_iload_n C 2 dX7_isCrossing_21 rfl ?_
    refine z_iald C (MR_a13 hM) (by omega) (by omega) (by omega) dX7_isCrossing_22 ?_
    have hb3 := hI.J.b12 m (by omega) (by omega)
    refine z_cV (As := [.int (iI l), .int (iI ((μ 13) m))]) C zc_X7_cellAt (c_X7_cellAt hX hM hI l ((μ 13) m) (by omega) (by omega)) zl_7_162 (Nat.le_of_ble_eq_true rfl) (Nat.le_of_ble_eq_true rfl) (Nat.le_of_ble_eq_true rfl) (hM.1.1) (hM.1.2) rfl rfl rfl rfl (Nat.le_of_ble_eq_true rfl) dX7_isCrossing_23 (fun z5 L6 f7 hz8 => ?_)
    obtain ⟨hz8, rfl, rfl⟩ := hz8
    subst hz8
    have hr4 := spAt_rng hI.J (l := l) (by omega) ((μ 13) m)
    have hr4z := spSize_rng hI.J (l := l) (by omega)
    change ZW G pZ la eZ (zRm 2 0 0) sZ mZ aZ bZ hZ cZ AZ 3 0 0 _ L f 26 [(0, .ref o), (1, .int (iI l)), (2, .int (iI m))] [.int (iI (spAt μ l ((μ 13) m)))]
    refine z_if_lt C 47 dX7_isCrossing_26 (by decide) (by omega) (fun h26 => ?_) (fun h26 => ?_)
    · refine z_iconst C dX7_isCrossing_47 ?_
      exact z_zreturn C (by first | omega | (unfold bI; split <;> omega)) dX7_isCrossing_48 (Nat.le_of_ble_eq_true rfl) (Nat.le_of_ble_eq_true rfl) ⟨by unfold spX; omega, rfl, rfl⟩
    · refine z_aload_n C 0 dX7_isCrossing_29 rfl ?_
      refine z_iload_n C 2 dX7_isCrossing_30 rfl ?_
      refine z_aload_n C 0 dX7_isCrossing_31 rfl ?_
      refine z_getf C 13 zin_X7 (hM.1.1) (hM.1.2) rfl (Nat.le_of_ble_eq_true rfl) zl_6_111 rfl rfl dX7_isCrossing_32 ?_
      refine z_iload_n C 1 dX7_isCrossing_35 rfl ?_
      refine z_iald C (MR_a13 hM) (by omega) (by omega) (by omega) dX7_isCrossing_36 ?_
      have hb9 := hI.J.b12 l (by omega) (by omega)
      refine z_cV (As := [.int (iI m), .int (iI ((μ 13) l))]) C zc_X7_cellAt (c_X7_cellAt hX hM hI m ((μ 13) l) (by omega) (by omega)) zl_7_162 (Nat.le_of_ble_eq_true rfl) (Nat.le_of_ble_eq_true rfl) (Nat.le_of_ble_eq_true rfl) (hM.1.1) (hM.1.2) rfl rfl rfl rfl (Nat.le_of_ble_eq_true rfl) dX7_isCrossing_37 (fun z11 L12 f13 hz14 => ?_)
      obtain ⟨hz14, rfl, rfl⟩ := hz14
      subst hz14
      have hr10 := spAt_rng hI.J (l := m) (by omega) ((μ 13) l)
      have hr10z := spSize_rng hI.J (l := m) (by omega)
      change ZW G pZ la eZ (zRm 2 0 0) sZ mZ aZ bZ hZ cZ AZ 3 0 0 _ L f 40 [(0, .ref o), (1, .int (iI l)), (2, .int (iI m))] [.int (iI (spAt μ m ((μ 13) l)))]
      refine z_if_lt C 47 dX7_isCrossing_40 (by decide) (by omega) (fun h40 => ?_) (fun h40 => ?_)
      · refine z_iconst C dX7_isCrossing_47 ?_
        exact z_zreturn C (by first | omega | (unfold bI; split <;> omega)) dX7_isCrossing_48 (Nat.le_of_ble_eq_true rfl) (Nat.le_of_ble_eq_true rfl) ⟨by unfold spX; omega, rfl, rfl⟩
      · refine z_iconst C dX7_isCrossing_43 ?_
        refine z_goto C 48 dX7_isCrossing_44 (by decide) ?_
        exact z_zreturn C (by first | omega | (unfold bI; split <;> omega)) dX7_isCrossing_48 (Nat.le_of_ble_eq_true rfl) (Nat.le_of_ble_eq_true rfl) ⟨by unfold spX; omega, rfl, rfl⟩

set_option maxRecDepth 100000 in
set_option maxHeartbeats 200000 in
theorem c_X7_own {la : Launch} {G : zG} {X : (Nat → Prop) → State → Prop} (hX : zX X) {L : List Nat} {f : Nat → va_E} {o : Nat} {ad : Nat → Nat} {μ : zMu} {t : Int} {u v : Int → Int} (hM : MR G L f o ad μ t u v) (hI : MI μ) (l m : Int) (hl : 0 ≤ l ∧ l < 16) (hm : 0 ≤ m ∧ m < 16) : zM la G X yX7_own (.code yX7_own cX7_own 3 (some .int) :: zT) 6 0 0 [.ref o, .int (iI l), .int (iI m)] L f zeI (zRd L f (fun z => z = spOwn μ l m)) := by
  refine zM_intro hX (by decide) (Nat.le_of_ble_eq_true rfl) (fun pZ eZ sZ mZ aZ bZ hZ cZ AZ C hini => ?_)
  change ZW G pZ la eZ (zRm 6 0 0) sZ mZ aZ bZ hZ cZ AZ 3 0 0 _ L f 0 [(0, .ref o), (1, .int (iI l)), (2, .int (iI m))] []
  have hn9 := hI.n
  have hNO : zNO = -2147483648 := rfl
  
  refine z_aload_n C 0 dX7_own_0 rfl ?_
  refine z_iload_n C 1 dX7_own_1 rfl ?_
  refine z_aload_n C 0 dX7_own_2 rfl ?_
  refine z_iload_n C 1 dX7_own_3 rfl ?_
  refine z_aload_n C 0 dX7_own_4 rfl ?_
  refine z_getf C 13 zin_X7 (hM.1.1) (hM.1.2) rfl (Nat.le_of_ble_eq_true rfl) zl_6_111 rfl rfl dX7_own_5 ?_
  refine z_iload_n C 2 dX7_own_8 rfl ?_
  refine z_iald C (MR_a13 hM) (by omega) (by omega) (by omega) dX7_own_9 ?_
  have hb1 := hI.J.b12 m (by omega) (by omega)
  refine z_cV (As := [.int (iI l), .int (iI ((μ 13) m))]) C zc_X7_cellAt (c_X7_cellAt hX hM hI l ((μ 13) m) (by omega) (by omega)) zl_7_162 (Nat.le_of_ble_eq_true rfl) (Nat.le_of_ble_eq_true rfl) (Nat.le_of_ble_eq_true rfl) (hM.1.1) (hM.1.2) rfl rfl rfl rfl (Nat.le_of_ble_eq_true rfl) dX7_own_10 (fun z3 L4 f5 hz6 => ?_)
  obtain ⟨hz6, rfl, rfl⟩ := hz6
  subst hz6
  have hr2 := spAt_rng hI.J (l := l) (by omega) ((μ 13) m)
  have hr2z := spSize_rng hI.J (l := l) (by omega)
  change ZW G pZ la eZ (zRm 6 0 0) sZ mZ aZ bZ hZ cZ AZ 3 0 0 _ L f 13 [(0, .ref o), (1, .int (iI l)), (2, .int (iI m))] [.int (iI (spAt μ l ((μ 13) m))), .int (iI l), .ref o]
  refine z_iconst C dX7_own_13 ?_
  refine z_cV (As := [.int (iI l), .int (iI (spAt μ l ((μ 13) m))), .int (iI 0)]) C zc_X7_reduces (c_X7_reduces hX hM hI l (spAt μ l ((μ 13) m)) 0 (by omega) (by omega) (by omega)) zl_7_73 (Nat.le_of_ble_eq_true rfl) (Nat.le_of_ble_eq_true rfl) (Nat.le_of_ble_eq_true rfl) (hM.1.1) (hM.1.2) rfl rfl rfl rfl (Nat.le_of_ble_eq_true rfl) dX7_own_14 (fun z8 L9 f10 hz11 => ?_)
  obtain ⟨hz11, rfl, rfl⟩ := hz11
  subst hz11
  have hr7 := spRed_rng hI (l := l) (spAt μ l ((μ 13) m)) (s := 0) (by omega) (by omega)
  change ZW G pZ la eZ (zRm 6 0 0) sZ mZ aZ bZ hZ cZ AZ 3 0 0 _ L f 17 [(0, .ref o), (1, .int (iI l)), (2, .int (iI m))] [.int (iI (spRed μ l (spAt μ l ((μ 13) m)) 0))]
  exact z_ireturn C dX7_own_17 (Nat.le_of_ble_eq_true rfl) (Nat.le_of_ble_eq_true rfl) ⟨rfl, rfl, rfl⟩

set_option maxRecDepth 100000 in
set_option maxHeartbeats 200000 in
theorem c_X7_cross {la : Launch} {G : zG} {X : (Nat → Prop) → State → Prop} (hX : zX X) {L : List Nat} {f : Nat → va_E} {o : Nat} {ad : Nat → Nat} {μ : zMu} {t : Int} {u v : Int → Int} (hM : MR G L f o ad μ t u v) (hI : MI μ) (l m : Int) (hl : zR l) (hm : zR m) : zM la G X yX7_cross (.code yX7_cross cX7_cross 3 (some .int) :: zT) 7 0 0 [.ref o, .int (iI l), .int (iI m)] L f zeI (fun z L' f' => L = L' ∧ ∃ t' μ' u' v', MR G L f' o ad μ' t' u' v' ∧ o_cross μ l m = (t', if t' = 0 then z else 0, μ')) := by
  refine zM_intro hX (by decide) (Nat.le_of_ble_eq_true rfl) (fun pZ eZ sZ mZ aZ bZ hZ cZ AZ C hini => ?_)
  change ZW G pZ la eZ (zRm 7 0 0) sZ mZ aZ bZ hZ cZ AZ 3 0 0 _ L f 0 [(0, .ref o), (1, .int (iI l)), (2, .int (iI m))] []
  have hn9 := hI.n
  have hNO : zNO = -2147483648 := rfl
  
  refine z_aload_n C 0 dX7_cross_0 rfl ?_
  refine z_iload_n C 1 dX7_cross_1 rfl ?_
  refine z_cV (As := [.int (iI l)]) C zc_X7_noLine (c_X7_noLine hX hM hI l (by omega) ) zl_7_61 (Nat.le_of_ble_eq_true rfl) (Nat.le_of_ble_eq_true rfl) (Nat.le_of_ble_eq_true rfl) (hM.1.1) (hM.1.2) rfl rfl rfl rfl (Nat.le_of_ble_eq_true rfl) dX7_cross_2 (fun z4 L5 f6 hz7 => ?_)
  obtain ⟨rfl, t2, hM1, he3⟩ := hz7
  change ZW G pZ la eZ (zRm 7 0 0) sZ mZ aZ bZ hZ cZ AZ 3 0 0 _ L f6 5 [(0, .ref o), (1, .int (iI l)), (2, .int (iI m))] [.int (iI z4)]
  refine z_if_ne C 16 dX7_cross_5 (by decide) (by omega) (fun h5 => ?_) (fun h5 => ?_)
  · refine z_iconst C dX7_cross_16 ?_
    exact z_ireturn C dX7_cross_17 (Nat.le_of_ble_eq_true rfl) (Nat.le_of_ble_eq_true rfl) ⟨rfl, _, _, _, _, hM1, by unfold o_cross; (rw [if_neg (by omega)]) <;> (refine Prod.ext ?_ (Prod.ext ?_ ?_) <;> first | rfl | omega | (dsimp only; omega) | (dsimp only; split <;> omega))⟩
  · refine z_aload_n C 0 dX7_cross_8 rfl ?_
    refine z_iload_n C 2 dX7_cross_9 rfl ?_
    refine z_cV (As := [.int (iI m)]) C zc_X7_noLine (c_X7_noLine hX hM1 hI m (by omega) ) zl_7_61 (Nat.le_of_ble_eq_true rfl) (Nat.le_of_ble_eq_true rfl) (Nat.le_of_ble_eq_true rfl) (hM1.1.1) (hM1.1.2) rfl rfl rfl rfl (Nat.le_of_ble_eq_true rfl) dX7_cross_10 (fun z11 L12 f13 hz14 => ?_)
    obtain ⟨rfl, t9, hM8, he10⟩ := hz14
    change ZW G pZ la eZ (zRm 7 0 0) sZ mZ aZ bZ hZ cZ AZ 3 0 0 _ L f13 13 [(0, .ref o), (1, .int (iI l)), (2, .int (iI m))] [.int (iI z11)]
    refine z_if_eq C 18 dX7_cross_13 (by decide) (by omega) (fun h13 => ?_) (fun h13 => ?_)
    · refine z_iload_n C 1 dX7_cross_18 rfl ?_
      refine z_iload_n C 2 dX7_cross_19 rfl ?_
      refine z_icmp_eq C 32 dX7_cross_20 (by decide) (by omega) (by omega) (fun h20 => ?_) (fun h20 => ?_)
      · refine z_aload_n C 0 dX7_cross_32 rfl ?_
        refine z_iconst C dX7_cross_33 ?_
        refine z_cV (As := [.int (iI 2)]) C zc_X7_refuse (c_X7_refuse hX hM8 2) zl_6_179 (Nat.le_of_ble_eq_true rfl) (Nat.le_of_ble_eq_true rfl) (Nat.le_of_ble_eq_true rfl) (hM8.1.1) (hM8.1.2) rfl rfl rfl rfl (Nat.le_of_ble_eq_true rfl) dX7_cross_34 (fun z16 L17 f18 hz19 => ?_)
        obtain ⟨rfl, rfl, hM15⟩ := hz19
        change ZW G pZ la eZ (zRm 7 0 0) sZ mZ aZ bZ hZ cZ AZ 3 0 0 _ L f18 37 [(0, .ref o), (1, .int (iI l)), (2, .int (iI m))] [.int (iI 0)]
        exact z_ireturn C dX7_cross_37 (Nat.le_of_ble_eq_true rfl) (Nat.le_of_ble_eq_true rfl) ⟨rfl, _, _, _, _, hM15, by unfold o_cross; (rw [if_pos (by omega), if_neg (by first | omega | (intro z; have z1 := z.1; have z2 := z.2; first | omega | (unfold spX at *; omega)))]) <;> (refine Prod.ext ?_ (Prod.ext ?_ ?_) <;> first | rfl | omega | (dsimp only; omega) | (dsimp only; split <;> omega))⟩
      · refine z_aload_n C 0 dX7_cross_23 rfl ?_
        refine z_iload_n C 1 dX7_cross_24 rfl ?_
        refine z_iload_n C 2 dX7_cross_25 rfl ?_
        refine z_cV (As := [.int (iI l), .int (iI m)]) C zc_X7_isCrossing (c_X7_isCrossing hX hM8 hI l m (by omega) (by omega)) zl_7_158 (Nat.le_of_ble_eq_true rfl) (Nat.le_of_ble_eq_true rfl) (Nat.le_of_ble_eq_true rfl) (hM8.1.1) (hM8.1.2) rfl rfl rfl rfl (Nat.le_of_ble_eq_true rfl) dX7_cross_26 (fun zx20 L22 f23 hx21 => ?_)
        obtain ⟨hx21, rfl, rfl⟩ := hx21
        have hx21 : zx20 = 0 ∧ ¬ spX μ l m ∨ zx20 = 1 ∧ spX μ l m := hx21
        change ZW G pZ la eZ (zRm 7 0 0) sZ mZ aZ bZ hZ cZ AZ 3 0 0 _ L f13 29 [(0, .ref o), (1, .int (iI l)), (2, .int (iI m))] [.int (iI zx20)]
        refine z_if_ne C 38 dX7_cross_29 (by decide) (by omega) (fun h29 => ?_) (fun h29 => ?_)
        · refine z_aload_n C 0 dX7_cross_38 rfl ?_
          refine z_iload_n C 1 dX7_cross_39 rfl ?_
          refine z_iload_n C 2 dX7_cross_40 rfl ?_
          refine z_cV (As := [.int (iI l), .int (iI m)]) C zc_X7_own (c_X7_own hX hM8 hI l m (by omega) (by omega)) zl_7_166 (Nat.le_of_ble_eq_true rfl) (Nat.le_of_ble_eq_true rfl) (Nat.le_of_ble_eq_true rfl) (hM8.1.1) (hM8.1.2) rfl rfl rfl rfl (Nat.le_of_ble_eq_true rfl) dX7_cross_41 (fun z25 L26 f27 hz28 => ?_)
          obtain ⟨hz28, rfl, rfl⟩ := hz28
          subst hz28
          have hr24 : spOwn μ l m = zNO ∨ (-108 ≤ spOwn μ l m ∧ spOwn μ l m ≤ 208) := spRed_rng hI (l := l) _ (s := 0) (by omega) (by omega)
          change ZW G pZ la eZ (zRm 7 0 0) sZ mZ aZ bZ hZ cZ AZ 3 0 0 _ L f13 44 [(0, .ref o), (1, .int (iI l)), (2, .int (iI m))] [.int (iI (spOwn μ l m))]
          refine z_ldc (n := (-2147483648)) C zl_7_2 rfl dX7_cross_44 ?_
          refine z_icmp_eq C 60 dX7_cross_46 (by decide) (by omega) (by omega) (fun h46 => ?_) (fun h46 => ?_)
          · refine z_aload_n C 0 dX7_cross_60 rfl ?_
            refine z_iconst C dX7_cross_61 ?_
            refine z_cV (As := [.int (iI 3)]) C zc_X7_refuse (c_X7_refuse hX hM8 3) zl_6_179 (Nat.le_of_ble_eq_true rfl) (Nat.le_of_ble_eq_true rfl) (Nat.le_of_ble_eq_true rfl) (hM8.1.1) (hM8.1.2) rfl rfl rfl rfl (Nat.le_of_ble_eq_true rfl) dX7_cross_62 (fun z30 L31 f32 hz33 => ?_)
            obtain ⟨rfl, rfl, hM29⟩ := hz33
            change ZW G pZ la eZ (zRm 7 0 0) sZ mZ aZ bZ hZ cZ AZ 3 0 0 _ L f32 65 [(0, .ref o), (1, .int (iI l)), (2, .int (iI m))] [.int (iI 0)]
            exact z_ireturn C dX7_cross_65 (Nat.le_of_ble_eq_true rfl) (Nat.le_of_ble_eq_true rfl) ⟨rfl, _, _, _, _, hM29, by unfold o_cross; (rw [if_pos (by omega), if_pos (by first | omega | (refine ⟨by omega, ?_⟩; unfold spX at *; omega)), if_neg (by omega)]) <;> (refine Prod.ext ?_ (Prod.ext ?_ ?_) <;> first | rfl | omega | (dsimp only; omega) | (dsimp only; split <;> omega))⟩
          · refine z_aload_n C 0 dX7_cross_49 rfl ?_
            refine z_iload_n C 2 dX7_cross_50 rfl ?_
            refine z_iload_n C 1 dX7_cross_51 rfl ?_
            refine z_cV (As := [.int (iI m), .int (iI l)]) C zc_X7_own (c_X7_own hX hM8 hI m l (by omega) (by omega)) zl_7_166 (Nat.le_of_ble_eq_true rfl) (Nat.le_of_ble_eq_true rfl) (Nat.le_of_ble_eq_true rfl) (hM8.1.1) (hM8.1.2) rfl rfl rfl rfl (Nat.le_of_ble_eq_true rfl) dX7_cross_52 (fun z35 L36 f37 hz38 => ?_)
            obtain ⟨hz38, rfl, rfl⟩ := hz38
            subst hz38
            have hr34 : spOwn μ m l = zNO ∨ (-108 ≤ spOwn μ m l ∧ spOwn μ m l ≤ 208) := spRed_rng hI (l := m) _ (s := 0) (by omega) (by omega)
            change ZW G pZ la eZ (zRm 7 0 0) sZ mZ aZ bZ hZ cZ AZ 3 0 0 _ L f13 55 [(0, .ref o), (1, .int (iI l)), (2, .int (iI m))] [.int (iI (spOwn μ m l))]
            refine z_ldc (n := (-2147483648)) C zl_7_2 rfl dX7_cross_55 ?_
            refine z_icmp_ne C 66 dX7_cross_57 (by decide) (by omega) (by omega) (fun h57 => ?_) (fun h57 => ?_)
            · refine z_aload_n C 0 dX7_cross_66 rfl ?_
              refine z_iload_n C 1 dX7_cross_67 rfl ?_
              refine z_iload_n C 2 dX7_cross_68 rfl ?_
              refine z_cV (As := [.int (iI l), .int (iI m)]) C zc_X7_own (c_X7_own hX hM8 hI l m (by omega) (by omega)) zl_7_166 (Nat.le_of_ble_eq_true rfl) (Nat.le_of_ble_eq_true rfl) (Nat.le_of_ble_eq_true rfl) (hM8.1.1) (hM8.1.2) rfl rfl rfl rfl (Nat.le_of_ble_eq_true rfl) dX7_cross_69 (fun z40 L41 f42 hz43 => ?_)
              obtain ⟨hz43, rfl, rfl⟩ := hz43
              subst hz43
              have hr39 : spOwn μ l m = zNO ∨ (-108 ≤ spOwn μ l m ∧ spOwn μ l m ≤ 208) := spRed_rng hI (l := l) _ (s := 0) (by omega) (by omega)
              change ZW G pZ la eZ (zRm 7 0 0) sZ mZ aZ bZ hZ cZ AZ 3 0 0 _ L f13 72 [(0, .ref o), (1, .int (iI l)), (2, .int (iI m))] [.int (iI (spOwn μ l m))]
              refine z_aload_n C 0 dX7_cross_72 rfl ?_
              refine z_iload_n C 2 dX7_cross_73 rfl ?_
              refine z_iload_n C 1 dX7_cross_74 rfl ?_
              refine z_cV (As := [.int (iI m), .int (iI l)]) C zc_X7_own (c_X7_own hX hM8 hI m l (by omega) (by omega)) zl_7_166 (Nat.le_of_ble_eq_true rfl) (Nat.le_of_ble_eq_true rfl) (Nat.le_of_ble_eq_true rfl) (hM8.1.1) (hM8.1.2) rfl rfl rfl rfl (Nat.le_of_ble_eq_true rfl) dX7_cross_75 (fun z45 L46 f47 hz48 => ?_)
              obtain ⟨hz48, rfl, rfl⟩ := hz48
              subst hz48
              have hr44 : spOwn μ m l = zNO ∨ (-108 ≤ spOwn μ m l ∧ spOwn μ m l ≤ 208) := spRed_rng hI (l := m) _ (s := 0) (by omega) (by omega)
              change ZW G pZ la eZ (zRm 7 0 0) sZ mZ aZ bZ hZ cZ AZ 3 0 0 _ L f13 78 [(0, .ref o), (1, .int (iI l)), (2, .int (iI m))] [.int (iI (spOwn μ m l)), .int (iI (spOwn μ l m))]
              refine z_isub C dX7_cross_78 ?_
              exact z_ireturn C dX7_cross_79 (Nat.le_of_ble_eq_true rfl) (Nat.le_of_ble_eq_true rfl) ⟨rfl, _, _, _, _, hM8, by unfold o_cross; (rw [if_pos (by omega), if_pos (by first | omega | (refine ⟨by omega, ?_⟩; unfold spX at *; omega)), if_pos (by omega)]) <;> (refine Prod.ext ?_ (Prod.ext ?_ ?_) <;> first | rfl | omega | (dsimp only; omega) | (dsimp only; split <;> omega))⟩
            · refine z_aload_n C 0 dX7_cross_60 rfl ?_
              refine z_iconst C dX7_cross_61 ?_
              refine z_cV (As := [.int (iI 3)]) C zc_X7_refuse (c_X7_refuse hX hM8 3) zl_6_179 (Nat.le_of_ble_eq_true rfl) (Nat.le_of_ble_eq_true rfl) (Nat.le_of_ble_eq_true rfl) (hM8.1.1) (hM8.1.2) rfl rfl rfl rfl (Nat.le_of_ble_eq_true rfl) dX7_cross_62 (fun z50 L51 f52 hz53 => ?_)
              obtain ⟨rfl, rfl, hM49⟩ := hz53
              change ZW G pZ la eZ (zRm 7 0 0) sZ mZ aZ bZ hZ cZ AZ 3 0 0 _ L f52 65 [(0, .ref o), (1, .int (iI l)), (2, .int (iI m))] [.int (iI 0)]
              exact z_ireturn C dX7_cross_65 (Nat.le_of_ble_eq_true rfl) (Nat.le_of_ble_eq_true rfl) ⟨rfl, _, _, _, _, hM49, by unfold o_cross; (rw [if_pos (by omega), if_pos (by first | omega | (refine ⟨by omega, ?_⟩; unfold spX at *; omega)), if_neg (by omega)]) <;> (refine Prod.ext ?_ (Prod.ext ?_ ?_) <;> first | rfl | omega | (dsimp only; omega) | (dsimp only; split <;> omega))⟩
        · refine z_aload_n C 0 dX7_cross_32 rfl ?_
          refine z_iconst C dX7_cross_33 ?_
          refine z_cV (As := [.int (iI 2)]) C zc_X7_refuse (c_X7_refuse hX hM8 2) zl_6_179 (Nat.le_of_ble_eq_true rfl) (Nat.le_of_ble_eq_true rfl) (Nat.le_of_ble_eq_true rfl) (hM8.1.1) (hM8.1.2) rfl rfl rfl rfl (Nat.le_of_ble_eq_true rfl) dX7_cross_34 (fun z55 L56 f57 hz58 => ?_)
          obtain ⟨rfl, rfl, hM54⟩ := hz58
          change ZW G pZ la eZ (zRm 7 0 0) sZ mZ aZ bZ hZ cZ AZ 3 0 0 _ L f57 37 [(0, .ref o), (1, .int (iI l)), (2, .int (iI m))] [.int (iI 0)]
          exact z_ireturn C dX7_cross_37 (Nat.le_of_ble_eq_true rfl) (Nat.le_of_ble_eq_true rfl) ⟨rfl, _, _, _, _, hM54, by unfold o_cross; (rw [if_pos (by omega), if_neg (by first | omega | (intro z; have z1 := z.1; have z2 := z.2; first | omega | (unfold spX at *; omega)))]) <;> (refine Prod.ext ?_ (Prod.ext ?_ ?_) <;> first | rfl | omega | (dsimp only; omega) | (dsimp only; split <;> omega))⟩
    · refine z_iconst C dX7_cross_16 ?_
      exact z_ireturn C dX7_cross_17 (Nat.le_of_ble_eq_true rfl) (Nat.le_of_ble_eq_true rfl) ⟨rfl, _, _, _, _, hM8, by unfold o_cross; (rw [if_neg (by omega)]) <;> (refine Prod.ext ?_ (Prod.ext ?_ ?_) <;> first | rfl | omega | (dsimp only; omega) | (dsimp only; split <;> omega))⟩

set_option maxRecDepth 100000 in
set_option maxHeartbeats 1000000 in
theorem c_X7_worstCross {la : Launch} {G : zG} {X : (Nat → Prop) → State → Prop} (hX : zX X) {L : List Nat} {f : Nat → va_E} {o : Nat} {ad : Nat → Nat} {μ : zMu} {t : Int} {u v : Int → Int} (hM : MR G L f o ad μ t u v) (hI : MI μ)   : zM la G X yX7_worstCross (.code yX7_worstCross cX7_worstCross 4 (some .int) :: zT) 7 0 0 [.ref o] L f zeI (fun z L' f' => L = L' ∧ ∃ t' μ' u' v', MR G L f' o ad μ' t' u' v' ∧ o_worst μ = (t', if t' = 0 then z else 0, μ')) := by
  refine zM_intro hX (by decide) (Nat.le_of_ble_eq_true rfl) (fun pZ eZ sZ mZ aZ bZ hZ cZ AZ C hini => ?_)
  change ZW G pZ la eZ (zRm 7 0 0) sZ mZ aZ bZ hZ cZ AZ 4 0 0 _ L f 0 [(0, .ref o)] []
  have hn9 := hI.n
  have hNO : zNO = -2147483648 := rfl
  
  refine z_iconst C dX7_worstCross_0 ?_
  refine z_istore_n (ls' := [(1, .int (iI (-1))), (0, .ref o)]) C dX7_worstCross_1 (Nat.le_of_ble_eq_true rfl) rfl ?_
  refine z_iconst C dX7_worstCross_2 ?_
  refine z_istore_n (ls' := [(2, .int (iI 0)), (1, .int (iI (-1))), (0, .ref o)]) C dX7_worstCross_3 (Nat.le_of_ble_eq_true rfl) rfl ?_
  have key4 : ∀ (n4 : Nat) (w : Int) (l : Int) , (0 ≤ l ∧ l ≤ μ 2 0 ∧ w = zfold (fun l => spWm μ l (μ 2 0).toNat) l.toNat (-1)) → μ 2 0 - l < (n4 : Int) → ZW G pZ la eZ (zRm 7 0 0) sZ mZ aZ bZ hZ cZ AZ 4 0 0 (MQ bZ (zQ G zeI (fun z L' f' => L = L' ∧ ∃ t' μ' u' v', MR G L f' o ad μ' t' u' v' ∧ o_worst μ = (t', if t' = 0 then z else 0, μ')) AZ) aZ sZ 0 0 AZ) L f 4 [(0, .ref o), (1, .int (iI w)), (2, .int (iI l))] [] := by
    intro n4
    induction n4 with
    | zero => intro w l  hi4 hn4; exfalso; omega
    | succ n4 ih4 =>
      intro w l  hi4 hn4
      obtain ⟨hl0, hl1, hw⟩ := hi4
      refine z_iload_n C 2 dX7_worstCross_4 rfl ?_
      refine z_aload_n C 0 dX7_worstCross_5 rfl ?_
      refine z_getf C 2 zin_X7 (hM.1.1) (hM.1.2) rfl (Nat.le_of_ble_eq_true rfl) zl_6_100 rfl rfl dX7_worstCross_6 ?_
      refine z_icmp_ge C 99 dX7_worstCross_9 (by decide) (by omega) (by omega) (fun h9 => ?_) (fun h9 => ?_)
      · have hw8 := spWl_r hI (n := l.toNat) (by omega)
        refine z_iload_n C 1 dX7_worstCross_99 rfl ?_
        refine z_if_ge C 109 dX7_worstCross_100 (by decide) (by omega) (fun h100 => ?_) (fun h100 => ?_)
        · refine z_aload_n C 0 dX7_worstCross_109 rfl ?_
          refine z_iconst C dX7_worstCross_110 ?_
          refine m_put0 C hM dX7_worstCross_111 (fun f1 hM2 => ?_)
          refine z_iload_n C 1 dX7_worstCross_114 rfl ?_
          exact z_ireturn C dX7_worstCross_115 (Nat.le_of_ble_eq_true rfl) (Nat.le_of_ble_eq_true rfl) ⟨rfl, _, _, _, _, hM2, by unfold o_worst; (rw [show spWorst μ = w by rw [hw]; unfold spWorst; rw [show (μ 2 0).toNat = l.toNat by omega], if_neg (by omega)]) <;> (refine Prod.ext ?_ (Prod.ext ?_ ?_) <;> first | rfl | omega | (dsimp only; omega) | (dsimp only; split <;> omega))⟩
        · refine z_aload_n C 0 dX7_worstCross_103 rfl ?_
          refine z_iconst C dX7_worstCross_104 ?_
          refine z_cV (As := [.int (iI 1)]) C zc_X7_refuse (c_X7_refuse hX hM 1) zl_6_179 (Nat.le_of_ble_eq_true rfl) (Nat.le_of_ble_eq_true rfl) (Nat.le_of_ble_eq_true rfl) (hM.1.1) (hM.1.2) rfl rfl rfl rfl (Nat.le_of_ble_eq_true rfl) dX7_worstCross_105 (fun z4 L5 f6 hz7 => ?_)
          obtain ⟨rfl, rfl, hM3⟩ := hz7
          change ZW G pZ la eZ (zRm 7 0 0) sZ mZ aZ bZ hZ cZ AZ 4 0 0 _ L f6 108 [(0, .ref o), (1, .int (iI w)), (2, .int (iI l))] [.int (iI 0)]
          exact z_ireturn C dX7_worstCross_108 (Nat.le_of_ble_eq_true rfl) (Nat.le_of_ble_eq_true rfl) ⟨rfl, _, _, _, _, hM3, by unfold o_worst; (rw [show spWorst μ = w by rw [hw]; unfold spWorst; rw [show (μ 2 0).toNat = l.toNat by omega], if_pos (by omega)]) <;> (refine Prod.ext ?_ (Prod.ext ?_ ?_) <;> first | rfl | omega | (dsimp only; omega) | (dsimp only; split <;> omega))⟩
      · refine z_iconst C dX7_worstCross_12 ?_
        refine z_istore_n (ls' := [(3, .int (iI 0)), (0, .ref o), (1, .int (iI w)), (2, .int (iI l))]) C dX7_worstCross_13 (Nat.le_of_ble_eq_true rfl) rfl ?_
        have key14 : ∀ (n14 : Nat) (w2 : Int) (m : Int) , (0 ≤ m ∧ m ≤ μ 2 0 ∧ w2 = spWm μ l m.toNat w) → μ 2 0 - m < (n14 : Int) → ZW G pZ la eZ (zRm 7 0 0) sZ mZ aZ bZ hZ cZ AZ 4 0 0 (MQ bZ (zQ G zeI (fun z L' f' => L = L' ∧ ∃ t' μ' u' v', MR G L f' o ad μ' t' u' v' ∧ o_worst μ = (t', if t' = 0 then z else 0, μ')) AZ) aZ sZ 0 0 AZ) L f 14 [(0, .ref o), (1, .int (iI w2)), (2, .int (iI l)), (3, .int (iI m))] [] := by
          intro n14
          induction n14 with
          | zero => intro w2 m  hi14 hn14; exfalso; omega
          | succ n14 ih14 =>
            intro w2 m  hi14 hn14
            obtain ⟨hm0, hm1, hw2⟩ := hi14
            refine z_iload_n C 3 dX7_worstCross_14 rfl ?_
            refine z_aload_n C 0 dX7_worstCross_15 rfl ?_
            refine z_getf C 2 zin_X7 (hM.1.1) (hM.1.2) rfl (Nat.le_of_ble_eq_true rfl) zl_6_100 rfl rfl dX7_worstCross_16 ?_
            refine z_icmp_ge C 93 dX7_worstCross_19 (by decide) (by omega) (by omega) (fun h19 => ?_) (fun h19 => ?_)
            · refine z_iinc (ls' := [(2, .int (iI (l + 1))), (0, .ref o), (1, .int (iI w2)), (3, .int (iI m))]) C 2 dX7_worstCross_93 rfl (Nat.le_of_ble_eq_true rfl) rfl ?_
              refine z_goto C 4 dX7_worstCross_96 (by decide) ?_
              refine z_perm [1, 2, 0] rfl ?_
              exact ih4 _ _  ⟨by omega, by omega, by rw [zfold_s _ hl0, ← hw, hw2, show (μ 2 0).toNat = m.toNat by omega]⟩ (by omega)
            · have hw9 := spWm_r hI (l := l) (by omega) (n := m.toNat) (by omega) (w := w) (by rw [hw]; exact spWl_r hI (by omega))
              refine z_aload_n C 0 dX7_worstCross_22 rfl ?_
              refine z_iload_n C 2 dX7_worstCross_23 rfl ?_
              refine z_iload_n C 3 dX7_worstCross_24 rfl ?_
              refine z_cV (As := [.int (iI l), .int (iI m)]) C zc_X7_isCrossing (c_X7_isCrossing hX hM hI l m (by omega) (by omega)) zl_7_158 (Nat.le_of_ble_eq_true rfl) (Nat.le_of_ble_eq_true rfl) (Nat.le_of_ble_eq_true rfl) (hM.1.1) (hM.1.2) rfl rfl rfl rfl (Nat.le_of_ble_eq_true rfl) dX7_worstCross_25 (fun zx8 L10 f11 hx9 => ?_)
              obtain ⟨hx9, rfl, rfl⟩ := hx9
              have hx9 : zx8 = 0 ∧ ¬ spX μ l m ∨ zx8 = 1 ∧ spX μ l m := hx9
              change ZW G pZ la eZ (zRm 7 0 0) sZ mZ aZ bZ hZ cZ AZ 4 0 0 _ L f 28 [(0, .ref o), (1, .int (iI w2)), (2, .int (iI l)), (3, .int (iI m))] [.int (iI zx8)]
              refine z_if_eq C 87 dX7_worstCross_28 (by decide) (by omega) (fun h28 => ?_) (fun h28 => ?_)
              · refine z_iinc (ls' := [(3, .int (iI (m + 1))), (0, .ref o), (1, .int (iI w2)), (2, .int (iI l))]) C 3 dX7_worstCross_87 rfl (Nat.le_of_ble_eq_true rfl) rfl ?_
                refine z_goto C 14 dX7_worstCross_90 (by decide) ?_
                refine z_perm [1, 2, 3, 0] rfl ?_
                exact ih14 _ _  ⟨by omega, by omega, by unfold spWm; rw [zfold_s _ hm0]; unfold spWm at hw2; rw [← hw2]; unfold spWu; first | (rw [if_pos (by refine ⟨by first | assumption | (unfold spX at *; omega), by omega, by omega, by omega⟩)]) | (rw [if_neg (by intro z; have z1 := z.1; have z2 := z.2.1; have z3 := z.2.2.1; have z4 := z.2.2.2; first | omega | (unfold spX at *; omega))])⟩ (by omega)
              · refine z_aload_n C 0 dX7_worstCross_31 rfl ?_
                refine z_iload_n C 2 dX7_worstCross_32 rfl ?_
                refine z_iload_n C 3 dX7_worstCross_33 rfl ?_
                refine z_cV (As := [.int (iI l), .int (iI m)]) C zc_X7_own (c_X7_own hX hM hI l m (by omega) (by omega)) zl_7_166 (Nat.le_of_ble_eq_true rfl) (Nat.le_of_ble_eq_true rfl) (Nat.le_of_ble_eq_true rfl) (hM.1.1) (hM.1.2) rfl rfl rfl rfl (Nat.le_of_ble_eq_true rfl) dX7_worstCross_34 (fun z13 L14 f15 hz16 => ?_)
                obtain ⟨hz16, rfl, rfl⟩ := hz16
                subst hz16
                have hr12 : spOwn μ l m = zNO ∨ (-108 ≤ spOwn μ l m ∧ spOwn μ l m ≤ 208) := spRed_rng hI (l := l) _ (s := 0) (by omega) (by omega)
                change ZW G pZ la eZ (zRm 7 0 0) sZ mZ aZ bZ hZ cZ AZ 4 0 0 _ L f 37 [(0, .ref o), (1, .int (iI w2)), (2, .int (iI l)), (3, .int (iI m))] [.int (iI (spOwn μ l m))]
                refine z_ldc (n := (-2147483648)) C zl_7_2 rfl dX7_worstCross_37 ?_
                refine z_icmp_eq C 87 dX7_worstCross_39 (by decide) (by omega) (by omega) (fun h39 => ?_) (fun h39 => ?_)
                · refine z_iinc (ls' := [(3, .int (iI (m + 1))), (0, .ref o), (1, .int (iI w2)), (2, .int (iI l))]) C 3 dX7_worstCross_87 rfl (Nat.le_of_ble_eq_true rfl) rfl ?_
                  refine z_goto C 14 dX7_worstCross_90 (by decide) ?_
                  refine z_perm [1, 2, 3, 0] rfl ?_
                  exact ih14 _ _  ⟨by omega, by omega, by unfold spWm; rw [zfold_s _ hm0]; unfold spWm at hw2; rw [← hw2]; unfold spWu; first | (rw [if_pos (by refine ⟨by first | assumption | (unfold spX at *; omega), by omega, by omega, by omega⟩)]) | (rw [if_neg (by intro z; have z1 := z.1; have z2 := z.2.1; have z3 := z.2.2.1; have z4 := z.2.2.2; first | omega | (unfold spX at *; omega))])⟩ (by omega)
                · refine z_aload_n C 0 dX7_worstCross_42 rfl ?_
                  refine z_iload_n C 3 dX7_worstCross_43 rfl ?_
                  refine z_iload_n C 2 dX7_worstCross_44 rfl ?_
                  refine z_cV (As := [.int (iI m), .int (iI l)]) C zc_X7_own (c_X7_own hX hM hI m l (by omega) (by omega)) zl_7_166 (Nat.le_of_ble_eq_true rfl) (Nat.le_of_ble_eq_true rfl) (Nat.le_of_ble_eq_true rfl) (hM.1.1) (hM.1.2) rfl rfl rfl rfl (Nat.le_of_ble_eq_true rfl) dX7_worstCross_45 (fun z18 L19 f20 hz21 => ?_)
                  obtain ⟨hz21, rfl, rfl⟩ := hz21
                  subst hz21
                  have hr17 : spOwn μ m l = zNO ∨ (-108 ≤ spOwn μ m l ∧ spOwn μ m l ≤ 208) := spRed_rng hI (l := m) _ (s := 0) (by omega) (by omega)
                  change ZW G pZ la eZ (zRm 7 0 0) sZ mZ aZ bZ hZ cZ AZ 4 0 0 _ L f 48 [(0, .ref o), (1, .int (iI w2)), (2, .int (iI l)), (3, .int (iI m))] [.int (iI (spOwn μ m l))]
                  refine z_ldc (n := (-2147483648)) C zl_7_2 rfl dX7_worstCross_48 ?_
                  refine z_icmp_ne C 56 dX7_worstCross_50 (by decide) (by omega) (by omega) (fun h50 => ?_) (fun h50 => ?_)
                  · refine z_aload_n C 0 dX7_worstCross_56 rfl ?_
                    refine z_iload_n C 2 dX7_worstCross_57 rfl ?_
                    refine z_iload_n C 3 dX7_worstCross_58 rfl ?_
                    refine z_cV (As := [.int (iI l), .int (iI m)]) C zc_X7_own (c_X7_own hX hM hI l m (by omega) (by omega)) zl_7_166 (Nat.le_of_ble_eq_true rfl) (Nat.le_of_ble_eq_true rfl) (Nat.le_of_ble_eq_true rfl) (hM.1.1) (hM.1.2) rfl rfl rfl rfl (Nat.le_of_ble_eq_true rfl) dX7_worstCross_59 (fun z23 L24 f25 hz26 => ?_)
                    obtain ⟨hz26, rfl, rfl⟩ := hz26
                    subst hz26
                    have hr22 : spOwn μ l m = zNO ∨ (-108 ≤ spOwn μ l m ∧ spOwn μ l m ≤ 208) := spRed_rng hI (l := l) _ (s := 0) (by omega) (by omega)
                    change ZW G pZ la eZ (zRm 7 0 0) sZ mZ aZ bZ hZ cZ AZ 4 0 0 _ L f 62 [(0, .ref o), (1, .int (iI w2)), (2, .int (iI l)), (3, .int (iI m))] [.int (iI (spOwn μ l m))]
                    refine z_aload_n C 0 dX7_worstCross_62 rfl ?_
                    refine z_iload_n C 3 dX7_worstCross_63 rfl ?_
                    refine z_iload_n C 2 dX7_worstCross_64 rfl ?_
                    refine z_cV (As := [.int (iI m), .int (iI l)]) C zc_X7_own (c_X7_own hX hM hI m l (by omega) (by omega)) zl_7_166 (Nat.le_of_ble_eq_true rfl) (Nat.le_of_ble_eq_true rfl) (Nat.le_of_ble_eq_true rfl) (hM.1.1) (hM.1.2) rfl rfl rfl rfl (Nat.le_of_ble_eq_true rfl) dX7_worstCross_65 (fun z28 L29 f30 hz31 => ?_)
                    obtain ⟨hz31, rfl, rfl⟩ := hz31
                    subst hz31
                    have hr27 : spOwn μ m l = zNO ∨ (-108 ≤ spOwn μ m l ∧ spOwn μ m l ≤ 208) := spRed_rng hI (l := m) _ (s := 0) (by omega) (by omega)
                    change ZW G pZ la eZ (zRm 7 0 0) sZ mZ aZ bZ hZ cZ AZ 4 0 0 _ L f 68 [(0, .ref o), (1, .int (iI w2)), (2, .int (iI l)), (3, .int (iI m))] [.int (iI (spOwn μ m l)), .int (iI (spOwn μ l m))]
                    refine z_isub C dX7_worstCross_68 ?_
                    refine z_iload_n C 1 dX7_worstCross_69 rfl ?_
                    refine z_icmp_le C 87 dX7_worstCross_70 (by decide) (by omega) (by omega) (fun h70 => ?_) (fun h70 => ?_)
                    · refine z_iinc (ls' := [(3, .int (iI (m + 1))), (0, .ref o), (1, .int (iI w2)), (2, .int (iI l))]) C 3 dX7_worstCross_87 rfl (Nat.le_of_ble_eq_true rfl) rfl ?_
                      refine z_goto C 14 dX7_worstCross_90 (by decide) ?_
                      refine z_perm [1, 2, 3, 0] rfl ?_
                      exact ih14 _ _  ⟨by omega, by omega, by unfold spWm; rw [zfold_s _ hm0]; unfold spWm at hw2; rw [← hw2]; unfold spWu; first | (rw [if_pos (by refine ⟨by first | assumption | (unfold spX at *; omega), by omega, by omega, by omega⟩)]) | (rw [if_neg (by intro z; have z1 := z.1; have z2 := z.2.1; have z3 := z.2.2.1; have z4 := z.2.2.2; first | omega | (unfold spX at *; omega))])⟩ (by omega)
                    · refine z_aload_n C 0 dX7_worstCross_73 rfl ?_
                      refine z_iload_n C 2 dX7_worstCross_74 rfl ?_
                      refine z_iload_n C 3 dX7_worstCross_75 rfl ?_
                      refine z_cV (As := [.int (iI l), .int (iI m)]) C zc_X7_own (c_X7_own hX hM hI l m (by omega) (by omega)) zl_7_166 (Nat.le_of_ble_eq_true rfl) (Nat.le_of_ble_eq_true rfl) (Nat.le_of_ble_eq_true rfl) (hM.1.1) (hM.1.2) rfl rfl rfl rfl (Nat.le_of_ble_eq_true rfl) dX7_worstCross_76 (fun z33 L34 f35 hz36 => ?_)
                      obtain ⟨hz36, rfl, rfl⟩ := hz36
                      subst hz36
                      have hr32 : spOwn μ l m = zNO ∨ (-108 ≤ spOwn μ l m ∧ spOwn μ l m ≤ 208) := spRed_rng hI (l := l) _ (s := 0) (by omega) (by omega)
                      change ZW G pZ la eZ (zRm 7 0 0) sZ mZ aZ bZ hZ cZ AZ 4 0 0 _ L f 79 [(0, .ref o), (1, .int (iI w2)), (2, .int (iI l)), (3, .int (iI m))] [.int (iI (spOwn μ l m))]
                      refine z_aload_n C 0 dX7_worstCross_79 rfl ?_
                      refine z_iload_n C 3 dX7_worstCross_80 rfl ?_
                      refine z_iload_n C 2 dX7_worstCross_81 rfl ?_
                      refine z_cV (As := [.int (iI m), .int (iI l)]) C zc_X7_own (c_X7_own hX hM hI m l (by omega) (by omega)) zl_7_166 (Nat.le_of_ble_eq_true rfl) (Nat.le_of_ble_eq_true rfl) (Nat.le_of_ble_eq_true rfl) (hM.1.1) (hM.1.2) rfl rfl rfl rfl (Nat.le_of_ble_eq_true rfl) dX7_worstCross_82 (fun z38 L39 f40 hz41 => ?_)
                      obtain ⟨hz41, rfl, rfl⟩ := hz41
                      subst hz41
                      have hr37 : spOwn μ m l = zNO ∨ (-108 ≤ spOwn μ m l ∧ spOwn μ m l ≤ 208) := spRed_rng hI (l := m) _ (s := 0) (by omega) (by omega)
                      change ZW G pZ la eZ (zRm 7 0 0) sZ mZ aZ bZ hZ cZ AZ 4 0 0 _ L f 85 [(0, .ref o), (1, .int (iI w2)), (2, .int (iI l)), (3, .int (iI m))] [.int (iI (spOwn μ m l)), .int (iI (spOwn μ l m))]
                      refine z_isub C dX7_worstCross_85 ?_
                      refine z_istore_n (ls' := [(1, .int (iI ((spOwn μ l m) - (spOwn μ m l)))), (0, .ref o), (2, .int (iI l)), (3, .int (iI m))]) C dX7_worstCross_86 (Nat.le_of_ble_eq_true rfl) rfl ?_
                      refine z_iinc (ls' := [(3, .int (iI (m + 1))), (1, .int (iI ((spOwn μ l m) - (spOwn μ m l)))), (0, .ref o), (2, .int (iI l))]) C 3 dX7_worstCross_87 rfl (Nat.le_of_ble_eq_true rfl) rfl ?_
                      refine z_goto C 14 dX7_worstCross_90 (by decide) ?_
                      refine z_perm [2, 1, 3, 0] rfl ?_
                      exact ih14 _ _  ⟨by omega, by omega, by unfold spWm; rw [zfold_s _ hm0]; unfold spWm at hw2; rw [← hw2]; unfold spWu; first | (rw [if_pos (by refine ⟨by first | assumption | (unfold spX at *; omega), by omega, by omega, by omega⟩)]) | (rw [if_neg (by intro z; have z1 := z.1; have z2 := z.2.1; have z3 := z.2.2.1; have z4 := z.2.2.2; first | omega | (unfold spX at *; omega))])⟩ (by omega)
                  · refine z_goto C 87 dX7_worstCross_53 (by decide) ?_
                    refine z_iinc (ls' := [(3, .int (iI (m + 1))), (0, .ref o), (1, .int (iI w2)), (2, .int (iI l))]) C 3 dX7_worstCross_87 rfl (Nat.le_of_ble_eq_true rfl) rfl ?_
                    refine z_goto C 14 dX7_worstCross_90 (by decide) ?_
                    refine z_perm [1, 2, 3, 0] rfl ?_
                    exact ih14 _ _  ⟨by omega, by omega, by unfold spWm; rw [zfold_s _ hm0]; unfold spWm at hw2; rw [← hw2]; unfold spWu; first | (rw [if_pos (by refine ⟨by first | assumption | (unfold spX at *; omega), by omega, by omega, by omega⟩)]) | (rw [if_neg (by intro z; have z1 := z.1; have z2 := z.2.1; have z3 := z.2.2.1; have z4 := z.2.2.2; first | omega | (unfold spX at *; omega))])⟩ (by omega)
        refine z_perm [1, 2, 3, 0] rfl ?_
        exact key14 2000 _ _  ⟨by omega, by omega, rfl⟩ (by omega)
  refine z_perm [2, 1, 0] rfl ?_
  exact key4 2000 _ _  ⟨by omega, by omega, rfl⟩ (by omega)

set_option maxRecDepth 100000 in
set_option maxHeartbeats 200000 in
theorem c_X7_hoursOf {la : Launch} {G : zG} {X : (Nat → Prop) → State → Prop} (hX : zX X) {L : List Nat} {f : Nat → va_E} {o : Nat} {ad : Nat → Nat} {μ : zMu} {t : Int} {u v : Int → Int} (hM : MR G L f o ad μ t u v) (hI : MI μ) (d : Int) (hd : zR d) : zM la G X yX7_hoursOf (.code yX7_hoursOf cX7_hoursOf 4 (some .int) :: zT) 1 0 0 [.ref o, .int (iI d)] L f zeI (zRd L f (fun z => z = spHours μ d)) := by
  refine zM_intro hX (by decide) (Nat.le_of_ble_eq_true rfl) (fun pZ eZ sZ mZ aZ bZ hZ cZ AZ C hini => ?_)
  change ZW G pZ la eZ (zRm 1 0 0) sZ mZ aZ bZ hZ cZ AZ 4 0 0 _ L f 0 [(0, .ref o), (1, .int (iI d))] []
  have hn9 := hI.n
  have hNO : zNO = -2147483648 := rfl
  
  refine z_iconst C dX7_hoursOf_0 ?_
  refine z_istore_n (ls' := [(2, .int (iI 0)), (0, .ref o), (1, .int (iI d))]) C dX7_hoursOf_1 (Nat.le_of_ble_eq_true rfl) rfl ?_
  refine z_iconst C dX7_hoursOf_2 ?_
  refine z_istore_n (ls' := [(3, .int (iI 0)), (2, .int (iI 0)), (0, .ref o), (1, .int (iI d))]) C dX7_hoursOf_3 (Nat.le_of_ble_eq_true rfl) rfl ?_
  have key4 : ∀ (n4 : Nat) (m : Int) (l : Int) , (0 ≤ l ∧ l ≤ μ 2 0 ∧ m = zsum (spHr μ d) l.toNat) → μ 2 0 - l < (n4 : Int) → ZW G pZ la eZ (zRm 1 0 0) sZ mZ aZ bZ hZ cZ AZ 4 0 0 (MQ bZ (zQ G zeI (zRd L f (fun z => z = spHours μ d)) AZ) aZ sZ 0 0 AZ) L f 4 [(0, .ref o), (1, .int (iI d)), (2, .int (iI m)), (3, .int (iI l))] [] := by
    intro n4
    induction n4 with
    | zero => intro m l  hi4 hn4; exfalso; omega
    | succ n4 ih4 =>
      intro m l  hi4 hn4
      obtain ⟨hl0, hl1, hm⟩ := hi4
      refine z_iload_n C 3 dX7_hoursOf_4 rfl ?_
      refine z_aload_n C 0 dX7_hoursOf_5 rfl ?_
      refine z_getf C 2 zin_X7 (hM.1.1) (hM.1.2) rfl (Nat.le_of_ble_eq_true rfl) zl_6_100 rfl rfl dX7_hoursOf_6 ?_
      refine z_icmp_ge C 46 dX7_hoursOf_9 (by decide) (by omega) (by omega) (fun h9 => ?_) (fun h9 => ?_)
      · refine z_iload_n C 2 dX7_hoursOf_46 rfl ?_
        exact z_ireturn C dX7_hoursOf_47 (Nat.le_of_ble_eq_true rfl) (Nat.le_of_ble_eq_true rfl) ⟨by rw [hm]; unfold spHours; congr 1; omega, rfl, rfl⟩
      · have rg := spHr_rng hI.J d (n := l.toNat) (by omega)
        refine z_iload_n C 2 dX7_hoursOf_12 rfl ?_
        refine z_aload_n C 0 dX7_hoursOf_13 rfl ?_
        refine z_getf C 16 zin_X7 (hM.1.1) (hM.1.2) rfl (Nat.le_of_ble_eq_true rfl) zl_6_114 rfl rfl dX7_hoursOf_14 ?_
        refine z_iload_n C 3 dX7_hoursOf_17 rfl ?_
        refine z_iald C (MR_a16 hM) (by omega) (by omega) (by omega) dX7_hoursOf_18 ?_
        have hb1 := hI.J.b12 l (by omega) (by omega)
        refine z_iload_n C 1 dX7_hoursOf_19 rfl ?_
        refine z_icmp_ne C 37 dX7_hoursOf_20 (by decide) (by omega) (by omega) (fun h20 => ?_) (fun h20 => ?_)
        · refine z_iconst C dX7_hoursOf_37 ?_
          refine z_iadd C dX7_hoursOf_38 ?_
          refine z_nm (fun x2 hx2 => ?_)
          refine z_istore_n (ls' := [(2, .int (iI x2)), (0, .ref o), (1, .int (iI d)), (3, .int (iI l))]) C dX7_hoursOf_39 (Nat.le_of_ble_eq_true rfl) rfl ?_
          refine z_iinc (ls' := [(3, .int (iI (l + 1))), (2, .int (iI x2)), (0, .ref o), (1, .int (iI d))]) C 3 dX7_hoursOf_40 rfl (Nat.le_of_ble_eq_true rfl) rfl ?_
          refine z_goto C 4 dX7_hoursOf_43 (by decide) ?_
          refine z_perm [2, 3, 1, 0] rfl ?_
          exact ih4 _ _  ⟨by omega, by omega, by rw [zsum_s _ hl0, show spHr μ d l = if μ 16 l = d then 0 + (spSize μ l - 1) / 5 + 1 else 0 from rfl]; first | (rw [if_pos (by omega)]; omega) | (rw [if_neg (by omega)]; omega)⟩ (by omega)
        · refine z_aload_n C 0 dX7_hoursOf_23 rfl ?_
          refine z_iload_n C 3 dX7_hoursOf_24 rfl ?_
          refine z_cV (As := [.int (iI l)]) C zc_X7_size (c_X7_size hX hM hI.J l (by omega)) zl_7_22 (Nat.le_of_ble_eq_true rfl) (Nat.le_of_ble_eq_true rfl) (Nat.le_of_ble_eq_true rfl) (hM.1.1) (hM.1.2) rfl rfl rfl rfl (Nat.le_of_ble_eq_true rfl) dX7_hoursOf_25 (fun z4 L5 f6 hz7 => ?_)
          obtain ⟨hz7, rfl, rfl⟩ := hz7
          subst hz7
          have hr3 := spSize_rng hI.J (l := l) (by omega)
          change ZW G pZ la eZ (zRm 1 0 0) sZ mZ aZ bZ hZ cZ AZ 4 0 0 _ L f 28 [(0, .ref o), (1, .int (iI d)), (2, .int (iI m)), (3, .int (iI l))] [.int (iI (spSize μ l)), .int (iI m)]
          refine z_iconst C dX7_hoursOf_28 ?_
          refine z_cS (As := [.int (iI (spSize μ l)), .int (iI 0)]) C zc_X7_last (c_X7_last hX (spSize μ l) 0 (by omega) (by omega)) zl_7_15 (Nat.le_of_ble_eq_true rfl) (Nat.le_of_ble_eq_true rfl) (Nat.le_of_ble_eq_true rfl) rfl rfl (Nat.le_of_ble_eq_true rfl) dX7_hoursOf_29 (fun z8 L9 f10 hz11 => ?_)
          obtain ⟨hz11, rfl, rfl⟩ := hz11
          subst hz11
          change ZW G pZ la eZ (zRm 1 0 0) sZ mZ aZ bZ hZ cZ AZ 4 0 0 _ L f 32 [(0, .ref o), (1, .int (iI d)), (2, .int (iI m)), (3, .int (iI l))] [.int (iI (0 + ((spSize μ l) - 1) / 5)), .int (iI m)]
          refine z_iconst C dX7_hoursOf_32 ?_
          refine z_iadd C dX7_hoursOf_33 ?_
          refine z_goto C 38 dX7_hoursOf_34 (by decide) ?_
          refine z_iadd C dX7_hoursOf_38 ?_
          refine z_nm (fun x12 hx12 => ?_)
          refine z_istore_n (ls' := [(2, .int (iI x12)), (0, .ref o), (1, .int (iI d)), (3, .int (iI l))]) C dX7_hoursOf_39 (Nat.le_of_ble_eq_true rfl) rfl ?_
          refine z_iinc (ls' := [(3, .int (iI (l + 1))), (2, .int (iI x12)), (0, .ref o), (1, .int (iI d))]) C 3 dX7_hoursOf_40 rfl (Nat.le_of_ble_eq_true rfl) rfl ?_
          refine z_goto C 4 dX7_hoursOf_43 (by decide) ?_
          refine z_perm [2, 3, 1, 0] rfl ?_
          exact ih4 _ _  ⟨by omega, by omega, by rw [zsum_s _ hl0, show spHr μ d l = if μ 16 l = d then 0 + (spSize μ l - 1) / 5 + 1 else 0 from rfl]; first | (rw [if_pos (by omega)]; omega) | (rw [if_neg (by omega)]; omega)⟩ (by omega)
  refine z_perm [2, 3, 1, 0] rfl ?_
  exact key4 2000 _ _  ⟨by omega, by omega, rfl⟩ (by omega)

set_option maxRecDepth 100000 in
set_option maxHeartbeats 200000 in
theorem c_X7_hours {la : Launch} {G : zG} {X : (Nat → Prop) → State → Prop} (hX : zX X) {L : List Nat} {f : Nat → va_E} {o : Nat} {ad : Nat → Nat} {μ : zMu} {t : Int} {u v : Int → Int} (hM : MR G L f o ad μ t u v) (hI : MI μ) (d : Int) (hd : zR d) : zM la G X yX7_hours (.code yX7_hours cX7_hours 2 (some .int) :: zT) 3 0 0 [.ref o, .int (iI d)] L f zeI (fun z L' f' => L = L' ∧ ∃ t' μ' u' v', MR G L f' o ad μ' t' u' v' ∧ o_hours μ d = (t', if t' = 0 then z else 0, μ')) := by
  refine zM_intro hX (by decide) (Nat.le_of_ble_eq_true rfl) (fun pZ eZ sZ mZ aZ bZ hZ cZ AZ C hini => ?_)
  change ZW G pZ la eZ (zRm 3 0 0) sZ mZ aZ bZ hZ cZ AZ 2 0 0 _ L f 0 [(0, .ref o), (1, .int (iI d))] []
  have hn9 := hI.n
  have hNO : zNO = -2147483648 := rfl
  
  refine z_aload_n C 0 dX7_hours_0 rfl ?_
  refine z_iload_n C 1 dX7_hours_1 rfl ?_
  refine z_cV (As := [.int (iI d)]) C zc_X7_noDay (c_X7_noDay hX hM d (by omega) ) zl_6_195 (Nat.le_of_ble_eq_true rfl) (Nat.le_of_ble_eq_true rfl) (Nat.le_of_ble_eq_true rfl) (hM.1.1) (hM.1.2) rfl rfl rfl rfl (Nat.le_of_ble_eq_true rfl) dX7_hours_2 (fun z4 L5 f6 hz7 => ?_)
  obtain ⟨rfl, t2, hM1, he3⟩ := hz7
  change ZW G pZ la eZ (zRm 3 0 0) sZ mZ aZ bZ hZ cZ AZ 2 0 0 _ L f6 5 [(0, .ref o), (1, .int (iI d))] [.int (iI z4)]
  refine z_if_eq C 12 dX7_hours_5 (by decide) (by omega) (fun h5 => ?_) (fun h5 => ?_)
  · refine z_aload_n C 0 dX7_hours_12 rfl ?_
    refine z_iload_n C 1 dX7_hours_13 rfl ?_
    refine z_cV (As := [.int (iI d)]) C zc_X7_hoursOf (c_X7_hoursOf hX hM1 hI d (by omega)) zl_7_178 (Nat.le_of_ble_eq_true rfl) (Nat.le_of_ble_eq_true rfl) (Nat.le_of_ble_eq_true rfl) (hM1.1.1) (hM1.1.2) rfl rfl rfl rfl (Nat.le_of_ble_eq_true rfl) dX7_hours_14 (fun z9 L10 f11 hz12 => ?_)
    obtain ⟨hz12, rfl, rfl⟩ := hz12
    subst hz12
    have hr8 : 0 ≤ spHours μ d ∧ spHours μ d ≤ 4 * (μ 2 0).toNat := spHr_rng hI.J d (by omega)
    change ZW G pZ la eZ (zRm 3 0 0) sZ mZ aZ bZ hZ cZ AZ 2 0 0 _ L f6 17 [(0, .ref o), (1, .int (iI d))] [.int (iI (spHours μ d))]
    exact z_ireturn C dX7_hours_17 (Nat.le_of_ble_eq_true rfl) (Nat.le_of_ble_eq_true rfl) ⟨rfl, _, _, _, _, hM1, by unfold o_hours; (repeat' (first | (exfalso; omega) | split)) <;> (refine Prod.ext ?_ (Prod.ext ?_ ?_) <;> first | rfl | omega | (dsimp only; omega) | (dsimp only; split <;> omega))⟩
  · refine z_iconst C dX7_hours_8 ?_
    refine z_goto C 17 dX7_hours_9 (by decide) ?_
    exact z_ireturn C dX7_hours_17 (Nat.le_of_ble_eq_true rfl) (Nat.le_of_ble_eq_true rfl) ⟨rfl, _, _, _, _, hM1, by unfold o_hours; (repeat' (first | (exfalso; omega) | split)) <;> (refine Prod.ext ?_ (Prod.ext ?_ ?_) <;> first | rfl | omega | (dsimp only; omega) | (dsimp only; split <;> omega))⟩
