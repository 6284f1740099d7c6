set_option maxRecDepth 100000 in
set_option maxHeartbeats 1000000 in
theorem c_tideIn {la : Launch} {G : zG} {X : (Nat → Prop) → State → Prop} (hX : zX X) {L : List Nat} {f : Nat → va_E} {w p : Nat} {n : Int} {ga gr gx : Nat → Nat} {k : Int → Int} {σ : Nat → Int → Int} (hGs : zGs G L f w p n ga gr gx k σ) {v : Nat} {xr xa : Nat → Nat} {κ : zMu} (hS : zSea G L f v xr xa κ) (c d h : Int) (hn : 0 ≤ n ∧ n ≤ 3) (hk : ∀ g : Int, 0 ≤ g → g < n → 0 ≤ k g ∧ k g ≤ 19) (hK : zSK κ) (h01 : ∀ g : Nat, (g : Int) < n → ∀ i, 0 ≤ i → i < 240 → 0 ≤ σ g i ∧ σ g i ≤ 1) (hc : 0 ≤ c ∧ c ≤ 19) (hd : 0 ≤ d ∧ d ≤ 9) (hh : 0 ≤ h ∧ h ≤ 23) : zM la G X yX2_tideIn (.code yX2_tideIn cX2_tideIn 13 (some .int) :: zT) 4 0 0 [.ref w, .ref v, .int (iI c), .int (iI d), .int (iI h)] L f zeI (zRd L f (fun z => z = cN (spTd (gT σ κ k d h) k c (n - 0).toNat 0 (-1) (-1)))) := by
  refine zM_intro hX (by decide) (Nat.le_of_ble_eq_true rfl) (fun pZ eZ sZ mZ aZ bZ hZ cZ AZ C hini => ?_)
  change ZW G pZ la eZ (zRm 4 0 0) sZ mZ aZ bZ hZ cZ AZ 13 0 0 _ L f 0 [(0, .ref w), (1, .ref v), (2, .int (iI c)), (3, .int (iI d)), (4, .int (iI h))] []
  have hNO : zNO = -2147483648 := rfl
  have hTr : ∀ g, 0 ≤ g → g < n → (gT σ κ k d h) g = zNO ∨ (-10 ≤ (gT σ κ k d h) g ∧ (gT σ κ k d h) g ≤ 39) := fun g q0 q1 => zTl_rng hK _ (hk g q0 q1) hd hh
  refine z_iconst C dX2_tideIn_0 ?_
  refine z_istore (ls' := [(5, .int (iI (-1))), (0, .ref w), (1, .ref v), (2, .int (iI c)), (3, .int (iI d)), (4, .int (iI h))]) C dX2_tideIn_1 (Nat.le_of_ble_eq_true rfl) rfl ?_
  refine z_bipush C dX2_tideIn_3 (by decide) ?_
  refine z_istore (ls' := [(6, .int (iI 20)), (5, .int (iI (-1))), (0, .ref w), (1, .ref v), (2, .int (iI c)), (3, .int (iI d)), (4, .int (iI h))]) C dX2_tideIn_5 (Nat.le_of_ble_eq_true rfl) rfl ?_
  refine z_ldc (n := (-1000000)) C zl_2_31 rfl dX2_tideIn_7 ?_
  refine z_istore (ls' := [(7, .int (iI (-1000000))), (6, .int (iI 20)), (5, .int (iI (-1))), (0, .ref w), (1, .ref v), (2, .int (iI c)), (3, .int (iI d)), (4, .int (iI h))]) C dX2_tideIn_9 (Nat.le_of_ble_eq_true rfl) rfl ?_
  refine z_ldc (n := (-1000000)) C zl_2_31 rfl dX2_tideIn_11 ?_
  refine z_istore (ls' := [(8, .int (iI (-1000000))), (7, .int (iI (-1000000))), (6, .int (iI 20)), (5, .int (iI (-1))), (0, .ref w), (1, .ref v), (2, .int (iI c)), (3, .int (iI d)), (4, .int (iI h))]) C dX2_tideIn_13 (Nat.le_of_ble_eq_true rfl) rfl ?_
  refine z_iconst C dX2_tideIn_15 ?_
  refine z_istore (ls' := [(9, .int (iI 0)), (8, .int (iI (-1000000))), (7, .int (iI (-1000000))), (6, .int (iI 20)), (5, .int (iI (-1))), (0, .ref w), (1, .ref v), (2, .int (iI c)), (3, .int (iI d)), (4, .int (iI h))]) C dX2_tideIn_16 (Nat.le_of_ble_eq_true rfl) rfl ?_
  have key18 : ∀ (n18 : Nat) (lw : Int) (hg : Int) (lt : Int) (ht : Int) (g : Int) (lo : Int) (hi : Int), (0 ≤ g ∧ g ≤ n ∧ spTI (gT σ κ k d h) k c g lo hi ∧ spTd (gT σ κ k d h) k c (n - g).toNat g lo hi = spTd (gT σ κ k d h) k c (n - 0).toNat 0 (-1) (-1) ∧ zLh (gT σ κ k d h) k lo hi lw hg lt ht) → n - g < (n18 : Int) → ZW G pZ la eZ (zRm 4 0 0) sZ mZ aZ bZ hZ cZ AZ 13 0 0 (MQ bZ (zQ G zeI (zRd L f (fun z => z = cN (spTd (gT σ κ k d h) k c (n - 0).toNat 0 (-1) (-1)))) AZ) aZ sZ 0 0 AZ) L f 18 [(0, .ref w), (1, .ref v), (2, .int (iI c)), (3, .int (iI d)), (4, .int (iI h)), (5, .int (iI lw)), (6, .int (iI hg)), (7, .int (iI lt)), (8, .int (iI ht)), (9, .int (iI g))] [] := by
    intro n18
    induction n18 with
    | zero => intro lw hg lt ht g lo hi hi18 hn18; exfalso; omega
    | succ n18 ih18 =>
      intro lw hg lt ht g lo hi hi18 hn18
      obtain ⟨hg0, hg1, hTI, hS9, hLH⟩ := hi18
      refine z_iload C 9 dX2_tideIn_18 rfl ?_
      refine z_aload_n C 0 dX2_tideIn_20 rfl ?_
      refine z_getf C 1 zin_X2 (hGs.1.1) (hGs.1.2) rfl (Nat.le_of_ble_eq_true rfl) zl_1_85 rfl rfl dX2_tideIn_21 ?_
      refine z_icmp_ge C 135 dX2_tideIn_24 (by decide) (by omega) (by omega) (fun h24 => ?_) (fun h24 => ?_)
      · obtain ⟨i1, i2, i3, i4, i5, i6⟩ := id hTI
        obtain ⟨hL1, hL2⟩ := id hLH
        have r1 : 0 ≤ lo → 0 ≤ k lo ∧ k lo < c := fun q => ⟨(hk lo q (by omega)).1, (i5 q).2⟩
        have r2 : 0 ≤ hi → c < k hi ∧ k hi ≤ 19 := fun q => ⟨(i6 q).2, (hk hi q (by omega)).2⟩
        have r3 : 0 ≤ lo → -10 ≤ (gT σ κ k d h) lo ∧ (gT σ κ k d h) lo ≤ 39 := fun q => (hTr lo q (by omega)).resolve_left (i5 q).1
        have r4 : 0 ≤ hi → -10 ≤ (gT σ κ k d h) hi ∧ (gT σ κ k d h) hi ≤ 39 := fun q => (hTr hi q (by omega)).resolve_left (i6 q).1
        refine z_iload C 7 dX2_tideIn_135 rfl ?_
        refine z_ldc (n := (-1000000)) C zl_2_31 rfl dX2_tideIn_137 ?_
        refine z_icmp_ne C 145 dX2_tideIn_139 (by decide) (by omega) (by omega) (fun h139 => ?_) (fun h139 => ?_)
        · refine z_iload C 8 dX2_tideIn_145 rfl ?_
          refine z_ldc (n := (-1000000)) C zl_2_31 rfl dX2_tideIn_147 ?_
          refine z_icmp_ne C 157 dX2_tideIn_149 (by decide) (by omega) (by omega) (fun h149 => ?_) (fun h149 => ?_)
          · refine z_iload C 7 dX2_tideIn_157 rfl ?_
            refine z_iload C 8 dX2_tideIn_159 rfl ?_
            refine z_iload_n C 2 dX2_tideIn_161 rfl ?_
            refine z_iload C 5 dX2_tideIn_162 rfl ?_
            refine z_isub C dX2_tideIn_164 ?_
            refine z_iload C 6 dX2_tideIn_165 rfl ?_
            refine z_iload C 5 dX2_tideIn_167 rfl ?_
            refine z_isub C dX2_tideIn_169 ?_
            refine z_cSN (As := [.int (iI lt), .int (iI ht), .int (iI (c - lw)), .int (iI (hg - lw))]) C zc_X6_between (c_between hX lt ht (c - lw) (hg - lw) (by omega) (by omega) (by omega) (by have q := zprod (y := ht) (x := lt) (k := c - lw) (by omega) (by omega); omega) (by omega)) zn_37_RX2 (Nat.le_of_ble_eq_true rfl) (Nat.le_of_ble_eq_true rfl) (Nat.le_of_ble_eq_true rfl) rfl rfl (Nat.le_of_ble_eq_true rfl) dX2_tideIn_170 (fun z1 L2 f3 hz4 => ?_)
            obtain ⟨hz4, rfl, rfl⟩ := hz4
            subst hz4
            change ZW G pZ la eZ (zRm 4 0 0) sZ mZ aZ bZ hZ cZ AZ 13 0 0 _ L f 173 [(0, .ref w), (1, .ref v), (2, .int (iI c)), (3, .int (iI d)), (4, .int (iI h)), (5, .int (iI lw)), (6, .int (iI hg)), (7, .int (iI lt)), (8, .int (iI ht)), (9, .int (iI g))] [.int (iI (lt + ((ht - lt) * (c - lw)) / (hg - lw)))]
            exact z_ireturn C dX2_tideIn_173 (Nat.le_of_ble_eq_true rfl) (Nat.le_of_ble_eq_true rfl) ⟨by rw [← hS9, spTd_0 _ _ _ (by omega)]; unfold spFin; have e1 := hL1.resolve_left (by omega); have e2 := hL2.resolve_left (by omega); rw [if_neg (by omega), if_neg (by omega), if_neg (by omega), ← e1.2.1, ← e1.2.2, ← e2.2.1, ← e2.2.2, cN_in (zbtw (by omega) (by omega) (by omega) (by omega))], rfl, rfl⟩
          · refine z_iload C 7 dX2_tideIn_152 rfl ?_
            refine z_goto C 173 dX2_tideIn_154 (by decide) ?_
            exact z_ireturn C dX2_tideIn_173 (Nat.le_of_ble_eq_true rfl) (Nat.le_of_ble_eq_true rfl) ⟨by rw [← hS9, spTd_0 _ _ _ (by omega)]; unfold spFin; rw [if_neg (by omega), if_neg (by omega), if_pos (by omega), cN_in (by omega)]; omega, rfl, rfl⟩
        · refine z_iload C 8 dX2_tideIn_142 rfl ?_
          exact z_ireturn C dX2_tideIn_144 (Nat.le_of_ble_eq_true rfl) (Nat.le_of_ble_eq_true rfl) ⟨by rw [← hS9, spTd_0 _ _ _ (by omega)]; unfold spFin; rcases hL2 with q | q; (rw [if_pos (by omega), cN_no]; omega); (rw [if_neg (by omega), if_pos (by omega), cN_in (by omega)]; omega), rfl, rfl⟩
      · obtain ⟨i1, i2, i3, i4, i5, i6⟩ := id hTI
        obtain ⟨hL1, hL2⟩ := id hLH
        have r1 : 0 ≤ lo → 0 ≤ k lo ∧ k lo ≤ 19 := fun q => hk lo q (by omega)
        have r2 : 0 ≤ hi → 0 ≤ k hi ∧ k hi ≤ 19 := fun q => hk hi q (by omega)
        have r3 : 0 ≤ lo → -10 ≤ (gT σ κ k d h) lo ∧ (gT σ κ k d h) lo ≤ 39 := fun q => (hTr lo q (by omega)).resolve_left (i5 q).1
        have r4 : 0 ≤ hi → -10 ≤ (gT σ κ k d h) hi ∧ (gT σ κ k d h) hi ≤ 39 := fun q => (hTr hi q (by omega)).resolve_left (i6 q).1
        refine z_aload_n C 0 dX2_tideIn_27 rfl ?_
        refine z_iload C 9 dX2_tideIn_28 rfl ?_
        refine z_cV (As := [.int (iI g)]) C zc_X2_gaugeOrNull (c_gaugeAt hX hGs g hn (by omega)) zl_2_32 (Nat.le_of_ble_eq_true rfl) (Nat.le_of_ble_eq_true rfl) (Nat.le_of_ble_eq_true rfl) (hGs.1.1) (hGs.1.2) rfl rfl rfl rfl (Nat.le_of_ble_eq_true rfl) dX2_tideIn_30 (fun z5 L6 f7 hz8 => ?_)
        obtain ⟨hz8, rfl, rfl⟩ := hz8
        subst hz8
        change ZW G pZ la eZ (zRm 4 0 0) sZ mZ aZ bZ hZ cZ AZ 13 0 0 _ L f 33 [(0, .ref w), (1, .ref v), (2, .int (iI c)), (3, .int (iI d)), (4, .int (iI h)), (5, .int (iI lw)), (6, .int (iI hg)), (7, .int (iI lt)), (8, .int (iI ht)), (9, .int (iI g))] [.ref (ga (g).toNat)]
        refine z_astore (ls' := [(10, .ref (ga (g).toNat)), (0, .ref w), (1, .ref v), (2, .int (iI c)), (3, .int (iI d)), (4, .int (iI h)), (5, .int (iI lw)), (6, .int (iI hg)), (7, .int (iI lt)), (8, .int (iI ht)), (9, .int (iI g))]) C dX2_tideIn_33 (Nat.le_of_ble_eq_true rfl) rfl ?_
        refine z_aload C 0 dX2_tideIn_35 rfl ?_
        refine z_ifnonnullr C 45 dX2_tideIn_37 (by decide) ?_
        refine z_aload C 0 dX2_tideIn_45 rfl ?_
        refine z_aload_n C 2 dX2_tideIn_47 rfl ?_
        refine z_iload_n C 4 dX2_tideIn_48 rfl ?_
        refine z_iload C 5 dX2_tideIn_49 rfl ?_
        refine z_cV (As := [.ref v, .int (iI d), .int (iI h)]) C zc_X1_tellsIn (c_tellsIn hX (hGs.2.2 (g).toNat (by omega)) hS d h hK (h01 (g).toNat (by omega)) (by omega) (by omega) (hk _ (by omega) (by omega))) zl_2_36 (Nat.le_of_ble_eq_true rfl) (Nat.le_of_ble_eq_true rfl) (Nat.le_of_ble_eq_true rfl) ((hGs.2.2 (g).toNat (by omega)).1.1) ((hGs.2.2 (g).toNat (by omega)).1.2) rfl rfl rfl rfl (Nat.le_of_ble_eq_true rfl) dX2_tideIn_51 (fun zt L9 f10 hzt => ?_)
        obtain ⟨hzt, rfl, rfl⟩ := hzt
        have hzt2 : zt = cN ((gT σ κ k d h) g) := by have q := hzt; rw [Int.toNat_of_nonneg (by omega)] at q; exact q
        have htr := hTr g (by omega) (by omega)
        have htc : ((gT σ κ k d h) g = zNO ∧ zt = -1000000) ∨ ((gT σ κ k d h) g ≠ zNO ∧ zt = (gT σ κ k d h) g ∧ -10 ≤ zt ∧ zt ≤ 39) := by
          rcases htr with q | q
          · left; exact ⟨q, by rw [hzt2, q]; exact cN_no⟩
          · right; rw [cN_in (by omega)] at hzt2; exact ⟨by omega, hzt2, by omega, by omega⟩
        change ZW G pZ la eZ (zRm 4 0 0) sZ mZ aZ bZ hZ cZ AZ 13 0 0 _ L f 54 [(10, .ref (ga (g).toNat)), (0, .ref w), (1, .ref v), (2, .int (iI c)), (3, .int (iI d)), (4, .int (iI h)), (5, .int (iI lw)), (6, .int (iI hg)), (7, .int (iI lt)), (8, .int (iI ht)), (9, .int (iI g))] [.int (iI zt)]
        refine z_istore (ls' := [(11, .int (iI zt)), (10, .ref (ga (g).toNat)), (0, .ref w), (1, .ref v), (2, .int (iI c)), (3, .int (iI d)), (4, .int (iI h)), (5, .int (iI lw)), (6, .int (iI hg)), (7, .int (iI lt)), (8, .int (iI ht)), (9, .int (iI g))]) C dX2_tideIn_54 (Nat.le_of_ble_eq_true rfl) rfl ?_
        refine z_aload C 1 dX2_tideIn_56 rfl ?_
        refine z_ifnullr C dX2_tideIn_58 ?_
        refine z_iload C 0 dX2_tideIn_61 rfl ?_
        refine z_ldc (n := (-1000000)) C zl_2_31 rfl dX2_tideIn_63 ?_
        refine z_icmp_ne C 71 dX2_tideIn_65 (by decide) (by omega) (by omega) (fun h65 => ?_) (fun h65 => ?_)
        · have htc2 := htc.resolve_left (by omega)
          refine z_aload C 1 dX2_tideIn_71 rfl ?_
          refine z_cV (As := []) C zc_X1_place (c_place hX (hGs.2.2 (g).toNat (by omega))) zl_2_66 (Nat.le_of_ble_eq_true rfl) (Nat.le_of_ble_eq_true rfl) (Nat.le_of_ble_eq_true rfl) ((hGs.2.2 (g).toNat (by omega)).1.1) ((hGs.2.2 (g).toNat (by omega)).1.2) rfl rfl rfl rfl (Nat.le_of_ble_eq_true rfl) dX2_tideIn_73 (fun z11 L12 f13 hz14 => ?_)
          obtain ⟨hz14, rfl, rfl⟩ := hz14
          subst hz14
          have hkg : k (((g).toNat : Nat) : Int) = k g := by rw [Int.toNat_of_nonneg (by omega)]
          have hkr := hk (g) (by omega) (by omega)
          change ZW G pZ la eZ (zRm 4 0 0) sZ mZ aZ bZ hZ cZ AZ 13 0 0 _ L f 76 [(11, .int (iI zt)), (10, .ref (ga (g).toNat)), (0, .ref w), (1, .ref v), (2, .int (iI c)), (3, .int (iI d)), (4, .int (iI h)), (5, .int (iI lw)), (6, .int (iI hg)), (7, .int (iI lt)), (8, .int (iI ht)), (9, .int (iI g))] [.int (iI (k (((g).toNat : Nat) : Int)))]
          refine z_nm (fun pl hpl => ?_)
          refine z_istore (ls' := [(12, .int (iI pl)), (11, .int (iI zt)), (10, .ref (ga (g).toNat)), (0, .ref w), (1, .ref v), (2, .int (iI c)), (3, .int (iI d)), (4, .int (iI h)), (5, .int (iI lw)), (6, .int (iI hg)), (7, .int (iI lt)), (8, .int (iI ht)), (9, .int (iI g))]) C dX2_tideIn_76 (Nat.le_of_ble_eq_true rfl) rfl ?_
          refine z_iload C 0 dX2_tideIn_78 rfl ?_
          refine z_iload_n C 5 dX2_tideIn_80 rfl ?_
          refine z_icmp_ne C 87 dX2_tideIn_81 (by decide) (by omega) (by omega) (fun h81 => ?_) (fun h81 => ?_)
          · refine z_iload C 0 dX2_tideIn_87 rfl ?_
            refine z_iload_n C 5 dX2_tideIn_89 rfl ?_
            refine z_icmp_ge C 108 dX2_tideIn_90 (by decide) (by omega) (by omega) (fun h90 => ?_) (fun h90 => ?_)
            · refine z_iload C 0 dX2_tideIn_108 rfl ?_
              refine z_iload_n C 5 dX2_tideIn_110 rfl ?_
              refine z_icmp_le C 129 dX2_tideIn_111 (by decide) (by omega) (by omega) (fun h111 => ?_) (fun h111 => ?_)
              · refine z_iinc (ls' := [(9, .int (iI (g + 1))), (12, .int (iI pl)), (11, .int (iI zt)), (10, .ref (ga (g).toNat)), (0, .ref w), (1, .ref v), (2, .int (iI c)), (3, .int (iI d)), (4, .int (iI h)), (5, .int (iI lw)), (6, .int (iI hg)), (7, .int (iI lt)), (8, .int (iI ht))]) C 12 dX2_tideIn_129 rfl (Nat.le_of_ble_eq_true rfl) rfl ?_
                refine z_goto C 18 dX2_tideIn_132 (by decide) ?_
                refine z_perm [4, 5, 6, 7, 8, 9, 10, 11, 12, 0] rfl ?_
                exact ih18 _ _ _ _ _ (spLo k c g lo) (spHi k c g hi) ⟨by omega, by omega, spTI_s hg0 hTI htc2.1, by rw [spTd_s _ _ _ (by omega), if_neg htc2.1, if_neg (by omega)] at hS9; exact hS9, zLh_s hLH hg0 (hk g hg0 (by omega)) (by omega) (by omega)⟩ (by omega)
              · refine z_iload C 0 dX2_tideIn_114 rfl ?_
                refine z_iload C 9 dX2_tideIn_116 rfl ?_
                refine z_icmp_ge C 129 dX2_tideIn_118 (by decide) (by omega) (by omega) (fun h118 => ?_) (fun h118 => ?_)
                · refine z_iinc (ls' := [(9, .int (iI (g + 1))), (12, .int (iI pl)), (11, .int (iI zt)), (10, .ref (ga (g).toNat)), (0, .ref w), (1, .ref v), (2, .int (iI c)), (3, .int (iI d)), (4, .int (iI h)), (5, .int (iI lw)), (6, .int (iI hg)), (7, .int (iI lt)), (8, .int (iI ht))]) C 12 dX2_tideIn_129 rfl (Nat.le_of_ble_eq_true rfl) rfl ?_
                  refine z_goto C 18 dX2_tideIn_132 (by decide) ?_
                  refine z_perm [4, 5, 6, 7, 8, 9, 10, 11, 12, 0] rfl ?_
                  exact ih18 _ _ _ _ _ (spLo k c g lo) (spHi k c g hi) ⟨by omega, by omega, spTI_s hg0 hTI htc2.1, by rw [spTd_s _ _ _ (by omega), if_neg htc2.1, if_neg (by omega)] at hS9; exact hS9, zLh_s hLH hg0 (hk g hg0 (by omega)) (by omega) (by omega)⟩ (by omega)
                · refine z_iload C 0 dX2_tideIn_121 rfl ?_
                  refine z_istore (ls' := [(6, .int (iI pl)), (12, .int (iI pl)), (11, .int (iI zt)), (10, .ref (ga (g).toNat)), (0, .ref w), (1, .ref v), (2, .int (iI c)), (3, .int (iI d)), (4, .int (iI h)), (5, .int (iI lw)), (7, .int (iI lt)), (8, .int (iI ht)), (9, .int (iI g))]) C dX2_tideIn_123 (Nat.le_of_ble_eq_true rfl) rfl ?_
                  refine z_iload C 2 dX2_tideIn_125 rfl ?_
                  refine z_istore (ls' := [(8, .int (iI zt)), (6, .int (iI pl)), (12, .int (iI pl)), (11, .int (iI zt)), (10, .ref (ga (g).toNat)), (0, .ref w), (1, .ref v), (2, .int (iI c)), (3, .int (iI d)), (4, .int (iI h)), (5, .int (iI lw)), (7, .int (iI lt)), (9, .int (iI g))]) C dX2_tideIn_127 (Nat.le_of_ble_eq_true rfl) rfl ?_
                  refine z_iinc (ls' := [(9, .int (iI (g + 1))), (8, .int (iI zt)), (6, .int (iI pl)), (12, .int (iI pl)), (11, .int (iI zt)), (10, .ref (ga (g).toNat)), (0, .ref w), (1, .ref v), (2, .int (iI c)), (3, .int (iI d)), (4, .int (iI h)), (5, .int (iI lw)), (7, .int (iI lt))]) C 12 dX2_tideIn_129 rfl (Nat.le_of_ble_eq_true rfl) rfl ?_
                  refine z_goto C 18 dX2_tideIn_132 (by decide) ?_
                  refine z_perm [6, 7, 8, 9, 10, 11, 2, 12, 1, 0] rfl ?_
                  exact ih18 _ _ _ _ _ (spLo k c g lo) (spHi k c g hi) ⟨by omega, by omega, spTI_s hg0 hTI htc2.1, by rw [spTd_s _ _ _ (by omega), if_neg htc2.1, if_neg (by omega)] at hS9; exact hS9, zLh_s hLH hg0 (hk g hg0 (by omega)) (by omega) (by omega)⟩ (by omega)
            · refine z_iload C 0 dX2_tideIn_93 rfl ?_
              refine z_iload C 8 dX2_tideIn_95 rfl ?_
              refine z_icmp_le C 108 dX2_tideIn_97 (by decide) (by omega) (by omega) (fun h97 => ?_) (fun h97 => ?_)
              · refine z_iload C 0 dX2_tideIn_108 rfl ?_
                refine z_iload_n C 5 dX2_tideIn_110 rfl ?_
                refine z_icmp_le C 129 dX2_tideIn_111 (by decide) (by omega) (by omega) (fun h111 => ?_) (fun h111 => ?_)
                · refine z_iinc (ls' := [(9, .int (iI (g + 1))), (12, .int (iI pl)), (11, .int (iI zt)), (10, .ref (ga (g).toNat)), (0, .ref w), (1, .ref v), (2, .int (iI c)), (3, .int (iI d)), (4, .int (iI h)), (5, .int (iI lw)), (6, .int (iI hg)), (7, .int (iI lt)), (8, .int (iI ht))]) C 12 dX2_tideIn_129 rfl (Nat.le_of_ble_eq_true rfl) rfl ?_
                  refine z_goto C 18 dX2_tideIn_132 (by decide) ?_
                  refine z_perm [4, 5, 6, 7, 8, 9, 10, 11, 12, 0] rfl ?_
                  exact ih18 _ _ _ _ _ (spLo k c g lo) (spHi k c g hi) ⟨by omega, by omega, spTI_s hg0 hTI htc2.1, by rw [spTd_s _ _ _ (by omega), if_neg htc2.1, if_neg (by omega)] at hS9; exact hS9, zLh_s hLH hg0 (hk g hg0 (by omega)) (by omega) (by omega)⟩ (by omega)
                · refine z_iload C 0 dX2_tideIn_114 rfl ?_
                  refine z_iload C 9 dX2_tideIn_116 rfl ?_
                  refine z_icmp_ge C 129 dX2_tideIn_118 (by decide) (by omega) (by omega) (fun h118 => ?_) (fun h118 => ?_)
                  · refine z_iinc (ls' := [(9, .int (iI (g + 1))), (12, .int (iI pl)), (11, .int (iI zt)), (10, .ref (ga (g).toNat)), (0, .ref w), (1, .ref v), (2, .int (iI c)), (3, .int (iI d)), (4, .int (iI h)), (5, .int (iI lw)), (6, .int (iI hg)), (7, .int (iI lt)), (8, .int (iI ht))]) C 12 dX2_tideIn_129 rfl (Nat.le_of_ble_eq_true rfl) rfl ?_
                    refine z_goto C 18 dX2_tideIn_132 (by decide) ?_
                    refine z_perm [4, 5, 6, 7, 8, 9, 10, 11, 12, 0] rfl ?_
                    exact ih18 _ _ _ _ _ (spLo k c g lo) (spHi k c g hi) ⟨by omega, by omega, spTI_s hg0 hTI htc2.1, by rw [spTd_s _ _ _ (by omega), if_neg htc2.1, if_neg (by omega)] at hS9; exact hS9, zLh_s hLH hg0 (hk g hg0 (by omega)) (by omega) (by omega)⟩ (by omega)
                  · refine z_iload C 0 dX2_tideIn_121 rfl ?_
                    refine z_istore (ls' := [(6, .int (iI pl)), (12, .int (iI pl)), (11, .int (iI zt)), (10, .ref (ga (g).toNat)), (0, .ref w), (1, .ref v), (2, .int (iI c)), (3, .int (iI d)), (4, .int (iI h)), (5, .int (iI lw)), (7, .int (iI lt)), (8, .int (iI ht)), (9, .int (iI g))]) C dX2_tideIn_123 (Nat.le_of_ble_eq_true rfl) rfl ?_
                    refine z_iload C 2 dX2_tideIn_125 rfl ?_
                    refine z_istore (ls' := [(8, .int (iI zt)), (6, .int (iI pl)), (12, .int (iI pl)), (11, .int (iI zt)), (10, .ref (ga (g).toNat)), (0, .ref w), (1, .ref v), (2, .int (iI c)), (3, .int (iI d)), (4, .int (iI h)), (5, .int (iI lw)), (7, .int (iI lt)), (9, .int (iI g))]) C dX2_tideIn_127 (Nat.le_of_ble_eq_true rfl) rfl ?_
                    refine z_iinc (ls' := [(9, .int (iI (g + 1))), (8, .int (iI zt)), (6, .int (iI pl)), (12, .int (iI pl)), (11, .int (iI zt)), (10, .ref (ga (g).toNat)), (0, .ref w), (1, .ref v), (2, .int (iI c)), (3, .int (iI d)), (4, .int (iI h)), (5, .int (iI lw)), (7, .int (iI lt))]) C 12 dX2_tideIn_129 rfl (Nat.le_of_ble_eq_true rfl) rfl ?_
                    refine z_goto C 18 dX2_tideIn_132 (by decide) ?_
                    refine z_perm [6, 7, 8, 9, 10, 11, 2, 12, 1, 0] rfl ?_
                    exact ih18 _ _ _ _ _ (spLo k c g lo) (spHi k c g hi) ⟨by omega, by omega, spTI_s hg0 hTI htc2.1, by rw [spTd_s _ _ _ (by omega), if_neg htc2.1, if_neg (by omega)] at hS9; exact hS9, zLh_s hLH hg0 (hk g hg0 (by omega)) (by omega) (by omega)⟩ (by omega)
              · refine z_iload C 0 dX2_tideIn_100 rfl ?_
                refine z_istore (ls' := [(5, .int (iI pl)), (12, .int (iI pl)), (11, .int (iI zt)), (10, .ref (ga (g).toNat)), (0, .ref w), (1, .ref v), (2, .int (iI c)), (3, .int (iI d)), (4, .int (iI h)), (6, .int (iI hg)), (7, .int (iI lt)), (8, .int (iI ht)), (9, .int (iI g))]) C dX2_tideIn_102 (Nat.le_of_ble_eq_true rfl) rfl ?_
                refine z_iload C 2 dX2_tideIn_104 rfl ?_
                refine z_istore (ls' := [(7, .int (iI zt)), (5, .int (iI pl)), (12, .int (iI pl)), (11, .int (iI zt)), (10, .ref (ga (g).toNat)), (0, .ref w), (1, .ref v), (2, .int (iI c)), (3, .int (iI d)), (4, .int (iI h)), (6, .int (iI hg)), (8, .int (iI ht)), (9, .int (iI g))]) C dX2_tideIn_106 (Nat.le_of_ble_eq_true rfl) rfl ?_
                refine z_iload C 2 dX2_tideIn_108 rfl ?_
                refine z_iload_n C 7 dX2_tideIn_110 rfl ?_
                refine z_icmp_le C 129 dX2_tideIn_111 (by decide) (by omega) (by omega) (fun h111 => ?_) (fun h111 => ?_)
                · refine z_iinc (ls' := [(9, .int (iI (g + 1))), (7, .int (iI zt)), (5, .int (iI pl)), (12, .int (iI pl)), (11, .int (iI zt)), (10, .ref (ga (g).toNat)), (0, .ref w), (1, .ref v), (2, .int (iI c)), (3, .int (iI d)), (4, .int (iI h)), (6, .int (iI hg)), (8, .int (iI ht))]) C 12 dX2_tideIn_129 rfl (Nat.le_of_ble_eq_true rfl) rfl ?_
                  refine z_goto C 18 dX2_tideIn_132 (by decide) ?_
                  refine z_perm [6, 7, 8, 9, 10, 2, 11, 1, 12, 0] rfl ?_
                  exact ih18 _ _ _ _ _ (spLo k c g lo) (spHi k c g hi) ⟨by omega, by omega, spTI_s hg0 hTI htc2.1, by rw [spTd_s _ _ _ (by omega), if_neg htc2.1, if_neg (by omega)] at hS9; exact hS9, zLh_s hLH hg0 (hk g hg0 (by omega)) (by omega) (by omega)⟩ (by omega)
                · refine z_iload C 2 dX2_tideIn_114 rfl ?_
                  refine z_iload C 10 dX2_tideIn_116 rfl ?_
                  refine z_icmp_ge C 129 dX2_tideIn_118 (by decide) (by omega) (by omega) (fun h118 => ?_) (fun h118 => ?_)
                  · refine z_iinc (ls' := [(9, .int (iI (g + 1))), (7, .int (iI zt)), (5, .int (iI pl)), (12, .int (iI pl)), (11, .int (iI zt)), (10, .ref (ga (g).toNat)), (0, .ref w), (1, .ref v), (2, .int (iI c)), (3, .int (iI d)), (4, .int (iI h)), (6, .int (iI hg)), (8, .int (iI ht))]) C 12 dX2_tideIn_129 rfl (Nat.le_of_ble_eq_true rfl) rfl ?_
                    refine z_goto C 18 dX2_tideIn_132 (by decide) ?_
                    refine z_perm [6, 7, 8, 9, 10, 2, 11, 1, 12, 0] rfl ?_
                    exact ih18 _ _ _ _ _ (spLo k c g lo) (spHi k c g hi) ⟨by omega, by omega, spTI_s hg0 hTI htc2.1, by rw [spTd_s _ _ _ (by omega), if_neg htc2.1, if_neg (by omega)] at hS9; exact hS9, zLh_s hLH hg0 (hk g hg0 (by omega)) (by omega) (by omega)⟩ (by omega)
                  · refine z_iload C 2 dX2_tideIn_121 rfl ?_
                    refine z_istore (ls' := [(6, .int (iI pl)), (7, .int (iI zt)), (5, .int (iI pl)), (12, .int (iI pl)), (11, .int (iI zt)), (10, .ref (ga (g).toNat)), (0, .ref w), (1, .ref v), (2, .int (iI c)), (3, .int (iI d)), (4, .int (iI h)), (8, .int (iI ht)), (9, .int (iI g))]) C dX2_tideIn_123 (Nat.le_of_ble_eq_true rfl) rfl ?_
                    refine z_iload C 4 dX2_tideIn_125 rfl ?_
                    refine z_istore (ls' := [(8, .int (iI zt)), (6, .int (iI pl)), (7, .int (iI zt)), (5, .int (iI pl)), (12, .int (iI pl)), (11, .int (iI zt)), (10, .ref (ga (g).toNat)), (0, .ref w), (1, .ref v), (2, .int (iI c)), (3, .int (iI d)), (4, .int (iI h)), (9, .int (iI g))]) C dX2_tideIn_127 (Nat.le_of_ble_eq_true rfl) rfl ?_
                    refine z_iinc (ls' := [(9, .int (iI (g + 1))), (8, .int (iI zt)), (6, .int (iI pl)), (7, .int (iI zt)), (5, .int (iI pl)), (12, .int (iI pl)), (11, .int (iI zt)), (10, .ref (ga (g).toNat)), (0, .ref w), (1, .ref v), (2, .int (iI c)), (3, .int (iI d)), (4, .int (iI h))]) C 12 dX2_tideIn_129 rfl (Nat.le_of_ble_eq_true rfl) rfl ?_
                    refine z_goto C 18 dX2_tideIn_132 (by decide) ?_
                    refine z_perm [8, 9, 10, 11, 12, 4, 2, 3, 1, 0] rfl ?_
                    exact ih18 _ _ _ _ _ (spLo k c g lo) (spHi k c g hi) ⟨by omega, by omega, spTI_s hg0 hTI htc2.1, by rw [spTd_s _ _ _ (by omega), if_neg htc2.1, if_neg (by omega)] at hS9; exact hS9, zLh_s hLH hg0 (hk g hg0 (by omega)) (by omega) (by omega)⟩ (by omega)
          · refine z_iload C 1 dX2_tideIn_84 rfl ?_
            exact z_ireturn C dX2_tideIn_86 (Nat.le_of_ble_eq_true rfl) (Nat.le_of_ble_eq_true rfl) ⟨by rw [spTd_s _ _ _ (by omega), if_neg htc2.1, if_pos (by omega)] at hS9; rw [← hS9, cN_in (by omega)]; exact htc2.2.1, rfl, rfl⟩
        · refine z_goto C 129 dX2_tideIn_68 (by decide) ?_
          refine z_iinc (ls' := [(9, .int (iI (g + 1))), (11, .int (iI zt)), (10, .ref (ga (g).toNat)), (0, .ref w), (1, .ref v), (2, .int (iI c)), (3, .int (iI d)), (4, .int (iI h)), (5, .int (iI lw)), (6, .int (iI hg)), (7, .int (iI lt)), (8, .int (iI ht))]) C 11 dX2_tideIn_129 rfl (Nat.le_of_ble_eq_true rfl) rfl ?_
          refine z_goto C 18 dX2_tideIn_132 (by decide) ?_
          refine z_perm [3, 4, 5, 6, 7, 8, 9, 10, 11, 0] rfl ?_
          exact ih18 _ _ _ _ _ lo hi ⟨by omega, by omega, spTI_n hTI, by rw [spTd_s _ _ _ (by omega), if_pos (by omega)] at hS9; exact hS9, hLH⟩ (by omega)
  refine z_perm [5, 6, 7, 8, 9, 4, 3, 2, 1, 0] rfl ?_
  exact key18 2000 _ _ _ _ _ (-1) (-1) ⟨by omega, by omega, ⟨by omega, by omega, by omega, by omega, fun q => by omega, fun q => by omega⟩, rfl, ⟨Or.inl ⟨by omega, rfl, rfl⟩, Or.inl ⟨by omega, rfl, rfl⟩⟩⟩ (by omega)
