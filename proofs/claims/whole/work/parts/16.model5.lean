set_option maxRecDepth 100000 in
set_option maxHeartbeats 1000000 in
theorem c_X7_charts {la : Launch} {G : zG} {X : (Nat → Prop) → State → Prop} (hX : zX X) {L : List Nat} {f : Nat → va_E} {o : Nat} {ad : Nat → Nat} {μ : zMu} {t : Int} {u v : Int → Int} (hM : MR G L f o ad μ t u v) (hI : MI μ)  (hK : MK μ) : zM la G X yX7_charts (.code yX7_charts cX7_charts 6 none :: zT) 7 0 0 [.ref o] L f zeV (fun z L' f' => L = L' ∧ MR G L f' o ad μ t (spChart μ) v) := by
  refine zM_intro hX (by decide) (Nat.le_of_ble_eq_true rfl) (fun pZ eZ sZ mZ aZ bZ hZ cZ AZ C hini => ?_)
  change ZW G pZ la eZ (zRm 7 0 0) sZ mZ aZ bZ hZ cZ AZ 6 0 0 _ L f 0 [(0, .ref o)] []
  have hn9 := hI.n
  have hNO : zNO = -2147483648 := rfl
  
  refine z_iconst C dX7_charts_0 ?_
  refine z_istore_n (ls' := [(1, .int (iI 0)), (0, .ref o)]) C dX7_charts_1 (Nat.le_of_ble_eq_true rfl) rfl ?_
  have key2 : ∀ (n2 : Nat) (c : Int) (f6 : Nat → va_E), (0 ≤ c ∧ c ≤ 240 ∧ MR G L f6 o ad μ t (zfill u 0 c zNO) v) → 240 - c < (n2 : Int) → ZW G pZ la eZ (zRm 7 0 0) sZ mZ aZ bZ hZ cZ AZ 6 0 0 (MQ bZ (zQ G zeV (fun z L' f' => L = L' ∧ MR G L f' o ad μ t (spChart μ) v) AZ) aZ sZ 0 0 AZ) L f6 2 [(0, .ref o), (1, .int (iI c))] [] := by
    intro n2
    induction n2 with
    | zero => intro c f6 hi2 hn2; exfalso; omega
    | succ n2 ih2 =>
      intro c f6 hi2 hn2
      obtain ⟨hc0, hc1, hM6⟩ := hi2
      refine z_iload_n C 1 dX7_charts_2 rfl ?_
      refine z_sipush C dX7_charts_3 (by decide) ?_
      refine z_icmp_ge C 23 dX7_charts_6 (by decide) (by omega) (by omega) (fun h6 => ?_) (fun h6 => ?_)
      · refine z_iconst C dX7_charts_23 ?_
        refine z_istore_n (ls' := [(1, .int (iI 0)), (0, .ref o)]) C dX7_charts_24 (Nat.le_of_ble_eq_true rfl) rfl ?_
        have key25 : ∀ (n25 : Nat) (l : Int) (f7 : Nat → va_E), (0 ≤ l ∧ l ≤ μ 2 0 ∧ MR G L f7 o ad μ t (spC1 μ l.toNat zU0) v) → μ 2 0 - l < (n25 : Int) → ZW G pZ la eZ (zRm 7 0 0) sZ mZ aZ bZ hZ cZ AZ 6 0 0 (MQ bZ (zQ G zeV (fun z L' f' => L = L' ∧ MR G L f' o ad μ t (spChart μ) v) AZ) aZ sZ 0 0 AZ) L f7 25 [(0, .ref o), (1, .int (iI l))] [] := by
          intro n25
          induction n25 with
          | zero => intro l f7 hi25 hn25; exfalso; omega
          | succ n25 ih25 =>
            intro l f7 hi25 hn25
            obtain ⟨hl0, hl1, hM7⟩ := hi25
            refine z_iload_n C 1 dX7_charts_25 rfl ?_
            refine z_aload_n C 0 dX7_charts_26 rfl ?_
            refine z_getf C 2 zin_X7 (hM7.1.1) (hM7.1.2) rfl (Nat.le_of_ble_eq_true rfl) zl_6_100 rfl rfl dX7_charts_27 ?_
            refine z_icmp_ge C 141 dX7_charts_30 (by decide) (by omega) (by omega) (fun h30 => ?_) (fun h30 => ?_)
            · exact z_vreturn C dX7_charts_141 (Nat.le_of_ble_eq_true rfl) (Nat.le_of_ble_eq_true rfl) ⟨rfl, by have q := hM7; unfold spChart; rw [show (μ 2 0).toNat = l.toNat by omega]; exact q⟩
            · have hsz := spSize_rng hI.J (l := l) (by omega)
              refine z_iconst C dX7_charts_33 ?_
              refine z_istore_n (ls' := [(2, .int (iI 0)), (0, .ref o), (1, .int (iI l))]) C dX7_charts_34 (Nat.le_of_ble_eq_true rfl) rfl ?_
              have key35 : ∀ (n35 : Nat) (k : Int) (f8 : Nat → va_E), (0 ≤ k ∧ k ≤ spSize μ l ∧ MR G L f8 o ad μ t (spC2 μ l k.toNat (spC1 μ l.toNat zU0)) v) → spSize μ l - k < (n35 : Int) → ZW G pZ la eZ (zRm 7 0 0) sZ mZ aZ bZ hZ cZ AZ 6 0 0 (MQ bZ (zQ G zeV (fun z L' f' => L = L' ∧ MR G L f' o ad μ t (spChart μ) v) AZ) aZ sZ 0 0 AZ) L f8 35 [(0, .ref o), (1, .int (iI l)), (2, .int (iI k))] [] := by
                intro n35
                induction n35 with
                | zero => intro k f8 hi35 hn35; exfalso; omega
                | succ n35 ih35 =>
                  intro k f8 hi35 hn35
                  obtain ⟨hk0, hk1, hM8⟩ := hi35
                  refine z_iload_n C 2 dX7_charts_35 rfl ?_
                  refine z_aload_n C 0 dX7_charts_36 rfl ?_
                  refine z_iload_n C 1 dX7_charts_37 rfl ?_
                  refine z_cV (As := [.int (iI l)]) C zc_X7_size (c_X7_size hX hM8 hI.J l (by omega)) zl_7_22 (Nat.le_of_ble_eq_true rfl) (Nat.le_of_ble_eq_true rfl) (Nat.le_of_ble_eq_true rfl) (hM8.1.1) (hM8.1.2) rfl rfl rfl rfl (Nat.le_of_ble_eq_true rfl) dX7_charts_38 (fun z2 L3 f4 hz5 => ?_)
                  obtain ⟨hz5, rfl, rfl⟩ := hz5
                  subst hz5
                  have hr1 := spSize_rng hI.J (l := l) (by omega)
                  change ZW G pZ la eZ (zRm 7 0 0) sZ mZ aZ bZ hZ cZ AZ 6 0 0 _ L f8 41 [(0, .ref o), (1, .int (iI l)), (2, .int (iI k))] [.int (iI (spSize μ l)), .int (iI k)]
                  refine z_icmp_ge C 135 dX7_charts_41 (by decide) (by omega) (by omega) (fun h41 => ?_) (fun h41 => ?_)
                  · refine z_iinc (ls' := [(1, .int (iI (l + 1))), (0, .ref o), (2, .int (iI k))]) C 1 dX7_charts_135 rfl (Nat.le_of_ble_eq_true rfl) rfl ?_
                    refine z_goto C 25 dX7_charts_138 (by decide) ?_
                    refine z_perm [1, 0] rfl ?_
                    exact ih25 _ _ ⟨by omega, by omega, by have q := hM8; unfold spC1 at q ⊢; rw [zfold_s _ (by omega)]; (try dsimp only); rw [show (spSize μ l).toNat = k.toNat by omega]; exact q⟩ (by omega)
                  · refine z_bipush C dX7_charts_44 (by decide) ?_
                    refine z_istore_n (ls' := [(3, .int (iI (-3))), (0, .ref o), (1, .int (iI l)), (2, .int (iI k))]) C dX7_charts_46 (Nat.le_of_ble_eq_true rfl) rfl ?_
                    have key47 : ∀ (n47 : Nat) (s : Int) (f9 : Nat → va_E), (-3 ≤ s ∧ s ≤ 4 ∧ MR G L f9 o ad μ t (spC3 μ l k (s + 3).toNat (spC2 μ l k.toNat (spC1 μ l.toNat zU0))) v) → 4 - s < (n47 : Int) → ZW G pZ la eZ (zRm 7 0 0) sZ mZ aZ bZ hZ cZ AZ 6 0 0 (MQ bZ (zQ G zeV (fun z L' f' => L = L' ∧ MR G L f' o ad μ t (spChart μ) v) AZ) aZ sZ 0 0 AZ) L f9 47 [(0, .ref o), (1, .int (iI l)), (2, .int (iI k)), (3, .int (iI s))] [] := by
                      intro n47
                      induction n47 with
                      | zero => intro s f9 hi47 hn47; exfalso; omega
                      | succ n47 ih47 =>
                        intro s f9 hi47 hn47
                        obtain ⟨hs0, hs1, hM9⟩ := hi47
                        refine z_iload_n C 3 dX7_charts_47 rfl ?_
                        refine z_iconst C dX7_charts_48 ?_
                        refine z_icmp_gt C 129 dX7_charts_49 (by decide) (by omega) (by omega) (fun h49 => ?_) (fun h49 => ?_)
                        · refine z_iinc (ls' := [(2, .int (iI (k + 1))), (0, .ref o), (1, .int (iI l)), (3, .int (iI s))]) C 2 dX7_charts_129 rfl (Nat.le_of_ble_eq_true rfl) rfl ?_
                          refine z_goto C 35 dX7_charts_132 (by decide) ?_
                          refine z_perm [1, 2, 0] rfl ?_
                          exact ih35 _ _ ⟨by omega, by omega, by have q := hM9; unfold spC2 at q ⊢; rw [zfold_s _ (by omega)]; (try dsimp only); rw [show (s + 3).toNat = 7 by omega] at q; exact q⟩ (by omega)
                        · have hu9 := zCr_b (spC3_r hI (l := l) (k := k) (by omega) (n := (s + 3).toNat) (by omega) (spC2_r hI (l := l) (by omega) k.toNat (spC1_r hI (n := l.toNat) (by omega) zU0_r)))
                          refine z_aload_n C 0 dX7_charts_52 rfl ?_
                          refine z_iload_n C 1 dX7_charts_53 rfl ?_
                          refine z_iload_n C 2 dX7_charts_54 rfl ?_
                          refine z_iload_n C 3 dX7_charts_55 rfl ?_
                          refine z_cV (As := [.int (iI l), .int (iI k), .int (iI s)]) C zc_X7_reduces (c_X7_reduces hX hM9 hI l k s (by omega) (by omega) (by omega)) zl_7_73 (Nat.le_of_ble_eq_true rfl) (Nat.le_of_ble_eq_true rfl) (Nat.le_of_ble_eq_true rfl) (hM9.1.1) (hM9.1.2) rfl rfl rfl rfl (Nat.le_of_ble_eq_true rfl) dX7_charts_56 (fun z7 L8 f9 hz10 => ?_)
                          obtain ⟨hz10, rfl, rfl⟩ := hz10
                          subst hz10
                          have hr6 := spRed_rng hI (l := l) k (s := s) (by omega) (by omega)
                          change ZW G pZ la eZ (zRm 7 0 0) sZ mZ aZ bZ hZ cZ AZ 6 0 0 _ L f9 59 [(0, .ref o), (1, .int (iI l)), (2, .int (iI k)), (3, .int (iI s))] [.int (iI (spRed μ l k s))]
                          refine z_nm (fun rv hrv => ?_)
                          refine z_istore (ls' := [(4, .int (iI rv)), (0, .ref o), (1, .int (iI l)), (2, .int (iI k)), (3, .int (iI s))]) C dX7_charts_59 (Nat.le_of_ble_eq_true rfl) rfl ?_
                          refine z_iload C 0 dX7_charts_61 rfl ?_
                          refine z_ldc (n := (-2147483648)) C zl_7_2 rfl dX7_charts_63 ?_
                          refine z_icmp_eq C 123 dX7_charts_65 (by decide) (by omega) (by omega) (fun h65 => ?_) (fun h65 => ?_)
                          · refine z_iinc (ls' := [(3, .int (iI (s + 1))), (4, .int (iI rv)), (0, .ref o), (1, .int (iI l)), (2, .int (iI k))]) C 4 dX7_charts_123 rfl (Nat.le_of_ble_eq_true rfl) rfl ?_
                            refine z_goto C 47 dX7_charts_126 (by decide) ?_
                            refine z_perm [2, 3, 4, 0] rfl ?_
                            exact ih47 _ _ ⟨by omega, by omega, by have q := hM9; rw [show s + 1 + 3 = s + 3 + 1 by omega, spC3_s _ _ _ (by omega), show s + 3 - 3 = s by omega]; unfold spCu; first | (rw [if_pos (Or.inl (by omega))]; exact q) | (rw [if_pos (Or.inr (by assumption))]; exact q) | (rw [if_neg (by intro z; rcases z with z | z; omega; contradiction), if_pos (by omega), ← hrv]; exact q) | (rw [if_neg (by intro z; rcases z with z | z; omega; contradiction), if_neg (by omega)]; exact q)⟩ (by omega)
                          · have hhas := spRed_has (μ := μ) (l := l) (k := k) (s := s) (by omega)
                            have hon := (hK l k s (by omega) (by omega) (by omega) (by omega) (by omega) (by omega) hhas.2.2).2
                            have hcl := spOn_cell hon
                            refine z_aload_n C 1 dX7_charts_68 rfl ?_
                            refine z_iload_n C 2 dX7_charts_69 rfl ?_
                            refine z_iload_n C 3 dX7_charts_70 rfl ?_
                            refine z_iload_n C 4 dX7_charts_71 rfl ?_
                            refine z_cV (As := [.int (iI l), .int (iI k), .int (iI s)]) C zc_X7_spike (c_X7_spike hX hM9 hI l k s (by omega) (by omega) (by omega)) zl_7_77 (Nat.le_of_ble_eq_true rfl) (Nat.le_of_ble_eq_true rfl) (Nat.le_of_ble_eq_true rfl) (hM9.1.1) (hM9.1.2) rfl rfl rfl rfl (Nat.le_of_ble_eq_true rfl) dX7_charts_72 (fun z11 L12 f13 hz14 => ?_)
                            obtain ⟨hz14, rfl, rfl⟩ := hz14
                            subst hz14
                            change ZW G pZ la eZ (zRm 7 0 0) sZ mZ aZ bZ hZ cZ AZ 6 0 0 _ L f9 75 [(4, .int (iI rv)), (0, .ref o), (1, .int (iI l)), (2, .int (iI k)), (3, .int (iI s))] [.int (iI (bI (spSpike μ l k s)))]
                            refine z_if_eq_b C 81 dX7_charts_75 (by decide) (fun h75 => ?_) (fun h75 => ?_)
                            · refine z_aload_n C 1 dX7_charts_81 rfl ?_
                              refine z_iload_n C 2 dX7_charts_82 rfl ?_
                              refine z_iload_n C 3 dX7_charts_83 rfl ?_
                              refine z_iload_n C 4 dX7_charts_84 rfl ?_
                              refine z_cV (As := [.int (iI l), .int (iI k), .int (iI s)]) C zc_X7_cellOf (c_X7_cellOf hX hM9 hI.J l k s (by omega) (by omega) (by omega)) zl_7_50 (Nat.le_of_ble_eq_true rfl) (Nat.le_of_ble_eq_true rfl) (Nat.le_of_ble_eq_true rfl) (hM9.1.1) (hM9.1.2) rfl rfl rfl rfl (Nat.le_of_ble_eq_true rfl) dX7_charts_85 (fun z16 L17 f18 hz19 => ?_)
                              obtain ⟨hz19, rfl, rfl⟩ := hz19
                              subst hz19
                              change ZW G pZ la eZ (zRm 7 0 0) sZ mZ aZ bZ hZ cZ AZ 6 0 0 _ L f9 88 [(4, .int (iI rv)), (0, .ref o), (1, .int (iI l)), (2, .int (iI k)), (3, .int (iI s))] [.int (iI (spCell μ l k s))]
                              refine z_nm (fun cc hcc => ?_)
                              refine z_istore (ls' := [(5, .int (iI cc)), (4, .int (iI rv)), (0, .ref o), (1, .int (iI l)), (2, .int (iI k)), (3, .int (iI s))]) C dX7_charts_88 (Nat.le_of_ble_eq_true rfl) rfl ?_
                              refine z_aload_n C 2 dX7_charts_90 rfl ?_
                              refine z_getf C 9 zin_X7 (hM9.1.1) (hM9.1.2) rfl (Nat.le_of_ble_eq_true rfl) zl_6_107 rfl rfl dX7_charts_91 ?_
                              refine z_iload C 0 dX7_charts_94 rfl ?_
                              refine z_iald C (MR_a9 hM9) (by omega) (by omega) (by omega) dX7_charts_96 ?_
                              have hb20 := hu9 cc (by omega) (by omega)
                              refine z_ldc (n := (-2147483648)) C zl_7_2 rfl dX7_charts_97 ?_
                              refine z_icmp_eq C 114 dX7_charts_99 (by decide) (by omega) (by omega) (fun h99 => ?_) (fun h99 => ?_)
                              · refine z_aload_n C 2 dX7_charts_114 rfl ?_
                                refine z_getf C 9 zin_X7 (hM9.1.1) (hM9.1.2) rfl (Nat.le_of_ble_eq_true rfl) zl_6_107 rfl rfl dX7_charts_115 ?_
                                refine z_iload C 0 dX7_charts_118 rfl ?_
                                refine z_iload C 1 dX7_charts_120 rfl ?_
                                refine z_iast C (MR_a9 hM9) (by omega) (by omega) (by omega) dX7_charts_122 (fun f21 ha22 hk23 => ?_)
                                have hM24 := MR_w9 hM9 ha22 hk23
                                refine z_iinc (ls' := [(3, .int (iI (s + 1))), (5, .int (iI cc)), (4, .int (iI rv)), (0, .ref o), (1, .int (iI l)), (2, .int (iI k))]) C 5 dX7_charts_123 rfl (Nat.le_of_ble_eq_true rfl) rfl ?_
                                refine z_goto C 47 dX7_charts_126 (by decide) ?_
                                refine z_perm [3, 4, 5, 0] rfl ?_
                                exact ih47 _ _ ⟨by omega, by omega, by have q := hM24; rw [show s + 1 + 3 = s + 3 + 1 by omega, spC3_s _ _ _ (by omega), show s + 3 - 3 = s by omega]; unfold spCu; rw [← hcc]; first | (rw [if_pos (Or.inl (by omega))]; exact q) | (rw [if_pos (Or.inr (by assumption))]; exact q) | (rw [if_neg (by intro z; rcases z with z | z; omega; contradiction), if_pos (by omega), ← hrv]; exact q) | (rw [if_neg (by intro z; rcases z with z | z; omega; contradiction), if_neg (by omega)]; exact q)⟩ (by omega)
                              · refine z_iload C 1 dX7_charts_102 rfl ?_
                                refine z_aload_n C 2 dX7_charts_104 rfl ?_
                                refine z_getf C 9 zin_X7 (hM9.1.1) (hM9.1.2) rfl (Nat.le_of_ble_eq_true rfl) zl_6_107 rfl rfl dX7_charts_105 ?_
                                refine z_iload C 0 dX7_charts_108 rfl ?_
                                refine z_iald C (MR_a9 hM9) (by omega) (by omega) (by omega) dX7_charts_110 ?_
                                have hb25 := hu9 cc (by omega) (by omega)
                                refine z_icmp_ge C 123 dX7_charts_111 (by decide) (by omega) (by omega) (fun h111 => ?_) (fun h111 => ?_)
                                · refine z_iinc (ls' := [(3, .int (iI (s + 1))), (5, .int (iI cc)), (4, .int (iI rv)), (0, .ref o), (1, .int (iI l)), (2, .int (iI k))]) C 5 dX7_charts_123 rfl (Nat.le_of_ble_eq_true rfl) rfl ?_
                                  refine z_goto C 47 dX7_charts_126 (by decide) ?_
                                  refine z_perm [3, 4, 5, 0] rfl ?_
                                  exact ih47 _ _ ⟨by omega, by omega, by have q := hM9; rw [show s + 1 + 3 = s + 3 + 1 by omega, spC3_s _ _ _ (by omega), show s + 3 - 3 = s by omega]; unfold spCu; rw [← hcc]; first | (rw [if_pos (Or.inl (by omega))]; exact q) | (rw [if_pos (Or.inr (by assumption))]; exact q) | (rw [if_neg (by intro z; rcases z with z | z; omega; contradiction), if_pos (by omega), ← hrv]; exact q) | (rw [if_neg (by intro z; rcases z with z | z; omega; contradiction), if_neg (by omega)]; exact q)⟩ (by omega)
                                · refine z_aload_n C 2 dX7_charts_114 rfl ?_
                                  refine z_getf C 9 zin_X7 (hM9.1.1) (hM9.1.2) rfl (Nat.le_of_ble_eq_true rfl) zl_6_107 rfl rfl dX7_charts_115 ?_
                                  refine z_iload C 0 dX7_charts_118 rfl ?_
                                  refine z_iload C 1 dX7_charts_120 rfl ?_
                                  refine z_iast C (MR_a9 hM9) (by omega) (by omega) (by omega) dX7_charts_122 (fun f26 ha27 hk28 => ?_)
                                  have hM29 := MR_w9 hM9 ha27 hk28
                                  refine z_iinc (ls' := [(3, .int (iI (s + 1))), (5, .int (iI cc)), (4, .int (iI rv)), (0, .ref o), (1, .int (iI l)), (2, .int (iI k))]) C 5 dX7_charts_123 rfl (Nat.le_of_ble_eq_true rfl) rfl ?_
                                  refine z_goto C 47 dX7_charts_126 (by decide) ?_
                                  refine z_perm [3, 4, 5, 0] rfl ?_
                                  exact ih47 _ _ ⟨by omega, by omega, by have q := hM29; rw [show s + 1 + 3 = s + 3 + 1 by omega, spC3_s _ _ _ (by omega), show s + 3 - 3 = s by omega]; unfold spCu; rw [← hcc]; first | (rw [if_pos (Or.inl (by omega))]; exact q) | (rw [if_pos (Or.inr (by assumption))]; exact q) | (rw [if_neg (by intro z; rcases z with z | z; omega; contradiction), if_pos (by omega), ← hrv]; exact q) | (rw [if_neg (by intro z; rcases z with z | z; omega; contradiction), if_neg (by omega)]; exact q)⟩ (by omega)
                            · refine z_goto C 123 dX7_charts_78 (by decide) ?_
                              refine z_iinc (ls' := [(3, .int (iI (s + 1))), (4, .int (iI rv)), (0, .ref o), (1, .int (iI l)), (2, .int (iI k))]) C 4 dX7_charts_123 rfl (Nat.le_of_ble_eq_true rfl) rfl ?_
                              refine z_goto C 47 dX7_charts_126 (by decide) ?_
                              refine z_perm [2, 3, 4, 0] rfl ?_
                              exact ih47 _ _ ⟨by omega, by omega, by have q := hM9; rw [show s + 1 + 3 = s + 3 + 1 by omega, spC3_s _ _ _ (by omega), show s + 3 - 3 = s by omega]; unfold spCu; first | (rw [if_pos (Or.inl (by omega))]; exact q) | (rw [if_pos (Or.inr (by assumption))]; exact q) | (rw [if_neg (by intro z; rcases z with z | z; omega; contradiction), if_pos (by omega), ← hrv]; exact q) | (rw [if_neg (by intro z; rcases z with z | z; omega; contradiction), if_neg (by omega)]; exact q)⟩ (by omega)
                    refine z_perm [1, 2, 3, 0] rfl ?_
                    exact key47 2000 _ _ ⟨by omega, by omega, by exact hM8⟩ (by omega)
              refine z_perm [1, 2, 0] rfl ?_
              exact key35 2000 _ _ ⟨by omega, by omega, by exact hM7⟩ (by omega)
        refine z_perm [1, 0] rfl ?_
        exact key25 2000 _ _ ⟨by omega, by omega, by exact MR_u hM6 (fun i q0 q1 => by unfold zfill zU0; rw [if_pos (by omega)]; rfl)⟩ (by omega)
      · refine z_aload_n C 0 dX7_charts_9 rfl ?_
        refine z_getf C 9 zin_X7 (hM6.1.1) (hM6.1.2) rfl (Nat.le_of_ble_eq_true rfl) zl_6_107 rfl rfl dX7_charts_10 ?_
        refine z_iload_n C 1 dX7_charts_13 rfl ?_
        refine z_ldc (n := (-2147483648)) C zl_7_2 rfl dX7_charts_14 ?_
        refine z_iast C (MR_a9 hM6) (by omega) (by omega) (by omega) dX7_charts_16 (fun f30 ha31 hk32 => ?_)
        have hM33 := MR_w9 hM6 ha31 hk32
        refine z_iinc (ls' := [(1, .int (iI (c + 1))), (0, .ref o)]) C 1 dX7_charts_17 rfl (Nat.le_of_ble_eq_true rfl) rfl ?_
        refine z_goto C 2 dX7_charts_20 (by decide) ?_
        refine z_perm [1, 0] rfl ?_
        exact ih2 _ _ ⟨by omega, by omega, by have q := hM33; rw [← zfill_1 _ (by omega)]; exact q⟩ (by omega)
  refine z_perm [1, 0] rfl ?_
  exact key2 2000 _ _ ⟨by omega, by omega, by rw [zfill_0]; exact hM⟩ (by omega)

set_option maxRecDepth 100000 in
set_option maxHeartbeats 200000 in
theorem c_X7_depth {la : Launch} {G : zG} {X : (Nat → Prop) → State → Prop} (hX : zX X) {L : List Nat} {f : Nat → va_E} {o : Nat} {ad : Nat → Nat} {μ : zMu} {t : Int} {u v : Int → Int} (hM : MR G L f o ad μ t u v) (hI : MI μ) (c r : Int) (hK : MK μ) (hc : zR c) (hr : zR r) : zM la G X yX7_depth (.code yX7_depth cX7_depth 3 (some .int) :: zT) 8 0 0 [.ref o, .int (iI c), .int (iI r)] L f zeI (fun z L' f' => L = L' ∧ ∃ t' μ' u' v', MR G L f' o ad μ' t' u' v' ∧ o_depth μ c r = (t', if t' = 0 then z else 0, μ')) := by
  refine zM_intro hX (by decide) (Nat.le_of_ble_eq_true rfl) (fun pZ eZ sZ mZ aZ bZ hZ cZ AZ C hini => ?_)
  change ZW G pZ la eZ (zRm 8 0 0) sZ mZ aZ bZ hZ cZ AZ 3 0 0 _ L f 0 [(0, .ref o), (1, .int (iI c)), (2, .int (iI r))] []
  have hn9 := hI.n
  have hNO : zNO = -2147483648 := rfl
  
  refine z_aload_n C 0 dX7_depth_0 rfl ?_
  refine z_iload_n C 1 dX7_depth_1 rfl ?_
  refine z_iload_n C 2 dX7_depth_2 rfl ?_
  refine z_cV (As := [.int (iI c), .int (iI r)]) C zc_X7_noCell (c_X7_noCell hX hM c r (by omega) (by omega) ) zl_6_172 (Nat.le_of_ble_eq_true rfl) (Nat.le_of_ble_eq_true rfl) (Nat.le_of_ble_eq_true rfl) (hM.1.1) (hM.1.2) rfl rfl rfl rfl (Nat.le_of_ble_eq_true rfl) dX7_depth_3 (fun z4 L5 f6 hz7 => ?_)
  obtain ⟨rfl, t2, hM1, he3⟩ := hz7
  change ZW G pZ la eZ (zRm 8 0 0) sZ mZ aZ bZ hZ cZ AZ 3 0 0 _ L f6 6 [(0, .ref o), (1, .int (iI c)), (2, .int (iI r))] [.int (iI z4)]
  refine z_if_eq C 11 dX7_depth_6 (by decide) (by omega) (fun h6 => ?_) (fun h6 => ?_)
  · refine z_aload_n C 0 dX7_depth_11 rfl ?_
    refine z_cV (As := []) C zc_X7_charts (c_X7_charts hX hM1 hI hK) zl_7_69 (Nat.le_of_ble_eq_true rfl) (Nat.le_of_ble_eq_true rfl) (Nat.le_of_ble_eq_true rfl) (hM1.1.1) (hM1.1.2) rfl rfl rfl rfl (Nat.le_of_ble_eq_true rfl) dX7_depth_12 (fun z9 L10 f11 hz12 => ?_)
    obtain ⟨rfl, hM8⟩ := hz12
    change ZW G pZ la eZ (zRm 8 0 0) sZ mZ aZ bZ hZ cZ AZ 3 0 0 _ L f11 15 [(0, .ref o), (1, .int (iI c)), (2, .int (iI r))] []
    refine z_aload_n C 0 dX7_depth_15 rfl ?_
    refine z_getf C 9 zin_X7 (hM8.1.1) (hM8.1.2) rfl (Nat.le_of_ble_eq_true rfl) zl_6_107 rfl rfl dX7_depth_16 ?_
    refine z_bipush C dX7_depth_19 (by decide) ?_
    refine z_iload_n C 2 dX7_depth_21 rfl ?_
    refine z_imul C dX7_depth_22 ?_
    refine z_iload_n C 1 dX7_depth_23 rfl ?_
    refine z_iadd C dX7_depth_24 ?_
    refine z_iald C (MR_a9 hM8) (by omega) (by omega) (by omega) dX7_depth_25 ?_
    have hb13 := zCr_b (spChart_r hI) ((20 * r) + c) (by omega) (by omega)
    refine z_ldc (n := (-2147483648)) C zl_7_2 rfl dX7_depth_26 ?_
    refine z_icmp_ne C 37 dX7_depth_28 (by decide) (by omega) (by omega) (fun h28 => ?_) (fun h28 => ?_)
    · refine z_aload_n C 0 dX7_depth_37 rfl ?_
      refine z_getf C 9 zin_X7 (hM8.1.1) (hM8.1.2) rfl (Nat.le_of_ble_eq_true rfl) zl_6_107 rfl rfl dX7_depth_38 ?_
      refine z_bipush C dX7_depth_41 (by decide) ?_
      refine z_iload_n C 2 dX7_depth_43 rfl ?_
      refine z_imul C dX7_depth_44 ?_
      refine z_iload_n C 1 dX7_depth_45 rfl ?_
      refine z_iadd C dX7_depth_46 ?_
      refine z_iald C (MR_a9 hM8) (by omega) (by omega) (by omega) dX7_depth_47 ?_
      have hb14 := zCr_b (spChart_r hI) ((20 * r) + c) (by omega) (by omega)
      exact z_ireturn C dX7_depth_48 (Nat.le_of_ble_eq_true rfl) (Nat.le_of_ble_eq_true rfl) ⟨rfl, _, _, _, _, hM8, by unfold o_depth; (rw [if_pos (by omega), if_neg (by omega)]) <;> (refine Prod.ext ?_ (Prod.ext ?_ ?_) <;> first | rfl | omega | (dsimp only; omega) | (dsimp only; split <;> omega))⟩
    · refine z_aload_n C 0 dX7_depth_31 rfl ?_
      refine z_iconst C dX7_depth_32 ?_
      refine z_cV (As := [.int (iI 2)]) C zc_X7_refuse (c_X7_refuse hX hM8 2) zl_6_179 (Nat.le_of_ble_eq_true rfl) (Nat.le_of_ble_eq_true rfl) (Nat.le_of_ble_eq_true rfl) (hM8.1.1) (hM8.1.2) rfl rfl rfl rfl (Nat.le_of_ble_eq_true rfl) dX7_depth_33 (fun z16 L17 f18 hz19 => ?_)
      obtain ⟨rfl, rfl, hM15⟩ := hz19
      change ZW G pZ la eZ (zRm 8 0 0) sZ mZ aZ bZ hZ cZ AZ 3 0 0 _ L f18 36 [(0, .ref o), (1, .int (iI c)), (2, .int (iI r))] [.int (iI 0)]
      exact z_ireturn C dX7_depth_36 (Nat.le_of_ble_eq_true rfl) (Nat.le_of_ble_eq_true rfl) ⟨rfl, _, _, _, _, hM15, by unfold o_depth; (rw [if_pos (by omega), if_pos (by omega)]) <;> (refine Prod.ext ?_ (Prod.ext ?_ ?_) <;> first | rfl | omega | (dsimp only; omega) | (dsimp only; split <;> omega))⟩
  · refine z_iconst C dX7_depth_9 ?_
    exact z_ireturn C dX7_depth_10 (Nat.le_of_ble_eq_true rfl) (Nat.le_of_ble_eq_true rfl) ⟨rfl, _, _, _, _, hM1, by unfold o_depth; (repeat' (first | (exfalso; omega) | split)) <;> (refine Prod.ext ?_ (Prod.ext ?_ ?_) <;> first | rfl | omega | (dsimp only; omega) | (dsimp only; split <;> omega))⟩

set_option maxRecDepth 100000 in
set_option maxHeartbeats 200000 in
theorem c_X7_depthAnew {la : Launch} {G : zG} {X : (Nat → Prop) → State → Prop} (hX : zX X) {L : List Nat} {f : Nat → va_E} {o : Nat} {ad : Nat → Nat} {μ : zMu} {t : Int} {u v : Int → Int} (hM : MR G L f o ad μ t u v) (hI : MI μ) (c r : Int) (hK : MK μ) (hc : zR c) (hr : zR r) : zM la G X yX7_depthAnew (.code yX7_depthAnew cX7_depthAnew 3 (some .int) :: zT) 9 0 0 [.ref o, .int (iI c), .int (iI r)] L f zeI (fun z L' f' => L = L' ∧ ∃ t' μ' u' v', MR G L f' o ad μ' t' u' v' ∧ o_depth μ c r = (t', if t' = 0 then z else 0, μ')) := by
  refine zM_intro hX (by decide) (Nat.le_of_ble_eq_true rfl) (fun pZ eZ sZ mZ aZ bZ hZ cZ AZ C hini => ?_)
  change ZW G pZ la eZ (zRm 9 0 0) sZ mZ aZ bZ hZ cZ AZ 3 0 0 _ L f 0 [(0, .ref o), (1, .int (iI c)), (2, .int (iI r))] []
  have hn9 := hI.n
  have hNO : zNO = -2147483648 := rfl
  
  refine z_aload_n C 0 dX7_depthAnew_0 rfl ?_
  refine z_iload_n C 1 dX7_depthAnew_1 rfl ?_
  refine z_iload_n C 2 dX7_depthAnew_2 rfl ?_
  refine z_cV (As := [.int (iI c), .int (iI r)]) C zc_X7_depth (c_X7_depth hX hM hI c r hK (by omega) (by omega)) zl_7_128 (Nat.le_of_ble_eq_true rfl) (Nat.le_of_ble_eq_true rfl) (Nat.le_of_ble_eq_true rfl) (hM.1.1) (hM.1.2) rfl rfl rfl rfl (Nat.le_of_ble_eq_true rfl) dX7_depthAnew_3 (fun zd L1 f2 hz3 => ?_)
  obtain ⟨rfl, hdp⟩ := hz3
  change ZW G pZ la eZ (zRm 9 0 0) sZ mZ aZ bZ hZ cZ AZ 3 0 0 _ L f2 6 [(0, .ref o), (1, .int (iI c)), (2, .int (iI r))] [.int (iI zd)]
  exact z_ireturn C dX7_depthAnew_6 (Nat.le_of_ble_eq_true rfl) (Nat.le_of_ble_eq_true rfl) ⟨rfl, hdp⟩

set_option maxRecDepth 100000 in
set_option maxHeartbeats 200000 in
theorem c_X7_charted {la : Launch} {G : zG} {X : (Nat → Prop) → State → Prop} (hX : zX X) {L : List Nat} {f : Nat → va_E} {o : Nat} {ad : Nat → Nat} {μ : zMu} {t : Int} {u v : Int → Int} (hM : MR G L f o ad μ t u v) (hI : MI μ)  (hK : MK μ) : zM la G X yX7_charted (.code yX7_charted cX7_charted 3 (some .int) :: zT) 8 0 0 [.ref o] L f zeI (fun z L' f' => L = L' ∧ MR G L f' o ad μ t (spChart μ) v ∧ z = spCharted μ) := by
  refine zM_intro hX (by decide) (Nat.le_of_ble_eq_true rfl) (fun pZ eZ sZ mZ aZ bZ hZ cZ AZ C hini => ?_)
  change ZW G pZ la eZ (zRm 8 0 0) sZ mZ aZ bZ hZ cZ AZ 3 0 0 _ L f 0 [(0, .ref o)] []
  have hn9 := hI.n
  have hNO : zNO = -2147483648 := rfl
  
  refine z_aload_n C 0 dX7_charted_0 rfl ?_
  refine z_cV (As := []) C zc_X7_charts (c_X7_charts hX hM hI hK) zl_7_69 (Nat.le_of_ble_eq_true rfl) (Nat.le_of_ble_eq_true rfl) (Nat.le_of_ble_eq_true rfl) (hM.1.1) (hM.1.2) rfl rfl rfl rfl (Nat.le_of_ble_eq_true rfl) dX7_charted_1 (fun z2 L3 f4 hz5 => ?_)
  obtain ⟨rfl, hM1⟩ := hz5
  change ZW G pZ la eZ (zRm 8 0 0) sZ mZ aZ bZ hZ cZ AZ 3 0 0 _ L f4 4 [(0, .ref o)] []
  refine z_iconst C dX7_charted_4 ?_
  refine z_istore_n (ls' := [(1, .int (iI 0)), (0, .ref o)]) C dX7_charted_5 (Nat.le_of_ble_eq_true rfl) rfl ?_
  refine z_iconst C dX7_charted_6 ?_
  refine z_istore_n (ls' := [(2, .int (iI 0)), (1, .int (iI 0)), (0, .ref o)]) C dX7_charted_7 (Nat.le_of_ble_eq_true rfl) rfl ?_
  have key8 : ∀ (n8 : Nat) (m : Int) (c : Int) , (0 ≤ c ∧ c ≤ 240 ∧ m = zsum (fun c => bI (spChart μ c ≠ zNO)) c.toNat) → 240 - c < (n8 : Int) → ZW G pZ la eZ (zRm 8 0 0) sZ mZ aZ bZ hZ cZ AZ 3 0 0 (MQ bZ (zQ G zeI (fun z L' f' => L = L' ∧ MR G L f' o ad μ t (spChart μ) v ∧ z = spCharted μ) AZ) aZ sZ 0 0 AZ) L f4 8 [(0, .ref o), (1, .int (iI m)), (2, .int (iI c))] [] := by
    intro n8
    induction n8 with
    | zero => intro m c  hi8 hn8; exfalso; omega
    | succ n8 ih8 =>
      intro m c  hi8 hn8
      obtain ⟨hc0, hc1, hm⟩ := hi8
      refine z_iload_n C 2 dX7_charted_8 rfl ?_
      refine z_sipush C dX7_charted_9 (by decide) ?_
      refine z_icmp_ge C 40 dX7_charted_12 (by decide) (by omega) (by omega) (fun h12 => ?_) (fun h12 => ?_)
      · refine z_iload_n C 1 dX7_charted_40 rfl ?_
        exact z_ireturn C dX7_charted_41 (Nat.le_of_ble_eq_true rfl) (Nat.le_of_ble_eq_true rfl) ⟨rfl, hM1, by rw [hm, show c = 240 by omega]; rfl⟩
      · have rg := spCharted_rng μ c.toNat
        refine z_iload_n C 1 dX7_charted_15 rfl ?_
        refine z_aload_n C 0 dX7_charted_16 rfl ?_
        refine z_getf C 9 zin_X7 (hM1.1.1) (hM1.1.2) rfl (Nat.le_of_ble_eq_true rfl) zl_6_107 rfl rfl dX7_charted_17 ?_
        refine z_iload_n C 2 dX7_charted_20 rfl ?_
        refine z_iald C (MR_a9 hM1) (by omega) (by omega) (by omega) dX7_charted_21 ?_
        have hb6 := zCr_b (spChart_r hI) c (by omega) (by omega)
        refine z_ldc (n := (-2147483648)) C zl_7_2 rfl dX7_charted_22 ?_
        refine z_icmp_eq C 31 dX7_charted_24 (by decide) (by omega) (by omega) (fun h24 => ?_) (fun h24 => ?_)
        · refine z_iconst C dX7_charted_31 ?_
          refine z_iadd C dX7_charted_32 ?_
          refine z_nm (fun x7 hx7 => ?_)
          refine z_istore_n (ls' := [(1, .int (iI x7)), (0, .ref o), (2, .int (iI c))]) C dX7_charted_33 (Nat.le_of_ble_eq_true rfl) rfl ?_
          refine z_iinc (ls' := [(2, .int (iI (c + 1))), (1, .int (iI x7)), (0, .ref o)]) C 2 dX7_charted_34 rfl (Nat.le_of_ble_eq_true rfl) rfl ?_
          refine z_goto C 8 dX7_charted_37 (by decide) ?_
          refine z_perm [2, 1, 0] rfl ?_
          exact ih8 _ _  ⟨by omega, by omega, by rw [zsum_s _ hc0]; first | (rw [bI_1 (by omega)]; omega) | (rw [bI_0 (by omega)]; omega)⟩ (by omega)
        · refine z_iconst C dX7_charted_27 ?_
          refine z_goto C 32 dX7_charted_28 (by decide) ?_
          refine z_iadd C dX7_charted_32 ?_
          refine z_nm (fun x8 hx8 => ?_)
          refine z_istore_n (ls' := [(1, .int (iI x8)), (0, .ref o), (2, .int (iI c))]) C dX7_charted_33 (Nat.le_of_ble_eq_true rfl) rfl ?_
          refine z_iinc (ls' := [(2, .int (iI (c + 1))), (1, .int (iI x8)), (0, .ref o)]) C 2 dX7_charted_34 rfl (Nat.le_of_ble_eq_true rfl) rfl ?_
          refine z_goto C 8 dX7_charted_37 (by decide) ?_
          refine z_perm [2, 1, 0] rfl ?_
          exact ih8 _ _  ⟨by omega, by omega, by rw [zsum_s _ hc0]; first | (rw [bI_1 (by omega)]; omega) | (rw [bI_0 (by omega)]; omega)⟩ (by omega)
  refine z_perm [2, 1, 0] rfl ?_
  exact key8 2000 _ _  ⟨by omega, by omega, rfl⟩ (by omega)

set_option maxRecDepth 100000 in
set_option maxHeartbeats 200000 in
theorem c_X7_gap {la : Launch} {G : zG} {X : (Nat → Prop) → State → Prop} (hX : zX X) {L : List Nat} {f : Nat → va_E} {o : Nat} {ad : Nat → Nat} {μ : zMu} {t : Int} {u v : Int → Int} (hM : MR G L f o ad μ t u v) (hI : MI μ) (i : Int) (hK : MK μ) (hi : zR i) : zM la G X yX7_gap (.code yX7_gap cX7_gap 4 (some .int) :: zT) 8 0 0 [.ref o, .int (iI i)] L f zeI (fun z L' f' => L = L' ∧ ∃ t' μ' u' v', MR G L f' o ad μ' t' u' v' ∧ o_gap μ i = (t', if t' = 0 then z else 0, μ')) := by
  refine zM_intro hX (by decide) (Nat.le_of_ble_eq_true rfl) (fun pZ eZ sZ mZ aZ bZ hZ cZ AZ C hini => ?_)
  change ZW G pZ la eZ (zRm 8 0 0) sZ mZ aZ bZ hZ cZ AZ 4 0 0 _ L f 0 [(0, .ref o), (1, .int (iI i))] []
  have hn9 := hI.n
  have hNO : zNO = -2147483648 := rfl
  
  refine z_aload_n C 0 dX7_gap_0 rfl ?_
  refine z_cV (As := []) C zc_X7_charts (c_X7_charts hX hM hI hK) zl_7_69 (Nat.le_of_ble_eq_true rfl) (Nat.le_of_ble_eq_true rfl) (Nat.le_of_ble_eq_true rfl) (hM.1.1) (hM.1.2) rfl rfl rfl rfl (Nat.le_of_ble_eq_true rfl) dX7_gap_1 (fun z2 L3 f4 hz5 => ?_)
  obtain ⟨rfl, hM1⟩ := hz5
  change ZW G pZ la eZ (zRm 8 0 0) sZ mZ aZ bZ hZ cZ AZ 4 0 0 _ L f4 4 [(0, .ref o), (1, .int (iI i))] []
  refine z_iconst C dX7_gap_4 ?_
  refine z_istore_n (ls' := [(2, .int (iI 0)), (0, .ref o), (1, .int (iI i))]) C dX7_gap_5 (Nat.le_of_ble_eq_true rfl) rfl ?_
  refine z_iconst C dX7_gap_6 ?_
  refine z_istore_n (ls' := [(3, .int (iI 0)), (2, .int (iI 0)), (0, .ref o), (1, .int (iI i))]) C dX7_gap_7 (Nat.le_of_ble_eq_true rfl) rfl ?_
  have key8 : ∀ (n8 : Nat) (m : Int) (c : Int) , (0 ≤ c ∧ c ≤ 240 ∧ 0 ≤ m ∧ m ≤ c ∧ spGp (spChart μ) i (240 - c).toNat c m = spGap μ i) → 240 - c < (n8 : Int) → ZW G pZ la eZ (zRm 8 0 0) sZ mZ aZ bZ hZ cZ AZ 4 0 0 (MQ bZ (zQ G zeI (fun z L' f' => L = L' ∧ ∃ t' μ' u' v', MR G L f' o ad μ' t' u' v' ∧ o_gap μ i = (t', if t' = 0 then z else 0, μ')) AZ) aZ sZ 0 0 AZ) L f4 8 [(0, .ref o), (1, .int (iI i)), (2, .int (iI m)), (3, .int (iI c))] [] := by
    intro n8
    induction n8 with
    | zero => intro m c  hi8 hn8; exfalso; omega
    | succ n8 ih8 =>
      intro m c  hi8 hn8
      obtain ⟨hc0, hc1, hm0, hm1, hg⟩ := hi8
      refine z_iload_n C 3 dX7_gap_8 rfl ?_
      refine z_sipush C dX7_gap_9 (by decide) ?_
      refine z_icmp_ge C 61 dX7_gap_12 (by decide) (by omega) (by omega) (fun h12 => ?_) (fun h12 => ?_)
      · refine z_aload_n C 0 dX7_gap_61 rfl ?_
        refine z_iconst C dX7_gap_62 ?_
        refine z_cV (As := [.int (iI 1)]) C zc_X7_refuse (c_X7_refuse hX hM1 1) zl_6_179 (Nat.le_of_ble_eq_true rfl) (Nat.le_of_ble_eq_true rfl) (Nat.le_of_ble_eq_true rfl) (hM1.1.1) (hM1.1.2) rfl rfl rfl rfl (Nat.le_of_ble_eq_true rfl) dX7_gap_63 (fun z7 L8 f9 hz10 => ?_)
        obtain ⟨rfl, rfl, hM6⟩ := hz10
        change ZW G pZ la eZ (zRm 8 0 0) sZ mZ aZ bZ hZ cZ AZ 4 0 0 _ L f9 66 [(0, .ref o), (1, .int (iI i)), (2, .int (iI m)), (3, .int (iI c))] [.int (iI 0)]
        exact z_ireturn C dX7_gap_66 (Nat.le_of_ble_eq_true rfl) (Nat.le_of_ble_eq_true rfl) ⟨rfl, _, _, _, _, hM6, by unfold o_gap; (rw [show (240 - c).toNat = 0 by omega] at hg; rw [if_pos (by rw [← hg]; rfl)]) <;> (refine Prod.ext ?_ (Prod.ext ?_ ?_) <;> first | rfl | omega | (dsimp only; omega) | (dsimp only; split <;> omega))⟩
      · refine z_aload_n C 0 dX7_gap_15 rfl ?_
        refine z_getf C 9 zin_X7 (hM1.1.1) (hM1.1.2) rfl (Nat.le_of_ble_eq_true rfl) zl_6_107 rfl rfl dX7_gap_16 ?_
        refine z_iload_n C 3 dX7_gap_19 rfl ?_
        refine z_iald C (MR_a9 hM1) (by omega) (by omega) (by omega) dX7_gap_20 ?_
        have hb11 := zCr_b (spChart_r hI) c (by omega) (by omega)
        refine z_ldc (n := (-2147483648)) C zl_7_2 rfl dX7_gap_21 ?_
        refine z_icmp_eq C 29 dX7_gap_23 (by decide) (by omega) (by omega) (fun h23 => ?_) (fun h23 => ?_)
        · refine z_iload_n C 2 dX7_gap_29 rfl ?_
          refine z_iload_n C 1 dX7_gap_30 rfl ?_
          refine z_icmp_ne C 52 dX7_gap_31 (by decide) (by omega) (by omega) (fun h31 => ?_) (fun h31 => ?_)
          · refine z_iinc (ls' := [(2, .int (iI (m + 1))), (0, .ref o), (1, .int (iI i)), (3, .int (iI c))]) C 2 dX7_gap_52 rfl (Nat.le_of_ble_eq_true rfl) rfl ?_
            refine z_iinc (ls' := [(3, .int (iI (c + 1))), (2, .int (iI (m + 1))), (0, .ref o), (1, .int (iI i))]) C 3 dX7_gap_55 rfl (Nat.le_of_ble_eq_true rfl) rfl ?_
            refine z_goto C 8 dX7_gap_58 (by decide) ?_
            refine z_perm [2, 3, 1, 0] rfl ?_
            exact ih8 _ _  ⟨by omega, by omega, by omega, by omega, by rw [spGp_s _ _ (by omega)] at hg; first | (rw [if_neg (by omega)] at hg; exact hg) | (rw [if_pos (by omega), if_neg (by omega)] at hg; exact hg)⟩ (by omega)
          · refine z_aload_n C 0 dX7_gap_34 rfl ?_
            refine z_iconst C dX7_gap_35 ?_
            refine m_put0 C hM1 dX7_gap_36 (fun f12 hM13 => ?_)
            refine z_bipush C dX7_gap_39 (by decide) ?_
            refine z_iload_n C 3 dX7_gap_41 rfl ?_
            refine z_bipush C dX7_gap_42 (by decide) ?_
            refine z_idivP C dX7_gap_44 (by omega) (by omega) ?_
            refine z_imul C dX7_gap_45 ?_
            refine z_iload_n C 3 dX7_gap_46 rfl ?_
            refine z_bipush C dX7_gap_47 (by decide) ?_
            refine z_iremP C dX7_gap_49 (by omega) (by omega) ?_
            refine z_iadd C dX7_gap_50 ?_
            exact z_ireturn C dX7_gap_51 (Nat.le_of_ble_eq_true rfl) (Nat.le_of_ble_eq_true rfl) ⟨rfl, _, _, _, _, hM13, by unfold o_gap; (rw [spGp_s _ _ (by omega), if_pos (by omega), if_pos (by omega)] at hg; rw [if_neg (by omega), ← hg]) <;> (refine Prod.ext ?_ (Prod.ext ?_ ?_) <;> first | rfl | omega | (dsimp only; omega) | (dsimp only; split <;> omega))⟩
        · refine z_goto C 55 dX7_gap_26 (by decide) ?_
          refine z_iinc (ls' := [(3, .int (iI (c + 1))), (0, .ref o), (1, .int (iI i)), (2, .int (iI m))]) C 3 dX7_gap_55 rfl (Nat.le_of_ble_eq_true rfl) rfl ?_
          refine z_goto C 8 dX7_gap_58 (by decide) ?_
          refine z_perm [1, 2, 3, 0] rfl ?_
          exact ih8 _ _  ⟨by omega, by omega, by omega, by omega, by rw [spGp_s _ _ (by omega)] at hg; first | (rw [if_neg (by omega)] at hg; exact hg) | (rw [if_pos (by omega), if_neg (by omega)] at hg; exact hg)⟩ (by omega)
  refine z_perm [2, 3, 1, 0] rfl ?_
  exact key8 2000 _ _  ⟨by omega, by omega, by omega, by omega, rfl⟩ (by omega)
