set_option maxRecDepth 100000 in
set_option maxHeartbeats 2000000 in
theorem c_X7_run {la : Launch} {G : zG} {X : (Nat → Prop) → State → Prop} (hX : zX X) {L : List Nat} {f : Nat → va_E} {o : Nat} {ad : Nat → Nat} {μ : zMu} {t : Int} {u v : Int → Int} (hM : MR G L f o ad μ t u v) (hI : MI μ) (c i a b d h : Int) (hc : 0 ≤ c ∧ c < 65536) (hi : zR i) (ha : zR a) (hb : zR b) (hd : zR d) (hh : zR h) : zM la G X yX7_run (.code yX7_run cX7_run 10 (some .int) :: zT) 5 0 0 [.ref o, .int (iI c), .int (iI i), .int (iI a), .int (iI b), .int (iI d), .int (iI h)] L f zeI (fun z L' f' => L = L' ∧ ∃ t' μ' u' v', MR G L f' o ad μ' t' u' v' ∧ o_run μ c i a b d h = (t', if t' = 0 then z else 0, μ')) := by
  refine zM_intro hX (by decide) (Nat.le_of_ble_eq_true rfl) (fun pZ eZ sZ mZ aZ bZ hZ cZ AZ C hini => ?_)
  change ZW G pZ la eZ (zRm 5 0 0) sZ mZ aZ bZ hZ cZ AZ 10 0 0 _ L f 0 [(0, .ref o), (1, .int (iI c)), (2, .int (iI i)), (3, .int (iI a)), (4, .int (iI b)), (5, .int (iI d)), (6, .int (iI h))] []
  have hn9 := hI.n
  have hNO : zNO = -2147483648 := rfl
  
  refine z_iload_n C 1 dX7_run_0 rfl ?_
  refine z_bipush C dX7_run_1 (by decide) ?_
  refine z_icmp_eq C 18 dX7_run_3 (by decide) (by omega) (by omega) (fun h3 => ?_) (fun h3 => ?_)
  · have J31 : ∀ (ni : Int)   (hj31 : ni = if c = 114 then 12 else 20), ZW G pZ la eZ (zRm 5 0 0) sZ mZ aZ bZ hZ cZ AZ 10 0 0 (MQ bZ (zQ G zeI (fun z L' f' => L = L' ∧ ∃ t' μ' u' v', MR G L f' o ad μ' t' u' v' ∧ o_run μ c i a b d h = (t', if t' = 0 then z else 0, μ')) AZ) aZ sZ 0 0 AZ) L f 31 [(0, .ref o), (1, .int (iI c)), (2, .int (iI i)), (3, .int (iI a)), (4, .int (iI b)), (5, .int (iI d)), (6, .int (iI h))] [.int (iI ni)] := by
      intro ni   hj31
      have hni := hj31
      have hc2 : c = 114 ∨ c = 99 := by omega
      have hni2 : ni = 12 ∨ ni = 20 := by rw [hni]; split <;> omega
      refine z_istore (ls' := [(7, .int (iI ni)), (0, .ref o), (1, .int (iI c)), (2, .int (iI i)), (3, .int (iI a)), (4, .int (iI b)), (5, .int (iI d)), (6, .int (iI h))]) C dX7_run_31 (Nat.le_of_ble_eq_true rfl) rfl ?_
      have J46 : ∀ (na : Int)   (hj46 : na = if c = 114 then 20 else 12), ZW G pZ la eZ (zRm 5 0 0) sZ mZ aZ bZ hZ cZ AZ 10 0 0 (MQ bZ (zQ G zeI (fun z L' f' => L = L' ∧ ∃ t' μ' u' v', MR G L f' o ad μ' t' u' v' ∧ o_run μ c i a b d h = (t', if t' = 0 then z else 0, μ')) AZ) aZ sZ 0 0 AZ) L f 46 [(0, .ref o), (1, .int (iI c)), (2, .int (iI i)), (3, .int (iI a)), (4, .int (iI b)), (5, .int (iI d)), (6, .int (iI h)), (7, .int (iI ni))] [.int (iI na)] := by
        intro na   hj46
        have hna := hj46
        have hna2 : na = 20 ∨ na = 12 := by rw [hna]; split <;> omega
        refine z_istore (ls' := [(8, .int (iI na)), (0, .ref o), (1, .int (iI c)), (2, .int (iI i)), (3, .int (iI a)), (4, .int (iI b)), (5, .int (iI d)), (6, .int (iI h)), (7, .int (iI ni))]) C dX7_run_46 (Nat.le_of_ble_eq_true rfl) rfl ?_
        refine z_iload_n C 3 dX7_run_48 rfl ?_
        refine z_iconst C dX7_run_49 ?_
        refine z_iload C 8 dX7_run_50 rfl ?_
        refine z_iconst C dX7_run_52 ?_
        refine z_isub C dX7_run_53 ?_
        refine z_cS (As := [.int (iI i), .int (iI 0), .int (iI (ni - 1))]) C zc_X7_isIn (c_X7_isIn hX i 0 (ni - 1) (by omega) (by omega) (by omega)) zl_6_176 (Nat.le_of_ble_eq_true rfl) (Nat.le_of_ble_eq_true rfl) (Nat.le_of_ble_eq_true rfl) rfl rfl (Nat.le_of_ble_eq_true rfl) dX7_run_54 (fun z1 L2 f3 hz4 => ?_)
        obtain ⟨hz4, rfl, rfl⟩ := hz4
        subst hz4
        change ZW G pZ la eZ (zRm 5 0 0) sZ mZ aZ bZ hZ cZ AZ 10 0 0 _ L f 57 [(8, .int (iI na)), (0, .ref o), (1, .int (iI c)), (2, .int (iI i)), (3, .int (iI a)), (4, .int (iI b)), (5, .int (iI d)), (6, .int (iI h)), (7, .int (iI ni))] [.int (iI (bI (0 ≤ i ∧ i ≤ ni - 1)))]
        refine z_if_eq_b C 96 dX7_run_57 (by decide) (fun h57 => ?_) (fun h57 => ?_)
        · refine z_aload_n C 1 dX7_run_96 rfl ?_
          refine z_iconst C dX7_run_97 ?_
          refine z_cV (As := [.int (iI 2)]) C zc_X7_refuse (c_X7_refuse hX hM 2) zl_6_179 (Nat.le_of_ble_eq_true rfl) (Nat.le_of_ble_eq_true rfl) (Nat.le_of_ble_eq_true rfl) (hM.1.1) (hM.1.2) rfl rfl rfl rfl (Nat.le_of_ble_eq_true rfl) dX7_run_98 (fun z6 L7 f8 hz9 => ?_)
          obtain ⟨rfl, rfl, hM5⟩ := hz9
          change ZW G pZ la eZ (zRm 5 0 0) sZ mZ aZ bZ hZ cZ AZ 10 0 0 _ L f8 101 [(8, .int (iI na)), (0, .ref o), (1, .int (iI c)), (2, .int (iI i)), (3, .int (iI a)), (4, .int (iI b)), (5, .int (iI d)), (6, .int (iI h)), (7, .int (iI ni))] [.int (iI 0)]
          exact z_ireturn C dX7_run_101 (Nat.le_of_ble_eq_true rfl) (Nat.le_of_ble_eq_true rfl) ⟨rfl, _, _, _, _, hM5, by unfold o_run; (rw [if_pos hc2, if_neg (by unfold spWay; rw [← hni, ← hna]; omega)]) <;> (refine Prod.ext ?_ (Prod.ext ?_ ?_) <;> first | rfl | omega | (dsimp only; omega) | (dsimp only; split <;> omega))⟩
        · refine z_iload_n C 4 dX7_run_60 rfl ?_
          refine z_iconst C dX7_run_61 ?_
          refine z_iload C 0 dX7_run_62 rfl ?_
          refine z_iconst C dX7_run_64 ?_
          refine z_isub C dX7_run_65 ?_
          refine z_cS (As := [.int (iI a), .int (iI 0), .int (iI (na - 1))]) C zc_X7_isIn (c_X7_isIn hX a 0 (na - 1) (by omega) (by omega) (by omega)) zl_6_176 (Nat.le_of_ble_eq_true rfl) (Nat.le_of_ble_eq_true rfl) (Nat.le_of_ble_eq_true rfl) rfl rfl (Nat.le_of_ble_eq_true rfl) dX7_run_66 (fun z10 L11 f12 hz13 => ?_)
          obtain ⟨hz13, rfl, rfl⟩ := hz13
          subst hz13
          change ZW G pZ la eZ (zRm 5 0 0) sZ mZ aZ bZ hZ cZ AZ 10 0 0 _ L f 69 [(8, .int (iI na)), (0, .ref o), (1, .int (iI c)), (2, .int (iI i)), (3, .int (iI a)), (4, .int (iI b)), (5, .int (iI d)), (6, .int (iI h)), (7, .int (iI ni))] [.int (iI (bI (0 ≤ a ∧ a ≤ na - 1)))]
          refine z_if_eq_b C 96 dX7_run_69 (by decide) (fun h69 => ?_) (fun h69 => ?_)
          · refine z_aload_n C 1 dX7_run_96 rfl ?_
            refine z_iconst C dX7_run_97 ?_
            refine z_cV (As := [.int (iI 2)]) C zc_X7_refuse (c_X7_refuse hX hM 2) zl_6_179 (Nat.le_of_ble_eq_true rfl) (Nat.le_of_ble_eq_true rfl) (Nat.le_of_ble_eq_true rfl) (hM.1.1) (hM.1.2) rfl rfl rfl rfl (Nat.le_of_ble_eq_true rfl) dX7_run_98 (fun z15 L16 f17 hz18 => ?_)
            obtain ⟨rfl, rfl, hM14⟩ := hz18
            change ZW G pZ la eZ (zRm 5 0 0) sZ mZ aZ bZ hZ cZ AZ 10 0 0 _ L f17 101 [(8, .int (iI na)), (0, .ref o), (1, .int (iI c)), (2, .int (iI i)), (3, .int (iI a)), (4, .int (iI b)), (5, .int (iI d)), (6, .int (iI h)), (7, .int (iI ni))] [.int (iI 0)]
            exact z_ireturn C dX7_run_101 (Nat.le_of_ble_eq_true rfl) (Nat.le_of_ble_eq_true rfl) ⟨rfl, _, _, _, _, hM14, by unfold o_run; (rw [if_pos hc2, if_neg (by unfold spWay; rw [← hni, ← hna]; omega)]) <;> (refine Prod.ext ?_ (Prod.ext ?_ ?_) <;> first | rfl | omega | (dsimp only; omega) | (dsimp only; split <;> omega))⟩
          · refine z_iload C 5 dX7_run_72 rfl ?_
            refine z_iconst C dX7_run_74 ?_
            refine z_iload C 0 dX7_run_75 rfl ?_
            refine z_iconst C dX7_run_77 ?_
            refine z_isub C dX7_run_78 ?_
            refine z_cS (As := [.int (iI b), .int (iI 0), .int (iI (na - 1))]) C zc_X7_isIn (c_X7_isIn hX b 0 (na - 1) (by omega) (by omega) (by omega)) zl_6_176 (Nat.le_of_ble_eq_true rfl) (Nat.le_of_ble_eq_true rfl) (Nat.le_of_ble_eq_true rfl) rfl rfl (Nat.le_of_ble_eq_true rfl) dX7_run_79 (fun z19 L20 f21 hz22 => ?_)
            obtain ⟨hz22, rfl, rfl⟩ := hz22
            subst hz22
            change ZW G pZ la eZ (zRm 5 0 0) sZ mZ aZ bZ hZ cZ AZ 10 0 0 _ L f 82 [(8, .int (iI na)), (0, .ref o), (1, .int (iI c)), (2, .int (iI i)), (3, .int (iI a)), (4, .int (iI b)), (5, .int (iI d)), (6, .int (iI h)), (7, .int (iI ni))] [.int (iI (bI (0 ≤ b ∧ b ≤ na - 1)))]
            refine z_if_eq_b C 96 dX7_run_82 (by decide) (fun h82 => ?_) (fun h82 => ?_)
            · refine z_aload_n C 1 dX7_run_96 rfl ?_
              refine z_iconst C dX7_run_97 ?_
              refine z_cV (As := [.int (iI 2)]) C zc_X7_refuse (c_X7_refuse hX hM 2) zl_6_179 (Nat.le_of_ble_eq_true rfl) (Nat.le_of_ble_eq_true rfl) (Nat.le_of_ble_eq_true rfl) (hM.1.1) (hM.1.2) rfl rfl rfl rfl (Nat.le_of_ble_eq_true rfl) dX7_run_98 (fun z24 L25 f26 hz27 => ?_)
              obtain ⟨rfl, rfl, hM23⟩ := hz27
              change ZW G pZ la eZ (zRm 5 0 0) sZ mZ aZ bZ hZ cZ AZ 10 0 0 _ L f26 101 [(8, .int (iI na)), (0, .ref o), (1, .int (iI c)), (2, .int (iI i)), (3, .int (iI a)), (4, .int (iI b)), (5, .int (iI d)), (6, .int (iI h)), (7, .int (iI ni))] [.int (iI 0)]
              exact z_ireturn C dX7_run_101 (Nat.le_of_ble_eq_true rfl) (Nat.le_of_ble_eq_true rfl) ⟨rfl, _, _, _, _, hM23, by unfold o_run; (rw [if_pos hc2, if_neg (by unfold spWay; rw [← hni, ← hna]; omega)]) <;> (refine Prod.ext ?_ (Prod.ext ?_ ?_) <;> first | rfl | omega | (dsimp only; omega) | (dsimp only; split <;> omega))⟩
            · refine z_aload_n C 1 dX7_run_85 rfl ?_
              refine z_iload C 6 dX7_run_86 rfl ?_
              refine z_iload C 7 dX7_run_88 rfl ?_
              refine z_cV (As := [.int (iI d), .int (iI h)]) C zc_X7_noHour (c_X7_noHour hX hM d h (by omega) (by omega) ) zl_6_187 (Nat.le_of_ble_eq_true rfl) (Nat.le_of_ble_eq_true rfl) (Nat.le_of_ble_eq_true rfl) (hM.1.1) (hM.1.2) rfl rfl rfl rfl (Nat.le_of_ble_eq_true rfl) dX7_run_90 (fun z31 L32 f33 hz34 => ?_)
              obtain ⟨rfl, t29, hM28, he30⟩ := hz34
              change ZW G pZ la eZ (zRm 5 0 0) sZ mZ aZ bZ hZ cZ AZ 10 0 0 _ L f33 93 [(8, .int (iI na)), (0, .ref o), (1, .int (iI c)), (2, .int (iI i)), (3, .int (iI a)), (4, .int (iI b)), (5, .int (iI d)), (6, .int (iI h)), (7, .int (iI ni))] [.int (iI z31)]
              refine z_if_eq C 102 dX7_run_93 (by decide) (by omega) (fun h93 => ?_) (fun h93 => ?_)
              · have hway : spWay c i a b d h := by unfold spWay; rw [← hni, ← hna]; omega
                have hway2 := hway
                have h7 := hI.b7 d (by omega) (by omega)
                have hsz2 : 1 ≤ spSz a b ∧ spSz a b ≤ 20 := by unfold spSz; split <;> omega
                refine z_aload_n C 1 dX7_run_102 rfl ?_
                refine z_getf C 7 zin_X7 (hM28.1.1) (hM28.1.2) rfl (Nat.le_of_ble_eq_true rfl) zl_6_105 rfl rfl dX7_run_103 ?_
                refine z_iload C 6 dX7_run_106 rfl ?_
                refine z_iald C (MR_a7 hM28) (by omega) (by omega) (by omega) dX7_run_108 ?_
                have hb35 := hI.J.b7 d (by omega) (by omega)
                refine z_iconst C dX7_run_109 ?_
                refine z_icmp_le C 119 dX7_run_110 (by decide) (by omega) (by omega) (fun h110 => ?_) (fun h110 => ?_)
                · have J136 : ∀ (df : Int)   (hj136 : df = spSz a b - 1), ZW G pZ la eZ (zRm 5 0 0) sZ mZ aZ bZ hZ cZ AZ 10 0 0 (MQ bZ (zQ G zeI (fun z L' f' => L = L' ∧ ∃ t' μ' u' v', MR G L f' o ad μ' t' u' v' ∧ o_run μ c i a b d h = (t', if t' = 0 then z else 0, μ')) AZ) aZ sZ 0 0 AZ) L f33 136 [(0, .ref o), (1, .int (iI c)), (2, .int (iI i)), (3, .int (iI a)), (4, .int (iI b)), (5, .int (iI d)), (6, .int (iI h)), (7, .int (iI ni)), (8, .int (iI na))] [.int (iI df)] := by
                    intro df   hj136
                    have hdf := hj136
                    refine z_iconst C dX7_run_136 ?_
                    refine z_iadd C dX7_run_137 ?_
                    refine z_nm (fun x36 hx36 => ?_)
                    refine z_istore (ls' := [(9, .int (iI x36)), (0, .ref o), (1, .int (iI c)), (2, .int (iI i)), (3, .int (iI a)), (4, .int (iI b)), (5, .int (iI d)), (6, .int (iI h)), (7, .int (iI ni)), (8, .int (iI na))]) C dX7_run_138 (Nat.le_of_ble_eq_true rfl) rfl ?_
                    refine z_aload_n C 1 dX7_run_140 rfl ?_
                    refine z_getf C 2 zin_X7 (hM28.1.1) (hM28.1.2) rfl (Nat.le_of_ble_eq_true rfl) zl_6_100 rfl rfl dX7_run_141 ?_
                    refine z_bipush C dX7_run_144 (by decide) ?_
                    refine z_icmp_eq C 180 dX7_run_146 (by decide) (by omega) (by omega) (fun h146 => ?_) (fun h146 => ?_)
                    · refine z_aload_n C 1 dX7_run_180 rfl ?_
                      refine z_iconst C dX7_run_181 ?_
                      refine z_cV (As := [.int (iI 4)]) C zc_X7_refuse (c_X7_refuse hX hM28 4) zl_6_179 (Nat.le_of_ble_eq_true rfl) (Nat.le_of_ble_eq_true rfl) (Nat.le_of_ble_eq_true rfl) (hM28.1.1) (hM28.1.2) rfl rfl rfl rfl (Nat.le_of_ble_eq_true rfl) dX7_run_182 (fun z38 L39 f40 hz41 => ?_)
                      obtain ⟨rfl, rfl, hM37⟩ := hz41
                      change ZW G pZ la eZ (zRm 5 0 0) sZ mZ aZ bZ hZ cZ AZ 10 0 0 _ L f40 185 [(9, .int (iI x36)), (0, .ref o), (1, .int (iI c)), (2, .int (iI i)), (3, .int (iI a)), (4, .int (iI b)), (5, .int (iI d)), (6, .int (iI h)), (7, .int (iI ni)), (8, .int (iI na))] [.int (iI 0)]
                      exact z_ireturn C dX7_run_185 (Nat.le_of_ble_eq_true rfl) (Nat.le_of_ble_eq_true rfl) ⟨rfl, _, _, _, _, hM37, by unfold o_run; (rw [if_pos hc2, if_pos hway, if_pos (by omega)]; first | rw [if_neg (by omega)] | rw [if_pos (by omega), zif_pos (by rcases hbu with q | q; exact q.2; omega)]) <;> (refine Prod.ext ?_ (Prod.ext ?_ ?_) <;> first | rfl | omega | (dsimp only; omega) | (dsimp only; split <;> omega))⟩
                    · refine z_iload C 0 dX7_run_149 rfl ?_
                      refine z_iload C 7 dX7_run_151 rfl ?_
                      refine z_cS (As := [.int (iI x36), .int (iI h)]) C zc_X7_last (c_X7_last hX x36 h (by omega) (by omega)) zl_7_15 (Nat.le_of_ble_eq_true rfl) (Nat.le_of_ble_eq_true rfl) (Nat.le_of_ble_eq_true rfl) rfl rfl (Nat.le_of_ble_eq_true rfl) dX7_run_153 (fun z42 L43 f44 hz45 => ?_)
                      obtain ⟨hz45, rfl, rfl⟩ := hz45
                      subst hz45
                      change ZW G pZ la eZ (zRm 5 0 0) sZ mZ aZ bZ hZ cZ AZ 10 0 0 _ L f33 156 [(9, .int (iI x36)), (0, .ref o), (1, .int (iI c)), (2, .int (iI i)), (3, .int (iI a)), (4, .int (iI b)), (5, .int (iI d)), (6, .int (iI h)), (7, .int (iI ni)), (8, .int (iI na))] [.int (iI (h + (x36 - 1) / 5))]
                      refine z_bipush C dX7_run_156 (by decide) ?_
                      refine z_icmp_ge C 180 dX7_run_158 (by decide) (by omega) (by omega) (fun h158 => ?_) (fun h158 => ?_)
                      · refine z_aload_n C 1 dX7_run_180 rfl ?_
                        refine z_iconst C dX7_run_181 ?_
                        refine z_cV (As := [.int (iI 4)]) C zc_X7_refuse (c_X7_refuse hX hM28 4) zl_6_179 (Nat.le_of_ble_eq_true rfl) (Nat.le_of_ble_eq_true rfl) (Nat.le_of_ble_eq_true rfl) (hM28.1.1) (hM28.1.2) rfl rfl rfl rfl (Nat.le_of_ble_eq_true rfl) dX7_run_182 (fun z47 L48 f49 hz50 => ?_)
                        obtain ⟨rfl, rfl, hM46⟩ := hz50
                        change ZW G pZ la eZ (zRm 5 0 0) sZ mZ aZ bZ hZ cZ AZ 10 0 0 _ L f49 185 [(9, .int (iI x36)), (0, .ref o), (1, .int (iI c)), (2, .int (iI i)), (3, .int (iI a)), (4, .int (iI b)), (5, .int (iI d)), (6, .int (iI h)), (7, .int (iI ni)), (8, .int (iI na))] [.int (iI 0)]
                        exact z_ireturn C dX7_run_185 (Nat.le_of_ble_eq_true rfl) (Nat.le_of_ble_eq_true rfl) ⟨rfl, _, _, _, _, hM46, by unfold o_run; (rw [if_pos hc2, if_pos hway, if_pos (by omega)]; first | rw [if_neg (by omega)] | rw [if_pos (by omega), zif_pos (by rcases hbu with q | q; exact q.2; omega)]) <;> (refine Prod.ext ?_ (Prod.ext ?_ ?_) <;> first | rfl | omega | (dsimp only; omega) | (dsimp only; split <;> omega))⟩
                      · refine z_aload_n C 1 dX7_run_161 rfl ?_
                        refine z_iconst C dX7_run_162 ?_
                        refine z_iload C 6 dX7_run_163 rfl ?_
                        refine z_iload C 7 dX7_run_165 rfl ?_
                        refine z_iload C 0 dX7_run_167 rfl ?_
                        refine z_iload C 7 dX7_run_169 rfl ?_
                        refine z_cS (As := [.int (iI x36), .int (iI h)]) C zc_X7_last (c_X7_last hX x36 h (by omega) (by omega)) zl_7_15 (Nat.le_of_ble_eq_true rfl) (Nat.le_of_ble_eq_true rfl) (Nat.le_of_ble_eq_true rfl) rfl rfl (Nat.le_of_ble_eq_true rfl) dX7_run_171 (fun z51 L52 f53 hz54 => ?_)
                        obtain ⟨hz54, rfl, rfl⟩ := hz54
                        subst hz54
                        change ZW G pZ la eZ (zRm 5 0 0) sZ mZ aZ bZ hZ cZ AZ 10 0 0 _ L f33 174 [(9, .int (iI x36)), (0, .ref o), (1, .int (iI c)), (2, .int (iI i)), (3, .int (iI a)), (4, .int (iI b)), (5, .int (iI d)), (6, .int (iI h)), (7, .int (iI ni)), (8, .int (iI na))] [.int (iI (h + (x36 - 1) / 5)), .int (iI h), .int (iI d), .int (iI (-1)), .ref o]
                        refine z_cV (As := [.int (iI (-1)), .int (iI d), .int (iI h), .int (iI (h + (x36 - 1) / 5))]) C zc_X7_isBusy (c_X7_isBusy hX hM28 hI.J (-1) d h (h + (x36 - 1) / 5) (by omega) (by omega) (by omega) (by omega)) zl_7_18 (Nat.le_of_ble_eq_true rfl) (Nat.le_of_ble_eq_true rfl) (Nat.le_of_ble_eq_true rfl) (hM28.1.1) (hM28.1.2) rfl rfl rfl rfl (Nat.le_of_ble_eq_true rfl) dX7_run_174 (fun zb55 L57 f58 hb56 => ?_)
                        obtain ⟨hb56, rfl, rfl⟩ := hb56
                        have hb56 : zb55 = 1 ∧ spBusy μ (-1) d h (h + (x36 - 1) / 5) ∨ zb55 = 0 ∧ ¬ spBusy μ (-1) d h (h + (x36 - 1) / 5) := hb56
                        have hbu : zb55 = 1 ∧ spBusy μ (-1) d h (h + (spSz a b - 1) / 5) ∨ zb55 = 0 ∧ ¬ spBusy μ (-1) d h (h + (spSz a b - 1) / 5) := by have q := hb56; rw [show (h + (x36 - 1) / 5) = h + (spSz a b - 1) / 5 by omega] at q; exact q
                        change ZW G pZ la eZ (zRm 5 0 0) sZ mZ aZ bZ hZ cZ AZ 10 0 0 _ L f33 177 [(9, .int (iI x36)), (0, .ref o), (1, .int (iI c)), (2, .int (iI i)), (3, .int (iI a)), (4, .int (iI b)), (5, .int (iI d)), (6, .int (iI h)), (7, .int (iI ni)), (8, .int (iI na))] [.int (iI zb55)]
                        refine z_if_eq C 186 dX7_run_177 (by decide) (by omega) (fun h177 => ?_) (fun h177 => ?_)
                        · 
                          refine z_aload_n C 1 dX7_run_186 rfl ?_
                          refine z_iconst C dX7_run_187 ?_
                          refine m_put0 C hM28 dX7_run_188 (fun f59 hM60 => ?_)
                          refine z_aload_n C 1 dX7_run_191 rfl ?_
                          refine z_getf C 12 zin_X7 (hM60.1.1) (hM60.1.2) rfl (Nat.le_of_ble_eq_true rfl) zl_6_110 rfl rfl dX7_run_192 ?_
                          refine z_aload_n C 1 dX7_run_195 rfl ?_
                          refine z_getf C 2 zin_X7 (hM60.1.1) (hM60.1.2) rfl (Nat.le_of_ble_eq_true rfl) zl_6_100 rfl rfl dX7_run_196 ?_
                          have J210 : ∀ (rb : Int)   (hj210 : rb = bI (c = 114)), ZW G pZ la eZ (zRm 5 0 0) sZ mZ aZ bZ hZ cZ AZ 10 0 0 (MQ bZ (zQ G zeI (fun z L' f' => L = L' ∧ ∃ t' μ' u' v', MR G L f' o ad μ' t' u' v' ∧ o_run μ c i a b d h = (t', if t' = 0 then z else 0, μ')) AZ) aZ sZ 0 0 AZ) L f59 210 [(0, .ref o), (1, .int (iI c)), (2, .int (iI i)), (3, .int (iI a)), (4, .int (iI b)), (5, .int (iI d)), (6, .int (iI h)), (7, .int (iI ni)), (8, .int (iI na)), (9, .int (iI x36))] [.int (iI rb), .int (iI (μ 2 0)), .ref (ad 12)] := by
                            intro rb   hj210
                            have hrb := hj210
                            have hrb2 : rb = 0 ∨ rb = 1 := by rw [hrb]; unfold bI; split <;> omega
                            refine z_zast C (MR_a12 hM60) (by omega) (by omega) (by omega) (by omega) dX7_run_210 (fun f61 ha62 hk63 => ?_)
                            have hM64 := MR_w12 hM60 ha62 hk63
                            refine z_aload_n C 0 dX7_run_211 rfl ?_
                            refine z_getf C 13 zin_X7 (hM64.1.1) (hM64.1.2) rfl (Nat.le_of_ble_eq_true rfl) zl_6_111 rfl rfl dX7_run_212 ?_
                            refine z_aload_n C 0 dX7_run_215 rfl ?_
                            refine z_getf C 2 zin_X7 (hM64.1.1) (hM64.1.2) rfl (Nat.le_of_ble_eq_true rfl) zl_6_100 rfl rfl dX7_run_216 ?_
                            refine z_eq (b := μ 2 0) rfl ?_
                            refine z_iload_n C 2 dX7_run_219 rfl ?_
                            refine z_iast C (MR_a13 hM64) (by omega) (by omega) (by omega) dX7_run_220 (fun f65 ha66 hk67 => ?_)
                            have hM68 := MR_w13 hM64 ha66 hk67
                            refine z_aload_n C 0 dX7_run_221 rfl ?_
                            refine z_getf C 14 zin_X7 (hM68.1.1) (hM68.1.2) rfl (Nat.le_of_ble_eq_true rfl) zl_6_112 rfl rfl dX7_run_222 ?_
                            refine z_aload_n C 0 dX7_run_225 rfl ?_
                            refine z_getf C 2 zin_X7 (hM68.1.1) (hM68.1.2) rfl (Nat.le_of_ble_eq_true rfl) zl_6_100 rfl rfl dX7_run_226 ?_
                            refine z_eq (b := μ 2 0) rfl ?_
                            refine z_iload_n C 3 dX7_run_229 rfl ?_
                            refine z_iast C (MR_a14 hM68) (by omega) (by omega) (by omega) dX7_run_230 (fun f69 ha70 hk71 => ?_)
                            have hM72 := MR_w14 hM68 ha70 hk71
                            refine z_aload_n C 0 dX7_run_231 rfl ?_
                            refine z_getf C 15 zin_X7 (hM72.1.1) (hM72.1.2) rfl (Nat.le_of_ble_eq_true rfl) zl_6_113 rfl rfl dX7_run_232 ?_
                            refine z_aload_n C 0 dX7_run_235 rfl ?_
                            refine z_getf C 2 zin_X7 (hM72.1.1) (hM72.1.2) rfl (Nat.le_of_ble_eq_true rfl) zl_6_100 rfl rfl dX7_run_236 ?_
                            refine z_eq (b := μ 2 0) rfl ?_
                            refine z_iload C 4 dX7_run_239 rfl ?_
                            refine z_iast C (MR_a15 hM72) (by omega) (by omega) (by omega) dX7_run_241 (fun f73 ha74 hk75 => ?_)
                            have hM76 := MR_w15 hM72 ha74 hk75
                            refine z_aload_n C 0 dX7_run_242 rfl ?_
                            refine z_getf C 16 zin_X7 (hM76.1.1) (hM76.1.2) rfl (Nat.le_of_ble_eq_true rfl) zl_6_114 rfl rfl dX7_run_243 ?_
                            refine z_aload_n C 0 dX7_run_246 rfl ?_
                            refine z_getf C 2 zin_X7 (hM76.1.1) (hM76.1.2) rfl (Nat.le_of_ble_eq_true rfl) zl_6_100 rfl rfl dX7_run_247 ?_
                            refine z_eq (b := μ 2 0) rfl ?_
                            refine z_iload C 5 dX7_run_250 rfl ?_
                            refine z_iast C (MR_a16 hM76) (by omega) (by omega) (by omega) dX7_run_252 (fun f77 ha78 hk79 => ?_)
                            have hM80 := MR_w16 hM76 ha78 hk79
                            refine z_aload_n C 0 dX7_run_253 rfl ?_
                            refine z_getf C 17 zin_X7 (hM80.1.1) (hM80.1.2) rfl (Nat.le_of_ble_eq_true rfl) zl_6_115 rfl rfl dX7_run_254 ?_
                            refine z_aload_n C 0 dX7_run_257 rfl ?_
                            refine z_getf C 2 zin_X7 (hM80.1.1) (hM80.1.2) rfl (Nat.le_of_ble_eq_true rfl) zl_6_100 rfl rfl dX7_run_258 ?_
                            refine z_eq (b := μ 2 0) rfl ?_
                            refine z_iload C 6 dX7_run_261 rfl ?_
                            refine z_iast C (MR_a17 hM80) (by omega) (by omega) (by omega) dX7_run_263 (fun f81 ha82 hk83 => ?_)
                            have hM84 := MR_w17 hM80 ha82 hk83
                            have hJr := MJ_run hI hc2 hway (by omega)
                            refine z_aload_n C 0 dX7_run_264 rfl ?_
                            refine z_aload_n C 0 dX7_run_265 rfl ?_
                            refine z_getf C 2 zin_X7 (hM84.1.1) (hM84.1.2) rfl (Nat.le_of_ble_eq_true rfl) zl_6_100 rfl rfl dX7_run_266 ?_
                            refine z_eq (b := μ 2 0) rfl ?_
                            refine z_cV (As := [.int (iI (μ 2 0))]) C zc_X7_sounds (c_X7_sounds hX (show MR G L f81 o ad (zline μ (μ 2 0) (bI (c = 114)) i a b d h) 0 u v by have q := hM84; rw [hrb] at q; exact q) hJr (μ 2 0) (by omega)) zl_7_26 (Nat.le_of_ble_eq_true rfl) (Nat.le_of_ble_eq_true rfl) (Nat.le_of_ble_eq_true rfl) (hM84.1.1) (hM84.1.2) rfl rfl rfl rfl (Nat.le_of_ble_eq_true rfl) dX7_run_269 (fun z86 L87 f88 hz89 => ?_)
                            obtain ⟨rfl, hM85⟩ := hz89
                            have hM85a : MR G L f88 o ad (spRunS μ c i a b d h) 0 u v := hM85
                            change ZW G pZ la eZ (zRm 5 0 0) sZ mZ aZ bZ hZ cZ AZ 10 0 0 _ L f88 272 [(0, .ref o), (1, .int (iI c)), (2, .int (iI i)), (3, .int (iI a)), (4, .int (iI b)), (5, .int (iI d)), (6, .int (iI h)), (7, .int (iI ni)), (8, .int (iI na)), (9, .int (iI x36))] []
                            refine z_aload_n C 0 dX7_run_272 rfl ?_
                            refine z_dup C dX7_run_273 rfl ?_
                            refine z_getf C 2 zin_X7 (hM85a.1.1) (hM85a.1.2) rfl (Nat.le_of_ble_eq_true rfl) zl_6_100 rfl rfl dX7_run_274 ?_
                            refine z_eq (b := μ 2 0) rfl ?_
                            refine z_dup_x1 C dX7_run_277 rfl rfl ?_
                            refine z_iconst C dX7_run_278 ?_
                            refine z_iadd C dX7_run_279 ?_
                            refine m_put2 C hM85a dX7_run_280 (fun f90 hM91 => ?_)
                            exact z_ireturn C dX7_run_283 (Nat.le_of_ble_eq_true rfl) (Nat.le_of_ble_eq_true rfl) ⟨rfl, _, _, _, _, hM91, by unfold o_run; rw [if_pos hc2, if_pos hway, if_pos (by omega), if_pos (by omega), zif_neg (by rcases hbu with q | q; omega; exact q.2)]; rfl⟩
                          refine z_iload_n C 2 dX7_run_199 rfl ?_
                          refine z_bipush C dX7_run_200 (by decide) ?_
                          refine z_icmp_ne C 209 dX7_run_202 (by decide) (by omega) (by omega) (fun h202 => ?_) (fun h202 => ?_)
                          · refine z_iconst C dX7_run_209 ?_
                            refine z_perm [1, 2, 3, 4, 5, 6, 7, 8, 9, 0] rfl ?_
                            exact J210 _  (by unfold bI; first | (rw [if_pos (by omega)] <;> omega) | (rw [if_neg (by omega)] <;> omega))
                          · refine z_iconst C dX7_run_205 ?_
                            refine z_goto C 210 dX7_run_206 (by decide) ?_
                            refine z_perm [1, 2, 3, 4, 5, 6, 7, 8, 9, 0] rfl ?_
                            exact J210 _  (by unfold bI; first | (rw [if_pos (by omega)] <;> omega) | (rw [if_neg (by omega)] <;> omega))
                        · refine z_aload_n C 1 dX7_run_180 rfl ?_
                          refine z_iconst C dX7_run_181 ?_
                          refine z_cV (As := [.int (iI 4)]) C zc_X7_refuse (c_X7_refuse hX hM28 4) zl_6_179 (Nat.le_of_ble_eq_true rfl) (Nat.le_of_ble_eq_true rfl) (Nat.le_of_ble_eq_true rfl) (hM28.1.1) (hM28.1.2) rfl rfl rfl rfl (Nat.le_of_ble_eq_true rfl) dX7_run_182 (fun z93 L94 f95 hz96 => ?_)
                          obtain ⟨rfl, rfl, hM92⟩ := hz96
                          change ZW G pZ la eZ (zRm 5 0 0) sZ mZ aZ bZ hZ cZ AZ 10 0 0 _ L f95 185 [(9, .int (iI x36)), (0, .ref o), (1, .int (iI c)), (2, .int (iI i)), (3, .int (iI a)), (4, .int (iI b)), (5, .int (iI d)), (6, .int (iI h)), (7, .int (iI ni)), (8, .int (iI na))] [.int (iI 0)]
                          exact z_ireturn C dX7_run_185 (Nat.le_of_ble_eq_true rfl) (Nat.le_of_ble_eq_true rfl) ⟨rfl, _, _, _, _, hM92, by unfold o_run; (rw [if_pos hc2, if_pos hway, if_pos (by omega)]; first | rw [if_neg (by omega)] | rw [if_pos (by omega), zif_pos (by rcases hbu with q | q; exact q.2; omega)]) <;> (refine Prod.ext ?_ (Prod.ext ?_ ?_) <;> first | rfl | omega | (dsimp only; omega) | (dsimp only; split <;> omega))⟩
                  refine z_iload C 5 dX7_run_119 rfl ?_
                  refine z_iload_n C 4 dX7_run_121 rfl ?_
                  refine z_icmp_ge C 132 dX7_run_122 (by decide) (by omega) (by omega) (fun h122 => ?_) (fun h122 => ?_)
                  · refine z_iload C 5 dX7_run_132 rfl ?_
                    refine z_iload_n C 4 dX7_run_134 rfl ?_
                    refine z_isub C dX7_run_135 ?_
                    refine z_perm [1, 2, 3, 4, 5, 6, 7, 8, 0] rfl ?_
                    exact J136 _  (by unfold spSz; first | (rw [if_pos (by omega)]; omega) | (rw [if_neg (by omega)]; omega))
                  · refine z_iload_n C 4 dX7_run_125 rfl ?_
                    refine z_iload C 5 dX7_run_126 rfl ?_
                    refine z_isub C dX7_run_128 ?_
                    refine z_goto C 136 dX7_run_129 (by decide) ?_
                    refine z_perm [1, 2, 3, 4, 5, 6, 7, 8, 0] rfl ?_
                    exact J136 _  (by unfold spSz; first | (rw [if_pos (by omega)]; omega) | (rw [if_neg (by omega)]; omega))
                · refine z_aload_n C 1 dX7_run_113 rfl ?_
                  refine z_iconst C dX7_run_114 ?_
                  refine z_cV (As := [.int (iI 3)]) C zc_X7_refuse (c_X7_refuse hX hM28 3) zl_6_179 (Nat.le_of_ble_eq_true rfl) (Nat.le_of_ble_eq_true rfl) (Nat.le_of_ble_eq_true rfl) (hM28.1.1) (hM28.1.2) rfl rfl rfl rfl (Nat.le_of_ble_eq_true rfl) dX7_run_115 (fun z98 L99 f100 hz101 => ?_)
                  obtain ⟨rfl, rfl, hM97⟩ := hz101
                  change ZW G pZ la eZ (zRm 5 0 0) sZ mZ aZ bZ hZ cZ AZ 10 0 0 _ L f100 118 [(8, .int (iI na)), (0, .ref o), (1, .int (iI c)), (2, .int (iI i)), (3, .int (iI a)), (4, .int (iI b)), (5, .int (iI d)), (6, .int (iI h)), (7, .int (iI ni))] [.int (iI 0)]
                  exact z_ireturn C dX7_run_118 (Nat.le_of_ble_eq_true rfl) (Nat.le_of_ble_eq_true rfl) ⟨rfl, _, _, _, _, hM97, by unfold o_run; (rw [if_pos hc2, if_pos hway, if_neg (by omega)]) <;> (refine Prod.ext ?_ (Prod.ext ?_ ?_) <;> first | rfl | omega | (dsimp only; omega) | (dsimp only; split <;> omega))⟩
              · refine z_aload_n C 1 dX7_run_96 rfl ?_
                refine z_iconst C dX7_run_97 ?_
                refine z_cV (As := [.int (iI 2)]) C zc_X7_refuse (c_X7_refuse hX hM28 2) zl_6_179 (Nat.le_of_ble_eq_true rfl) (Nat.le_of_ble_eq_true rfl) (Nat.le_of_ble_eq_true rfl) (hM28.1.1) (hM28.1.2) rfl rfl rfl rfl (Nat.le_of_ble_eq_true rfl) dX7_run_98 (fun z103 L104 f105 hz106 => ?_)
                obtain ⟨rfl, rfl, hM102⟩ := hz106
                change ZW G pZ la eZ (zRm 5 0 0) sZ mZ aZ bZ hZ cZ AZ 10 0 0 _ L f105 101 [(8, .int (iI na)), (0, .ref o), (1, .int (iI c)), (2, .int (iI i)), (3, .int (iI a)), (4, .int (iI b)), (5, .int (iI d)), (6, .int (iI h)), (7, .int (iI ni))] [.int (iI 0)]
                exact z_ireturn C dX7_run_101 (Nat.le_of_ble_eq_true rfl) (Nat.le_of_ble_eq_true rfl) ⟨rfl, _, _, _, _, hM102, by unfold o_run; (rw [if_pos hc2, if_neg (by unfold spWay; rw [← hni, ← hna]; omega)]) <;> (refine Prod.ext ?_ (Prod.ext ?_ ?_) <;> first | rfl | omega | (dsimp only; omega) | (dsimp only; split <;> omega))⟩
      refine z_iload_n C 2 dX7_run_33 rfl ?_
      refine z_bipush C dX7_run_34 (by decide) ?_
      refine z_icmp_ne C 44 dX7_run_36 (by decide) (by omega) (by omega) (fun h36 => ?_) (fun h36 => ?_)
      · refine z_bipush C dX7_run_44 (by decide) ?_
        refine z_perm [1, 2, 3, 4, 5, 6, 7, 0] rfl ?_
        exact J46 _  (by first | (rw [if_pos (by omega)] <;> omega) | (rw [if_neg (by omega)] <;> omega))
      · refine z_bipush C dX7_run_39 (by decide) ?_
        refine z_goto C 46 dX7_run_41 (by decide) ?_
        refine z_perm [1, 2, 3, 4, 5, 6, 7, 0] rfl ?_
        exact J46 _  (by first | (rw [if_pos (by omega)] <;> omega) | (rw [if_neg (by omega)] <;> omega))
    refine z_iload_n C 1 dX7_run_18 rfl ?_
    refine z_bipush C dX7_run_19 (by decide) ?_
    refine z_icmp_ne C 29 dX7_run_21 (by decide) (by omega) (by omega) (fun h21 => ?_) (fun h21 => ?_)
    · refine z_bipush C dX7_run_29 (by decide) ?_
      refine z_perm [0, 1, 2, 3, 4, 5, 6] rfl ?_
      exact J31 _  (by first | (rw [if_pos (by omega)] <;> omega) | (rw [if_neg (by omega)] <;> omega))
    · refine z_bipush C dX7_run_24 (by decide) ?_
      refine z_goto C 31 dX7_run_26 (by decide) ?_
      refine z_perm [0, 1, 2, 3, 4, 5, 6] rfl ?_
      exact J31 _  (by first | (rw [if_pos (by omega)] <;> omega) | (rw [if_neg (by omega)] <;> omega))
  · refine z_iload_n C 1 dX7_run_6 rfl ?_
    refine z_bipush C dX7_run_7 (by decide) ?_
    refine z_icmp_eq C 18 dX7_run_9 (by decide) (by omega) (by omega) (fun h9 => ?_) (fun h9 => ?_)
    · have J31 : ∀ (ni : Int)   (hj31 : ni = if c = 114 then 12 else 20), ZW G pZ la eZ (zRm 5 0 0) sZ mZ aZ bZ hZ cZ AZ 10 0 0 (MQ bZ (zQ G zeI (fun z L' f' => L = L' ∧ ∃ t' μ' u' v', MR G L f' o ad μ' t' u' v' ∧ o_run μ c i a b d h = (t', if t' = 0 then z else 0, μ')) AZ) aZ sZ 0 0 AZ) L f 31 [(0, .ref o), (1, .int (iI c)), (2, .int (iI i)), (3, .int (iI a)), (4, .int (iI b)), (5, .int (iI d)), (6, .int (iI h))] [.int (iI ni)] := by
        intro ni   hj31
        have hni := hj31
        have hc2 : c = 114 ∨ c = 99 := by omega
        have hni2 : ni = 12 ∨ ni = 20 := by rw [hni]; split <;> omega
        refine z_istore (ls' := [(7, .int (iI ni)), (0, .ref o), (1, .int (iI c)), (2, .int (iI i)), (3, .int (iI a)), (4, .int (iI b)), (5, .int (iI d)), (6, .int (iI h))]) C dX7_run_31 (Nat.le_of_ble_eq_true rfl) rfl ?_
        have J46 : ∀ (na : Int)   (hj46 : na = if c = 114 then 20 else 12), ZW G pZ la eZ (zRm 5 0 0) sZ mZ aZ bZ hZ cZ AZ 10 0 0 (MQ bZ (zQ G zeI (fun z L' f' => L = L' ∧ ∃ t' μ' u' v', MR G L f' o ad μ' t' u' v' ∧ o_run μ c i a b d h = (t', if t' = 0 then z else 0, μ')) AZ) aZ sZ 0 0 AZ) L f 46 [(0, .ref o), (1, .int (iI c)), (2, .int (iI i)), (3, .int (iI a)), (4, .int (iI b)), (5, .int (iI d)), (6, .int (iI h)), (7, .int (iI ni))] [.int (iI na)] := by
          intro na   hj46
          have hna := hj46
          have hna2 : na = 20 ∨ na = 12 := by rw [hna]; split <;> omega
          refine z_istore (ls' := [(8, .int (iI na)), (0, .ref o), (1, .int (iI c)), (2, .int (iI i)), (3, .int (iI a)), (4, .int (iI b)), (5, .int (iI d)), (6, .int (iI h)), (7, .int (iI ni))]) C dX7_run_46 (Nat.le_of_ble_eq_true rfl) rfl ?_
          refine z_iload_n C 3 dX7_run_48 rfl ?_
          refine z_iconst C dX7_run_49 ?_
          refine z_iload C 8 dX7_run_50 rfl ?_
          refine z_iconst C dX7_run_52 ?_
          refine z_isub C dX7_run_53 ?_
          refine z_cS (As := [.int (iI i), .int (iI 0), .int (iI (ni - 1))]) C zc_X7_isIn (c_X7_isIn hX i 0 (ni - 1) (by omega) (by omega) (by omega)) zl_6_176 (Nat.le_of_ble_eq_true rfl) (Nat.le_of_ble_eq_true rfl) (Nat.le_of_ble_eq_true rfl) rfl rfl (Nat.le_of_ble_eq_true rfl) dX7_run_54 (fun z107 L108 f109 hz110 => ?_)
          obtain ⟨hz110, rfl, rfl⟩ := hz110
          subst hz110
          change ZW G pZ la eZ (zRm 5 0 0) sZ mZ aZ bZ hZ cZ AZ 10 0 0 _ L f 57 [(8, .int (iI na)), (0, .ref o), (1, .int (iI c)), (2, .int (iI i)), (3, .int (iI a)), (4, .int (iI b)), (5, .int (iI d)), (6, .int (iI h)), (7, .int (iI ni))] [.int (iI (bI (0 ≤ i ∧ i ≤ ni - 1)))]
          refine z_if_eq_b C 96 dX7_run_57 (by decide) (fun h57 => ?_) (fun h57 => ?_)
          · refine z_aload_n C 1 dX7_run_96 rfl ?_
            refine z_iconst C dX7_run_97 ?_
            refine z_cV (As := [.int (iI 2)]) C zc_X7_refuse (c_X7_refuse hX hM 2) zl_6_179 (Nat.le_of_ble_eq_true rfl) (Nat.le_of_ble_eq_true rfl) (Nat.le_of_ble_eq_true rfl) (hM.1.1) (hM.1.2) rfl rfl rfl rfl (Nat.le_of_ble_eq_true rfl) dX7_run_98 (fun z112 L113 f114 hz115 => ?_)
            obtain ⟨rfl, rfl, hM111⟩ := hz115
            change ZW G pZ la eZ (zRm 5 0 0) sZ mZ aZ bZ hZ cZ AZ 10 0 0 _ L f114 101 [(8, .int (iI na)), (0, .ref o), (1, .int (iI c)), (2, .int (iI i)), (3, .int (iI a)), (4, .int (iI b)), (5, .int (iI d)), (6, .int (iI h)), (7, .int (iI ni))] [.int (iI 0)]
            exact z_ireturn C dX7_run_101 (Nat.le_of_ble_eq_true rfl) (Nat.le_of_ble_eq_true rfl) ⟨rfl, _, _, _, _, hM111, by unfold o_run; (rw [if_pos hc2, if_neg (by unfold spWay; rw [← hni, ← hna]; omega)]) <;> (refine Prod.ext ?_ (Prod.ext ?_ ?_) <;> first | rfl | omega | (dsimp only; omega) | (dsimp only; split <;> omega))⟩
          · refine z_iload_n C 4 dX7_run_60 rfl ?_
            refine z_iconst C dX7_run_61 ?_
            refine z_iload C 0 dX7_run_62 rfl ?_
            refine z_iconst C dX7_run_64 ?_
            refine z_isub C dX7_run_65 ?_
            refine z_cS (As := [.int (iI a), .int (iI 0), .int (iI (na - 1))]) C zc_X7_isIn (c_X7_isIn hX a 0 (na - 1) (by omega) (by omega) (by omega)) zl_6_176 (Nat.le_of_ble_eq_true rfl) (Nat.le_of_ble_eq_true rfl) (Nat.le_of_ble_eq_true rfl) rfl rfl (Nat.le_of_ble_eq_true rfl) dX7_run_66 (fun z116 L117 f118 hz119 => ?_)
            obtain ⟨hz119, rfl, rfl⟩ := hz119
            subst hz119
            change ZW G pZ la eZ (zRm 5 0 0) sZ mZ aZ bZ hZ cZ AZ 10 0 0 _ L f 69 [(8, .int (iI na)), (0, .ref o), (1, .int (iI c)), (2, .int (iI i)), (3, .int (iI a)), (4, .int (iI b)), (5, .int (iI d)), (6, .int (iI h)), (7, .int (iI ni))] [.int (iI (bI (0 ≤ a ∧ a ≤ na - 1)))]
            refine z_if_eq_b C 96 dX7_run_69 (by decide) (fun h69 => ?_) (fun h69 => ?_)
            · refine z_aload_n C 1 dX7_run_96 rfl ?_
              refine z_iconst C dX7_run_97 ?_
              refine z_cV (As := [.int (iI 2)]) C zc_X7_refuse (c_X7_refuse hX hM 2) zl_6_179 (Nat.le_of_ble_eq_true rfl) (Nat.le_of_ble_eq_true rfl) (Nat.le_of_ble_eq_true rfl) (hM.1.1) (hM.1.2) rfl rfl rfl rfl (Nat.le_of_ble_eq_true rfl) dX7_run_98 (fun z121 L122 f123 hz124 => ?_)
              obtain ⟨rfl, rfl, hM120⟩ := hz124
              change ZW G pZ la eZ (zRm 5 0 0) sZ mZ aZ bZ hZ cZ AZ 10 0 0 _ L f123 101 [(8, .int (iI na)), (0, .ref o), (1, .int (iI c)), (2, .int (iI i)), (3, .int (iI a)), (4, .int (iI b)), (5, .int (iI d)), (6, .int (iI h)), (7, .int (iI ni))] [.int (iI 0)]
              exact z_ireturn C dX7_run_101 (Nat.le_of_ble_eq_true rfl) (Nat.le_of_ble_eq_true rfl) ⟨rfl, _, _, _, _, hM120, by unfold o_run; (rw [if_pos hc2, if_neg (by unfold spWay; rw [← hni, ← hna]; omega)]) <;> (refine Prod.ext ?_ (Prod.ext ?_ ?_) <;> first | rfl | omega | (dsimp only; omega) | (dsimp only; split <;> omega))⟩
            · refine z_iload C 5 dX7_run_72 rfl ?_
              refine z_iconst C dX7_run_74 ?_
              refine z_iload C 0 dX7_run_75 rfl ?_
              refine z_iconst C dX7_run_77 ?_
              refine z_isub C dX7_run_78 ?_
              refine z_cS (As := [.int (iI b), .int (iI 0), .int (iI (na - 1))]) C zc_X7_isIn (c_X7_isIn hX b 0 (na - 1) (by omega) (by omega) (by omega)) zl_6_176 (Nat.le_of_ble_eq_true rfl) (Nat.le_of_ble_eq_true rfl) (Nat.le_of_ble_eq_true rfl) rfl rfl (Nat.le_of_ble_eq_true rfl) dX7_run_79 (fun z125 L126 f127 hz128 => ?_)
              obtain ⟨hz128, rfl, rfl⟩ := hz128
              subst hz128
              change ZW G pZ la eZ (zRm 5 0 0) sZ mZ aZ bZ hZ cZ AZ 10 0 0 _ L f 82 [(8, .int (iI na)), (0, .ref o), (1, .int (iI c)), (2, .int (iI i)), (3, .int (iI a)), (4, .int (iI b)), (5, .int (iI d)), (6, .int (iI h)), (7, .int (iI ni))] [.int (iI (bI (0 ≤ b ∧ b ≤ na - 1)))]
              refine z_if_eq_b C 96 dX7_run_82 (by decide) (fun h82 => ?_) (fun h82 => ?_)
              · refine z_aload_n C 1 dX7_run_96 rfl ?_
                refine z_iconst C dX7_run_97 ?_
                refine z_cV (As := [.int (iI 2)]) C zc_X7_refuse (c_X7_refuse hX hM 2) zl_6_179 (Nat.le_of_ble_eq_true rfl) (Nat.le_of_ble_eq_true rfl) (Nat.le_of_ble_eq_true rfl) (hM.1.1) (hM.1.2) rfl rfl rfl rfl (Nat.le_of_ble_eq_true rfl) dX7_run_98 (fun z130 L131 f132 hz133 => ?_)
                obtain ⟨rfl, rfl, hM129⟩ := hz133
                change ZW G pZ la eZ (zRm 5 0 0) sZ mZ aZ bZ hZ cZ AZ 10 0 0 _ L f132 101 [(8, .int (iI na)), (0, .ref o), (1, .int (iI c)), (2, .int (iI i)), (3, .int (iI a)), (4, .int (iI b)), (5, .int (iI d)), (6, .int (iI h)), (7, .int (iI ni))] [.int (iI 0)]
                exact z_ireturn C dX7_run_101 (Nat.le_of_ble_eq_true rfl) (Nat.le_of_ble_eq_true rfl) ⟨rfl, _, _, _, _, hM129, by unfold o_run; (rw [if_pos hc2, if_neg (by unfold spWay; rw [← hni, ← hna]; omega)]) <;> (refine Prod.ext ?_ (Prod.ext ?_ ?_) <;> first | rfl | omega | (dsimp only; omega) | (dsimp only; split <;> omega))⟩
              · refine z_aload_n C 1 dX7_run_85 rfl ?_
                refine z_iload C 6 dX7_run_86 rfl ?_
                refine z_iload C 7 dX7_run_88 rfl ?_
                refine z_cV (As := [.int (iI d), .int (iI h)]) C zc_X7_noHour (c_X7_noHour hX hM d h (by omega) (by omega) ) zl_6_187 (Nat.le_of_ble_eq_true rfl) (Nat.le_of_ble_eq_true rfl) (Nat.le_of_ble_eq_true rfl) (hM.1.1) (hM.1.2) rfl rfl rfl rfl (Nat.le_of_ble_eq_true rfl) dX7_run_90 (fun z137 L138 f139 hz140 => ?_)
                obtain ⟨rfl, t135, hM134, he136⟩ := hz140
                change ZW G pZ la eZ (zRm 5 0 0) sZ mZ aZ bZ hZ cZ AZ 10 0 0 _ L f139 93 [(8, .int (iI na)), (0, .ref o), (1, .int (iI c)), (2, .int (iI i)), (3, .int (iI a)), (4, .int (iI b)), (5, .int (iI d)), (6, .int (iI h)), (7, .int (iI ni))] [.int (iI z137)]
                refine z_if_eq C 102 dX7_run_93 (by decide) (by omega) (fun h93 => ?_) (fun h93 => ?_)
                · have hway : spWay c i a b d h := by unfold spWay; rw [← hni, ← hna]; omega
                  have hway2 := hway
                  have h7 := hI.b7 d (by omega) (by omega)
                  have hsz2 : 1 ≤ spSz a b ∧ spSz a b ≤ 20 := by unfold spSz; split <;> omega
                  refine z_aload_n C 1 dX7_run_102 rfl ?_
                  refine z_getf C 7 zin_X7 (hM134.1.1) (hM134.1.2) rfl (Nat.le_of_ble_eq_true rfl) zl_6_105 rfl rfl dX7_run_103 ?_
                  refine z_iload C 6 dX7_run_106 rfl ?_
                  refine z_iald C (MR_a7 hM134) (by omega) (by omega) (by omega) dX7_run_108 ?_
                  have hb141 := hI.J.b7 d (by omega) (by omega)
                  refine z_iconst C dX7_run_109 ?_
                  refine z_icmp_le C 119 dX7_run_110 (by decide) (by omega) (by omega) (fun h110 => ?_) (fun h110 => ?_)
                  · have J136 : ∀ (df : Int)   (hj136 : df = spSz a b - 1), ZW G pZ la eZ (zRm 5 0 0) sZ mZ aZ bZ hZ cZ AZ 10 0 0 (MQ bZ (zQ G zeI (fun z L' f' => L = L' ∧ ∃ t' μ' u' v', MR G L f' o ad μ' t' u' v' ∧ o_run μ c i a b d h = (t', if t' = 0 then z else 0, μ')) AZ) aZ sZ 0 0 AZ) L f139 136 [(0, .ref o), (1, .int (iI c)), (2, .int (iI i)), (3, .int (iI a)), (4, .int (iI b)), (5, .int (iI d)), (6, .int (iI h)), (7, .int (iI ni)), (8, .int (iI na))] [.int (iI df)] := by
                      intro df   hj136
                      have hdf := hj136
                      refine z_iconst C dX7_run_136 ?_
                      refine z_iadd C dX7_run_137 ?_
                      refine z_nm (fun x142 hx142 => ?_)
                      refine z_istore (ls' := [(9, .int (iI x142)), (0, .ref o), (1, .int (iI c)), (2, .int (iI i)), (3, .int (iI a)), (4, .int (iI b)), (5, .int (iI d)), (6, .int (iI h)), (7, .int (iI ni)), (8, .int (iI na))]) C dX7_run_138 (Nat.le_of_ble_eq_true rfl) rfl ?_
                      refine z_aload_n C 1 dX7_run_140 rfl ?_
                      refine z_getf C 2 zin_X7 (hM134.1.1) (hM134.1.2) rfl (Nat.le_of_ble_eq_true rfl) zl_6_100 rfl rfl dX7_run_141 ?_
                      refine z_bipush C dX7_run_144 (by decide) ?_
                      refine z_icmp_eq C 180 dX7_run_146 (by decide) (by omega) (by omega) (fun h146 => ?_) (fun h146 => ?_)
                      · refine z_aload_n C 1 dX7_run_180 rfl ?_
                        refine z_iconst C dX7_run_181 ?_
                        refine z_cV (As := [.int (iI 4)]) C zc_X7_refuse (c_X7_refuse hX hM134 4) zl_6_179 (Nat.le_of_ble_eq_true rfl) (Nat.le_of_ble_eq_true rfl) (Nat.le_of_ble_eq_true rfl) (hM134.1.1) (hM134.1.2) rfl rfl rfl rfl (Nat.le_of_ble_eq_true rfl) dX7_run_182 (fun z144 L145 f146 hz147 => ?_)
                        obtain ⟨rfl, rfl, hM143⟩ := hz147
                        change ZW G pZ la eZ (zRm 5 0 0) sZ mZ aZ bZ hZ cZ AZ 10 0 0 _ L f146 185 [(9, .int (iI x142)), (0, .ref o), (1, .int (iI c)), (2, .int (iI i)), (3, .int (iI a)), (4, .int (iI b)), (5, .int (iI d)), (6, .int (iI h)), (7, .int (iI ni)), (8, .int (iI na))] [.int (iI 0)]
                        exact z_ireturn C dX7_run_185 (Nat.le_of_ble_eq_true rfl) (Nat.le_of_ble_eq_true rfl) ⟨rfl, _, _, _, _, hM143, by unfold o_run; (rw [if_pos hc2, if_pos hway, if_pos (by omega)]; first | rw [if_neg (by omega)] | rw [if_pos (by omega), zif_pos (by rcases hbu with q | q; exact q.2; omega)]) <;> (refine Prod.ext ?_ (Prod.ext ?_ ?_) <;> first | rfl | omega | (dsimp only; omega) | (dsimp only; split <;> omega))⟩
                      · refine z_iload C 0 dX7_run_149 rfl ?_
                        refine z_iload C 7 dX7_run_151 rfl ?_
                        refine z_cS (As := [.int (iI x142), .int (iI h)]) C zc_X7_last (c_X7_last hX x142 h (by omega) (by omega)) zl_7_15 (Nat.le_of_ble_eq_true rfl) (Nat.le_of_ble_eq_true rfl) (Nat.le_of_ble_eq_true rfl) rfl rfl (Nat.le_of_ble_eq_true rfl) dX7_run_153 (fun z148 L149 f150 hz151 => ?_)
                        obtain ⟨hz151, rfl, rfl⟩ := hz151
                        subst hz151
                        change ZW G pZ la eZ (zRm 5 0 0) sZ mZ aZ bZ hZ cZ AZ 10 0 0 _ L f139 156 [(9, .int (iI x142)), (0, .ref o), (1, .int (iI c)), (2, .int (iI i)), (3, .int (iI a)), (4, .int (iI b)), (5, .int (iI d)), (6, .int (iI h)), (7, .int (iI ni)), (8, .int (iI na))] [.int (iI (h + (x142 - 1) / 5))]
                        refine z_bipush C dX7_run_156 (by decide) ?_
                        refine z_icmp_ge C 180 dX7_run_158 (by decide) (by omega) (by omega) (fun h158 => ?_) (fun h158 => ?_)
                        · refine z_aload_n C 1 dX7_run_180 rfl ?_
                          refine z_iconst C dX7_run_181 ?_
                          refine z_cV (As := [.int (iI 4)]) C zc_X7_refuse (c_X7_refuse hX hM134 4) zl_6_179 (Nat.le_of_ble_eq_true rfl) (Nat.le_of_ble_eq_true rfl) (Nat.le_of_ble_eq_true rfl) (hM134.1.1) (hM134.1.2) rfl rfl rfl rfl (Nat.le_of_ble_eq_true rfl) dX7_run_182 (fun z153 L154 f155 hz156 => ?_)
                          obtain ⟨rfl, rfl, hM152⟩ := hz156
                          change ZW G pZ la eZ (zRm 5 0 0) sZ mZ aZ bZ hZ cZ AZ 10 0 0 _ L f155 185 [(9, .int (iI x142)), (0, .ref o), (1, .int (iI c)), (2, .int (iI i)), (3, .int (iI a)), (4, .int (iI b)), (5, .int (iI d)), (6, .int (iI h)), (7, .int (iI ni)), (8, .int (iI na))] [.int (iI 0)]
                          exact z_ireturn C dX7_run_185 (Nat.le_of_ble_eq_true rfl) (Nat.le_of_ble_eq_true rfl) ⟨rfl, _, _, _, _, hM152, by unfold o_run; (rw [if_pos hc2, if_pos hway, if_pos (by omega)]; first | rw [if_neg (by omega)] | rw [if_pos (by omega), zif_pos (by rcases hbu with q | q; exact q.2; omega)]) <;> (refine Prod.ext ?_ (Prod.ext ?_ ?_) <;> first | rfl | omega | (dsimp only; omega) | (dsimp only; split <;> omega))⟩
                        · refine z_aload_n C 1 dX7_run_161 rfl ?_
                          refine z_iconst C dX7_run_162 ?_
                          refine z_iload C 6 dX7_run_163 rfl ?_
                          refine z_iload C 7 dX7_run_165 rfl ?_
                          refine z_iload C 0 dX7_run_167 rfl ?_
                          refine z_iload C 7 dX7_run_169 rfl ?_
                          refine z_cS (As := [.int (iI x142), .int (iI h)]) C zc_X7_last (c_X7_last hX x142 h (by omega) (by omega)) zl_7_15 (Nat.le_of_ble_eq_true rfl) (Nat.le_of_ble_eq_true rfl) (Nat.le_of_ble_eq_true rfl) rfl rfl (Nat.le_of_ble_eq_true rfl) dX7_run_171 (fun z157 L158 f159 hz160 => ?_)
                          obtain ⟨hz160, rfl, rfl⟩ := hz160
                          subst hz160
                          change ZW G pZ la eZ (zRm 5 0 0) sZ mZ aZ bZ hZ cZ AZ 10 0 0 _ L f139 174 [(9, .int (iI x142)), (0, .ref o), (1, .int (iI c)), (2, .int (iI i)), (3, .int (iI a)), (4, .int (iI b)), (5, .int (iI d)), (6, .int (iI h)), (7, .int (iI ni)), (8, .int (iI na))] [.int (iI (h + (x142 - 1) / 5)), .int (iI h), .int (iI d), .int (iI (-1)), .ref o]
                          refine z_cV (As := [.int (iI (-1)), .int (iI d), .int (iI h), .int (iI (h + (x142 - 1) / 5))]) C zc_X7_isBusy (c_X7_isBusy hX hM134 hI.J (-1) d h (h + (x142 - 1) / 5) (by omega) (by omega) (by omega) (by omega)) zl_7_18 (Nat.le_of_ble_eq_true rfl) (Nat.le_of_ble_eq_true rfl) (Nat.le_of_ble_eq_true rfl) (hM134.1.1) (hM134.1.2) rfl rfl rfl rfl (Nat.le_of_ble_eq_true rfl) dX7_run_174 (fun zb161 L163 f164 hb162 => ?_)
                          obtain ⟨hb162, rfl, rfl⟩ := hb162
                          have hb162 : zb161 = 1 ∧ spBusy μ (-1) d h (h + (x142 - 1) / 5) ∨ zb161 = 0 ∧ ¬ spBusy μ (-1) d h (h + (x142 - 1) / 5) := hb162
                          have hbu : zb161 = 1 ∧ spBusy μ (-1) d h (h + (spSz a b - 1) / 5) ∨ zb161 = 0 ∧ ¬ spBusy μ (-1) d h (h + (spSz a b - 1) / 5) := by have q := hb162; rw [show (h + (x142 - 1) / 5) = h + (spSz a b - 1) / 5 by omega] at q; exact q
                          change ZW G pZ la eZ (zRm 5 0 0) sZ mZ aZ bZ hZ cZ AZ 10 0 0 _ L f139 177 [(9, .int (iI x142)), (0, .ref o), (1, .int (iI c)), (2, .int (iI i)), (3, .int (iI a)), (4, .int (iI b)), (5, .int (iI d)), (6, .int (iI h)), (7, .int (iI ni)), (8, .int (iI na))] [.int (iI zb161)]
                          refine z_if_eq C 186 dX7_run_177 (by decide) (by omega) (fun h177 => ?_) (fun h177 => ?_)
                          · 
                            refine z_aload_n C 1 dX7_run_186 rfl ?_
                            refine z_iconst C dX7_run_187 ?_
                            refine m_put0 C hM134 dX7_run_188 (fun f165 hM166 => ?_)
                            refine z_aload_n C 1 dX7_run_191 rfl ?_
                            refine z_getf C 12 zin_X7 (hM166.1.1) (hM166.1.2) rfl (Nat.le_of_ble_eq_true rfl) zl_6_110 rfl rfl dX7_run_192 ?_
                            refine z_aload_n C 1 dX7_run_195 rfl ?_
                            refine z_getf C 2 zin_X7 (hM166.1.1) (hM166.1.2) rfl (Nat.le_of_ble_eq_true rfl) zl_6_100 rfl rfl dX7_run_196 ?_
                            have J210 : ∀ (rb : Int)   (hj210 : rb = bI (c = 114)), ZW G pZ la eZ (zRm 5 0 0) sZ mZ aZ bZ hZ cZ AZ 10 0 0 (MQ bZ (zQ G zeI (fun z L' f' => L = L' ∧ ∃ t' μ' u' v', MR G L f' o ad μ' t' u' v' ∧ o_run μ c i a b d h = (t', if t' = 0 then z else 0, μ')) AZ) aZ sZ 0 0 AZ) L f165 210 [(0, .ref o), (1, .int (iI c)), (2, .int (iI i)), (3, .int (iI a)), (4, .int (iI b)), (5, .int (iI d)), (6, .int (iI h)), (7, .int (iI ni)), (8, .int (iI na)), (9, .int (iI x142))] [.int (iI rb), .int (iI (μ 2 0)), .ref (ad 12)] := by
                              intro rb   hj210
                              have hrb := hj210
                              have hrb2 : rb = 0 ∨ rb = 1 := by rw [hrb]; unfold bI; split <;> omega
                              refine z_zast C (MR_a12 hM166) (by omega) (by omega) (by omega) (by omega) dX7_run_210 (fun f167 ha168 hk169 => ?_)
                              have hM170 := MR_w12 hM166 ha168 hk169
                              refine z_aload_n C 0 dX7_run_211 rfl ?_
                              refine z_getf C 13 zin_X7 (hM170.1.1) (hM170.1.2) rfl (Nat.le_of_ble_eq_true rfl) zl_6_111 rfl rfl dX7_run_212 ?_
                              refine z_aload_n C 0 dX7_run_215 rfl ?_
                              refine z_getf C 2 zin_X7 (hM170.1.1) (hM170.1.2) rfl (Nat.le_of_ble_eq_true rfl) zl_6_100 rfl rfl dX7_run_216 ?_
                              refine z_eq (b := μ 2 0) rfl ?_
                              refine z_iload_n C 2 dX7_run_219 rfl ?_
                              refine z_iast C (MR_a13 hM170) (by omega) (by omega) (by omega) dX7_run_220 (fun f171 ha172 hk173 => ?_)
                              have hM174 := MR_w13 hM170 ha172 hk173
                              refine z_aload_n C 0 dX7_run_221 rfl ?_
                              refine z_getf C 14 zin_X7 (hM174.1.1) (hM174.1.2) rfl (Nat.le_of_ble_eq_true rfl) zl_6_112 rfl rfl dX7_run_222 ?_
                              refine z_aload_n C 0 dX7_run_225 rfl ?_
                              refine z_getf C 2 zin_X7 (hM174.1.1) (hM174.1.2) rfl (Nat.le_of_ble_eq_true rfl) zl_6_100 rfl rfl dX7_run_226 ?_
                              refine z_eq (b := μ 2 0) rfl ?_
                              refine z_iload_n C 3 dX7_run_229 rfl ?_
                              refine z_iast C (MR_a14 hM174) (by omega) (by omega) (by omega) dX7_run_230 (fun f175 ha176 hk177 => ?_)
                              have hM178 := MR_w14 hM174 ha176 hk177
                              refine z_aload_n C 0 dX7_run_231 rfl ?_
                              refine z_getf C 15 zin_X7 (hM178.1.1) (hM178.1.2) rfl (Nat.le_of_ble_eq_true rfl) zl_6_113 rfl rfl dX7_run_232 ?_
                              refine z_aload_n C 0 dX7_run_235 rfl ?_
                              refine z_getf C 2 zin_X7 (hM178.1.1) (hM178.1.2) rfl (Nat.le_of_ble_eq_true rfl) zl_6_100 rfl rfl dX7_run_236 ?_
                              refine z_eq (b := μ 2 0) rfl ?_
                              refine z_iload C 4 dX7_run_239 rfl ?_
                              refine z_iast C (MR_a15 hM178) (by omega) (by omega) (by omega) dX7_run_241 (fun f179 ha180 hk181 => ?_)
                              have hM182 := MR_w15 hM178 ha180 hk181
                              refine z_aload_n C 0 dX7_run_242 rfl ?_
                              refine z_getf C 16 zin_X7 (hM182.1.1) (hM182.1.2) rfl (Nat.le_of_ble_eq_true rfl) zl_6_114 rfl rfl dX7_run_243 ?_
                              refine z_aload_n C 0 dX7_run_246 rfl ?_
                              refine z_getf C 2 zin_X7 (hM182.1.1) (hM182.1.2) rfl (Nat.le_of_ble_eq_true rfl) zl_6_100 rfl rfl dX7_run_247 ?_
                              refine z_eq (b := μ 2 0) rfl ?_
                              refine z_iload C 5 dX7_run_250 rfl ?_
                              refine z_iast C (MR_a16 hM182) (by omega) (by omega) (by omega) dX7_run_252 (fun f183 ha184 hk185 => ?_)
                              have hM186 := MR_w16 hM182 ha184 hk185
                              refine z_aload_n C 0 dX7_run_253 rfl ?_
                              refine z_getf C 17 zin_X7 (hM186.1.1) (hM186.1.2) rfl (Nat.le_of_ble_eq_true rfl) zl_6_115 rfl rfl dX7_run_254 ?_
                              refine z_aload_n C 0 dX7_run_257 rfl ?_
                              refine z_getf C 2 zin_X7 (hM186.1.1) (hM186.1.2) rfl (Nat.le_of_ble_eq_true rfl) zl_6_100 rfl rfl dX7_run_258 ?_
                              refine z_eq (b := μ 2 0) rfl ?_
                              refine z_iload C 6 dX7_run_261 rfl ?_
                              refine z_iast C (MR_a17 hM186) (by omega) (by omega) (by omega) dX7_run_263 (fun f187 ha188 hk189 => ?_)
                              have hM190 := MR_w17 hM186 ha188 hk189
                              have hJr := MJ_run hI hc2 hway (by omega)
                              refine z_aload_n C 0 dX7_run_264 rfl ?_
                              refine z_aload_n C 0 dX7_run_265 rfl ?_
                              refine z_getf C 2 zin_X7 (hM190.1.1) (hM190.1.2) rfl (Nat.le_of_ble_eq_true rfl) zl_6_100 rfl rfl dX7_run_266 ?_
                              refine z_eq (b := μ 2 0) rfl ?_
                              refine z_cV (As := [.int (iI (μ 2 0))]) C zc_X7_sounds (c_X7_sounds hX (show MR G L f187 o ad (zline μ (μ 2 0) (bI (c = 114)) i a b d h) 0 u v by have q := hM190; rw [hrb] at q; exact q) hJr (μ 2 0) (by omega)) zl_7_26 (Nat.le_of_ble_eq_true rfl) (Nat.le_of_ble_eq_true rfl) (Nat.le_of_ble_eq_true rfl) (hM190.1.1) (hM190.1.2) rfl rfl rfl rfl (Nat.le_of_ble_eq_true rfl) dX7_run_269 (fun z192 L193 f194 hz195 => ?_)
                              obtain ⟨rfl, hM191⟩ := hz195
                              have hM191a : MR G L f194 o ad (spRunS μ c i a b d h) 0 u v := hM191
                              change ZW G pZ la eZ (zRm 5 0 0) sZ mZ aZ bZ hZ cZ AZ 10 0 0 _ L f194 272 [(0, .ref o), (1, .int (iI c)), (2, .int (iI i)), (3, .int (iI a)), (4, .int (iI b)), (5, .int (iI d)), (6, .int (iI h)), (7, .int (iI ni)), (8, .int (iI na)), (9, .int (iI x142))] []
                              refine z_aload_n C 0 dX7_run_272 rfl ?_
                              refine z_dup C dX7_run_273 rfl ?_
                              refine z_getf C 2 zin_X7 (hM191a.1.1) (hM191a.1.2) rfl (Nat.le_of_ble_eq_true rfl) zl_6_100 rfl rfl dX7_run_274 ?_
                              refine z_eq (b := μ 2 0) rfl ?_
                              refine z_dup_x1 C dX7_run_277 rfl rfl ?_
                              refine z_iconst C dX7_run_278 ?_
                              refine z_iadd C dX7_run_279 ?_
                              refine m_put2 C hM191a dX7_run_280 (fun f196 hM197 => ?_)
                              exact z_ireturn C dX7_run_283 (Nat.le_of_ble_eq_true rfl) (Nat.le_of_ble_eq_true rfl) ⟨rfl, _, _, _, _, hM197, by unfold o_run; rw [if_pos hc2, if_pos hway, if_pos (by omega), if_pos (by omega), zif_neg (by rcases hbu with q | q; omega; exact q.2)]; rfl⟩
                            refine z_iload_n C 2 dX7_run_199 rfl ?_
                            refine z_bipush C dX7_run_200 (by decide) ?_
                            refine z_icmp_ne C 209 dX7_run_202 (by decide) (by omega) (by omega) (fun h202 => ?_) (fun h202 => ?_)
                            · refine z_iconst C dX7_run_209 ?_
                              refine z_perm [1, 2, 3, 4, 5, 6, 7, 8, 9, 0] rfl ?_
                              exact J210 _  (by unfold bI; first | (rw [if_pos (by omega)] <;> omega) | (rw [if_neg (by omega)] <;> omega))
                            · refine z_iconst C dX7_run_205 ?_
                              refine z_goto C 210 dX7_run_206 (by decide) ?_
                              refine z_perm [1, 2, 3, 4, 5, 6, 7, 8, 9, 0] rfl ?_
                              exact J210 _  (by unfold bI; first | (rw [if_pos (by omega)] <;> omega) | (rw [if_neg (by omega)] <;> omega))
                          · refine z_aload_n C 1 dX7_run_180 rfl ?_
                            refine z_iconst C dX7_run_181 ?_
                            refine z_cV (As := [.int (iI 4)]) C zc_X7_refuse (c_X7_refuse hX hM134 4) zl_6_179 (Nat.le_of_ble_eq_true rfl) (Nat.le_of_ble_eq_true rfl) (Nat.le_of_ble_eq_true rfl) (hM134.1.1) (hM134.1.2) rfl rfl rfl rfl (Nat.le_of_ble_eq_true rfl) dX7_run_182 (fun z199 L200 f201 hz202 => ?_)
                            obtain ⟨rfl, rfl, hM198⟩ := hz202
                            change ZW G pZ la eZ (zRm 5 0 0) sZ mZ aZ bZ hZ cZ AZ 10 0 0 _ L f201 185 [(9, .int (iI x142)), (0, .ref o), (1, .int (iI c)), (2, .int (iI i)), (3, .int (iI a)), (4, .int (iI b)), (5, .int (iI d)), (6, .int (iI h)), (7, .int (iI ni)), (8, .int (iI na))] [.int (iI 0)]
                            exact z_ireturn C dX7_run_185 (Nat.le_of_ble_eq_true rfl) (Nat.le_of_ble_eq_true rfl) ⟨rfl, _, _, _, _, hM198, by unfold o_run; (rw [if_pos hc2, if_pos hway, if_pos (by omega)]; first | rw [if_neg (by omega)] | rw [if_pos (by omega), zif_pos (by rcases hbu with q | q; exact q.2; omega)]) <;> (refine Prod.ext ?_ (Prod.ext ?_ ?_) <;> first | rfl | omega | (dsimp only; omega) | (dsimp only; split <;> omega))⟩
                    refine z_iload C 5 dX7_run_119 rfl ?_
                    refine z_iload_n C 4 dX7_run_121 rfl ?_
                    refine z_icmp_ge C 132 dX7_run_122 (by decide) (by omega) (by omega) (fun h122 => ?_) (fun h122 => ?_)
                    · refine z_iload C 5 dX7_run_132 rfl ?_
                      refine z_iload_n C 4 dX7_run_134 rfl ?_
                      refine z_isub C dX7_run_135 ?_
                      refine z_perm [1, 2, 3, 4, 5, 6, 7, 8, 0] rfl ?_
                      exact J136 _  (by unfold spSz; first | (rw [if_pos (by omega)]; omega) | (rw [if_neg (by omega)]; omega))
                    · refine z_iload_n C 4 dX7_run_125 rfl ?_
                      refine z_iload C 5 dX7_run_126 rfl ?_
                      refine z_isub C dX7_run_128 ?_
                      refine z_goto C 136 dX7_run_129 (by decide) ?_
                      refine z_perm [1, 2, 3, 4, 5, 6, 7, 8, 0] rfl ?_
                      exact J136 _  (by unfold spSz; first | (rw [if_pos (by omega)]; omega) | (rw [if_neg (by omega)]; omega))
                  · refine z_aload_n C 1 dX7_run_113 rfl ?_
                    refine z_iconst C dX7_run_114 ?_
                    refine z_cV (As := [.int (iI 3)]) C zc_X7_refuse (c_X7_refuse hX hM134 3) zl_6_179 (Nat.le_of_ble_eq_true rfl) (Nat.le_of_ble_eq_true rfl) (Nat.le_of_ble_eq_true rfl) (hM134.1.1) (hM134.1.2) rfl rfl rfl rfl (Nat.le_of_ble_eq_true rfl) dX7_run_115 (fun z204 L205 f206 hz207 => ?_)
                    obtain ⟨rfl, rfl, hM203⟩ := hz207
                    change ZW G pZ la eZ (zRm 5 0 0) sZ mZ aZ bZ hZ cZ AZ 10 0 0 _ L f206 118 [(8, .int (iI na)), (0, .ref o), (1, .int (iI c)), (2, .int (iI i)), (3, .int (iI a)), (4, .int (iI b)), (5, .int (iI d)), (6, .int (iI h)), (7, .int (iI ni))] [.int (iI 0)]
                    exact z_ireturn C dX7_run_118 (Nat.le_of_ble_eq_true rfl) (Nat.le_of_ble_eq_true rfl) ⟨rfl, _, _, _, _, hM203, by unfold o_run; (rw [if_pos hc2, if_pos hway, if_neg (by omega)]) <;> (refine Prod.ext ?_ (Prod.ext ?_ ?_) <;> first | rfl | omega | (dsimp only; omega) | (dsimp only; split <;> omega))⟩
                · refine z_aload_n C 1 dX7_run_96 rfl ?_
                  refine z_iconst C dX7_run_97 ?_
                  refine z_cV (As := [.int (iI 2)]) C zc_X7_refuse (c_X7_refuse hX hM134 2) zl_6_179 (Nat.le_of_ble_eq_true rfl) (Nat.le_of_ble_eq_true rfl) (Nat.le_of_ble_eq_true rfl) (hM134.1.1) (hM134.1.2) rfl rfl rfl rfl (Nat.le_of_ble_eq_true rfl) dX7_run_98 (fun z209 L210 f211 hz212 => ?_)
                  obtain ⟨rfl, rfl, hM208⟩ := hz212
                  change ZW G pZ la eZ (zRm 5 0 0) sZ mZ aZ bZ hZ cZ AZ 10 0 0 _ L f211 101 [(8, .int (iI na)), (0, .ref o), (1, .int (iI c)), (2, .int (iI i)), (3, .int (iI a)), (4, .int (iI b)), (5, .int (iI d)), (6, .int (iI h)), (7, .int (iI ni))] [.int (iI 0)]
                  exact z_ireturn C dX7_run_101 (Nat.le_of_ble_eq_true rfl) (Nat.le_of_ble_eq_true rfl) ⟨rfl, _, _, _, _, hM208, by unfold o_run; (rw [if_pos hc2, if_neg (by unfold spWay; rw [← hni, ← hna]; omega)]) <;> (refine Prod.ext ?_ (Prod.ext ?_ ?_) <;> first | rfl | omega | (dsimp only; omega) | (dsimp only; split <;> omega))⟩
        refine z_iload_n C 2 dX7_run_33 rfl ?_
        refine z_bipush C dX7_run_34 (by decide) ?_
        refine z_icmp_ne C 44 dX7_run_36 (by decide) (by omega) (by omega) (fun h36 => ?_) (fun h36 => ?_)
        · refine z_bipush C dX7_run_44 (by decide) ?_
          refine z_perm [1, 2, 3, 4, 5, 6, 7, 0] rfl ?_
          exact J46 _  (by first | (rw [if_pos (by omega)] <;> omega) | (rw [if_neg (by omega)] <;> omega))
        · refine z_bipush C dX7_run_39 (by decide) ?_
          refine z_goto C 46 dX7_run_41 (by decide) ?_
          refine z_perm [1, 2, 3, 4, 5, 6, 7, 0] rfl ?_
          exact J46 _  (by first | (rw [if_pos (by omega)] <;> omega) | (rw [if_neg (by omega)] <;> omega))
      refine z_iload_n C 1 dX7_run_18 rfl ?_
      refine z_bipush C dX7_run_19 (by decide) ?_
      refine z_icmp_ne C 29 dX7_run_21 (by decide) (by omega) (by omega) (fun h21 => ?_) (fun h21 => ?_)
      · refine z_bipush C dX7_run_29 (by decide) ?_
        refine z_perm [0, 1, 2, 3, 4, 5, 6] rfl ?_
        exact J31 _  (by first | (rw [if_pos (by omega)] <;> omega) | (rw [if_neg (by omega)] <;> omega))
      · refine z_bipush C dX7_run_24 (by decide) ?_
        refine z_goto C 31 dX7_run_26 (by decide) ?_
        refine z_perm [0, 1, 2, 3, 4, 5, 6] rfl ?_
        exact J31 _  (by first | (rw [if_pos (by omega)] <;> omega) | (rw [if_neg (by omega)] <;> omega))
    · refine z_aload_n C 0 dX7_run_12 rfl ?_
      refine z_iconst C dX7_run_13 ?_
      refine z_cV (As := [.int (iI 1)]) C zc_X7_refuse (c_X7_refuse hX hM 1) zl_6_179 (Nat.le_of_ble_eq_true rfl) (Nat.le_of_ble_eq_true rfl) (Nat.le_of_ble_eq_true rfl) (hM.1.1) (hM.1.2) rfl rfl rfl rfl (Nat.le_of_ble_eq_true rfl) dX7_run_14 (fun z214 L215 f216 hz217 => ?_)
      obtain ⟨rfl, rfl, hM213⟩ := hz217
      change ZW G pZ la eZ (zRm 5 0 0) sZ mZ aZ bZ hZ cZ AZ 10 0 0 _ L f216 17 [(0, .ref o), (1, .int (iI c)), (2, .int (iI i)), (3, .int (iI a)), (4, .int (iI b)), (5, .int (iI d)), (6, .int (iI h))] [.int (iI 0)]
      exact z_ireturn C dX7_run_17 (Nat.le_of_ble_eq_true rfl) (Nat.le_of_ble_eq_true rfl) ⟨rfl, _, _, _, _, hM213, by unfold o_run; (rw [if_neg (by omega)]) <;> (refine Prod.ext ?_ (Prod.ext ?_ ?_) <;> first | rfl | omega | (dsimp only; omega) | (dsimp only; split <;> omega))⟩

set_option maxRecDepth 100000 in
set_option maxHeartbeats 2000000 in
theorem c_X7_runAnew {la : Launch} {G : zG} {X : (Nat → Prop) → State → Prop} (hX : zX X) {L : List Nat} {f : Nat → va_E} {o : Nat} {ad : Nat → Nat} {μ : zMu} {t : Int} {u v : Int → Int} (hM : MR G L f o ad μ t u v) (hI : MI μ) (l d h : Int) (hK : MK μ) (hl : zR l) (hd : zR d) (hh : zR h) : zM la G X yX7_runAnew (.code yX7_runAnew cX7_runAnew 4 (some .int) :: zT) 9 0 0 [.ref o, .int (iI l), .int (iI d), .int (iI h)] L f zeI (fun z L' f' => L = L' ∧ ∃ t' μ' u' v', MR G L f' o ad μ' t' u' v' ∧ o_runAnew μ l d h = (t', if t' = 0 then z else 0, μ')) := by
  refine zM_intro hX (by decide) (Nat.le_of_ble_eq_true rfl) (fun pZ eZ sZ mZ aZ bZ hZ cZ AZ C hini => ?_)
  change ZW G pZ la eZ (zRm 9 0 0) sZ mZ aZ bZ hZ cZ AZ 4 0 0 _ L f 0 [(0, .ref o), (1, .int (iI l)), (2, .int (iI d)), (3, .int (iI h))] []
  have hn9 := hI.n
  have hNO : zNO = -2147483648 := rfl
  
  refine z_aload_n C 0 dX7_runAnew_0 rfl ?_
  refine z_iload_n C 1 dX7_runAnew_1 rfl ?_
  refine z_cV (As := [.int (iI l)]) C zc_X7_noLine (c_X7_noLine hX hM hI l (by omega) ) zl_7_61 (Nat.le_of_ble_eq_true rfl) (Nat.le_of_ble_eq_true rfl) (Nat.le_of_ble_eq_true rfl) (hM.1.1) (hM.1.2) rfl rfl rfl rfl (Nat.le_of_ble_eq_true rfl) dX7_runAnew_2 (fun z4 L5 f6 hz7 => ?_)
  obtain ⟨rfl, t2, hM1, he3⟩ := hz7
  change ZW G pZ la eZ (zRm 9 0 0) sZ mZ aZ bZ hZ cZ AZ 4 0 0 _ L f6 5 [(0, .ref o), (1, .int (iI l)), (2, .int (iI d)), (3, .int (iI h))] [.int (iI z4)]
  refine z_if_eq C 10 dX7_runAnew_5 (by decide) (by omega) (fun h5 => ?_) (fun h5 => ?_)
  · have hline : spLine μ l := by unfold spLine; omega
    have hlr : 0 ≤ l ∧ l < μ 2 0 := by unfold spLine at hline; omega
    refine z_aload_n C 0 dX7_runAnew_10 rfl ?_
    refine z_iload_n C 2 dX7_runAnew_11 rfl ?_
    refine z_iload_n C 3 dX7_runAnew_12 rfl ?_
    refine z_cV (As := [.int (iI d), .int (iI h)]) C zc_X7_noHour (c_X7_noHour hX hM1 d h (by omega) (by omega) ) zl_6_187 (Nat.le_of_ble_eq_true rfl) (Nat.le_of_ble_eq_true rfl) (Nat.le_of_ble_eq_true rfl) (hM1.1.1) (hM1.1.2) rfl rfl rfl rfl (Nat.le_of_ble_eq_true rfl) dX7_runAnew_13 (fun z11 L12 f13 hz14 => ?_)
    obtain ⟨rfl, t9, hM8, he10⟩ := hz14
    change ZW G pZ la eZ (zRm 9 0 0) sZ mZ aZ bZ hZ cZ AZ 4 0 0 _ L f13 16 [(0, .ref o), (1, .int (iI l)), (2, .int (iI d)), (3, .int (iI h))] [.int (iI z11)]
    refine z_if_eq C 25 dX7_runAnew_16 (by decide) (by omega) (fun h16 => ?_) (fun h16 => ?_)
    · have hdh : (0 ≤ d ∧ d ≤ 9) ∧ 0 ≤ h ∧ h ≤ 23 := by omega
      have h7 := hI.b7 d (by omega) (by omega)
      have hsz := spSize_rng hI.J (l := l) (by omega)
      refine z_aload_n C 0 dX7_runAnew_25 rfl ?_
      refine z_getf C 7 zin_X7 (hM8.1.1) (hM8.1.2) rfl (Nat.le_of_ble_eq_true rfl) zl_6_105 rfl rfl dX7_runAnew_26 ?_
      refine z_iload_n C 2 dX7_runAnew_29 rfl ?_
      refine z_iald C (MR_a7 hM8) (by omega) (by omega) (by omega) dX7_runAnew_30 ?_
      have hb15 := hI.J.b7 d (by omega) (by omega)
      refine z_iconst C dX7_runAnew_31 ?_
      refine z_icmp_le C 41 dX7_runAnew_32 (by decide) (by omega) (by omega) (fun h32 => ?_) (fun h32 => ?_)
      · refine z_aload_n C 0 dX7_runAnew_41 rfl ?_
        refine z_iload_n C 1 dX7_runAnew_42 rfl ?_
        refine z_cV (As := [.int (iI l)]) C zc_X7_size (c_X7_size hX hM8 hI.J l (by omega)) zl_7_22 (Nat.le_of_ble_eq_true rfl) (Nat.le_of_ble_eq_true rfl) (Nat.le_of_ble_eq_true rfl) (hM8.1.1) (hM8.1.2) rfl rfl rfl rfl (Nat.le_of_ble_eq_true rfl) dX7_runAnew_43 (fun z17 L18 f19 hz20 => ?_)
        obtain ⟨hz20, rfl, rfl⟩ := hz20
        subst hz20
        have hr16 := spSize_rng hI.J (l := l) (by omega)
        change ZW G pZ la eZ (zRm 9 0 0) sZ mZ aZ bZ hZ cZ AZ 4 0 0 _ L f13 46 [(0, .ref o), (1, .int (iI l)), (2, .int (iI d)), (3, .int (iI h))] [.int (iI (spSize μ l))]
        refine z_iload_n C 3 dX7_runAnew_46 rfl ?_
        refine z_cS (As := [.int (iI (spSize μ l)), .int (iI h)]) C zc_X7_last (c_X7_last hX (spSize μ l) h (by omega) (by omega)) zl_7_15 (Nat.le_of_ble_eq_true rfl) (Nat.le_of_ble_eq_true rfl) (Nat.le_of_ble_eq_true rfl) rfl rfl (Nat.le_of_ble_eq_true rfl) dX7_runAnew_47 (fun z21 L22 f23 hz24 => ?_)
        obtain ⟨hz24, rfl, rfl⟩ := hz24
        subst hz24
        change ZW G pZ la eZ (zRm 9 0 0) sZ mZ aZ bZ hZ cZ AZ 4 0 0 _ L f13 50 [(0, .ref o), (1, .int (iI l)), (2, .int (iI d)), (3, .int (iI h))] [.int (iI (h + ((spSize μ l) - 1) / 5))]
        refine z_bipush C dX7_runAnew_50 (by decide) ?_
        refine z_icmp_ge C 74 dX7_runAnew_52 (by decide) (by omega) (by omega) (fun h52 => ?_) (fun h52 => ?_)
        · refine z_aload_n C 0 dX7_runAnew_74 rfl ?_
          refine z_iconst C dX7_runAnew_75 ?_
          refine z_cV (As := [.int (iI 4)]) C zc_X7_refuse (c_X7_refuse hX hM8 4) zl_6_179 (Nat.le_of_ble_eq_true rfl) (Nat.le_of_ble_eq_true rfl) (Nat.le_of_ble_eq_true rfl) (hM8.1.1) (hM8.1.2) rfl rfl rfl rfl (Nat.le_of_ble_eq_true rfl) dX7_runAnew_76 (fun z26 L27 f28 hz29 => ?_)
          obtain ⟨rfl, rfl, hM25⟩ := hz29
          change ZW G pZ la eZ (zRm 9 0 0) sZ mZ aZ bZ hZ cZ AZ 4 0 0 _ L f28 79 [(0, .ref o), (1, .int (iI l)), (2, .int (iI d)), (3, .int (iI h))] [.int (iI 0)]
          exact z_ireturn C dX7_runAnew_79 (Nat.le_of_ble_eq_true rfl) (Nat.le_of_ble_eq_true rfl) ⟨rfl, _, _, _, _, hM25, by unfold o_runAnew; (rw [if_pos hline, if_pos hdh, if_pos (by omega)]; first | rw [if_neg (by omega)] | rw [if_pos (by omega), zif_pos (by rcases hbu with q | q; exact q.2; omega)]) <;> (refine Prod.ext ?_ (Prod.ext ?_ ?_) <;> first | rfl | omega | (dsimp only; omega) | (dsimp only; split <;> omega))⟩
        · refine z_aload_n C 0 dX7_runAnew_55 rfl ?_
          refine z_iload_n C 1 dX7_runAnew_56 rfl ?_
          refine z_iload_n C 2 dX7_runAnew_57 rfl ?_
          refine z_iload_n C 3 dX7_runAnew_58 rfl ?_
          refine z_aload_n C 0 dX7_runAnew_59 rfl ?_
          refine z_iload_n C 1 dX7_runAnew_60 rfl ?_
          refine z_cV (As := [.int (iI l)]) C zc_X7_size (c_X7_size hX hM8 hI.J l (by omega)) zl_7_22 (Nat.le_of_ble_eq_true rfl) (Nat.le_of_ble_eq_true rfl) (Nat.le_of_ble_eq_true rfl) (hM8.1.1) (hM8.1.2) rfl rfl rfl rfl (Nat.le_of_ble_eq_true rfl) dX7_runAnew_61 (fun z31 L32 f33 hz34 => ?_)
          obtain ⟨hz34, rfl, rfl⟩ := hz34
          subst hz34
          have hr30 := spSize_rng hI.J (l := l) (by omega)
          change ZW G pZ la eZ (zRm 9 0 0) sZ mZ aZ bZ hZ cZ AZ 4 0 0 _ L f13 64 [(0, .ref o), (1, .int (iI l)), (2, .int (iI d)), (3, .int (iI h))] [.int (iI (spSize μ l)), .int (iI h), .int (iI d), .int (iI l), .ref o]
          refine z_iload_n C 3 dX7_runAnew_64 rfl ?_
          refine z_cS (As := [.int (iI (spSize μ l)), .int (iI h)]) C zc_X7_last (c_X7_last hX (spSize μ l) h (by omega) (by omega)) zl_7_15 (Nat.le_of_ble_eq_true rfl) (Nat.le_of_ble_eq_true rfl) (Nat.le_of_ble_eq_true rfl) rfl rfl (Nat.le_of_ble_eq_true rfl) dX7_runAnew_65 (fun z35 L36 f37 hz38 => ?_)
          obtain ⟨hz38, rfl, rfl⟩ := hz38
          subst hz38
          change ZW G pZ la eZ (zRm 9 0 0) sZ mZ aZ bZ hZ cZ AZ 4 0 0 _ L f13 68 [(0, .ref o), (1, .int (iI l)), (2, .int (iI d)), (3, .int (iI h))] [.int (iI (h + ((spSize μ l) - 1) / 5)), .int (iI h), .int (iI d), .int (iI l), .ref o]
          refine z_cV (As := [.int (iI l), .int (iI d), .int (iI h), .int (iI (h + ((spSize μ l) - 1) / 5))]) C zc_X7_isBusy (c_X7_isBusy hX hM8 hI.J l d h (h + ((spSize μ l) - 1) / 5) (by omega) (by omega) (by omega) (by omega)) zl_7_18 (Nat.le_of_ble_eq_true rfl) (Nat.le_of_ble_eq_true rfl) (Nat.le_of_ble_eq_true rfl) (hM8.1.1) (hM8.1.2) rfl rfl rfl rfl (Nat.le_of_ble_eq_true rfl) dX7_runAnew_68 (fun zb39 L41 f42 hb40 => ?_)
          obtain ⟨hb40, rfl, rfl⟩ := hb40
          have hb40 : zb39 = 1 ∧ spBusy μ l d h (h + ((spSize μ l) - 1) / 5) ∨ zb39 = 0 ∧ ¬ spBusy μ l d h (h + ((spSize μ l) - 1) / 5) := hb40
          have hbu : zb39 = 1 ∧ spBusy μ l d h (h + (spSize μ l - 1) / 5) ∨ zb39 = 0 ∧ ¬ spBusy μ l d h (h + (spSize μ l - 1) / 5) := by have q := hb40; rw [show (h + ((spSize μ l) - 1) / 5) = h + (spSize μ l - 1) / 5 by omega] at q; exact q
          change ZW G pZ la eZ (zRm 9 0 0) sZ mZ aZ bZ hZ cZ AZ 4 0 0 _ L f13 71 [(0, .ref o), (1, .int (iI l)), (2, .int (iI d)), (3, .int (iI h))] [.int (iI zb39)]
          refine z_if_eq C 80 dX7_runAnew_71 (by decide) (by omega) (fun h71 => ?_) (fun h71 => ?_)
          · have hJr := MJ_anew hI (by omega) (by omega) (show h + (spSize μ l - 1) / 5 < 24 by omega)
            have hIr := MI_anew hI (by omega) (by omega) (show h + (spSize μ l - 1) / 5 < 24 by omega)
            have hKr := MK_anew (d := d) (h := h) hK hlr
            refine z_aload_n C 0 dX7_runAnew_80 rfl ?_
            refine z_getf C 16 zin_X7 (hM8.1.1) (hM8.1.2) rfl (Nat.le_of_ble_eq_true rfl) zl_6_114 rfl rfl dX7_runAnew_81 ?_
            refine z_iload_n C 1 dX7_runAnew_84 rfl ?_
            refine z_iload_n C 2 dX7_runAnew_85 rfl ?_
            refine z_iast C (MR_a16 hM8) (by omega) (by omega) (by omega) dX7_runAnew_86 (fun f43 ha44 hk45 => ?_)
            have hM46 := MR_w16 hM8 ha44 hk45
            refine z_aload_n C 0 dX7_runAnew_87 rfl ?_
            refine z_getf C 17 zin_X7 (hM46.1.1) (hM46.1.2) rfl (Nat.le_of_ble_eq_true rfl) zl_6_115 rfl rfl dX7_runAnew_88 ?_
            refine z_iload_n C 1 dX7_runAnew_91 rfl ?_
            refine z_iload_n C 3 dX7_runAnew_92 rfl ?_
            refine z_iast C (MR_a17 hM46) (by omega) (by omega) (by omega) dX7_runAnew_93 (fun f47 ha48 hk49 => ?_)
            have hM50 := MR_w17 hM46 ha48 hk49
            refine z_aload_n C 0 dX7_runAnew_94 rfl ?_
            refine z_iload_n C 1 dX7_runAnew_95 rfl ?_
            refine z_cV (As := [.int (iI l)]) C zc_X7_sounds (c_X7_sounds hX hM50 hJr l (by omega)) zl_7_26 (Nat.le_of_ble_eq_true rfl) (Nat.le_of_ble_eq_true rfl) (Nat.le_of_ble_eq_true rfl) (hM50.1.1) (hM50.1.2) rfl rfl rfl rfl (Nat.le_of_ble_eq_true rfl) dX7_runAnew_96 (fun z52 L53 f54 hz55 => ?_)
            obtain ⟨rfl, hM51⟩ := hz55
            have hM51a : MR G L f54 o ad (spAnewM μ l d h) t9 u v := hM51
            change ZW G pZ la eZ (zRm 9 0 0) sZ mZ aZ bZ hZ cZ AZ 4 0 0 _ L f54 99 [(0, .ref o), (1, .int (iI l)), (2, .int (iI d)), (3, .int (iI h))] []
            refine z_aload_n C 0 dX7_runAnew_99 rfl ?_
            refine z_cV (As := []) C zc_X7_charted (c_X7_charted hX hM51a hIr hKr) zl_7_65 (Nat.le_of_ble_eq_true rfl) (Nat.le_of_ble_eq_true rfl) (Nat.le_of_ble_eq_true rfl) (hM51a.1.1) (hM51a.1.2) rfl rfl rfl rfl (Nat.le_of_ble_eq_true rfl) dX7_runAnew_100 (fun zc9 L57 f58 hz59 => ?_)
            obtain ⟨rfl, hM56, hzc⟩ := hz59
            change ZW G pZ la eZ (zRm 9 0 0) sZ mZ aZ bZ hZ cZ AZ 4 0 0 _ L f58 103 [(0, .ref o), (1, .int (iI l)), (2, .int (iI d)), (3, .int (iI h))] [.int (iI zc9)]
            exact z_ireturn C dX7_runAnew_103 (Nat.le_of_ble_eq_true rfl) (Nat.le_of_ble_eq_true rfl) ⟨rfl, _, _, _, _, hM56, by unfold o_runAnew; rw [if_pos hline, if_pos hdh, if_pos (by omega), if_pos (by omega), zif_neg (by rcases hbu with q | q; omega; exact q.2), hzc]; refine Prod.ext ?_ (Prod.ext ?_ rfl) <;> first | omega | (dsimp only; rw [if_pos (by omega)])⟩
          · refine z_aload_n C 0 dX7_runAnew_74 rfl ?_
            refine z_iconst C dX7_runAnew_75 ?_
            refine z_cV (As := [.int (iI 4)]) C zc_X7_refuse (c_X7_refuse hX hM8 4) zl_6_179 (Nat.le_of_ble_eq_true rfl) (Nat.le_of_ble_eq_true rfl) (Nat.le_of_ble_eq_true rfl) (hM8.1.1) (hM8.1.2) rfl rfl rfl rfl (Nat.le_of_ble_eq_true rfl) dX7_runAnew_76 (fun z61 L62 f63 hz64 => ?_)
            obtain ⟨rfl, rfl, hM60⟩ := hz64
            change ZW G pZ la eZ (zRm 9 0 0) sZ mZ aZ bZ hZ cZ AZ 4 0 0 _ L f63 79 [(0, .ref o), (1, .int (iI l)), (2, .int (iI d)), (3, .int (iI h))] [.int (iI 0)]
            exact z_ireturn C dX7_runAnew_79 (Nat.le_of_ble_eq_true rfl) (Nat.le_of_ble_eq_true rfl) ⟨rfl, _, _, _, _, hM60, by unfold o_runAnew; (rw [if_pos hline, if_pos hdh, if_pos (by omega)]; first | rw [if_neg (by omega)] | rw [if_pos (by omega), zif_pos (by rcases hbu with q | q; exact q.2; omega)]) <;> (refine Prod.ext ?_ (Prod.ext ?_ ?_) <;> first | rfl | omega | (dsimp only; omega) | (dsimp only; split <;> omega))⟩
      · refine z_aload_n C 0 dX7_runAnew_35 rfl ?_
        refine z_iconst C dX7_runAnew_36 ?_
        refine z_cV (As := [.int (iI 3)]) C zc_X7_refuse (c_X7_refuse hX hM8 3) zl_6_179 (Nat.le_of_ble_eq_true rfl) (Nat.le_of_ble_eq_true rfl) (Nat.le_of_ble_eq_true rfl) (hM8.1.1) (hM8.1.2) rfl rfl rfl rfl (Nat.le_of_ble_eq_true rfl) dX7_runAnew_37 (fun z66 L67 f68 hz69 => ?_)
        obtain ⟨rfl, rfl, hM65⟩ := hz69
        change ZW G pZ la eZ (zRm 9 0 0) sZ mZ aZ bZ hZ cZ AZ 4 0 0 _ L f68 40 [(0, .ref o), (1, .int (iI l)), (2, .int (iI d)), (3, .int (iI h))] [.int (iI 0)]
        exact z_ireturn C dX7_runAnew_40 (Nat.le_of_ble_eq_true rfl) (Nat.le_of_ble_eq_true rfl) ⟨rfl, _, _, _, _, hM65, by unfold o_runAnew; (rw [if_pos hline, if_pos hdh, if_neg (by omega)]) <;> (refine Prod.ext ?_ (Prod.ext ?_ ?_) <;> first | rfl | omega | (dsimp only; omega) | (dsimp only; split <;> omega))⟩
    · refine z_aload_n C 0 dX7_runAnew_19 rfl ?_
      refine z_iconst C dX7_runAnew_20 ?_
      refine z_cV (As := [.int (iI 2)]) C zc_X7_refuse (c_X7_refuse hX hM8 2) zl_6_179 (Nat.le_of_ble_eq_true rfl) (Nat.le_of_ble_eq_true rfl) (Nat.le_of_ble_eq_true rfl) (hM8.1.1) (hM8.1.2) rfl rfl rfl rfl (Nat.le_of_ble_eq_true rfl) dX7_runAnew_21 (fun z71 L72 f73 hz74 => ?_)
      obtain ⟨rfl, rfl, hM70⟩ := hz74
      change ZW G pZ la eZ (zRm 9 0 0) sZ mZ aZ bZ hZ cZ AZ 4 0 0 _ L f73 24 [(0, .ref o), (1, .int (iI l)), (2, .int (iI d)), (3, .int (iI h))] [.int (iI 0)]
      exact z_ireturn C dX7_runAnew_24 (Nat.le_of_ble_eq_true rfl) (Nat.le_of_ble_eq_true rfl) ⟨rfl, _, _, _, _, hM70, by unfold o_runAnew; (rw [if_pos hline, if_neg (by omega)]) <;> (refine Prod.ext ?_ (Prod.ext ?_ ?_) <;> first | rfl | omega | (dsimp only; omega) | (dsimp only; split <;> omega))⟩
  · refine z_iconst C dX7_runAnew_8 ?_
    exact z_ireturn C dX7_runAnew_9 (Nat.le_of_ble_eq_true rfl) (Nat.le_of_ble_eq_true rfl) ⟨rfl, _, _, _, _, hM1, by unfold o_runAnew; (rw [if_neg (by unfold spLine; omega)]) <;> (refine Prod.ext ?_ (Prod.ext ?_ ?_) <;> first | rfl | omega | (dsimp only; omega) | (dsimp only; split <;> omega))⟩
