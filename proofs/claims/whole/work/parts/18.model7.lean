set_option maxRecDepth 100000 in
set_option maxHeartbeats 400000 in
theorem c_X7_hire {la : Launch} {G : zG} {X : (Nat → Prop) → State → Prop} (hX : zX X) {L : List Nat} {f : Nat → va_E} {o : Nat} {ad : Nat → Nat} {μ : zMu} {t : Int} {u v : Int → Int} (hM : MR G L f o ad μ t u v) (hI : MI μ)   : zM la G X yX7_hire (.code yX7_hire cX7_hire 6 (some .long) :: zT) 2 0 0 [.ref o] L f zeL (zRd L f (fun z => z = iL (spHire μ))) := by
  refine zM_intro hX (by decide) (Nat.le_of_ble_eq_true rfl) (fun pZ eZ sZ mZ aZ bZ hZ cZ AZ C hini => ?_)
  change ZW G pZ la eZ (zRm 2 0 0) sZ mZ aZ bZ hZ cZ AZ 6 0 0 _ L f 0 [(0, .ref o)] []
  have hn9 := hI.n
  have hNO : zNO = -2147483648 := rfl
  
  refine z_iconst C dX7_hire_0 ?_
  refine z_istore_n (ls' := [(1, .int (iI (-1))), (0, .ref o)]) C dX7_hire_1 (Nat.le_of_ble_eq_true rfl) rfl ?_
  refine z_iconst C dX7_hire_2 ?_
  refine z_istore_n (ls' := [(2, .int (iI 0)), (1, .int (iI (-1))), (0, .ref o)]) C dX7_hire_3 (Nat.le_of_ble_eq_true rfl) rfl ?_
  have key4 : ∀ (n4 : Nat) (b : Int) (l : Int) , (0 ≤ l ∧ l ≤ μ 2 0 ∧ b = zfold (fun l w => if w < μ 16 l then μ 16 l else w) l.toNat (-1)) → μ 2 0 - l < (n4 : Int) → ZW G pZ la eZ (zRm 2 0 0) sZ mZ aZ bZ hZ cZ AZ 6 0 0 (MQ bZ (zQ G zeL (zRd L f (fun z => z = iL (spHire μ))) AZ) aZ sZ 0 0 AZ) L f 4 [(0, .ref o), (1, .int (iI b)), (2, .int (iI l))] [] := by
    intro n4
    induction n4 with
    | zero => intro b l  hi4 hn4; exfalso; omega
    | succ n4 ih4 =>
      intro b l  hi4 hn4
      obtain ⟨hl0, hl1, hb⟩ := hi4
      refine z_iload_n C 2 dX7_hire_4 rfl ?_
      refine z_aload_n C 0 dX7_hire_5 rfl ?_
      refine z_getf C 2 zin_X7 (hM.1.1) (hM.1.2) rfl (Nat.le_of_ble_eq_true rfl) zl_6_100 rfl rfl dX7_hire_6 ?_
      refine z_icmp_ge C 35 dX7_hire_9 (by decide) (by omega) (by omega) (fun h9 => ?_) (fun h9 => ?_)
      · have hb9 := spLd_r hI.J (n := l.toNat) (by omega)
        refine z_lconst C dX7_hire_35 ?_
        refine z_lstore_n (ls' := [(2, .long (iL 0)), (0, .ref o), (1, .int (iI b))]) C dX7_hire_36 (Nat.le_of_ble_eq_true rfl) rfl ?_
        refine z_iconst C dX7_hire_37 ?_
        refine z_istore (ls' := [(4, .int (iI 0)), (2, .long (iL 0)), (0, .ref o), (1, .int (iI b))]) C dX7_hire_38 (Nat.le_of_ble_eq_true rfl) rfl ?_
        have key40 : ∀ (n40 : Nat) (m : Int) (d : Int) , (0 ≤ d ∧ d ≤ b + 1 ∧ m = zsum (spDay μ) d.toNat) → b + 1 - d < (n40 : Int) → ZW G pZ la eZ (zRm 2 0 0) sZ mZ aZ bZ hZ cZ AZ 6 0 0 (MQ bZ (zQ G zeL (zRd L f (fun z => z = iL (spHire μ))) AZ) aZ sZ 0 0 AZ) L f 40 [(0, .ref o), (1, .int (iI b)), (2, .long (iL m)), (4, .int (iI d))] [] := by
          intro n40
          induction n40 with
          | zero => intro m d  hi40 hn40; exfalso; omega
          | succ n40 ih40 =>
            intro m d  hi40 hn40
            obtain ⟨hd0, hd1, hm⟩ := hi40
            refine z_iload C 3 dX7_hire_40 rfl ?_
            refine z_iload_n C 1 dX7_hire_42 rfl ?_
            refine z_icmp_gt C 115 dX7_hire_43 (by decide) (by omega) (by omega) (fun h43 => ?_) (fun h43 => ?_)
            · refine z_lload_n C 2 dX7_hire_115 rfl ?_
              exact z_lreturn C dX7_hire_116 (Nat.le_of_ble_eq_true rfl) (Nat.le_of_ble_eq_true rfl) ⟨by rw [hm]; unfold spHire; rw [show spLastDay μ = b by rw [hb]; unfold spLastDay; rw [show (μ 2 0).toNat = l.toNat by omega], show (b + 1).toNat = d.toNat by omega], rfl, rfl⟩
            · have h7 := hI.b7 d (by omega) (by omega)
              refine z_aload_n C 0 dX7_hire_46 rfl ?_
              refine z_iload C 3 dX7_hire_47 rfl ?_
              refine z_cV (As := [.int (iI d)]) C zc_X7_hoursOf (c_X7_hoursOf hX hM hI d (by omega)) zl_7_178 (Nat.le_of_ble_eq_true rfl) (Nat.le_of_ble_eq_true rfl) (Nat.le_of_ble_eq_true rfl) (hM.1.1) (hM.1.2) rfl rfl rfl rfl (Nat.le_of_ble_eq_true rfl) dX7_hire_49 (fun z2 L3 f4 hz5 => ?_)
              obtain ⟨hz5, rfl, rfl⟩ := hz5
              subst hz5
              have hr1 : 0 ≤ spHours μ d ∧ spHours μ d ≤ 4 * (μ 2 0).toNat := spHr_rng hI.J d (by omega)
              change ZW G pZ la eZ (zRm 2 0 0) sZ mZ aZ bZ hZ cZ AZ 6 0 0 _ L f 52 [(0, .ref o), (1, .int (iI b)), (2, .long (iL m)), (4, .int (iI d))] [.int (iI (spHours μ d))]
              refine z_nm (fun x6 hx6 => ?_)
              refine z_istore (ls' := [(5, .int (iI x6)), (0, .ref o), (1, .int (iI b)), (2, .long (iL m)), (4, .int (iI d))]) C dX7_hire_52 (Nat.le_of_ble_eq_true rfl) rfl ?_
              refine z_lload_n C 3 dX7_hire_54 rfl ?_
              refine z_iload C 0 dX7_hire_55 rfl ?_
              refine z_if_le C 87 dX7_hire_57 (by decide) (by omega) (fun h57 => ?_) (fun h57 => ?_)
              · refine z_aload_n C 1 dX7_hire_87 rfl ?_
                refine z_getf C 7 zin_X7 (hM.1.1) (hM.1.2) rfl (Nat.le_of_ble_eq_true rfl) zl_6_105 rfl rfl dX7_hire_88 ?_
                refine z_iload C 4 dX7_hire_91 rfl ?_
                refine z_iald C (MR_a7 hM) (by omega) (by omega) (by omega) dX7_hire_93 ?_
                have hb7 := hI.J.b7 d (by omega) (by omega)
                refine z_iconst C dX7_hire_94 ?_
                refine z_icmp_le C 104 dX7_hire_95 (by decide) (by omega) (by omega) (fun h95 => ?_) (fun h95 => ?_)
                · refine z_ldc2 (n := 200) C zl_7_187 rfl dX7_hire_104 ?_
                  refine z_ladd C dX7_hire_107 ?_
                  refine z_lstore_n (ls' := [(2, .long (iL (m + 200))), (5, .int (iI x6)), (0, .ref o), (1, .int (iI b)), (4, .int (iI d))]) C dX7_hire_108 (Nat.le_of_ble_eq_true rfl) rfl ?_
                  refine z_iinc (ls' := [(4, .int (iI (d + 1))), (2, .long (iL (m + 200))), (5, .int (iI x6)), (0, .ref o), (1, .int (iI b))]) C 4 dX7_hire_109 rfl (Nat.le_of_ble_eq_true rfl) rfl ?_
                  refine z_goto C 40 dX7_hire_112 (by decide) ?_
                  refine z_perm [3, 4, 1, 0] rfl ?_
                  exact ih40 _ _  ⟨by omega, by omega, by rw [zsum_s _ hd0, ← hm]; unfold spDay; first | (rw [if_pos (by omega), if_pos (by omega)] <;> omega) | (rw [if_pos (by omega), if_neg (by omega)] <;> omega) | (rw [if_neg (by omega), if_pos (by omega)] <;> omega) | (rw [if_neg (by omega), if_neg (by omega)] <;> omega)⟩ (by omega)
                · refine z_ldc2 (n := 600) C zl_7_186 rfl dX7_hire_98 ?_
                  refine z_goto C 107 dX7_hire_101 (by decide) ?_
                  refine z_ladd C dX7_hire_107 ?_
                  refine z_lstore_n (ls' := [(2, .long (iL (m + 600))), (5, .int (iI x6)), (0, .ref o), (1, .int (iI b)), (4, .int (iI d))]) C dX7_hire_108 (Nat.le_of_ble_eq_true rfl) rfl ?_
                  refine z_iinc (ls' := [(4, .int (iI (d + 1))), (2, .long (iL (m + 600))), (5, .int (iI x6)), (0, .ref o), (1, .int (iI b))]) C 4 dX7_hire_109 rfl (Nat.le_of_ble_eq_true rfl) rfl ?_
                  refine z_goto C 40 dX7_hire_112 (by decide) ?_
                  refine z_perm [3, 4, 1, 0] rfl ?_
                  exact ih40 _ _  ⟨by omega, by omega, by rw [zsum_s _ hd0, ← hm]; unfold spDay; first | (rw [if_pos (by omega), if_pos (by omega)] <;> omega) | (rw [if_pos (by omega), if_neg (by omega)] <;> omega) | (rw [if_neg (by omega), if_pos (by omega)] <;> omega) | (rw [if_neg (by omega), if_neg (by omega)] <;> omega)⟩ (by omega)
              · refine z_sipush C dX7_hire_60 (by decide) ?_
                refine z_iload C 0 dX7_hire_63 rfl ?_
                refine z_bipush C dX7_hire_65 (by decide) ?_
                refine z_icmp_le C 81 dX7_hire_67 (by decide) (by omega) (by omega) (fun h67 => ?_) (fun h67 => ?_)
                · refine z_iconst C dX7_hire_81 ?_
                  refine z_iadd C dX7_hire_82 ?_
                  refine z_i2l C dX7_hire_83 (by omega) ?_
                  refine z_goto C 107 dX7_hire_84 (by decide) ?_
                  refine z_ladd C dX7_hire_107 ?_
                  refine z_lstore_n (ls' := [(2, .long (iL (m + (1000 + 0)))), (5, .int (iI x6)), (0, .ref o), (1, .int (iI b)), (4, .int (iI d))]) C dX7_hire_108 (Nat.le_of_ble_eq_true rfl) rfl ?_
                  refine z_iinc (ls' := [(4, .int (iI (d + 1))), (2, .long (iL (m + (1000 + 0)))), (5, .int (iI x6)), (0, .ref o), (1, .int (iI b))]) C 4 dX7_hire_109 rfl (Nat.le_of_ble_eq_true rfl) rfl ?_
                  refine z_goto C 40 dX7_hire_112 (by decide) ?_
                  refine z_perm [3, 4, 1, 0] rfl ?_
                  exact ih40 _ _  ⟨by omega, by omega, by rw [zsum_s _ hd0, ← hm]; unfold spDay; first | (rw [if_pos (by omega), if_pos (by omega)] <;> omega) | (rw [if_pos (by omega), if_neg (by omega)] <;> omega) | (rw [if_neg (by omega), if_pos (by omega)] <;> omega) | (rw [if_neg (by omega), if_neg (by omega)] <;> omega)⟩ (by omega)
                · refine z_bipush C dX7_hire_70 (by decide) ?_
                  refine z_iload C 0 dX7_hire_72 rfl ?_
                  refine z_bipush C dX7_hire_74 (by decide) ?_
                  refine z_isub C dX7_hire_76 ?_
                  refine z_imul C dX7_hire_77 ?_
                  refine z_goto C 82 dX7_hire_78 (by decide) ?_
                  refine z_iadd C dX7_hire_82 ?_
                  refine z_i2l C dX7_hire_83 (by omega) ?_
                  refine z_goto C 107 dX7_hire_84 (by decide) ?_
                  refine z_ladd C dX7_hire_107 ?_
                  refine z_lstore_n (ls' := [(2, .long (iL (m + (1000 + (40 * (x6 - 10)))))), (5, .int (iI x6)), (0, .ref o), (1, .int (iI b)), (4, .int (iI d))]) C dX7_hire_108 (Nat.le_of_ble_eq_true rfl) rfl ?_
                  refine z_iinc (ls' := [(4, .int (iI (d + 1))), (2, .long (iL (m + (1000 + (40 * (x6 - 10)))))), (5, .int (iI x6)), (0, .ref o), (1, .int (iI b))]) C 4 dX7_hire_109 rfl (Nat.le_of_ble_eq_true rfl) rfl ?_
                  refine z_goto C 40 dX7_hire_112 (by decide) ?_
                  refine z_perm [3, 4, 1, 0] rfl ?_
                  exact ih40 _ _  ⟨by omega, by omega, by rw [zsum_s _ hd0, ← hm]; unfold spDay; first | (rw [if_pos (by omega), if_pos (by omega)] <;> omega) | (rw [if_pos (by omega), if_neg (by omega)] <;> omega) | (rw [if_neg (by omega), if_pos (by omega)] <;> omega) | (rw [if_neg (by omega), if_neg (by omega)] <;> omega)⟩ (by omega)
        refine z_perm [2, 3, 1, 0] rfl ?_
        exact key40 2000 _ _  ⟨by omega, by omega, rfl⟩ (by omega)
      · have hb9 := spLd_r hI.J (n := l.toNat) (by omega)
        refine z_aload_n C 0 dX7_hire_12 rfl ?_
        refine z_getf C 16 zin_X7 (hM.1.1) (hM.1.2) rfl (Nat.le_of_ble_eq_true rfl) zl_6_114 rfl rfl dX7_hire_13 ?_
        refine z_iload_n C 2 dX7_hire_16 rfl ?_
        refine z_iald C (MR_a16 hM) (by omega) (by omega) (by omega) dX7_hire_17 ?_
        have hb8 := hI.J.b12 l (by omega) (by omega)
        refine z_iload_n C 1 dX7_hire_18 rfl ?_
        refine z_icmp_le C 29 dX7_hire_19 (by decide) (by omega) (by omega) (fun h19 => ?_) (fun h19 => ?_)
        · refine z_iinc (ls' := [(2, .int (iI (l + 1))), (0, .ref o), (1, .int (iI b))]) C 2 dX7_hire_29 rfl (Nat.le_of_ble_eq_true rfl) rfl ?_
          refine z_goto C 4 dX7_hire_32 (by decide) ?_
          refine z_perm [1, 2, 0] rfl ?_
          exact ih4 _ _  ⟨by omega, by omega, by rw [zfold_s _ hl0, ← hb]; first | (rw [if_pos (by omega)] <;> omega) | (rw [if_neg (by omega)] <;> omega)⟩ (by omega)
        · refine z_aload_n C 0 dX7_hire_22 rfl ?_
          refine z_getf C 16 zin_X7 (hM.1.1) (hM.1.2) rfl (Nat.le_of_ble_eq_true rfl) zl_6_114 rfl rfl dX7_hire_23 ?_
          refine z_iload_n C 2 dX7_hire_26 rfl ?_
          refine z_iald C (MR_a16 hM) (by omega) (by omega) (by omega) dX7_hire_27 ?_
          have hb9 := hI.J.b12 l (by omega) (by omega)
          refine z_nm (fun x10 hx10 => ?_)
          refine z_istore_n (ls' := [(1, .int (iI x10)), (0, .ref o), (2, .int (iI l))]) C dX7_hire_28 (Nat.le_of_ble_eq_true rfl) rfl ?_
          refine z_iinc (ls' := [(2, .int (iI (l + 1))), (1, .int (iI x10)), (0, .ref o)]) C 2 dX7_hire_29 rfl (Nat.le_of_ble_eq_true rfl) rfl ?_
          refine z_goto C 4 dX7_hire_32 (by decide) ?_
          refine z_perm [2, 1, 0] rfl ?_
          exact ih4 _ _  ⟨by omega, by omega, by rw [zfold_s _ hl0, ← hb]; first | (rw [if_pos (by omega)] <;> omega) | (rw [if_neg (by omega)] <;> omega)⟩ (by omega)
  refine z_perm [2, 1, 0] rfl ?_
  exact key4 2000 _ _  ⟨by omega, by omega, rfl⟩ (by omega)

set_option maxRecDepth 100000 in
set_option maxHeartbeats 200000 in
theorem c_X7_textAt {la : Launch} {G : zG} {X : (Nat → Prop) → State → Prop} (hX : zX X) {L : List Nat} {f : Nat → va_E} {o : Nat} {ad : Nat → Nat} {μ : zMu} {t : Int} {u v : Int → Int} (hM : MR G L f o ad μ t u v) (hI : MI μ) (i : Int) (hi : zR i) : zM la G X yX7_textAt (.code yX7_textAt cX7_textAt 2 (some .char) :: zT) 1 0 0 [.ref o, .int (iI i)] L f zeI (fun z L' f' => L = L' ∧ ∃ t', MR G L f' o ad μ t' u v ∧ (0 ≤ i ∧ i < μ 3 0 ∧ t' = 0 ∧ z = μ 20 i ∨ ¬ (0 ≤ i ∧ i < μ 3 0) ∧ t' = 1 ∧ z = 32)) := by
  refine zM_intro hX (by decide) (Nat.le_of_ble_eq_true rfl) (fun pZ eZ sZ mZ aZ bZ hZ cZ AZ C hini => ?_)
  change ZW G pZ la eZ (zRm 1 0 0) sZ mZ aZ bZ hZ cZ AZ 2 0 0 _ L f 0 [(0, .ref o), (1, .int (iI i))] []
  have hn9 := hI.n
  have hNO : zNO = -2147483648 := rfl
  
  refine z_aload_n C 0 dX7_textAt_0 rfl ?_
  refine z_iload_n C 1 dX7_textAt_1 rfl ?_
  refine z_iconst C dX7_textAt_2 ?_
  refine z_aload_n C 0 dX7_textAt_3 rfl ?_
  refine z_getf C 3 zin_X7 (hM.1.1) (hM.1.2) rfl (Nat.le_of_ble_eq_true rfl) zl_6_101 rfl rfl dX7_textAt_4 ?_
  refine z_iconst C dX7_textAt_7 ?_
  refine z_isub C dX7_textAt_8 ?_
  refine z_cS (As := [.int (iI i), .int (iI 0), .int (iI ((μ 3 0) - 1))]) C zc_X7_isIn (c_X7_isIn hX i 0 ((μ 3 0) - 1) (by omega) (by omega) (by omega)) zl_6_176 (Nat.le_of_ble_eq_true rfl) (Nat.le_of_ble_eq_true rfl) (Nat.le_of_ble_eq_true rfl) rfl rfl (Nat.le_of_ble_eq_true rfl) dX7_textAt_9 (fun z1 L2 f3 hz4 => ?_)
  obtain ⟨hz4, rfl, rfl⟩ := hz4
  subst hz4
  change ZW G pZ la eZ (zRm 1 0 0) sZ mZ aZ bZ hZ cZ AZ 2 0 0 _ L f 12 [(0, .ref o), (1, .int (iI i))] [.int (iI (bI (0 ≤ i ∧ i ≤ (μ 3 0) - 1))), .ref o]
  refine z_if_eq_b C 19 dX7_textAt_12 (by decide) (fun h12 => ?_) (fun h12 => ?_)
  · refine z_iconst C dX7_textAt_19 ?_
    refine m_put0 C hM dX7_textAt_20 (fun f5 hM6 => ?_)
    refine z_aload_n C 0 dX7_textAt_23 rfl ?_
    refine z_getf C 0 zin_X7 (hM6.1.1) (hM6.1.2) rfl (Nat.le_of_ble_eq_true rfl) zl_6_98 rfl rfl dX7_textAt_24 ?_
    refine z_if_eq C 35 dX7_textAt_27 (by decide) (by omega) (fun h27 => ?_) (fun h27 => ?_)
    · refine z_aload_n C 0 dX7_textAt_35 rfl ?_
      refine z_getf C 20 zin_X7 (hM6.1.1) (hM6.1.2) rfl (Nat.le_of_ble_eq_true rfl) zl_6_118 rfl rfl dX7_textAt_36 ?_
      refine z_iload_n C 1 dX7_textAt_39 rfl ?_
      refine z_cald C (MR_a20 hM6) (by omega) (by omega) (by omega) dX7_textAt_40 ?_
      have hb7 := hI.b20 i (by omega) (by omega)
      exact z_creturn C (by omega) dX7_textAt_41 (Nat.le_of_ble_eq_true rfl) (Nat.le_of_ble_eq_true rfl) ⟨rfl, _, hM6, by omega⟩
    · refine z_bipush C dX7_textAt_30 (by decide) ?_
      refine z_goto C 41 dX7_textAt_32 (by decide) ?_
      exact z_creturn C (by omega) dX7_textAt_41 (Nat.le_of_ble_eq_true rfl) (Nat.le_of_ble_eq_true rfl) ⟨rfl, _, hM6, by omega⟩
  · refine z_iconst C dX7_textAt_15 ?_
    refine z_goto C 20 dX7_textAt_16 (by decide) ?_
    refine m_put0 C hM dX7_textAt_20 (fun f8 hM9 => ?_)
    refine z_aload_n C 0 dX7_textAt_23 rfl ?_
    refine z_getf C 0 zin_X7 (hM9.1.1) (hM9.1.2) rfl (Nat.le_of_ble_eq_true rfl) zl_6_98 rfl rfl dX7_textAt_24 ?_
    refine z_if_eq C 35 dX7_textAt_27 (by decide) (by omega) (fun h27 => ?_) (fun h27 => ?_)
    · refine z_aload_n C 0 dX7_textAt_35 rfl ?_
      refine z_getf C 20 zin_X7 (hM9.1.1) (hM9.1.2) rfl (Nat.le_of_ble_eq_true rfl) zl_6_118 rfl rfl dX7_textAt_36 ?_
      refine z_iload_n C 1 dX7_textAt_39 rfl ?_
      refine z_cald C (MR_a20 hM9) (by omega) (by omega) (by omega) dX7_textAt_40 ?_
      have hb10 := hI.b20 i (by omega) (by omega)
      exact z_creturn C (by omega) dX7_textAt_41 (Nat.le_of_ble_eq_true rfl) (Nat.le_of_ble_eq_true rfl) ⟨rfl, _, hM9, by omega⟩
    · refine z_bipush C dX7_textAt_30 (by decide) ?_
      refine z_goto C 41 dX7_textAt_32 (by decide) ?_
      exact z_creturn C (by omega) dX7_textAt_41 (Nat.le_of_ble_eq_true rfl) (Nat.le_of_ble_eq_true rfl) ⟨rfl, _, hM9, by omega⟩

set_option maxRecDepth 100000 in
set_option maxHeartbeats 200000 in
theorem c_X7_isSure {la : Launch} {G : zG} {X : (Nat → Prop) → State → Prop} (hX : zX X) {L : List Nat} {f : Nat → va_E} {o : Nat} {ad : Nat → Nat} {μ : zMu} {t : Int} {u v : Int → Int} (hM : MR G L f o ad μ t u v) (hI : MI μ)   : zM la G X yX7_isSure (.code yX7_isSure cX7_isSure 1 (some .boolean) :: zT) 0 0 0 [.ref o] L f zeI (zRd L f (fun z => z = 1)) := by
  refine zM_intro hX (by decide) (Nat.le_of_ble_eq_true rfl) (fun pZ eZ sZ mZ aZ bZ hZ cZ AZ C hini => ?_)
  change ZW G pZ la eZ (zRm 0 0 0) sZ mZ aZ bZ hZ cZ AZ 1 0 0 _ L f 0 [(0, .ref o)] []
  have hn9 := hI.n
  have hNO : zNO = -2147483648 := rfl
  
  refine z_iconst C dX7_isSure_0 ?_
  exact z_zreturn C (by first | omega | (unfold bI; split <;> omega)) dX7_isSure_1 (Nat.le_of_ble_eq_true rfl) (Nat.le_of_ble_eq_true rfl) ⟨rfl, rfl, rfl⟩

set_option maxRecDepth 100000 in
set_option maxHeartbeats 200000 in
theorem c_X7_sign {la : Launch} {G : zG} {X : (Nat → Prop) → State → Prop} (hX : zX X) {L : List Nat} {f : Nat → va_E} {o : Nat} {ad : Nat → Nat} {μ : zMu} {t : Int} {u v : Int → Int} (hM : MR G L f o ad μ t u v) (c : Int) (hc : 0 ≤ c ∧ c < 65536) (h3 : 0 ≤ μ 3 0 ∧ μ 3 0 < 40) : zM la G X yX7_sign (.code yX7_sign cX7_sign 2 none :: zT) 0 0 0 [.ref o, .int (iI c)] L f zeV (fun z L' f' => L = L' ∧ MR G L f' o ad (zset (zset μ 20 (zup (μ 20) (μ 3 0) c)) 3 (fun _ => μ 3 0 + 1)) t u v) := by
  refine zM_intro hX (by decide) (Nat.le_of_ble_eq_true rfl) (fun pZ eZ sZ mZ aZ bZ hZ cZ AZ C hini => ?_)
  change ZW G pZ la eZ (zRm 0 0 0) sZ mZ aZ bZ hZ cZ AZ 2 0 0 _ L f 0 [(0, .ref o), (1, .int (iI c))] []
  have hNO : zNO = -2147483648 := rfl
  
  refine z_aload_n C 0 dX7_sign_0 rfl ?_
  refine z_getf C 20 zin_X7 (hM.1.1) (hM.1.2) rfl (Nat.le_of_ble_eq_true rfl) zl_6_118 rfl rfl dX7_sign_1 ?_
  refine z_aload_n C 0 dX7_sign_4 rfl ?_
  refine z_getf C 3 zin_X7 (hM.1.1) (hM.1.2) rfl (Nat.le_of_ble_eq_true rfl) zl_6_101 rfl rfl dX7_sign_5 ?_
  refine z_iload_n C 1 dX7_sign_8 rfl ?_
  refine z_cast C (MR_a20 hM) (by omega) (by omega) (by omega) (by omega) dX7_sign_9 (fun f1 ha2 hk3 => ?_)
  have hM4 := MR_w20 hM ha2 hk3
  refine z_aload_n C 0 dX7_sign_10 rfl ?_
  refine z_dup C dX7_sign_11 rfl ?_
  refine z_getf C 3 zin_X7 (hM4.1.1) (hM4.1.2) rfl (Nat.le_of_ble_eq_true rfl) zl_6_101 rfl rfl dX7_sign_12 ?_
  refine z_iconst C dX7_sign_15 ?_
  refine z_iadd C dX7_sign_16 ?_
  refine m_put3 C hM4 dX7_sign_17 (fun f5 hM6 => ?_)
  exact z_vreturn C dX7_sign_20 (Nat.le_of_ble_eq_true rfl) (Nat.le_of_ble_eq_true rfl) ⟨rfl, hM6⟩

set_option maxRecDepth 100000 in
set_option maxHeartbeats 200000 in
theorem c_X7_chartedShare {la : Launch} {G : zG} {X : (Nat → Prop) → State → Prop} (hX : zX X) {L : List Nat} {f : Nat → va_E} {o : Nat} {ad : Nat → Nat} {μ : zMu} {t : Int} {u v : Int → Int} (hM : MR G L f o ad μ t u v) (hI : MI μ)  (hK : MK μ) : zM la G X yX7_chartedShare (.code yX7_chartedShare cX7_chartedShare 1 (some .float) :: zT) 9 0 0 [.ref o] L f zeF (fun z L' f' => L = L' ∧ MR G L f' o ad μ t (spChart μ) v ∧ z = FP.fdiv (FP.i2f (iI (spCharted μ))) 1131413504) := by
  refine zM_intro hX (by decide) (Nat.le_of_ble_eq_true rfl) (fun pZ eZ sZ mZ aZ bZ hZ cZ AZ C hini => ?_)
  change ZW G pZ la eZ (zRm 9 0 0) sZ mZ aZ bZ hZ cZ AZ 1 0 0 _ L f 0 [(0, .ref o)] []
  have hn9 := hI.n
  have hNO : zNO = -2147483648 := rfl
  
  refine z_aload_n C 0 dX7_chartedShare_0 rfl ?_
  refine z_cV (As := []) C zc_X7_charted (c_X7_charted hX hM hI hK) zl_7_65 (Nat.le_of_ble_eq_true rfl) (Nat.le_of_ble_eq_true rfl) (Nat.le_of_ble_eq_true rfl) (hM.1.1) (hM.1.2) rfl rfl rfl rfl (Nat.le_of_ble_eq_true rfl) dX7_chartedShare_1 (fun zc9 L2 f3 hz4 => ?_)
  obtain ⟨rfl, hM1, hzc⟩ := hz4
  have hchr : 0 ≤ spCharted μ ∧ spCharted μ ≤ 1 * (240 : Nat) := spCharted_rng μ 240
  change ZW G pZ la eZ (zRm 9 0 0) sZ mZ aZ bZ hZ cZ AZ 1 0 0 _ L f3 4 [(0, .ref o)] [.int (iI zc9)]
  refine z_i2f C dX7_chartedShare_4 ?_
  refine z_ldcf (v := 1131413504) C zl_7_192 dX7_chartedShare_5 ?_
  refine z_fdiv C dX7_chartedShare_7 (fp_share (by omega)) ?_
  exact z_freturn C dX7_chartedShare_8 (Nat.le_of_ble_eq_true rfl) (Nat.le_of_ble_eq_true rfl) ⟨rfl, hM1, by rw [hzc]⟩

set_option maxRecDepth 100000 in
set_option maxHeartbeats 200000 in
theorem c_X7_meanDepth {la : Launch} {G : zG} {X : (Nat → Prop) → State → Prop} (hX : zX X) {L : List Nat} {f : Nat → va_E} {o : Nat} {ad : Nat → Nat} {μ : zMu} {t : Int} {u v : Int → Int} (hM : MR G L f o ad μ t u v) (hI : MI μ)  (hK : MK μ) : zM la G X yX7_meanDepth (.code yX7_meanDepth cX7_meanDepth 4 (some .double) :: zT) 9 0 0 [.ref o] L f zeD (fun z L' f' => L = L' ∧ ∃ t', MR G L f' o ad μ t' (spChart μ) v ∧ (spCharted μ = 0 ∧ t' = 1 ∧ z = FP.dconst0 ∨ spCharted μ ≠ 0 ∧ t' = 0 ∧ z = FP.ddiv (FP.i2d (iI (spSum μ))) (FP.i2d (iI (spCharted μ))))) := by
  refine zM_intro hX (by decide) (Nat.le_of_ble_eq_true rfl) (fun pZ eZ sZ mZ aZ bZ hZ cZ AZ C hini => ?_)
  change ZW G pZ la eZ (zRm 9 0 0) sZ mZ aZ bZ hZ cZ AZ 4 0 0 _ L f 0 [(0, .ref o)] []
  have hn9 := hI.n
  have hNO : zNO = -2147483648 := rfl
  
  refine z_aload_n C 0 dX7_meanDepth_0 rfl ?_
  refine z_cV (As := []) C zc_X7_charted (c_X7_charted hX hM hI hK) zl_7_65 (Nat.le_of_ble_eq_true rfl) (Nat.le_of_ble_eq_true rfl) (Nat.le_of_ble_eq_true rfl) (hM.1.1) (hM.1.2) rfl rfl rfl rfl (Nat.le_of_ble_eq_true rfl) dX7_meanDepth_1 (fun zc9 L2 f3 hz4 => ?_)
  obtain ⟨rfl, hM1, hzc⟩ := hz4
  have hchr : 0 ≤ spCharted μ ∧ spCharted μ ≤ 1 * (240 : Nat) := spCharted_rng μ 240
  change ZW G pZ la eZ (zRm 9 0 0) sZ mZ aZ bZ hZ cZ AZ 4 0 0 _ L f3 4 [(0, .ref o)] [.int (iI zc9)]
  refine z_istore_n (ls' := [(1, .int (iI zc9)), (0, .ref o)]) C dX7_meanDepth_4 (Nat.le_of_ble_eq_true rfl) rfl ?_
  refine z_iconst C dX7_meanDepth_5 ?_
  refine z_istore_n (ls' := [(2, .int (iI 0)), (1, .int (iI zc9)), (0, .ref o)]) C dX7_meanDepth_6 (Nat.le_of_ble_eq_true rfl) rfl ?_
  refine z_iconst C dX7_meanDepth_7 ?_
  refine z_istore_n (ls' := [(3, .int (iI 0)), (2, .int (iI 0)), (1, .int (iI zc9)), (0, .ref o)]) C dX7_meanDepth_8 (Nat.le_of_ble_eq_true rfl) rfl ?_
  have key9 : ∀ (n9 : Nat) (m : Int) (c : Int) , (0 ≤ c ∧ c ≤ 240 ∧ m = zsum (fun c => if spChart μ c = zNO then 0 else spChart μ c) c.toNat) → 240 - c < (n9 : Int) → ZW G pZ la eZ (zRm 9 0 0) sZ mZ aZ bZ hZ cZ AZ 4 0 0 (MQ bZ (zQ G zeD (fun z L' f' => L = L' ∧ ∃ t', MR G L f' o ad μ t' (spChart μ) v ∧ (spCharted μ = 0 ∧ t' = 1 ∧ z = FP.dconst0 ∨ spCharted μ ≠ 0 ∧ t' = 0 ∧ z = FP.ddiv (FP.i2d (iI (spSum μ))) (FP.i2d (iI (spCharted μ))))) AZ) aZ sZ 0 0 AZ) L f3 9 [(0, .ref o), (1, .int (iI zc9)), (2, .int (iI m)), (3, .int (iI c))] [] := by
    intro n9
    induction n9 with
    | zero => intro m c  hi9 hn9; exfalso; omega
    | succ n9 ih9 =>
      intro m c  hi9 hn9
      obtain ⟨hc0, hc1, hm⟩ := hi9
      refine z_iload_n C 3 dX7_meanDepth_9 rfl ?_
      refine z_sipush C dX7_meanDepth_10 (by decide) ?_
      refine z_icmp_ge C 46 dX7_meanDepth_13 (by decide) (by omega) (by omega) (fun h13 => ?_) (fun h13 => ?_)
      · refine z_aload_n C 0 dX7_meanDepth_46 rfl ?_
        refine z_iload_n C 1 dX7_meanDepth_47 rfl ?_
        refine z_if_ne C 55 dX7_meanDepth_48 (by decide) (by omega) (fun h48 => ?_) (fun h48 => ?_)
        · refine z_iconst C dX7_meanDepth_55 ?_
          refine m_put0 C hM1 dX7_meanDepth_56 (fun f5 hM6 => ?_)
          refine z_iload_n C 1 dX7_meanDepth_59 rfl ?_
          refine z_if_ne C 67 dX7_meanDepth_60 (by decide) (by omega) (fun h60 => ?_) (fun h60 => ?_)
          · refine z_iload_n C 2 dX7_meanDepth_67 rfl ?_
            refine z_i2d C dX7_meanDepth_68 ?_
            refine z_iload_n C 1 dX7_meanDepth_69 rfl ?_
            refine z_i2d C dX7_meanDepth_70 ?_
            refine z_ddiv C dX7_meanDepth_71 (fp_mean _ (by omega)) ?_
            exact z_dreturn C dX7_meanDepth_72 (Nat.le_of_ble_eq_true rfl) (Nat.le_of_ble_eq_true rfl) ⟨rfl, _, hM6, by rw [show spSum μ = m by rw [hm, show c = 240 by omega]; rfl, ← hzc]; first | exact Or.inl ⟨by omega, by omega, rfl⟩ | exact Or.inr ⟨by omega, by omega, rfl⟩⟩
          · refine z_dconst0 C dX7_meanDepth_63 ?_
            refine z_goto C 72 dX7_meanDepth_64 (by decide) ?_
            exact z_dreturn C dX7_meanDepth_72 (Nat.le_of_ble_eq_true rfl) (Nat.le_of_ble_eq_true rfl) ⟨rfl, _, hM6, by rw [show spSum μ = m by rw [hm, show c = 240 by omega]; rfl, ← hzc]; first | exact Or.inl ⟨by omega, by omega, rfl⟩ | exact Or.inr ⟨by omega, by omega, rfl⟩⟩
        · refine z_iconst C dX7_meanDepth_51 ?_
          refine z_goto C 56 dX7_meanDepth_52 (by decide) ?_
          refine m_put0 C hM1 dX7_meanDepth_56 (fun f7 hM8 => ?_)
          refine z_iload_n C 1 dX7_meanDepth_59 rfl ?_
          refine z_if_ne C 67 dX7_meanDepth_60 (by decide) (by omega) (fun h60 => ?_) (fun h60 => ?_)
          · refine z_iload_n C 2 dX7_meanDepth_67 rfl ?_
            refine z_i2d C dX7_meanDepth_68 ?_
            refine z_iload_n C 1 dX7_meanDepth_69 rfl ?_
            refine z_i2d C dX7_meanDepth_70 ?_
            refine z_ddiv C dX7_meanDepth_71 (fp_mean _ (by omega)) ?_
            exact z_dreturn C dX7_meanDepth_72 (Nat.le_of_ble_eq_true rfl) (Nat.le_of_ble_eq_true rfl) ⟨rfl, _, hM8, by rw [show spSum μ = m by rw [hm, show c = 240 by omega]; rfl, ← hzc]; first | exact Or.inl ⟨by omega, by omega, rfl⟩ | exact Or.inr ⟨by omega, by omega, rfl⟩⟩
          · refine z_dconst0 C dX7_meanDepth_63 ?_
            refine z_goto C 72 dX7_meanDepth_64 (by decide) ?_
            exact z_dreturn C dX7_meanDepth_72 (Nat.le_of_ble_eq_true rfl) (Nat.le_of_ble_eq_true rfl) ⟨rfl, _, hM8, by rw [show spSum μ = m by rw [hm, show c = 240 by omega]; rfl, ← hzc]; first | exact Or.inl ⟨by omega, by omega, rfl⟩ | exact Or.inr ⟨by omega, by omega, rfl⟩⟩
      · have rg := spSum_rng hI c.toNat
        refine z_iload_n C 2 dX7_meanDepth_16 rfl ?_
        refine z_aload_n C 0 dX7_meanDepth_17 rfl ?_
        refine z_getf C 9 zin_X7 (hM1.1.1) (hM1.1.2) rfl (Nat.le_of_ble_eq_true rfl) zl_6_107 rfl rfl dX7_meanDepth_18 ?_
        refine z_iload_n C 3 dX7_meanDepth_21 rfl ?_
        refine z_iald C (MR_a9 hM1) (by omega) (by omega) (by omega) dX7_meanDepth_22 ?_
        have hb9 := zCr_b (spChart_r hI) c (by omega) (by omega)
        refine z_ldc (n := (-2147483648)) C zl_7_2 rfl dX7_meanDepth_23 ?_
        refine z_icmp_eq C 37 dX7_meanDepth_25 (by decide) (by omega) (by omega) (fun h25 => ?_) (fun h25 => ?_)
        · refine z_iconst C dX7_meanDepth_37 ?_
          refine z_iadd C dX7_meanDepth_38 ?_
          refine z_nm (fun x10 hx10 => ?_)
          refine z_istore_n (ls' := [(2, .int (iI x10)), (0, .ref o), (1, .int (iI zc9)), (3, .int (iI c))]) C dX7_meanDepth_39 (Nat.le_of_ble_eq_true rfl) rfl ?_
          refine z_iinc (ls' := [(3, .int (iI (c + 1))), (2, .int (iI x10)), (0, .ref o), (1, .int (iI zc9))]) C 3 dX7_meanDepth_40 rfl (Nat.le_of_ble_eq_true rfl) rfl ?_
          refine z_goto C 9 dX7_meanDepth_43 (by decide) ?_
          refine z_perm [2, 3, 1, 0] rfl ?_
          exact ih9 _ _  ⟨by omega, by omega, by rw [zsum_s _ hc0, ← hm]; first | (rw [if_pos (by omega)] <;> omega) | (rw [if_neg (by omega)] <;> omega)⟩ (by omega)
        · refine z_aload_n C 0 dX7_meanDepth_28 rfl ?_
          refine z_getf C 9 zin_X7 (hM1.1.1) (hM1.1.2) rfl (Nat.le_of_ble_eq_true rfl) zl_6_107 rfl rfl dX7_meanDepth_29 ?_
          refine z_iload_n C 3 dX7_meanDepth_32 rfl ?_
          refine z_iald C (MR_a9 hM1) (by omega) (by omega) (by omega) dX7_meanDepth_33 ?_
          have hb11 := zCr_b (spChart_r hI) c (by omega) (by omega)
          refine z_goto C 38 dX7_meanDepth_34 (by decide) ?_
          refine z_iadd C dX7_meanDepth_38 ?_
          refine z_nm (fun x12 hx12 => ?_)
          refine z_istore_n (ls' := [(2, .int (iI x12)), (0, .ref o), (1, .int (iI zc9)), (3, .int (iI c))]) C dX7_meanDepth_39 (Nat.le_of_ble_eq_true rfl) rfl ?_
          refine z_iinc (ls' := [(3, .int (iI (c + 1))), (2, .int (iI x12)), (0, .ref o), (1, .int (iI zc9))]) C 3 dX7_meanDepth_40 rfl (Nat.le_of_ble_eq_true rfl) rfl ?_
          refine z_goto C 9 dX7_meanDepth_43 (by decide) ?_
          refine z_perm [2, 3, 1, 0] rfl ?_
          exact ih9 _ _  ⟨by omega, by omega, by rw [zsum_s _ hc0, ← hm]; first | (rw [if_pos (by omega)] <;> omega) | (rw [if_neg (by omega)] <;> omega)⟩ (by omega)
  refine z_perm [3, 2, 1, 0] rfl ?_
  exact key9 2000 _ _  ⟨by omega, by omega, rfl⟩ (by omega)
