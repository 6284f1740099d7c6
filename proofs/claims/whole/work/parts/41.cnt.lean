set_option maxRecDepth 100000 in
set_option maxHeartbeats 600000 in
theorem c_countSounded {la : Launch} {G : zG} {X : (Nat → Prop) → State → Prop} (hX : zX X) {L : List Nat} {f : Nat → va_E} {w : Nat} {μ : zMu} {l : Int} {r0 r1 r2 a0 a1 a2 : Nat} {s e rd : Int → Int} (hLn : zLn G L f w μ l r0 r1 r2 a0 a1 a2 s e rd)  (hB : zLB μ l) (hss : zCr s) : zM la G X yX3_countSounded (.code yX3_countSounded cX3_countSounded 4 (some .int) :: zT) 2 0 0 [.ref w] L f zeI (zRd L f (fun z => z = zsum (fun k => zsum (znS s k) 7) (spSize μ l).toNat)) := by
  refine zM_intro hX (by decide) (Nat.le_of_ble_eq_true rfl) (fun pZ eZ sZ mZ aZ bZ hZ cZ AZ C hini => ?_)
  change ZW G pZ la eZ (zRm 2 0 0) sZ mZ aZ bZ hZ cZ AZ 4 0 0 _ L f 0 [(0, .ref w)] []
  have hNO : zNO = -2147483648 := rfl
  have hsz := zLB_sz hB
  
  refine z_iconst C dX3_countSounded_0 ?_
  refine z_istore_n (ls' := [(1, .int (iI 0)), (0, .ref w)]) C dX3_countSounded_1 (Nat.le_of_ble_eq_true rfl) rfl ?_
  refine z_iconst C dX3_countSounded_2 ?_
  refine z_istore_n (ls' := [(2, .int (iI 0)), (1, .int (iI 0)), (0, .ref w)]) C dX3_countSounded_3 (Nat.le_of_ble_eq_true rfl) rfl ?_
  have key4 : ∀ (n4 : Nat) (m : Int) (k : Int) , (0 ≤ k ∧ k ≤ spSize μ l ∧ m = zsum (fun k => zsum (znS s k) 7) k.toNat) → spSize μ l - k < (n4 : Int) → ZW G pZ la eZ (zRm 2 0 0) sZ mZ aZ bZ hZ cZ AZ 4 0 0 (MQ bZ (zQ G zeI (zRd L f (fun z => z = zsum (fun k => zsum (znS s k) 7) (spSize μ l).toNat)) AZ) aZ sZ 0 0 AZ) L f 4 [(0, .ref w), (1, .int (iI m)), (2, .int (iI k))] [] := by
    intro n4
    induction n4 with
    | zero => intro m k  hi4 hn4; exfalso; omega
    | succ n4 ih4 =>
      intro m k  hi4 hn4
      obtain ⟨hk0, hk1, hm⟩ := hi4
      refine z_iload_n C 2 dX3_countSounded_4 rfl ?_
      refine z_aload_n C 0 dX3_countSounded_5 rfl ?_
      refine z_getf C 4 zin_X3 (hLn.1.1) (hLn.1.2) rfl (Nat.le_of_ble_eq_true rfl) zl_4_16 rfl rfl dX3_countSounded_6 ?_
      refine z_icmp_ge C 49 dX3_countSounded_9 (by decide) (by omega) (by omega) (fun h9 => ?_) (fun h9 => ?_)
      · refine z_iload_n C 1 dX3_countSounded_49 rfl ?_
        exact z_ireturn C dX3_countSounded_50 (Nat.le_of_ble_eq_true rfl) (Nat.le_of_ble_eq_true rfl) ⟨by rw [hm]; congr 1; omega, rfl, rfl⟩
      · refine z_bipush C dX3_countSounded_12 (by decide) ?_
        refine z_istore_n (ls' := [(3, .int (iI (-3))), (0, .ref w), (1, .int (iI m)), (2, .int (iI k))]) C dX3_countSounded_14 (Nat.le_of_ble_eq_true rfl) rfl ?_
        have key15 : ∀ (n15 : Nat) (m2 : Int) (t : Int) , (-3 ≤ t ∧ t ≤ 4 ∧ m2 = zsum (fun k => zsum (znS s k) 7) k.toNat + zsum (znS s k) (t + 3).toNat) → 4 - t < (n15 : Int) → ZW G pZ la eZ (zRm 2 0 0) sZ mZ aZ bZ hZ cZ AZ 4 0 0 (MQ bZ (zQ G zeI (zRd L f (fun z => z = zsum (fun k => zsum (znS s k) 7) (spSize μ l).toNat)) AZ) aZ sZ 0 0 AZ) L f 15 [(0, .ref w), (1, .int (iI m2)), (2, .int (iI k)), (3, .int (iI t))] [] := by
          intro n15
          induction n15 with
          | zero => intro m2 t  hi15 hn15; exfalso; omega
          | succ n15 ih15 =>
            intro m2 t  hi15 hn15
            obtain ⟨ht0, ht1, hm2⟩ := hi15
            refine z_iload_n C 3 dX3_countSounded_15 rfl ?_
            refine z_iconst C dX3_countSounded_16 ?_
            refine z_icmp_gt C 43 dX3_countSounded_17 (by decide) (by omega) (by omega) (fun h17 => ?_) (fun h17 => ?_)
            · refine z_iinc (ls' := [(2, .int (iI (k + 1))), (0, .ref w), (1, .int (iI m2)), (3, .int (iI t))]) C 2 dX3_countSounded_43 rfl (Nat.le_of_ble_eq_true rfl) rfl ?_
              refine z_goto C 4 dX3_countSounded_46 (by decide) ?_
              refine z_perm [1, 2, 0] rfl ?_
              exact ih4 _ _  ⟨by omega, by omega, by rw [zsum_s _ hk0, hm2, show (t + 3).toNat = 7 by omega]⟩ (by omega)
            · have rg1 := zbb_rng (znS_b s) k.toNat
              have rg2 := zb_rng (znS_b s) k (t + 3).toNat
              refine z_iload_n C 1 dX3_countSounded_20 rfl ?_
              refine z_aload_n C 0 dX3_countSounded_21 rfl ?_
              refine z_iload_n C 2 dX3_countSounded_22 rfl ?_
              refine z_iload_n C 3 dX3_countSounded_23 rfl ?_
              refine z_cV (As := [.int (iI k), .int (iI t)]) C zc_X3_hasSounded (c_hasSounded hX hLn k t hB (by omega) (by omega) hss) zl_1_186 (Nat.le_of_ble_eq_true rfl) (Nat.le_of_ble_eq_true rfl) (Nat.le_of_ble_eq_true rfl) (hLn.1.1) (hLn.1.2) rfl rfl rfl rfl (Nat.le_of_ble_eq_true rfl) dX3_countSounded_24 (fun z1 L2 f3 hz4 => ?_)
              obtain ⟨hz4, rfl, rfl⟩ := hz4
              subst hz4
              change ZW G pZ la eZ (zRm 2 0 0) sZ mZ aZ bZ hZ cZ AZ 4 0 0 _ L f 27 [(0, .ref w), (1, .int (iI m2)), (2, .int (iI k)), (3, .int (iI t))] [.int (iI (bI (zls s k t ≠ zNO))), .int (iI m2)]
              refine z_if_eq_b C 34 dX3_countSounded_27 (by decide) (fun h27 => ?_) (fun h27 => ?_)
              · refine z_iconst C dX3_countSounded_34 ?_
                refine z_iadd C dX3_countSounded_35 ?_
                refine z_nm (fun x5 hx5 => ?_)
                refine z_istore_n (ls' := [(1, .int (iI x5)), (0, .ref w), (2, .int (iI k)), (3, .int (iI t))]) C dX3_countSounded_36 (Nat.le_of_ble_eq_true rfl) rfl ?_
                refine z_iinc (ls' := [(3, .int (iI (t + 1))), (1, .int (iI x5)), (0, .ref w), (2, .int (iI k))]) C 3 dX3_countSounded_37 rfl (Nat.le_of_ble_eq_true rfl) rfl ?_
                refine z_goto C 15 dX3_countSounded_40 (by decide) ?_
                refine z_perm [2, 1, 3, 0] rfl ?_
                exact ih15 _ _  ⟨by omega, by omega, by rw [show t + 1 + 3 = t + 3 + 1 by omega, zsum_s _ (by omega)]; have e9 : znS s k (t + 3) = bI (zls s k t ≠ zNO) := (by show bI _ = _; rw [show t + 3 - 3 = t by omega]); first | (rw [bI_1 (by assumption)] at e9; omega) | (rw [bI_0 (by assumption)] at e9; omega) | (rw [bI_1 (by refine ⟨by omega, by omega⟩)] at e9; omega) | (rw [bI_0 (by intro z; omega)] at e9; omega)⟩ (by omega)
              · refine z_iconst C dX3_countSounded_30 ?_
                refine z_goto C 35 dX3_countSounded_31 (by decide) ?_
                refine z_iadd C dX3_countSounded_35 ?_
                refine z_nm (fun x6 hx6 => ?_)
                refine z_istore_n (ls' := [(1, .int (iI x6)), (0, .ref w), (2, .int (iI k)), (3, .int (iI t))]) C dX3_countSounded_36 (Nat.le_of_ble_eq_true rfl) rfl ?_
                refine z_iinc (ls' := [(3, .int (iI (t + 1))), (1, .int (iI x6)), (0, .ref w), (2, .int (iI k))]) C 3 dX3_countSounded_37 rfl (Nat.le_of_ble_eq_true rfl) rfl ?_
                refine z_goto C 15 dX3_countSounded_40 (by decide) ?_
                refine z_perm [2, 1, 3, 0] rfl ?_
                exact ih15 _ _  ⟨by omega, by omega, by rw [show t + 1 + 3 = t + 3 + 1 by omega, zsum_s _ (by omega)]; have e9 : znS s k (t + 3) = bI (zls s k t ≠ zNO) := (by show bI _ = _; rw [show t + 3 - 3 = t by omega]); first | (rw [bI_1 (by assumption)] at e9; omega) | (rw [bI_0 (by assumption)] at e9; omega) | (rw [bI_1 (by refine ⟨by omega, by omega⟩)] at e9; omega) | (rw [bI_0 (by intro z; omega)] at e9; omega)⟩ (by omega)
        refine z_perm [1, 2, 3, 0] rfl ?_
        exact key15 2000 _ _  ⟨by omega, by omega, by rw [hm]; exact (Int.add_zero _).symm⟩ (by omega)
  refine z_perm [2, 1, 0] rfl ?_
  exact key4 2000 _ _  ⟨by omega, by omega, rfl⟩ (by omega)

set_option maxRecDepth 100000 in
set_option maxHeartbeats 600000 in
theorem c_countLost {la : Launch} {G : zG} {X : (Nat → Prop) → State → Prop} (hX : zX X) {L : List Nat} {f : Nat → va_E} {w : Nat} {μ : zMu} {l : Int} {r0 r1 r2 a0 a1 a2 : Nat} {s e rd : Int → Int} (hLn : zLn G L f w μ l r0 r1 r2 a0 a1 a2 s e rd)  (hB : zLB μ l) (hss : zCr s) (hrd : zCr rd) : zM la G X yX3_countLost (.code yX3_countLost cX3_countLost 4 (some .int) :: zT) 2 0 0 [.ref w] L f zeI (zRd L f (fun z => z = zsum (fun k => zsum (znL s rd k) 7) (spSize μ l).toNat)) := by
  refine zM_intro hX (by decide) (Nat.le_of_ble_eq_true rfl) (fun pZ eZ sZ mZ aZ bZ hZ cZ AZ C hini => ?_)
  change ZW G pZ la eZ (zRm 2 0 0) sZ mZ aZ bZ hZ cZ AZ 4 0 0 _ L f 0 [(0, .ref w)] []
  have hNO : zNO = -2147483648 := rfl
  have hsz := zLB_sz hB
  
  refine z_iconst C dX3_countLost_0 ?_
  refine z_istore_n (ls' := [(1, .int (iI 0)), (0, .ref w)]) C dX3_countLost_1 (Nat.le_of_ble_eq_true rfl) rfl ?_
  refine z_iconst C dX3_countLost_2 ?_
  refine z_istore_n (ls' := [(2, .int (iI 0)), (1, .int (iI 0)), (0, .ref w)]) C dX3_countLost_3 (Nat.le_of_ble_eq_true rfl) rfl ?_
  have key4 : ∀ (n4 : Nat) (m : Int) (k : Int) , (0 ≤ k ∧ k ≤ spSize μ l ∧ m = zsum (fun k => zsum (znL s rd k) 7) k.toNat) → spSize μ l - k < (n4 : Int) → ZW G pZ la eZ (zRm 2 0 0) sZ mZ aZ bZ hZ cZ AZ 4 0 0 (MQ bZ (zQ G zeI (zRd L f (fun z => z = zsum (fun k => zsum (znL s rd k) 7) (spSize μ l).toNat)) AZ) aZ sZ 0 0 AZ) L f 4 [(0, .ref w), (1, .int (iI m)), (2, .int (iI k))] [] := by
    intro n4
    induction n4 with
    | zero => intro m k  hi4 hn4; exfalso; omega
    | succ n4 ih4 =>
      intro m k  hi4 hn4
      obtain ⟨hk0, hk1, hm⟩ := hi4
      refine z_iload_n C 2 dX3_countLost_4 rfl ?_
      refine z_aload_n C 0 dX3_countLost_5 rfl ?_
      refine z_getf C 4 zin_X3 (hLn.1.1) (hLn.1.2) rfl (Nat.le_of_ble_eq_true rfl) zl_4_16 rfl rfl dX3_countLost_6 ?_
      refine z_icmp_ge C 60 dX3_countLost_9 (by decide) (by omega) (by omega) (fun h9 => ?_) (fun h9 => ?_)
      · refine z_iload_n C 1 dX3_countLost_60 rfl ?_
        exact z_ireturn C dX3_countLost_61 (Nat.le_of_ble_eq_true rfl) (Nat.le_of_ble_eq_true rfl) ⟨by rw [hm]; congr 1; omega, rfl, rfl⟩
      · refine z_bipush C dX3_countLost_12 (by decide) ?_
        refine z_istore_n (ls' := [(3, .int (iI (-3))), (0, .ref w), (1, .int (iI m)), (2, .int (iI k))]) C dX3_countLost_14 (Nat.le_of_ble_eq_true rfl) rfl ?_
        have key15 : ∀ (n15 : Nat) (m2 : Int) (t : Int) , (-3 ≤ t ∧ t ≤ 4 ∧ m2 = zsum (fun k => zsum (znL s rd k) 7) k.toNat + zsum (znL s rd k) (t + 3).toNat) → 4 - t < (n15 : Int) → ZW G pZ la eZ (zRm 2 0 0) sZ mZ aZ bZ hZ cZ AZ 4 0 0 (MQ bZ (zQ G zeI (zRd L f (fun z => z = zsum (fun k => zsum (znL s rd k) 7) (spSize μ l).toNat)) AZ) aZ sZ 0 0 AZ) L f 15 [(0, .ref w), (1, .int (iI m2)), (2, .int (iI k)), (3, .int (iI t))] [] := by
          intro n15
          induction n15 with
          | zero => intro m2 t  hi15 hn15; exfalso; omega
          | succ n15 ih15 =>
            intro m2 t  hi15 hn15
            obtain ⟨ht0, ht1, hm2⟩ := hi15
            refine z_iload_n C 3 dX3_countLost_15 rfl ?_
            refine z_iconst C dX3_countLost_16 ?_
            refine z_icmp_gt C 54 dX3_countLost_17 (by decide) (by omega) (by omega) (fun h17 => ?_) (fun h17 => ?_)
            · refine z_iinc (ls' := [(2, .int (iI (k + 1))), (0, .ref w), (1, .int (iI m2)), (3, .int (iI t))]) C 2 dX3_countLost_54 rfl (Nat.le_of_ble_eq_true rfl) rfl ?_
              refine z_goto C 4 dX3_countLost_57 (by decide) ?_
              refine z_perm [1, 2, 0] rfl ?_
              exact ih4 _ _  ⟨by omega, by omega, by rw [zsum_s _ hk0, hm2, show (t + 3).toNat = 7 by omega]⟩ (by omega)
            · have rg1 := zbb_rng (znL_b s rd) k.toNat
              have rg2 := zb_rng (znL_b s rd) k (t + 3).toNat
              refine z_iload_n C 1 dX3_countLost_20 rfl ?_
              refine z_aload_n C 0 dX3_countLost_21 rfl ?_
              refine z_iload_n C 2 dX3_countLost_22 rfl ?_
              refine z_iload_n C 3 dX3_countLost_23 rfl ?_
              refine z_cV (As := [.int (iI k), .int (iI t)]) C zc_X3_hasSounded (c_hasSounded hX hLn k t hB (by omega) (by omega) hss) zl_1_186 (Nat.le_of_ble_eq_true rfl) (Nat.le_of_ble_eq_true rfl) (Nat.le_of_ble_eq_true rfl) (hLn.1.1) (hLn.1.2) rfl rfl rfl rfl (Nat.le_of_ble_eq_true rfl) dX3_countLost_24 (fun z1 L2 f3 hz4 => ?_)
              obtain ⟨hz4, rfl, rfl⟩ := hz4
              subst hz4
              change ZW G pZ la eZ (zRm 2 0 0) sZ mZ aZ bZ hZ cZ AZ 4 0 0 _ L f 27 [(0, .ref w), (1, .int (iI m2)), (2, .int (iI k)), (3, .int (iI t))] [.int (iI (bI (zls s k t ≠ zNO))), .int (iI m2)]
              refine z_if_eq_b C 45 dX3_countLost_27 (by decide) (fun h27 => ?_) (fun h27 => ?_)
              · refine z_iconst C dX3_countLost_45 ?_
                refine z_iadd C dX3_countLost_46 ?_
                refine z_nm (fun x5 hx5 => ?_)
                refine z_istore_n (ls' := [(1, .int (iI x5)), (0, .ref w), (2, .int (iI k)), (3, .int (iI t))]) C dX3_countLost_47 (Nat.le_of_ble_eq_true rfl) rfl ?_
                refine z_iinc (ls' := [(3, .int (iI (t + 1))), (1, .int (iI x5)), (0, .ref w), (2, .int (iI k))]) C 3 dX3_countLost_48 rfl (Nat.le_of_ble_eq_true rfl) rfl ?_
                refine z_goto C 15 dX3_countLost_51 (by decide) ?_
                refine z_perm [2, 1, 3, 0] rfl ?_
                exact ih15 _ _  ⟨by omega, by omega, by rw [show t + 1 + 3 = t + 3 + 1 by omega, zsum_s _ (by omega)]; have e9 : znL s rd k (t + 3) = bI (zls s k t ≠ zNO ∧ zls rd k t = zNO) := (by show bI _ = _; rw [show t + 3 - 3 = t by omega]); first | (rw [bI_1 (by assumption)] at e9; omega) | (rw [bI_0 (by assumption)] at e9; omega) | (rw [bI_1 (by refine ⟨by omega, by omega⟩)] at e9; omega) | (rw [bI_0 (by intro z; omega)] at e9; omega)⟩ (by omega)
              · refine z_aload_n C 0 dX3_countLost_30 rfl ?_
                refine z_iload_n C 2 dX3_countLost_31 rfl ?_
                refine z_iload_n C 3 dX3_countLost_32 rfl ?_
                refine z_cV (As := [.int (iI k), .int (iI t)]) C zc_X3_reducedAt (c_reducedAt hX hLn k t hB (by omega) (by omega)) zl_1_195 (Nat.le_of_ble_eq_true rfl) (Nat.le_of_ble_eq_true rfl) (Nat.le_of_ble_eq_true rfl) (hLn.1.1) (hLn.1.2) rfl rfl rfl rfl (Nat.le_of_ble_eq_true rfl) dX3_countLost_33 (fun zr6 L8 f9 hz7 => ?_)
                obtain ⟨hz7, rfl, rfl⟩ := hz7
                have hz7c := cN_cs (zls_cr hrd k t)
                have hz7d : (zls rd k t = zNO ∧ zr6 = -1000000) ∨ (-108 ≤ zls rd k t ∧ zls rd k t ≤ 208 ∧ zls rd k t ≠ zNO ∧ zr6 = zls rd k t) := by rw [hz7]; exact hz7c
                change ZW G pZ la eZ (zRm 2 0 0) sZ mZ aZ bZ hZ cZ AZ 4 0 0 _ L f 36 [(0, .ref w), (1, .int (iI m2)), (2, .int (iI k)), (3, .int (iI t))] [.int (iI zr6), .int (iI m2)]
                refine z_ldc (n := (-1000000)) C zl_1_194 rfl dX3_countLost_36 ?_
                refine z_icmp_ne C 45 dX3_countLost_38 (by decide) (by omega) (by omega) (fun h38 => ?_) (fun h38 => ?_)
                · refine z_iconst C dX3_countLost_45 ?_
                  refine z_iadd C dX3_countLost_46 ?_
                  refine z_nm (fun x10 hx10 => ?_)
                  refine z_istore_n (ls' := [(1, .int (iI x10)), (0, .ref w), (2, .int (iI k)), (3, .int (iI t))]) C dX3_countLost_47 (Nat.le_of_ble_eq_true rfl) rfl ?_
                  refine z_iinc (ls' := [(3, .int (iI (t + 1))), (1, .int (iI x10)), (0, .ref w), (2, .int (iI k))]) C 3 dX3_countLost_48 rfl (Nat.le_of_ble_eq_true rfl) rfl ?_
                  refine z_goto C 15 dX3_countLost_51 (by decide) ?_
                  refine z_perm [2, 1, 3, 0] rfl ?_
                  exact ih15 _ _  ⟨by omega, by omega, by rw [show t + 1 + 3 = t + 3 + 1 by omega, zsum_s _ (by omega)]; have e9 : znL s rd k (t + 3) = bI (zls s k t ≠ zNO ∧ zls rd k t = zNO) := (by show bI _ = _; rw [show t + 3 - 3 = t by omega]); first | (rw [bI_1 (by assumption)] at e9; omega) | (rw [bI_0 (by assumption)] at e9; omega) | (rw [bI_1 (by refine ⟨by omega, by omega⟩)] at e9; omega) | (rw [bI_0 (by intro z; omega)] at e9; omega)⟩ (by omega)
                · refine z_iconst C dX3_countLost_41 ?_
                  refine z_goto C 46 dX3_countLost_42 (by decide) ?_
                  refine z_iadd C dX3_countLost_46 ?_
                  refine z_nm (fun x11 hx11 => ?_)
                  refine z_istore_n (ls' := [(1, .int (iI x11)), (0, .ref w), (2, .int (iI k)), (3, .int (iI t))]) C dX3_countLost_47 (Nat.le_of_ble_eq_true rfl) rfl ?_
                  refine z_iinc (ls' := [(3, .int (iI (t + 1))), (1, .int (iI x11)), (0, .ref w), (2, .int (iI k))]) C 3 dX3_countLost_48 rfl (Nat.le_of_ble_eq_true rfl) rfl ?_
                  refine z_goto C 15 dX3_countLost_51 (by decide) ?_
                  refine z_perm [2, 1, 3, 0] rfl ?_
                  exact ih15 _ _  ⟨by omega, by omega, by rw [show t + 1 + 3 = t + 3 + 1 by omega, zsum_s _ (by omega)]; have e9 : znL s rd k (t + 3) = bI (zls s k t ≠ zNO ∧ zls rd k t = zNO) := (by show bI _ = _; rw [show t + 3 - 3 = t by omega]); first | (rw [bI_1 (by assumption)] at e9; omega) | (rw [bI_0 (by assumption)] at e9; omega) | (rw [bI_1 (by refine ⟨by omega, by omega⟩)] at e9; omega) | (rw [bI_0 (by intro z; omega)] at e9; omega)⟩ (by omega)
        refine z_perm [1, 2, 3, 0] rfl ?_
        exact key15 2000 _ _  ⟨by omega, by omega, by rw [hm]; exact (Int.add_zero _).symm⟩ (by omega)
  refine z_perm [2, 1, 0] rfl ?_
  exact key4 2000 _ _  ⟨by omega, by omega, rfl⟩ (by omega)

set_option maxRecDepth 100000 in
set_option maxHeartbeats 600000 in
theorem c_countSpikes {la : Launch} {G : zG} {X : (Nat → Prop) → State → Prop} (hX : zX X) {L : List Nat} {f : Nat → va_E} {w : Nat} {μ : zMu} {l : Int} {r0 r1 r2 a0 a1 a2 : Nat} {s e rd : Int → Int} (hLn : zLn G L f w μ l r0 r1 r2 a0 a1 a2 s e rd)  (hB : zLB μ l) (hrd : zCr rd) : zM la G X yX3_countSpikes (.code yX3_countSpikes cX3_countSpikes 4 (some .int) :: zT) 3 0 0 [.ref w] L f zeI (zRd L f (fun z => z = zsum (fun k => zsum (znP rd k) 7) (spSize μ l).toNat)) := by
  refine zM_intro hX (by decide) (Nat.le_of_ble_eq_true rfl) (fun pZ eZ sZ mZ aZ bZ hZ cZ AZ C hini => ?_)
  change ZW G pZ la eZ (zRm 3 0 0) sZ mZ aZ bZ hZ cZ AZ 4 0 0 _ L f 0 [(0, .ref w)] []
  have hNO : zNO = -2147483648 := rfl
  have hsz := zLB_sz hB
  
  refine z_iconst C dX3_countSpikes_0 ?_
  refine z_istore_n (ls' := [(1, .int (iI 0)), (0, .ref w)]) C dX3_countSpikes_1 (Nat.le_of_ble_eq_true rfl) rfl ?_
  refine z_iconst C dX3_countSpikes_2 ?_
  refine z_istore_n (ls' := [(2, .int (iI 0)), (1, .int (iI 0)), (0, .ref w)]) C dX3_countSpikes_3 (Nat.le_of_ble_eq_true rfl) rfl ?_
  have key4 : ∀ (n4 : Nat) (m : Int) (k : Int) , (0 ≤ k ∧ k ≤ spSize μ l ∧ m = zsum (fun k => zsum (znP rd k) 7) k.toNat) → spSize μ l - k < (n4 : Int) → ZW G pZ la eZ (zRm 3 0 0) sZ mZ aZ bZ hZ cZ AZ 4 0 0 (MQ bZ (zQ G zeI (zRd L f (fun z => z = zsum (fun k => zsum (znP rd k) 7) (spSize μ l).toNat)) AZ) aZ sZ 0 0 AZ) L f 4 [(0, .ref w), (1, .int (iI m)), (2, .int (iI k))] [] := by
    intro n4
    induction n4 with
    | zero => intro m k  hi4 hn4; exfalso; omega
    | succ n4 ih4 =>
      intro m k  hi4 hn4
      obtain ⟨hk0, hk1, hm⟩ := hi4
      refine z_iload_n C 2 dX3_countSpikes_4 rfl ?_
      refine z_aload_n C 0 dX3_countSpikes_5 rfl ?_
      refine z_getf C 4 zin_X3 (hLn.1.1) (hLn.1.2) rfl (Nat.le_of_ble_eq_true rfl) zl_4_16 rfl rfl dX3_countSpikes_6 ?_
      refine z_icmp_ge C 49 dX3_countSpikes_9 (by decide) (by omega) (by omega) (fun h9 => ?_) (fun h9 => ?_)
      · refine z_iload_n C 1 dX3_countSpikes_49 rfl ?_
        exact z_ireturn C dX3_countSpikes_50 (Nat.le_of_ble_eq_true rfl) (Nat.le_of_ble_eq_true rfl) ⟨by rw [hm]; congr 1; omega, rfl, rfl⟩
      · refine z_bipush C dX3_countSpikes_12 (by decide) ?_
        refine z_istore_n (ls' := [(3, .int (iI (-3))), (0, .ref w), (1, .int (iI m)), (2, .int (iI k))]) C dX3_countSpikes_14 (Nat.le_of_ble_eq_true rfl) rfl ?_
        have key15 : ∀ (n15 : Nat) (m2 : Int) (t : Int) , (-3 ≤ t ∧ t ≤ 4 ∧ m2 = zsum (fun k => zsum (znP rd k) 7) k.toNat + zsum (znP rd k) (t + 3).toNat) → 4 - t < (n15 : Int) → ZW G pZ la eZ (zRm 3 0 0) sZ mZ aZ bZ hZ cZ AZ 4 0 0 (MQ bZ (zQ G zeI (zRd L f (fun z => z = zsum (fun k => zsum (znP rd k) 7) (spSize μ l).toNat)) AZ) aZ sZ 0 0 AZ) L f 15 [(0, .ref w), (1, .int (iI m2)), (2, .int (iI k)), (3, .int (iI t))] [] := by
          intro n15
          induction n15 with
          | zero => intro m2 t  hi15 hn15; exfalso; omega
          | succ n15 ih15 =>
            intro m2 t  hi15 hn15
            obtain ⟨ht0, ht1, hm2⟩ := hi15
            refine z_iload_n C 3 dX3_countSpikes_15 rfl ?_
            refine z_iconst C dX3_countSpikes_16 ?_
            refine z_icmp_gt C 43 dX3_countSpikes_17 (by decide) (by omega) (by omega) (fun h17 => ?_) (fun h17 => ?_)
            · refine z_iinc (ls' := [(2, .int (iI (k + 1))), (0, .ref w), (1, .int (iI m2)), (3, .int (iI t))]) C 2 dX3_countSpikes_43 rfl (Nat.le_of_ble_eq_true rfl) rfl ?_
              refine z_goto C 4 dX3_countSpikes_46 (by decide) ?_
              refine z_perm [1, 2, 0] rfl ?_
              exact ih4 _ _  ⟨by omega, by omega, by rw [zsum_s _ hk0, hm2, show (t + 3).toNat = 7 by omega]⟩ (by omega)
            · have rg1 := zbb_rng (znP_b rd) k.toNat
              have rg2 := zb_rng (znP_b rd) k (t + 3).toNat
              refine z_iload_n C 1 dX3_countSpikes_20 rfl ?_
              refine z_aload_n C 0 dX3_countSpikes_21 rfl ?_
              refine z_iload_n C 2 dX3_countSpikes_22 rfl ?_
              refine z_iload_n C 3 dX3_countSpikes_23 rfl ?_
              refine z_cV (As := [.int (iI k), .int (iI t)]) C zc_X3_standsOut (c_standsOut hX hLn k t hB (by omega) (by omega) hrd) zl_2_108 (Nat.le_of_ble_eq_true rfl) (Nat.le_of_ble_eq_true rfl) (Nat.le_of_ble_eq_true rfl) (hLn.1.1) (hLn.1.2) rfl rfl rfl rfl (Nat.le_of_ble_eq_true rfl) dX3_countSpikes_24 (fun z1 L2 f3 hz4 => ?_)
              obtain ⟨hz4, rfl, rfl⟩ := hz4
              subst hz4
              change ZW G pZ la eZ (zRm 3 0 0) sZ mZ aZ bZ hZ cZ AZ 4 0 0 _ L f 27 [(0, .ref w), (1, .int (iI m2)), (2, .int (iI k)), (3, .int (iI t))] [.int (iI (bI (zspk rd k t))), .int (iI m2)]
              refine z_if_eq_b C 34 dX3_countSpikes_27 (by decide) (fun h27 => ?_) (fun h27 => ?_)
              · refine z_iconst C dX3_countSpikes_34 ?_
                refine z_iadd C dX3_countSpikes_35 ?_
                refine z_nm (fun x5 hx5 => ?_)
                refine z_istore_n (ls' := [(1, .int (iI x5)), (0, .ref w), (2, .int (iI k)), (3, .int (iI t))]) C dX3_countSpikes_36 (Nat.le_of_ble_eq_true rfl) rfl ?_
                refine z_iinc (ls' := [(3, .int (iI (t + 1))), (1, .int (iI x5)), (0, .ref w), (2, .int (iI k))]) C 3 dX3_countSpikes_37 rfl (Nat.le_of_ble_eq_true rfl) rfl ?_
                refine z_goto C 15 dX3_countSpikes_40 (by decide) ?_
                refine z_perm [2, 1, 3, 0] rfl ?_
                exact ih15 _ _  ⟨by omega, by omega, by rw [show t + 1 + 3 = t + 3 + 1 by omega, zsum_s _ (by omega)]; have e9 : znP rd k (t + 3) = bI (zspk rd k t) := (by show bI _ = _; rw [show t + 3 - 3 = t by omega]); first | (rw [bI_1 (by assumption)] at e9; omega) | (rw [bI_0 (by assumption)] at e9; omega) | (rw [bI_1 (by refine ⟨by omega, by omega⟩)] at e9; omega) | (rw [bI_0 (by intro z; omega)] at e9; omega)⟩ (by omega)
              · refine z_iconst C dX3_countSpikes_30 ?_
                refine z_goto C 35 dX3_countSpikes_31 (by decide) ?_
                refine z_iadd C dX3_countSpikes_35 ?_
                refine z_nm (fun x6 hx6 => ?_)
                refine z_istore_n (ls' := [(1, .int (iI x6)), (0, .ref w), (2, .int (iI k)), (3, .int (iI t))]) C dX3_countSpikes_36 (Nat.le_of_ble_eq_true rfl) rfl ?_
                refine z_iinc (ls' := [(3, .int (iI (t + 1))), (1, .int (iI x6)), (0, .ref w), (2, .int (iI k))]) C 3 dX3_countSpikes_37 rfl (Nat.le_of_ble_eq_true rfl) rfl ?_
                refine z_goto C 15 dX3_countSpikes_40 (by decide) ?_
                refine z_perm [2, 1, 3, 0] rfl ?_
                exact ih15 _ _  ⟨by omega, by omega, by rw [show t + 1 + 3 = t + 3 + 1 by omega, zsum_s _ (by omega)]; have e9 : znP rd k (t + 3) = bI (zspk rd k t) := (by show bI _ = _; rw [show t + 3 - 3 = t by omega]); first | (rw [bI_1 (by assumption)] at e9; omega) | (rw [bI_0 (by assumption)] at e9; omega) | (rw [bI_1 (by refine ⟨by omega, by omega⟩)] at e9; omega) | (rw [bI_0 (by intro z; omega)] at e9; omega)⟩ (by omega)
        refine z_perm [1, 2, 3, 0] rfl ?_
        exact key15 2000 _ _  ⟨by omega, by omega, by rw [hm]; exact (Int.add_zero _).symm⟩ (by omega)
  refine z_perm [2, 1, 0] rfl ?_
  exact key4 2000 _ _  ⟨by omega, by omega, rfl⟩ (by omega)
