set_option maxRecDepth 100000 in
set_option maxHeartbeats 1000000 in
theorem c_leastDepth {la : Launch} {G : zG} {X : (Nat → Prop) → State → Prop} (hX : zX X) {L : List Nat} {f : Nat → va_E} {o : Nat} {ω : Nat → Nat → Nat} {μ : zMu} {ch : Int → Int} {tx : List Int} (hR : SR G L f o ω μ ch (fun l => zrl μ l) tx) (c r : Int) (hI : MI μ) (hc : 0 ≤ c ∧ c ≤ 19) (hr : 0 ≤ r ∧ r ≤ 11) : zM la G X yX6_leastDepth (.code yX6_leastDepth cX6_leastDepth 7 (some .int) :: zT) 5 0 0 [.ref o, .int (iI c), .int (iI r)] L f zeI (zRd L f (fun z => z = cN (spLeast μ c r (μ 2 0).toNat))) := by
  refine zM_intro hX (by decide) (Nat.le_of_ble_eq_true rfl) (fun pZ eZ sZ mZ aZ bZ hZ cZ AZ C hini => ?_)
  change ZW G pZ la eZ (zRm 5 0 0) sZ mZ aZ bZ hZ cZ AZ 7 0 0 _ L f 0 [(0, .ref o), (1, .int (iI c)), (2, .int (iI r))] []
  have hNO : zNO = -2147483648 := rfl
  have hn := hI.n
  have hSK : zSK (zK μ) := MJ_SK hI.J
  have hBl : ∀ j : Nat, (j : Int) < μ 2 0 → zLB μ j := fun j hj => hI.J.b12 j (by omega) (by omega)
  refine z_ldc (n := (-1000000)) C zl_2_90 rfl dX6_leastDepth_0 ?_
  refine z_istore_n (ls' := [(3, .int (iI (-1000000))), (0, .ref o), (1, .int (iI c)), (2, .int (iI r))]) C dX6_leastDepth_2 (Nat.le_of_ble_eq_true rfl) rfl ?_
  refine z_iconst C dX6_leastDepth_3 ?_
  refine z_istore (ls' := [(4, .int (iI 0)), (3, .int (iI (-1000000))), (0, .ref o), (1, .int (iI c)), (2, .int (iI r))]) C dX6_leastDepth_4 (Nat.le_of_ble_eq_true rfl) rfl ?_
  have key6 : ∀ (n6 : Nat) (m : Int) (k : Int) , (0 ≤ k ∧ k ≤ μ 2 0 ∧ m = cN (spLeast μ c r k.toNat)) → μ 2 0 - k < (n6 : Int) → ZW G pZ la eZ (zRm 5 0 0) sZ mZ aZ bZ hZ cZ AZ 7 0 0 (MQ bZ (zQ G zeI (zRd L f (fun z => z = cN (spLeast μ c r (μ 2 0).toNat))) AZ) aZ sZ 0 0 AZ) L f 6 [(0, .ref o), (1, .int (iI c)), (2, .int (iI r)), (3, .int (iI m)), (4, .int (iI k))] [] := by
    intro n6
    induction n6 with
    | zero => intro m k  hi6 hn6; exfalso; omega
    | succ n6 ih6 =>
      intro m k  hi6 hn6
      obtain ⟨hk0, hk1, hm⟩ := hi6
      refine z_iload C 4 dX6_leastDepth_6 rfl ?_
      refine z_aload_n C 0 dX6_leastDepth_8 rfl ?_
      refine z_getf C 3 zin_X6 (hR.ob.1) (hR.ob.2) rfl (Nat.le_of_ble_eq_true rfl) zl_1_142 rfl rfl dX6_leastDepth_9 ?_
      refine z_icmp_ge C 70 dX6_leastDepth_12 (by decide) (by omega) (by omega) (fun h12 => ?_) (fun h12 => ?_)
      · refine z_iload_n C 3 dX6_leastDepth_70 rfl ?_
        exact z_ireturn C dX6_leastDepth_71 (Nat.le_of_ble_eq_true rfl) (Nat.le_of_ble_eq_true rfl) ⟨by rw [hm, show k = μ 2 0 by omega], rfl, rfl⟩
      · refine z_aload_n C 0 dX6_leastDepth_15 rfl ?_
        refine z_iload C 4 dX6_leastDepth_16 rfl ?_
        refine z_cV (As := [.int (iI k)]) C zc_X6_lineOrNull (c_lineAt hX hR k hI (by omega)) zl_1_178 (Nat.le_of_ble_eq_true rfl) (Nat.le_of_ble_eq_true rfl) (Nat.le_of_ble_eq_true rfl) (hR.ob.1) (hR.ob.2) rfl rfl rfl rfl (Nat.le_of_ble_eq_true rfl) dX6_leastDepth_18 (fun z1 L2 f3 hz4 => ?_)
        obtain ⟨hz4, rfl, rfl⟩ := hz4
        subst hz4
        have hkn : (((k).toNat : Nat) : Int) = k := Int.toNat_of_nonneg (by omega)
        change ZW G pZ la eZ (zRm 5 0 0) sZ mZ aZ bZ hZ cZ AZ 7 0 0 _ L f 21 [(0, .ref o), (1, .int (iI c)), (2, .int (iI r)), (3, .int (iI m)), (4, .int (iI k))] [.ref (ω 5 (k).toNat)]
        refine z_astore (ls' := [(5, .ref (ω 5 (k).toNat)), (0, .ref o), (1, .int (iI c)), (2, .int (iI r)), (3, .int (iI m)), (4, .int (iI k))]) C dX6_leastDepth_21 (Nat.le_of_ble_eq_true rfl) rfl ?_
        refine z_aload C 0 dX6_leastDepth_23 rfl ?_
        refine z_ifnonnullr C 33 dX6_leastDepth_25 (by decide) ?_
        refine z_aload C 0 dX6_leastDepth_33 rfl ?_
        refine z_iload_n C 2 dX6_leastDepth_35 rfl ?_
        refine z_iload_n C 3 dX6_leastDepth_36 rfl ?_
        refine z_cV (As := [.int (iI c), .int (iI r)]) C zc_X3_depthOver (c_depthOver hX (hR.ln ((k).toNat) (by omega)) c r (hBl ((k).toNat) (by omega)) (zrl_cr hI ⟨by omega, by omega⟩) (by omega) (by omega)) zl_2_91 (Nat.le_of_ble_eq_true rfl) (Nat.le_of_ble_eq_true rfl) (Nat.le_of_ble_eq_true rfl) ((hR.ln ((k).toNat) (by omega)).1.1) ((hR.ln ((k).toNat) (by omega)).1.2) rfl rfl rfl rfl (Nat.le_of_ble_eq_true rfl) dX6_leastDepth_37 (fun z5 L6 f7 hz8 => ?_)
        obtain ⟨hz8, rfl, rfl⟩ := hz8
        subst hz8
        have ezo : cN (zover μ (((k).toNat : Nat) : Int) (zrl μ (((k).toNat : Nat) : Int)) c r) = cN (zover μ k (zrl μ k) c r) := by rw [hkn]
        have hzo := cN_cs (zover_cr hI (l := k) ⟨hk0, by omega⟩ c r)
        have hls := cN_cs (spLeast_cr hI c r (n := k.toNat) (by omega))
        change ZW G pZ la eZ (zRm 5 0 0) sZ mZ aZ bZ hZ cZ AZ 7 0 0 _ L f 40 [(5, .ref (ω 5 (k).toNat)), (0, .ref o), (1, .int (iI c)), (2, .int (iI r)), (3, .int (iI m)), (4, .int (iI k))] [.int (iI (cN (zover μ (((k).toNat : Nat) : Int) (zrl μ (((k).toNat : Nat) : Int)) c r)))]
        refine z_nm (fun fd hfd => ?_)
        refine z_istore (ls' := [(6, .int (iI fd)), (5, .ref (ω 5 (k).toNat)), (0, .ref o), (1, .int (iI c)), (2, .int (iI r)), (3, .int (iI m)), (4, .int (iI k))]) C dX6_leastDepth_40 (Nat.le_of_ble_eq_true rfl) rfl ?_
        refine z_iload C 0 dX6_leastDepth_42 rfl ?_
        refine z_ldc (n := (-1000000)) C zl_2_90 rfl dX6_leastDepth_44 ?_
        refine z_icmp_eq C 64 dX6_leastDepth_46 (by decide) (by omega) (by omega) (fun h46 => ?_) (fun h46 => ?_)
        · refine z_iinc (ls' := [(4, .int (iI (k + 1))), (6, .int (iI fd)), (5, .ref (ω 5 (k).toNat)), (0, .ref o), (1, .int (iI c)), (2, .int (iI r)), (3, .int (iI m))]) C 6 dX6_leastDepth_64 rfl (Nat.le_of_ble_eq_true rfl) rfl ?_
          refine z_goto C 6 dX6_leastDepth_67 (by decide) ?_
          refine z_perm [3, 4, 5, 6, 0] rfl ?_
          exact ih6 _ _  ⟨by omega, by omega, by rw [spLeast_s μ c r hk0]; unfold zmin; split; (omega); split <;> omega⟩ (by omega)
        · refine z_iload_n C 5 dX6_leastDepth_49 rfl ?_
          refine z_ldc (n := (-1000000)) C zl_2_90 rfl dX6_leastDepth_50 ?_
          refine z_icmp_eq C 61 dX6_leastDepth_52 (by decide) (by omega) (by omega) (fun h52 => ?_) (fun h52 => ?_)
          · refine z_iload C 0 dX6_leastDepth_61 rfl ?_
            refine z_istore_n (ls' := [(3, .int (iI fd)), (6, .int (iI fd)), (5, .ref (ω 5 (k).toNat)), (0, .ref o), (1, .int (iI c)), (2, .int (iI r)), (4, .int (iI k))]) C dX6_leastDepth_63 (Nat.le_of_ble_eq_true rfl) rfl ?_
            refine z_iinc (ls' := [(4, .int (iI (k + 1))), (3, .int (iI fd)), (6, .int (iI fd)), (5, .ref (ω 5 (k).toNat)), (0, .ref o), (1, .int (iI c)), (2, .int (iI r))]) C 6 dX6_leastDepth_64 rfl (Nat.le_of_ble_eq_true rfl) rfl ?_
            refine z_goto C 6 dX6_leastDepth_67 (by decide) ?_
            refine z_perm [4, 5, 6, 1, 0] rfl ?_
            exact ih6 _ _  ⟨by omega, by omega, by rw [spLeast_s μ c r hk0]; unfold zmin; split; (omega); split <;> omega⟩ (by omega)
          · refine z_iload C 0 dX6_leastDepth_55 rfl ?_
            refine z_iload_n C 5 dX6_leastDepth_57 rfl ?_
            refine z_icmp_ge C 64 dX6_leastDepth_58 (by decide) (by omega) (by omega) (fun h58 => ?_) (fun h58 => ?_)
            · refine z_iinc (ls' := [(4, .int (iI (k + 1))), (6, .int (iI fd)), (5, .ref (ω 5 (k).toNat)), (0, .ref o), (1, .int (iI c)), (2, .int (iI r)), (3, .int (iI m))]) C 6 dX6_leastDepth_64 rfl (Nat.le_of_ble_eq_true rfl) rfl ?_
              refine z_goto C 6 dX6_leastDepth_67 (by decide) ?_
              refine z_perm [3, 4, 5, 6, 0] rfl ?_
              exact ih6 _ _  ⟨by omega, by omega, by rw [spLeast_s μ c r hk0]; unfold zmin; split; (omega); split <;> omega⟩ (by omega)
            · refine z_iload C 0 dX6_leastDepth_61 rfl ?_
              refine z_istore_n (ls' := [(3, .int (iI fd)), (6, .int (iI fd)), (5, .ref (ω 5 (k).toNat)), (0, .ref o), (1, .int (iI c)), (2, .int (iI r)), (4, .int (iI k))]) C dX6_leastDepth_63 (Nat.le_of_ble_eq_true rfl) rfl ?_
              refine z_iinc (ls' := [(4, .int (iI (k + 1))), (3, .int (iI fd)), (6, .int (iI fd)), (5, .ref (ω 5 (k).toNat)), (0, .ref o), (1, .int (iI c)), (2, .int (iI r))]) C 6 dX6_leastDepth_64 rfl (Nat.le_of_ble_eq_true rfl) rfl ?_
              refine z_goto C 6 dX6_leastDepth_67 (by decide) ?_
              refine z_perm [4, 5, 6, 1, 0] rfl ?_
              exact ih6 _ _  ⟨by omega, by omega, by rw [spLeast_s μ c r hk0]; unfold zmin; split; (omega); split <;> omega⟩ (by omega)
  refine z_perm [2, 3, 4, 1, 0] rfl ?_
  exact key6 2000 _ _  ⟨by omega, by omega, cN_no.symm⟩ (by omega)

set_option maxRecDepth 100000 in
set_option maxHeartbeats 200000 in
theorem c_misfit {la : Launch} {G : zG} {X : (Nat → Prop) → State → Prop} (hX : zX X) {L : List Nat} {f : Nat → va_E} {w : Nat} {μ : zMu} {l : Int} {r0 r1 r2 a0 a1 a2 : Nat} {s e rd : Int → Int} (hLn : zLn G L f w μ l r0 r1 r2 a0 a1 a2 s e rd) {v : Nat} {m : Int} {r3 r4 r5 a3 a4 a5 : Nat} {s2 e2 rd2 : Int → Int} (hLm : zLn G L f v μ m r3 r4 r5 a3 a4 a5 s2 e2 rd2)  (hB : zLB μ l) (hB2 : zLB μ m) (hrd : zCr rd) (hrd2 : zCr rd2) : zM la G X yX6_misfit (.code yX6_misfit cX6_misfit 3 (some .int) :: zT) 3 0 0 [.ref w, .ref v] L f zeI (zRd L f (fun z => (z = -1000000 ∧ ¬ (spX μ l m ∧ zls rd (spAt μ l (μ 13 m)) 0 ≠ zNO ∧ zls rd2 (spAt μ m (μ 13 l)) 0 ≠ zNO)) ∨ ((spX μ l m ∧ zls rd (spAt μ l (μ 13 m)) 0 ≠ zNO ∧ zls rd2 (spAt μ m (μ 13 l)) 0 ≠ zNO) ∧ 0 ≤ z ∧ (z = zls rd (spAt μ l (μ 13 m)) 0 - zls rd2 (spAt μ m (μ 13 l)) 0 ∨ z = zls rd2 (spAt μ m (μ 13 l)) 0 - zls rd (spAt μ l (μ 13 m)) 0)))) := by
  refine zM_intro hX (by decide) (Nat.le_of_ble_eq_true rfl) (fun pZ eZ sZ mZ aZ bZ hZ cZ AZ C hini => ?_)
  change ZW G pZ la eZ (zRm 3 0 0) sZ mZ aZ bZ hZ cZ AZ 3 0 0 _ L f 0 [(0, .ref w), (1, .ref v)] []
  have hNO : zNO = -2147483648 := rfl
  have hr1 := zls_cr hrd (spAt μ l (μ 13 m)) 0
  have hr2 := zls_cr hrd2 (spAt μ m (μ 13 l)) 0
  refine z_aload_n C 0 dX6_misfit_0 rfl ?_
  refine z_ifnullr C dX6_misfit_1 ?_
  refine z_aload_n C 1 dX6_misfit_4 rfl ?_
  refine z_ifnullr C dX6_misfit_5 ?_
  refine z_aload_n C 0 dX6_misfit_8 rfl ?_
  refine z_aload_n C 1 dX6_misfit_9 rfl ?_
  refine z_cV (As := [.ref v]) C zc_X3_meets (c_meets hX hLn hLm hB hB2) zl_4_204 (Nat.le_of_ble_eq_true rfl) (Nat.le_of_ble_eq_true rfl) (Nat.le_of_ble_eq_true rfl) (hLn.1.1) (hLn.1.2) rfl rfl rfl rfl (Nat.le_of_ble_eq_true rfl) dX6_misfit_10 (fun zm L1 f2 hzm => ?_)
  obtain ⟨hzm, rfl, rfl⟩ := hzm
  change ZW G pZ la eZ (zRm 3 0 0) sZ mZ aZ bZ hZ cZ AZ 3 0 0 _ L f 13 [(0, .ref w), (1, .ref v)] [.int (iI zm)]
  refine z_if_ne C 19 dX6_misfit_13 (by decide) (by omega) (fun h13 => ?_) (fun h13 => ?_)
  · refine z_aload_n C 0 dX6_misfit_19 rfl ?_
    refine z_aload_n C 1 dX6_misfit_20 rfl ?_
    refine z_cV (As := [.ref v]) C zc_X3_misfitTo (c_misfitTo hX hLn hLm hB hB2 hrd hrd2) zl_4_209 (Nat.le_of_ble_eq_true rfl) (Nat.le_of_ble_eq_true rfl) (Nat.le_of_ble_eq_true rfl) (hLn.1.1) (hLn.1.2) rfl rfl rfl rfl (Nat.le_of_ble_eq_true rfl) dX6_misfit_21 (fun zf L3 f4 hzf => ?_)
    obtain ⟨hzf, rfl, rfl⟩ := hzf
    have hzf2 : (zf = -1000000 ∧ ¬ (zls rd (spAt μ l (μ 13 m)) 0 ≠ zNO ∧ zls rd2 (spAt μ m (μ 13 l)) 0 ≠ zNO)) ∨ ((zls rd (spAt μ l (μ 13 m)) 0 ≠ zNO ∧ zls rd2 (spAt μ m (μ 13 l)) 0 ≠ zNO) ∧ zf = zls rd (spAt μ l (μ 13 m)) 0 - zls rd2 (spAt μ m (μ 13 l)) 0) := by
      by_cases q : zls rd (spAt μ l (μ 13 m)) 0 ≠ zNO ∧ zls rd2 (spAt μ m (μ 13 l)) 0 ≠ zNO
      · rw [if_pos q] at hzf; exact Or.inr ⟨q, hzf⟩
      · rw [if_neg q] at hzf; exact Or.inl ⟨hzf, q⟩
    change ZW G pZ la eZ (zRm 3 0 0) sZ mZ aZ bZ hZ cZ AZ 3 0 0 _ L f 24 [(0, .ref w), (1, .ref v)] [.int (iI zf)]
    refine z_istore_n (ls' := [(2, .int (iI zf)), (0, .ref w), (1, .ref v)]) C dX6_misfit_24 (Nat.le_of_ble_eq_true rfl) rfl ?_
    refine z_iload_n C 0 dX6_misfit_25 rfl ?_
    refine z_ldc (n := (-1000000)) C zl_2_90 rfl dX6_misfit_26 ?_
    refine z_icmp_ne C 36 dX6_misfit_28 (by decide) (by omega) (by omega) (fun h28 => ?_) (fun h28 => ?_)
    · refine z_iload_n C 0 dX6_misfit_36 rfl ?_
      refine z_mabs C zl_1_229 (Nat.le_of_ble_eq_true rfl) (Nat.le_of_ble_eq_true rfl) (Nat.le_of_ble_eq_true rfl) (by omega) (Nat.le_of_ble_eq_true rfl) dX6_misfit_37 (fun w5 hw6 => ?_)
      exact z_ireturn C dX6_misfit_40 (Nat.le_of_ble_eq_true rfl) (Nat.le_of_ble_eq_true rfl) ⟨by have hx := (hzm.resolve_left (by omega)).2; rcases hzf2 with z | z; (left; exact ⟨by omega, fun q => z.2 q.2⟩); (right; exact ⟨⟨hx, z.1⟩, by omega, by omega⟩), rfl, rfl⟩
    · refine z_ldc (n := (-1000000)) C zl_2_90 rfl dX6_misfit_31 ?_
      refine z_goto C 40 dX6_misfit_33 (by decide) ?_
      exact z_ireturn C dX6_misfit_40 (Nat.le_of_ble_eq_true rfl) (Nat.le_of_ble_eq_true rfl) ⟨by have hx := (hzm.resolve_left (by omega)).2; rcases hzf2 with z | z; (left; exact ⟨by omega, fun q => z.2 q.2⟩); (right; exact ⟨⟨hx, z.1⟩, by omega, by omega⟩), rfl, rfl⟩
  · refine z_ldc (n := (-1000000)) C zl_2_90 rfl dX6_misfit_16 ?_
    exact z_ireturn C dX6_misfit_18 (Nat.le_of_ble_eq_true rfl) (Nat.le_of_ble_eq_true rfl) ⟨Or.inl ⟨rfl, fun q => by rcases hzm with z | z; exact z.2 q.1; omega⟩, rfl, rfl⟩

set_option maxRecDepth 100000 in
set_option maxHeartbeats 1000000 in
theorem c_describeIn {la : Launch} {G : zG} {X : (Nat → Prop) → State → Prop} (hX : zX X) {L : List Nat} {f : Nat → va_E} {ax : Nat → Nat × Nat} {w : Nat} {μ : zMu} {l : Int} {r0 r1 r2 a0 a1 a2 : Nat} (hLn : zLn G L f w μ l r0 r1 r2 a0 a1 a2 (zsl μ l) (zel μ l) (zrl μ l)) {v b m : Nat} (hSb : zSb G L f v b m []) (hT : zT1 X ax) (hP : zT3 X)  (hI : MI μ) (hK : MK μ) (hl2 : 0 ≤ l ∧ l < μ 2 0) (hne : zNe3 a0 a1 a2 b) : zM la G X yX3_describeIn (.code yX3_describeIn cX3_describeIn 3 none :: zT) 6 12 408 [.ref w, .ref v] L f zeV (fun _ L' f' => ∃ b' m' : Nat, zSb G L' f' v b' m' (spText μ l) ∧ zSbP L f v b L' f' b') := by
  refine zM_intro hX (by decide) (Nat.le_of_ble_eq_true rfl) (fun pZ eZ sZ mZ aZ bZ hZ cZ AZ C hini => ?_)
  change ZW G pZ la eZ (zRm 6 12 408) sZ mZ aZ bZ hZ cZ AZ 3 0 0 _ L f 0 [(0, .ref w), (1, .ref v)] []
  have hNO : zNO = -2147483648 := rfl
  have hl : 0 ≤ l ∧ l < 16 := ⟨hl2.1, by have := hI.n; omega⟩
  have hB : zLB μ l := hI.J.b12 l hl.1 hl.2
  have hss := zsl_cr hI hl
  have hrd := zrl_cr hI hl
  have hP0 := zSbP_r L f v b
  have hd13 := zdig_len (n := μ 13 l)
  have hd14 := zdig_len (n := μ 14 l)
  have hd15 := zdig_len (n := μ 15 l)
  have hd16 := zdig_len (n := μ 16 l)
  have hd17 := zdig_len (n := μ 17 l)
  obtain ⟨lo, hlo0⟩ : ∃ x, x = spLost μ l := ⟨_, rfl⟩
  obtain ⟨co, hco0⟩ : ∃ x, x = spCount μ l := ⟨_, rfl⟩
  have hlo : zsum (fun k => zsum (znL (zsl μ l) (zrl μ l) k) 7) (spSize μ l).toNat = lo := (spLost_n hI hl).trans hlo0.symm
  have hco : zsum (fun k => zsum (znS (zsl μ l) k) 7) (spSize μ l).toNat = co := (spCount_n hI hK hl2).trans hco0.symm
  have hlr2 : 0 ≤ lo ∧ lo ≤ 7 * ((spSize μ l).toNat : Int) := by rw [hlo0]; exact spLsts_rng μ l (spSize μ l).toNat
  have hcr2 : 0 ≤ co ∧ co ≤ 1 * ((140 : Nat) : Int) := by rw [hco0]; exact zsum_rng (c := 1) (by decide) (fun i => bI_rng (μ 18 (140 * l + i) ≠ zNO)) 140
  have hwd : spWord μ l = if lo = 0 then [103, 111, 111, 100] else if lo = co then [98, 97, 100] else [112, 97, 114, 116] := by rw [hlo0, hco0]; rfl
  clear hlo0 hco0
  have hsz := spSize_rng hI.J hl
  have J15 : ∀ (y : Int)   (hj15 : y = (if μ 12 l ≠ 0 then 114 else 99) ∧ 0 ≤ y ∧ y < 128), ZW G pZ la eZ (zRm 6 12 408) sZ mZ aZ bZ hZ cZ AZ 3 0 0 (MQ bZ (zQ G zeV (fun _ L' f' => ∃ b' m' : Nat, zSb G L' f' v b' m' (spText μ l) ∧ zSbP L f v b L' f' b') AZ) aZ sZ 12 408 AZ) L f 15 [(0, .ref w), (1, .ref v)] [.int (iI y), .ref v] := by
    intro y   hj15
    obtain ⟨hyv, hy0, hy1⟩ := hj15
    obtain ⟨vsn1, hOn1⟩ := zSb_ob hSb
    refine z_cV (As := [.int (iI y)]) C zc_J4_append_cf468 (c_sb_appC hX hSb hT hP y (by omega) (by simp only [List.length_append, List.length_cons, List.length_nil]; omega)) zl_6_44 (Nat.le_of_ble_eq_true rfl) (Nat.le_of_ble_eq_true rfl) (Nat.le_of_ble_eq_true rfl) hOn1.1 hOn1.2 rfl rfl rfl rfl (Nat.le_of_ble_eq_true rfl) dX3_describeIn_15 (fun zz1 L1 f1 hz1 => ?_)
    obtain ⟨rfl, bq1, mq1, hSb1, hPp1⟩ := hz1
    obtain ⟨hLn1, hne1⟩ := zLn_P hLn hne hSb hPp1
    have hPn1 := zSbP_t hP0 hPp1
    change ZW G pZ la eZ (zRm 6 12 408) sZ mZ aZ bZ hZ cZ AZ 3 1 34 _ L1 f1 18 [(0, .ref w), (1, .ref v)] [.ref v]
    refine z_pop C dX3_describeIn_18 rfl ?_
    refine z_aload_n C 1 dX3_describeIn_19 rfl ?_
    refine z_aload_n C 0 dX3_describeIn_20 rfl ?_
    refine z_getf C 1 zin_X3 (hLn1.1.1) (hLn1.1.2) rfl (Nat.le_of_ble_eq_true rfl) zl_4_13 rfl rfl dX3_describeIn_21 ?_
    obtain ⟨vsn2, hOn2⟩ := zSb_ob hSb1
    refine z_cV (As := [.int (iI (μ 13 l))]) C zc_J4_append_bf812 (c_sb_appI hX hSb1 hT hP (μ 13 l) (by omega) (by simp only [List.length_append, List.length_cons, List.length_nil]; omega)) zl_6_66 (Nat.le_of_ble_eq_true rfl) (Nat.le_of_ble_eq_true rfl) (Nat.le_of_ble_eq_true rfl) hOn2.1 hOn2.2 rfl rfl rfl rfl (Nat.le_of_ble_eq_true rfl) dX3_describeIn_24 (fun zz2 L2 f2 hz2 => ?_)
    obtain ⟨rfl, bq2, mq2, hSb2, hPp2⟩ := hz2
    obtain ⟨hLn2, hne2⟩ := zLn_P hLn1 hne1 hSb1 hPp2
    have hPn2 := zSbP_t hPn1 hPp2
    change ZW G pZ la eZ (zRm 6 12 408) sZ mZ aZ bZ hZ cZ AZ 3 2 68 _ L2 f2 27 [(0, .ref w), (1, .ref v)] [.ref v]
    refine z_pop C dX3_describeIn_27 rfl ?_
    refine z_aload_n C 1 dX3_describeIn_28 rfl ?_
    refine z_bipush C dX3_describeIn_29 (by decide) ?_
    obtain ⟨vsn3, hOn3⟩ := zSb_ob hSb2
    refine z_cV (As := [.int (iI 58)]) C zc_J4_append_cf468 (c_sb_appC hX hSb2 hT hP 58 (by omega) (by simp only [List.length_append, List.length_cons, List.length_nil]; omega)) zl_6_44 (Nat.le_of_ble_eq_true rfl) (Nat.le_of_ble_eq_true rfl) (Nat.le_of_ble_eq_true rfl) hOn3.1 hOn3.2 rfl rfl rfl rfl (Nat.le_of_ble_eq_true rfl) dX3_describeIn_31 (fun zz3 L3 f3 hz3 => ?_)
    obtain ⟨rfl, bq3, mq3, hSb3, hPp3⟩ := hz3
    obtain ⟨hLn3, hne3⟩ := zLn_P hLn2 hne2 hSb2 hPp3
    have hPn3 := zSbP_t hPn2 hPp3
    change ZW G pZ la eZ (zRm 6 12 408) sZ mZ aZ bZ hZ cZ AZ 3 3 102 _ L3 f3 34 [(0, .ref w), (1, .ref v)] [.ref v]
    refine z_pop C dX3_describeIn_34 rfl ?_
    refine z_aload_n C 1 dX3_describeIn_35 rfl ?_
    refine z_aload_n C 0 dX3_describeIn_36 rfl ?_
    refine z_getf C 2 zin_X3 (hLn3.1.1) (hLn3.1.2) rfl (Nat.le_of_ble_eq_true rfl) zl_4_14 rfl rfl dX3_describeIn_37 ?_
    obtain ⟨vsn4, hOn4⟩ := zSb_ob hSb3
    refine z_cV (As := [.int (iI (μ 14 l))]) C zc_J4_append_bf812 (c_sb_appI hX hSb3 hT hP (μ 14 l) (by omega) (by simp only [List.length_append, List.length_cons, List.length_nil]; omega)) zl_6_66 (Nat.le_of_ble_eq_true rfl) (Nat.le_of_ble_eq_true rfl) (Nat.le_of_ble_eq_true rfl) hOn4.1 hOn4.2 rfl rfl rfl rfl (Nat.le_of_ble_eq_true rfl) dX3_describeIn_40 (fun zz4 L4 f4 hz4 => ?_)
    obtain ⟨rfl, bq4, mq4, hSb4, hPp4⟩ := hz4
    obtain ⟨hLn4, hne4⟩ := zLn_P hLn3 hne3 hSb3 hPp4
    have hPn4 := zSbP_t hPn3 hPp4
    change ZW G pZ la eZ (zRm 6 12 408) sZ mZ aZ bZ hZ cZ AZ 3 4 136 _ L4 f4 43 [(0, .ref w), (1, .ref v)] [.ref v]
    refine z_pop C dX3_describeIn_43 rfl ?_
    refine z_aload_n C 1 dX3_describeIn_44 rfl ?_
    refine z_bipush C dX3_describeIn_45 (by decide) ?_
    obtain ⟨vsn5, hOn5⟩ := zSb_ob hSb4
    refine z_cV (As := [.int (iI 45)]) C zc_J4_append_cf468 (c_sb_appC hX hSb4 hT hP 45 (by omega) (by simp only [List.length_append, List.length_cons, List.length_nil]; omega)) zl_6_44 (Nat.le_of_ble_eq_true rfl) (Nat.le_of_ble_eq_true rfl) (Nat.le_of_ble_eq_true rfl) hOn5.1 hOn5.2 rfl rfl rfl rfl (Nat.le_of_ble_eq_true rfl) dX3_describeIn_47 (fun zz5 L5 f5 hz5 => ?_)
    obtain ⟨rfl, bq5, mq5, hSb5, hPp5⟩ := hz5
    obtain ⟨hLn5, hne5⟩ := zLn_P hLn4 hne4 hSb4 hPp5
    have hPn5 := zSbP_t hPn4 hPp5
    change ZW G pZ la eZ (zRm 6 12 408) sZ mZ aZ bZ hZ cZ AZ 3 5 170 _ L5 f5 50 [(0, .ref w), (1, .ref v)] [.ref v]
    refine z_pop C dX3_describeIn_50 rfl ?_
    refine z_aload_n C 1 dX3_describeIn_51 rfl ?_
    refine z_aload_n C 0 dX3_describeIn_52 rfl ?_
    refine z_getf C 3 zin_X3 (hLn5.1.1) (hLn5.1.2) rfl (Nat.le_of_ble_eq_true rfl) zl_4_15 rfl rfl dX3_describeIn_53 ?_
    obtain ⟨vsn6, hOn6⟩ := zSb_ob hSb5
    refine z_cV (As := [.int (iI (μ 15 l))]) C zc_J4_append_bf812 (c_sb_appI hX hSb5 hT hP (μ 15 l) (by omega) (by simp only [List.length_append, List.length_cons, List.length_nil]; omega)) zl_6_66 (Nat.le_of_ble_eq_true rfl) (Nat.le_of_ble_eq_true rfl) (Nat.le_of_ble_eq_true rfl) hOn6.1 hOn6.2 rfl rfl rfl rfl (Nat.le_of_ble_eq_true rfl) dX3_describeIn_56 (fun zz6 L6 f6 hz6 => ?_)
    obtain ⟨rfl, bq6, mq6, hSb6, hPp6⟩ := hz6
    obtain ⟨hLn6, hne6⟩ := zLn_P hLn5 hne5 hSb5 hPp6
    have hPn6 := zSbP_t hPn5 hPp6
    change ZW G pZ la eZ (zRm 6 12 408) sZ mZ aZ bZ hZ cZ AZ 3 6 204 _ L6 f6 59 [(0, .ref w), (1, .ref v)] [.ref v]
    refine z_pop C dX3_describeIn_59 rfl ?_
    refine z_aload_n C 1 dX3_describeIn_60 rfl ?_
    refine z_bipush C dX3_describeIn_61 (by decide) ?_
    obtain ⟨vsn7, hOn7⟩ := zSb_ob hSb6
    refine z_cV (As := [.int (iI 64)]) C zc_J4_append_cf468 (c_sb_appC hX hSb6 hT hP 64 (by omega) (by simp only [List.length_append, List.length_cons, List.length_nil]; omega)) zl_6_44 (Nat.le_of_ble_eq_true rfl) (Nat.le_of_ble_eq_true rfl) (Nat.le_of_ble_eq_true rfl) hOn7.1 hOn7.2 rfl rfl rfl rfl (Nat.le_of_ble_eq_true rfl) dX3_describeIn_63 (fun zz7 L7 f7 hz7 => ?_)
    obtain ⟨rfl, bq7, mq7, hSb7, hPp7⟩ := hz7
    obtain ⟨hLn7, hne7⟩ := zLn_P hLn6 hne6 hSb6 hPp7
    have hPn7 := zSbP_t hPn6 hPp7
    change ZW G pZ la eZ (zRm 6 12 408) sZ mZ aZ bZ hZ cZ AZ 3 7 238 _ L7 f7 66 [(0, .ref w), (1, .ref v)] [.ref v]
    refine z_pop C dX3_describeIn_66 rfl ?_
    refine z_aload_n C 1 dX3_describeIn_67 rfl ?_
    refine z_aload_n C 0 dX3_describeIn_68 rfl ?_
    refine z_getf C 5 zin_X3 (hLn7.1.1) (hLn7.1.2) rfl (Nat.le_of_ble_eq_true rfl) zl_4_17 rfl rfl dX3_describeIn_69 ?_
    obtain ⟨vsn8, hOn8⟩ := zSb_ob hSb7
    refine z_cV (As := [.int (iI (μ 16 l))]) C zc_J4_append_bf812 (c_sb_appI hX hSb7 hT hP (μ 16 l) (by omega) (by simp only [List.length_append, List.length_cons, List.length_nil]; omega)) zl_6_66 (Nat.le_of_ble_eq_true rfl) (Nat.le_of_ble_eq_true rfl) (Nat.le_of_ble_eq_true rfl) hOn8.1 hOn8.2 rfl rfl rfl rfl (Nat.le_of_ble_eq_true rfl) dX3_describeIn_72 (fun zz8 L8 f8 hz8 => ?_)
    obtain ⟨rfl, bq8, mq8, hSb8, hPp8⟩ := hz8
    obtain ⟨hLn8, hne8⟩ := zLn_P hLn7 hne7 hSb7 hPp8
    have hPn8 := zSbP_t hPn7 hPp8
    change ZW G pZ la eZ (zRm 6 12 408) sZ mZ aZ bZ hZ cZ AZ 3 8 272 _ L8 f8 75 [(0, .ref w), (1, .ref v)] [.ref v]
    refine z_pop C dX3_describeIn_75 rfl ?_
    refine z_aload_n C 1 dX3_describeIn_76 rfl ?_
    refine z_bipush C dX3_describeIn_77 (by decide) ?_
    obtain ⟨vsn9, hOn9⟩ := zSb_ob hSb8
    refine z_cV (As := [.int (iI 47)]) C zc_J4_append_cf468 (c_sb_appC hX hSb8 hT hP 47 (by omega) (by simp only [List.length_append, List.length_cons, List.length_nil]; omega)) zl_6_44 (Nat.le_of_ble_eq_true rfl) (Nat.le_of_ble_eq_true rfl) (Nat.le_of_ble_eq_true rfl) hOn9.1 hOn9.2 rfl rfl rfl rfl (Nat.le_of_ble_eq_true rfl) dX3_describeIn_79 (fun zz9 L9 f9 hz9 => ?_)
    obtain ⟨rfl, bq9, mq9, hSb9, hPp9⟩ := hz9
    obtain ⟨hLn9, hne9⟩ := zLn_P hLn8 hne8 hSb8 hPp9
    have hPn9 := zSbP_t hPn8 hPp9
    change ZW G pZ la eZ (zRm 6 12 408) sZ mZ aZ bZ hZ cZ AZ 3 9 306 _ L9 f9 82 [(0, .ref w), (1, .ref v)] [.ref v]
    refine z_pop C dX3_describeIn_82 rfl ?_
    refine z_aload_n C 1 dX3_describeIn_83 rfl ?_
    refine z_aload_n C 0 dX3_describeIn_84 rfl ?_
    refine z_getf C 6 zin_X3 (hLn9.1.1) (hLn9.1.2) rfl (Nat.le_of_ble_eq_true rfl) zl_4_18 rfl rfl dX3_describeIn_85 ?_
    obtain ⟨vsn10, hOn10⟩ := zSb_ob hSb9
    refine z_cV (As := [.int (iI (μ 17 l))]) C zc_J4_append_bf812 (c_sb_appI hX hSb9 hT hP (μ 17 l) (by omega) (by simp only [List.length_append, List.length_cons, List.length_nil]; omega)) zl_6_66 (Nat.le_of_ble_eq_true rfl) (Nat.le_of_ble_eq_true rfl) (Nat.le_of_ble_eq_true rfl) hOn10.1 hOn10.2 rfl rfl rfl rfl (Nat.le_of_ble_eq_true rfl) dX3_describeIn_88 (fun zz10 L10 f10 hz10 => ?_)
    obtain ⟨rfl, bq10, mq10, hSb10, hPp10⟩ := hz10
    obtain ⟨hLn10, hne10⟩ := zLn_P hLn9 hne9 hSb9 hPp10
    have hPn10 := zSbP_t hPn9 hPp10
    change ZW G pZ la eZ (zRm 6 12 408) sZ mZ aZ bZ hZ cZ AZ 3 10 340 _ L10 f10 91 [(0, .ref w), (1, .ref v)] [.ref v]
    refine z_pop C dX3_describeIn_91 rfl ?_
    refine z_aload_n C 1 dX3_describeIn_92 rfl ?_
    refine z_bipush C dX3_describeIn_93 (by decide) ?_
    obtain ⟨vsn11, hOn11⟩ := zSb_ob hSb10
    refine z_cV (As := [.int (iI 32)]) C zc_J4_append_cf468 (c_sb_appC hX hSb10 hT hP 32 (by omega) (by simp only [List.length_append, List.length_cons, List.length_nil]; omega)) zl_6_44 (Nat.le_of_ble_eq_true rfl) (Nat.le_of_ble_eq_true rfl) (Nat.le_of_ble_eq_true rfl) hOn11.1 hOn11.2 rfl rfl rfl rfl (Nat.le_of_ble_eq_true rfl) dX3_describeIn_95 (fun zz11 L11 f11 hz11 => ?_)
    obtain ⟨rfl, bq11, mq11, hSb11, hPp11⟩ := hz11
    obtain ⟨hLn11, hne11⟩ := zLn_P hLn10 hne10 hSb10 hPp11
    have hPn11 := zSbP_t hPn10 hPp11
    change ZW G pZ la eZ (zRm 6 12 408) sZ mZ aZ bZ hZ cZ AZ 3 11 374 _ L11 f11 98 [(0, .ref w), (1, .ref v)] [.ref v]
    refine z_pop C dX3_describeIn_98 rfl ?_
    refine z_aload_n C 0 dX3_describeIn_99 rfl ?_
    refine z_cV (As := []) C zc_X3_countLost (c_countLost hX hLn11 hB hss hrd) zl_6_67 (Nat.le_of_ble_eq_true rfl) (Nat.le_of_ble_eq_true rfl) (Nat.le_of_ble_eq_true rfl) (hLn11.1.1) (hLn11.1.2) rfl rfl rfl rfl (Nat.le_of_ble_eq_true rfl) dX3_describeIn_100 (fun zlo L12 f13 hzlo => ?_)
    obtain ⟨hzlo, rfl, rfl⟩ := hzlo
    have hzlo2 : zlo = lo := hzlo.trans hlo
    clear hzlo hlo
    change ZW G pZ la eZ (zRm 6 12 408) sZ mZ aZ bZ hZ cZ AZ 3 11 374 _ L11 f11 103 [(0, .ref w), (1, .ref v)] [.int (iI zlo)]
    refine z_istore_n (ls' := [(2, .int (iI zlo)), (0, .ref w), (1, .ref v)]) C dX3_describeIn_103 (Nat.le_of_ble_eq_true rfl) rfl ?_
    have J129 : ∀ (zs : Nat)  (zv : Nat) (zwd : List Int) (hj129 : (∀ A S, X A S → zSt zs zv zwd A S) ∧ zgood zwd ∧ zwd.length ≤ 4 ∧ zwd = spWord μ l), ZW G pZ la eZ (zRm 6 12 408) sZ mZ aZ bZ hZ cZ AZ 3 11 374 (MQ bZ (zQ G zeV (fun _ L' f' => ∃ b' m' : Nat, zSb G L' f' v b' m' (spText μ l) ∧ zSbP L f v b L' f' b') AZ) aZ sZ 12 408 AZ) L11 f11 129 [(0, .ref w), (1, .ref v), (2, .int (iI zlo))] [.ref zs, .ref v] := by
      intro zs  zv zwd hj129
      obtain ⟨hzw, hzg, hzwl, hzwe⟩ := hj129
      obtain ⟨vsn14, hOn14⟩ := zSb_ob hSb11
      refine z_cV (As := [.ref zs]) C zc_J4_append_15ec4 (c_sb_appS hX hSb11 hzw hT hP hzg (by simp only [List.length_append, List.length_cons, List.length_nil]; have := hzwl; omega)) zl_6_72 (Nat.le_of_ble_eq_true rfl) (Nat.le_of_ble_eq_true rfl) (Nat.le_of_ble_eq_true rfl) hOn14.1 hOn14.2 rfl rfl rfl rfl (Nat.le_of_ble_eq_true rfl) dX3_describeIn_129 (fun zz14 L14 f14 hz14 => ?_)
      obtain ⟨rfl, bq14, mq14, hSb14, hPp14⟩ := hz14
      obtain ⟨hLn14, hne14⟩ := zLn_P hLn11 hne11 hSb11 hPp14
      have hPn14 := zSbP_t hPn11 hPp14
      change ZW G pZ la eZ (zRm 6 12 408) sZ mZ aZ bZ hZ cZ AZ 3 12 408 _ L14 f14 132 [(0, .ref w), (1, .ref v), (2, .int (iI zlo))] [.ref v]
      refine z_pop C dX3_describeIn_132 rfl ?_
      exact z_vreturn C dX3_describeIn_133 (Nat.le_of_ble_eq_true rfl) (Nat.le_of_ble_eq_true rfl) ⟨_, _, by rw [← spText_eq, ← hyv, ← hzwe]; exact hSb14, hPn14⟩
    refine z_aload_n C 2 dX3_describeIn_104 rfl ?_
    refine z_iload_n C 0 dX3_describeIn_105 rfl ?_
    refine z_if_ne C 114 dX3_describeIn_106 (by decide) (by omega) (fun h106 => ?_) (fun h106 => ?_)
    · refine z_iload_n C 0 dX3_describeIn_114 rfl ?_
      refine z_aload_n C 1 dX3_describeIn_115 rfl ?_
      refine z_cV (As := []) C zc_X3_countSounded (c_countSounded hX hLn11 hB hss) zl_6_69 (Nat.le_of_ble_eq_true rfl) (Nat.le_of_ble_eq_true rfl) (Nat.le_of_ble_eq_true rfl) (hLn11.1.1) (hLn11.1.2) rfl rfl rfl rfl (Nat.le_of_ble_eq_true rfl) dX3_describeIn_116 (fun zco L15 f16 hzco => ?_)
      obtain ⟨hzco, rfl, rfl⟩ := hzco
      have hzco2 : zco = co := hzco.trans hco
      clear hzco hco
      change ZW G pZ la eZ (zRm 6 12 408) sZ mZ aZ bZ hZ cZ AZ 3 11 374 _ L11 f11 119 [(2, .int (iI zlo)), (0, .ref w), (1, .ref v)] [.int (iI zco), .int (iI zlo), .ref v]
      refine z_icmp_ne C 127 dX3_describeIn_119 (by decide) (by omega) (by omega) (fun h119 => ?_) (fun h119 => ?_)
      · refine z_ldcS C ((hT _ _ C.x).1 5 _ rfl).1 dX3_describeIn_127 ?_
        refine z_perm [1, 2, 0] rfl ?_
        exact J129 _ _ _ ⟨fun A S hx => ((hT A S hx).1 5 _ rfl).2, zgood_lit _ (by decide), by decide, by rw [hwd]; rw [if_neg (by omega), if_neg (by omega)]⟩
      · refine z_ldcS C ((hT _ _ C.x).1 4 _ rfl).1 dX3_describeIn_122 ?_
        refine z_goto C 129 dX3_describeIn_124 (by decide) ?_
        refine z_perm [1, 2, 0] rfl ?_
        exact J129 _ _ _ ⟨fun A S hx => ((hT A S hx).1 4 _ rfl).2, zgood_lit _ (by decide), by decide, by rw [hwd]; rw [if_neg (by omega), if_pos (by omega)]⟩
    · refine z_ldcS C ((hT _ _ C.x).1 3 _ rfl).1 dX3_describeIn_109 ?_
      refine z_goto C 129 dX3_describeIn_111 (by decide) ?_
      refine z_perm [1, 2, 0] rfl ?_
      exact J129 _ _ _ ⟨fun A S hx => ((hT A S hx).1 3 _ rfl).2, zgood_lit _ (by decide), by decide, by rw [hwd]; rw [if_pos (by omega)]⟩
  refine z_aload_n C 1 dX3_describeIn_0 rfl ?_
  refine z_aload_n C 0 dX3_describeIn_1 rfl ?_
  refine z_getf C 0 zin_X3 (hLn.1.1) (hLn.1.2) rfl (Nat.le_of_ble_eq_true rfl) zl_4_12 rfl rfl dX3_describeIn_2 ?_
  refine z_if_eq C 13 dX3_describeIn_5 (by decide) (by omega) (fun h5 => ?_) (fun h5 => ?_)
  · refine z_bipush C dX3_describeIn_13 (by decide) ?_
    refine z_perm [0, 1] rfl ?_
    exact J15 _  (by first | (rw [if_pos (by omega)]; omega) | (rw [if_neg (by omega)]; omega))
  · refine z_bipush C dX3_describeIn_8 (by decide) ?_
    refine z_goto C 15 dX3_describeIn_10 (by decide) ?_
    refine z_perm [0, 1] rfl ?_
    exact J15 _  (by first | (rw [if_pos (by omega)]; omega) | (rw [if_neg (by omega)]; omega))
