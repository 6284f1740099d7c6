set_option maxRecDepth 100000 in
set_option maxHeartbeats 1000000 in
theorem c_refresh {la : Launch} {G : zG} {X : (Nat → Prop) → State → Prop} (hX : zX X) {L : List Nat} {f : Nat → va_E} {o : Nat} {ω : Nat → Nat → Nat} {μ : zMu} {ch : Int → Int} {rd : Nat → Int → Int} {tx : List Int} (hR : SR G L f o ω μ ch rd tx)  (hI : MI μ) (hK : MK μ) (hrd : zrd0 μ rd) : zM la G X yX6_refresh (.code yX6_refresh cX6_refresh 3 none :: zT) 6 0 0 [.ref o] L f zeV (fun _ L' f' => L = L' ∧ SR G L f' o ω μ (spChart μ) (fun l => zrl μ l) tx) := by
  refine zM_intro hX (by decide) (Nat.le_of_ble_eq_true rfl) (fun pZ eZ sZ mZ aZ bZ hZ cZ AZ C hini => ?_)
  change ZW G pZ la eZ (zRm 6 0 0) sZ mZ aZ bZ hZ cZ AZ 3 0 0 _ L f 0 [(0, .ref o)] []
  have hNO : zNO = -2147483648 := rfl
  have hn := hI.n
  have hSK : zSK (zK μ) := MJ_SK hI.J
  have hBl : ∀ j : Nat, (j : Int) < μ 2 0 → zLB μ j := fun j hj => hI.J.b12 j (by omega) (by omega)
  refine z_aload_n C 0 dX6_refresh_0 rfl ?_
  refine z_getf C 4 zin_X6 (hR.ob.1) (hR.ob.2) rfl (Nat.le_of_ble_eq_true rfl) zl_1_143 rfl rfl dX6_refresh_1 ?_
  refine z_cV (As := []) C zc_X0_forget (c_forget hX hR.ct) zl_3_23 (Nat.le_of_ble_eq_true rfl) (Nat.le_of_ble_eq_true rfl) (Nat.le_of_ble_eq_true rfl) (hR.ct.1.1) (hR.ct.1.2) rfl rfl rfl rfl (Nat.le_of_ble_eq_true rfl) dX6_refresh_4 (fun z3 L4 f5 hz6 => ?_)
  obtain ⟨rfl, hfa1, hgk2⟩ := hz6
  have hR7 : SR G L f5 o ω μ zU0 rd tx := SR_wch hR hn.2.1 (zA_cong hfa1 (fun i q0 q1 => cN_no.symm)) hgk2
  change ZW G pZ la eZ (zRm 6 0 0) sZ mZ aZ bZ hZ cZ AZ 3 0 0 _ L f5 7 [(0, .ref o)] []
  refine z_iconst C dX6_refresh_7 ?_
  refine z_istore_n (ls' := [(1, .int (iI 0)), (0, .ref o)]) C dX6_refresh_8 (Nat.le_of_ble_eq_true rfl) rfl ?_
  have key9 : ∀ (n9 : Nat) (k : Int) (f9 : Nat → va_E), (0 ≤ k ∧ k ≤ μ 2 0 ∧ SR G L f9 o ω μ (spC1 μ k.toNat zU0) (rdk μ rd k) tx) → μ 2 0 - k < (n9 : Int) → ZW G pZ la eZ (zRm 6 0 0) sZ mZ aZ bZ hZ cZ AZ 3 0 0 (MQ bZ (zQ G zeV (fun _ L' f' => L = L' ∧ SR G L f' o ω μ (spChart μ) (fun l => zrl μ l) tx) AZ) aZ sZ 0 0 AZ) L f9 9 [(0, .ref o), (1, .int (iI k))] [] := by
    intro n9
    induction n9 with
    | zero => intro k f9 hi9 hn9; exfalso; omega
    | succ n9 ih9 =>
      intro k f9 hi9 hn9
      obtain ⟨hk0, hk1, hR9⟩ := hi9
      refine z_iload_n C 1 dX6_refresh_9 rfl ?_
      refine z_aload_n C 0 dX6_refresh_10 rfl ?_
      refine z_getf C 3 zin_X6 (hR9.ob.1) (hR9.ob.2) rfl (Nat.le_of_ble_eq_true rfl) zl_1_142 rfl rfl dX6_refresh_11 ?_
      refine z_icmp_ge C 53 dX6_refresh_14 (by decide) (by omega) (by omega) (fun h14 => ?_) (fun h14 => ?_)
      · exact z_vreturn C dX6_refresh_53 (Nat.le_of_ble_eq_true rfl) (Nat.le_of_ble_eq_true rfl) ⟨rfl, by have q := rdk_e (by omega) hR9; rw [show k = μ 2 0 by omega] at q; exact q⟩
      · refine z_aload_n C 0 dX6_refresh_17 rfl ?_
        refine z_iload_n C 1 dX6_refresh_18 rfl ?_
        refine z_cV (As := [.int (iI k)]) C zc_X6_lineOrNull (c_lineAt hX hR9 k hI (by omega)) zl_1_178 (Nat.le_of_ble_eq_true rfl) (Nat.le_of_ble_eq_true rfl) (Nat.le_of_ble_eq_true rfl) (hR9.ob.1) (hR9.ob.2) rfl rfl rfl rfl (Nat.le_of_ble_eq_true rfl) dX6_refresh_19 (fun z8 L9 f10 hz11 => ?_)
        obtain ⟨hz11, rfl, rfl⟩ := hz11
        subst hz11
        have hkn : (((k).toNat : Nat) : Int) = k := Int.toNat_of_nonneg (by omega)
        change ZW G pZ la eZ (zRm 6 0 0) sZ mZ aZ bZ hZ cZ AZ 3 0 0 _ L f9 22 [(0, .ref o), (1, .int (iI k))] [.ref (ω 5 (k).toNat)]
        have hlt : (((k).toNat : Nat) : Int) < μ 2 0 := by omega
        refine z_astore_n (ls' := [(2, .ref (ω 5 (k).toNat)), (0, .ref o), (1, .int (iI k))]) C dX6_refresh_22 (Nat.le_of_ble_eq_true rfl) rfl ?_
        refine z_aload_n C 0 dX6_refresh_23 rfl ?_
        refine z_ifnullr C dX6_refresh_24 ?_
        refine z_aload_n C 0 dX6_refresh_27 rfl ?_
        refine z_aload_n C 1 dX6_refresh_28 rfl ?_
        refine z_getf C 1 zin_X6 (hR9.ob.1) (hR9.ob.2) rfl (Nat.le_of_ble_eq_true rfl) zl_1_140 rfl rfl dX6_refresh_29 ?_
        refine z_aload_n C 1 dX6_refresh_32 rfl ?_
        refine z_getf C 0 zin_X6 (hR9.ob.1) (hR9.ob.2) rfl (Nat.le_of_ble_eq_true rfl) zl_1_139 rfl rfl dX6_refresh_33 ?_
        refine z_cV (As := [.ref (ω 0 1), .ref (ω 0 0)]) C zc_X3_reduceBy (c_reduceBy hX (hR9.ln (k).toNat hlt) hR9.sea hR9.gs hI ⟨by omega, by omega⟩ ⟨hR9.inj (zUs_l0 hlt) (zUs_l2 hlt) (by omega), hR9.inj (zUs_l1 hlt) (zUs_l2 hlt) (by omega)⟩ (fun i hi => hR9.inj (zUs_s (by omega)) (zUs_l2 hlt) (by omega)) (fun g hg => hR9.inj (zUs_g hg hn.2.1) (zUs_l2 hlt) (by omega)) (zrd0_k hrd hk0 (by omega))) zl_2_10 (Nat.le_of_ble_eq_true rfl) (Nat.le_of_ble_eq_true rfl) (Nat.le_of_ble_eq_true rfl) ((hR9.ln ((k).toNat) (by omega)).1.1) ((hR9.ln ((k).toNat) (by omega)).1.2) rfl rfl rfl rfl (Nat.le_of_ble_eq_true rfl) dX6_refresh_36 (fun z14 L15 f16 hz17 => ?_)
        obtain ⟨rfl, hln12, hgk13⟩ := hz17
        have hR18 := SR_wrd hR9 hn.2.1 hlt hln12 hgk13
        change ZW G pZ la eZ (zRm 6 0 0) sZ mZ aZ bZ hZ cZ AZ 3 0 0 _ L f16 39 [(2, .ref (ω 5 (k).toNat)), (0, .ref o), (1, .int (iI k))] []
        refine z_aload_n C 0 dX6_refresh_39 rfl ?_
        refine z_aload_n C 1 dX6_refresh_40 rfl ?_
        refine z_getf C 4 zin_X6 (hR18.ob.1) (hR18.ob.2) rfl (Nat.le_of_ble_eq_true rfl) zl_1_143 rfl rfl dX6_refresh_41 ?_
        refine z_cV (As := [.ref (ω 0 4)]) C zc_X3_drawOn (c_drawOn hX hln12 hR18.ct hI hK ⟨by omega, hlt⟩ ⟨hR18.inj (zUs_l0 hlt) (zUs_s (by omega)) (by omega), hR18.inj (zUs_l1 hlt) (zUs_s (by omega)) (by omega), hR18.inj (zUs_l2 hlt) (zUs_s (by omega)) (by omega)⟩ (spC1_r hI (by omega) zU0_r)) zl_3_31 (Nat.le_of_ble_eq_true rfl) (Nat.le_of_ble_eq_true rfl) (Nat.le_of_ble_eq_true rfl) ((hR18.ln ((k).toNat) (by omega)).1.1) ((hR18.ln ((k).toNat) (by omega)).1.2) rfl rfl rfl rfl (Nat.le_of_ble_eq_true rfl) dX6_refresh_44 (fun z21 L22 f23 hz24 => ?_)
        obtain ⟨rfl, hch19, hgk20⟩ := hz24
        have hR25 := SR_wch hR18 hn.2.1 hch19.2.2 hgk20
        change ZW G pZ la eZ (zRm 6 0 0) sZ mZ aZ bZ hZ cZ AZ 3 0 0 _ L f23 47 [(2, .ref (ω 5 (k).toNat)), (0, .ref o), (1, .int (iI k))] []
        refine z_iinc (ls' := [(1, .int (iI (k + 1))), (2, .ref (ω 5 (k).toNat)), (0, .ref o)]) C 2 dX6_refresh_47 rfl (Nat.le_of_ble_eq_true rfl) rfl ?_
        refine z_goto C 9 dX6_refresh_50 (by decide) ?_
        refine z_perm [2, 0] rfl ?_
        exact ih9 _ _ ⟨by omega, by omega, rdk_s hk0 (by rw [spC1_s _ hk0]; have q := hR25; rw [hkn] at q ⊢; exact q)⟩ (by omega)
  refine z_perm [1, 0] rfl ?_
  exact key9 2000 _ _ ⟨by omega, by omega, rdk_0 hR7⟩ (by omega)

set_option maxRecDepth 100000 in
set_option maxHeartbeats 1000000 in
theorem c_reduceLines {la : Launch} {G : zG} {X : (Nat → Prop) → State → Prop} (hX : zX X) {L : List Nat} {f : Nat → va_E} {o : Nat} {ω : Nat → Nat → Nat} {μ : zMu} {ch : Int → Int} {rd : Nat → Int → Int} {tx : List Int} (hR : SR G L f o ω μ ch rd tx)  (hI : MI μ) (hK : MK μ) (hrd : zrd0 μ rd) : zM la G X yX6_reduceLines (.code yX6_reduceLines cX6_reduceLines 3 none :: zT) 6 0 0 [.ref o] L f zeV (fun _ L' f' => L = L' ∧ SR G L f' o ω μ ch (fun l => zrl μ l) tx) := by
  refine zM_intro hX (by decide) (Nat.le_of_ble_eq_true rfl) (fun pZ eZ sZ mZ aZ bZ hZ cZ AZ C hini => ?_)
  change ZW G pZ la eZ (zRm 6 0 0) sZ mZ aZ bZ hZ cZ AZ 3 0 0 _ L f 0 [(0, .ref o)] []
  have hNO : zNO = -2147483648 := rfl
  have hn := hI.n
  have hSK : zSK (zK μ) := MJ_SK hI.J
  have hBl : ∀ j : Nat, (j : Int) < μ 2 0 → zLB μ j := fun j hj => hI.J.b12 j (by omega) (by omega)
  refine z_iconst C dX6_reduceLines_0 ?_
  refine z_istore_n (ls' := [(1, .int (iI 0)), (0, .ref o)]) C dX6_reduceLines_1 (Nat.le_of_ble_eq_true rfl) rfl ?_
  have key2 : ∀ (n2 : Nat) (k : Int) (f9 : Nat → va_E), (0 ≤ k ∧ k ≤ μ 2 0 ∧ SR G L f9 o ω μ ch (rdk μ rd k) tx) → μ 2 0 - k < (n2 : Int) → ZW G pZ la eZ (zRm 6 0 0) sZ mZ aZ bZ hZ cZ AZ 3 0 0 (MQ bZ (zQ G zeV (fun _ L' f' => L = L' ∧ SR G L f' o ω μ ch (fun l => zrl μ l) tx) AZ) aZ sZ 0 0 AZ) L f9 2 [(0, .ref o), (1, .int (iI k))] [] := by
    intro n2
    induction n2 with
    | zero => intro k f9 hi2 hn2; exfalso; omega
    | succ n2 ih2 =>
      intro k f9 hi2 hn2
      obtain ⟨hk0, hk1, hR9⟩ := hi2
      refine z_iload_n C 1 dX6_reduceLines_2 rfl ?_
      refine z_aload_n C 0 dX6_reduceLines_3 rfl ?_
      refine z_getf C 3 zin_X6 (hR9.ob.1) (hR9.ob.2) rfl (Nat.le_of_ble_eq_true rfl) zl_1_142 rfl rfl dX6_reduceLines_4 ?_
      refine z_icmp_ge C 38 dX6_reduceLines_7 (by decide) (by omega) (by omega) (fun h7 => ?_) (fun h7 => ?_)
      · exact z_vreturn C dX6_reduceLines_38 (Nat.le_of_ble_eq_true rfl) (Nat.le_of_ble_eq_true rfl) ⟨rfl, rdk_e (by omega) hR9⟩
      · refine z_aload_n C 0 dX6_reduceLines_10 rfl ?_
        refine z_iload_n C 1 dX6_reduceLines_11 rfl ?_
        refine z_cV (As := [.int (iI k)]) C zc_X6_lineOrNull (c_lineAt hX hR9 k hI (by omega)) zl_1_178 (Nat.le_of_ble_eq_true rfl) (Nat.le_of_ble_eq_true rfl) (Nat.le_of_ble_eq_true rfl) (hR9.ob.1) (hR9.ob.2) rfl rfl rfl rfl (Nat.le_of_ble_eq_true rfl) dX6_reduceLines_12 (fun z1 L2 f3 hz4 => ?_)
        obtain ⟨hz4, rfl, rfl⟩ := hz4
        subst hz4
        have hkn : (((k).toNat : Nat) : Int) = k := Int.toNat_of_nonneg (by omega)
        change ZW G pZ la eZ (zRm 6 0 0) sZ mZ aZ bZ hZ cZ AZ 3 0 0 _ L f9 15 [(0, .ref o), (1, .int (iI k))] [.ref (ω 5 (k).toNat)]
        have hlt : (((k).toNat : Nat) : Int) < μ 2 0 := by omega
        refine z_astore_n (ls' := [(2, .ref (ω 5 (k).toNat)), (0, .ref o), (1, .int (iI k))]) C dX6_reduceLines_15 (Nat.le_of_ble_eq_true rfl) rfl ?_
        refine z_aload_n C 0 dX6_reduceLines_16 rfl ?_
        refine z_ifnullr C dX6_reduceLines_17 ?_
        refine z_aload_n C 0 dX6_reduceLines_20 rfl ?_
        refine z_aload_n C 1 dX6_reduceLines_21 rfl ?_
        refine z_getf C 1 zin_X6 (hR9.ob.1) (hR9.ob.2) rfl (Nat.le_of_ble_eq_true rfl) zl_1_140 rfl rfl dX6_reduceLines_22 ?_
        refine z_aload_n C 1 dX6_reduceLines_25 rfl ?_
        refine z_getf C 0 zin_X6 (hR9.ob.1) (hR9.ob.2) rfl (Nat.le_of_ble_eq_true rfl) zl_1_139 rfl rfl dX6_reduceLines_26 ?_
        refine z_cV (As := [.ref (ω 0 1), .ref (ω 0 0)]) C zc_X3_reduceBy (c_reduceBy hX (hR9.ln (k).toNat hlt) hR9.sea hR9.gs hI ⟨by omega, by omega⟩ ⟨hR9.inj (zUs_l0 hlt) (zUs_l2 hlt) (by omega), hR9.inj (zUs_l1 hlt) (zUs_l2 hlt) (by omega)⟩ (fun i hi => hR9.inj (zUs_s (by omega)) (zUs_l2 hlt) (by omega)) (fun g hg => hR9.inj (zUs_g hg hn.2.1) (zUs_l2 hlt) (by omega)) (zrd0_k hrd hk0 (by omega))) zl_2_10 (Nat.le_of_ble_eq_true rfl) (Nat.le_of_ble_eq_true rfl) (Nat.le_of_ble_eq_true rfl) ((hR9.ln ((k).toNat) (by omega)).1.1) ((hR9.ln ((k).toNat) (by omega)).1.2) rfl rfl rfl rfl (Nat.le_of_ble_eq_true rfl) dX6_reduceLines_29 (fun z7 L8 f9 hz10 => ?_)
        obtain ⟨rfl, hln5, hgk6⟩ := hz10
        have hR11 := SR_wrd hR9 hn.2.1 hlt hln5 hgk6
        change ZW G pZ la eZ (zRm 6 0 0) sZ mZ aZ bZ hZ cZ AZ 3 0 0 _ L f9 32 [(2, .ref (ω 5 (k).toNat)), (0, .ref o), (1, .int (iI k))] []
        refine z_iinc (ls' := [(1, .int (iI (k + 1))), (2, .ref (ω 5 (k).toNat)), (0, .ref o)]) C 2 dX6_reduceLines_32 rfl (Nat.le_of_ble_eq_true rfl) rfl ?_
        refine z_goto C 2 dX6_reduceLines_35 (by decide) ?_
        refine z_perm [2, 0] rfl ?_
        exact ih2 _ _ ⟨by omega, by omega, rdk_s hk0 hR11⟩ (by omega)
  refine z_perm [1, 0] rfl ?_
  exact key2 2000 _ _ ⟨by omega, by omega, rdk_0 hR⟩ (by omega)
