set_option maxRecDepth 100000 in
set_option maxHeartbeats 200000 in
theorem c_X7_signs {la : Launch} {G : zG} {X : (Nat → Prop) → State → Prop} (hX : zX X) {L : List Nat} {f : Nat → va_E} {o : Nat} {ad : Nat → Nat} {μ : zMu} {t : Int} {u v : Int → Int} (hM : MR G L f o ad μ t u v) (c : Int) (hc : 0 ≤ c ∧ c < 65536) (h3 : 0 ≤ μ 3 0 ∧ μ 3 0 < 40) : zM la G X yX7_sign (.code yX7_sign cX7_sign 2 none :: zT) 0 0 0 [.ref o, .int (iI c)] L f zeV (fun z L' f' => L = L' ∧ MR G L f' o ad (zapp μ [c]) t u v) := by
  refine zM_intro hX (by decide) (Nat.le_of_ble_eq_true rfl) (fun pZ eZ sZ mZ aZ bZ hZ cZ AZ C hini => ?_)
  change ZW G pZ la eZ (zRm 0 0 0) sZ mZ aZ bZ hZ cZ AZ 2 0 0 _ L f 0 [(0, .ref o), (1, .int (iI c))] []
  have hNO : zNO = -2147483648 := rfl
  
  refine z_aload_n C 0 dX7_sign_0 rfl ?_
  refine z_getf C 20 zin_X7 (hM.1.1) (hM.1.2) rfl (Nat.le_of_ble_eq_true rfl) zl_6_118 rfl rfl dX7_sign_1 ?_
  refine z_aload_n C 0 dX7_sign_4 rfl ?_
  refine z_getf C 3 zin_X7 (hM.1.1) (hM.1.2) rfl (Nat.le_of_ble_eq_true rfl) zl_6_101 rfl rfl dX7_sign_5 ?_
  refine z_iload_n C 1 dX7_sign_8 rfl ?_
  refine z_cast C (MR_a20 hM) (by omega) (by omega) (by omega) (by omega) dX7_sign_9 (fun f1 ha2 hk3 => ?_)
  have hM4 := MR_w20 hM ha2 hk3
  refine z_aload_n C 0 dX7_sign_10 rfl ?_
  refine z_dup C dX7_sign_11 rfl ?_
  refine z_getf C 3 zin_X7 (hM4.1.1) (hM4.1.2) rfl (Nat.le_of_ble_eq_true rfl) zl_6_101 rfl rfl dX7_sign_12 ?_
  refine z_iconst C dX7_sign_15 ?_
  refine z_iadd C dX7_sign_16 ?_
  refine m_put3 C hM4 dX7_sign_17 (fun f5 hM6 => ?_)
  exact z_vreturn C dX7_sign_20 (Nat.le_of_ble_eq_true rfl) (Nat.le_of_ble_eq_true rfl) ⟨rfl, by have q := hM6; rw [← zapp_1]; exact q⟩

set_option maxRecDepth 100000 in
set_option maxHeartbeats 200000 in
theorem c_X7_number {la : Launch} {G : zG} {X : (Nat → Prop) → State → Prop} (hX : zX X) {L : List Nat} {f : Nat → va_E} {o : Nat} {ad : Nat → Nat} {μ : zMu} {t : Int} {u v : Int → Int} (hM : MR G L f o ad μ t u v) (n : Int) (hn : 0 ≤ n ∧ n ≤ 99) (h3 : 0 ≤ μ 3 0 ∧ μ 3 0 < 39) : zM la G X yX7_number (.code yX7_number cX7_number 2 none :: zT) 1 0 0 [.ref o, .int (iI n)] L f zeV (fun z L' f' => L = L' ∧ MR G L f' o ad (zapp μ (zdig n)) t u v) := by
  refine zM_intro hX (by decide) (Nat.le_of_ble_eq_true rfl) (fun pZ eZ sZ mZ aZ bZ hZ cZ AZ C hini => ?_)
  change ZW G pZ la eZ (zRm 1 0 0) sZ mZ aZ bZ hZ cZ AZ 2 0 0 _ L f 0 [(0, .ref o), (1, .int (iI n))] []
  have hNO : zNO = -2147483648 := rfl
  
  refine z_iload_n C 1 dX7_number_0 rfl ?_
  refine z_bipush C dX7_number_1 (by decide) ?_
  refine z_icmp_le C 18 dX7_number_3 (by decide) (by omega) (by omega) (fun h3 => ?_) (fun h3 => ?_)
  · refine z_aload_n C 0 dX7_number_18 rfl ?_
    refine z_bipush C dX7_number_19 (by decide) ?_
    refine z_iload_n C 1 dX7_number_21 rfl ?_
    refine z_bipush C dX7_number_22 (by decide) ?_
    refine z_iremP C dX7_number_24 (by omega) (by omega) ?_
    refine z_iadd C dX7_number_25 ?_
    refine z_i2c C dX7_number_26 (by omega) ?_
    refine z_cV (As := [.int (iI (48 + (n % 10)))]) C zc_X7_sign (c_X7_signs hX hM (48 + (n % 10)) (by omega) (by omega)) zl_7_201 (Nat.le_of_ble_eq_true rfl) (Nat.le_of_ble_eq_true rfl) (Nat.le_of_ble_eq_true rfl) (hM.1.1) (hM.1.2) rfl rfl rfl rfl (Nat.le_of_ble_eq_true rfl) dX7_number_27 (fun z2 L3 f4 hz5 => ?_)
    obtain ⟨rfl, hM1⟩ := hz5
    have hM1a : MR G L f4 o ad (zapp μ ([48 + (n % 10)])) t u v := hM1
    change ZW G pZ la eZ (zRm 1 0 0) sZ mZ aZ bZ hZ cZ AZ 2 0 0 _ L f4 30 [(0, .ref o), (1, .int (iI n))] []
    exact z_vreturn C dX7_number_30 (Nat.le_of_ble_eq_true rfl) (Nat.le_of_ble_eq_true rfl) ⟨rfl, by have q := hM1a; unfold zdig; first | (rw [if_pos (by omega), show (48 : Int) + n = 48 + n % 10 by omega]; exact q) | (rw [if_neg (by omega)]; exact q)⟩
  · refine z_aload_n C 0 dX7_number_6 rfl ?_
    refine z_bipush C dX7_number_7 (by decide) ?_
    refine z_iload_n C 1 dX7_number_9 rfl ?_
    refine z_bipush C dX7_number_10 (by decide) ?_
    refine z_idivP C dX7_number_12 (by omega) (by omega) ?_
    refine z_iadd C dX7_number_13 ?_
    refine z_i2c C dX7_number_14 (by omega) ?_
    refine z_cV (As := [.int (iI (48 + (n / 10)))]) C zc_X7_sign (c_X7_signs hX hM (48 + (n / 10)) (by omega) (by omega)) zl_7_201 (Nat.le_of_ble_eq_true rfl) (Nat.le_of_ble_eq_true rfl) (Nat.le_of_ble_eq_true rfl) (hM.1.1) (hM.1.2) rfl rfl rfl rfl (Nat.le_of_ble_eq_true rfl) dX7_number_15 (fun z8 L9 f10 hz11 => ?_)
    obtain ⟨rfl, hM7⟩ := hz11
    have hM7a : MR G L f10 o ad (zapp μ ([48 + (n / 10)])) t u v := hM7
    change ZW G pZ la eZ (zRm 1 0 0) sZ mZ aZ bZ hZ cZ AZ 2 0 0 _ L f10 18 [(0, .ref o), (1, .int (iI n))] []
    refine z_aload_n C 0 dX7_number_18 rfl ?_
    refine z_bipush C dX7_number_19 (by decide) ?_
    refine z_iload_n C 1 dX7_number_21 rfl ?_
    refine z_bipush C dX7_number_22 (by decide) ?_
    refine z_iremP C dX7_number_24 (by omega) (by omega) ?_
    refine z_iadd C dX7_number_25 ?_
    refine z_i2c C dX7_number_26 (by omega) ?_
    refine z_cV (As := [.int (iI (48 + (n % 10)))]) C zc_X7_sign (c_X7_signs hX hM7a (48 + (n % 10)) (by omega) (by rw [zapp_30]; simp only [List.length_append, List.length_cons, List.length_nil]; omega)) zl_7_201 (Nat.le_of_ble_eq_true rfl) (Nat.le_of_ble_eq_true rfl) (Nat.le_of_ble_eq_true rfl) (hM7a.1.1) (hM7a.1.2) rfl rfl rfl rfl (Nat.le_of_ble_eq_true rfl) dX7_number_27 (fun z14 L15 f16 hz17 => ?_)
    obtain ⟨rfl, hM13⟩ := hz17
    have hM13a : MR G L f16 o ad (zapp μ ([48 + (n / 10)] ++ [48 + (n % 10)])) t u v := by have q := hM13; rw [zapp_app] at q; exact q
    change ZW G pZ la eZ (zRm 1 0 0) sZ mZ aZ bZ hZ cZ AZ 2 0 0 _ L f16 30 [(0, .ref o), (1, .int (iI n))] []
    exact z_vreturn C dX7_number_30 (Nat.le_of_ble_eq_true rfl) (Nat.le_of_ble_eq_true rfl) ⟨rfl, by have q := hM13a; unfold zdig; first | (rw [if_pos (by omega), show (48 : Int) + n = 48 + n % 10 by omega]; exact q) | (rw [if_neg (by omega)]; exact q)⟩

set_option maxRecDepth 100000 in
set_option maxHeartbeats 200000 in
theorem c_X7_word {la : Launch} {G : zG} {X : (Nat → Prop) → State → Prop} (hX : zX X) {L : List Nat} {f : Nat → va_E} {o : Nat} {ad : Nat → Nat} {μ : zMu} {t : Int} {u v : Int → Int} (hM : MR G L f o ad μ t u v) {ax : Nat → Nat × Nat} {a b : Nat} {w : List Int} (hT : zT1 X ax) (hSt : ∀ A s, X A s → zSt a b w A s) (hg : zgood w) (hw : w.length < 10) (h3 : 0 ≤ μ 3 0 ∧ μ 3 0 + w.length ≤ 40) (hc3 : ∀ i, μ 3 i = μ 3 0) : zM la G X yX7_word (.code yX7_word cX7_word 3 none :: zT) 4 0 0 [.ref o, .ref a] L f zeV (fun z L' f' => L = L' ∧ MR G L f' o ad (zapp μ w) t u v) := by
  refine zM_intro hX (by decide) (Nat.le_of_ble_eq_true rfl) (fun pZ eZ sZ mZ aZ bZ hZ cZ AZ C hini => ?_)
  change ZW G pZ la eZ (zRm 4 0 0) sZ mZ aZ bZ hZ cZ AZ 3 0 0 _ L f 0 [(0, .ref o), (1, .ref a)] []
  have hNO : zNO = -2147483648 := rfl
  
  refine z_iconst C dX7_word_0 ?_
  refine z_istore_n (ls' := [(2, .int (iI 0)), (0, .ref o), (1, .ref a)]) C dX7_word_1 (Nat.le_of_ble_eq_true rfl) rfl ?_
  have key2 : ∀ (n2 : Nat) (j : Int) (f9 : Nat → va_E), (0 ≤ j ∧ j ≤ w.length ∧ MR G L f9 o ad (zapp μ (w.take j.toNat)) t u v) → (w.length : Int) - j < (n2 : Int) → ZW G pZ la eZ (zRm 4 0 0) sZ mZ aZ bZ hZ cZ AZ 3 0 0 (MQ bZ (zQ G zeV (fun z L' f' => L = L' ∧ MR G L f' o ad (zapp μ w) t u v) AZ) aZ sZ 0 0 AZ) L f9 2 [(0, .ref o), (1, .ref a), (2, .int (iI j))] [] := by
    intro n2
    induction n2 with
    | zero => intro j f9 hi2 hn2; exfalso; omega
    | succ n2 ih2 =>
      intro j f9 hi2 hn2
      obtain ⟨hj0, hj1, hM9⟩ := hi2
      refine z_iload_n C 2 dX7_word_2 rfl ?_
      refine z_aload_n C 1 dX7_word_3 rfl ?_
      refine z_cVO (As := []) C zc_J0_length_8abf5 (c_s_length hX hT hSt) zl_7_217 (Nat.le_of_ble_eq_true rfl) (Nat.le_of_ble_eq_true rfl) (Nat.le_of_ble_eq_true rfl) ((hSt _ _ C.x).1) rfl rfl (Nat.le_of_ble_eq_true rfl) dX7_word_4 (fun z1 L2 f3 hz4 => ?_)
      obtain ⟨hz4, rfl, rfl⟩ := hz4
      subst hz4
      change ZW G pZ la eZ (zRm 4 0 0) sZ mZ aZ bZ hZ cZ AZ 3 0 0 _ L f9 7 [(0, .ref o), (1, .ref a), (2, .int (iI j))] [.int (iI (w.length : Int)), .int (iI j)]
      refine z_icmp_ge C 25 dX7_word_7 (by decide) (by omega) (by omega) (fun h7 => ?_) (fun h7 => ?_)
      · exact z_vreturn C dX7_word_25 (Nat.le_of_ble_eq_true rfl) (Nat.le_of_ble_eq_true rfl) ⟨rfl, by have q := hM9; rw [ztake_n (by omega)] at q; exact q⟩
      · refine z_aload_n C 0 dX7_word_10 rfl ?_
        refine z_aload_n C 1 dX7_word_11 rfl ?_
        refine z_iload_n C 2 dX7_word_12 rfl ?_
        refine z_cVO (As := [.int (iI j)]) C zc_J0_charAt_5068e (c_s_charAt hX hT hSt j hg (by omega) (by omega)) zl_7_218 (Nat.le_of_ble_eq_true rfl) (Nat.le_of_ble_eq_true rfl) (Nat.le_of_ble_eq_true rfl) ((hSt _ _ C.x).1) rfl rfl (Nat.le_of_ble_eq_true rfl) dX7_word_13 (fun z5 L6 f7 hz8 => ?_)
        obtain ⟨hz8, rfl, rfl⟩ := hz8
        subst hz8
        have hgd := hg (j).toNat
        have htl := ztake_len (w := w) hj0 (by omega)
        change ZW G pZ la eZ (zRm 4 0 0) sZ mZ aZ bZ hZ cZ AZ 3 0 0 _ L f9 16 [(0, .ref o), (1, .ref a), (2, .int (iI j))] [.int (iI (w.getD (j).toNat 0)), .ref o]
        refine z_cV (As := [.int (iI (w.getD (j).toNat 0))]) C zc_X7_sign (c_X7_signs hX hM9 (w.getD (j).toNat 0) (by omega) (by rw [zapp_30]; omega)) zl_7_201 (Nat.le_of_ble_eq_true rfl) (Nat.le_of_ble_eq_true rfl) (Nat.le_of_ble_eq_true rfl) (hM9.1.1) (hM9.1.2) rfl rfl rfl rfl (Nat.le_of_ble_eq_true rfl) dX7_word_16 (fun z10 L11 f12 hz13 => ?_)
        obtain ⟨rfl, hM9⟩ := hz13
        have hM9a : MR G L f12 o ad (zapp μ (w.take j.toNat ++ [w.getD (j).toNat 0])) t u v := by have q := hM9; rw [zapp_app] at q; exact q
        change ZW G pZ la eZ (zRm 4 0 0) sZ mZ aZ bZ hZ cZ AZ 3 0 0 _ L f12 19 [(0, .ref o), (1, .ref a), (2, .int (iI j))] []
        refine z_iinc (ls' := [(2, .int (iI (j + 1))), (0, .ref o), (1, .ref a)]) C 2 dX7_word_19 rfl (Nat.le_of_ble_eq_true rfl) rfl ?_
        refine z_goto C 2 dX7_word_22 (by decide) ?_
        refine z_perm [1, 2, 0] rfl ?_
        exact ih2 _ _ ⟨by omega, by omega, by have q := hM9a; rw [ztake hj0 (by omega)] at q; exact q⟩ (by omega)
  refine z_perm [1, 2, 0] rfl ?_
  exact key2 2000 _ _ ⟨by omega, by omega, by rw [ztake_0, zapp_0 μ hc3]; exact hM⟩ (by omega)
