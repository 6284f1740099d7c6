set_option maxRecDepth 100000 in
theorem c_X7_isIn {l : Launch} {G : zG} {X : (Nat → Prop) → State → Prop} (hX : zX X) {L : List Nat} {f : Nat → va_E} (x lo hi : Int) (hx : zR x) (hl : zR lo) (hh : zR hi) : zM l G X yX7_isIn (.code yX7_isIn cX7_isIn 3 (some .boolean) :: zT) 0 0 0 [.int (iI x), .int (iI lo), .int (iI hi)] L f zeI (zRd L f (fun z => z = bI (lo ≤ x ∧ x ≤ hi))) := by
  refine zM_intro hX (by decide) (Nat.le_of_ble_eq_true rfl) (fun p e s m args below meth c A C hini => ?_)
  change ZW G p l e (zRm 0 0 0) s m args below meth c A 3 0 0 _ L f 0 [(0, .int (iI x)), (1, .int (iI lo)), (2, .int (iI hi))] []
  refine z_iload_n C 0 dX7_isIn_0 rfl ?_
  refine z_iload_n C 1 dX7_isIn_1 rfl ?_
  refine z_icmp_lt C 14 dX7_isIn_2 (by decide) (by omega) (by omega) (fun h2 => ?_) (fun h2 => ?_)
  · refine z_iconst C dX7_isIn_14 ?_
    exact z_zreturn C (by first | omega | (unfold bI; split <;> omega)) dX7_isIn_15 (Nat.le_of_ble_eq_true rfl) (Nat.le_of_ble_eq_true rfl) ⟨by unfold bI; split <;> omega, rfl, rfl⟩
  · refine z_iload_n C 0 dX7_isIn_5 rfl ?_
    refine z_iload_n C 2 dX7_isIn_6 rfl ?_
    refine z_icmp_gt C 14 dX7_isIn_7 (by decide) (by omega) (by omega) (fun h7 => ?_) (fun h7 => ?_)
    · refine z_iconst C dX7_isIn_14 ?_
      exact z_zreturn C (by first | omega | (unfold bI; split <;> omega)) dX7_isIn_15 (Nat.le_of_ble_eq_true rfl) (Nat.le_of_ble_eq_true rfl) ⟨by unfold bI; split <;> omega, rfl, rfl⟩
    · refine z_iconst C dX7_isIn_10 ?_
      refine z_goto C 15 dX7_isIn_11 (by decide) ?_
      exact z_zreturn C (by first | omega | (unfold bI; split <;> omega)) dX7_isIn_15 (Nat.le_of_ble_eq_true rfl) (Nat.le_of_ble_eq_true rfl) ⟨by unfold bI; split <;> omega, rfl, rfl⟩

set_option maxRecDepth 100000 in
theorem c_X4_read {l : Launch} {G : zG} {X : (Nat → Prop) → State → Prop} (hX : zX X) {L : List Nat} {f : Nat → va_E} {r a n : Nat} {b : Int} {σ : Int → Int} (i : Int) (hr : r ∈ L) (hf : f r = .inr (8, [.ref a, .int (iI b)])) (ha : zA G 0 L f a n σ) (hn : n < 2147483648) (hi : zR i) : zM l G X yX4_read (.code yX4_read cX4_read 2 (some .int) :: zT) 0 0 0 [.ref r, .int (iI i)] L f zeI (zRd L f (fun z => z = if 0 ≤ i ∧ i < n then σ i else b)) := by
  refine zM_intro hX (by decide) (Nat.le_of_ble_eq_true rfl) (fun p e s m args below meth c A C hini => ?_)
  change ZW G p l e (zRm 0 0 0) s m args below meth c A 2 0 0 _ L f 0 [(0, .ref r), (1, .int (iI i))] []
  have J26 : ∀ (w : Int)   (hj26 : w = if 0 ≤ i ∧ i < n then σ i else b), ZW G p l e (zRm 0 0 0) s m args below meth c A 2 0 0 (MQ below (zQ G zeI (zRd L f (fun z => z = if 0 ≤ i ∧ i < n then σ i else b)) A) args s 0 0 A) L f 26 [(0, .ref r), (1, .int (iI i))] [.int (iI w)] := by
    intro w   hj26
    exact z_ireturn C dX4_read_26 (Nat.le_of_ble_eq_true rfl) (Nat.le_of_ble_eq_true rfl) ⟨hj26, rfl, rfl⟩
  refine z_iload_n C 1 dX4_read_0 rfl ?_
  refine z_if_lt C 22 dX4_read_1 (by decide) (by omega) (fun h1 => ?_) (fun h1 => ?_)
  · refine z_aload_n C 0 dX4_read_22 rfl ?_
    refine z_getf C 1 zin_X4 (hr) (hf) rfl (Nat.le_of_ble_eq_true rfl) zl_1_56 rfl rfl dX4_read_23 ?_
    refine z_perm [0, 1] rfl ?_
    exact J26 _  (by first | rw [if_pos (by omega)] | rw [if_neg (by omega)])
  · refine z_iload_n C 1 dX4_read_4 rfl ?_
    refine z_aload_n C 0 dX4_read_5 rfl ?_
    refine z_getf C 0 zin_X4 (hr) (hf) rfl (Nat.le_of_ble_eq_true rfl) zl_1_55 rfl rfl dX4_read_6 ?_
    refine z_alen C (ha) rfl dX4_read_9 ?_
    refine z_icmp_ge C 22 dX4_read_10 (by decide) (by omega) (by omega) (fun h10 => ?_) (fun h10 => ?_)
    · refine z_aload_n C 0 dX4_read_22 rfl ?_
      refine z_getf C 1 zin_X4 (hr) (hf) rfl (Nat.le_of_ble_eq_true rfl) zl_1_56 rfl rfl dX4_read_23 ?_
      refine z_perm [0, 1] rfl ?_
      exact J26 _  (by first | rw [if_pos (by omega)] | rw [if_neg (by omega)])
    · refine z_aload_n C 0 dX4_read_13 rfl ?_
      refine z_getf C 0 zin_X4 (hr) (hf) rfl (Nat.le_of_ble_eq_true rfl) zl_1_55 rfl rfl dX4_read_14 ?_
      refine z_iload_n C 1 dX4_read_17 rfl ?_
      refine z_iald C (ha) (by omega) (by omega) (by omega) dX4_read_18 ?_
      refine z_goto C 26 dX4_read_19 (by decide) ?_
      refine z_perm [0, 1] rfl ?_
      exact J26 _  (by first | rw [if_pos (by omega)] | rw [if_neg (by omega)])
