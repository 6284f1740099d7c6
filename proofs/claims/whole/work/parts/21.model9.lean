set_option maxRecDepth 100000 in
set_option maxHeartbeats 2000000 in
theorem c_X7_writeLine {la : Launch} {G : zG} {X : (Nat → Prop) → State → Prop} (hX : zX X) {L : List Nat} {f : Nat → va_E} {o : Nat} {ad : Nat → Nat} {μ : zMu} {t : Int} {u v : Int → Int} (hM : MR G L f o ad μ t u v) (hI : MI μ) {ax : Nat → Nat × Nat} (hT : zT1 X ax) (l : Int) (hl : zR l) : zM la G X yX7_writeLine (.code yX7_writeLine cX7_writeLine 4 (some .int) :: zT) 8 0 0 [.ref o, .int (iI l)] L f zeI (fun z L' f' => L = L' ∧ ∃ t' μ' u' v', MR G L f' o ad μ' t' u' v' ∧ o_writeLine μ l = (t', if t' = 0 then z else 0, μ')) := by
  refine zM_intro hX (by decide) (Nat.le_of_ble_eq_true rfl) (fun pZ eZ sZ mZ aZ bZ hZ cZ AZ C hini => ?_)
  change ZW G pZ la eZ (zRm 8 0 0) sZ mZ aZ bZ hZ cZ AZ 4 0 0 _ L f 0 [(0, .ref o), (1, .int (iI l))] []
  have hn9 := hI.n
  have hNO : zNO = -2147483648 := rfl
  
  refine z_aload_n C 0 dX7_writeLine_0 rfl ?_
  refine z_iload_n C 1 dX7_writeLine_1 rfl ?_
  refine z_cV (As := [.int (iI l)]) C zc_X7_noLine (c_X7_noLine hX hM hI l (by omega) ) zl_7_61 (Nat.le_of_ble_eq_true rfl) (Nat.le_of_ble_eq_true rfl) (Nat.le_of_ble_eq_true rfl) (hM.1.1) (hM.1.2) rfl rfl rfl rfl (Nat.le_of_ble_eq_true rfl) dX7_writeLine_2 (fun z4 L5 f6 hz7 => ?_)
  obtain ⟨rfl, t2, hM1, he3⟩ := hz7
  change ZW G pZ la eZ (zRm 8 0 0) sZ mZ aZ bZ hZ cZ AZ 4 0 0 _ L f6 5 [(0, .ref o), (1, .int (iI l))] [.int (iI z4)]
  refine z_if_eq C 10 dX7_writeLine_5 (by decide) (by omega) (fun h5 => ?_) (fun h5 => ?_)
  · have ht0 : t2 = 0 := by omega
    subst ht0
    have hline : spLine μ l := by unfold spLine; omega
    have h12 := hI.b12 l (by omega) (by omega)
    refine z_aload_n C 0 dX7_writeLine_10 rfl ?_
    refine z_iconst C dX7_writeLine_11 ?_
    refine m_put3 C hM1 dX7_writeLine_12 (fun f8 hM9 => ?_)
    refine z_aload_n C 0 dX7_writeLine_15 rfl ?_
    have J32 : ∀ (ch : Int)   (hj32 : ch = if μ 12 l ≠ 0 then 114 else 99), ZW G pZ la eZ (zRm 8 0 0) sZ mZ aZ bZ hZ cZ AZ 4 0 0 (MQ bZ (zQ G zeI (fun z L' f' => L = L' ∧ ∃ t' μ' u' v', MR G L f' o ad μ' t' u' v' ∧ o_writeLine μ l = (t', if t' = 0 then z else 0, μ')) AZ) aZ sZ 0 0 AZ) L f8 32 [(0, .ref o), (1, .int (iI l))] [.int (iI ch), .ref o] := by
      intro ch   hj32
      have hch := hj32
      have hcr0 : ch = 114 ∨ ch = 99 := by rw [hch]; split <;> omega
      refine z_cV (As := [.int (iI ch)]) C zc_X7_sign (c_X7_signs hX hM9 ch (by omega) (by rw [show (zset μ 3 (fun _ => 0)) 3 0 = 0 from rfl]; omega)) zl_7_201 (Nat.le_of_ble_eq_true rfl) (Nat.le_of_ble_eq_true rfl) (Nat.le_of_ble_eq_true rfl) (hM9.1.1) (hM9.1.2) rfl rfl rfl rfl (Nat.le_of_ble_eq_true rfl) dX7_writeLine_32 (fun z11 L12 f13 hz14 => ?_)
      obtain ⟨rfl, hM10⟩ := hz14
      have hM10a : MR G L f13 o ad (zapp (zset μ 3 (fun _ => 0)) ([ch])) 0 u v := hM10
      change ZW G pZ la eZ (zRm 8 0 0) sZ mZ aZ bZ hZ cZ AZ 4 0 0 _ L f13 35 [(0, .ref o), (1, .int (iI l))] []
      refine z_aload_n C 0 dX7_writeLine_35 rfl ?_
      refine z_aload_n C 0 dX7_writeLine_36 rfl ?_
      refine z_getf C 13 zin_X7 (hM10a.1.1) (hM10a.1.2) rfl (Nat.le_of_ble_eq_true rfl) zl_6_111 rfl rfl dX7_writeLine_37 ?_
      refine z_iload_n C 1 dX7_writeLine_40 rfl ?_
      refine z_iald C (show zA G 0 L f13 (ad 13) 16 (μ 13) by have q := MR_a13 hM10a; exact q) (by omega) (by omega) (by omega) dX7_writeLine_41 ?_
      have hb16 := hI.J.b12 l (by omega) (by omega)
      refine z_cV (As := [.int (iI ((μ 13) l))]) C zc_X7_number (c_X7_number hX hM10a ((μ 13) l) (by omega) (by rw [zapp_30, show (zset μ 3 (fun _ => 0)) 3 0 = 0 from rfl]; simp only [List.length_append, List.length_cons, List.length_nil]; omega)) zl_7_205 (Nat.le_of_ble_eq_true rfl) (Nat.le_of_ble_eq_true rfl) (Nat.le_of_ble_eq_true rfl) (hM10a.1.1) (hM10a.1.2) rfl rfl rfl rfl (Nat.le_of_ble_eq_true rfl) dX7_writeLine_42 (fun z18 L19 f20 hz21 => ?_)
      obtain ⟨rfl, hM17⟩ := hz21
      have hM17a : MR G L f20 o ad (zapp (zset μ 3 (fun _ => 0)) ([ch] ++ zdig ((μ 13) l))) 0 u v := by have q := hM17; rw [zapp_app] at q; exact q
      have hdl23 := zdig_len (n := (μ 13) l)
      change ZW G pZ la eZ (zRm 8 0 0) sZ mZ aZ bZ hZ cZ AZ 4 0 0 _ L f20 45 [(0, .ref o), (1, .int (iI l))] []
      refine z_aload_n C 0 dX7_writeLine_45 rfl ?_
      refine z_bipush C dX7_writeLine_46 (by decide) ?_
      refine z_cV (As := [.int (iI 58)]) C zc_X7_sign (c_X7_signs hX hM17a 58 (by omega) (by rw [zapp_30, show (zset μ 3 (fun _ => 0)) 3 0 = 0 from rfl]; simp only [List.length_append, List.length_cons, List.length_nil]; omega)) zl_7_201 (Nat.le_of_ble_eq_true rfl) (Nat.le_of_ble_eq_true rfl) (Nat.le_of_ble_eq_true rfl) (hM17a.1.1) (hM17a.1.2) rfl rfl rfl rfl (Nat.le_of_ble_eq_true rfl) dX7_writeLine_48 (fun z25 L26 f27 hz28 => ?_)
      obtain ⟨rfl, hM24⟩ := hz28
      have hM24a : MR G L f27 o ad (zapp (zset μ 3 (fun _ => 0)) ([ch] ++ zdig ((μ 13) l) ++ [58])) 0 u v := by have q := hM24; rw [zapp_app] at q; exact q
      change ZW G pZ la eZ (zRm 8 0 0) sZ mZ aZ bZ hZ cZ AZ 4 0 0 _ L f27 51 [(0, .ref o), (1, .int (iI l))] []
      refine z_aload_n C 0 dX7_writeLine_51 rfl ?_
      refine z_aload_n C 0 dX7_writeLine_52 rfl ?_
      refine z_getf C 14 zin_X7 (hM24a.1.1) (hM24a.1.2) rfl (Nat.le_of_ble_eq_true rfl) zl_6_112 rfl rfl dX7_writeLine_53 ?_
      refine z_iload_n C 1 dX7_writeLine_56 rfl ?_
      refine z_iald C (show zA G 0 L f27 (ad 14) 16 (μ 14) by have q := MR_a14 hM24a; exact q) (by omega) (by omega) (by omega) dX7_writeLine_57 ?_
      have hb30 := hI.J.b12 l (by omega) (by omega)
      refine z_cV (As := [.int (iI ((μ 14) l))]) C zc_X7_number (c_X7_number hX hM24a ((μ 14) l) (by omega) (by rw [zapp_30, show (zset μ 3 (fun _ => 0)) 3 0 = 0 from rfl]; simp only [List.length_append, List.length_cons, List.length_nil]; omega)) zl_7_205 (Nat.le_of_ble_eq_true rfl) (Nat.le_of_ble_eq_true rfl) (Nat.le_of_ble_eq_true rfl) (hM24a.1.1) (hM24a.1.2) rfl rfl rfl rfl (Nat.le_of_ble_eq_true rfl) dX7_writeLine_58 (fun z32 L33 f34 hz35 => ?_)
      obtain ⟨rfl, hM31⟩ := hz35
      have hM31a : MR G L f34 o ad (zapp (zset μ 3 (fun _ => 0)) ([ch] ++ zdig ((μ 13) l) ++ [58] ++ zdig ((μ 14) l))) 0 u v := by have q := hM31; rw [zapp_app] at q; exact q
      have hdl37 := zdig_len (n := (μ 14) l)
      change ZW G pZ la eZ (zRm 8 0 0) sZ mZ aZ bZ hZ cZ AZ 4 0 0 _ L f34 61 [(0, .ref o), (1, .int (iI l))] []
      refine z_aload_n C 0 dX7_writeLine_61 rfl ?_
      refine z_bipush C dX7_writeLine_62 (by decide) ?_
      refine z_cV (As := [.int (iI 45)]) C zc_X7_sign (c_X7_signs hX hM31a 45 (by omega) (by rw [zapp_30, show (zset μ 3 (fun _ => 0)) 3 0 = 0 from rfl]; simp only [List.length_append, List.length_cons, List.length_nil]; omega)) zl_7_201 (Nat.le_of_ble_eq_true rfl) (Nat.le_of_ble_eq_true rfl) (Nat.le_of_ble_eq_true rfl) (hM31a.1.1) (hM31a.1.2) rfl rfl rfl rfl (Nat.le_of_ble_eq_true rfl) dX7_writeLine_64 (fun z39 L40 f41 hz42 => ?_)
      obtain ⟨rfl, hM38⟩ := hz42
      have hM38a : MR G L f41 o ad (zapp (zset μ 3 (fun _ => 0)) ([ch] ++ zdig ((μ 13) l) ++ [58] ++ zdig ((μ 14) l) ++ [45])) 0 u v := by have q := hM38; rw [zapp_app] at q; exact q
      change ZW G pZ la eZ (zRm 8 0 0) sZ mZ aZ bZ hZ cZ AZ 4 0 0 _ L f41 67 [(0, .ref o), (1, .int (iI l))] []
      refine z_aload_n C 0 dX7_writeLine_67 rfl ?_
      refine z_aload_n C 0 dX7_writeLine_68 rfl ?_
      refine z_getf C 15 zin_X7 (hM38a.1.1) (hM38a.1.2) rfl (Nat.le_of_ble_eq_true rfl) zl_6_113 rfl rfl dX7_writeLine_69 ?_
      refine z_iload_n C 1 dX7_writeLine_72 rfl ?_
      refine z_iald C (show zA G 0 L f41 (ad 15) 16 (μ 15) by have q := MR_a15 hM38a; exact q) (by omega) (by omega) (by omega) dX7_writeLine_73 ?_
      have hb44 := hI.J.b12 l (by omega) (by omega)
      refine z_cV (As := [.int (iI ((μ 15) l))]) C zc_X7_number (c_X7_number hX hM38a ((μ 15) l) (by omega) (by rw [zapp_30, show (zset μ 3 (fun _ => 0)) 3 0 = 0 from rfl]; simp only [List.length_append, List.length_cons, List.length_nil]; omega)) zl_7_205 (Nat.le_of_ble_eq_true rfl) (Nat.le_of_ble_eq_true rfl) (Nat.le_of_ble_eq_true rfl) (hM38a.1.1) (hM38a.1.2) rfl rfl rfl rfl (Nat.le_of_ble_eq_true rfl) dX7_writeLine_74 (fun z46 L47 f48 hz49 => ?_)
      obtain ⟨rfl, hM45⟩ := hz49
      have hM45a : MR G L f48 o ad (zapp (zset μ 3 (fun _ => 0)) ([ch] ++ zdig ((μ 13) l) ++ [58] ++ zdig ((μ 14) l) ++ [45] ++ zdig ((μ 15) l))) 0 u v := by have q := hM45; rw [zapp_app] at q; exact q
      have hdl51 := zdig_len (n := (μ 15) l)
      change ZW G pZ la eZ (zRm 8 0 0) sZ mZ aZ bZ hZ cZ AZ 4 0 0 _ L f48 77 [(0, .ref o), (1, .int (iI l))] []
      refine z_aload_n C 0 dX7_writeLine_77 rfl ?_
      refine z_bipush C dX7_writeLine_78 (by decide) ?_
      refine z_cV (As := [.int (iI 64)]) C zc_X7_sign (c_X7_signs hX hM45a 64 (by omega) (by rw [zapp_30, show (zset μ 3 (fun _ => 0)) 3 0 = 0 from rfl]; simp only [List.length_append, List.length_cons, List.length_nil]; omega)) zl_7_201 (Nat.le_of_ble_eq_true rfl) (Nat.le_of_ble_eq_true rfl) (Nat.le_of_ble_eq_true rfl) (hM45a.1.1) (hM45a.1.2) rfl rfl rfl rfl (Nat.le_of_ble_eq_true rfl) dX7_writeLine_80 (fun z53 L54 f55 hz56 => ?_)
      obtain ⟨rfl, hM52⟩ := hz56
      have hM52a : MR G L f55 o ad (zapp (zset μ 3 (fun _ => 0)) ([ch] ++ zdig ((μ 13) l) ++ [58] ++ zdig ((μ 14) l) ++ [45] ++ zdig ((μ 15) l) ++ [64])) 0 u v := by have q := hM52; rw [zapp_app] at q; exact q
      change ZW G pZ la eZ (zRm 8 0 0) sZ mZ aZ bZ hZ cZ AZ 4 0 0 _ L f55 83 [(0, .ref o), (1, .int (iI l))] []
      refine z_aload_n C 0 dX7_writeLine_83 rfl ?_
      refine z_aload_n C 0 dX7_writeLine_84 rfl ?_
      refine z_getf C 16 zin_X7 (hM52a.1.1) (hM52a.1.2) rfl (Nat.le_of_ble_eq_true rfl) zl_6_114 rfl rfl dX7_writeLine_85 ?_
      refine z_iload_n C 1 dX7_writeLine_88 rfl ?_
      refine z_iald C (show zA G 0 L f55 (ad 16) 16 (μ 16) by have q := MR_a16 hM52a; exact q) (by omega) (by omega) (by omega) dX7_writeLine_89 ?_
      have hb58 := hI.J.b12 l (by omega) (by omega)
      refine z_cV (As := [.int (iI ((μ 16) l))]) C zc_X7_number (c_X7_number hX hM52a ((μ 16) l) (by omega) (by rw [zapp_30, show (zset μ 3 (fun _ => 0)) 3 0 = 0 from rfl]; simp only [List.length_append, List.length_cons, List.length_nil]; omega)) zl_7_205 (Nat.le_of_ble_eq_true rfl) (Nat.le_of_ble_eq_true rfl) (Nat.le_of_ble_eq_true rfl) (hM52a.1.1) (hM52a.1.2) rfl rfl rfl rfl (Nat.le_of_ble_eq_true rfl) dX7_writeLine_90 (fun z60 L61 f62 hz63 => ?_)
      obtain ⟨rfl, hM59⟩ := hz63
      have hM59a : MR G L f62 o ad (zapp (zset μ 3 (fun _ => 0)) ([ch] ++ zdig ((μ 13) l) ++ [58] ++ zdig ((μ 14) l) ++ [45] ++ zdig ((μ 15) l) ++ [64] ++ zdig ((μ 16) l))) 0 u v := by have q := hM59; rw [zapp_app] at q; exact q
      have hdl65 := zdig_len (n := (μ 16) l)
      change ZW G pZ la eZ (zRm 8 0 0) sZ mZ aZ bZ hZ cZ AZ 4 0 0 _ L f62 93 [(0, .ref o), (1, .int (iI l))] []
      refine z_aload_n C 0 dX7_writeLine_93 rfl ?_
      refine z_bipush C dX7_writeLine_94 (by decide) ?_
      refine z_cV (As := [.int (iI 47)]) C zc_X7_sign (c_X7_signs hX hM59a 47 (by omega) (by rw [zapp_30, show (zset μ 3 (fun _ => 0)) 3 0 = 0 from rfl]; simp only [List.length_append, List.length_cons, List.length_nil]; omega)) zl_7_201 (Nat.le_of_ble_eq_true rfl) (Nat.le_of_ble_eq_true rfl) (Nat.le_of_ble_eq_true rfl) (hM59a.1.1) (hM59a.1.2) rfl rfl rfl rfl (Nat.le_of_ble_eq_true rfl) dX7_writeLine_96 (fun z67 L68 f69 hz70 => ?_)
      obtain ⟨rfl, hM66⟩ := hz70
      have hM66a : MR G L f69 o ad (zapp (zset μ 3 (fun _ => 0)) ([ch] ++ zdig ((μ 13) l) ++ [58] ++ zdig ((μ 14) l) ++ [45] ++ zdig ((μ 15) l) ++ [64] ++ zdig ((μ 16) l) ++ [47])) 0 u v := by have q := hM66; rw [zapp_app] at q; exact q
      change ZW G pZ la eZ (zRm 8 0 0) sZ mZ aZ bZ hZ cZ AZ 4 0 0 _ L f69 99 [(0, .ref o), (1, .int (iI l))] []
      refine z_aload_n C 0 dX7_writeLine_99 rfl ?_
      refine z_aload_n C 0 dX7_writeLine_100 rfl ?_
      refine z_getf C 17 zin_X7 (hM66a.1.1) (hM66a.1.2) rfl (Nat.le_of_ble_eq_true rfl) zl_6_115 rfl rfl dX7_writeLine_101 ?_
      refine z_iload_n C 1 dX7_writeLine_104 rfl ?_
      refine z_iald C (show zA G 0 L f69 (ad 17) 16 (μ 17) by have q := MR_a17 hM66a; exact q) (by omega) (by omega) (by omega) dX7_writeLine_105 ?_
      have hb72 := hI.J.b12 l (by omega) (by omega)
      refine z_cV (As := [.int (iI ((μ 17) l))]) C zc_X7_number (c_X7_number hX hM66a ((μ 17) l) (by omega) (by rw [zapp_30, show (zset μ 3 (fun _ => 0)) 3 0 = 0 from rfl]; simp only [List.length_append, List.length_cons, List.length_nil]; omega)) zl_7_205 (Nat.le_of_ble_eq_true rfl) (Nat.le_of_ble_eq_true rfl) (Nat.le_of_ble_eq_true rfl) (hM66a.1.1) (hM66a.1.2) rfl rfl rfl rfl (Nat.le_of_ble_eq_true rfl) dX7_writeLine_106 (fun z74 L75 f76 hz77 => ?_)
      obtain ⟨rfl, hM73⟩ := hz77
      have hM73a : MR G L f76 o ad (zapp (zset μ 3 (fun _ => 0)) ([ch] ++ zdig ((μ 13) l) ++ [58] ++ zdig ((μ 14) l) ++ [45] ++ zdig ((μ 15) l) ++ [64] ++ zdig ((μ 16) l) ++ [47] ++ zdig ((μ 17) l))) 0 u v := by have q := hM73; rw [zapp_app] at q; exact q
      have hdl79 := zdig_len (n := (μ 17) l)
      change ZW G pZ la eZ (zRm 8 0 0) sZ mZ aZ bZ hZ cZ AZ 4 0 0 _ L f76 109 [(0, .ref o), (1, .int (iI l))] []
      refine z_aload_n C 0 dX7_writeLine_109 rfl ?_
      refine z_iload_n C 1 dX7_writeLine_110 rfl ?_
      refine z_cV (As := [.int (iI l)]) C zc_X7_lostOf (c_X7_lostOf hX hM73a (MI_app (MI_30 hI) (zgood_app (zgood_app (zgood_app (zgood_app (zgood_app (zgood_app (zgood_app (zgood_app (zgood_app (zgood_1 (by omega)) (zgood_dig (by omega))) (zgood_1 (by omega))) (zgood_dig (by omega))) (zgood_1 (by omega))) (zgood_dig (by omega))) (zgood_1 (by omega))) (zgood_dig (by omega))) (zgood_1 (by omega))) (zgood_dig (by omega))) (by rw [show (zset μ 3 (fun _ => 0)) 3 0 = 0 from rfl]; simp only [List.length_append, List.length_cons, List.length_nil]; omega)) l (by omega)) zl_7_116 (Nat.le_of_ble_eq_true rfl) (Nat.le_of_ble_eq_true rfl) (Nat.le_of_ble_eq_true rfl) (hM73a.1.1) (hM73a.1.2) rfl rfl rfl rfl (Nat.le_of_ble_eq_true rfl) dX7_writeLine_111 (fun zl L80 f81 hzl => ?_)
      obtain ⟨hzl, rfl, rfl⟩ := hzl
      have hlost : zl = spLost μ l := hzl
      have hlr : 0 ≤ spLost μ l ∧ spLost μ l ≤ 7 * (spSize μ l).toNat := spLsts_rng μ l _
      have hsz := spSize_rng hI.J (l := l) (by omega)
      change ZW G pZ la eZ (zRm 8 0 0) sZ mZ aZ bZ hZ cZ AZ 4 0 0 _ L f76 114 [(0, .ref o), (1, .int (iI l))] [.int (iI zl)]
      refine z_istore_n (ls' := [(2, .int (iI zl)), (0, .ref o), (1, .int (iI l))]) C dX7_writeLine_114 (Nat.le_of_ble_eq_true rfl) rfl ?_
      refine z_aload_n C 1 dX7_writeLine_115 rfl ?_
      refine z_iload_n C 2 dX7_writeLine_116 rfl ?_
      refine z_cV (As := [.int (iI l)]) C zc_X7_soundings (c_X7_soundings hX hM73a (MI_app (MI_30 hI) (zgood_app (zgood_app (zgood_app (zgood_app (zgood_app (zgood_app (zgood_app (zgood_app (zgood_app (zgood_1 (by omega)) (zgood_dig (by omega))) (zgood_1 (by omega))) (zgood_dig (by omega))) (zgood_1 (by omega))) (zgood_dig (by omega))) (zgood_1 (by omega))) (zgood_dig (by omega))) (zgood_1 (by omega))) (zgood_dig (by omega))) (by rw [show (zset μ 3 (fun _ => 0)) 3 0 = 0 from rfl]; simp only [List.length_append, List.length_cons, List.length_nil]; omega)) l (by omega)) zl_7_209 (Nat.le_of_ble_eq_true rfl) (Nat.le_of_ble_eq_true rfl) (Nat.le_of_ble_eq_true rfl) (hM73a.1.1) (hM73a.1.2) rfl rfl rfl rfl (Nat.le_of_ble_eq_true rfl) dX7_writeLine_117 (fun zs L83 f84 hz85 => ?_)
      obtain ⟨rfl, tt, mm, uu, vv, hM82, heq⟩ := hz85
      unfold o_soundings at heq
      rw [if_pos (show spLine (zapp (zset μ 3 (fun _ => 0)) ([ch] ++ zdig ((μ 13) l) ++ [58] ++ zdig ((μ 14) l) ++ [45] ++ zdig ((μ 15) l) ++ [64] ++ zdig ((μ 16) l) ++ [47] ++ zdig ((μ 17) l))) l from hline)] at heq
      obtain ⟨e1, e2⟩ := Prod.mk.inj heq
      obtain ⟨e4, e5⟩ := Prod.mk.inj e2
      clear heq e2
      subst e1
      subst e5
      rw [if_pos rfl] at e4
      have hcnt : spCount μ l = zs := e4
      have hcr : 0 ≤ spCount μ l ∧ spCount μ l ≤ 1 * (140 : Nat) := zsum_rng (c := 1) (by decide) (fun i => bI_rng (μ 18 (140 * l + i) ≠ zNO)) 140
      change ZW G pZ la eZ (zRm 8 0 0) sZ mZ aZ bZ hZ cZ AZ 4 0 0 _ L f84 120 [(2, .int (iI zl)), (0, .ref o), (1, .int (iI l))] [.int (iI zs)]
      refine z_istore_n (ls' := [(3, .int (iI zs)), (2, .int (iI zl)), (0, .ref o), (1, .int (iI l))]) C dX7_writeLine_120 (Nat.le_of_ble_eq_true rfl) rfl ?_
      refine z_aload_n C 2 dX7_writeLine_121 rfl ?_
      refine z_iload_n C 1 dX7_writeLine_122 rfl ?_
      refine z_if_ne C 131 dX7_writeLine_123 (by decide) (by omega) (fun h123 => ?_) (fun h123 => ?_)
      · refine z_iload_n C 1 dX7_writeLine_131 rfl ?_
        refine z_iload_n C 0 dX7_writeLine_132 rfl ?_
        refine z_icmp_ne C 141 dX7_writeLine_133 (by decide) (by omega) (by omega) (fun h133 => ?_) (fun h133 => ?_)
        · refine z_ldcS C ((hT _ _ C.x).1 2 _ rfl).1 dX7_writeLine_141 ?_
          refine z_cV (As := [.ref ((ax 2).1)]) C zc_X7_word (c_X7_word hX hM82 hT (a := (ax 2).1) (b := (ax 2).2) (w := [32, 112, 97, 114, 116]) (fun A s q => ((hT A s q).1 2 _ rfl).2) (zgood_lit _ (by decide)) (by decide) (by rw [zapp_30, show (zset μ 3 (fun _ => 0)) 3 0 = 0 from rfl]; simp only [List.length_append, List.length_cons, List.length_nil]; omega) (fun _ => rfl)) zl_7_213 (Nat.le_of_ble_eq_true rfl) (Nat.le_of_ble_eq_true rfl) (Nat.le_of_ble_eq_true rfl) (hM82.1.1) (hM82.1.2) rfl rfl rfl rfl (Nat.le_of_ble_eq_true rfl) dX7_writeLine_143 (fun z87 L88 f89 hz90 => ?_)
          obtain ⟨rfl, hM86⟩ := hz90
          have hM86a : MR G L f89 o ad (zapp (zset μ 3 (fun _ => 0)) ([ch] ++ zdig ((μ 13) l) ++ [58] ++ zdig ((μ 14) l) ++ [45] ++ zdig ((μ 15) l) ++ [64] ++ zdig ((μ 16) l) ++ [47] ++ zdig ((μ 17) l) ++ [32, 112, 97, 114, 116])) 0 uu vv := by have q := hM86; rw [zapp_app] at q; exact q
          change ZW G pZ la eZ (zRm 8 0 0) sZ mZ aZ bZ hZ cZ AZ 4 0 0 _ L f89 146 [(3, .int (iI zs)), (2, .int (iI zl)), (0, .ref o), (1, .int (iI l))] []
          refine z_aload_n C 2 dX7_writeLine_146 rfl ?_
          refine z_getf C 3 zin_X7 (hM86a.1.1) (hM86a.1.2) rfl (Nat.le_of_ble_eq_true rfl) zl_6_101 rfl rfl dX7_writeLine_147 ?_
          exact z_ireturn C dX7_writeLine_150 (Nat.le_of_ble_eq_true rfl) (Nat.le_of_ble_eq_true rfl) ⟨rfl, _, _, _, _, hM86a, by unfold o_writeLine; rw [if_pos hline, show spText μ l = [ch] ++ zdig ((μ 13) l) ++ [58] ++ zdig ((μ 14) l) ++ [45] ++ zdig ((μ 15) l) ++ [64] ++ zdig ((μ 16) l) ++ [47] ++ zdig ((μ 17) l) ++ [32, 112, 97, 114, 116] by unfold spText spWord; rw [← hch]; first | (rw [if_pos (by omega)]; rfl) | (rw [if_neg (by omega), if_pos (by omega)]; rfl) | (rw [if_neg (by omega), if_neg (by omega)]; rfl)]; refine Prod.ext rfl (Prod.ext ?_ rfl); rw [if_pos rfl, zapp_30]; exact (Int.zero_add _).symm⟩
        · refine z_ldcS C ((hT _ _ C.x).1 1 _ rfl).1 dX7_writeLine_136 ?_
          refine z_goto C 143 dX7_writeLine_138 (by decide) ?_
          refine z_cV (As := [.ref ((ax 1).1)]) C zc_X7_word (c_X7_word hX hM82 hT (a := (ax 1).1) (b := (ax 1).2) (w := [32, 98, 97, 100]) (fun A s q => ((hT A s q).1 1 _ rfl).2) (zgood_lit _ (by decide)) (by decide) (by rw [zapp_30, show (zset μ 3 (fun _ => 0)) 3 0 = 0 from rfl]; simp only [List.length_append, List.length_cons, List.length_nil]; omega) (fun _ => rfl)) zl_7_213 (Nat.le_of_ble_eq_true rfl) (Nat.le_of_ble_eq_true rfl) (Nat.le_of_ble_eq_true rfl) (hM82.1.1) (hM82.1.2) rfl rfl rfl rfl (Nat.le_of_ble_eq_true rfl) dX7_writeLine_143 (fun z93 L94 f95 hz96 => ?_)
          obtain ⟨rfl, hM92⟩ := hz96
          have hM92a : MR G L f95 o ad (zapp (zset μ 3 (fun _ => 0)) ([ch] ++ zdig ((μ 13) l) ++ [58] ++ zdig ((μ 14) l) ++ [45] ++ zdig ((μ 15) l) ++ [64] ++ zdig ((μ 16) l) ++ [47] ++ zdig ((μ 17) l) ++ [32, 98, 97, 100])) 0 uu vv := by have q := hM92; rw [zapp_app] at q; exact q
          change ZW G pZ la eZ (zRm 8 0 0) sZ mZ aZ bZ hZ cZ AZ 4 0 0 _ L f95 146 [(3, .int (iI zs)), (2, .int (iI zl)), (0, .ref o), (1, .int (iI l))] []
          refine z_aload_n C 2 dX7_writeLine_146 rfl ?_
          refine z_getf C 3 zin_X7 (hM92a.1.1) (hM92a.1.2) rfl (Nat.le_of_ble_eq_true rfl) zl_6_101 rfl rfl dX7_writeLine_147 ?_
          exact z_ireturn C dX7_writeLine_150 (Nat.le_of_ble_eq_true rfl) (Nat.le_of_ble_eq_true rfl) ⟨rfl, _, _, _, _, hM92a, by unfold o_writeLine; rw [if_pos hline, show spText μ l = [ch] ++ zdig ((μ 13) l) ++ [58] ++ zdig ((μ 14) l) ++ [45] ++ zdig ((μ 15) l) ++ [64] ++ zdig ((μ 16) l) ++ [47] ++ zdig ((μ 17) l) ++ [32, 98, 97, 100] by unfold spText spWord; rw [← hch]; first | (rw [if_pos (by omega)]; rfl) | (rw [if_neg (by omega), if_pos (by omega)]; rfl) | (rw [if_neg (by omega), if_neg (by omega)]; rfl)]; refine Prod.ext rfl (Prod.ext ?_ rfl); rw [if_pos rfl, zapp_30]; exact (Int.zero_add _).symm⟩
      · refine z_ldcS C ((hT _ _ C.x).1 0 _ rfl).1 dX7_writeLine_126 ?_
        refine z_goto C 143 dX7_writeLine_128 (by decide) ?_
        refine z_cV (As := [.ref ((ax 0).1)]) C zc_X7_word (c_X7_word hX hM82 hT (a := (ax 0).1) (b := (ax 0).2) (w := [32, 103, 111, 111, 100]) (fun A s q => ((hT A s q).1 0 _ rfl).2) (zgood_lit _ (by decide)) (by decide) (by rw [zapp_30, show (zset μ 3 (fun _ => 0)) 3 0 = 0 from rfl]; simp only [List.length_append, List.length_cons, List.length_nil]; omega) (fun _ => rfl)) zl_7_213 (Nat.le_of_ble_eq_true rfl) (Nat.le_of_ble_eq_true rfl) (Nat.le_of_ble_eq_true rfl) (hM82.1.1) (hM82.1.2) rfl rfl rfl rfl (Nat.le_of_ble_eq_true rfl) dX7_writeLine_143 (fun z99 L100 f101 hz102 => ?_)
        obtain ⟨rfl, hM98⟩ := hz102
        have hM98a : MR G L f101 o ad (zapp (zset μ 3 (fun _ => 0)) ([ch] ++ zdig ((μ 13) l) ++ [58] ++ zdig ((μ 14) l) ++ [45] ++ zdig ((μ 15) l) ++ [64] ++ zdig ((μ 16) l) ++ [47] ++ zdig ((μ 17) l) ++ [32, 103, 111, 111, 100])) 0 uu vv := by have q := hM98; rw [zapp_app] at q; exact q
        change ZW G pZ la eZ (zRm 8 0 0) sZ mZ aZ bZ hZ cZ AZ 4 0 0 _ L f101 146 [(3, .int (iI zs)), (2, .int (iI zl)), (0, .ref o), (1, .int (iI l))] []
        refine z_aload_n C 2 dX7_writeLine_146 rfl ?_
        refine z_getf C 3 zin_X7 (hM98a.1.1) (hM98a.1.2) rfl (Nat.le_of_ble_eq_true rfl) zl_6_101 rfl rfl dX7_writeLine_147 ?_
        exact z_ireturn C dX7_writeLine_150 (Nat.le_of_ble_eq_true rfl) (Nat.le_of_ble_eq_true rfl) ⟨rfl, _, _, _, _, hM98a, by unfold o_writeLine; rw [if_pos hline, show spText μ l = [ch] ++ zdig ((μ 13) l) ++ [58] ++ zdig ((μ 14) l) ++ [45] ++ zdig ((μ 15) l) ++ [64] ++ zdig ((μ 16) l) ++ [47] ++ zdig ((μ 17) l) ++ [32, 103, 111, 111, 100] by unfold spText spWord; rw [← hch]; first | (rw [if_pos (by omega)]; rfl) | (rw [if_neg (by omega), if_pos (by omega)]; rfl) | (rw [if_neg (by omega), if_neg (by omega)]; rfl)]; refine Prod.ext rfl (Prod.ext ?_ rfl); rw [if_pos rfl, zapp_30]; exact (Int.zero_add _).symm⟩
    refine z_aload_n C 0 dX7_writeLine_16 rfl ?_
    refine z_getf C 12 zin_X7 (hM9.1.1) (hM9.1.2) rfl (Nat.le_of_ble_eq_true rfl) zl_6_110 rfl rfl dX7_writeLine_17 ?_
    refine z_iload_n C 1 dX7_writeLine_20 rfl ?_
    refine z_zald C (show zA G 1 L f8 (ad 12) 16 (μ 12) by have q := MR_a12 hM9; exact q) (by omega) (by omega) (by omega) dX7_writeLine_21 ?_
    have hb104 := hI.J.b12 l (by omega) (by omega)
    refine z_if_eq C 30 dX7_writeLine_22 (by decide) (by omega) (fun h22 => ?_) (fun h22 => ?_)
    · refine z_bipush C dX7_writeLine_30 (by decide) ?_
      refine z_perm [0, 1] rfl ?_
      exact J32 _  (by first | (rw [if_pos (by omega)]) | (rw [if_neg (by omega)]))
    · refine z_bipush C dX7_writeLine_25 (by decide) ?_
      refine z_goto C 32 dX7_writeLine_27 (by decide) ?_
      refine z_perm [0, 1] rfl ?_
      exact J32 _  (by first | (rw [if_pos (by omega)]) | (rw [if_neg (by omega)]))
  · refine z_iconst C dX7_writeLine_8 ?_
    exact z_ireturn C dX7_writeLine_9 (Nat.le_of_ble_eq_true rfl) (Nat.le_of_ble_eq_true rfl) ⟨rfl, _, _, _, _, hM1, by unfold o_writeLine; (rw [if_neg (by unfold spLine; omega)]) <;> (refine Prod.ext ?_ (Prod.ext ?_ ?_) <;> first | rfl | omega | (dsimp only; omega) | (dsimp only; split <;> omega))⟩
