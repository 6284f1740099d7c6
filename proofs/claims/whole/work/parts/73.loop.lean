/-! ===== the law's loop ===== -/
def ztw : List Int := [159, 239, 319, 387, 467, 535, 591, 683, 751, 831, 911, 1031, 1111, 1203, 1259, 1339, 1419, 1506, 1562, 1618, 1686, 1754, 1767, 1823, 1867, 1880, 1936, 1949, 2017, 2061, 2117, 2131, 2174, 2239, 2295, 2351]
theorem ztw_ok : ∀ j : Fin 36, (#[159, 239, 319, 387, 467, 535, 591, 683, 751, 831, 911, 1031, 1111, 1203, 1259, 1339, 1419, 1506, 1562, 1618, 1686, 1754, 1767, 1823, 1867, 1880, 1936, 1949, 2017, 2061, 2117, 2131, 2174, 2239, 2295, 2351] : Array Int)[j.val]? = some (ztw.getD j.val 0) ∧ (45 : Int) + ztw.getD j.val 0 = (((45 + ztw.getD j.val 0).toNat : Nat) : Int) := by decide
set_option maxRecDepth 100000 in
set_option maxHeartbeats 1000000 in
theorem law_loop {p : Program} {la : Launch} {e : Env} {s : State} {m : MethodId} {args : Array Value} {below : List Frame} {meth : Method} {c : Code} {A : Nat → Prop} {Q : State → Prop} {G : zG} {X : (Nat → Prop) → State → Prop} (C : ZC G X p la s m args meth c A 10 ret cL_law "SwathSurveyLaw") (hX : zX X) (h4 : zT4 X) (hfl : la.stackTraces = false) (h5 : zT5 X) {ax : Nat → Nat × Nat} (hT : zT1 X ax) (hO : zT2 X) (hP : zT3 X) {b N : Nat} {xs : Nat → Int32} (hS : va_X b N xs s s.heap) (hbl : b < s.heap.size) (hbA : ¬ A b) (hN : N ≤ 3584)  {oc om aL aD : Nat} (KE : ∀ (L2 : List Nat) (f2 : Nat → va_E) (i : Int) (c2 s2 : Nat), c2 ≤ 603072 → s2 ≤ 7215210 → ZW G p la e room_1 s m args below meth c A 10 c2 s2 Q L2 f2 2415 (zLb i b oc om aL aD) []) : ∀ (n : Nat) (i : Int) (c9 s9 : Nat) (L : List Nat) (f : Nat → va_E) (μ : zMu), 0 ≤ i → i ≤ 1000000 → (N : Int) ≤ i + 7 * n + 6 → c9 + 40 * n ≤ 603072 → s9 + 1000 * n ≤ 7215210 → zLW G L f oc om aL aD μ → ZW G p la e room_1 s m args below meth c A 10 c9 s9 Q L f 28 (zLb i b oc om aL aD) [] := by
  intro n
  induction n with
  | zero =>
    intro i c9 s9 L f μ hi0 hi9 hi1 hc9 hs9 hW
    refine z_iload (k := 5) C 0 dL_law_28 rfl ?_
    refine z_aload_n (k := 0) C 1 dL_law_30 rfl ?_
    refine z_slen C hS hbl hbA dL_law_31 ?_
    refine z_bipush C dL_law_32 (by decide) ?_
    refine z_isub C dL_law_34 ?_
    refine z_icmp_gt C 2415 dL_law_35 (by decide) (by omega) (by omega) (fun _ => KE L f i c9 s9 (by omega) (by omega)) (fun h => ?_)
    omega
  | succ n ih =>
    intro i c9 s9 L f μ hi0 hi9 hi1 hc9 hs9 hW
    refine z_iload (k := 5) C 0 dL_law_28 rfl ?_
    refine z_aload_n (k := 0) C 1 dL_law_30 rfl ?_
    refine z_slen C hS hbl hbA dL_law_31 ?_
    refine z_bipush C dL_law_32 (by decide) ?_
    refine z_isub C dL_law_34 ?_
    refine z_icmp_gt C 2415 dL_law_35 (by decide) (by omega) (by omega) (fun _ => KE L f i c9 s9 (by omega) (by omega)) (fun h => ?_)
    have hi7 : i + 7 ≤ N := by omega
    have hB : ∀ (L2 : List Nat) (f2 : Nat → va_E) (μ2 : zMu) (c2 s2 : Nat), c2 ≤ c9 + 40 → s2 ≤ s9 + 1000 → zLW G L2 f2 oc om aL aD μ2 → ZW G p la e room_1 s m args below meth c A 10 c2 s2 Q L2 f2 2409 (zLb i b oc om aL aD) [] := by
      intro L2 f2 μ2 c2 s2 h1 h2 hW2
      refine z_iinc (ls' := zLb (i + 7) b oc om aL aD) C 0 dL_law_2409 rfl (by decide) rfl ?_
      refine z_goto C 28 dL_law_2412 (by decide) ?_
      exact ih (i + 7) c2 s2 L2 f2 μ2 (by omega) (by omega) (by omega) (by omega) (by omega) hW2
    refine z_aload_n (k := 0) C 1 dL_law_38 rfl ?_
    refine z_iload (k := 5) C 0 dL_law_39 rfl ?_
    refine z_sld C hS hbl hbA (by omega) (by omega) (by omega) dL_law_41 ?_
    refine z_bipush C dL_law_42 (by decide) ?_
    refine z_iandR C dL_law_44 (fun w hw => ?_)
    refine z_tsw C (tout := 2409) hw dL_law_45 (by decide) (hB L f μ c9 s9 (by omega) (by omega) hW) (fun off tgt h0 h1 ho ht => ?_) (fun k h0 h1 => ?_)
    · have hk : (w - 0).toNat < 36 := by omega
      generalize (w - 0).toNat = k at ho hk
      match k, hk with
      | 0, _ =>
        have e : (159 : Int) = off := Option.some.inj ho
        obtain rfl : tgt = 204 := by omega
        exact law_0 C hX h4 hfl h5 hT hO hP hS hbl hbA hN hi0 hi7 (by omega) (by omega) hW hB
      | 1, _ =>
        have e : (239 : Int) = off := Option.some.inj ho
        obtain rfl : tgt = 284 := by omega
        exact law_1 C hX h4 hfl h5 hT hO hP hS hbl hbA hN hi0 hi7 (by omega) (by omega) hW hB
      | 2, _ =>
        have e : (319 : Int) = off := Option.some.inj ho
        obtain rfl : tgt = 364 := by omega
        exact law_2 C hX h4 hfl h5 hT hO hP hS hbl hbA hN hi0 hi7 (by omega) (by omega) hW hB
      | 3, _ =>
        have e : (387 : Int) = off := Option.some.inj ho
        obtain rfl : tgt = 432 := by omega
        exact law_3 C hX h4 hfl h5 hT hO hP hS hbl hbA hN hi0 hi7 (by omega) (by omega) hW hB
      | 4, _ =>
        have e : (467 : Int) = off := Option.some.inj ho
        obtain rfl : tgt = 512 := by omega
        exact law_4 C hX h4 hfl h5 hT hO hP hS hbl hbA hN hi0 hi7 (by omega) (by omega) hW hB
      | 5, _ =>
        have e : (535 : Int) = off := Option.some.inj ho
        obtain rfl : tgt = 580 := by omega
        exact law_5 C hX h4 hfl h5 hT hO hP hS hbl hbA hN hi0 hi7 (by omega) (by omega) hW hB
      | 6, _ =>
        have e : (591 : Int) = off := Option.some.inj ho
        obtain rfl : tgt = 636 := by omega
        exact law_6 C hX h4 hfl h5 hT hO hP hS hbl hbA hN hi0 hi7 (by omega) (by omega) hW hB
      | 7, _ =>
        have e : (683 : Int) = off := Option.some.inj ho
        obtain rfl : tgt = 728 := by omega
        exact law_7 C hX h4 hfl h5 hT hO hP hS hbl hbA hN hi0 hi7 (by omega) (by omega) hW hB
      | 8, _ =>
        have e : (751 : Int) = off := Option.some.inj ho
        obtain rfl : tgt = 796 := by omega
        exact law_8 C hX h4 hfl h5 hT hO hP hS hbl hbA hN hi0 hi7 (by omega) (by omega) hW hB
      | 9, _ =>
        have e : (831 : Int) = off := Option.some.inj ho
        obtain rfl : tgt = 876 := by omega
        exact law_9 C hX h4 hfl h5 hT hO hP hS hbl hbA hN hi0 hi7 (by omega) (by omega) hW hB
      | 10, _ =>
        have e : (911 : Int) = off := Option.some.inj ho
        obtain rfl : tgt = 956 := by omega
        exact law_10 C hX h4 hfl h5 hT hO hP hS hbl hbA hN hi0 hi7 (by omega) (by omega) hW hB
      | 11, _ =>
        have e : (1031 : Int) = off := Option.some.inj ho
        obtain rfl : tgt = 1076 := by omega
        exact law_11 C hX h4 hfl h5 hT hO hP hS hbl hbA hN hi0 hi7 (by omega) (by omega) hW hB
      | 12, _ =>
        have e : (1111 : Int) = off := Option.some.inj ho
        obtain rfl : tgt = 1156 := by omega
        exact law_12 C hX h4 hfl h5 hT hO hP hS hbl hbA hN hi0 hi7 (by omega) (by omega) hW hB
      | 13, _ =>
        have e : (1203 : Int) = off := Option.some.inj ho
        obtain rfl : tgt = 1248 := by omega
        exact law_13 C hX h4 hfl h5 hT hO hP hS hbl hbA hN hi0 hi7 (by omega) (by omega) hW hB
      | 14, _ =>
        have e : (1259 : Int) = off := Option.some.inj ho
        obtain rfl : tgt = 1304 := by omega
        exact law_14 C hX h4 hfl h5 hT hO hP hS hbl hbA hN hi0 hi7 (by omega) (by omega) hW hB
      | 15, _ =>
        have e : (1339 : Int) = off := Option.some.inj ho
        obtain rfl : tgt = 1384 := by omega
        exact law_15 C hX h4 hfl h5 hT hO hP hS hbl hbA hN hi0 hi7 (by omega) (by omega) hW hB
      | 16, _ =>
        have e : (1419 : Int) = off := Option.some.inj ho
        obtain rfl : tgt = 1464 := by omega
        exact law_16 C hX h4 hfl h5 hT hO hP hS hbl hbA hN hi0 hi7 (by omega) (by omega) hW hB
      | 17, _ =>
        have e : (1506 : Int) = off := Option.some.inj ho
        obtain rfl : tgt = 1551 := by omega
        exact law_17 C hX h4 hfl h5 hT hO hP hS hbl hbA hN hi0 hi7 (by omega) (by omega) hW hB
      | 18, _ =>
        have e : (1562 : Int) = off := Option.some.inj ho
        obtain rfl : tgt = 1607 := by omega
        exact law_18 C hX h4 hfl h5 hT hO hP hS hbl hbA hN hi0 hi7 (by omega) (by omega) hW hB
      | 19, _ =>
        have e : (1618 : Int) = off := Option.some.inj ho
        obtain rfl : tgt = 1663 := by omega
        exact law_19 C hX h4 hfl h5 hT hO hP hS hbl hbA hN hi0 hi7 (by omega) (by omega) hW hB
      | 20, _ =>
        have e : (1686 : Int) = off := Option.some.inj ho
        obtain rfl : tgt = 1731 := by omega
        exact law_20 C hX h4 hfl h5 hT hO hP hS hbl hbA hN hi0 hi7 (by omega) (by omega) hW hB
      | 21, _ =>
        have e : (1754 : Int) = off := Option.some.inj ho
        obtain rfl : tgt = 1799 := by omega
        exact law_21 C hX h4 hfl h5 hT hO hP hS hbl hbA hN hi0 hi7 (by omega) (by omega) hW hB
      | 22, _ =>
        have e : (1767 : Int) = off := Option.some.inj ho
        obtain rfl : tgt = 1812 := by omega
        exact law_22 C hX h4 hfl h5 hT hO hP hS hbl hbA hN hi0 hi7 (by omega) (by omega) hW hB
      | 23, _ =>
        have e : (1823 : Int) = off := Option.some.inj ho
        obtain rfl : tgt = 1868 := by omega
        exact law_23 C hX h4 hfl h5 hT hO hP hS hbl hbA hN hi0 hi7 (by omega) (by omega) hW hB
      | 24, _ =>
        have e : (1867 : Int) = off := Option.some.inj ho
        obtain rfl : tgt = 1912 := by omega
        exact law_24 C hX h4 hfl h5 hT hO hP hS hbl hbA hN hi0 hi7 (by omega) (by omega) hW hB
      | 25, _ =>
        have e : (1880 : Int) = off := Option.some.inj ho
        obtain rfl : tgt = 1925 := by omega
        exact law_25 C hX h4 hfl h5 hT hO hP hS hbl hbA hN hi0 hi7 (by omega) (by omega) hW hB
      | 26, _ =>
        have e : (1936 : Int) = off := Option.some.inj ho
        obtain rfl : tgt = 1981 := by omega
        exact law_26 C hX h4 hfl h5 hT hO hP hS hbl hbA hN hi0 hi7 (by omega) (by omega) hW hB
      | 27, _ =>
        have e : (1949 : Int) = off := Option.some.inj ho
        obtain rfl : tgt = 1994 := by omega
        exact law_27 C hX h4 hfl h5 hT hO hP hS hbl hbA hN hi0 hi7 (by omega) (by omega) hW hB
      | 28, _ =>
        have e : (2017 : Int) = off := Option.some.inj ho
        obtain rfl : tgt = 2062 := by omega
        exact law_28 C hX h4 hfl h5 hT hO hP hS hbl hbA hN hi0 hi7 (by omega) (by omega) hW hB
      | 29, _ =>
        have e : (2061 : Int) = off := Option.some.inj ho
        obtain rfl : tgt = 2106 := by omega
        exact law_29 C hX h4 hfl h5 hT hO hP hS hbl hbA hN hi0 hi7 (by omega) (by omega) hW hB
      | 30, _ =>
        have e : (2117 : Int) = off := Option.some.inj ho
        obtain rfl : tgt = 2162 := by omega
        exact law_30 C hX h4 hfl h5 hT hO hP hS hbl hbA hN hi0 hi7 (by omega) (by omega) hW hB
      | 31, _ =>
        have e : (2131 : Int) = off := Option.some.inj ho
        obtain rfl : tgt = 2176 := by omega
        exact law_31 C hX h4 hfl h5 hT hO hP hS hbl hbA hN hi0 hi7 (by omega) (by omega) hW hB
      | 32, _ =>
        have e : (2174 : Int) = off := Option.some.inj ho
        obtain rfl : tgt = 2219 := by omega
        exact law_32 C hX h4 hfl h5 hT hO hP hS hbl hbA hN hi0 hi7 (by omega) (by omega) hW hB
      | 33, _ =>
        have e : (2239 : Int) = off := Option.some.inj ho
        obtain rfl : tgt = 2284 := by omega
        exact law_33 C hX h4 hfl h5 hT hO hP hS hbl hbA hN hi0 hi7 (by omega) (by omega) hW hB
      | 34, _ =>
        have e : (2295 : Int) = off := Option.some.inj ho
        obtain rfl : tgt = 2340 := by omega
        exact law_34 C hX h4 hfl h5 hT hO hP hS hbl hbA hN hi0 hi7 (by omega) (by omega) hW hB
      | 35, _ =>
        have e : (2351 : Int) = off := Option.some.inj ho
        obtain rfl : tgt = 2396 := by omega
        exact law_35 C hX h4 hfl h5 hT hO hP hS hbl hbA hN hi0 hi7 (by omega) (by omega) hW hB
      | k + 36, hk => exact absurd hk (by omega)
    · have q := ztw_ok ⟨(k - 0).toNat, by omega⟩
      exact ⟨_, _, q.1, q.2⟩
