set_option maxRecDepth 100000 in
set_option maxHeartbeats 400000 in
theorem law_16 {p : Program} {la : Launch} {e : Env} {s : State} {m : MethodId} {args : Array Value} {below : List Frame} {meth : Method} {c : Code} {A : Nat → Prop} {Q : State → Prop} {G : zG} {X : (Nat → Prop) → State → Prop} (C : ZC G X p la s m args meth c A 10 ret cL_law "SwathSurveyLaw") (hX : zX X) (h4 : zT4 X) (hfl : la.stackTraces = false) (h5 : zT5 X) {ax : Nat → Nat × Nat} (hT : zT1 X ax) (hO : zT2 X) (hP : zT3 X) {b N : Nat} {xs : Nat → Int32} (hS : va_X b N xs s s.heap) (hbl : b < s.heap.size) (hbA : ¬ A b) (hN : N ≤ 3584) {i : Int} (hi0 : 0 ≤ i) (hi1 : i + 7 ≤ N) {c9 s9 : Nat} (hc9 : c9 + 40 ≤ 603072) (hs9 : s9 + 1000 ≤ 7215210) {L : List Nat} {f : Nat → va_E} {oc om aL aD : Nat} {μ : zMu} (hLW : zLW G L f oc om aL aD μ) (K : ∀ (L2 : List Nat) (f2 : Nat → va_E) (μ2 : zMu) (c2 s2 : Nat), c2 ≤ c9 + 40 → s2 ≤ s9 + 1000 → zLW G L2 f2 oc om aL aD μ2 → ZW G p la e room_1 s m args below meth c A 10 c2 s2 Q L2 f2 2409 (zLb i b oc om aL aD) []) : ZW G p la e room_1 s m args below meth c A 10 c9 s9 Q L f 1464 (zLb i b oc om aL aD) [] := by
  obtain ⟨Lc, Lm, ad, t, u, v, φ, ψ, hW⟩ := hLW
  obtain ⟨ω, hR, hI, hK⟩ := hW.C
  have hn := hI.n
  refine z_aload_n C 2 dL_law_1464 rfl ?_
  refine z_aload_n C 1 dL_law_1465 rfl ?_
  refine z_iload C 0 dL_law_1466 rfl ?_
  refine z_iconst C dL_law_1468 ?_
  refine z_iadd C dL_law_1469 ?_
  refine z_sld C hS hbl hbA (by omega) (by omega) (by omega) dL_law_1470 ?_
  refine z_aload_n C 1 dL_law_1471 rfl ?_
  refine z_iload C 0 dL_law_1472 rfl ?_
  refine z_iconst C dL_law_1474 ?_
  refine z_iadd C dL_law_1475 ?_
  refine z_sld C hS hbl hbA (by omega) (by omega) (by omega) dL_law_1476 ?_
  refine z_aload_n C 1 dL_law_1477 rfl ?_
  refine z_iload C 0 dL_law_1478 rfl ?_
  refine z_iconst C dL_law_1480 ?_
  refine z_iadd C dL_law_1481 ?_
  refine z_sld C hS hbl hbA (by omega) (by omega) (by omega) dL_law_1482 ?_
  refine z_aload_n C 4 dL_law_1483 rfl ?_
  refine z_cSW (As := [.ref oc, .int (iI (zgx xs (i + 1))), .int (iI (zgx xs (i + 2))), .int (iI (zgx xs (i + 3))), .ref aL]) C zcw_isSpike (w_isSpike hX h4 hfl h5  hW.C hW.s hW.n hW.A hW.l.1 (zgx xs (i + 1)) (zgx xs (i + 2)) (zgx xs (i + 3)) (by first | exact zgx_r _ _ | omega) (by first | exact zgx_r _ _ | omega) (by first | exact zgx_r _ _ | omega) ) zl_4_117 ⟨Nat.le_of_ble_eq_true rfl, Nat.le_of_ble_eq_true rfl⟩ (show _ ≤ 603072 by omega) (show _ ≤ 7215210 by omega) rfl rfl (Nat.le_of_ble_eq_true rfl) dL_law_1484 (fun z L3 f3 hq => ?_)
  obtain ⟨Lc2, φ2, hW2, hφ2, hz, h04⟩ := zLWx_w hW hq
  change ZW G p la e room_1 s m args below meth c A 10 (c9 + 8) (s9 + 48) Q L3 f3 1487 [(5, .int (iI i)), (0, .ref b), (1, .ref oc), (2, .ref om), (3, .ref aL), (4, .ref aD)] [.int (iI z)]
  refine z_istore (ls' := [(6, .int (iI z)), (5, .int (iI i)), (0, .ref b), (1, .ref oc), (2, .ref om), (3, .ref aL), (4, .ref aD)]) C dL_law_1487 (Nat.le_of_ble_eq_true rfl) rfl ?_
  refine z_aload_n C 4 dL_law_1489 rfl ?_
  refine z_aload_n C 2 dL_law_1490 rfl ?_
  refine z_iload C 1 dL_law_1491 rfl ?_
  refine z_iconst C dL_law_1493 ?_
  refine z_iadd C dL_law_1494 ?_
  refine z_sld C hS hbl hbA (by omega) (by omega) (by omega) dL_law_1495 ?_
  refine z_aload_n C 2 dL_law_1496 rfl ?_
  refine z_iload C 1 dL_law_1497 rfl ?_
  refine z_iconst C dL_law_1499 ?_
  refine z_iadd C dL_law_1500 ?_
  refine z_sld C hS hbl hbA (by omega) (by omega) (by omega) dL_law_1501 ?_
  refine z_aload_n C 2 dL_law_1502 rfl ?_
  refine z_iload C 1 dL_law_1503 rfl ?_
  refine z_iconst C dL_law_1505 ?_
  refine z_iadd C dL_law_1506 ?_
  refine z_sld C hS hbl hbA (by omega) (by omega) (by omega) dL_law_1507 ?_
  refine z_cVs (As := [.int (iI (zgx xs (i + 1))), .int (iI (zgx xs (i + 2))), .int (iI (zgx xs (i + 3)))]) C hW2.ms hW2.mn zc_X7_isSpike (c_X7_isSpike hX hW2.M hI (zgx xs (i + 1)) (zgx xs (i + 2)) (zgx xs (i + 3))  (by first | exact zgx_r _ _ | omega) (by first | exact zgx_r _ _ | omega) (by first | exact zgx_r _ _ | omega)) zl_7_104 ⟨Nat.le_of_ble_eq_true rfl, Nat.le_of_ble_eq_true rfl⟩ (show _ ≤ 603072 by omega) (show _ ≤ 7215210 by omega) hW2.M.1.1 hW2.M.1.2 rfl rfl rfl rfl (Nat.le_of_ble_eq_true rfl) dL_law_1508 (fun z2 Lm4 f4 L5 f5 hq2 hm2 => ?_)
  obtain ⟨rfl, t2, μ2, u2, v2, hM2, ho⟩ := hq2
  have hW3 := zLWx_m hW2 hm2 hM2
  have hob := o_isSpike_b μ (zgx xs (i + 1)) (zgx xs (i + 2)) (zgx xs (i + 3))
  rw [ho] at hW3 hφ2 hz h04 hob
  obtain rfl : t2 = z := hz.symm
  have h04 : 0 ≤ t2 ∧ t2 ≤ 4 := h04
  have hob : 0 ≤ (if t2 = 0 then z2 else 0) ∧ (if t2 = 0 then z2 else 0) ≤ 1 := hob
  exact z_tailB (P := 1511) C hX hW3 h04 (fun h0 => (hφ2 h0).trans (by show zovB (if t2 = 0 then z2 else 0) = zovB z2; rw [if_pos h0])) (fun h0 => by rw [if_pos h0] at hob; omega) ⟨Nat.le_of_ble_eq_true rfl, Nat.le_of_ble_eq_true rfl⟩ (show _ ≤ 603072 by omega) (show _ ≤ 7215210 by omega) zl_6_164 dL_law_1511 dL_law_1513 dL_law_1514 dL_law_1517 dL_law_1519 dL_law_1524 dL_law_1526 dL_law_1529 dL_law_1530 dL_law_1531 dL_law_1532 dL_law_1534 dL_law_1537 dL_law_1538 dL_law_1541 dL_law_1542 dL_law_1543 dL_law_1548 (by decide) (fun L6 f6 hW6 => z_perm [2, 3, 4, 5, 6, 7] rfl (K L6 f6 μ2 _ _ (by omega) (by omega) hW6))

set_option maxRecDepth 100000 in
set_option maxHeartbeats 400000 in
theorem law_21 {p : Program} {la : Launch} {e : Env} {s : State} {m : MethodId} {args : Array Value} {below : List Frame} {meth : Method} {c : Code} {A : Nat → Prop} {Q : State → Prop} {G : zG} {X : (Nat → Prop) → State → Prop} (C : ZC G X p la s m args meth c A 10 ret cL_law "SwathSurveyLaw") (hX : zX X) (h4 : zT4 X) (hfl : la.stackTraces = false) (h5 : zT5 X) {ax : Nat → Nat × Nat} (hT : zT1 X ax) (hO : zT2 X) (hP : zT3 X) {b N : Nat} {xs : Nat → Int32} (hS : va_X b N xs s s.heap) (hbl : b < s.heap.size) (hbA : ¬ A b) (hN : N ≤ 3584) {i : Int} (hi0 : 0 ≤ i) (hi1 : i + 7 ≤ N) {c9 s9 : Nat} (hc9 : c9 + 40 ≤ 603072) (hs9 : s9 + 1000 ≤ 7215210) {L : List Nat} {f : Nat → va_E} {oc om aL aD : Nat} {μ : zMu} (hLW : zLW G L f oc om aL aD μ) (K : ∀ (L2 : List Nat) (f2 : Nat → va_E) (μ2 : zMu) (c2 s2 : Nat), c2 ≤ c9 + 40 → s2 ≤ s9 + 1000 → zLW G L2 f2 oc om aL aD μ2 → ZW G p la e room_1 s m args below meth c A 10 c2 s2 Q L2 f2 2409 (zLb i b oc om aL aD) []) : ZW G p la e room_1 s m args below meth c A 10 c9 s9 Q L f 1799 (zLb i b oc om aL aD) [] := by
  obtain ⟨Lc, Lm, ad, t, u, v, φ, ψ, hW⟩ := hLW
  obtain ⟨ω, hR, hI, hK⟩ := hW.C
  have hn := hI.n
  refine z_aload_n C 2 dL_law_1799 rfl ?_
  refine z_cVs (As := []) C hW.s hW.n zc_X6_charted (c_charted hX hR hI hK) zl_1_158 ⟨Nat.le_of_ble_eq_true rfl, Nat.le_of_ble_eq_true rfl⟩ (show _ ≤ 603072 by omega) (show _ ≤ 7215210 by omega) hR.ob.1 hR.ob.2 rfl rfl rfl rfl (Nat.le_of_ble_eq_true rfl) dL_law_1800 (fun z Lc2 f3 L3 f4 hq hm => ?_)
  obtain ⟨hz, hC2⟩ := hq
  have hW2 := zLWx_c hW hm hC2
  subst hz
  change ZW G p la e room_1 s m args below meth c A 10 (c9 + 0) (s9 + 0) Q L3 f4 1803 [(5, .int (iI i)), (0, .ref b), (1, .ref oc), (2, .ref om), (3, .ref aL), (4, .ref aD)] [.int (iI (spCharted μ))]
  refine z_aload_n C 3 dL_law_1803 rfl ?_
  refine z_cVs (As := []) C hW2.ms hW2.mn zc_X7_charted (c_X7_charted hX hW2.M hI  hK ) zl_7_129 ⟨Nat.le_of_ble_eq_true rfl, Nat.le_of_ble_eq_true rfl⟩ (show _ ≤ 603072 by omega) (show _ ≤ 7215210 by omega) hW2.M.1.1 hW2.M.1.2 rfl rfl rfl rfl (Nat.le_of_ble_eq_true rfl) dL_law_1804 (fun z2 Lm4 f4 L5 f5 hq2 hm2 => ?_)
  obtain ⟨rfl, hM2, hz2⟩ := hq2
  have hW3 := zLWx_m hW2 hm2 hM2
  subst hz2
  change ZW G p la e room_1 s m args below meth c A 10 (c9 + 0) (s9 + 0) Q L5 f5 1807 [(5, .int (iI i)), (0, .ref b), (1, .ref oc), (2, .ref om), (3, .ref aL), (4, .ref aD)] [.int (iI (spCharted μ)), .int (iI (spCharted μ))]
  refine z_same C 2409 dL_law_1807 (by decide) ?_
  exact z_perm [0, 1, 2, 3, 4, 5] rfl (K _ _ μ _ _ (by omega) (by omega) (zLW_mk hW3))

set_option maxRecDepth 100000 in
set_option maxHeartbeats 400000 in
theorem law_24 {p : Program} {la : Launch} {e : Env} {s : State} {m : MethodId} {args : Array Value} {below : List Frame} {meth : Method} {c : Code} {A : Nat → Prop} {Q : State → Prop} {G : zG} {X : (Nat → Prop) → State → Prop} (C : ZC G X p la s m args meth c A 10 ret cL_law "SwathSurveyLaw") (hX : zX X) (h4 : zT4 X) (hfl : la.stackTraces = false) (h5 : zT5 X) {ax : Nat → Nat × Nat} (hT : zT1 X ax) (hO : zT2 X) (hP : zT3 X) {b N : Nat} {xs : Nat → Int32} (hS : va_X b N xs s s.heap) (hbl : b < s.heap.size) (hbA : ¬ A b) (hN : N ≤ 3584) {i : Int} (hi0 : 0 ≤ i) (hi1 : i + 7 ≤ N) {c9 s9 : Nat} (hc9 : c9 + 40 ≤ 603072) (hs9 : s9 + 1000 ≤ 7215210) {L : List Nat} {f : Nat → va_E} {oc om aL aD : Nat} {μ : zMu} (hLW : zLW G L f oc om aL aD μ) (K : ∀ (L2 : List Nat) (f2 : Nat → va_E) (μ2 : zMu) (c2 s2 : Nat), c2 ≤ c9 + 40 → s2 ≤ s9 + 1000 → zLW G L2 f2 oc om aL aD μ2 → ZW G p la e room_1 s m args below meth c A 10 c2 s2 Q L2 f2 2409 (zLb i b oc om aL aD) []) : ZW G p la e room_1 s m args below meth c A 10 c9 s9 Q L f 1912 (zLb i b oc om aL aD) [] := by
  obtain ⟨Lc, Lm, ad, t, u, v, φ, ψ, hW⟩ := hLW
  obtain ⟨ω, hR, hI, hK⟩ := hW.C
  have hn := hI.n
  refine z_aload_n C 2 dL_law_1912 rfl ?_
  refine z_cVs (As := []) C hW.s hW.n zc_X6_lines (c_lines hX hR hI hK) zl_1_170 ⟨Nat.le_of_ble_eq_true rfl, Nat.le_of_ble_eq_true rfl⟩ (show _ ≤ 603072 by omega) (show _ ≤ 7215210 by omega) hR.ob.1 hR.ob.2 rfl rfl rfl rfl (Nat.le_of_ble_eq_true rfl) dL_law_1913 (fun z Lc2 f3 L3 f4 hq hm => ?_)
  obtain ⟨hz, hC2⟩ := hq
  have hW2 := zLWx_c hW hm hC2
  subst hz
  change ZW G p la e room_1 s m args below meth c A 10 (c9 + 0) (s9 + 0) Q L3 f4 1916 [(5, .int (iI i)), (0, .ref b), (1, .ref oc), (2, .ref om), (3, .ref aL), (4, .ref aD)] [.int (iI (μ 2 0))]
  refine z_aload_n C 3 dL_law_1916 rfl ?_
  refine z_cVs (As := []) C hW2.ms hW2.mn zc_X7_lines (c_X7_lines hX hW2.M hI   ) zl_7_142 ⟨Nat.le_of_ble_eq_true rfl, Nat.le_of_ble_eq_true rfl⟩ (show _ ≤ 603072 by omega) (show _ ≤ 7215210 by omega) hW2.M.1.1 hW2.M.1.2 rfl rfl rfl rfl (Nat.le_of_ble_eq_true rfl) dL_law_1917 (fun z2 Lm4 f4 L5 f5 hq2 hm2 => ?_)
  obtain ⟨hz2, rfl, rfl⟩ := hq2
  have hW3 := zLWx_m hW2 hm2 hW2.M
  subst hz2
  change ZW G p la e room_1 s m args below meth c A 10 (c9 + 0) (s9 + 0) Q L5 f5 1920 [(5, .int (iI i)), (0, .ref b), (1, .ref oc), (2, .ref om), (3, .ref aL), (4, .ref aD)] [.int (iI (μ 2 0)), .int (iI (μ 2 0))]
  refine z_same C 2409 dL_law_1920 (by decide) ?_
  exact z_perm [0, 1, 2, 3, 4, 5] rfl (K _ _ μ _ _ (by omega) (by omega) (zLW_mk hW3))

set_option maxRecDepth 100000 in
set_option maxHeartbeats 400000 in
theorem law_26 {p : Program} {la : Launch} {e : Env} {s : State} {m : MethodId} {args : Array Value} {below : List Frame} {meth : Method} {c : Code} {A : Nat → Prop} {Q : State → Prop} {G : zG} {X : (Nat → Prop) → State → Prop} (C : ZC G X p la s m args meth c A 10 ret cL_law "SwathSurveyLaw") (hX : zX X) (h4 : zT4 X) (hfl : la.stackTraces = false) (h5 : zT5 X) {ax : Nat → Nat × Nat} (hT : zT1 X ax) (hO : zT2 X) (hP : zT3 X) {b N : Nat} {xs : Nat → Int32} (hS : va_X b N xs s s.heap) (hbl : b < s.heap.size) (hbA : ¬ A b) (hN : N ≤ 3584) {i : Int} (hi0 : 0 ≤ i) (hi1 : i + 7 ≤ N) {c9 s9 : Nat} (hc9 : c9 + 40 ≤ 603072) (hs9 : s9 + 1000 ≤ 7215210) {L : List Nat} {f : Nat → va_E} {oc om aL aD : Nat} {μ : zMu} (hLW : zLW G L f oc om aL aD μ) (K : ∀ (L2 : List Nat) (f2 : Nat → va_E) (μ2 : zMu) (c2 s2 : Nat), c2 ≤ c9 + 40 → s2 ≤ s9 + 1000 → zLW G L2 f2 oc om aL aD μ2 → ZW G p la e room_1 s m args below meth c A 10 c2 s2 Q L2 f2 2409 (zLb i b oc om aL aD) []) : ZW G p la e room_1 s m args below meth c A 10 c9 s9 Q L f 1981 (zLb i b oc om aL aD) [] := by
  obtain ⟨Lc, Lm, ad, t, u, v, φ, ψ, hW⟩ := hLW
  obtain ⟨ω, hR, hI, hK⟩ := hW.C
  have hn := hI.n
  refine z_aload_n C 2 dL_law_1981 rfl ?_
  refine z_cVs (As := []) C hW.s hW.n zc_X6_toRun (c_toRun hX hR hI hK) zl_1_174 ⟨Nat.le_of_ble_eq_true rfl, Nat.le_of_ble_eq_true rfl⟩ (show _ ≤ 603072 by omega) (show _ ≤ 7215210 by omega) hR.ob.1 hR.ob.2 rfl rfl rfl rfl (Nat.le_of_ble_eq_true rfl) dL_law_1982 (fun z Lc2 f3 L3 f4 hq hm => ?_)
  obtain ⟨hz, hC2⟩ := hq
  have hW2 := zLWx_c hW hm hC2
  subst hz
  change ZW G p la e room_1 s m args below meth c A 10 (c9 + 0) (s9 + 0) Q L3 f4 1985 [(5, .int (iI i)), (0, .ref b), (1, .ref oc), (2, .ref om), (3, .ref aL), (4, .ref aD)] [.int (iI (spToRun μ))]
  refine z_aload_n C 3 dL_law_1985 rfl ?_
  refine z_cVs (As := []) C hW2.ms hW2.mn zc_X7_toRun (c_X7_toRun hX hW2.M hI   ) zl_7_150 ⟨Nat.le_of_ble_eq_true rfl, Nat.le_of_ble_eq_true rfl⟩ (show _ ≤ 603072 by omega) (show _ ≤ 7215210 by omega) hW2.M.1.1 hW2.M.1.2 rfl rfl rfl rfl (Nat.le_of_ble_eq_true rfl) dL_law_1986 (fun z2 Lm4 f4 L5 f5 hq2 hm2 => ?_)
  obtain ⟨hz2, rfl, rfl⟩ := hq2
  have hW3 := zLWx_m hW2 hm2 hW2.M
  subst hz2
  change ZW G p la e room_1 s m args below meth c A 10 (c9 + 0) (s9 + 0) Q L5 f5 1989 [(5, .int (iI i)), (0, .ref b), (1, .ref oc), (2, .ref om), (3, .ref aL), (4, .ref aD)] [.int (iI (spToRun μ)), .int (iI (spToRun μ))]
  refine z_same C 2409 dL_law_1989 (by decide) ?_
  exact z_perm [0, 1, 2, 3, 4, 5] rfl (K _ _ μ _ _ (by omega) (by omega) (zLW_mk hW3))

set_option maxRecDepth 100000 in
set_option maxHeartbeats 400000 in
theorem law_30 {p : Program} {la : Launch} {e : Env} {s : State} {m : MethodId} {args : Array Value} {below : List Frame} {meth : Method} {c : Code} {A : Nat → Prop} {Q : State → Prop} {G : zG} {X : (Nat → Prop) → State → Prop} (C : ZC G X p la s m args meth c A 10 ret cL_law "SwathSurveyLaw") (hX : zX X) (h4 : zT4 X) (hfl : la.stackTraces = false) (h5 : zT5 X) {ax : Nat → Nat × Nat} (hT : zT1 X ax) (hO : zT2 X) (hP : zT3 X) {b N : Nat} {xs : Nat → Int32} (hS : va_X b N xs s s.heap) (hbl : b < s.heap.size) (hbA : ¬ A b) (hN : N ≤ 3584) {i : Int} (hi0 : 0 ≤ i) (hi1 : i + 7 ≤ N) {c9 s9 : Nat} (hc9 : c9 + 40 ≤ 603072) (hs9 : s9 + 1000 ≤ 7215210) {L : List Nat} {f : Nat → va_E} {oc om aL aD : Nat} {μ : zMu} (hLW : zLW G L f oc om aL aD μ) (K : ∀ (L2 : List Nat) (f2 : Nat → va_E) (μ2 : zMu) (c2 s2 : Nat), c2 ≤ c9 + 40 → s2 ≤ s9 + 1000 → zLW G L2 f2 oc om aL aD μ2 → ZW G p la e room_1 s m args below meth c A 10 c2 s2 Q L2 f2 2409 (zLb i b oc om aL aD) []) : ZW G p la e room_1 s m args below meth c A 10 c9 s9 Q L f 2162 (zLb i b oc om aL aD) [] := by
  obtain ⟨Lc, Lm, ad, t, u, v, φ, ψ, hW⟩ := hLW
  obtain ⟨ω, hR, hI, hK⟩ := hW.C
  have hn := hI.n
  refine z_aload_n C 2 dL_law_2162 rfl ?_
  refine z_cVs (As := []) C hW.s hW.n zc_X6_hire (c_hire hX hR hI hK) zl_1_199 ⟨Nat.le_of_ble_eq_true rfl, Nat.le_of_ble_eq_true rfl⟩ (show _ ≤ 603072 by omega) (show _ ≤ 7215210 by omega) hR.ob.1 hR.ob.2 rfl rfl rfl rfl (Nat.le_of_ble_eq_true rfl) dL_law_2163 (fun z Lc2 f3 L3 f4 hq hm => ?_)
  obtain ⟨hz, hC2⟩ := hq
  have hW2 := zLWx_c hW hm hC2
  subst hz
  change ZW G p la e room_1 s m args below meth c A 10 (c9 + 0) (s9 + 0) Q L3 f4 2166 [(5, .int (iI i)), (0, .ref b), (1, .ref oc), (2, .ref om), (3, .ref aL), (4, .ref aD)] [.long (iL (spHire μ))]
  refine z_aload_n C 3 dL_law_2166 rfl ?_
  refine z_cVs (As := []) C hW2.ms hW2.mn zc_X7_hire (c_X7_hire hX hW2.M hI   ) zl_7_182 ⟨Nat.le_of_ble_eq_true rfl, Nat.le_of_ble_eq_true rfl⟩ (show _ ≤ 603072 by omega) (show _ ≤ 7215210 by omega) hW2.M.1.1 hW2.M.1.2 rfl rfl rfl rfl (Nat.le_of_ble_eq_true rfl) dL_law_2167 (fun z2 Lm4 f4 L5 f5 hq2 hm2 => ?_)
  obtain ⟨hz2, rfl, rfl⟩ := hq2
  have hW3 := zLWx_m hW2 hm2 hW2.M
  subst hz2
  change ZW G p la e room_1 s m args below meth c A 10 (c9 + 0) (s9 + 0) Q L5 f5 2170 [(5, .int (iI i)), (0, .ref b), (1, .ref oc), (2, .ref om), (3, .ref aL), (4, .ref aD)] [.long (iL (spHire μ)), .long (iL (spHire μ))]
  refine z_lcmpS C dL_law_2170 ?_
  refine z_if_eq C 2409 dL_law_2171 (by decide) (by decide) (fun _ => ?_) (fun h => absurd rfl h)
  exact z_perm [0, 1, 2, 3, 4, 5] rfl (K _ _ μ _ _ (by omega) (by omega) (zLW_mk hW3))

set_option maxRecDepth 100000 in
set_option maxHeartbeats 400000 in
theorem law_31 {p : Program} {la : Launch} {e : Env} {s : State} {m : MethodId} {args : Array Value} {below : List Frame} {meth : Method} {c : Code} {A : Nat → Prop} {Q : State → Prop} {G : zG} {X : (Nat → Prop) → State → Prop} (C : ZC G X p la s m args meth c A 10 ret cL_law "SwathSurveyLaw") (hX : zX X) (h4 : zT4 X) (hfl : la.stackTraces = false) (h5 : zT5 X) {ax : Nat → Nat × Nat} (hT : zT1 X ax) (hO : zT2 X) (hP : zT3 X) {b N : Nat} {xs : Nat → Int32} (hS : va_X b N xs s s.heap) (hbl : b < s.heap.size) (hbA : ¬ A b) (hN : N ≤ 3584) {i : Int} (hi0 : 0 ≤ i) (hi1 : i + 7 ≤ N) {c9 s9 : Nat} (hc9 : c9 + 40 ≤ 603072) (hs9 : s9 + 1000 ≤ 7215210) {L : List Nat} {f : Nat → va_E} {oc om aL aD : Nat} {μ : zMu} (hLW : zLW G L f oc om aL aD μ) (K : ∀ (L2 : List Nat) (f2 : Nat → va_E) (μ2 : zMu) (c2 s2 : Nat), c2 ≤ c9 + 40 → s2 ≤ s9 + 1000 → zLW G L2 f2 oc om aL aD μ2 → ZW G p la e room_1 s m args below meth c A 10 c2 s2 Q L2 f2 2409 (zLb i b oc om aL aD) []) : ZW G p la e room_1 s m args below meth c A 10 c9 s9 Q L f 2176 (zLb i b oc om aL aD) [] := by
  obtain ⟨Lc, Lm, ad, t, u, v, φ, ψ, hW⟩ := hLW
  obtain ⟨ω, hR, hI, hK⟩ := hW.C
  have hcr := zsum_rng (c := 1) (by decide) (fun i => bI_rng (spChart μ i ≠ zNO)) 240
  have hcr2 : 0 ≤ spCharted μ ∧ spCharted μ ≤ 1 * ((240 : Nat) : Int) := hcr
  have hn := hI.n
  refine z_aload_n C 2 dL_law_2176 rfl ?_
  refine z_cVs (As := []) C hW.s hW.n zc_X6_chartedShare (c_chartedShare hX hR hI hK) zl_1_237 ⟨Nat.le_of_ble_eq_true rfl, Nat.le_of_ble_eq_true rfl⟩ (show _ ≤ 603072 by omega) (show _ ≤ 7215210 by omega) hR.ob.1 hR.ob.2 rfl rfl rfl rfl (Nat.le_of_ble_eq_true rfl) dL_law_2177 (fun z Lc2 f3 L3 f4 hq hm => ?_)
  obtain ⟨hz, hC2⟩ := hq
  have hW2 := zLWx_c hW hm hC2
  subst hz
  change ZW G p la e room_1 s m args below meth c A 10 (c9 + 0) (s9 + 0) Q L3 f4 2180 [(5, .int (iI i)), (0, .ref b), (1, .ref oc), (2, .ref om), (3, .ref aL), (4, .ref aD)] [.float (FP.fdiv (FP.i2f (iI (spCharted μ))) 1131413504)]
  refine z_f2d C dL_law_2180 (fp_share2 (by omega)) ?_
  refine z_dstore (ls' := [(6, .double (FP.f2d (FP.fdiv (FP.i2f (iI (spCharted μ))) 1131413504))), (5, .int (iI i)), (0, .ref b), (1, .ref oc), (2, .ref om), (3, .ref aL), (4, .ref aD)]) C dL_law_2181 (Nat.le_of_ble_eq_true rfl) rfl ?_
  refine z_aload_n C 4 dL_law_2183 rfl ?_
  refine z_cVs (As := []) C hW2.ms hW2.mn zc_X7_chartedShare (c_X7_chartedShare hX hW2.M hI  hK ) zl_7_188 ⟨Nat.le_of_ble_eq_true rfl, Nat.le_of_ble_eq_true rfl⟩ (show _ ≤ 603072 by omega) (show _ ≤ 7215210 by omega) hW2.M.1.1 hW2.M.1.2 rfl rfl rfl rfl (Nat.le_of_ble_eq_true rfl) dL_law_2184 (fun z2 Lm4 f4 L5 f5 hq2 hm2 => ?_)
  obtain ⟨rfl, hM2, hz2⟩ := hq2
  have hW3 := zLWx_m hW2 hm2 hM2
  subst hz2
  change ZW G p la e room_1 s m args below meth c A 10 (c9 + 0) (s9 + 0) Q L5 f5 2187 [(6, .double (FP.f2d (FP.fdiv (FP.i2f (iI (spCharted μ))) 1131413504))), (5, .int (iI i)), (0, .ref b), (1, .ref oc), (2, .ref om), (3, .ref aL), (4, .ref aD)] [.float (FP.fdiv (FP.i2f (iI (spCharted μ))) 1131413504)]
  refine z_f2d C dL_law_2187 (fp_share2 (by omega)) ?_
  refine z_dstore (ls' := [(8, .double (FP.f2d (FP.fdiv (FP.i2f (iI (spCharted μ))) 1131413504))), (6, .double (FP.f2d (FP.fdiv (FP.i2f (iI (spCharted μ))) 1131413504))), (5, .int (iI i)), (0, .ref b), (1, .ref oc), (2, .ref om), (3, .ref aL), (4, .ref aD)]) C dL_law_2188 (Nat.le_of_ble_eq_true rfl) rfl ?_
  refine z_dload C 1 dL_law_2190 rfl ?_
  refine z_dload C 0 dL_law_2192 rfl ?_
  refine z_dcmpS C dL_law_2194 (fp_share2 (by omega)) ?_
  refine z_if_eq C 2216 dL_law_2195 (by decide) (by decide) (fun _ => ?_) (fun h => absurd rfl h)
  refine z_goto C 2409 dL_law_2216 (by decide) ?_
  exact z_perm [2, 3, 4, 5, 6, 7] rfl (K _ _ μ _ _ (by omega) (by omega) (zLW_mk hW3))

set_option maxRecDepth 100000 in
set_option maxHeartbeats 400000 in
theorem law_32 {p : Program} {la : Launch} {e : Env} {s : State} {m : MethodId} {args : Array Value} {below : List Frame} {meth : Method} {c : Code} {A : Nat → Prop} {Q : State → Prop} {G : zG} {X : (Nat → Prop) → State → Prop} (C : ZC G X p la s m args meth c A 10 ret cL_law "SwathSurveyLaw") (hX : zX X) (h4 : zT4 X) (hfl : la.stackTraces = false) (h5 : zT5 X) {ax : Nat → Nat × Nat} (hT : zT1 X ax) (hO : zT2 X) (hP : zT3 X) {b N : Nat} {xs : Nat → Int32} (hS : va_X b N xs s s.heap) (hbl : b < s.heap.size) (hbA : ¬ A b) (hN : N ≤ 3584) {i : Int} (hi0 : 0 ≤ i) (hi1 : i + 7 ≤ N) {c9 s9 : Nat} (hc9 : c9 + 40 ≤ 603072) (hs9 : s9 + 1000 ≤ 7215210) {L : List Nat} {f : Nat → va_E} {oc om aL aD : Nat} {μ : zMu} (hLW : zLW G L f oc om aL aD μ) (K : ∀ (L2 : List Nat) (f2 : Nat → va_E) (μ2 : zMu) (c2 s2 : Nat), c2 ≤ c9 + 40 → s2 ≤ s9 + 1000 → zLW G L2 f2 oc om aL aD μ2 → ZW G p la e room_1 s m args below meth c A 10 c2 s2 Q L2 f2 2409 (zLb i b oc om aL aD) []) : ZW G p la e room_1 s m args below meth c A 10 c9 s9 Q L f 2219 (zLb i b oc om aL aD) [] := by
  obtain ⟨Lc, Lm, ad, t, u, v, φ, ψ, hW⟩ := hLW
  obtain ⟨ω, hR, hI, hK⟩ := hW.C
  have hcr := zsum_rng (c := 1) (by decide) (fun i => bI_rng (spChart μ i ≠ zNO)) 240
  have hcr2 : 0 ≤ spCharted μ ∧ spCharted μ ≤ 1 * ((240 : Nat) : Int) := hcr
  have hn := hI.n
  refine z_aload_n C 2 dL_law_2219 rfl ?_
  refine z_aload C 5 dL_law_2220 rfl ?_
  refine z_cSW (As := [.ref oc, .ref aD]) C zcw_meanDepth (w_meanDepth hX h4 hfl h5  hW.C hW.s hW.n hW.D hW.dd.1   ) zl_4_232 ⟨Nat.le_of_ble_eq_true rfl, Nat.le_of_ble_eq_true rfl⟩ (show _ ≤ 603072 by omega) (show _ ≤ 7215210 by omega) rfl rfl (Nat.le_of_ble_eq_true rfl) dL_law_2222 (fun z L3 f3 hq => ?_)
  obtain ⟨Lc2, ψ2, hW2, hz, hψ2⟩ := zLWx_wd hW hq
  change ZW G p la e room_1 s m args below meth c A 10 (c9 + 8) (s9 + 48) Q L3 f3 2225 [(5, .int (iI i)), (0, .ref b), (1, .ref oc), (2, .ref om), (3, .ref aL), (4, .ref aD)] [.int (iI z)]
  refine z_istore (ls' := [(6, .int (iI z)), (5, .int (iI i)), (0, .ref b), (1, .ref oc), (2, .ref om), (3, .ref aL), (4, .ref aD)]) C dL_law_2225 (Nat.le_of_ble_eq_true rfl) rfl ?_
  refine z_aload_n C 4 dL_law_2227 rfl ?_
  refine z_cVs (As := []) C hW2.ms hW2.mn zc_X7_meanDepth (c_X7_meanDepth hX hW2.M hI  hK ) zl_7_193 ⟨Nat.le_of_ble_eq_true rfl, Nat.le_of_ble_eq_true rfl⟩ (show _ ≤ 603072 by omega) (show _ ≤ 7215210 by omega) hW2.M.1.1 hW2.M.1.2 rfl rfl rfl rfl (Nat.le_of_ble_eq_true rfl) dL_law_2228 (fun z2 Lm4 f4 L5 f5 hq2 hm2 => ?_)
  obtain ⟨rfl, t2, hM2, ho2⟩ := hq2
  have hW3 := zLWx_m hW2 hm2 hM2
  have htz : z = t2 := by omega
  clear hq hm2
  skip
  change ZW G p la e room_1 s m args below meth c A 10 (c9 + 8) (s9 + 48) Q L5 f5 2231 [(6, .int (iI z)), (5, .int (iI i)), (0, .ref b), (1, .ref oc), (2, .ref om), (3, .ref aL), (4, .ref aD)] [.double z2]
  refine z_dstore (ls' := [(7, .double z2), (6, .int (iI z)), (5, .int (iI i)), (0, .ref b), (1, .ref oc), (2, .ref om), (3, .ref aL), (4, .ref aD)]) C dL_law_2231 (Nat.le_of_ble_eq_true rfl) rfl ?_
  refine z_aload_n C 5 dL_law_2233 rfl ?_
  refine z_cVs (As := []) C hW3.ms hW3.mn zc_X7_thrown (c_X7_thrown hX hW3.M) zl_6_164 ⟨Nat.le_of_ble_eq_true rfl, Nat.le_of_ble_eq_true rfl⟩ (show _ ≤ 603072 by omega) (show _ ≤ 7215210 by omega) hW3.M.1.1 hW3.M.1.2 rfl rfl rfl rfl (Nat.le_of_ble_eq_true rfl) dL_law_2234 (fun z2 Lm4 f4 L5 f5 hq2 hm2 => ?_)
  obtain ⟨hz5, rfl, rfl⟩ := hq2
  have hW4 := zLWx_m hW3 hm2 hW3.M
  obtain rfl : z = z2 := by omega
  change ZW G p la e room_1 s m args below meth c A 10 (c9 + 8) (s9 + 48) Q L5 f5 2237 [(7, .double z2), (6, .int (iI z)), (5, .int (iI i)), (0, .ref b), (1, .ref oc), (2, .ref om), (3, .ref aL), (4, .ref aD)] [.int (iI z)]
  refine z_iload C 1 dL_law_2237 rfl ?_
  refine z_same C 2244 dL_law_2239 (by decide) ?_
  refine z_iload C 1 dL_law_2244 rfl ?_
  refine z_if_ne C 2281 dL_law_2246 (by decide) (by omega) (fun h2246 => ?_) (fun h2246 => ?_)
  · skip
    refine z_goto C 2409 dL_law_2281 (by decide) ?_
    exact z_perm [2, 3, 4, 5, 6, 7] rfl (K _ _ μ _ _ (by omega) (by omega) (zLW_mk hW4))
  · skip
    have hψ3 : ψ2 0 = FP.ddiv (FP.i2d (iI (spSum μ))) (FP.i2d (iI (spCharted μ))) := hψ2 (by omega)
    have hz3 : z2 = FP.ddiv (FP.i2d (iI (spSum μ))) (FP.i2d (iI (spCharted μ))) := by
      rcases ho2 with ⟨q1, q2, q3⟩ | ⟨q1, q2, q3⟩
      · omega
      · exact q3
    rw [hz3]
    refine z_aload C 7 dL_law_2249 rfl ?_
    refine z_iconst C dL_law_2251 ?_
    refine z_dald C hW4.D dL_law_2252 ?_
    refine z_dload C 0 dL_law_2253 rfl ?_
    rw [hψ3]
    refine z_dcmpS C dL_law_2255 (fp_mean _ (by omega)) ?_
    refine z_if_eq C 2281 dL_law_2256 (by decide) (by decide) (fun _ => ?_) (fun h => absurd rfl h)
    refine z_goto C 2409 dL_law_2281 (by decide) ?_
    exact z_perm [2, 3, 4, 5, 6, 7] rfl (K _ _ μ _ _ (by omega) (by omega) (zLW_mk hW4))

set_option maxRecDepth 100000 in
set_option maxHeartbeats 400000 in
theorem law_35 {p : Program} {la : Launch} {e : Env} {s : State} {m : MethodId} {args : Array Value} {below : List Frame} {meth : Method} {c : Code} {A : Nat → Prop} {Q : State → Prop} {G : zG} {X : (Nat → Prop) → State → Prop} (C : ZC G X p la s m args meth c A 10 ret cL_law "SwathSurveyLaw") (hX : zX X) (h4 : zT4 X) (hfl : la.stackTraces = false) (h5 : zT5 X) {ax : Nat → Nat × Nat} (hT : zT1 X ax) (hO : zT2 X) (hP : zT3 X) {b N : Nat} {xs : Nat → Int32} (hS : va_X b N xs s s.heap) (hbl : b < s.heap.size) (hbA : ¬ A b) (hN : N ≤ 3584) {i : Int} (hi0 : 0 ≤ i) (hi1 : i + 7 ≤ N) {c9 s9 : Nat} (hc9 : c9 + 40 ≤ 603072) (hs9 : s9 + 1000 ≤ 7215210) {L : List Nat} {f : Nat → va_E} {oc om aL aD : Nat} {μ : zMu} (hLW : zLW G L f oc om aL aD μ) (K : ∀ (L2 : List Nat) (f2 : Nat → va_E) (μ2 : zMu) (c2 s2 : Nat), c2 ≤ c9 + 40 → s2 ≤ s9 + 1000 → zLW G L2 f2 oc om aL aD μ2 → ZW G p la e room_1 s m args below meth c A 10 c2 s2 Q L2 f2 2409 (zLb i b oc om aL aD) []) : ZW G p la e room_1 s m args below meth c A 10 c9 s9 Q L f 2396 (zLb i b oc om aL aD) [] := by
  obtain ⟨Lc, Lm, ad, t, u, v, φ, ψ, hW⟩ := hLW
  obtain ⟨ω, hR, hI, hK⟩ := hW.C
  have hn := hI.n
  refine z_aload_n C 2 dL_law_2396 rfl ?_
  refine z_cVs (As := []) C hW.s hW.n zc_X6_isSure (c_isSure hX hR hI hK) zl_2_2 ⟨Nat.le_of_ble_eq_true rfl, Nat.le_of_ble_eq_true rfl⟩ (show _ ≤ 603072 by omega) (show _ ≤ 7215210 by omega) hR.ob.1 hR.ob.2 rfl rfl rfl rfl (Nat.le_of_ble_eq_true rfl) dL_law_2397 (fun z Lc2 f3 L3 f4 hq hm => ?_)
  obtain ⟨hz, hC2⟩ := hq
  have hW2 := zLWx_c hW hm hC2
  subst hz
  change ZW G p la e room_1 s m args below meth c A 10 (c9 + 0) (s9 + 0) Q L3 f4 2400 [(5, .int (iI i)), (0, .ref b), (1, .ref oc), (2, .ref om), (3, .ref aL), (4, .ref aD)] [.int (iI 1)]
  refine z_aload_n C 3 dL_law_2400 rfl ?_
  refine z_cVs (As := []) C hW2.ms hW2.mn zc_X7_isSure (c_X7_isSure hX hW2.M hI   ) zl_7_237 ⟨Nat.le_of_ble_eq_true rfl, Nat.le_of_ble_eq_true rfl⟩ (show _ ≤ 603072 by omega) (show _ ≤ 7215210 by omega) hW2.M.1.1 hW2.M.1.2 rfl rfl rfl rfl (Nat.le_of_ble_eq_true rfl) dL_law_2401 (fun z2 Lm4 f4 L5 f5 hq2 hm2 => ?_)
  obtain ⟨hz2, rfl, rfl⟩ := hq2
  have hW3 := zLWx_m hW2 hm2 hW2.M
  subst hz2
  change ZW G p la e room_1 s m args below meth c A 10 (c9 + 0) (s9 + 0) Q L5 f5 2404 [(5, .int (iI i)), (0, .ref b), (1, .ref oc), (2, .ref om), (3, .ref aL), (4, .ref aD)] [.int (iI 1), .int (iI 1)]
  refine z_same C 2409 dL_law_2404 (by decide) ?_
  exact z_perm [0, 1, 2, 3, 4, 5] rfl (K _ _ μ _ _ (by omega) (by omega) (zLW_mk hW3))
