set_option maxRecDepth 100000 in
set_option maxHeartbeats 400000 in
theorem law_0 {p : Program} {la : Launch} {e : Env} {s : State} {m : MethodId} {args : Array Value} {below : List Frame} {meth : Method} {c : Code} {A : Nat → Prop} {Q : State → Prop} {G : zG} {X : (Nat → Prop) → State → Prop} (C : ZC G X p la s m args meth c A 10 ret cL_law "SwathSurveyLaw") (hX : zX X) (h4 : zT4 X) (hfl : la.stackTraces = false) (h5 : zT5 X) {ax : Nat → Nat × Nat} (hT : zT1 X ax) (hO : zT2 X) (hP : zT3 X) {b N : Nat} {xs : Nat → Int32} (hS : va_X b N xs s s.heap) (hbl : b < s.heap.size) (hbA : ¬ A b) (hN : N ≤ 3584) {i : Int} (hi0 : 0 ≤ i) (hi1 : i + 7 ≤ N) {c9 s9 : Nat} (hc9 : c9 + 40 ≤ 603072) (hs9 : s9 + 1000 ≤ 7215210) {L : List Nat} {f : Nat → va_E} {oc om aL aD : Nat} {μ : zMu} (hLW : zLW G L f oc om aL aD μ) (K : ∀ (L2 : List Nat) (f2 : Nat → va_E) (μ2 : zMu) (c2 s2 : Nat), c2 ≤ c9 + 40 → s2 ≤ s9 + 1000 → zLW G L2 f2 oc om aL aD μ2 → ZW G p la e room_1 s m args below meth c A 10 c2 s2 Q L2 f2 2409 (zLb i b oc om aL aD) []) : ZW G p la e room_1 s m args below meth c A 10 c9 s9 Q L f 204 (zLb i b oc om aL aD) [] := by
  obtain ⟨Lc, Lm, ad, t, u, v, φ, ψ, hW⟩ := hLW
  obtain ⟨ω, hR, hI, hK⟩ := hW.C
  have hn := hI.n
  refine z_aload_n C 2 dL_law_204 rfl ?_
  refine z_aload_n C 1 dL_law_205 rfl ?_
  refine z_iload C 0 dL_law_206 rfl ?_
  refine z_iconst C dL_law_208 ?_
  refine z_iadd C dL_law_209 ?_
  refine z_sld C hS hbl hbA (by omega) (by omega) (by omega) dL_law_210 ?_
  refine z_aload_n C 1 dL_law_211 rfl ?_
  refine z_iload C 0 dL_law_212 rfl ?_
  refine z_iconst C dL_law_214 ?_
  refine z_iadd C dL_law_215 ?_
  refine z_sld C hS hbl hbA (by omega) (by omega) (by omega) dL_law_216 ?_
  refine z_aload_n C 1 dL_law_217 rfl ?_
  refine z_iload C 0 dL_law_218 rfl ?_
  refine z_iconst C dL_law_220 ?_
  refine z_iadd C dL_law_221 ?_
  refine z_sld C hS hbl hbA (by omega) (by omega) (by omega) dL_law_222 ?_
  refine z_aload_n C 4 dL_law_223 rfl ?_
  refine z_cSW (As := [.ref oc, .int (iI (zgx xs (i + 1))), .int (iI (zgx xs (i + 2))), .int (iI (zgx xs (i + 3))), .ref aL]) C zcw_setFloor (w_setFloor hX h4 hfl h5  hW.C hW.s hW.n hW.A hW.l.1 (zgx xs (i + 1)) (zgx xs (i + 2)) (zgx xs (i + 3)) (by first | exact zgx_r _ _ | omega) (by first | exact zgx_r _ _ | omega) (by first | exact zgx_r _ _ | omega) ) zl_2_115 ⟨Nat.le_of_ble_eq_true rfl, Nat.le_of_ble_eq_true rfl⟩ (show _ ≤ 603072 by omega) (show _ ≤ 7215210 by omega) rfl rfl (Nat.le_of_ble_eq_true rfl) dL_law_224 (fun z L3 f3 hq => ?_)
  obtain ⟨Lc2, φ2, hW2, hφ2, hz, h04⟩ := zLWx_w hW hq
  change ZW G p la e room_1 s m args below meth c A 10 (c9 + 8) (s9 + 48) Q L3 f3 227 [(5, .int (iI i)), (0, .ref b), (1, .ref oc), (2, .ref om), (3, .ref aL), (4, .ref aD)] [.int (iI z)]
  refine z_istore (ls' := [(6, .int (iI z)), (5, .int (iI i)), (0, .ref b), (1, .ref oc), (2, .ref om), (3, .ref aL), (4, .ref aD)]) C dL_law_227 (Nat.le_of_ble_eq_true rfl) rfl ?_
  refine z_aload_n C 4 dL_law_229 rfl ?_
  refine z_aload_n C 2 dL_law_230 rfl ?_
  refine z_iload C 1 dL_law_231 rfl ?_
  refine z_iconst C dL_law_233 ?_
  refine z_iadd C dL_law_234 ?_
  refine z_sld C hS hbl hbA (by omega) (by omega) (by omega) dL_law_235 ?_
  refine z_aload_n C 2 dL_law_236 rfl ?_
  refine z_iload C 1 dL_law_237 rfl ?_
  refine z_iconst C dL_law_239 ?_
  refine z_iadd C dL_law_240 ?_
  refine z_sld C hS hbl hbA (by omega) (by omega) (by omega) dL_law_241 ?_
  refine z_aload_n C 2 dL_law_242 rfl ?_
  refine z_iload C 1 dL_law_243 rfl ?_
  refine z_iconst C dL_law_245 ?_
  refine z_iadd C dL_law_246 ?_
  refine z_sld C hS hbl hbA (by omega) (by omega) (by omega) dL_law_247 ?_
  refine z_cVs (As := [.int (iI (zgx xs (i + 1))), .int (iI (zgx xs (i + 2))), .int (iI (zgx xs (i + 3)))]) C hW2.ms hW2.mn zc_X7_setFloor (c_X7_setFloor hX hW2.M hI (zgx xs (i + 1)) (zgx xs (i + 2)) (zgx xs (i + 3))  (by first | exact zgx_r _ _ | omega) (by first | exact zgx_r _ _ | omega) (by first | exact zgx_r _ _ | omega)) zl_6_168 ⟨Nat.le_of_ble_eq_true rfl, Nat.le_of_ble_eq_true rfl⟩ (show _ ≤ 603072 by omega) (show _ ≤ 7215210 by omega) hW2.M.1.1 hW2.M.1.2 rfl rfl rfl rfl (Nat.le_of_ble_eq_true rfl) dL_law_248 (fun z2 Lm4 f4 L5 f5 hq2 hm2 => ?_)
  obtain ⟨rfl, t2, μ2, u2, v2, hM2, ho⟩ := hq2
  have hW3 := zLWx_m hW2 hm2 hM2
  rw [ho] at hW3 hφ2 hz h04
  obtain rfl : t2 = z := hz.symm
  have h04 : 0 ≤ t2 ∧ t2 ≤ 4 := h04
  exact z_tail (P := 251) C hX hW3 h04 (fun h0 => (hφ2 h0).trans (by show zov (if t2 = 0 then z2 else 0) = zov z2; rw [if_pos h0])) ⟨Nat.le_of_ble_eq_true rfl, Nat.le_of_ble_eq_true rfl⟩ (show _ ≤ 603072 by omega) (show _ ≤ 7215210 by omega) zl_6_164 dL_law_251 dL_law_253 dL_law_254 dL_law_257 dL_law_259 dL_law_264 dL_law_266 dL_law_269 dL_law_270 dL_law_271 dL_law_272 dL_law_274 dL_law_275 dL_law_276 dL_law_281 (by decide) (fun L6 f6 hW6 => z_perm [2, 3, 4, 5, 6, 7] rfl (K L6 f6 μ2 _ _ (by omega) (by omega) hW6))

set_option maxRecDepth 100000 in
set_option maxHeartbeats 400000 in
theorem law_1 {p : Program} {la : Launch} {e : Env} {s : State} {m : MethodId} {args : Array Value} {below : List Frame} {meth : Method} {c : Code} {A : Nat → Prop} {Q : State → Prop} {G : zG} {X : (Nat → Prop) → State → Prop} (C : ZC G X p la s m args meth c A 10 ret cL_law "SwathSurveyLaw") (hX : zX X) (h4 : zT4 X) (hfl : la.stackTraces = false) (h5 : zT5 X) {ax : Nat → Nat × Nat} (hT : zT1 X ax) (hO : zT2 X) (hP : zT3 X) {b N : Nat} {xs : Nat → Int32} (hS : va_X b N xs s s.heap) (hbl : b < s.heap.size) (hbA : ¬ A b) (hN : N ≤ 3584) {i : Int} (hi0 : 0 ≤ i) (hi1 : i + 7 ≤ N) {c9 s9 : Nat} (hc9 : c9 + 40 ≤ 603072) (hs9 : s9 + 1000 ≤ 7215210) {L : List Nat} {f : Nat → va_E} {oc om aL aD : Nat} {μ : zMu} (hLW : zLW G L f oc om aL aD μ) (K : ∀ (L2 : List Nat) (f2 : Nat → va_E) (μ2 : zMu) (c2 s2 : Nat), c2 ≤ c9 + 40 → s2 ≤ s9 + 1000 → zLW G L2 f2 oc om aL aD μ2 → ZW G p la e room_1 s m args below meth c A 10 c2 s2 Q L2 f2 2409 (zLb i b oc om aL aD) []) : ZW G p la e room_1 s m args below meth c A 10 c9 s9 Q L f 284 (zLb i b oc om aL aD) [] := by
  obtain ⟨Lc, Lm, ad, t, u, v, φ, ψ, hW⟩ := hLW
  obtain ⟨ω, hR, hI, hK⟩ := hW.C
  have hn := hI.n
  refine z_aload_n C 2 dL_law_284 rfl ?_
  refine z_aload_n C 1 dL_law_285 rfl ?_
  refine z_iload C 0 dL_law_286 rfl ?_
  refine z_iconst C dL_law_288 ?_
  refine z_iadd C dL_law_289 ?_
  refine z_sld C hS hbl hbA (by omega) (by omega) (by omega) dL_law_290 ?_
  refine z_aload_n C 1 dL_law_291 rfl ?_
  refine z_iload C 0 dL_law_292 rfl ?_
  refine z_iconst C dL_law_294 ?_
  refine z_iadd C dL_law_295 ?_
  refine z_sld C hS hbl hbA (by omega) (by omega) (by omega) dL_law_296 ?_
  refine z_aload_n C 1 dL_law_297 rfl ?_
  refine z_iload C 0 dL_law_298 rfl ?_
  refine z_iconst C dL_law_300 ?_
  refine z_iadd C dL_law_301 ?_
  refine z_sld C hS hbl hbA (by omega) (by omega) (by omega) dL_law_302 ?_
  refine z_aload_n C 4 dL_law_303 rfl ?_
  refine z_cSW (As := [.ref oc, .int (iI (zgx xs (i + 1))), .int (iI (zgx xs (i + 2))), .int (iI (zgx xs (i + 3))), .ref aL]) C zcw_setWater (w_setWater hX h4 hfl h5  hW.C hW.s hW.n hW.A hW.l.1 (zgx xs (i + 1)) (zgx xs (i + 2)) (zgx xs (i + 3)) (by first | exact zgx_r _ _ | omega) (by first | exact zgx_r _ _ | omega) (by first | exact zgx_r _ _ | omega) ) zl_3_2 ⟨Nat.le_of_ble_eq_true rfl, Nat.le_of_ble_eq_true rfl⟩ (show _ ≤ 603072 by omega) (show _ ≤ 7215210 by omega) rfl rfl (Nat.le_of_ble_eq_true rfl) dL_law_304 (fun z L3 f3 hq => ?_)
  obtain ⟨Lc2, φ2, hW2, hφ2, hz, h04⟩ := zLWx_w hW hq
  change ZW G p la e room_1 s m args below meth c A 10 (c9 + 8) (s9 + 48) Q L3 f3 307 [(5, .int (iI i)), (0, .ref b), (1, .ref oc), (2, .ref om), (3, .ref aL), (4, .ref aD)] [.int (iI z)]
  refine z_istore (ls' := [(6, .int (iI z)), (5, .int (iI i)), (0, .ref b), (1, .ref oc), (2, .ref om), (3, .ref aL), (4, .ref aD)]) C dL_law_307 (Nat.le_of_ble_eq_true rfl) rfl ?_
  refine z_aload_n C 4 dL_law_309 rfl ?_
  refine z_aload_n C 2 dL_law_310 rfl ?_
  refine z_iload C 1 dL_law_311 rfl ?_
  refine z_iconst C dL_law_313 ?_
  refine z_iadd C dL_law_314 ?_
  refine z_sld C hS hbl hbA (by omega) (by omega) (by omega) dL_law_315 ?_
  refine z_aload_n C 2 dL_law_316 rfl ?_
  refine z_iload C 1 dL_law_317 rfl ?_
  refine z_iconst C dL_law_319 ?_
  refine z_iadd C dL_law_320 ?_
  refine z_sld C hS hbl hbA (by omega) (by omega) (by omega) dL_law_321 ?_
  refine z_aload_n C 2 dL_law_322 rfl ?_
  refine z_iload C 1 dL_law_323 rfl ?_
  refine z_iconst C dL_law_325 ?_
  refine z_iadd C dL_law_326 ?_
  refine z_sld C hS hbl hbA (by omega) (by omega) (by omega) dL_law_327 ?_
  refine z_cVs (As := [.int (iI (zgx xs (i + 1))), .int (iI (zgx xs (i + 2))), .int (iI (zgx xs (i + 3)))]) C hW2.ms hW2.mn zc_X7_setWater (c_X7_setWater hX hW2.M hI (zgx xs (i + 1)) (zgx xs (i + 2)) (zgx xs (i + 3))  (by first | exact zgx_r _ _ | omega) (by first | exact zgx_r _ _ | omega) (by first | exact zgx_r _ _ | omega)) zl_6_183 ⟨Nat.le_of_ble_eq_true rfl, Nat.le_of_ble_eq_true rfl⟩ (show _ ≤ 603072 by omega) (show _ ≤ 7215210 by omega) hW2.M.1.1 hW2.M.1.2 rfl rfl rfl rfl (Nat.le_of_ble_eq_true rfl) dL_law_328 (fun z2 Lm4 f4 L5 f5 hq2 hm2 => ?_)
  obtain ⟨rfl, t2, μ2, u2, v2, hM2, ho⟩ := hq2
  have hW3 := zLWx_m hW2 hm2 hM2
  rw [ho] at hW3 hφ2 hz h04
  obtain rfl : t2 = z := hz.symm
  have h04 : 0 ≤ t2 ∧ t2 ≤ 4 := h04
  exact z_tail (P := 331) C hX hW3 h04 (fun h0 => (hφ2 h0).trans (by show zov (if t2 = 0 then z2 else 0) = zov z2; rw [if_pos h0])) ⟨Nat.le_of_ble_eq_true rfl, Nat.le_of_ble_eq_true rfl⟩ (show _ ≤ 603072 by omega) (show _ ≤ 7215210 by omega) zl_6_164 dL_law_331 dL_law_333 dL_law_334 dL_law_337 dL_law_339 dL_law_344 dL_law_346 dL_law_349 dL_law_350 dL_law_351 dL_law_352 dL_law_354 dL_law_355 dL_law_356 dL_law_361 (by decide) (fun L6 f6 hW6 => z_perm [2, 3, 4, 5, 6, 7] rfl (K L6 f6 μ2 _ _ (by omega) (by omega) hW6))

set_option maxRecDepth 100000 in
set_option maxHeartbeats 400000 in
theorem law_2 {p : Program} {la : Launch} {e : Env} {s : State} {m : MethodId} {args : Array Value} {below : List Frame} {meth : Method} {c : Code} {A : Nat → Prop} {Q : State → Prop} {G : zG} {X : (Nat → Prop) → State → Prop} (C : ZC G X p la s m args meth c A 10 ret cL_law "SwathSurveyLaw") (hX : zX X) (h4 : zT4 X) (hfl : la.stackTraces = false) (h5 : zT5 X) {ax : Nat → Nat × Nat} (hT : zT1 X ax) (hO : zT2 X) (hP : zT3 X) {b N : Nat} {xs : Nat → Int32} (hS : va_X b N xs s s.heap) (hbl : b < s.heap.size) (hbA : ¬ A b) (hN : N ≤ 3584) {i : Int} (hi0 : 0 ≤ i) (hi1 : i + 7 ≤ N) {c9 s9 : Nat} (hc9 : c9 + 40 ≤ 603072) (hs9 : s9 + 1000 ≤ 7215210) {L : List Nat} {f : Nat → va_E} {oc om aL aD : Nat} {μ : zMu} (hLW : zLW G L f oc om aL aD μ) (K : ∀ (L2 : List Nat) (f2 : Nat → va_E) (μ2 : zMu) (c2 s2 : Nat), c2 ≤ c9 + 40 → s2 ≤ s9 + 1000 → zLW G L2 f2 oc om aL aD μ2 → ZW G p la e room_1 s m args below meth c A 10 c2 s2 Q L2 f2 2409 (zLb i b oc om aL aD) []) : ZW G p la e room_1 s m args below meth c A 10 c9 s9 Q L f 364 (zLb i b oc om aL aD) [] := by
  obtain ⟨Lc, Lm, ad, t, u, v, φ, ψ, hW⟩ := hLW
  obtain ⟨ω, hR, hI, hK⟩ := hW.C
  have hn := hI.n
  refine z_aload_n C 2 dL_law_364 rfl ?_
  refine z_aload_n C 1 dL_law_365 rfl ?_
  refine z_iload C 0 dL_law_366 rfl ?_
  refine z_iconst C dL_law_368 ?_
  refine z_iadd C dL_law_369 ?_
  refine z_sld C hS hbl hbA (by omega) (by omega) (by omega) dL_law_370 ?_
  refine z_aload_n C 1 dL_law_371 rfl ?_
  refine z_iload C 0 dL_law_372 rfl ?_
  refine z_iconst C dL_law_374 ?_
  refine z_iadd C dL_law_375 ?_
  refine z_sld C hS hbl hbA (by omega) (by omega) (by omega) dL_law_376 ?_
  refine z_aload_n C 4 dL_law_377 rfl ?_
  refine z_cSW (As := [.ref oc, .int (iI (zgx xs (i + 1))), .int (iI (zgx xs (i + 2))), .ref aL]) C zcw_setSlope (w_setSlope hX h4 hfl h5  hW.C hW.s hW.n hW.A hW.l.1 (zgx xs (i + 1)) (zgx xs (i + 2)) (by first | exact zgx_r _ _ | omega) (by first | exact zgx_r _ _ | omega) ) zl_3_44 ⟨Nat.le_of_ble_eq_true rfl, Nat.le_of_ble_eq_true rfl⟩ (show _ ≤ 603072 by omega) (show _ ≤ 7215210 by omega) rfl rfl (Nat.le_of_ble_eq_true rfl) dL_law_378 (fun z L3 f3 hq => ?_)
  obtain ⟨Lc2, φ2, hW2, hφ2, hz, h04⟩ := zLWx_w hW hq
  change ZW G p la e room_1 s m args below meth c A 10 (c9 + 8) (s9 + 48) Q L3 f3 381 [(5, .int (iI i)), (0, .ref b), (1, .ref oc), (2, .ref om), (3, .ref aL), (4, .ref aD)] [.int (iI z)]
  refine z_istore (ls' := [(6, .int (iI z)), (5, .int (iI i)), (0, .ref b), (1, .ref oc), (2, .ref om), (3, .ref aL), (4, .ref aD)]) C dL_law_381 (Nat.le_of_ble_eq_true rfl) rfl ?_
  refine z_aload_n C 4 dL_law_383 rfl ?_
  refine z_aload_n C 2 dL_law_384 rfl ?_
  refine z_iload C 1 dL_law_385 rfl ?_
  refine z_iconst C dL_law_387 ?_
  refine z_iadd C dL_law_388 ?_
  refine z_sld C hS hbl hbA (by omega) (by omega) (by omega) dL_law_389 ?_
  refine z_aload_n C 2 dL_law_390 rfl ?_
  refine z_iload C 1 dL_law_391 rfl ?_
  refine z_iconst C dL_law_393 ?_
  refine z_iadd C dL_law_394 ?_
  refine z_sld C hS hbl hbA (by omega) (by omega) (by omega) dL_law_395 ?_
  refine z_cVs (As := [.int (iI (zgx xs (i + 1))), .int (iI (zgx xs (i + 2)))]) C hW2.ms hW2.mn zc_X7_setSlope (c_X7_setSlope hX hW2.M hI (zgx xs (i + 1)) (zgx xs (i + 2))  (by first | exact zgx_r _ _ | omega) (by first | exact zgx_r _ _ | omega)) zl_6_191 ⟨Nat.le_of_ble_eq_true rfl, Nat.le_of_ble_eq_true rfl⟩ (show _ ≤ 603072 by omega) (show _ ≤ 7215210 by omega) hW2.M.1.1 hW2.M.1.2 rfl rfl rfl rfl (Nat.le_of_ble_eq_true rfl) dL_law_396 (fun z2 Lm4 f4 L5 f5 hq2 hm2 => ?_)
  obtain ⟨rfl, t2, μ2, u2, v2, hM2, ho⟩ := hq2
  have hW3 := zLWx_m hW2 hm2 hM2
  rw [ho] at hW3 hφ2 hz h04
  obtain rfl : t2 = z := hz.symm
  have h04 : 0 ≤ t2 ∧ t2 ≤ 4 := h04
  exact z_tail (P := 399) C hX hW3 h04 (fun h0 => (hφ2 h0).trans (by show zov (if t2 = 0 then z2 else 0) = zov z2; rw [if_pos h0])) ⟨Nat.le_of_ble_eq_true rfl, Nat.le_of_ble_eq_true rfl⟩ (show _ ≤ 603072 by omega) (show _ ≤ 7215210 by omega) zl_6_164 dL_law_399 dL_law_401 dL_law_402 dL_law_405 dL_law_407 dL_law_412 dL_law_414 dL_law_417 dL_law_418 dL_law_419 dL_law_420 dL_law_422 dL_law_423 dL_law_424 dL_law_429 (by decide) (fun L6 f6 hW6 => z_perm [2, 3, 4, 5, 6, 7] rfl (K L6 f6 μ2 _ _ (by omega) (by omega) hW6))

set_option maxRecDepth 100000 in
set_option maxHeartbeats 400000 in
theorem law_3 {p : Program} {la : Launch} {e : Env} {s : State} {m : MethodId} {args : Array Value} {below : List Frame} {meth : Method} {c : Code} {A : Nat → Prop} {Q : State → Prop} {G : zG} {X : (Nat → Prop) → State → Prop} (C : ZC G X p la s m args meth c A 10 ret cL_law "SwathSurveyLaw") (hX : zX X) (h4 : zT4 X) (hfl : la.stackTraces = false) (h5 : zT5 X) {ax : Nat → Nat × Nat} (hT : zT1 X ax) (hO : zT2 X) (hP : zT3 X) {b N : Nat} {xs : Nat → Int32} (hS : va_X b N xs s s.heap) (hbl : b < s.heap.size) (hbA : ¬ A b) (hN : N ≤ 3584) {i : Int} (hi0 : 0 ≤ i) (hi1 : i + 7 ≤ N) {c9 s9 : Nat} (hc9 : c9 + 40 ≤ 603072) (hs9 : s9 + 1000 ≤ 7215210) {L : List Nat} {f : Nat → va_E} {oc om aL aD : Nat} {μ : zMu} (hLW : zLW G L f oc om aL aD μ) (K : ∀ (L2 : List Nat) (f2 : Nat → va_E) (μ2 : zMu) (c2 s2 : Nat), c2 ≤ c9 + 40 → s2 ≤ s9 + 1000 → zLW G L2 f2 oc om aL aD μ2 → ZW G p la e room_1 s m args below meth c A 10 c2 s2 Q L2 f2 2409 (zLb i b oc om aL aD) []) : ZW G p la e room_1 s m args below meth c A 10 c9 s9 Q L f 432 (zLb i b oc om aL aD) [] := by
  obtain ⟨Lc, Lm, ad, t, u, v, φ, ψ, hW⟩ := hLW
  obtain ⟨ω, hR, hI, hK⟩ := hW.C
  have hn := hI.n
  refine z_aload_n C 2 dL_law_432 rfl ?_
  refine z_aload_n C 1 dL_law_433 rfl ?_
  refine z_iload C 0 dL_law_434 rfl ?_
  refine z_iconst C dL_law_436 ?_
  refine z_iadd C dL_law_437 ?_
  refine z_sld C hS hbl hbA (by omega) (by omega) (by omega) dL_law_438 ?_
  refine z_aload_n C 1 dL_law_439 rfl ?_
  refine z_iload C 0 dL_law_440 rfl ?_
  refine z_iconst C dL_law_442 ?_
  refine z_iadd C dL_law_443 ?_
  refine z_sld C hS hbl hbA (by omega) (by omega) (by omega) dL_law_444 ?_
  refine z_aload_n C 1 dL_law_445 rfl ?_
  refine z_iload C 0 dL_law_446 rfl ?_
  refine z_iconst C dL_law_448 ?_
  refine z_iadd C dL_law_449 ?_
  refine z_sld C hS hbl hbA (by omega) (by omega) (by omega) dL_law_450 ?_
  refine z_aload_n C 4 dL_law_451 rfl ?_
  refine z_cSW (As := [.ref oc, .int (iI (zgx xs (i + 1))), .int (iI (zgx xs (i + 2))), .int (iI (zgx xs (i + 3))), .ref aL]) C zcw_waterAt (w_waterAt hX h4 hfl h5  hW.C hW.s hW.n hW.A hW.l.1 (zgx xs (i + 1)) (zgx xs (i + 2)) (zgx xs (i + 3)) (by first | exact zgx_r _ _ | omega) (by first | exact zgx_r _ _ | omega) (by first | exact zgx_r _ _ | omega) ) zl_3_60 ⟨Nat.le_of_ble_eq_true rfl, Nat.le_of_ble_eq_true rfl⟩ (show _ ≤ 603072 by omega) (show _ ≤ 7215210 by omega) rfl rfl (Nat.le_of_ble_eq_true rfl) dL_law_452 (fun z L3 f3 hq => ?_)
  obtain ⟨Lc2, φ2, hW2, hφ2, hz, h04⟩ := zLWx_w hW hq
  change ZW G p la e room_1 s m args below meth c A 10 (c9 + 8) (s9 + 48) Q L3 f3 455 [(5, .int (iI i)), (0, .ref b), (1, .ref oc), (2, .ref om), (3, .ref aL), (4, .ref aD)] [.int (iI z)]
  refine z_istore (ls' := [(6, .int (iI z)), (5, .int (iI i)), (0, .ref b), (1, .ref oc), (2, .ref om), (3, .ref aL), (4, .ref aD)]) C dL_law_455 (Nat.le_of_ble_eq_true rfl) rfl ?_
  refine z_aload_n C 4 dL_law_457 rfl ?_
  refine z_aload_n C 2 dL_law_458 rfl ?_
  refine z_iload C 1 dL_law_459 rfl ?_
  refine z_iconst C dL_law_461 ?_
  refine z_iadd C dL_law_462 ?_
  refine z_sld C hS hbl hbA (by omega) (by omega) (by omega) dL_law_463 ?_
  refine z_aload_n C 2 dL_law_464 rfl ?_
  refine z_iload C 1 dL_law_465 rfl ?_
  refine z_iconst C dL_law_467 ?_
  refine z_iadd C dL_law_468 ?_
  refine z_sld C hS hbl hbA (by omega) (by omega) (by omega) dL_law_469 ?_
  refine z_aload_n C 2 dL_law_470 rfl ?_
  refine z_iload C 1 dL_law_471 rfl ?_
  refine z_iconst C dL_law_473 ?_
  refine z_iadd C dL_law_474 ?_
  refine z_sld C hS hbl hbA (by omega) (by omega) (by omega) dL_law_475 ?_
  refine z_cVs (As := [.int (iI (zgx xs (i + 1))), .int (iI (zgx xs (i + 2))), .int (iI (zgx xs (i + 3)))]) C hW2.ms hW2.mn zc_X7_waterAt (c_X7_waterAt hX hW2.M hI (zgx xs (i + 1)) (zgx xs (i + 2)) (zgx xs (i + 3))  (by first | exact zgx_r _ _ | omega) (by first | exact zgx_r _ _ | omega) (by first | exact zgx_r _ _ | omega)) zl_6_199 ⟨Nat.le_of_ble_eq_true rfl, Nat.le_of_ble_eq_true rfl⟩ (show _ ≤ 603072 by omega) (show _ ≤ 7215210 by omega) hW2.M.1.1 hW2.M.1.2 rfl rfl rfl rfl (Nat.le_of_ble_eq_true rfl) dL_law_476 (fun z2 Lm4 f4 L5 f5 hq2 hm2 => ?_)
  obtain ⟨rfl, t2, μ2, u2, v2, hM2, ho⟩ := hq2
  have hW3 := zLWx_m hW2 hm2 hM2
  rw [ho] at hW3 hφ2 hz h04
  obtain rfl : t2 = z := hz.symm
  have h04 : 0 ≤ t2 ∧ t2 ≤ 4 := h04
  exact z_tail (P := 479) C hX hW3 h04 (fun h0 => (hφ2 h0).trans (by show zov (if t2 = 0 then z2 else 0) = zov z2; rw [if_pos h0])) ⟨Nat.le_of_ble_eq_true rfl, Nat.le_of_ble_eq_true rfl⟩ (show _ ≤ 603072 by omega) (show _ ≤ 7215210 by omega) zl_6_164 dL_law_479 dL_law_481 dL_law_482 dL_law_485 dL_law_487 dL_law_492 dL_law_494 dL_law_497 dL_law_498 dL_law_499 dL_law_500 dL_law_502 dL_law_503 dL_law_504 dL_law_509 (by decide) (fun L6 f6 hW6 => z_perm [2, 3, 4, 5, 6, 7] rfl (K L6 f6 μ2 _ _ (by omega) (by omega) hW6))

set_option maxRecDepth 100000 in
set_option maxHeartbeats 400000 in
theorem law_4 {p : Program} {la : Launch} {e : Env} {s : State} {m : MethodId} {args : Array Value} {below : List Frame} {meth : Method} {c : Code} {A : Nat → Prop} {Q : State → Prop} {G : zG} {X : (Nat → Prop) → State → Prop} (C : ZC G X p la s m args meth c A 10 ret cL_law "SwathSurveyLaw") (hX : zX X) (h4 : zT4 X) (hfl : la.stackTraces = false) (h5 : zT5 X) {ax : Nat → Nat × Nat} (hT : zT1 X ax) (hO : zT2 X) (hP : zT3 X) {b N : Nat} {xs : Nat → Int32} (hS : va_X b N xs s s.heap) (hbl : b < s.heap.size) (hbA : ¬ A b) (hN : N ≤ 3584) {i : Int} (hi0 : 0 ≤ i) (hi1 : i + 7 ≤ N) {c9 s9 : Nat} (hc9 : c9 + 40 ≤ 603072) (hs9 : s9 + 1000 ≤ 7215210) {L : List Nat} {f : Nat → va_E} {oc om aL aD : Nat} {μ : zMu} (hLW : zLW G L f oc om aL aD μ) (K : ∀ (L2 : List Nat) (f2 : Nat → va_E) (μ2 : zMu) (c2 s2 : Nat), c2 ≤ c9 + 40 → s2 ≤ s9 + 1000 → zLW G L2 f2 oc om aL aD μ2 → ZW G p la e room_1 s m args below meth c A 10 c2 s2 Q L2 f2 2409 (zLb i b oc om aL aD) []) : ZW G p la e room_1 s m args below meth c A 10 c9 s9 Q L f 512 (zLb i b oc om aL aD) [] := by
  obtain ⟨Lc, Lm, ad, t, u, v, φ, ψ, hW⟩ := hLW
  obtain ⟨ω, hR, hI, hK⟩ := hW.C
  have hn := hI.n
  refine z_aload_n C 2 dL_law_512 rfl ?_
  refine z_aload_n C 1 dL_law_513 rfl ?_
  refine z_iload C 0 dL_law_514 rfl ?_
  refine z_iconst C dL_law_516 ?_
  refine z_iadd C dL_law_517 ?_
  refine z_sld C hS hbl hbA (by omega) (by omega) (by omega) dL_law_518 ?_
  refine z_aload_n C 1 dL_law_519 rfl ?_
  refine z_iload C 0 dL_law_520 rfl ?_
  refine z_iconst C dL_law_522 ?_
  refine z_iadd C dL_law_523 ?_
  refine z_sld C hS hbl hbA (by omega) (by omega) (by omega) dL_law_524 ?_
  refine z_aload_n C 4 dL_law_525 rfl ?_
  refine z_cSW (As := [.ref oc, .int (iI (zgx xs (i + 1))), .int (iI (zgx xs (i + 2))), .ref aL]) C zcw_setWeather (w_setWeather hX h4 hfl h5  hW.C hW.s hW.n hW.A hW.l.1 (zgx xs (i + 1)) (zgx xs (i + 2)) (by first | exact zgx_r _ _ | omega) (by first | exact zgx_r _ _ | omega) ) zl_3_72 ⟨Nat.le_of_ble_eq_true rfl, Nat.le_of_ble_eq_true rfl⟩ (show _ ≤ 603072 by omega) (show _ ≤ 7215210 by omega) rfl rfl (Nat.le_of_ble_eq_true rfl) dL_law_526 (fun z L3 f3 hq => ?_)
  obtain ⟨Lc2, φ2, hW2, hφ2, hz, h04⟩ := zLWx_w hW hq
  change ZW G p la e room_1 s m args below meth c A 10 (c9 + 8) (s9 + 48) Q L3 f3 529 [(5, .int (iI i)), (0, .ref b), (1, .ref oc), (2, .ref om), (3, .ref aL), (4, .ref aD)] [.int (iI z)]
  refine z_istore (ls' := [(6, .int (iI z)), (5, .int (iI i)), (0, .ref b), (1, .ref oc), (2, .ref om), (3, .ref aL), (4, .ref aD)]) C dL_law_529 (Nat.le_of_ble_eq_true rfl) rfl ?_
  refine z_aload_n C 4 dL_law_531 rfl ?_
  refine z_aload_n C 2 dL_law_532 rfl ?_
  refine z_iload C 1 dL_law_533 rfl ?_
  refine z_iconst C dL_law_535 ?_
  refine z_iadd C dL_law_536 ?_
  refine z_sld C hS hbl hbA (by omega) (by omega) (by omega) dL_law_537 ?_
  refine z_aload_n C 2 dL_law_538 rfl ?_
  refine z_iload C 1 dL_law_539 rfl ?_
  refine z_iconst C dL_law_541 ?_
  refine z_iadd C dL_law_542 ?_
  refine z_sld C hS hbl hbA (by omega) (by omega) (by omega) dL_law_543 ?_
  refine z_cVs (As := [.int (iI (zgx xs (i + 1))), .int (iI (zgx xs (i + 2)))]) C hW2.ms hW2.mn zc_X7_setWeather (c_X7_setWeather hX hW2.M hI (zgx xs (i + 1)) (zgx xs (i + 2))  (by first | exact zgx_r _ _ | omega) (by first | exact zgx_r _ _ | omega)) zl_6_210 ⟨Nat.le_of_ble_eq_true rfl, Nat.le_of_ble_eq_true rfl⟩ (show _ ≤ 603072 by omega) (show _ ≤ 7215210 by omega) hW2.M.1.1 hW2.M.1.2 rfl rfl rfl rfl (Nat.le_of_ble_eq_true rfl) dL_law_544 (fun z2 Lm4 f4 L5 f5 hq2 hm2 => ?_)
  obtain ⟨rfl, t2, μ2, u2, v2, hM2, ho⟩ := hq2
  have hW3 := zLWx_m hW2 hm2 hM2
  rw [ho] at hW3 hφ2 hz h04
  obtain rfl : t2 = z := hz.symm
  have h04 : 0 ≤ t2 ∧ t2 ≤ 4 := h04
  exact z_tail (P := 547) C hX hW3 h04 (fun h0 => (hφ2 h0).trans (by show zov (if t2 = 0 then z2 else 0) = zov z2; rw [if_pos h0])) ⟨Nat.le_of_ble_eq_true rfl, Nat.le_of_ble_eq_true rfl⟩ (show _ ≤ 603072 by omega) (show _ ≤ 7215210 by omega) zl_6_164 dL_law_547 dL_law_549 dL_law_550 dL_law_553 dL_law_555 dL_law_560 dL_law_562 dL_law_565 dL_law_566 dL_law_567 dL_law_568 dL_law_570 dL_law_571 dL_law_572 dL_law_577 (by decide) (fun L6 f6 hW6 => z_perm [2, 3, 4, 5, 6, 7] rfl (K L6 f6 μ2 _ _ (by omega) (by omega) hW6))

set_option maxRecDepth 100000 in
set_option maxHeartbeats 400000 in
theorem law_5 {p : Program} {la : Launch} {e : Env} {s : State} {m : MethodId} {args : Array Value} {below : List Frame} {meth : Method} {c : Code} {A : Nat → Prop} {Q : State → Prop} {G : zG} {X : (Nat → Prop) → State → Prop} (C : ZC G X p la s m args meth c A 10 ret cL_law "SwathSurveyLaw") (hX : zX X) (h4 : zT4 X) (hfl : la.stackTraces = false) (h5 : zT5 X) {ax : Nat → Nat × Nat} (hT : zT1 X ax) (hO : zT2 X) (hP : zT3 X) {b N : Nat} {xs : Nat → Int32} (hS : va_X b N xs s s.heap) (hbl : b < s.heap.size) (hbA : ¬ A b) (hN : N ≤ 3584) {i : Int} (hi0 : 0 ≤ i) (hi1 : i + 7 ≤ N) {c9 s9 : Nat} (hc9 : c9 + 40 ≤ 603072) (hs9 : s9 + 1000 ≤ 7215210) {L : List Nat} {f : Nat → va_E} {oc om aL aD : Nat} {μ : zMu} (hLW : zLW G L f oc om aL aD μ) (K : ∀ (L2 : List Nat) (f2 : Nat → va_E) (μ2 : zMu) (c2 s2 : Nat), c2 ≤ c9 + 40 → s2 ≤ s9 + 1000 → zLW G L2 f2 oc om aL aD μ2 → ZW G p la e room_1 s m args below meth c A 10 c2 s2 Q L2 f2 2409 (zLb i b oc om aL aD) []) : ZW G p la e room_1 s m args below meth c A 10 c9 s9 Q L f 580 (zLb i b oc om aL aD) [] := by
  obtain ⟨Lc, Lm, ad, t, u, v, φ, ψ, hW⟩ := hLW
  obtain ⟨ω, hR, hI, hK⟩ := hW.C
  have hn := hI.n
  refine z_aload_n C 2 dL_law_580 rfl ?_
  refine z_aload_n C 1 dL_law_581 rfl ?_
  refine z_iload C 0 dL_law_582 rfl ?_
  refine z_iconst C dL_law_584 ?_
  refine z_iadd C dL_law_585 ?_
  refine z_sld C hS hbl hbA (by omega) (by omega) (by omega) dL_law_586 ?_
  refine z_aload_n C 4 dL_law_587 rfl ?_
  refine z_cSW (As := [.ref oc, .int (iI (zgx xs (i + 1))), .ref aL]) C zcw_addGauge (w_addGauge hX h4 hfl h5 hO hW.C hW.s hW.n hW.A hW.l.1 (zgx xs (i + 1)) (by first | exact zgx_r _ _ | omega) ) zl_3_84 ⟨Nat.le_of_ble_eq_true rfl, Nat.le_of_ble_eq_true rfl⟩ (show _ ≤ 603072 by omega) (show _ ≤ 7215210 by omega) rfl rfl (Nat.le_of_ble_eq_true rfl) dL_law_588 (fun z L3 f3 hq => ?_)
  obtain ⟨Lc2, φ2, hW2, hφ2, hz, h04⟩ := zLWx_w hW hq
  change ZW G p la e room_1 s m args below meth c A 10 (c9 + 8) (s9 + 300) Q L3 f3 591 [(5, .int (iI i)), (0, .ref b), (1, .ref oc), (2, .ref om), (3, .ref aL), (4, .ref aD)] [.int (iI z)]
  refine z_istore (ls' := [(6, .int (iI z)), (5, .int (iI i)), (0, .ref b), (1, .ref oc), (2, .ref om), (3, .ref aL), (4, .ref aD)]) C dL_law_591 (Nat.le_of_ble_eq_true rfl) rfl ?_
  refine z_aload_n C 4 dL_law_593 rfl ?_
  refine z_aload_n C 2 dL_law_594 rfl ?_
  refine z_iload C 1 dL_law_595 rfl ?_
  refine z_iconst C dL_law_597 ?_
  refine z_iadd C dL_law_598 ?_
  refine z_sld C hS hbl hbA (by omega) (by omega) (by omega) dL_law_599 ?_
  refine z_cVs (As := [.int (iI (zgx xs (i + 1)))]) C hW2.ms hW2.mn zc_X7_addGauge (c_X7_addGauge hX hW2.M hI (zgx xs (i + 1))  (by first | exact zgx_r _ _ | omega)) zl_6_214 ⟨Nat.le_of_ble_eq_true rfl, Nat.le_of_ble_eq_true rfl⟩ (show _ ≤ 603072 by omega) (show _ ≤ 7215210 by omega) hW2.M.1.1 hW2.M.1.2 rfl rfl rfl rfl (Nat.le_of_ble_eq_true rfl) dL_law_600 (fun z2 Lm4 f4 L5 f5 hq2 hm2 => ?_)
  obtain ⟨rfl, t2, μ2, u2, v2, hM2, ho⟩ := hq2
  have hW3 := zLWx_m hW2 hm2 hM2
  rw [ho] at hW3 hφ2 hz h04
  obtain rfl : t2 = z := hz.symm
  have h04 : 0 ≤ t2 ∧ t2 ≤ 4 := h04
  exact z_tail (P := 603) C hX hW3 h04 (fun h0 => (hφ2 h0).trans (by show zov (if t2 = 0 then z2 else 0) = zov z2; rw [if_pos h0])) ⟨Nat.le_of_ble_eq_true rfl, Nat.le_of_ble_eq_true rfl⟩ (show _ ≤ 603072 by omega) (show _ ≤ 7215210 by omega) zl_6_164 dL_law_603 dL_law_605 dL_law_606 dL_law_609 dL_law_611 dL_law_616 dL_law_618 dL_law_621 dL_law_622 dL_law_623 dL_law_624 dL_law_626 dL_law_627 dL_law_628 dL_law_633 (by decide) (fun L6 f6 hW6 => z_perm [2, 3, 4, 5, 6, 7] rfl (K L6 f6 μ2 _ _ (by omega) (by omega) hW6))

set_option maxRecDepth 100000 in
set_option maxHeartbeats 400000 in
theorem law_6 {p : Program} {la : Launch} {e : Env} {s : State} {m : MethodId} {args : Array Value} {below : List Frame} {meth : Method} {c : Code} {A : Nat → Prop} {Q : State → Prop} {G : zG} {X : (Nat → Prop) → State → Prop} (C : ZC G X p la s m args meth c A 10 ret cL_law "SwathSurveyLaw") (hX : zX X) (h4 : zT4 X) (hfl : la.stackTraces = false) (h5 : zT5 X) {ax : Nat → Nat × Nat} (hT : zT1 X ax) (hO : zT2 X) (hP : zT3 X) {b N : Nat} {xs : Nat → Int32} (hS : va_X b N xs s s.heap) (hbl : b < s.heap.size) (hbA : ¬ A b) (hN : N ≤ 3584) {i : Int} (hi0 : 0 ≤ i) (hi1 : i + 7 ≤ N) {c9 s9 : Nat} (hc9 : c9 + 40 ≤ 603072) (hs9 : s9 + 1000 ≤ 7215210) {L : List Nat} {f : Nat → va_E} {oc om aL aD : Nat} {μ : zMu} (hLW : zLW G L f oc om aL aD μ) (K : ∀ (L2 : List Nat) (f2 : Nat → va_E) (μ2 : zMu) (c2 s2 : Nat), c2 ≤ c9 + 40 → s2 ≤ s9 + 1000 → zLW G L2 f2 oc om aL aD μ2 → ZW G p la e room_1 s m args below meth c A 10 c2 s2 Q L2 f2 2409 (zLb i b oc om aL aD) []) : ZW G p la e room_1 s m args below meth c A 10 c9 s9 Q L f 636 (zLb i b oc om aL aD) [] := by
  obtain ⟨Lc, Lm, ad, t, u, v, φ, ψ, hW⟩ := hLW
  obtain ⟨ω, hR, hI, hK⟩ := hW.C
  have hn := hI.n
  refine z_aload_n C 2 dL_law_636 rfl ?_
  refine z_aload_n C 1 dL_law_637 rfl ?_
  refine z_iload C 0 dL_law_638 rfl ?_
  refine z_iconst C dL_law_640 ?_
  refine z_iadd C dL_law_641 ?_
  refine z_sld C hS hbl hbA (by omega) (by omega) (by omega) dL_law_642 ?_
  refine z_aload_n C 1 dL_law_643 rfl ?_
  refine z_iload C 0 dL_law_644 rfl ?_
  refine z_iconst C dL_law_646 ?_
  refine z_iadd C dL_law_647 ?_
  refine z_sld C hS hbl hbA (by omega) (by omega) (by omega) dL_law_648 ?_
  refine z_aload_n C 1 dL_law_649 rfl ?_
  refine z_iload C 0 dL_law_650 rfl ?_
  refine z_iconst C dL_law_652 ?_
  refine z_iadd C dL_law_653 ?_
  refine z_sld C hS hbl hbA (by omega) (by omega) (by omega) dL_law_654 ?_
  refine z_aload_n C 1 dL_law_655 rfl ?_
  refine z_iload C 0 dL_law_656 rfl ?_
  refine z_iconst C dL_law_658 ?_
  refine z_iadd C dL_law_659 ?_
  refine z_sld C hS hbl hbA (by omega) (by omega) (by omega) dL_law_660 ?_
  refine z_aload_n C 4 dL_law_661 rfl ?_
  refine z_cSW (As := [.ref oc, .int (iI (zgx xs (i + 1))), .int (iI (zgx xs (i + 2))), .int (iI (zgx xs (i + 3))), .int (iI (zgx xs (i + 4))), .ref aL]) C zcw_fail (w_fail hX h4 hfl h5  hW.C hW.s hW.n hW.A hW.l.1 (zgx xs (i + 1)) (zgx xs (i + 2)) (zgx xs (i + 3)) (zgx xs (i + 4)) (by first | exact zgx_r _ _ | omega) (by first | exact zgx_r _ _ | omega) (by first | exact zgx_r _ _ | omega) (by first | exact zgx_r _ _ | omega) ) zl_3_150 ⟨Nat.le_of_ble_eq_true rfl, Nat.le_of_ble_eq_true rfl⟩ (show _ ≤ 603072 by omega) (show _ ≤ 7215210 by omega) rfl rfl (Nat.le_of_ble_eq_true rfl) dL_law_662 (fun z L3 f3 hq => ?_)
  obtain ⟨Lc2, φ2, hW2, hφ2, hz, h04⟩ := zLWx_w hW hq
  change ZW G p la e room_1 s m args below meth c A 10 (c9 + 8) (s9 + 48) Q L3 f3 665 [(5, .int (iI i)), (0, .ref b), (1, .ref oc), (2, .ref om), (3, .ref aL), (4, .ref aD)] [.int (iI z)]
  refine z_istore (ls' := [(6, .int (iI z)), (5, .int (iI i)), (0, .ref b), (1, .ref oc), (2, .ref om), (3, .ref aL), (4, .ref aD)]) C dL_law_665 (Nat.le_of_ble_eq_true rfl) rfl ?_
  refine z_aload_n C 4 dL_law_667 rfl ?_
  refine z_aload_n C 2 dL_law_668 rfl ?_
  refine z_iload C 1 dL_law_669 rfl ?_
  refine z_iconst C dL_law_671 ?_
  refine z_iadd C dL_law_672 ?_
  refine z_sld C hS hbl hbA (by omega) (by omega) (by omega) dL_law_673 ?_
  refine z_aload_n C 2 dL_law_674 rfl ?_
  refine z_iload C 1 dL_law_675 rfl ?_
  refine z_iconst C dL_law_677 ?_
  refine z_iadd C dL_law_678 ?_
  refine z_sld C hS hbl hbA (by omega) (by omega) (by omega) dL_law_679 ?_
  refine z_aload_n C 2 dL_law_680 rfl ?_
  refine z_iload C 1 dL_law_681 rfl ?_
  refine z_iconst C dL_law_683 ?_
  refine z_iadd C dL_law_684 ?_
  refine z_sld C hS hbl hbA (by omega) (by omega) (by omega) dL_law_685 ?_
  refine z_aload_n C 2 dL_law_686 rfl ?_
  refine z_iload C 1 dL_law_687 rfl ?_
  refine z_iconst C dL_law_689 ?_
  refine z_iadd C dL_law_690 ?_
  refine z_sld C hS hbl hbA (by omega) (by omega) (by omega) dL_law_691 ?_
  refine z_cVs (As := [.int (iI (zgx xs (i + 1))), .int (iI (zgx xs (i + 2))), .int (iI (zgx xs (i + 3))), .int (iI (zgx xs (i + 4)))]) C hW2.ms hW2.mn zc_X7_fail (c_X7_fail hX hW2.M hI (zgx xs (i + 1)) (zgx xs (i + 2)) (zgx xs (i + 3)) (zgx xs (i + 4))  (by first | exact zgx_r _ _ | omega) (by first | exact zgx_r _ _ | omega) (by first | exact zgx_r _ _ | omega) (by first | exact zgx_r _ _ | omega)) zl_6_218 ⟨Nat.le_of_ble_eq_true rfl, Nat.le_of_ble_eq_true rfl⟩ (show _ ≤ 603072 by omega) (show _ ≤ 7215210 by omega) hW2.M.1.1 hW2.M.1.2 rfl rfl rfl rfl (Nat.le_of_ble_eq_true rfl) dL_law_692 (fun z2 Lm4 f4 L5 f5 hq2 hm2 => ?_)
  obtain ⟨rfl, t2, μ2, u2, v2, hM2, ho⟩ := hq2
  have hW3 := zLWx_m hW2 hm2 hM2
  rw [ho] at hW3 hφ2 hz h04
  obtain rfl : t2 = z := hz.symm
  have h04 : 0 ≤ t2 ∧ t2 ≤ 4 := h04
  exact z_tail (P := 695) C hX hW3 h04 (fun h0 => (hφ2 h0).trans (by show zov (if t2 = 0 then z2 else 0) = zov z2; rw [if_pos h0])) ⟨Nat.le_of_ble_eq_true rfl, Nat.le_of_ble_eq_true rfl⟩ (show _ ≤ 603072 by omega) (show _ ≤ 7215210 by omega) zl_6_164 dL_law_695 dL_law_697 dL_law_698 dL_law_701 dL_law_703 dL_law_708 dL_law_710 dL_law_713 dL_law_714 dL_law_715 dL_law_716 dL_law_718 dL_law_719 dL_law_720 dL_law_725 (by decide) (fun L6 f6 hW6 => z_perm [2, 3, 4, 5, 6, 7] rfl (K L6 f6 μ2 _ _ (by omega) (by omega) hW6))

set_option maxRecDepth 100000 in
set_option maxHeartbeats 400000 in
theorem law_7 {p : Program} {la : Launch} {e : Env} {s : State} {m : MethodId} {args : Array Value} {below : List Frame} {meth : Method} {c : Code} {A : Nat → Prop} {Q : State → Prop} {G : zG} {X : (Nat → Prop) → State → Prop} (C : ZC G X p la s m args meth c A 10 ret cL_law "SwathSurveyLaw") (hX : zX X) (h4 : zT4 X) (hfl : la.stackTraces = false) (h5 : zT5 X) {ax : Nat → Nat × Nat} (hT : zT1 X ax) (hO : zT2 X) (hP : zT3 X) {b N : Nat} {xs : Nat → Int32} (hS : va_X b N xs s s.heap) (hbl : b < s.heap.size) (hbA : ¬ A b) (hN : N ≤ 3584) {i : Int} (hi0 : 0 ≤ i) (hi1 : i + 7 ≤ N) {c9 s9 : Nat} (hc9 : c9 + 40 ≤ 603072) (hs9 : s9 + 1000 ≤ 7215210) {L : List Nat} {f : Nat → va_E} {oc om aL aD : Nat} {μ : zMu} (hLW : zLW G L f oc om aL aD μ) (K : ∀ (L2 : List Nat) (f2 : Nat → va_E) (μ2 : zMu) (c2 s2 : Nat), c2 ≤ c9 + 40 → s2 ≤ s9 + 1000 → zLW G L2 f2 oc om aL aD μ2 → ZW G p la e room_1 s m args below meth c A 10 c2 s2 Q L2 f2 2409 (zLb i b oc om aL aD) []) : ZW G p la e room_1 s m args below meth c A 10 c9 s9 Q L f 728 (zLb i b oc om aL aD) [] := by
  obtain ⟨Lc, Lm, ad, t, u, v, φ, ψ, hW⟩ := hLW
  obtain ⟨ω, hR, hI, hK⟩ := hW.C
  have hn := hI.n
  refine z_aload_n C 2 dL_law_728 rfl ?_
  refine z_aload_n C 1 dL_law_729 rfl ?_
  refine z_iload C 0 dL_law_730 rfl ?_
  refine z_iconst C dL_law_732 ?_
  refine z_iadd C dL_law_733 ?_
  refine z_sld C hS hbl hbA (by omega) (by omega) (by omega) dL_law_734 ?_
  refine z_aload_n C 1 dL_law_735 rfl ?_
  refine z_iload C 0 dL_law_736 rfl ?_
  refine z_iconst C dL_law_738 ?_
  refine z_iadd C dL_law_739 ?_
  refine z_sld C hS hbl hbA (by omega) (by omega) (by omega) dL_law_740 ?_
  refine z_aload_n C 4 dL_law_741 rfl ?_
  refine z_cSW (As := [.ref oc, .int (iI (zgx xs (i + 1))), .int (iI (zgx xs (i + 2))), .ref aL]) C zcw_mend (w_mend hX h4 hfl h5  hW.C hW.s hW.n hW.A hW.l.1 (zgx xs (i + 1)) (zgx xs (i + 2)) (by first | exact zgx_r _ _ | omega) (by first | exact zgx_r _ _ | omega) ) zl_3_189 ⟨Nat.le_of_ble_eq_true rfl, Nat.le_of_ble_eq_true rfl⟩ (show _ ≤ 603072 by omega) (show _ ≤ 7215210 by omega) rfl rfl (Nat.le_of_ble_eq_true rfl) dL_law_742 (fun z L3 f3 hq => ?_)
  obtain ⟨Lc2, φ2, hW2, hφ2, hz, h04⟩ := zLWx_w hW hq
  change ZW G p la e room_1 s m args below meth c A 10 (c9 + 8) (s9 + 48) Q L3 f3 745 [(5, .int (iI i)), (0, .ref b), (1, .ref oc), (2, .ref om), (3, .ref aL), (4, .ref aD)] [.int (iI z)]
  refine z_istore (ls' := [(6, .int (iI z)), (5, .int (iI i)), (0, .ref b), (1, .ref oc), (2, .ref om), (3, .ref aL), (4, .ref aD)]) C dL_law_745 (Nat.le_of_ble_eq_true rfl) rfl ?_
  refine z_aload_n C 4 dL_law_747 rfl ?_
  refine z_aload_n C 2 dL_law_748 rfl ?_
  refine z_iload C 1 dL_law_749 rfl ?_
  refine z_iconst C dL_law_751 ?_
  refine z_iadd C dL_law_752 ?_
  refine z_sld C hS hbl hbA (by omega) (by omega) (by omega) dL_law_753 ?_
  refine z_aload_n C 2 dL_law_754 rfl ?_
  refine z_iload C 1 dL_law_755 rfl ?_
  refine z_iconst C dL_law_757 ?_
  refine z_iadd C dL_law_758 ?_
  refine z_sld C hS hbl hbA (by omega) (by omega) (by omega) dL_law_759 ?_
  refine z_cVs (As := [.int (iI (zgx xs (i + 1))), .int (iI (zgx xs (i + 2)))]) C hW2.ms hW2.mn zc_X7_mend (c_X7_mend hX hW2.M hI (zgx xs (i + 1)) (zgx xs (i + 2))  (by first | exact zgx_r _ _ | omega) (by first | exact zgx_r _ _ | omega)) zl_6_230 ⟨Nat.le_of_ble_eq_true rfl, Nat.le_of_ble_eq_true rfl⟩ (show _ ≤ 603072 by omega) (show _ ≤ 7215210 by omega) hW2.M.1.1 hW2.M.1.2 rfl rfl rfl rfl (Nat.le_of_ble_eq_true rfl) dL_law_760 (fun z2 Lm4 f4 L5 f5 hq2 hm2 => ?_)
  obtain ⟨rfl, t2, μ2, u2, v2, hM2, ho⟩ := hq2
  have hW3 := zLWx_m hW2 hm2 hM2
  rw [ho] at hW3 hφ2 hz h04
  obtain rfl : t2 = z := hz.symm
  have h04 : 0 ≤ t2 ∧ t2 ≤ 4 := h04
  exact z_tail (P := 763) C hX hW3 h04 (fun h0 => (hφ2 h0).trans (by show zov (if t2 = 0 then z2 else 0) = zov z2; rw [if_pos h0])) ⟨Nat.le_of_ble_eq_true rfl, Nat.le_of_ble_eq_true rfl⟩ (show _ ≤ 603072 by omega) (show _ ≤ 7215210 by omega) zl_6_164 dL_law_763 dL_law_765 dL_law_766 dL_law_769 dL_law_771 dL_law_776 dL_law_778 dL_law_781 dL_law_782 dL_law_783 dL_law_784 dL_law_786 dL_law_787 dL_law_788 dL_law_793 (by decide) (fun L6 f6 hW6 => z_perm [2, 3, 4, 5, 6, 7] rfl (K L6 f6 μ2 _ _ (by omega) (by omega) hW6))

set_option maxRecDepth 100000 in
set_option maxHeartbeats 400000 in
theorem law_8 {p : Program} {la : Launch} {e : Env} {s : State} {m : MethodId} {args : Array Value} {below : List Frame} {meth : Method} {c : Code} {A : Nat → Prop} {Q : State → Prop} {G : zG} {X : (Nat → Prop) → State → Prop} (C : ZC G X p la s m args meth c A 10 ret cL_law "SwathSurveyLaw") (hX : zX X) (h4 : zT4 X) (hfl : la.stackTraces = false) (h5 : zT5 X) {ax : Nat → Nat × Nat} (hT : zT1 X ax) (hO : zT2 X) (hP : zT3 X) {b N : Nat} {xs : Nat → Int32} (hS : va_X b N xs s s.heap) (hbl : b < s.heap.size) (hbA : ¬ A b) (hN : N ≤ 3584) {i : Int} (hi0 : 0 ≤ i) (hi1 : i + 7 ≤ N) {c9 s9 : Nat} (hc9 : c9 + 40 ≤ 603072) (hs9 : s9 + 1000 ≤ 7215210) {L : List Nat} {f : Nat → va_E} {oc om aL aD : Nat} {μ : zMu} (hLW : zLW G L f oc om aL aD μ) (K : ∀ (L2 : List Nat) (f2 : Nat → va_E) (μ2 : zMu) (c2 s2 : Nat), c2 ≤ c9 + 40 → s2 ≤ s9 + 1000 → zLW G L2 f2 oc om aL aD μ2 → ZW G p la e room_1 s m args below meth c A 10 c2 s2 Q L2 f2 2409 (zLb i b oc om aL aD) []) : ZW G p la e room_1 s m args below meth c A 10 c9 s9 Q L f 796 (zLb i b oc om aL aD) [] := by
  obtain ⟨Lc, Lm, ad, t, u, v, φ, ψ, hW⟩ := hLW
  obtain ⟨ω, hR, hI, hK⟩ := hW.C
  have hn := hI.n
  refine z_aload_n C 2 dL_law_796 rfl ?_
  refine z_aload_n C 1 dL_law_797 rfl ?_
  refine z_iload C 0 dL_law_798 rfl ?_
  refine z_iconst C dL_law_800 ?_
  refine z_iadd C dL_law_801 ?_
  refine z_sld C hS hbl hbA (by omega) (by omega) (by omega) dL_law_802 ?_
  refine z_aload_n C 1 dL_law_803 rfl ?_
  refine z_iload C 0 dL_law_804 rfl ?_
  refine z_iconst C dL_law_806 ?_
  refine z_iadd C dL_law_807 ?_
  refine z_sld C hS hbl hbA (by omega) (by omega) (by omega) dL_law_808 ?_
  refine z_aload_n C 1 dL_law_809 rfl ?_
  refine z_iload C 0 dL_law_810 rfl ?_
  refine z_iconst C dL_law_812 ?_
  refine z_iadd C dL_law_813 ?_
  refine z_sld C hS hbl hbA (by omega) (by omega) (by omega) dL_law_814 ?_
  refine z_aload_n C 4 dL_law_815 rfl ?_
  refine z_cSW (As := [.ref oc, .int (iI (zgx xs (i + 1))), .int (iI (zgx xs (i + 2))), .int (iI (zgx xs (i + 3))), .ref aL]) C zcw_told (w_told hX h4 hfl h5  hW.C hW.s hW.n hW.A hW.l.1 (zgx xs (i + 1)) (zgx xs (i + 2)) (zgx xs (i + 3)) (by first | exact zgx_r _ _ | omega) (by first | exact zgx_r _ _ | omega) (by first | exact zgx_r _ _ | omega) ) zl_3_200 ⟨Nat.le_of_ble_eq_true rfl, Nat.le_of_ble_eq_true rfl⟩ (show _ ≤ 603072 by omega) (show _ ≤ 7215210 by omega) rfl rfl (Nat.le_of_ble_eq_true rfl) dL_law_816 (fun z L3 f3 hq => ?_)
  obtain ⟨Lc2, φ2, hW2, hφ2, hz, h04⟩ := zLWx_w hW hq
  change ZW G p la e room_1 s m args below meth c A 10 (c9 + 8) (s9 + 48) Q L3 f3 819 [(5, .int (iI i)), (0, .ref b), (1, .ref oc), (2, .ref om), (3, .ref aL), (4, .ref aD)] [.int (iI z)]
  refine z_istore (ls' := [(6, .int (iI z)), (5, .int (iI i)), (0, .ref b), (1, .ref oc), (2, .ref om), (3, .ref aL), (4, .ref aD)]) C dL_law_819 (Nat.le_of_ble_eq_true rfl) rfl ?_
  refine z_aload_n C 4 dL_law_821 rfl ?_
  refine z_aload_n C 2 dL_law_822 rfl ?_
  refine z_iload C 1 dL_law_823 rfl ?_
  refine z_iconst C dL_law_825 ?_
  refine z_iadd C dL_law_826 ?_
  refine z_sld C hS hbl hbA (by omega) (by omega) (by omega) dL_law_827 ?_
  refine z_aload_n C 2 dL_law_828 rfl ?_
  refine z_iload C 1 dL_law_829 rfl ?_
  refine z_iconst C dL_law_831 ?_
  refine z_iadd C dL_law_832 ?_
  refine z_sld C hS hbl hbA (by omega) (by omega) (by omega) dL_law_833 ?_
  refine z_aload_n C 2 dL_law_834 rfl ?_
  refine z_iload C 1 dL_law_835 rfl ?_
  refine z_iconst C dL_law_837 ?_
  refine z_iadd C dL_law_838 ?_
  refine z_sld C hS hbl hbA (by omega) (by omega) (by omega) dL_law_839 ?_
  refine z_cVs (As := [.int (iI (zgx xs (i + 1))), .int (iI (zgx xs (i + 2))), .int (iI (zgx xs (i + 3)))]) C hW2.ms hW2.mn zc_X7_told (c_X7_told hX hW2.M hI (zgx xs (i + 1)) (zgx xs (i + 2)) (zgx xs (i + 3))  (by first | exact zgx_r _ _ | omega) (by first | exact zgx_r _ _ | omega) (by first | exact zgx_r _ _ | omega)) zl_6_234 ⟨Nat.le_of_ble_eq_true rfl, Nat.le_of_ble_eq_true rfl⟩ (show _ ≤ 603072 by omega) (show _ ≤ 7215210 by omega) hW2.M.1.1 hW2.M.1.2 rfl rfl rfl rfl (Nat.le_of_ble_eq_true rfl) dL_law_840 (fun z2 Lm4 f4 L5 f5 hq2 hm2 => ?_)
  obtain ⟨rfl, t2, μ2, u2, v2, hM2, ho⟩ := hq2
  have hW3 := zLWx_m hW2 hm2 hM2
  rw [ho] at hW3 hφ2 hz h04
  obtain rfl : t2 = z := hz.symm
  have h04 : 0 ≤ t2 ∧ t2 ≤ 4 := h04
  exact z_tail (P := 843) C hX hW3 h04 (fun h0 => (hφ2 h0).trans (by show zov (if t2 = 0 then z2 else 0) = zov z2; rw [if_pos h0])) ⟨Nat.le_of_ble_eq_true rfl, Nat.le_of_ble_eq_true rfl⟩ (show _ ≤ 603072 by omega) (show _ ≤ 7215210 by omega) zl_6_164 dL_law_843 dL_law_845 dL_law_846 dL_law_849 dL_law_851 dL_law_856 dL_law_858 dL_law_861 dL_law_862 dL_law_863 dL_law_864 dL_law_866 dL_law_867 dL_law_868 dL_law_873 (by decide) (fun L6 f6 hW6 => z_perm [2, 3, 4, 5, 6, 7] rfl (K L6 f6 μ2 _ _ (by omega) (by omega) hW6))

set_option maxRecDepth 100000 in
set_option maxHeartbeats 400000 in
theorem law_9 {p : Program} {la : Launch} {e : Env} {s : State} {m : MethodId} {args : Array Value} {below : List Frame} {meth : Method} {c : Code} {A : Nat → Prop} {Q : State → Prop} {G : zG} {X : (Nat → Prop) → State → Prop} (C : ZC G X p la s m args meth c A 10 ret cL_law "SwathSurveyLaw") (hX : zX X) (h4 : zT4 X) (hfl : la.stackTraces = false) (h5 : zT5 X) {ax : Nat → Nat × Nat} (hT : zT1 X ax) (hO : zT2 X) (hP : zT3 X) {b N : Nat} {xs : Nat → Int32} (hS : va_X b N xs s s.heap) (hbl : b < s.heap.size) (hbA : ¬ A b) (hN : N ≤ 3584) {i : Int} (hi0 : 0 ≤ i) (hi1 : i + 7 ≤ N) {c9 s9 : Nat} (hc9 : c9 + 40 ≤ 603072) (hs9 : s9 + 1000 ≤ 7215210) {L : List Nat} {f : Nat → va_E} {oc om aL aD : Nat} {μ : zMu} (hLW : zLW G L f oc om aL aD μ) (K : ∀ (L2 : List Nat) (f2 : Nat → va_E) (μ2 : zMu) (c2 s2 : Nat), c2 ≤ c9 + 40 → s2 ≤ s9 + 1000 → zLW G L2 f2 oc om aL aD μ2 → ZW G p la e room_1 s m args below meth c A 10 c2 s2 Q L2 f2 2409 (zLb i b oc om aL aD) []) : ZW G p la e room_1 s m args below meth c A 10 c9 s9 Q L f 876 (zLb i b oc om aL aD) [] := by
  obtain ⟨Lc, Lm, ad, t, u, v, φ, ψ, hW⟩ := hLW
  obtain ⟨ω, hR, hI, hK⟩ := hW.C
  have hn := hI.n
  refine z_aload_n C 2 dL_law_876 rfl ?_
  refine z_aload_n C 1 dL_law_877 rfl ?_
  refine z_iload C 0 dL_law_878 rfl ?_
  refine z_iconst C dL_law_880 ?_
  refine z_iadd C dL_law_881 ?_
  refine z_sld C hS hbl hbA (by omega) (by omega) (by omega) dL_law_882 ?_
  refine z_aload_n C 1 dL_law_883 rfl ?_
  refine z_iload C 0 dL_law_884 rfl ?_
  refine z_iconst C dL_law_886 ?_
  refine z_iadd C dL_law_887 ?_
  refine z_sld C hS hbl hbA (by omega) (by omega) (by omega) dL_law_888 ?_
  refine z_aload_n C 1 dL_law_889 rfl ?_
  refine z_iload C 0 dL_law_890 rfl ?_
  refine z_iconst C dL_law_892 ?_
  refine z_iadd C dL_law_893 ?_
  refine z_sld C hS hbl hbA (by omega) (by omega) (by omega) dL_law_894 ?_
  refine z_aload_n C 4 dL_law_895 rfl ?_
  refine z_cSW (As := [.ref oc, .int (iI (zgx xs (i + 1))), .int (iI (zgx xs (i + 2))), .int (iI (zgx xs (i + 3))), .ref aL]) C zcw_tide (w_tide hX h4 hfl h5  hW.C hW.s hW.n hW.A hW.l.1 (zgx xs (i + 1)) (zgx xs (i + 2)) (zgx xs (i + 3)) (by first | exact zgx_r _ _ | omega) (by first | exact zgx_r _ _ | omega) (by first | exact zgx_r _ _ | omega) ) zl_3_209 ⟨Nat.le_of_ble_eq_true rfl, Nat.le_of_ble_eq_true rfl⟩ (show _ ≤ 603072 by omega) (show _ ≤ 7215210 by omega) rfl rfl (Nat.le_of_ble_eq_true rfl) dL_law_896 (fun z L3 f3 hq => ?_)
  obtain ⟨Lc2, φ2, hW2, hφ2, hz, h04⟩ := zLWx_w hW hq
  change ZW G p la e room_1 s m args below meth c A 10 (c9 + 8) (s9 + 48) Q L3 f3 899 [(5, .int (iI i)), (0, .ref b), (1, .ref oc), (2, .ref om), (3, .ref aL), (4, .ref aD)] [.int (iI z)]
  refine z_istore (ls' := [(6, .int (iI z)), (5, .int (iI i)), (0, .ref b), (1, .ref oc), (2, .ref om), (3, .ref aL), (4, .ref aD)]) C dL_law_899 (Nat.le_of_ble_eq_true rfl) rfl ?_
  refine z_aload_n C 4 dL_law_901 rfl ?_
  refine z_aload_n C 2 dL_law_902 rfl ?_
  refine z_iload C 1 dL_law_903 rfl ?_
  refine z_iconst C dL_law_905 ?_
  refine z_iadd C dL_law_906 ?_
  refine z_sld C hS hbl hbA (by omega) (by omega) (by omega) dL_law_907 ?_
  refine z_aload_n C 2 dL_law_908 rfl ?_
  refine z_iload C 1 dL_law_909 rfl ?_
  refine z_iconst C dL_law_911 ?_
  refine z_iadd C dL_law_912 ?_
  refine z_sld C hS hbl hbA (by omega) (by omega) (by omega) dL_law_913 ?_
  refine z_aload_n C 2 dL_law_914 rfl ?_
  refine z_iload C 1 dL_law_915 rfl ?_
  refine z_iconst C dL_law_917 ?_
  refine z_iadd C dL_law_918 ?_
  refine z_sld C hS hbl hbA (by omega) (by omega) (by omega) dL_law_919 ?_
  refine z_cVs (As := [.int (iI (zgx xs (i + 1))), .int (iI (zgx xs (i + 2))), .int (iI (zgx xs (i + 3)))]) C hW2.ms hW2.mn zc_X7_tide (c_X7_tide hX hW2.M hI (zgx xs (i + 1)) (zgx xs (i + 2)) (zgx xs (i + 3))  (by first | exact zgx_r _ _ | omega) (by first | exact zgx_r _ _ | omega) (by first | exact zgx_r _ _ | omega)) zl_7_3 ⟨Nat.le_of_ble_eq_true rfl, Nat.le_of_ble_eq_true rfl⟩ (show _ ≤ 603072 by omega) (show _ ≤ 7215210 by omega) hW2.M.1.1 hW2.M.1.2 rfl rfl rfl rfl (Nat.le_of_ble_eq_true rfl) dL_law_920 (fun z2 Lm4 f4 L5 f5 hq2 hm2 => ?_)
  obtain ⟨rfl, t2, μ2, u2, v2, hM2, ho⟩ := hq2
  have hW3 := zLWx_m hW2 hm2 hM2
  rw [ho] at hW3 hφ2 hz h04
  obtain rfl : t2 = z := hz.symm
  have h04 : 0 ≤ t2 ∧ t2 ≤ 4 := h04
  exact z_tail (P := 923) C hX hW3 h04 (fun h0 => (hφ2 h0).trans (by show zov (if t2 = 0 then z2 else 0) = zov z2; rw [if_pos h0])) ⟨Nat.le_of_ble_eq_true rfl, Nat.le_of_ble_eq_true rfl⟩ (show _ ≤ 603072 by omega) (show _ ≤ 7215210 by omega) zl_6_164 dL_law_923 dL_law_925 dL_law_926 dL_law_929 dL_law_931 dL_law_936 dL_law_938 dL_law_941 dL_law_942 dL_law_943 dL_law_944 dL_law_946 dL_law_947 dL_law_948 dL_law_953 (by decide) (fun L6 f6 hW6 => z_perm [2, 3, 4, 5, 6, 7] rfl (K L6 f6 μ2 _ _ (by omega) (by omega) hW6))

set_option maxRecDepth 100000 in
set_option maxHeartbeats 400000 in
theorem law_10 {p : Program} {la : Launch} {e : Env} {s : State} {m : MethodId} {args : Array Value} {below : List Frame} {meth : Method} {c : Code} {A : Nat → Prop} {Q : State → Prop} {G : zG} {X : (Nat → Prop) → State → Prop} (C : ZC G X p la s m args meth c A 10 ret cL_law "SwathSurveyLaw") (hX : zX X) (h4 : zT4 X) (hfl : la.stackTraces = false) (h5 : zT5 X) {ax : Nat → Nat × Nat} (hT : zT1 X ax) (hO : zT2 X) (hP : zT3 X) {b N : Nat} {xs : Nat → Int32} (hS : va_X b N xs s s.heap) (hbl : b < s.heap.size) (hbA : ¬ A b) (hN : N ≤ 3584) {i : Int} (hi0 : 0 ≤ i) (hi1 : i + 7 ≤ N) {c9 s9 : Nat} (hc9 : c9 + 40 ≤ 603072) (hs9 : s9 + 1000 ≤ 7215210) {L : List Nat} {f : Nat → va_E} {oc om aL aD : Nat} {μ : zMu} (hLW : zLW G L f oc om aL aD μ) (K : ∀ (L2 : List Nat) (f2 : Nat → va_E) (μ2 : zMu) (c2 s2 : Nat), c2 ≤ c9 + 40 → s2 ≤ s9 + 1000 → zLW G L2 f2 oc om aL aD μ2 → ZW G p la e room_1 s m args below meth c A 10 c2 s2 Q L2 f2 2409 (zLb i b oc om aL aD) []) : ZW G p la e room_1 s m args below meth c A 10 c9 s9 Q L f 956 (zLb i b oc om aL aD) [] := by
  obtain ⟨Lc, Lm, ad, t, u, v, φ, ψ, hW⟩ := hLW
  obtain ⟨ω, hR, hI, hK⟩ := hW.C
  have hn := hI.n
  refine z_aload_n C 2 dL_law_956 rfl ?_
  refine z_aload_n C 1 dL_law_957 rfl ?_
  refine z_iload C 0 dL_law_958 rfl ?_
  refine z_iconst C dL_law_960 ?_
  refine z_iadd C dL_law_961 ?_
  refine z_sld C hS hbl hbA (by omega) (by omega) (by omega) dL_law_962 ?_
  refine z_i2cR C (zgx_r _ _) dL_law_963 ?_
  refine z_aload_n C 1 dL_law_964 rfl ?_
  refine z_iload C 0 dL_law_965 rfl ?_
  refine z_iconst C dL_law_967 ?_
  refine z_iadd C dL_law_968 ?_
  refine z_sld C hS hbl hbA (by omega) (by omega) (by omega) dL_law_969 ?_
  refine z_aload_n C 1 dL_law_970 rfl ?_
  refine z_iload C 0 dL_law_971 rfl ?_
  refine z_iconst C dL_law_973 ?_
  refine z_iadd C dL_law_974 ?_
  refine z_sld C hS hbl hbA (by omega) (by omega) (by omega) dL_law_975 ?_
  refine z_aload_n C 1 dL_law_976 rfl ?_
  refine z_iload C 0 dL_law_977 rfl ?_
  refine z_iconst C dL_law_979 ?_
  refine z_iadd C dL_law_980 ?_
  refine z_sld C hS hbl hbA (by omega) (by omega) (by omega) dL_law_981 ?_
  refine z_aload_n C 1 dL_law_982 rfl ?_
  refine z_iload C 0 dL_law_983 rfl ?_
  refine z_iconst C dL_law_985 ?_
  refine z_iadd C dL_law_986 ?_
  refine z_sld C hS hbl hbA (by omega) (by omega) (by omega) dL_law_987 ?_
  refine z_aload_n C 1 dL_law_988 rfl ?_
  refine z_iload C 0 dL_law_989 rfl ?_
  refine z_bipush C dL_law_991 (by decide) ?_
  refine z_iadd C dL_law_993 ?_
  refine z_sld C hS hbl hbA (by omega) (by omega) (by omega) dL_law_994 ?_
  refine z_aload_n C 4 dL_law_995 rfl ?_
  refine z_cSW (As := [.ref oc, .int (iI (zgx xs (i + 1) % 65536)), .int (iI (zgx xs (i + 2))), .int (iI (zgx xs (i + 3))), .int (iI (zgx xs (i + 4))), .int (iI (zgx xs (i + 5))), .int (iI (zgx xs (i + 6))), .ref aL]) C zcw_run (w_run hX h4 hfl h5  hW.C hW.s hW.n hW.A hW.l.1 (zgx xs (i + 1) % 65536) (zgx xs (i + 2)) (zgx xs (i + 3)) (zgx xs (i + 4)) (zgx xs (i + 5)) (zgx xs (i + 6)) (by first | exact zgx_r _ _ | omega) (by first | exact zgx_r _ _ | omega) (by first | exact zgx_r _ _ | omega) (by first | exact zgx_r _ _ | omega) (by first | exact zgx_r _ _ | omega) (by first | exact zgx_r _ _ | omega) ) zl_3_218 ⟨Nat.le_of_ble_eq_true rfl, Nat.le_of_ble_eq_true rfl⟩ (show _ ≤ 603072 by omega) (show _ ≤ 7215210 by omega) rfl rfl (Nat.le_of_ble_eq_true rfl) dL_law_996 (fun z L3 f3 hq => ?_)
  obtain ⟨Lc2, φ2, hW2, hφ2, hz, h04⟩ := zLWx_w hW hq
  change ZW G p la e room_1 s m args below meth c A 10 (c9 + 16) (s9 + 600) Q L3 f3 999 [(5, .int (iI i)), (0, .ref b), (1, .ref oc), (2, .ref om), (3, .ref aL), (4, .ref aD)] [.int (iI z)]
  refine z_istore (ls' := [(6, .int (iI z)), (5, .int (iI i)), (0, .ref b), (1, .ref oc), (2, .ref om), (3, .ref aL), (4, .ref aD)]) C dL_law_999 (Nat.le_of_ble_eq_true rfl) rfl ?_
  refine z_aload_n C 4 dL_law_1001 rfl ?_
  refine z_aload_n C 2 dL_law_1002 rfl ?_
  refine z_iload C 1 dL_law_1003 rfl ?_
  refine z_iconst C dL_law_1005 ?_
  refine z_iadd C dL_law_1006 ?_
  refine z_sld C hS hbl hbA (by omega) (by omega) (by omega) dL_law_1007 ?_
  refine z_i2cR C (zgx_r _ _) dL_law_1008 ?_
  refine z_aload_n C 2 dL_law_1009 rfl ?_
  refine z_iload C 1 dL_law_1010 rfl ?_
  refine z_iconst C dL_law_1012 ?_
  refine z_iadd C dL_law_1013 ?_
  refine z_sld C hS hbl hbA (by omega) (by omega) (by omega) dL_law_1014 ?_
  refine z_aload_n C 2 dL_law_1015 rfl ?_
  refine z_iload C 1 dL_law_1016 rfl ?_
  refine z_iconst C dL_law_1018 ?_
  refine z_iadd C dL_law_1019 ?_
  refine z_sld C hS hbl hbA (by omega) (by omega) (by omega) dL_law_1020 ?_
  refine z_aload_n C 2 dL_law_1021 rfl ?_
  refine z_iload C 1 dL_law_1022 rfl ?_
  refine z_iconst C dL_law_1024 ?_
  refine z_iadd C dL_law_1025 ?_
  refine z_sld C hS hbl hbA (by omega) (by omega) (by omega) dL_law_1026 ?_
  refine z_aload_n C 2 dL_law_1027 rfl ?_
  refine z_iload C 1 dL_law_1028 rfl ?_
  refine z_iconst C dL_law_1030 ?_
  refine z_iadd C dL_law_1031 ?_
  refine z_sld C hS hbl hbA (by omega) (by omega) (by omega) dL_law_1032 ?_
  refine z_aload_n C 2 dL_law_1033 rfl ?_
  refine z_iload C 1 dL_law_1034 rfl ?_
  refine z_bipush C dL_law_1036 (by decide) ?_
  refine z_iadd C dL_law_1038 ?_
  refine z_sld C hS hbl hbA (by omega) (by omega) (by omega) dL_law_1039 ?_
  refine z_cVs (As := [.int (iI (zgx xs (i + 1) % 65536)), .int (iI (zgx xs (i + 2))), .int (iI (zgx xs (i + 3))), .int (iI (zgx xs (i + 4))), .int (iI (zgx xs (i + 5))), .int (iI (zgx xs (i + 6)))]) C hW2.ms hW2.mn zc_X7_run (c_X7_run hX hW2.M hI (zgx xs (i + 1) % 65536) (zgx xs (i + 2)) (zgx xs (i + 3)) (zgx xs (i + 4)) (zgx xs (i + 5)) (zgx xs (i + 6))  (by first | exact zgx_r _ _ | omega) (by first | exact zgx_r _ _ | omega) (by first | exact zgx_r _ _ | omega) (by first | exact zgx_r _ _ | omega) (by first | exact zgx_r _ _ | omega) (by first | exact zgx_r _ _ | omega)) zl_7_11 ⟨Nat.le_of_ble_eq_true rfl, Nat.le_of_ble_eq_true rfl⟩ (show _ ≤ 603072 by omega) (show _ ≤ 7215210 by omega) hW2.M.1.1 hW2.M.1.2 rfl rfl rfl rfl (Nat.le_of_ble_eq_true rfl) dL_law_1040 (fun z2 Lm4 f4 L5 f5 hq2 hm2 => ?_)
  obtain ⟨rfl, t2, μ2, u2, v2, hM2, ho⟩ := hq2
  have hW3 := zLWx_m hW2 hm2 hM2
  rw [ho] at hW3 hφ2 hz h04
  obtain rfl : t2 = z := hz.symm
  have h04 : 0 ≤ t2 ∧ t2 ≤ 4 := h04
  exact z_tail (P := 1043) C hX hW3 h04 (fun h0 => (hφ2 h0).trans (by show zov (if t2 = 0 then z2 else 0) = zov z2; rw [if_pos h0])) ⟨Nat.le_of_ble_eq_true rfl, Nat.le_of_ble_eq_true rfl⟩ (show _ ≤ 603072 by omega) (show _ ≤ 7215210 by omega) zl_6_164 dL_law_1043 dL_law_1045 dL_law_1046 dL_law_1049 dL_law_1051 dL_law_1056 dL_law_1058 dL_law_1061 dL_law_1062 dL_law_1063 dL_law_1064 dL_law_1066 dL_law_1067 dL_law_1068 dL_law_1073 (by decide) (fun L6 f6 hW6 => z_perm [2, 3, 4, 5, 6, 7] rfl (K L6 f6 μ2 _ _ (by omega) (by omega) hW6))

set_option maxRecDepth 100000 in
set_option maxHeartbeats 400000 in
theorem law_11 {p : Program} {la : Launch} {e : Env} {s : State} {m : MethodId} {args : Array Value} {below : List Frame} {meth : Method} {c : Code} {A : Nat → Prop} {Q : State → Prop} {G : zG} {X : (Nat → Prop) → State → Prop} (C : ZC G X p la s m args meth c A 10 ret cL_law "SwathSurveyLaw") (hX : zX X) (h4 : zT4 X) (hfl : la.stackTraces = false) (h5 : zT5 X) {ax : Nat → Nat × Nat} (hT : zT1 X ax) (hO : zT2 X) (hP : zT3 X) {b N : Nat} {xs : Nat → Int32} (hS : va_X b N xs s s.heap) (hbl : b < s.heap.size) (hbA : ¬ A b) (hN : N ≤ 3584) {i : Int} (hi0 : 0 ≤ i) (hi1 : i + 7 ≤ N) {c9 s9 : Nat} (hc9 : c9 + 40 ≤ 603072) (hs9 : s9 + 1000 ≤ 7215210) {L : List Nat} {f : Nat → va_E} {oc om aL aD : Nat} {μ : zMu} (hLW : zLW G L f oc om aL aD μ) (K : ∀ (L2 : List Nat) (f2 : Nat → va_E) (μ2 : zMu) (c2 s2 : Nat), c2 ≤ c9 + 40 → s2 ≤ s9 + 1000 → zLW G L2 f2 oc om aL aD μ2 → ZW G p la e room_1 s m args below meth c A 10 c2 s2 Q L2 f2 2409 (zLb i b oc om aL aD) []) : ZW G p la e room_1 s m args below meth c A 10 c9 s9 Q L f 1076 (zLb i b oc om aL aD) [] := by
  obtain ⟨Lc, Lm, ad, t, u, v, φ, ψ, hW⟩ := hLW
  obtain ⟨ω, hR, hI, hK⟩ := hW.C
  have hn := hI.n
  refine z_aload_n C 2 dL_law_1076 rfl ?_
  refine z_aload_n C 1 dL_law_1077 rfl ?_
  refine z_iload C 0 dL_law_1078 rfl ?_
  refine z_iconst C dL_law_1080 ?_
  refine z_iadd C dL_law_1081 ?_
  refine z_sld C hS hbl hbA (by omega) (by omega) (by omega) dL_law_1082 ?_
  refine z_aload_n C 1 dL_law_1083 rfl ?_
  refine z_iload C 0 dL_law_1084 rfl ?_
  refine z_iconst C dL_law_1086 ?_
  refine z_iadd C dL_law_1087 ?_
  refine z_sld C hS hbl hbA (by omega) (by omega) (by omega) dL_law_1088 ?_
  refine z_aload_n C 1 dL_law_1089 rfl ?_
  refine z_iload C 0 dL_law_1090 rfl ?_
  refine z_iconst C dL_law_1092 ?_
  refine z_iadd C dL_law_1093 ?_
  refine z_sld C hS hbl hbA (by omega) (by omega) (by omega) dL_law_1094 ?_
  refine z_aload_n C 4 dL_law_1095 rfl ?_
  refine z_cSW (As := [.ref oc, .int (iI (zgx xs (i + 1))), .int (iI (zgx xs (i + 2))), .int (iI (zgx xs (i + 3))), .ref aL]) C zcw_runAnew (w_runAnew hX h4 hfl h5  hW.C hW.s hW.n hW.A hW.l.1 (zgx xs (i + 1)) (zgx xs (i + 2)) (zgx xs (i + 3)) (by first | exact zgx_r _ _ | omega) (by first | exact zgx_r _ _ | omega) (by first | exact zgx_r _ _ | omega) ) zl_4_60 ⟨Nat.le_of_ble_eq_true rfl, Nat.le_of_ble_eq_true rfl⟩ (show _ ≤ 603072 by omega) (show _ ≤ 7215210 by omega) rfl rfl (Nat.le_of_ble_eq_true rfl) dL_law_1096 (fun z L3 f3 hq => ?_)
  obtain ⟨Lc2, φ2, hW2, hφ2, hz, h04⟩ := zLWx_w hW hq
  change ZW G p la e room_1 s m args below meth c A 10 (c9 + 8) (s9 + 48) Q L3 f3 1099 [(5, .int (iI i)), (0, .ref b), (1, .ref oc), (2, .ref om), (3, .ref aL), (4, .ref aD)] [.int (iI z)]
  refine z_istore (ls' := [(6, .int (iI z)), (5, .int (iI i)), (0, .ref b), (1, .ref oc), (2, .ref om), (3, .ref aL), (4, .ref aD)]) C dL_law_1099 (Nat.le_of_ble_eq_true rfl) rfl ?_
  refine z_aload_n C 4 dL_law_1101 rfl ?_
  refine z_aload_n C 2 dL_law_1102 rfl ?_
  refine z_iload C 1 dL_law_1103 rfl ?_
  refine z_iconst C dL_law_1105 ?_
  refine z_iadd C dL_law_1106 ?_
  refine z_sld C hS hbl hbA (by omega) (by omega) (by omega) dL_law_1107 ?_
  refine z_aload_n C 2 dL_law_1108 rfl ?_
  refine z_iload C 1 dL_law_1109 rfl ?_
  refine z_iconst C dL_law_1111 ?_
  refine z_iadd C dL_law_1112 ?_
  refine z_sld C hS hbl hbA (by omega) (by omega) (by omega) dL_law_1113 ?_
  refine z_aload_n C 2 dL_law_1114 rfl ?_
  refine z_iload C 1 dL_law_1115 rfl ?_
  refine z_iconst C dL_law_1117 ?_
  refine z_iadd C dL_law_1118 ?_
  refine z_sld C hS hbl hbA (by omega) (by omega) (by omega) dL_law_1119 ?_
  refine z_cVs (As := [.int (iI (zgx xs (i + 1))), .int (iI (zgx xs (i + 2))), .int (iI (zgx xs (i + 3)))]) C hW2.ms hW2.mn zc_X7_runAnew (c_X7_runAnew hX hW2.M hI (zgx xs (i + 1)) (zgx xs (i + 2)) (zgx xs (i + 3)) hK (by first | exact zgx_r _ _ | omega) (by first | exact zgx_r _ _ | omega) (by first | exact zgx_r _ _ | omega)) zl_7_57 ⟨Nat.le_of_ble_eq_true rfl, Nat.le_of_ble_eq_true rfl⟩ (show _ ≤ 603072 by omega) (show _ ≤ 7215210 by omega) hW2.M.1.1 hW2.M.1.2 rfl rfl rfl rfl (Nat.le_of_ble_eq_true rfl) dL_law_1120 (fun z2 Lm4 f4 L5 f5 hq2 hm2 => ?_)
  obtain ⟨rfl, t2, μ2, u2, v2, hM2, ho⟩ := hq2
  have hW3 := zLWx_m hW2 hm2 hM2
  rw [ho] at hW3 hφ2 hz h04
  obtain rfl : t2 = z := hz.symm
  have h04 : 0 ≤ t2 ∧ t2 ≤ 4 := h04
  exact z_tail (P := 1123) C hX hW3 h04 (fun h0 => (hφ2 h0).trans (by show zov (if t2 = 0 then z2 else 0) = zov z2; rw [if_pos h0])) ⟨Nat.le_of_ble_eq_true rfl, Nat.le_of_ble_eq_true rfl⟩ (show _ ≤ 603072 by omega) (show _ ≤ 7215210 by omega) zl_6_164 dL_law_1123 dL_law_1125 dL_law_1126 dL_law_1129 dL_law_1131 dL_law_1136 dL_law_1138 dL_law_1141 dL_law_1142 dL_law_1143 dL_law_1144 dL_law_1146 dL_law_1147 dL_law_1148 dL_law_1153 (by decide) (fun L6 f6 hW6 => z_perm [2, 3, 4, 5, 6, 7] rfl (K L6 f6 μ2 _ _ (by omega) (by omega) hW6))

set_option maxRecDepth 100000 in
set_option maxHeartbeats 400000 in
theorem law_12 {p : Program} {la : Launch} {e : Env} {s : State} {m : MethodId} {args : Array Value} {below : List Frame} {meth : Method} {c : Code} {A : Nat → Prop} {Q : State → Prop} {G : zG} {X : (Nat → Prop) → State → Prop} (C : ZC G X p la s m args meth c A 10 ret cL_law "SwathSurveyLaw") (hX : zX X) (h4 : zT4 X) (hfl : la.stackTraces = false) (h5 : zT5 X) {ax : Nat → Nat × Nat} (hT : zT1 X ax) (hO : zT2 X) (hP : zT3 X) {b N : Nat} {xs : Nat → Int32} (hS : va_X b N xs s s.heap) (hbl : b < s.heap.size) (hbA : ¬ A b) (hN : N ≤ 3584) {i : Int} (hi0 : 0 ≤ i) (hi1 : i + 7 ≤ N) {c9 s9 : Nat} (hc9 : c9 + 40 ≤ 603072) (hs9 : s9 + 1000 ≤ 7215210) {L : List Nat} {f : Nat → va_E} {oc om aL aD : Nat} {μ : zMu} (hLW : zLW G L f oc om aL aD μ) (K : ∀ (L2 : List Nat) (f2 : Nat → va_E) (μ2 : zMu) (c2 s2 : Nat), c2 ≤ c9 + 40 → s2 ≤ s9 + 1000 → zLW G L2 f2 oc om aL aD μ2 → ZW G p la e room_1 s m args below meth c A 10 c2 s2 Q L2 f2 2409 (zLb i b oc om aL aD) []) : ZW G p la e room_1 s m args below meth c A 10 c9 s9 Q L f 1156 (zLb i b oc om aL aD) [] := by
  obtain ⟨Lc, Lm, ad, t, u, v, φ, ψ, hW⟩ := hLW
  obtain ⟨ω, hR, hI, hK⟩ := hW.C
  have hn := hI.n
  refine z_aload_n C 2 dL_law_1156 rfl ?_
  refine z_aload_n C 1 dL_law_1157 rfl ?_
  refine z_iload C 0 dL_law_1158 rfl ?_
  refine z_iconst C dL_law_1160 ?_
  refine z_iadd C dL_law_1161 ?_
  refine z_sld C hS hbl hbA (by omega) (by omega) (by omega) dL_law_1162 ?_
  refine z_aload_n C 1 dL_law_1163 rfl ?_
  refine z_iload C 0 dL_law_1164 rfl ?_
  refine z_iconst C dL_law_1166 ?_
  refine z_iadd C dL_law_1167 ?_
  refine z_sld C hS hbl hbA (by omega) (by omega) (by omega) dL_law_1168 ?_
  refine z_aload_n C 1 dL_law_1169 rfl ?_
  refine z_iload C 0 dL_law_1170 rfl ?_
  refine z_iconst C dL_law_1172 ?_
  refine z_iadd C dL_law_1173 ?_
  refine z_sld C hS hbl hbA (by omega) (by omega) (by omega) dL_law_1174 ?_
  refine z_aload_n C 1 dL_law_1175 rfl ?_
  refine z_iload C 0 dL_law_1176 rfl ?_
  refine z_iconst C dL_law_1178 ?_
  refine z_iadd C dL_law_1179 ?_
  refine z_sld C hS hbl hbA (by omega) (by omega) (by omega) dL_law_1180 ?_
  refine z_aload_n C 4 dL_law_1181 rfl ?_
  refine z_cSW (As := [.ref oc, .int (iI (zgx xs (i + 1))), .int (iI (zgx xs (i + 2))), .int (iI (zgx xs (i + 3))), .int (iI (zgx xs (i + 4))), .ref aL]) C zcw_disturb (w_disturb hX h4 hfl h5  hW.C hW.s hW.n hW.A hW.l.1 (zgx xs (i + 1)) (zgx xs (i + 2)) (zgx xs (i + 3)) (zgx xs (i + 4)) (by first | exact zgx_r _ _ | omega) (by first | exact zgx_r _ _ | omega) (by first | exact zgx_r _ _ | omega) (by first | exact zgx_r _ _ | omega) ) zl_4_72 ⟨Nat.le_of_ble_eq_true rfl, Nat.le_of_ble_eq_true rfl⟩ (show _ ≤ 603072 by omega) (show _ ≤ 7215210 by omega) rfl rfl (Nat.le_of_ble_eq_true rfl) dL_law_1182 (fun z L3 f3 hq => ?_)
  obtain ⟨Lc2, φ2, hW2, hφ2, hz, h04⟩ := zLWx_w hW hq
  change ZW G p la e room_1 s m args below meth c A 10 (c9 + 8) (s9 + 48) Q L3 f3 1185 [(5, .int (iI i)), (0, .ref b), (1, .ref oc), (2, .ref om), (3, .ref aL), (4, .ref aD)] [.int (iI z)]
  refine z_istore (ls' := [(6, .int (iI z)), (5, .int (iI i)), (0, .ref b), (1, .ref oc), (2, .ref om), (3, .ref aL), (4, .ref aD)]) C dL_law_1185 (Nat.le_of_ble_eq_true rfl) rfl ?_
  refine z_aload_n C 4 dL_law_1187 rfl ?_
  refine z_aload_n C 2 dL_law_1188 rfl ?_
  refine z_iload C 1 dL_law_1189 rfl ?_
  refine z_iconst C dL_law_1191 ?_
  refine z_iadd C dL_law_1192 ?_
  refine z_sld C hS hbl hbA (by omega) (by omega) (by omega) dL_law_1193 ?_
  refine z_aload_n C 2 dL_law_1194 rfl ?_
  refine z_iload C 1 dL_law_1195 rfl ?_
  refine z_iconst C dL_law_1197 ?_
  refine z_iadd C dL_law_1198 ?_
  refine z_sld C hS hbl hbA (by omega) (by omega) (by omega) dL_law_1199 ?_
  refine z_aload_n C 2 dL_law_1200 rfl ?_
  refine z_iload C 1 dL_law_1201 rfl ?_
  refine z_iconst C dL_law_1203 ?_
  refine z_iadd C dL_law_1204 ?_
  refine z_sld C hS hbl hbA (by omega) (by omega) (by omega) dL_law_1205 ?_
  refine z_aload_n C 2 dL_law_1206 rfl ?_
  refine z_iload C 1 dL_law_1207 rfl ?_
  refine z_iconst C dL_law_1209 ?_
  refine z_iadd C dL_law_1210 ?_
  refine z_sld C hS hbl hbA (by omega) (by omega) (by omega) dL_law_1211 ?_
  refine z_cVs (As := [.int (iI (zgx xs (i + 1))), .int (iI (zgx xs (i + 2))), .int (iI (zgx xs (i + 3))), .int (iI (zgx xs (i + 4)))]) C hW2.ms hW2.mn zc_X7_disturb (c_X7_disturb hX hW2.M hI (zgx xs (i + 1)) (zgx xs (i + 2)) (zgx xs (i + 3)) (zgx xs (i + 4))  (by first | exact zgx_r _ _ | omega) (by first | exact zgx_r _ _ | omega) (by first | exact zgx_r _ _ | omega) (by first | exact zgx_r _ _ | omega)) zl_7_84 ⟨Nat.le_of_ble_eq_true rfl, Nat.le_of_ble_eq_true rfl⟩ (show _ ≤ 603072 by omega) (show _ ≤ 7215210 by omega) hW2.M.1.1 hW2.M.1.2 rfl rfl rfl rfl (Nat.le_of_ble_eq_true rfl) dL_law_1212 (fun z2 Lm4 f4 L5 f5 hq2 hm2 => ?_)
  obtain ⟨rfl, t2, μ2, u2, v2, hM2, ho⟩ := hq2
  have hW3 := zLWx_m hW2 hm2 hM2
  rw [ho] at hW3 hφ2 hz h04
  obtain rfl : t2 = z := hz.symm
  have h04 : 0 ≤ t2 ∧ t2 ≤ 4 := h04
  exact z_tail (P := 1215) C hX hW3 h04 (fun h0 => (hφ2 h0).trans (by show zov (if t2 = 0 then z2 else 0) = zov z2; rw [if_pos h0])) ⟨Nat.le_of_ble_eq_true rfl, Nat.le_of_ble_eq_true rfl⟩ (show _ ≤ 603072 by omega) (show _ ≤ 7215210 by omega) zl_6_164 dL_law_1215 dL_law_1217 dL_law_1218 dL_law_1221 dL_law_1223 dL_law_1228 dL_law_1230 dL_law_1233 dL_law_1234 dL_law_1235 dL_law_1236 dL_law_1238 dL_law_1239 dL_law_1240 dL_law_1245 (by decide) (fun L6 f6 hW6 => z_perm [2, 3, 4, 5, 6, 7] rfl (K L6 f6 μ2 _ _ (by omega) (by omega) hW6))

set_option maxRecDepth 100000 in
set_option maxHeartbeats 400000 in
theorem law_13 {p : Program} {la : Launch} {e : Env} {s : State} {m : MethodId} {args : Array Value} {below : List Frame} {meth : Method} {c : Code} {A : Nat → Prop} {Q : State → Prop} {G : zG} {X : (Nat → Prop) → State → Prop} (C : ZC G X p la s m args meth c A 10 ret cL_law "SwathSurveyLaw") (hX : zX X) (h4 : zT4 X) (hfl : la.stackTraces = false) (h5 : zT5 X) {ax : Nat → Nat × Nat} (hT : zT1 X ax) (hO : zT2 X) (hP : zT3 X) {b N : Nat} {xs : Nat → Int32} (hS : va_X b N xs s s.heap) (hbl : b < s.heap.size) (hbA : ¬ A b) (hN : N ≤ 3584) {i : Int} (hi0 : 0 ≤ i) (hi1 : i + 7 ≤ N) {c9 s9 : Nat} (hc9 : c9 + 40 ≤ 603072) (hs9 : s9 + 1000 ≤ 7215210) {L : List Nat} {f : Nat → va_E} {oc om aL aD : Nat} {μ : zMu} (hLW : zLW G L f oc om aL aD μ) (K : ∀ (L2 : List Nat) (f2 : Nat → va_E) (μ2 : zMu) (c2 s2 : Nat), c2 ≤ c9 + 40 → s2 ≤ s9 + 1000 → zLW G L2 f2 oc om aL aD μ2 → ZW G p la e room_1 s m args below meth c A 10 c2 s2 Q L2 f2 2409 (zLb i b oc om aL aD) []) : ZW G p la e room_1 s m args below meth c A 10 c9 s9 Q L f 1248 (zLb i b oc om aL aD) [] := by
  obtain ⟨Lc, Lm, ad, t, u, v, φ, ψ, hW⟩ := hLW
  obtain ⟨ω, hR, hI, hK⟩ := hW.C
  have hn := hI.n
  refine z_aload_n C 2 dL_law_1248 rfl ?_
  refine z_aload_n C 1 dL_law_1249 rfl ?_
  refine z_iload C 0 dL_law_1250 rfl ?_
  refine z_iconst C dL_law_1252 ?_
  refine z_iadd C dL_law_1253 ?_
  refine z_sld C hS hbl hbA (by omega) (by omega) (by omega) dL_law_1254 ?_
  refine z_aload_n C 4 dL_law_1255 rfl ?_
  refine z_cSW (As := [.ref oc, .int (iI (zgx xs (i + 1))), .ref aL]) C zcw_soundings (w_soundings hX h4 hfl h5  hW.C hW.s hW.n hW.A hW.l.1 (zgx xs (i + 1)) (by first | exact zgx_r _ _ | omega) ) zl_4_90 ⟨Nat.le_of_ble_eq_true rfl, Nat.le_of_ble_eq_true rfl⟩ (show _ ≤ 603072 by omega) (show _ ≤ 7215210 by omega) rfl rfl (Nat.le_of_ble_eq_true rfl) dL_law_1256 (fun z L3 f3 hq => ?_)
  obtain ⟨Lc2, φ2, hW2, hφ2, hz, h04⟩ := zLWx_w hW hq
  change ZW G p la e room_1 s m args below meth c A 10 (c9 + 8) (s9 + 48) Q L3 f3 1259 [(5, .int (iI i)), (0, .ref b), (1, .ref oc), (2, .ref om), (3, .ref aL), (4, .ref aD)] [.int (iI z)]
  refine z_istore (ls' := [(6, .int (iI z)), (5, .int (iI i)), (0, .ref b), (1, .ref oc), (2, .ref om), (3, .ref aL), (4, .ref aD)]) C dL_law_1259 (Nat.le_of_ble_eq_true rfl) rfl ?_
  refine z_aload_n C 4 dL_law_1261 rfl ?_
  refine z_aload_n C 2 dL_law_1262 rfl ?_
  refine z_iload C 1 dL_law_1263 rfl ?_
  refine z_iconst C dL_law_1265 ?_
  refine z_iadd C dL_law_1266 ?_
  refine z_sld C hS hbl hbA (by omega) (by omega) (by omega) dL_law_1267 ?_
  refine z_cVs (As := [.int (iI (zgx xs (i + 1)))]) C hW2.ms hW2.mn zc_X7_soundings (c_X7_soundings hX hW2.M hI (zgx xs (i + 1))  (by first | exact zgx_r _ _ | omega)) zl_7_92 ⟨Nat.le_of_ble_eq_true rfl, Nat.le_of_ble_eq_true rfl⟩ (show _ ≤ 603072 by omega) (show _ ≤ 7215210 by omega) hW2.M.1.1 hW2.M.1.2 rfl rfl rfl rfl (Nat.le_of_ble_eq_true rfl) dL_law_1268 (fun z2 Lm4 f4 L5 f5 hq2 hm2 => ?_)
  obtain ⟨rfl, t2, μ2, u2, v2, hM2, ho⟩ := hq2
  have hW3 := zLWx_m hW2 hm2 hM2
  rw [ho] at hW3 hφ2 hz h04
  obtain rfl : t2 = z := hz.symm
  have h04 : 0 ≤ t2 ∧ t2 ≤ 4 := h04
  exact z_tail (P := 1271) C hX hW3 h04 (fun h0 => (hφ2 h0).trans (by show zov (if t2 = 0 then z2 else 0) = zov z2; rw [if_pos h0])) ⟨Nat.le_of_ble_eq_true rfl, Nat.le_of_ble_eq_true rfl⟩ (show _ ≤ 603072 by omega) (show _ ≤ 7215210 by omega) zl_6_164 dL_law_1271 dL_law_1273 dL_law_1274 dL_law_1277 dL_law_1279 dL_law_1284 dL_law_1286 dL_law_1289 dL_law_1290 dL_law_1291 dL_law_1292 dL_law_1294 dL_law_1295 dL_law_1296 dL_law_1301 (by decide) (fun L6 f6 hW6 => z_perm [2, 3, 4, 5, 6, 7] rfl (K L6 f6 μ2 _ _ (by omega) (by omega) hW6))

set_option maxRecDepth 100000 in
set_option maxHeartbeats 400000 in
theorem law_14 {p : Program} {la : Launch} {e : Env} {s : State} {m : MethodId} {args : Array Value} {below : List Frame} {meth : Method} {c : Code} {A : Nat → Prop} {Q : State → Prop} {G : zG} {X : (Nat → Prop) → State → Prop} (C : ZC G X p la s m args meth c A 10 ret cL_law "SwathSurveyLaw") (hX : zX X) (h4 : zT4 X) (hfl : la.stackTraces = false) (h5 : zT5 X) {ax : Nat → Nat × Nat} (hT : zT1 X ax) (hO : zT2 X) (hP : zT3 X) {b N : Nat} {xs : Nat → Int32} (hS : va_X b N xs s s.heap) (hbl : b < s.heap.size) (hbA : ¬ A b) (hN : N ≤ 3584) {i : Int} (hi0 : 0 ≤ i) (hi1 : i + 7 ≤ N) {c9 s9 : Nat} (hc9 : c9 + 40 ≤ 603072) (hs9 : s9 + 1000 ≤ 7215210) {L : List Nat} {f : Nat → va_E} {oc om aL aD : Nat} {μ : zMu} (hLW : zLW G L f oc om aL aD μ) (K : ∀ (L2 : List Nat) (f2 : Nat → va_E) (μ2 : zMu) (c2 s2 : Nat), c2 ≤ c9 + 40 → s2 ≤ s9 + 1000 → zLW G L2 f2 oc om aL aD μ2 → ZW G p la e room_1 s m args below meth c A 10 c2 s2 Q L2 f2 2409 (zLb i b oc om aL aD) []) : ZW G p la e room_1 s m args below meth c A 10 c9 s9 Q L f 1304 (zLb i b oc om aL aD) [] := by
  obtain ⟨Lc, Lm, ad, t, u, v, φ, ψ, hW⟩ := hLW
  obtain ⟨ω, hR, hI, hK⟩ := hW.C
  have hn := hI.n
  refine z_aload_n C 2 dL_law_1304 rfl ?_
  refine z_aload_n C 1 dL_law_1305 rfl ?_
  refine z_iload C 0 dL_law_1306 rfl ?_
  refine z_iconst C dL_law_1308 ?_
  refine z_iadd C dL_law_1309 ?_
  refine z_sld C hS hbl hbA (by omega) (by omega) (by omega) dL_law_1310 ?_
  refine z_aload_n C 1 dL_law_1311 rfl ?_
  refine z_iload C 0 dL_law_1312 rfl ?_
  refine z_iconst C dL_law_1314 ?_
  refine z_iadd C dL_law_1315 ?_
  refine z_sld C hS hbl hbA (by omega) (by omega) (by omega) dL_law_1316 ?_
  refine z_aload_n C 1 dL_law_1317 rfl ?_
  refine z_iload C 0 dL_law_1318 rfl ?_
  refine z_iconst C dL_law_1320 ?_
  refine z_iadd C dL_law_1321 ?_
  refine z_sld C hS hbl hbA (by omega) (by omega) (by omega) dL_law_1322 ?_
  refine z_aload_n C 4 dL_law_1323 rfl ?_
  refine z_cSW (As := [.ref oc, .int (iI (zgx xs (i + 1))), .int (iI (zgx xs (i + 2))), .int (iI (zgx xs (i + 3))), .ref aL]) C zcw_sounding (w_sounding hX h4 hfl h5  hW.C hW.s hW.n hW.A hW.l.1 (zgx xs (i + 1)) (zgx xs (i + 2)) (zgx xs (i + 3)) (by first | exact zgx_r _ _ | omega) (by first | exact zgx_r _ _ | omega) (by first | exact zgx_r _ _ | omega) ) zl_4_101 ⟨Nat.le_of_ble_eq_true rfl, Nat.le_of_ble_eq_true rfl⟩ (show _ ≤ 603072 by omega) (show _ ≤ 7215210 by omega) rfl rfl (Nat.le_of_ble_eq_true rfl) dL_law_1324 (fun z L3 f3 hq => ?_)
  obtain ⟨Lc2, φ2, hW2, hφ2, hz, h04⟩ := zLWx_w hW hq
  change ZW G p la e room_1 s m args below meth c A 10 (c9 + 8) (s9 + 48) Q L3 f3 1327 [(5, .int (iI i)), (0, .ref b), (1, .ref oc), (2, .ref om), (3, .ref aL), (4, .ref aD)] [.int (iI z)]
  refine z_istore (ls' := [(6, .int (iI z)), (5, .int (iI i)), (0, .ref b), (1, .ref oc), (2, .ref om), (3, .ref aL), (4, .ref aD)]) C dL_law_1327 (Nat.le_of_ble_eq_true rfl) rfl ?_
  refine z_aload_n C 4 dL_law_1329 rfl ?_
  refine z_aload_n C 2 dL_law_1330 rfl ?_
  refine z_iload C 1 dL_law_1331 rfl ?_
  refine z_iconst C dL_law_1333 ?_
  refine z_iadd C dL_law_1334 ?_
  refine z_sld C hS hbl hbA (by omega) (by omega) (by omega) dL_law_1335 ?_
  refine z_aload_n C 2 dL_law_1336 rfl ?_
  refine z_iload C 1 dL_law_1337 rfl ?_
  refine z_iconst C dL_law_1339 ?_
  refine z_iadd C dL_law_1340 ?_
  refine z_sld C hS hbl hbA (by omega) (by omega) (by omega) dL_law_1341 ?_
  refine z_aload_n C 2 dL_law_1342 rfl ?_
  refine z_iload C 1 dL_law_1343 rfl ?_
  refine z_iconst C dL_law_1345 ?_
  refine z_iadd C dL_law_1346 ?_
  refine z_sld C hS hbl hbA (by omega) (by omega) (by omega) dL_law_1347 ?_
  refine z_cVs (As := [.int (iI (zgx xs (i + 1))), .int (iI (zgx xs (i + 2))), .int (iI (zgx xs (i + 3)))]) C hW2.ms hW2.mn zc_X7_sounding (c_X7_sounding hX hW2.M hI (zgx xs (i + 1)) (zgx xs (i + 2)) (zgx xs (i + 3))  (by first | exact zgx_r _ _ | omega) (by first | exact zgx_r _ _ | omega) (by first | exact zgx_r _ _ | omega)) zl_7_96 ⟨Nat.le_of_ble_eq_true rfl, Nat.le_of_ble_eq_true rfl⟩ (show _ ≤ 603072 by omega) (show _ ≤ 7215210 by omega) hW2.M.1.1 hW2.M.1.2 rfl rfl rfl rfl (Nat.le_of_ble_eq_true rfl) dL_law_1348 (fun z2 Lm4 f4 L5 f5 hq2 hm2 => ?_)
  obtain ⟨rfl, t2, μ2, u2, v2, hM2, ho⟩ := hq2
  have hW3 := zLWx_m hW2 hm2 hM2
  rw [ho] at hW3 hφ2 hz h04
  obtain rfl : t2 = z := hz.symm
  have h04 : 0 ≤ t2 ∧ t2 ≤ 4 := h04
  exact z_tail (P := 1351) C hX hW3 h04 (fun h0 => (hφ2 h0).trans (by show zov (if t2 = 0 then z2 else 0) = zov z2; rw [if_pos h0])) ⟨Nat.le_of_ble_eq_true rfl, Nat.le_of_ble_eq_true rfl⟩ (show _ ≤ 603072 by omega) (show _ ≤ 7215210 by omega) zl_6_164 dL_law_1351 dL_law_1353 dL_law_1354 dL_law_1357 dL_law_1359 dL_law_1364 dL_law_1366 dL_law_1369 dL_law_1370 dL_law_1371 dL_law_1372 dL_law_1374 dL_law_1375 dL_law_1376 dL_law_1381 (by decide) (fun L6 f6 hW6 => z_perm [2, 3, 4, 5, 6, 7] rfl (K L6 f6 μ2 _ _ (by omega) (by omega) hW6))

set_option maxRecDepth 100000 in
set_option maxHeartbeats 400000 in
theorem law_15 {p : Program} {la : Launch} {e : Env} {s : State} {m : MethodId} {args : Array Value} {below : List Frame} {meth : Method} {c : Code} {A : Nat → Prop} {Q : State → Prop} {G : zG} {X : (Nat → Prop) → State → Prop} (C : ZC G X p la s m args meth c A 10 ret cL_law "SwathSurveyLaw") (hX : zX X) (h4 : zT4 X) (hfl : la.stackTraces = false) (h5 : zT5 X) {ax : Nat → Nat × Nat} (hT : zT1 X ax) (hO : zT2 X) (hP : zT3 X) {b N : Nat} {xs : Nat → Int32} (hS : va_X b N xs s s.heap) (hbl : b < s.heap.size) (hbA : ¬ A b) (hN : N ≤ 3584) {i : Int} (hi0 : 0 ≤ i) (hi1 : i + 7 ≤ N) {c9 s9 : Nat} (hc9 : c9 + 40 ≤ 603072) (hs9 : s9 + 1000 ≤ 7215210) {L : List Nat} {f : Nat → va_E} {oc om aL aD : Nat} {μ : zMu} (hLW : zLW G L f oc om aL aD μ) (K : ∀ (L2 : List Nat) (f2 : Nat → va_E) (μ2 : zMu) (c2 s2 : Nat), c2 ≤ c9 + 40 → s2 ≤ s9 + 1000 → zLW G L2 f2 oc om aL aD μ2 → ZW G p la e room_1 s m args below meth c A 10 c2 s2 Q L2 f2 2409 (zLb i b oc om aL aD) []) : ZW G p la e room_1 s m args below meth c A 10 c9 s9 Q L f 1384 (zLb i b oc om aL aD) [] := by
  obtain ⟨Lc, Lm, ad, t, u, v, φ, ψ, hW⟩ := hLW
  obtain ⟨ω, hR, hI, hK⟩ := hW.C
  have hn := hI.n
  refine z_aload_n C 2 dL_law_1384 rfl ?_
  refine z_aload_n C 1 dL_law_1385 rfl ?_
  refine z_iload C 0 dL_law_1386 rfl ?_
  refine z_iconst C dL_law_1388 ?_
  refine z_iadd C dL_law_1389 ?_
  refine z_sld C hS hbl hbA (by omega) (by omega) (by omega) dL_law_1390 ?_
  refine z_aload_n C 1 dL_law_1391 rfl ?_
  refine z_iload C 0 dL_law_1392 rfl ?_
  refine z_iconst C dL_law_1394 ?_
  refine z_iadd C dL_law_1395 ?_
  refine z_sld C hS hbl hbA (by omega) (by omega) (by omega) dL_law_1396 ?_
  refine z_aload_n C 1 dL_law_1397 rfl ?_
  refine z_iload C 0 dL_law_1398 rfl ?_
  refine z_iconst C dL_law_1400 ?_
  refine z_iadd C dL_law_1401 ?_
  refine z_sld C hS hbl hbA (by omega) (by omega) (by omega) dL_law_1402 ?_
  refine z_aload_n C 4 dL_law_1403 rfl ?_
  refine z_cSW (As := [.ref oc, .int (iI (zgx xs (i + 1))), .int (iI (zgx xs (i + 2))), .int (iI (zgx xs (i + 3))), .ref aL]) C zcw_reduced (w_reduced hX h4 hfl h5  hW.C hW.s hW.n hW.A hW.l.1 (zgx xs (i + 1)) (zgx xs (i + 2)) (zgx xs (i + 3)) (by first | exact zgx_r _ _ | omega) (by first | exact zgx_r _ _ | omega) (by first | exact zgx_r _ _ | omega) ) zl_4_109 ⟨Nat.le_of_ble_eq_true rfl, Nat.le_of_ble_eq_true rfl⟩ (show _ ≤ 603072 by omega) (show _ ≤ 7215210 by omega) rfl rfl (Nat.le_of_ble_eq_true rfl) dL_law_1404 (fun z L3 f3 hq => ?_)
  obtain ⟨Lc2, φ2, hW2, hφ2, hz, h04⟩ := zLWx_w hW hq
  change ZW G p la e room_1 s m args below meth c A 10 (c9 + 8) (s9 + 48) Q L3 f3 1407 [(5, .int (iI i)), (0, .ref b), (1, .ref oc), (2, .ref om), (3, .ref aL), (4, .ref aD)] [.int (iI z)]
  refine z_istore (ls' := [(6, .int (iI z)), (5, .int (iI i)), (0, .ref b), (1, .ref oc), (2, .ref om), (3, .ref aL), (4, .ref aD)]) C dL_law_1407 (Nat.le_of_ble_eq_true rfl) rfl ?_
  refine z_aload_n C 4 dL_law_1409 rfl ?_
  refine z_aload_n C 2 dL_law_1410 rfl ?_
  refine z_iload C 1 dL_law_1411 rfl ?_
  refine z_iconst C dL_law_1413 ?_
  refine z_iadd C dL_law_1414 ?_
  refine z_sld C hS hbl hbA (by omega) (by omega) (by omega) dL_law_1415 ?_
  refine z_aload_n C 2 dL_law_1416 rfl ?_
  refine z_iload C 1 dL_law_1417 rfl ?_
  refine z_iconst C dL_law_1419 ?_
  refine z_iadd C dL_law_1420 ?_
  refine z_sld C hS hbl hbA (by omega) (by omega) (by omega) dL_law_1421 ?_
  refine z_aload_n C 2 dL_law_1422 rfl ?_
  refine z_iload C 1 dL_law_1423 rfl ?_
  refine z_iconst C dL_law_1425 ?_
  refine z_iadd C dL_law_1426 ?_
  refine z_sld C hS hbl hbA (by omega) (by omega) (by omega) dL_law_1427 ?_
  refine z_cVs (As := [.int (iI (zgx xs (i + 1))), .int (iI (zgx xs (i + 2))), .int (iI (zgx xs (i + 3)))]) C hW2.ms hW2.mn zc_X7_reduced (c_X7_reduced hX hW2.M hI (zgx xs (i + 1)) (zgx xs (i + 2)) (zgx xs (i + 3))  (by first | exact zgx_r _ _ | omega) (by first | exact zgx_r _ _ | omega) (by first | exact zgx_r _ _ | omega)) zl_7_100 ⟨Nat.le_of_ble_eq_true rfl, Nat.le_of_ble_eq_true rfl⟩ (show _ ≤ 603072 by omega) (show _ ≤ 7215210 by omega) hW2.M.1.1 hW2.M.1.2 rfl rfl rfl rfl (Nat.le_of_ble_eq_true rfl) dL_law_1428 (fun z2 Lm4 f4 L5 f5 hq2 hm2 => ?_)
  obtain ⟨rfl, t2, μ2, u2, v2, hM2, ho⟩ := hq2
  have hW3 := zLWx_m hW2 hm2 hM2
  rw [ho] at hW3 hφ2 hz h04
  obtain rfl : t2 = z := hz.symm
  have h04 : 0 ≤ t2 ∧ t2 ≤ 4 := h04
  exact z_tail (P := 1431) C hX hW3 h04 (fun h0 => (hφ2 h0).trans (by show zov (if t2 = 0 then z2 else 0) = zov z2; rw [if_pos h0])) ⟨Nat.le_of_ble_eq_true rfl, Nat.le_of_ble_eq_true rfl⟩ (show _ ≤ 603072 by omega) (show _ ≤ 7215210 by omega) zl_6_164 dL_law_1431 dL_law_1433 dL_law_1434 dL_law_1437 dL_law_1439 dL_law_1444 dL_law_1446 dL_law_1449 dL_law_1450 dL_law_1451 dL_law_1452 dL_law_1454 dL_law_1455 dL_law_1456 dL_law_1461 (by decide) (fun L6 f6 hW6 => z_perm [2, 3, 4, 5, 6, 7] rfl (K L6 f6 μ2 _ _ (by omega) (by omega) hW6))

set_option maxRecDepth 100000 in
set_option maxHeartbeats 400000 in
theorem law_17 {p : Program} {la : Launch} {e : Env} {s : State} {m : MethodId} {args : Array Value} {below : List Frame} {meth : Method} {c : Code} {A : Nat → Prop} {Q : State → Prop} {G : zG} {X : (Nat → Prop) → State → Prop} (C : ZC G X p la s m args meth c A 10 ret cL_law "SwathSurveyLaw") (hX : zX X) (h4 : zT4 X) (hfl : la.stackTraces = false) (h5 : zT5 X) {ax : Nat → Nat × Nat} (hT : zT1 X ax) (hO : zT2 X) (hP : zT3 X) {b N : Nat} {xs : Nat → Int32} (hS : va_X b N xs s s.heap) (hbl : b < s.heap.size) (hbA : ¬ A b) (hN : N ≤ 3584) {i : Int} (hi0 : 0 ≤ i) (hi1 : i + 7 ≤ N) {c9 s9 : Nat} (hc9 : c9 + 40 ≤ 603072) (hs9 : s9 + 1000 ≤ 7215210) {L : List Nat} {f : Nat → va_E} {oc om aL aD : Nat} {μ : zMu} (hLW : zLW G L f oc om aL aD μ) (K : ∀ (L2 : List Nat) (f2 : Nat → va_E) (μ2 : zMu) (c2 s2 : Nat), c2 ≤ c9 + 40 → s2 ≤ s9 + 1000 → zLW G L2 f2 oc om aL aD μ2 → ZW G p la e room_1 s m args below meth c A 10 c2 s2 Q L2 f2 2409 (zLb i b oc om aL aD) []) : ZW G p la e room_1 s m args below meth c A 10 c9 s9 Q L f 1551 (zLb i b oc om aL aD) [] := by
  obtain ⟨Lc, Lm, ad, t, u, v, φ, ψ, hW⟩ := hLW
  obtain ⟨ω, hR, hI, hK⟩ := hW.C
  have hn := hI.n
  refine z_aload_n C 2 dL_law_1551 rfl ?_
  refine z_aload_n C 1 dL_law_1552 rfl ?_
  refine z_iload C 0 dL_law_1553 rfl ?_
  refine z_iconst C dL_law_1555 ?_
  refine z_iadd C dL_law_1556 ?_
  refine z_sld C hS hbl hbA (by omega) (by omega) (by omega) dL_law_1557 ?_
  refine z_aload_n C 4 dL_law_1558 rfl ?_
  refine z_cSW (As := [.ref oc, .int (iI (zgx xs (i + 1))), .ref aL]) C zcw_spikes (w_spikes hX h4 hfl h5  hW.C hW.s hW.n hW.A hW.l.1 (zgx xs (i + 1)) (by first | exact zgx_r _ _ | omega) ) zl_4_125 ⟨Nat.le_of_ble_eq_true rfl, Nat.le_of_ble_eq_true rfl⟩ (show _ ≤ 603072 by omega) (show _ ≤ 7215210 by omega) rfl rfl (Nat.le_of_ble_eq_true rfl) dL_law_1559 (fun z L3 f3 hq => ?_)
  obtain ⟨Lc2, φ2, hW2, hφ2, hz, h04⟩ := zLWx_w hW hq
  change ZW G p la e room_1 s m args below meth c A 10 (c9 + 8) (s9 + 48) Q L3 f3 1562 [(5, .int (iI i)), (0, .ref b), (1, .ref oc), (2, .ref om), (3, .ref aL), (4, .ref aD)] [.int (iI z)]
  refine z_istore (ls' := [(6, .int (iI z)), (5, .int (iI i)), (0, .ref b), (1, .ref oc), (2, .ref om), (3, .ref aL), (4, .ref aD)]) C dL_law_1562 (Nat.le_of_ble_eq_true rfl) rfl ?_
  refine z_aload_n C 4 dL_law_1564 rfl ?_
  refine z_aload_n C 2 dL_law_1565 rfl ?_
  refine z_iload C 1 dL_law_1566 rfl ?_
  refine z_iconst C dL_law_1568 ?_
  refine z_iadd C dL_law_1569 ?_
  refine z_sld C hS hbl hbA (by omega) (by omega) (by omega) dL_law_1570 ?_
  refine z_cVs (As := [.int (iI (zgx xs (i + 1)))]) C hW2.ms hW2.mn zc_X7_spikes (c_X7_spikes hX hW2.M hI (zgx xs (i + 1))  (by first | exact zgx_r _ _ | omega)) zl_7_108 ⟨Nat.le_of_ble_eq_true rfl, Nat.le_of_ble_eq_true rfl⟩ (show _ ≤ 603072 by omega) (show _ ≤ 7215210 by omega) hW2.M.1.1 hW2.M.1.2 rfl rfl rfl rfl (Nat.le_of_ble_eq_true rfl) dL_law_1571 (fun z2 Lm4 f4 L5 f5 hq2 hm2 => ?_)
  obtain ⟨rfl, t2, μ2, u2, v2, hM2, ho⟩ := hq2
  have hW3 := zLWx_m hW2 hm2 hM2
  rw [ho] at hW3 hφ2 hz h04
  obtain rfl : t2 = z := hz.symm
  have h04 : 0 ≤ t2 ∧ t2 ≤ 4 := h04
  exact z_tail (P := 1574) C hX hW3 h04 (fun h0 => (hφ2 h0).trans (by show zov (if t2 = 0 then z2 else 0) = zov z2; rw [if_pos h0])) ⟨Nat.le_of_ble_eq_true rfl, Nat.le_of_ble_eq_true rfl⟩ (show _ ≤ 603072 by omega) (show _ ≤ 7215210 by omega) zl_6_164 dL_law_1574 dL_law_1576 dL_law_1577 dL_law_1580 dL_law_1582 dL_law_1587 dL_law_1589 dL_law_1592 dL_law_1593 dL_law_1594 dL_law_1595 dL_law_1597 dL_law_1598 dL_law_1599 dL_law_1604 (by decide) (fun L6 f6 hW6 => z_perm [2, 3, 4, 5, 6, 7] rfl (K L6 f6 μ2 _ _ (by omega) (by omega) hW6))

set_option maxRecDepth 100000 in
set_option maxHeartbeats 400000 in
theorem law_18 {p : Program} {la : Launch} {e : Env} {s : State} {m : MethodId} {args : Array Value} {below : List Frame} {meth : Method} {c : Code} {A : Nat → Prop} {Q : State → Prop} {G : zG} {X : (Nat → Prop) → State → Prop} (C : ZC G X p la s m args meth c A 10 ret cL_law "SwathSurveyLaw") (hX : zX X) (h4 : zT4 X) (hfl : la.stackTraces = false) (h5 : zT5 X) {ax : Nat → Nat × Nat} (hT : zT1 X ax) (hO : zT2 X) (hP : zT3 X) {b N : Nat} {xs : Nat → Int32} (hS : va_X b N xs s s.heap) (hbl : b < s.heap.size) (hbA : ¬ A b) (hN : N ≤ 3584) {i : Int} (hi0 : 0 ≤ i) (hi1 : i + 7 ≤ N) {c9 s9 : Nat} (hc9 : c9 + 40 ≤ 603072) (hs9 : s9 + 1000 ≤ 7215210) {L : List Nat} {f : Nat → va_E} {oc om aL aD : Nat} {μ : zMu} (hLW : zLW G L f oc om aL aD μ) (K : ∀ (L2 : List Nat) (f2 : Nat → va_E) (μ2 : zMu) (c2 s2 : Nat), c2 ≤ c9 + 40 → s2 ≤ s9 + 1000 → zLW G L2 f2 oc om aL aD μ2 → ZW G p la e room_1 s m args below meth c A 10 c2 s2 Q L2 f2 2409 (zLb i b oc om aL aD) []) : ZW G p la e room_1 s m args below meth c A 10 c9 s9 Q L f 1607 (zLb i b oc om aL aD) [] := by
  obtain ⟨Lc, Lm, ad, t, u, v, φ, ψ, hW⟩ := hLW
  obtain ⟨ω, hR, hI, hK⟩ := hW.C
  have hn := hI.n
  refine z_aload_n C 2 dL_law_1607 rfl ?_
  refine z_aload_n C 1 dL_law_1608 rfl ?_
  refine z_iload C 0 dL_law_1609 rfl ?_
  refine z_iconst C dL_law_1611 ?_
  refine z_iadd C dL_law_1612 ?_
  refine z_sld C hS hbl hbA (by omega) (by omega) (by omega) dL_law_1613 ?_
  refine z_aload_n C 4 dL_law_1614 rfl ?_
  refine z_cSW (As := [.ref oc, .int (iI (zgx xs (i + 1))), .ref aL]) C zcw_lost (w_lost hX h4 hfl h5  hW.C hW.s hW.n hW.A hW.l.1 (zgx xs (i + 1)) (by first | exact zgx_r _ _ | omega) ) zl_4_136 ⟨Nat.le_of_ble_eq_true rfl, Nat.le_of_ble_eq_true rfl⟩ (show _ ≤ 603072 by omega) (show _ ≤ 7215210 by omega) rfl rfl (Nat.le_of_ble_eq_true rfl) dL_law_1615 (fun z L3 f3 hq => ?_)
  obtain ⟨Lc2, φ2, hW2, hφ2, hz, h04⟩ := zLWx_w hW hq
  change ZW G p la e room_1 s m args below meth c A 10 (c9 + 8) (s9 + 48) Q L3 f3 1618 [(5, .int (iI i)), (0, .ref b), (1, .ref oc), (2, .ref om), (3, .ref aL), (4, .ref aD)] [.int (iI z)]
  refine z_istore (ls' := [(6, .int (iI z)), (5, .int (iI i)), (0, .ref b), (1, .ref oc), (2, .ref om), (3, .ref aL), (4, .ref aD)]) C dL_law_1618 (Nat.le_of_ble_eq_true rfl) rfl ?_
  refine z_aload_n C 4 dL_law_1620 rfl ?_
  refine z_aload_n C 2 dL_law_1621 rfl ?_
  refine z_iload C 1 dL_law_1622 rfl ?_
  refine z_iconst C dL_law_1624 ?_
  refine z_iadd C dL_law_1625 ?_
  refine z_sld C hS hbl hbA (by omega) (by omega) (by omega) dL_law_1626 ?_
  refine z_cVs (As := [.int (iI (zgx xs (i + 1)))]) C hW2.ms hW2.mn zc_X7_lost (c_X7_lost hX hW2.M hI (zgx xs (i + 1))  (by first | exact zgx_r _ _ | omega)) zl_7_112 ⟨Nat.le_of_ble_eq_true rfl, Nat.le_of_ble_eq_true rfl⟩ (show _ ≤ 603072 by omega) (show _ ≤ 7215210 by omega) hW2.M.1.1 hW2.M.1.2 rfl rfl rfl rfl (Nat.le_of_ble_eq_true rfl) dL_law_1627 (fun z2 Lm4 f4 L5 f5 hq2 hm2 => ?_)
  obtain ⟨rfl, t2, μ2, u2, v2, hM2, ho⟩ := hq2
  have hW3 := zLWx_m hW2 hm2 hM2
  rw [ho] at hW3 hφ2 hz h04
  obtain rfl : t2 = z := hz.symm
  have h04 : 0 ≤ t2 ∧ t2 ≤ 4 := h04
  exact z_tail (P := 1630) C hX hW3 h04 (fun h0 => (hφ2 h0).trans (by show zov (if t2 = 0 then z2 else 0) = zov z2; rw [if_pos h0])) ⟨Nat.le_of_ble_eq_true rfl, Nat.le_of_ble_eq_true rfl⟩ (show _ ≤ 603072 by omega) (show _ ≤ 7215210 by omega) zl_6_164 dL_law_1630 dL_law_1632 dL_law_1633 dL_law_1636 dL_law_1638 dL_law_1643 dL_law_1645 dL_law_1648 dL_law_1649 dL_law_1650 dL_law_1651 dL_law_1653 dL_law_1654 dL_law_1655 dL_law_1660 (by decide) (fun L6 f6 hW6 => z_perm [2, 3, 4, 5, 6, 7] rfl (K L6 f6 μ2 _ _ (by omega) (by omega) hW6))

set_option maxRecDepth 100000 in
set_option maxHeartbeats 400000 in
theorem law_19 {p : Program} {la : Launch} {e : Env} {s : State} {m : MethodId} {args : Array Value} {below : List Frame} {meth : Method} {c : Code} {A : Nat → Prop} {Q : State → Prop} {G : zG} {X : (Nat → Prop) → State → Prop} (C : ZC G X p la s m args meth c A 10 ret cL_law "SwathSurveyLaw") (hX : zX X) (h4 : zT4 X) (hfl : la.stackTraces = false) (h5 : zT5 X) {ax : Nat → Nat × Nat} (hT : zT1 X ax) (hO : zT2 X) (hP : zT3 X) {b N : Nat} {xs : Nat → Int32} (hS : va_X b N xs s s.heap) (hbl : b < s.heap.size) (hbA : ¬ A b) (hN : N ≤ 3584) {i : Int} (hi0 : 0 ≤ i) (hi1 : i + 7 ≤ N) {c9 s9 : Nat} (hc9 : c9 + 40 ≤ 603072) (hs9 : s9 + 1000 ≤ 7215210) {L : List Nat} {f : Nat → va_E} {oc om aL aD : Nat} {μ : zMu} (hLW : zLW G L f oc om aL aD μ) (K : ∀ (L2 : List Nat) (f2 : Nat → va_E) (μ2 : zMu) (c2 s2 : Nat), c2 ≤ c9 + 40 → s2 ≤ s9 + 1000 → zLW G L2 f2 oc om aL aD μ2 → ZW G p la e room_1 s m args below meth c A 10 c2 s2 Q L2 f2 2409 (zLb i b oc om aL aD) []) : ZW G p la e room_1 s m args below meth c A 10 c9 s9 Q L f 1663 (zLb i b oc om aL aD) [] := by
  obtain ⟨Lc, Lm, ad, t, u, v, φ, ψ, hW⟩ := hLW
  obtain ⟨ω, hR, hI, hK⟩ := hW.C
  have hn := hI.n
  refine z_aload_n C 2 dL_law_1663 rfl ?_
  refine z_aload_n C 1 dL_law_1664 rfl ?_
  refine z_iload C 0 dL_law_1665 rfl ?_
  refine z_iconst C dL_law_1667 ?_
  refine z_iadd C dL_law_1668 ?_
  refine z_sld C hS hbl hbA (by omega) (by omega) (by omega) dL_law_1669 ?_
  refine z_aload_n C 1 dL_law_1670 rfl ?_
  refine z_iload C 0 dL_law_1671 rfl ?_
  refine z_iconst C dL_law_1673 ?_
  refine z_iadd C dL_law_1674 ?_
  refine z_sld C hS hbl hbA (by omega) (by omega) (by omega) dL_law_1675 ?_
  refine z_aload_n C 4 dL_law_1676 rfl ?_
  refine z_cSW (As := [.ref oc, .int (iI (zgx xs (i + 1))), .int (iI (zgx xs (i + 2))), .ref aL]) C zcw_depth (w_depth hX h4 hfl h5  hW.C hW.s hW.n hW.A hW.l.1 (zgx xs (i + 1)) (zgx xs (i + 2)) (by first | exact zgx_r _ _ | omega) (by first | exact zgx_r _ _ | omega) ) zl_4_143 ⟨Nat.le_of_ble_eq_true rfl, Nat.le_of_ble_eq_true rfl⟩ (show _ ≤ 603072 by omega) (show _ ≤ 7215210 by omega) rfl rfl (Nat.le_of_ble_eq_true rfl) dL_law_1677 (fun z L3 f3 hq => ?_)
  obtain ⟨Lc2, φ2, hW2, hφ2, hz, h04⟩ := zLWx_w hW hq
  change ZW G p la e room_1 s m args below meth c A 10 (c9 + 8) (s9 + 48) Q L3 f3 1680 [(5, .int (iI i)), (0, .ref b), (1, .ref oc), (2, .ref om), (3, .ref aL), (4, .ref aD)] [.int (iI z)]
  refine z_istore (ls' := [(6, .int (iI z)), (5, .int (iI i)), (0, .ref b), (1, .ref oc), (2, .ref om), (3, .ref aL), (4, .ref aD)]) C dL_law_1680 (Nat.le_of_ble_eq_true rfl) rfl ?_
  refine z_aload_n C 4 dL_law_1682 rfl ?_
  refine z_aload_n C 2 dL_law_1683 rfl ?_
  refine z_iload C 1 dL_law_1684 rfl ?_
  refine z_iconst C dL_law_1686 ?_
  refine z_iadd C dL_law_1687 ?_
  refine z_sld C hS hbl hbA (by omega) (by omega) (by omega) dL_law_1688 ?_
  refine z_aload_n C 2 dL_law_1689 rfl ?_
  refine z_iload C 1 dL_law_1690 rfl ?_
  refine z_iconst C dL_law_1692 ?_
  refine z_iadd C dL_law_1693 ?_
  refine z_sld C hS hbl hbA (by omega) (by omega) (by omega) dL_law_1694 ?_
  refine z_cVs (As := [.int (iI (zgx xs (i + 1))), .int (iI (zgx xs (i + 2)))]) C hW2.ms hW2.mn zc_X7_depth (c_X7_depth hX hW2.M hI (zgx xs (i + 1)) (zgx xs (i + 2)) hK (by first | exact zgx_r _ _ | omega) (by first | exact zgx_r _ _ | omega)) zl_7_120 ⟨Nat.le_of_ble_eq_true rfl, Nat.le_of_ble_eq_true rfl⟩ (show _ ≤ 603072 by omega) (show _ ≤ 7215210 by omega) hW2.M.1.1 hW2.M.1.2 rfl rfl rfl rfl (Nat.le_of_ble_eq_true rfl) dL_law_1695 (fun z2 Lm4 f4 L5 f5 hq2 hm2 => ?_)
  obtain ⟨rfl, t2, μ2, u2, v2, hM2, ho⟩ := hq2
  have hW3 := zLWx_m hW2 hm2 hM2
  rw [ho] at hW3 hφ2 hz h04
  obtain rfl : t2 = z := hz.symm
  have h04 : 0 ≤ t2 ∧ t2 ≤ 4 := h04
  exact z_tail (P := 1698) C hX hW3 h04 (fun h0 => (hφ2 h0).trans (by show zov (if t2 = 0 then z2 else 0) = zov z2; rw [if_pos h0])) ⟨Nat.le_of_ble_eq_true rfl, Nat.le_of_ble_eq_true rfl⟩ (show _ ≤ 603072 by omega) (show _ ≤ 7215210 by omega) zl_6_164 dL_law_1698 dL_law_1700 dL_law_1701 dL_law_1704 dL_law_1706 dL_law_1711 dL_law_1713 dL_law_1716 dL_law_1717 dL_law_1718 dL_law_1719 dL_law_1721 dL_law_1722 dL_law_1723 dL_law_1728 (by decide) (fun L6 f6 hW6 => z_perm [2, 3, 4, 5, 6, 7] rfl (K L6 f6 μ2 _ _ (by omega) (by omega) hW6))

set_option maxRecDepth 100000 in
set_option maxHeartbeats 400000 in
theorem law_20 {p : Program} {la : Launch} {e : Env} {s : State} {m : MethodId} {args : Array Value} {below : List Frame} {meth : Method} {c : Code} {A : Nat → Prop} {Q : State → Prop} {G : zG} {X : (Nat → Prop) → State → Prop} (C : ZC G X p la s m args meth c A 10 ret cL_law "SwathSurveyLaw") (hX : zX X) (h4 : zT4 X) (hfl : la.stackTraces = false) (h5 : zT5 X) {ax : Nat → Nat × Nat} (hT : zT1 X ax) (hO : zT2 X) (hP : zT3 X) {b N : Nat} {xs : Nat → Int32} (hS : va_X b N xs s s.heap) (hbl : b < s.heap.size) (hbA : ¬ A b) (hN : N ≤ 3584) {i : Int} (hi0 : 0 ≤ i) (hi1 : i + 7 ≤ N) {c9 s9 : Nat} (hc9 : c9 + 40 ≤ 603072) (hs9 : s9 + 1000 ≤ 7215210) {L : List Nat} {f : Nat → va_E} {oc om aL aD : Nat} {μ : zMu} (hLW : zLW G L f oc om aL aD μ) (K : ∀ (L2 : List Nat) (f2 : Nat → va_E) (μ2 : zMu) (c2 s2 : Nat), c2 ≤ c9 + 40 → s2 ≤ s9 + 1000 → zLW G L2 f2 oc om aL aD μ2 → ZW G p la e room_1 s m args below meth c A 10 c2 s2 Q L2 f2 2409 (zLb i b oc om aL aD) []) : ZW G p la e room_1 s m args below meth c A 10 c9 s9 Q L f 1731 (zLb i b oc om aL aD) [] := by
  obtain ⟨Lc, Lm, ad, t, u, v, φ, ψ, hW⟩ := hLW
  obtain ⟨ω, hR, hI, hK⟩ := hW.C
  have hn := hI.n
  refine z_aload_n C 2 dL_law_1731 rfl ?_
  refine z_aload_n C 1 dL_law_1732 rfl ?_
  refine z_iload C 0 dL_law_1733 rfl ?_
  refine z_iconst C dL_law_1735 ?_
  refine z_iadd C dL_law_1736 ?_
  refine z_sld C hS hbl hbA (by omega) (by omega) (by omega) dL_law_1737 ?_
  refine z_aload_n C 1 dL_law_1738 rfl ?_
  refine z_iload C 0 dL_law_1739 rfl ?_
  refine z_iconst C dL_law_1741 ?_
  refine z_iadd C dL_law_1742 ?_
  refine z_sld C hS hbl hbA (by omega) (by omega) (by omega) dL_law_1743 ?_
  refine z_aload_n C 4 dL_law_1744 rfl ?_
  refine z_cSW (As := [.ref oc, .int (iI (zgx xs (i + 1))), .int (iI (zgx xs (i + 2))), .ref aL]) C zcw_depthAnew (w_depthAnew hX h4 hfl h5  hW.C hW.s hW.n hW.A hW.l.1 (zgx xs (i + 1)) (zgx xs (i + 2)) (by first | exact zgx_r _ _ | omega) (by first | exact zgx_r _ _ | omega) ) zl_4_154 ⟨Nat.le_of_ble_eq_true rfl, Nat.le_of_ble_eq_true rfl⟩ (show _ ≤ 603072 by omega) (show _ ≤ 7215210 by omega) rfl rfl (Nat.le_of_ble_eq_true rfl) dL_law_1745 (fun z L3 f3 hq => ?_)
  obtain ⟨Lc2, φ2, hW2, hφ2, hz, h04⟩ := zLWx_w hW hq
  change ZW G p la e room_1 s m args below meth c A 10 (c9 + 8) (s9 + 48) Q L3 f3 1748 [(5, .int (iI i)), (0, .ref b), (1, .ref oc), (2, .ref om), (3, .ref aL), (4, .ref aD)] [.int (iI z)]
  refine z_istore (ls' := [(6, .int (iI z)), (5, .int (iI i)), (0, .ref b), (1, .ref oc), (2, .ref om), (3, .ref aL), (4, .ref aD)]) C dL_law_1748 (Nat.le_of_ble_eq_true rfl) rfl ?_
  refine z_aload_n C 4 dL_law_1750 rfl ?_
  refine z_aload_n C 2 dL_law_1751 rfl ?_
  refine z_iload C 1 dL_law_1752 rfl ?_
  refine z_iconst C dL_law_1754 ?_
  refine z_iadd C dL_law_1755 ?_
  refine z_sld C hS hbl hbA (by omega) (by omega) (by omega) dL_law_1756 ?_
  refine z_aload_n C 2 dL_law_1757 rfl ?_
  refine z_iload C 1 dL_law_1758 rfl ?_
  refine z_iconst C dL_law_1760 ?_
  refine z_iadd C dL_law_1761 ?_
  refine z_sld C hS hbl hbA (by omega) (by omega) (by omega) dL_law_1762 ?_
  refine z_cVs (As := [.int (iI (zgx xs (i + 1))), .int (iI (zgx xs (i + 2)))]) C hW2.ms hW2.mn zc_X7_depthAnew (c_X7_depthAnew hX hW2.M hI (zgx xs (i + 1)) (zgx xs (i + 2)) hK (by first | exact zgx_r _ _ | omega) (by first | exact zgx_r _ _ | omega)) zl_7_124 ⟨Nat.le_of_ble_eq_true rfl, Nat.le_of_ble_eq_true rfl⟩ (show _ ≤ 603072 by omega) (show _ ≤ 7215210 by omega) hW2.M.1.1 hW2.M.1.2 rfl rfl rfl rfl (Nat.le_of_ble_eq_true rfl) dL_law_1763 (fun z2 Lm4 f4 L5 f5 hq2 hm2 => ?_)
  obtain ⟨rfl, t2, μ2, u2, v2, hM2, ho⟩ := hq2
  have hW3 := zLWx_m hW2 hm2 hM2
  rw [ho] at hW3 hφ2 hz h04
  obtain rfl : t2 = z := hz.symm
  have h04 : 0 ≤ t2 ∧ t2 ≤ 4 := h04
  exact z_tail (P := 1766) C hX hW3 h04 (fun h0 => (hφ2 h0).trans (by show zov (if t2 = 0 then z2 else 0) = zov z2; rw [if_pos h0])) ⟨Nat.le_of_ble_eq_true rfl, Nat.le_of_ble_eq_true rfl⟩ (show _ ≤ 603072 by omega) (show _ ≤ 7215210 by omega) zl_6_164 dL_law_1766 dL_law_1768 dL_law_1769 dL_law_1772 dL_law_1774 dL_law_1779 dL_law_1781 dL_law_1784 dL_law_1785 dL_law_1786 dL_law_1787 dL_law_1789 dL_law_1790 dL_law_1791 dL_law_1796 (by decide) (fun L6 f6 hW6 => z_perm [2, 3, 4, 5, 6, 7] rfl (K L6 f6 μ2 _ _ (by omega) (by omega) hW6))

set_option maxRecDepth 100000 in
set_option maxHeartbeats 400000 in
theorem law_22 {p : Program} {la : Launch} {e : Env} {s : State} {m : MethodId} {args : Array Value} {below : List Frame} {meth : Method} {c : Code} {A : Nat → Prop} {Q : State → Prop} {G : zG} {X : (Nat → Prop) → State → Prop} (C : ZC G X p la s m args meth c A 10 ret cL_law "SwathSurveyLaw") (hX : zX X) (h4 : zT4 X) (hfl : la.stackTraces = false) (h5 : zT5 X) {ax : Nat → Nat × Nat} (hT : zT1 X ax) (hO : zT2 X) (hP : zT3 X) {b N : Nat} {xs : Nat → Int32} (hS : va_X b N xs s s.heap) (hbl : b < s.heap.size) (hbA : ¬ A b) (hN : N ≤ 3584) {i : Int} (hi0 : 0 ≤ i) (hi1 : i + 7 ≤ N) {c9 s9 : Nat} (hc9 : c9 + 40 ≤ 603072) (hs9 : s9 + 1000 ≤ 7215210) {L : List Nat} {f : Nat → va_E} {oc om aL aD : Nat} {μ : zMu} (hLW : zLW G L f oc om aL aD μ) (K : ∀ (L2 : List Nat) (f2 : Nat → va_E) (μ2 : zMu) (c2 s2 : Nat), c2 ≤ c9 + 40 → s2 ≤ s9 + 1000 → zLW G L2 f2 oc om aL aD μ2 → ZW G p la e room_1 s m args below meth c A 10 c2 s2 Q L2 f2 2409 (zLb i b oc om aL aD) []) : ZW G p la e room_1 s m args below meth c A 10 c9 s9 Q L f 1812 (zLb i b oc om aL aD) [] := by
  obtain ⟨Lc, Lm, ad, t, u, v, φ, ψ, hW⟩ := hLW
  obtain ⟨ω, hR, hI, hK⟩ := hW.C
  have hn := hI.n
  refine z_aload_n C 2 dL_law_1812 rfl ?_
  refine z_aload_n C 1 dL_law_1813 rfl ?_
  refine z_iload C 0 dL_law_1814 rfl ?_
  refine z_iconst C dL_law_1816 ?_
  refine z_iadd C dL_law_1817 ?_
  refine z_sld C hS hbl hbA (by omega) (by omega) (by omega) dL_law_1818 ?_
  refine z_aload_n C 4 dL_law_1819 rfl ?_
  refine z_cSW (As := [.ref oc, .int (iI (zgx xs (i + 1))), .ref aL]) C zcw_gap (w_gap hX h4 hfl h5  hW.C hW.s hW.n hW.A hW.l.1 (zgx xs (i + 1)) (by first | exact zgx_r _ _ | omega) ) zl_4_161 ⟨Nat.le_of_ble_eq_true rfl, Nat.le_of_ble_eq_true rfl⟩ (show _ ≤ 603072 by omega) (show _ ≤ 7215210 by omega) rfl rfl (Nat.le_of_ble_eq_true rfl) dL_law_1820 (fun z L3 f3 hq => ?_)
  obtain ⟨Lc2, φ2, hW2, hφ2, hz, h04⟩ := zLWx_w hW hq
  change ZW G p la e room_1 s m args below meth c A 10 (c9 + 8) (s9 + 48) Q L3 f3 1823 [(5, .int (iI i)), (0, .ref b), (1, .ref oc), (2, .ref om), (3, .ref aL), (4, .ref aD)] [.int (iI z)]
  refine z_istore (ls' := [(6, .int (iI z)), (5, .int (iI i)), (0, .ref b), (1, .ref oc), (2, .ref om), (3, .ref aL), (4, .ref aD)]) C dL_law_1823 (Nat.le_of_ble_eq_true rfl) rfl ?_
  refine z_aload_n C 4 dL_law_1825 rfl ?_
  refine z_aload_n C 2 dL_law_1826 rfl ?_
  refine z_iload C 1 dL_law_1827 rfl ?_
  refine z_iconst C dL_law_1829 ?_
  refine z_iadd C dL_law_1830 ?_
  refine z_sld C hS hbl hbA (by omega) (by omega) (by omega) dL_law_1831 ?_
  refine z_cVs (As := [.int (iI (zgx xs (i + 1)))]) C hW2.ms hW2.mn zc_X7_gap (c_X7_gap hX hW2.M hI (zgx xs (i + 1)) hK (by first | exact zgx_r _ _ | omega)) zl_7_130 ⟨Nat.le_of_ble_eq_true rfl, Nat.le_of_ble_eq_true rfl⟩ (show _ ≤ 603072 by omega) (show _ ≤ 7215210 by omega) hW2.M.1.1 hW2.M.1.2 rfl rfl rfl rfl (Nat.le_of_ble_eq_true rfl) dL_law_1832 (fun z2 Lm4 f4 L5 f5 hq2 hm2 => ?_)
  obtain ⟨rfl, t2, μ2, u2, v2, hM2, ho⟩ := hq2
  have hW3 := zLWx_m hW2 hm2 hM2
  rw [ho] at hW3 hφ2 hz h04
  obtain rfl : t2 = z := hz.symm
  have h04 : 0 ≤ t2 ∧ t2 ≤ 4 := h04
  exact z_tail (P := 1835) C hX hW3 h04 (fun h0 => (hφ2 h0).trans (by show zov (if t2 = 0 then z2 else 0) = zov z2; rw [if_pos h0])) ⟨Nat.le_of_ble_eq_true rfl, Nat.le_of_ble_eq_true rfl⟩ (show _ ≤ 603072 by omega) (show _ ≤ 7215210 by omega) zl_6_164 dL_law_1835 dL_law_1837 dL_law_1838 dL_law_1841 dL_law_1843 dL_law_1848 dL_law_1850 dL_law_1853 dL_law_1854 dL_law_1855 dL_law_1856 dL_law_1858 dL_law_1859 dL_law_1860 dL_law_1865 (by decide) (fun L6 f6 hW6 => z_perm [2, 3, 4, 5, 6, 7] rfl (K L6 f6 μ2 _ _ (by omega) (by omega) hW6))

set_option maxRecDepth 100000 in
set_option maxHeartbeats 400000 in
theorem law_23 {p : Program} {la : Launch} {e : Env} {s : State} {m : MethodId} {args : Array Value} {below : List Frame} {meth : Method} {c : Code} {A : Nat → Prop} {Q : State → Prop} {G : zG} {X : (Nat → Prop) → State → Prop} (C : ZC G X p la s m args meth c A 10 ret cL_law "SwathSurveyLaw") (hX : zX X) (h4 : zT4 X) (hfl : la.stackTraces = false) (h5 : zT5 X) {ax : Nat → Nat × Nat} (hT : zT1 X ax) (hO : zT2 X) (hP : zT3 X) {b N : Nat} {xs : Nat → Int32} (hS : va_X b N xs s s.heap) (hbl : b < s.heap.size) (hbA : ¬ A b) (hN : N ≤ 3584) {i : Int} (hi0 : 0 ≤ i) (hi1 : i + 7 ≤ N) {c9 s9 : Nat} (hc9 : c9 + 40 ≤ 603072) (hs9 : s9 + 1000 ≤ 7215210) {L : List Nat} {f : Nat → va_E} {oc om aL aD : Nat} {μ : zMu} (hLW : zLW G L f oc om aL aD μ) (K : ∀ (L2 : List Nat) (f2 : Nat → va_E) (μ2 : zMu) (c2 s2 : Nat), c2 ≤ c9 + 40 → s2 ≤ s9 + 1000 → zLW G L2 f2 oc om aL aD μ2 → ZW G p la e room_1 s m args below meth c A 10 c2 s2 Q L2 f2 2409 (zLb i b oc om aL aD) []) : ZW G p la e room_1 s m args below meth c A 10 c9 s9 Q L f 1868 (zLb i b oc om aL aD) [] := by
  obtain ⟨Lc, Lm, ad, t, u, v, φ, ψ, hW⟩ := hLW
  obtain ⟨ω, hR, hI, hK⟩ := hW.C
  have hn := hI.n
  refine z_aload_n C 2 dL_law_1868 rfl ?_
  refine z_aload_n C 4 dL_law_1869 rfl ?_
  refine z_cSW (As := [.ref oc, .ref aL]) C zcw_bestRow (w_bestRow hX h4 hfl h5  hW.C hW.s hW.n hW.A hW.l.1   ) zl_4_172 ⟨Nat.le_of_ble_eq_true rfl, Nat.le_of_ble_eq_true rfl⟩ (show _ ≤ 603072 by omega) (show _ ≤ 7215210 by omega) rfl rfl (Nat.le_of_ble_eq_true rfl) dL_law_1870 (fun z L3 f3 hq => ?_)
  obtain ⟨Lc2, φ2, hW2, hφ2, hz, h04⟩ := zLWx_w hW hq
  change ZW G p la e room_1 s m args below meth c A 10 (c9 + 8) (s9 + 48) Q L3 f3 1873 [(5, .int (iI i)), (0, .ref b), (1, .ref oc), (2, .ref om), (3, .ref aL), (4, .ref aD)] [.int (iI z)]
  refine z_istore (ls' := [(6, .int (iI z)), (5, .int (iI i)), (0, .ref b), (1, .ref oc), (2, .ref om), (3, .ref aL), (4, .ref aD)]) C dL_law_1873 (Nat.le_of_ble_eq_true rfl) rfl ?_
  refine z_aload_n C 4 dL_law_1875 rfl ?_
  refine z_cVs (As := []) C hW2.ms hW2.mn zc_X7_bestRow (c_X7_bestRow hX hW2.M hI  hK ) zl_7_134 ⟨Nat.le_of_ble_eq_true rfl, Nat.le_of_ble_eq_true rfl⟩ (show _ ≤ 603072 by omega) (show _ ≤ 7215210 by omega) hW2.M.1.1 hW2.M.1.2 rfl rfl rfl rfl (Nat.le_of_ble_eq_true rfl) dL_law_1876 (fun z2 Lm4 f4 L5 f5 hq2 hm2 => ?_)
  obtain ⟨rfl, t2, μ2, u2, v2, hM2, ho⟩ := hq2
  have hW3 := zLWx_m hW2 hm2 hM2
  rw [ho] at hW3 hφ2 hz h04
  obtain rfl : t2 = z := hz.symm
  have h04 : 0 ≤ t2 ∧ t2 ≤ 4 := h04
  exact z_tail (P := 1879) C hX hW3 h04 (fun h0 => (hφ2 h0).trans (by show zov (if t2 = 0 then z2 else 0) = zov z2; rw [if_pos h0])) ⟨Nat.le_of_ble_eq_true rfl, Nat.le_of_ble_eq_true rfl⟩ (show _ ≤ 603072 by omega) (show _ ≤ 7215210 by omega) zl_6_164 dL_law_1879 dL_law_1881 dL_law_1882 dL_law_1885 dL_law_1887 dL_law_1892 dL_law_1894 dL_law_1897 dL_law_1898 dL_law_1899 dL_law_1900 dL_law_1902 dL_law_1903 dL_law_1904 dL_law_1909 (by decide) (fun L6 f6 hW6 => z_perm [2, 3, 4, 5, 6, 7] rfl (K L6 f6 μ2 _ _ (by omega) (by omega) hW6))

set_option maxRecDepth 100000 in
set_option maxHeartbeats 400000 in
theorem law_25 {p : Program} {la : Launch} {e : Env} {s : State} {m : MethodId} {args : Array Value} {below : List Frame} {meth : Method} {c : Code} {A : Nat → Prop} {Q : State → Prop} {G : zG} {X : (Nat → Prop) → State → Prop} (C : ZC G X p la s m args meth c A 10 ret cL_law "SwathSurveyLaw") (hX : zX X) (h4 : zT4 X) (hfl : la.stackTraces = false) (h5 : zT5 X) {ax : Nat → Nat × Nat} (hT : zT1 X ax) (hO : zT2 X) (hP : zT3 X) {b N : Nat} {xs : Nat → Int32} (hS : va_X b N xs s s.heap) (hbl : b < s.heap.size) (hbA : ¬ A b) (hN : N ≤ 3584) {i : Int} (hi0 : 0 ≤ i) (hi1 : i + 7 ≤ N) {c9 s9 : Nat} (hc9 : c9 + 40 ≤ 603072) (hs9 : s9 + 1000 ≤ 7215210) {L : List Nat} {f : Nat → va_E} {oc om aL aD : Nat} {μ : zMu} (hLW : zLW G L f oc om aL aD μ) (K : ∀ (L2 : List Nat) (f2 : Nat → va_E) (μ2 : zMu) (c2 s2 : Nat), c2 ≤ c9 + 40 → s2 ≤ s9 + 1000 → zLW G L2 f2 oc om aL aD μ2 → ZW G p la e room_1 s m args below meth c A 10 c2 s2 Q L2 f2 2409 (zLb i b oc om aL aD) []) : ZW G p la e room_1 s m args below meth c A 10 c9 s9 Q L f 1925 (zLb i b oc om aL aD) [] := by
  obtain ⟨Lc, Lm, ad, t, u, v, φ, ψ, hW⟩ := hLW
  obtain ⟨ω, hR, hI, hK⟩ := hW.C
  have hn := hI.n
  refine z_aload_n C 2 dL_law_1925 rfl ?_
  refine z_aload_n C 1 dL_law_1926 rfl ?_
  refine z_iload C 0 dL_law_1927 rfl ?_
  refine z_iconst C dL_law_1929 ?_
  refine z_iadd C dL_law_1930 ?_
  refine z_sld C hS hbl hbA (by omega) (by omega) (by omega) dL_law_1931 ?_
  refine z_aload_n C 4 dL_law_1932 rfl ?_
  refine z_cSW (As := [.ref oc, .int (iI (zgx xs (i + 1))), .ref aL]) C zcw_dayOf (w_dayOf hX h4 hfl h5  hW.C hW.s hW.n hW.A hW.l.1 (zgx xs (i + 1)) (by first | exact zgx_r _ _ | omega) ) zl_4_190 ⟨Nat.le_of_ble_eq_true rfl, Nat.le_of_ble_eq_true rfl⟩ (show _ ≤ 603072 by omega) (show _ ≤ 7215210 by omega) rfl rfl (Nat.le_of_ble_eq_true rfl) dL_law_1933 (fun z L3 f3 hq => ?_)
  obtain ⟨Lc2, φ2, hW2, hφ2, hz, h04⟩ := zLWx_w hW hq
  change ZW G p la e room_1 s m args below meth c A 10 (c9 + 8) (s9 + 48) Q L3 f3 1936 [(5, .int (iI i)), (0, .ref b), (1, .ref oc), (2, .ref om), (3, .ref aL), (4, .ref aD)] [.int (iI z)]
  refine z_istore (ls' := [(6, .int (iI z)), (5, .int (iI i)), (0, .ref b), (1, .ref oc), (2, .ref om), (3, .ref aL), (4, .ref aD)]) C dL_law_1936 (Nat.le_of_ble_eq_true rfl) rfl ?_
  refine z_aload_n C 4 dL_law_1938 rfl ?_
  refine z_aload_n C 2 dL_law_1939 rfl ?_
  refine z_iload C 1 dL_law_1940 rfl ?_
  refine z_iconst C dL_law_1942 ?_
  refine z_iadd C dL_law_1943 ?_
  refine z_sld C hS hbl hbA (by omega) (by omega) (by omega) dL_law_1944 ?_
  refine z_cVs (As := [.int (iI (zgx xs (i + 1)))]) C hW2.ms hW2.mn zc_X7_dayOf (c_X7_dayOf hX hW2.M hI (zgx xs (i + 1))  (by first | exact zgx_r _ _ | omega)) zl_7_146 ⟨Nat.le_of_ble_eq_true rfl, Nat.le_of_ble_eq_true rfl⟩ (show _ ≤ 603072 by omega) (show _ ≤ 7215210 by omega) hW2.M.1.1 hW2.M.1.2 rfl rfl rfl rfl (Nat.le_of_ble_eq_true rfl) dL_law_1945 (fun z2 Lm4 f4 L5 f5 hq2 hm2 => ?_)
  obtain ⟨rfl, t2, μ2, u2, v2, hM2, ho⟩ := hq2
  have hW3 := zLWx_m hW2 hm2 hM2
  rw [ho] at hW3 hφ2 hz h04
  obtain rfl : t2 = z := hz.symm
  have h04 : 0 ≤ t2 ∧ t2 ≤ 4 := h04
  exact z_tail (P := 1948) C hX hW3 h04 (fun h0 => (hφ2 h0).trans (by show zov (if t2 = 0 then z2 else 0) = zov z2; rw [if_pos h0])) ⟨Nat.le_of_ble_eq_true rfl, Nat.le_of_ble_eq_true rfl⟩ (show _ ≤ 603072 by omega) (show _ ≤ 7215210 by omega) zl_6_164 dL_law_1948 dL_law_1950 dL_law_1951 dL_law_1954 dL_law_1956 dL_law_1961 dL_law_1963 dL_law_1966 dL_law_1967 dL_law_1968 dL_law_1969 dL_law_1971 dL_law_1972 dL_law_1973 dL_law_1978 (by decide) (fun L6 f6 hW6 => z_perm [2, 3, 4, 5, 6, 7] rfl (K L6 f6 μ2 _ _ (by omega) (by omega) hW6))

set_option maxRecDepth 100000 in
set_option maxHeartbeats 400000 in
theorem law_27 {p : Program} {la : Launch} {e : Env} {s : State} {m : MethodId} {args : Array Value} {below : List Frame} {meth : Method} {c : Code} {A : Nat → Prop} {Q : State → Prop} {G : zG} {X : (Nat → Prop) → State → Prop} (C : ZC G X p la s m args meth c A 10 ret cL_law "SwathSurveyLaw") (hX : zX X) (h4 : zT4 X) (hfl : la.stackTraces = false) (h5 : zT5 X) {ax : Nat → Nat × Nat} (hT : zT1 X ax) (hO : zT2 X) (hP : zT3 X) {b N : Nat} {xs : Nat → Int32} (hS : va_X b N xs s s.heap) (hbl : b < s.heap.size) (hbA : ¬ A b) (hN : N ≤ 3584) {i : Int} (hi0 : 0 ≤ i) (hi1 : i + 7 ≤ N) {c9 s9 : Nat} (hc9 : c9 + 40 ≤ 603072) (hs9 : s9 + 1000 ≤ 7215210) {L : List Nat} {f : Nat → va_E} {oc om aL aD : Nat} {μ : zMu} (hLW : zLW G L f oc om aL aD μ) (K : ∀ (L2 : List Nat) (f2 : Nat → va_E) (μ2 : zMu) (c2 s2 : Nat), c2 ≤ c9 + 40 → s2 ≤ s9 + 1000 → zLW G L2 f2 oc om aL aD μ2 → ZW G p la e room_1 s m args below meth c A 10 c2 s2 Q L2 f2 2409 (zLb i b oc om aL aD) []) : ZW G p la e room_1 s m args below meth c A 10 c9 s9 Q L f 1994 (zLb i b oc om aL aD) [] := by
  obtain ⟨Lc, Lm, ad, t, u, v, φ, ψ, hW⟩ := hLW
  obtain ⟨ω, hR, hI, hK⟩ := hW.C
  have hn := hI.n
  refine z_aload_n C 2 dL_law_1994 rfl ?_
  refine z_aload_n C 1 dL_law_1995 rfl ?_
  refine z_iload C 0 dL_law_1996 rfl ?_
  refine z_iconst C dL_law_1998 ?_
  refine z_iadd C dL_law_1999 ?_
  refine z_sld C hS hbl hbA (by omega) (by omega) (by omega) dL_law_2000 ?_
  refine z_aload_n C 1 dL_law_2001 rfl ?_
  refine z_iload C 0 dL_law_2002 rfl ?_
  refine z_iconst C dL_law_2004 ?_
  refine z_iadd C dL_law_2005 ?_
  refine z_sld C hS hbl hbA (by omega) (by omega) (by omega) dL_law_2006 ?_
  refine z_aload_n C 4 dL_law_2007 rfl ?_
  refine z_cSW (As := [.ref oc, .int (iI (zgx xs (i + 1))), .int (iI (zgx xs (i + 2))), .ref aL]) C zcw_cross (w_cross hX h4 hfl h5  hW.C hW.s hW.n hW.A hW.l.1 (zgx xs (i + 1)) (zgx xs (i + 2)) (by first | exact zgx_r _ _ | omega) (by first | exact zgx_r _ _ | omega) ) zl_4_197 ⟨Nat.le_of_ble_eq_true rfl, Nat.le_of_ble_eq_true rfl⟩ (show _ ≤ 603072 by omega) (show _ ≤ 7215210 by omega) rfl rfl (Nat.le_of_ble_eq_true rfl) dL_law_2008 (fun z L3 f3 hq => ?_)
  obtain ⟨Lc2, φ2, hW2, hφ2, hz, h04⟩ := zLWx_w hW hq
  change ZW G p la e room_1 s m args below meth c A 10 (c9 + 8) (s9 + 48) Q L3 f3 2011 [(5, .int (iI i)), (0, .ref b), (1, .ref oc), (2, .ref om), (3, .ref aL), (4, .ref aD)] [.int (iI z)]
  refine z_istore (ls' := [(6, .int (iI z)), (5, .int (iI i)), (0, .ref b), (1, .ref oc), (2, .ref om), (3, .ref aL), (4, .ref aD)]) C dL_law_2011 (Nat.le_of_ble_eq_true rfl) rfl ?_
  refine z_aload_n C 4 dL_law_2013 rfl ?_
  refine z_aload_n C 2 dL_law_2014 rfl ?_
  refine z_iload C 1 dL_law_2015 rfl ?_
  refine z_iconst C dL_law_2017 ?_
  refine z_iadd C dL_law_2018 ?_
  refine z_sld C hS hbl hbA (by omega) (by omega) (by omega) dL_law_2019 ?_
  refine z_aload_n C 2 dL_law_2020 rfl ?_
  refine z_iload C 1 dL_law_2021 rfl ?_
  refine z_iconst C dL_law_2023 ?_
  refine z_iadd C dL_law_2024 ?_
  refine z_sld C hS hbl hbA (by omega) (by omega) (by omega) dL_law_2025 ?_
  refine z_cVs (As := [.int (iI (zgx xs (i + 1))), .int (iI (zgx xs (i + 2)))]) C hW2.ms hW2.mn zc_X7_cross (c_X7_cross hX hW2.M hI (zgx xs (i + 1)) (zgx xs (i + 2))  (by first | exact zgx_r _ _ | omega) (by first | exact zgx_r _ _ | omega)) zl_7_154 ⟨Nat.le_of_ble_eq_true rfl, Nat.le_of_ble_eq_true rfl⟩ (show _ ≤ 603072 by omega) (show _ ≤ 7215210 by omega) hW2.M.1.1 hW2.M.1.2 rfl rfl rfl rfl (Nat.le_of_ble_eq_true rfl) dL_law_2026 (fun z2 Lm4 f4 L5 f5 hq2 hm2 => ?_)
  obtain ⟨rfl, t2, μ2, u2, v2, hM2, ho⟩ := hq2
  have hW3 := zLWx_m hW2 hm2 hM2
  rw [ho] at hW3 hφ2 hz h04
  obtain rfl : t2 = z := hz.symm
  have h04 : 0 ≤ t2 ∧ t2 ≤ 4 := h04
  exact z_tail (P := 2029) C hX hW3 h04 (fun h0 => (hφ2 h0).trans (by show zov (if t2 = 0 then z2 else 0) = zov z2; rw [if_pos h0])) ⟨Nat.le_of_ble_eq_true rfl, Nat.le_of_ble_eq_true rfl⟩ (show _ ≤ 603072 by omega) (show _ ≤ 7215210 by omega) zl_6_164 dL_law_2029 dL_law_2031 dL_law_2032 dL_law_2035 dL_law_2037 dL_law_2042 dL_law_2044 dL_law_2047 dL_law_2048 dL_law_2049 dL_law_2050 dL_law_2052 dL_law_2053 dL_law_2054 dL_law_2059 (by decide) (fun L6 f6 hW6 => z_perm [2, 3, 4, 5, 6, 7] rfl (K L6 f6 μ2 _ _ (by omega) (by omega) hW6))

set_option maxRecDepth 100000 in
set_option maxHeartbeats 400000 in
theorem law_28 {p : Program} {la : Launch} {e : Env} {s : State} {m : MethodId} {args : Array Value} {below : List Frame} {meth : Method} {c : Code} {A : Nat → Prop} {Q : State → Prop} {G : zG} {X : (Nat → Prop) → State → Prop} (C : ZC G X p la s m args meth c A 10 ret cL_law "SwathSurveyLaw") (hX : zX X) (h4 : zT4 X) (hfl : la.stackTraces = false) (h5 : zT5 X) {ax : Nat → Nat × Nat} (hT : zT1 X ax) (hO : zT2 X) (hP : zT3 X) {b N : Nat} {xs : Nat → Int32} (hS : va_X b N xs s s.heap) (hbl : b < s.heap.size) (hbA : ¬ A b) (hN : N ≤ 3584) {i : Int} (hi0 : 0 ≤ i) (hi1 : i + 7 ≤ N) {c9 s9 : Nat} (hc9 : c9 + 40 ≤ 603072) (hs9 : s9 + 1000 ≤ 7215210) {L : List Nat} {f : Nat → va_E} {oc om aL aD : Nat} {μ : zMu} (hLW : zLW G L f oc om aL aD μ) (K : ∀ (L2 : List Nat) (f2 : Nat → va_E) (μ2 : zMu) (c2 s2 : Nat), c2 ≤ c9 + 40 → s2 ≤ s9 + 1000 → zLW G L2 f2 oc om aL aD μ2 → ZW G p la e room_1 s m args below meth c A 10 c2 s2 Q L2 f2 2409 (zLb i b oc om aL aD) []) : ZW G p la e room_1 s m args below meth c A 10 c9 s9 Q L f 2062 (zLb i b oc om aL aD) [] := by
  obtain ⟨Lc, Lm, ad, t, u, v, φ, ψ, hW⟩ := hLW
  obtain ⟨ω, hR, hI, hK⟩ := hW.C
  have hn := hI.n
  refine z_aload_n C 2 dL_law_2062 rfl ?_
  refine z_aload_n C 4 dL_law_2063 rfl ?_
  refine z_cSW (As := [.ref oc, .ref aL]) C zcw_worstCross (w_worstCross hX h4 hfl h5  hW.C hW.s hW.n hW.A hW.l.1   ) zl_4_214 ⟨Nat.le_of_ble_eq_true rfl, Nat.le_of_ble_eq_true rfl⟩ (show _ ≤ 603072 by omega) (show _ ≤ 7215210 by omega) rfl rfl (Nat.le_of_ble_eq_true rfl) dL_law_2064 (fun z L3 f3 hq => ?_)
  obtain ⟨Lc2, φ2, hW2, hφ2, hz, h04⟩ := zLWx_w hW hq
  change ZW G p la e room_1 s m args below meth c A 10 (c9 + 8) (s9 + 48) Q L3 f3 2067 [(5, .int (iI i)), (0, .ref b), (1, .ref oc), (2, .ref om), (3, .ref aL), (4, .ref aD)] [.int (iI z)]
  refine z_istore (ls' := [(6, .int (iI z)), (5, .int (iI i)), (0, .ref b), (1, .ref oc), (2, .ref om), (3, .ref aL), (4, .ref aD)]) C dL_law_2067 (Nat.le_of_ble_eq_true rfl) rfl ?_
  refine z_aload_n C 4 dL_law_2069 rfl ?_
  refine z_cVs (As := []) C hW2.ms hW2.mn zc_X7_worstCross (c_X7_worstCross hX hW2.M hI   ) zl_7_170 ⟨Nat.le_of_ble_eq_true rfl, Nat.le_of_ble_eq_true rfl⟩ (show _ ≤ 603072 by omega) (show _ ≤ 7215210 by omega) hW2.M.1.1 hW2.M.1.2 rfl rfl rfl rfl (Nat.le_of_ble_eq_true rfl) dL_law_2070 (fun z2 Lm4 f4 L5 f5 hq2 hm2 => ?_)
  obtain ⟨rfl, t2, μ2, u2, v2, hM2, ho⟩ := hq2
  have hW3 := zLWx_m hW2 hm2 hM2
  rw [ho] at hW3 hφ2 hz h04
  obtain rfl : t2 = z := hz.symm
  have h04 : 0 ≤ t2 ∧ t2 ≤ 4 := h04
  exact z_tail (P := 2073) C hX hW3 h04 (fun h0 => (hφ2 h0).trans (by show zov (if t2 = 0 then z2 else 0) = zov z2; rw [if_pos h0])) ⟨Nat.le_of_ble_eq_true rfl, Nat.le_of_ble_eq_true rfl⟩ (show _ ≤ 603072 by omega) (show _ ≤ 7215210 by omega) zl_6_164 dL_law_2073 dL_law_2075 dL_law_2076 dL_law_2079 dL_law_2081 dL_law_2086 dL_law_2088 dL_law_2091 dL_law_2092 dL_law_2093 dL_law_2094 dL_law_2096 dL_law_2097 dL_law_2098 dL_law_2103 (by decide) (fun L6 f6 hW6 => z_perm [2, 3, 4, 5, 6, 7] rfl (K L6 f6 μ2 _ _ (by omega) (by omega) hW6))

set_option maxRecDepth 100000 in
set_option maxHeartbeats 400000 in
theorem law_29 {p : Program} {la : Launch} {e : Env} {s : State} {m : MethodId} {args : Array Value} {below : List Frame} {meth : Method} {c : Code} {A : Nat → Prop} {Q : State → Prop} {G : zG} {X : (Nat → Prop) → State → Prop} (C : ZC G X p la s m args meth c A 10 ret cL_law "SwathSurveyLaw") (hX : zX X) (h4 : zT4 X) (hfl : la.stackTraces = false) (h5 : zT5 X) {ax : Nat → Nat × Nat} (hT : zT1 X ax) (hO : zT2 X) (hP : zT3 X) {b N : Nat} {xs : Nat → Int32} (hS : va_X b N xs s s.heap) (hbl : b < s.heap.size) (hbA : ¬ A b) (hN : N ≤ 3584) {i : Int} (hi0 : 0 ≤ i) (hi1 : i + 7 ≤ N) {c9 s9 : Nat} (hc9 : c9 + 40 ≤ 603072) (hs9 : s9 + 1000 ≤ 7215210) {L : List Nat} {f : Nat → va_E} {oc om aL aD : Nat} {μ : zMu} (hLW : zLW G L f oc om aL aD μ) (K : ∀ (L2 : List Nat) (f2 : Nat → va_E) (μ2 : zMu) (c2 s2 : Nat), c2 ≤ c9 + 40 → s2 ≤ s9 + 1000 → zLW G L2 f2 oc om aL aD μ2 → ZW G p la e room_1 s m args below meth c A 10 c2 s2 Q L2 f2 2409 (zLb i b oc om aL aD) []) : ZW G p la e room_1 s m args below meth c A 10 c9 s9 Q L f 2106 (zLb i b oc om aL aD) [] := by
  obtain ⟨Lc, Lm, ad, t, u, v, φ, ψ, hW⟩ := hLW
  obtain ⟨ω, hR, hI, hK⟩ := hW.C
  have hn := hI.n
  refine z_aload_n C 2 dL_law_2106 rfl ?_
  refine z_aload_n C 1 dL_law_2107 rfl ?_
  refine z_iload C 0 dL_law_2108 rfl ?_
  refine z_iconst C dL_law_2110 ?_
  refine z_iadd C dL_law_2111 ?_
  refine z_sld C hS hbl hbA (by omega) (by omega) (by omega) dL_law_2112 ?_
  refine z_aload_n C 4 dL_law_2113 rfl ?_
  refine z_cSW (As := [.ref oc, .int (iI (zgx xs (i + 1))), .ref aL]) C zcw_hours (w_hours hX h4 hfl h5  hW.C hW.s hW.n hW.A hW.l.1 (zgx xs (i + 1)) (by first | exact zgx_r _ _ | omega) ) zl_4_225 ⟨Nat.le_of_ble_eq_true rfl, Nat.le_of_ble_eq_true rfl⟩ (show _ ≤ 603072 by omega) (show _ ≤ 7215210 by omega) rfl rfl (Nat.le_of_ble_eq_true rfl) dL_law_2114 (fun z L3 f3 hq => ?_)
  obtain ⟨Lc2, φ2, hW2, hφ2, hz, h04⟩ := zLWx_w hW hq
  change ZW G p la e room_1 s m args below meth c A 10 (c9 + 8) (s9 + 48) Q L3 f3 2117 [(5, .int (iI i)), (0, .ref b), (1, .ref oc), (2, .ref om), (3, .ref aL), (4, .ref aD)] [.int (iI z)]
  refine z_istore (ls' := [(6, .int (iI z)), (5, .int (iI i)), (0, .ref b), (1, .ref oc), (2, .ref om), (3, .ref aL), (4, .ref aD)]) C dL_law_2117 (Nat.le_of_ble_eq_true rfl) rfl ?_
  refine z_aload_n C 4 dL_law_2119 rfl ?_
  refine z_aload_n C 2 dL_law_2120 rfl ?_
  refine z_iload C 1 dL_law_2121 rfl ?_
  refine z_iconst C dL_law_2123 ?_
  refine z_iadd C dL_law_2124 ?_
  refine z_sld C hS hbl hbA (by omega) (by omega) (by omega) dL_law_2125 ?_
  refine z_cVs (As := [.int (iI (zgx xs (i + 1)))]) C hW2.ms hW2.mn zc_X7_hours (c_X7_hours hX hW2.M hI (zgx xs (i + 1))  (by first | exact zgx_r _ _ | omega)) zl_7_174 ⟨Nat.le_of_ble_eq_true rfl, Nat.le_of_ble_eq_true rfl⟩ (show _ ≤ 603072 by omega) (show _ ≤ 7215210 by omega) hW2.M.1.1 hW2.M.1.2 rfl rfl rfl rfl (Nat.le_of_ble_eq_true rfl) dL_law_2126 (fun z2 Lm4 f4 L5 f5 hq2 hm2 => ?_)
  obtain ⟨rfl, t2, μ2, u2, v2, hM2, ho⟩ := hq2
  have hW3 := zLWx_m hW2 hm2 hM2
  rw [ho] at hW3 hφ2 hz h04
  obtain rfl : t2 = z := hz.symm
  have h04 : 0 ≤ t2 ∧ t2 ≤ 4 := h04
  exact z_tail (P := 2129) C hX hW3 h04 (fun h0 => (hφ2 h0).trans (by show zov (if t2 = 0 then z2 else 0) = zov z2; rw [if_pos h0])) ⟨Nat.le_of_ble_eq_true rfl, Nat.le_of_ble_eq_true rfl⟩ (show _ ≤ 603072 by omega) (show _ ≤ 7215210 by omega) zl_6_164 dL_law_2129 dL_law_2131 dL_law_2132 dL_law_2135 dL_law_2137 dL_law_2142 dL_law_2144 dL_law_2147 dL_law_2148 dL_law_2149 dL_law_2150 dL_law_2152 dL_law_2153 dL_law_2154 dL_law_2159 (by decide) (fun L6 f6 hW6 => z_perm [2, 3, 4, 5, 6, 7] rfl (K L6 f6 μ2 _ _ (by omega) (by omega) hW6))

set_option maxRecDepth 100000 in
set_option maxHeartbeats 400000 in
theorem law_33 {p : Program} {la : Launch} {e : Env} {s : State} {m : MethodId} {args : Array Value} {below : List Frame} {meth : Method} {c : Code} {A : Nat → Prop} {Q : State → Prop} {G : zG} {X : (Nat → Prop) → State → Prop} (C : ZC G X p la s m args meth c A 10 ret cL_law "SwathSurveyLaw") (hX : zX X) (h4 : zT4 X) (hfl : la.stackTraces = false) (h5 : zT5 X) {ax : Nat → Nat × Nat} (hT : zT1 X ax) (hO : zT2 X) (hP : zT3 X) {b N : Nat} {xs : Nat → Int32} (hS : va_X b N xs s s.heap) (hbl : b < s.heap.size) (hbA : ¬ A b) (hN : N ≤ 3584) {i : Int} (hi0 : 0 ≤ i) (hi1 : i + 7 ≤ N) {c9 s9 : Nat} (hc9 : c9 + 40 ≤ 603072) (hs9 : s9 + 1000 ≤ 7215210) {L : List Nat} {f : Nat → va_E} {oc om aL aD : Nat} {μ : zMu} (hLW : zLW G L f oc om aL aD μ) (K : ∀ (L2 : List Nat) (f2 : Nat → va_E) (μ2 : zMu) (c2 s2 : Nat), c2 ≤ c9 + 40 → s2 ≤ s9 + 1000 → zLW G L2 f2 oc om aL aD μ2 → ZW G p la e room_1 s m args below meth c A 10 c2 s2 Q L2 f2 2409 (zLb i b oc om aL aD) []) : ZW G p la e room_1 s m args below meth c A 10 c9 s9 Q L f 2284 (zLb i b oc om aL aD) [] := by
  obtain ⟨Lc, Lm, ad, t, u, v, φ, ψ, hW⟩ := hLW
  obtain ⟨ω, hR, hI, hK⟩ := hW.C
  have hn := hI.n
  refine z_aload_n C 2 dL_law_2284 rfl ?_
  refine z_aload_n C 1 dL_law_2285 rfl ?_
  refine z_iload C 0 dL_law_2286 rfl ?_
  refine z_iconst C dL_law_2288 ?_
  refine z_iadd C dL_law_2289 ?_
  refine z_sld C hS hbl hbA (by omega) (by omega) (by omega) dL_law_2290 ?_
  refine z_aload_n C 4 dL_law_2291 rfl ?_
  refine z_cSW (As := [.ref oc, .int (iI (zgx xs (i + 1))), .ref aL]) C zcw_writeLine (w_writeLine hX h4 hfl h5 hT hP hW.C hW.s hW.n hW.A hW.l.1 (zgx xs (i + 1)) (by first | exact zgx_r _ _ | omega) ) zl_5_20 ⟨Nat.le_of_ble_eq_true rfl, Nat.le_of_ble_eq_true rfl⟩ (show _ ≤ 603072 by omega) (show _ ≤ 7215210 by omega) rfl rfl (Nat.le_of_ble_eq_true rfl) dL_law_2292 (fun z L3 f3 hq => ?_)
  obtain ⟨Lc2, φ2, hW2, hφ2, hz, h04⟩ := zLWx_w hW hq
  change ZW G p la e room_1 s m args below meth c A 10 (c9 + 16) (s9 + 480) Q L3 f3 2295 [(5, .int (iI i)), (0, .ref b), (1, .ref oc), (2, .ref om), (3, .ref aL), (4, .ref aD)] [.int (iI z)]
  refine z_istore (ls' := [(6, .int (iI z)), (5, .int (iI i)), (0, .ref b), (1, .ref oc), (2, .ref om), (3, .ref aL), (4, .ref aD)]) C dL_law_2295 (Nat.le_of_ble_eq_true rfl) rfl ?_
  refine z_aload_n C 4 dL_law_2297 rfl ?_
  refine z_aload_n C 2 dL_law_2298 rfl ?_
  refine z_iload C 1 dL_law_2299 rfl ?_
  refine z_iconst C dL_law_2301 ?_
  refine z_iadd C dL_law_2302 ?_
  refine z_sld C hS hbl hbA (by omega) (by omega) (by omega) dL_law_2303 ?_
  refine z_cVs (As := [.int (iI (zgx xs (i + 1)))]) C hW2.ms hW2.mn zc_X7_writeLine (c_X7_writeLine hX hW2.M hI hT (zgx xs (i + 1))  (by first | exact zgx_r _ _ | omega)) zl_7_197 ⟨Nat.le_of_ble_eq_true rfl, Nat.le_of_ble_eq_true rfl⟩ (show _ ≤ 603072 by omega) (show _ ≤ 7215210 by omega) hW2.M.1.1 hW2.M.1.2 rfl rfl rfl rfl (Nat.le_of_ble_eq_true rfl) dL_law_2304 (fun z2 Lm4 f4 L5 f5 hq2 hm2 => ?_)
  obtain ⟨rfl, t2, μ2, u2, v2, hM2, ho⟩ := hq2
  have hW3 := zLWx_m hW2 hm2 hM2
  rw [ho] at hW3 hφ2 hz h04
  obtain rfl : t2 = z := hz.symm
  have h04 : 0 ≤ t2 ∧ t2 ≤ 4 := h04
  exact z_tail (P := 2307) C hX hW3 h04 (fun h0 => (hφ2 h0).trans (by show zov (if t2 = 0 then z2 else 0) = zov z2; rw [if_pos h0])) ⟨Nat.le_of_ble_eq_true rfl, Nat.le_of_ble_eq_true rfl⟩ (show _ ≤ 603072 by omega) (show _ ≤ 7215210 by omega) zl_6_164 dL_law_2307 dL_law_2309 dL_law_2310 dL_law_2313 dL_law_2315 dL_law_2320 dL_law_2322 dL_law_2325 dL_law_2326 dL_law_2327 dL_law_2328 dL_law_2330 dL_law_2331 dL_law_2332 dL_law_2337 (by decide) (fun L6 f6 hW6 => z_perm [2, 3, 4, 5, 6, 7] rfl (K L6 f6 μ2 _ _ (by omega) (by omega) hW6))

set_option maxRecDepth 100000 in
set_option maxHeartbeats 400000 in
theorem law_34 {p : Program} {la : Launch} {e : Env} {s : State} {m : MethodId} {args : Array Value} {below : List Frame} {meth : Method} {c : Code} {A : Nat → Prop} {Q : State → Prop} {G : zG} {X : (Nat → Prop) → State → Prop} (C : ZC G X p la s m args meth c A 10 ret cL_law "SwathSurveyLaw") (hX : zX X) (h4 : zT4 X) (hfl : la.stackTraces = false) (h5 : zT5 X) {ax : Nat → Nat × Nat} (hT : zT1 X ax) (hO : zT2 X) (hP : zT3 X) {b N : Nat} {xs : Nat → Int32} (hS : va_X b N xs s s.heap) (hbl : b < s.heap.size) (hbA : ¬ A b) (hN : N ≤ 3584) {i : Int} (hi0 : 0 ≤ i) (hi1 : i + 7 ≤ N) {c9 s9 : Nat} (hc9 : c9 + 40 ≤ 603072) (hs9 : s9 + 1000 ≤ 7215210) {L : List Nat} {f : Nat → va_E} {oc om aL aD : Nat} {μ : zMu} (hLW : zLW G L f oc om aL aD μ) (K : ∀ (L2 : List Nat) (f2 : Nat → va_E) (μ2 : zMu) (c2 s2 : Nat), c2 ≤ c9 + 40 → s2 ≤ s9 + 1000 → zLW G L2 f2 oc om aL aD μ2 → ZW G p la e room_1 s m args below meth c A 10 c2 s2 Q L2 f2 2409 (zLb i b oc om aL aD) []) : ZW G p la e room_1 s m args below meth c A 10 c9 s9 Q L f 2340 (zLb i b oc om aL aD) [] := by
  obtain ⟨Lc, Lm, ad, t, u, v, φ, ψ, hW⟩ := hLW
  obtain ⟨ω, hR, hI, hK⟩ := hW.C
  have hn := hI.n
  refine z_aload_n C 2 dL_law_2340 rfl ?_
  refine z_aload_n C 1 dL_law_2341 rfl ?_
  refine z_iload C 0 dL_law_2342 rfl ?_
  refine z_iconst C dL_law_2344 ?_
  refine z_iadd C dL_law_2345 ?_
  refine z_sld C hS hbl hbA (by omega) (by omega) (by omega) dL_law_2346 ?_
  refine z_aload_n C 4 dL_law_2347 rfl ?_
  refine z_cSW (As := [.ref oc, .int (iI (zgx xs (i + 1))), .ref aL]) C zcw_textAt (w_textAt hX h4 hfl h5 hT hW.C hW.s hW.n hW.A hW.l.1 (zgx xs (i + 1)) (by first | exact zgx_r _ _ | omega) ) zl_6_74 ⟨Nat.le_of_ble_eq_true rfl, Nat.le_of_ble_eq_true rfl⟩ (show _ ≤ 603072 by omega) (show _ ≤ 7215210 by omega) rfl rfl (Nat.le_of_ble_eq_true rfl) dL_law_2348 (fun z L3 f3 hq => ?_)
  obtain ⟨Lc2, φ2, hW2, hφ2, hz, h04⟩ := zLWx_w hW hq
  change ZW G p la e room_1 s m args below meth c A 10 (c9 + 8) (s9 + 48) Q L3 f3 2351 [(5, .int (iI i)), (0, .ref b), (1, .ref oc), (2, .ref om), (3, .ref aL), (4, .ref aD)] [.int (iI z)]
  refine z_istore (ls' := [(6, .int (iI z)), (5, .int (iI i)), (0, .ref b), (1, .ref oc), (2, .ref om), (3, .ref aL), (4, .ref aD)]) C dL_law_2351 (Nat.le_of_ble_eq_true rfl) rfl ?_
  refine z_aload_n C 4 dL_law_2353 rfl ?_
  refine z_aload_n C 2 dL_law_2354 rfl ?_
  refine z_iload C 1 dL_law_2355 rfl ?_
  refine z_iconst C dL_law_2357 ?_
  refine z_iadd C dL_law_2358 ?_
  refine z_sld C hS hbl hbA (by omega) (by omega) (by omega) dL_law_2359 ?_
  refine z_cVs (As := [.int (iI (zgx xs (i + 1)))]) C hW2.ms hW2.mn zc_X7_textAt (c_X7_textAt hX hW2.M hI (zgx xs (i + 1))  (by first | exact zgx_r _ _ | omega)) zl_7_233 ⟨Nat.le_of_ble_eq_true rfl, Nat.le_of_ble_eq_true rfl⟩ (show _ ≤ 603072 by omega) (show _ ≤ 7215210 by omega) hW2.M.1.1 hW2.M.1.2 rfl rfl rfl rfl (Nat.le_of_ble_eq_true rfl) dL_law_2360 (fun z2 Lm4 f4 L5 f5 hq2 hm2 => ?_)
  obtain ⟨rfl, t2, hM2, ho2⟩ := hq2
  have ho : o_textAt μ (zgx xs (i + 1)) = (t2, if t2 = 0 then z2 else 0, μ) := by
    unfold o_textAt
    rcases ho2 with ⟨q1, q2, q3, q4⟩ | ⟨q1, q2, q3⟩
    · rw [if_pos ⟨q1, q2⟩, q3, if_pos rfl, q4]
    · rw [if_neg q1, q2, if_neg (by decide)]
  obtain ⟨μ2, hμ2⟩ : ∃ μ2, μ2 = μ := ⟨_, rfl⟩
  rw [← hμ2] at hM2
  have ho : o_textAt μ (zgx xs (i + 1)) = (t2, if t2 = 0 then z2 else 0, μ2) := by rw [ho, hμ2]
  have hM2 : MR G Lm f4 om ad μ2 t2 u v := hM2
  have hW3 := zLWx_m hW2 hm2 hM2
  rw [ho] at hW3 hφ2 hz h04
  obtain rfl : t2 = z := hz.symm
  have h04 : 0 ≤ t2 ∧ t2 ≤ 4 := h04
  exact z_tail (P := 2363) C hX hW3 h04 (fun h0 => (hφ2 h0).trans (by show zov (if t2 = 0 then z2 else 0) = zov z2; rw [if_pos h0])) ⟨Nat.le_of_ble_eq_true rfl, Nat.le_of_ble_eq_true rfl⟩ (show _ ≤ 603072 by omega) (show _ ≤ 7215210 by omega) zl_6_164 dL_law_2363 dL_law_2365 dL_law_2366 dL_law_2369 dL_law_2371 dL_law_2376 dL_law_2378 dL_law_2381 dL_law_2382 dL_law_2383 dL_law_2384 dL_law_2386 dL_law_2387 dL_law_2388 dL_law_2393 (by decide) (fun L6 f6 hW6 => z_perm [2, 3, 4, 5, 6, 7] rfl (K L6 f6 μ2 _ _ (by omega) (by omega) hW6))
