/-! ===== the whole ===== -/
theorem whole_start {p : Program} {e : Env} {s : State} {m : MethodId} {below : List Frame} {meth : Method} {c : Code} (l : Launch) (hflags : l.flags = flags0) {b L : Nat} {xs : Nat → Int32} (hL : L ≤ 3584) (C0 : lw_At p s m meth c b L xs) : W p l e room_1 s m #[Value.ref b] below meth c s.heap [] 0 0 (lw_Z below #[Value.ref b] s) (entryFrame m ([Value.ref b] : List Value).toArray 10) := by
  obtain ⟨hx, hb, hr, hml, hown, hts, hXs, hbl, hlocks, hgv⟩ := C0
  have hfl : l.stackTraces = false := by
    unfold Launch.stackTraces
    rw [hflags]
    decide +kernel
  have hA : ∀ a : Nat, a < s.heap.size → ¬ (fun q : Nat => s.heap.size ≤ q) a := fun a h => Nat.not_le.mpr h
  obtain ⟨ax, hlX⟩ := law_X hts hgv hA
  obtain ⟨G, hK⟩ := law_G hts
  have C : ZC G (lawX ax) p l s m #[Value.ref b] meth c (fun q : Nat => s.heap.size ≤ q) 10 ret cL_law "SwathSurveyLaw" := ⟨hx, hb, hml, hown, fun w h => hts w (List.mem_filter.mp h).1, hK, fun q h => h, hlocks, hr, hlX, lawX_ok ax⟩
  have KE : ∀ (oc om aL aD : Nat) (L2 : List Nat) (f2 : Nat → va_E) (i : Int) (c2 s2 : Nat), c2 ≤ 603072 → s2 ≤ 7215210 → ZW G p l e room_1 s m #[Value.ref b] below meth c (fun q : Nat => s.heap.size ≤ q) 10 c2 s2 (lw_Z below #[Value.ref b] s) L2 f2 2415 (zLb i b oc om aL aD) [] := by
    intro oc om aL aD L2 f2 i c2 s2 hc hs
    refine z_iconst C dL_law_2415 ?_
    intro H locs la hP hD hS hl
    refine va_forget (fun q hq => hS.2.2 q hq) ?_
    refine W.widen (k := 603072) (n := 7215210) hc hs ?_
    refine W.base ?_
    exact lw_ret (Drawn.sameBut.refl s.drawn lw_cs) hx hb hr hlocks dL_law_2416
  have main : ZW G p l e room_1 s m #[Value.ref b] below meth c (fun q : Nat => s.heap.size ≤ q) 10 0 0 (lw_Z below #[Value.ref b] s) [] (fun _ => .inr (0, [])) 0 [(0, .ref b)] [] := by
    refine z_newG (ci := 10) (fs := [.null, .null, .null, .int 0, .null, .null]) C zin_X6 tyX6_ok zl_1_32 zl_1_33 zl_1_1 rfl (by decide) (Nat.le_of_ble_eq_true rfl) (Nat.le_of_ble_eq_true rfl) dL_law_0 (fun oc L1 f1 hq1 hL1 hob1 hk1 => ?_)
    refine z_dup C dL_law_3 rfl ?_
    refine z_cIs (As := []) C (Ls := L1) (fun a h => h) (by rw [hL1]; exact List.nodup_cons.mpr ⟨List.not_mem_nil, List.nodup_nil⟩) zc_X6_init (c_init (lawX_ok ax) hob1 (lawX_1 ax) (lawX_2 ax)) zl_1_34 ⟨Nat.le_of_ble_eq_true rfl, Nat.le_of_ble_eq_true rfl⟩ (Nat.le_of_ble_eq_true rfl) (Nat.le_of_ble_eq_true rfl) rfl rfl (Nat.le_of_ble_eq_true rfl) dL_law_4 (fun _ Lc f2 L2 f3 hq2 hm => ?_)
    obtain ⟨hC2, hF2⟩ := hq2
    refine z_astore_n (k := 1) (ls' := [(1, .ref oc), (0, .ref b)]) C dL_law_7 (by decide) rfl ?_
    refine z_newG (ci := 11) (fs := [.int 0, .int 0, .int 0, .int 0, .null, .null, .null, .null, .null, .null, .null, .null, .null, .null, .null, .null, .null, .null, .null, .null, .null]) C zin_X7 tyX7_ok zl_6_92 zl_6_93 zl_1_11 rfl (by decide) (Nat.le_of_ble_eq_true rfl) (Nat.le_of_ble_eq_true rfl) dL_law_8 (fun om L4 f4 hq4 hL4 hob4 hk4 => ?_)
    refine z_dup C dL_law_11 rfl ?_
    refine z_cIs (As := []) C (Ls := [om]) (fun a h => by rw [List.mem_singleton.mp h]; exact hob4.1) (List.nodup_cons.mpr ⟨List.not_mem_nil, List.nodup_nil⟩) zc_X7_init (c_X7_init (lawX_ok ax) ⟨List.mem_singleton.mpr rfl, hob4.2⟩) zl_6_94 ⟨Nat.le_of_ble_eq_true rfl, Nat.le_of_ble_eq_true rfl⟩ (Nat.le_of_ble_eq_true rfl) (Nat.le_of_ble_eq_true rfl) rfl rfl (Nat.le_of_ble_eq_true rfl) dL_law_12 (fun _ Lm f5 L5 f6 hq5 hm5 => ?_)
    obtain ⟨⟨ad, hM5, -⟩, -, -⟩ := hq5
    refine z_astore_n (k := 2) (ls' := [(2, .ref om), (1, .ref oc), (0, .ref b)]) C dL_law_15 (by decide) rfl ?_
    refine z_iconst C dL_law_16 ?_
    refine z_newL C zl_8_1 (Nat.le_of_ble_eq_true rfl) (Nat.le_of_ble_eq_true rfl) dL_law_17 (fun aL L6 f7 hq6 hL6 hA6 hk6 => ?_)
    refine z_astore_n (k := 3) (ls' := [(3, .ref aL), (2, .ref om), (1, .ref oc), (0, .ref b)]) C dL_law_19 (by decide) rfl ?_
    refine z_iconst C dL_law_20 ?_
    refine z_newD C zl_8_2 (Nat.le_of_ble_eq_true rfl) (Nat.le_of_ble_eq_true rfl) dL_law_21 (fun aD L7 f8 hq7 hL7 hD7 hk7 => ?_)
    refine z_astore (k := 4) (ls' := [(4, .ref aD), (3, .ref aL), (2, .ref om), (1, .ref oc), (0, .ref b)]) C dL_law_23 (by decide) rfl ?_
    refine z_iconst C dL_law_25 ?_
    refine z_istore (k := 5) (ls' := [(5, .int (iI 0)), (4, .ref aD), (3, .ref aL), (2, .ref om), (1, .ref oc), (0, .ref b)]) C dL_law_26 (by decide) rfl ?_
    have c2 : ∀ a ∈ Lc, a ∈ L2 := fun a ha => (hm.2.1 a).mpr (Or.inl ha)
    have cne : ∀ a ∈ Lc, a ≠ om := fun a ha z => hq4 (z ▸ c2 a ha)
    have c4 : ∀ a ∈ Lc, a ∈ L4 := fun a ha => by rw [hL4]; exact List.mem_append.mpr (Or.inl (c2 a ha))
    have cm : ∀ a ∈ Lc, a ∉ Lm ∧ f6 a = f4 a := fun a ha => hm5.2.2.2 a (c4 a ha) (fun z => cne a ha (List.mem_singleton.mp z))
    have c5 : ∀ a ∈ Lc, a ∈ L5 := fun a ha => (hm5.2.1 a).mpr (Or.inr ⟨c4 a ha, fun z => cne a ha (List.mem_singleton.mp z)⟩)
    have m5 : ∀ a ∈ Lm, a ∈ L5 := fun a ha => (hm5.2.1 a).mpr (Or.inl ha)
    have u6 : ∀ a ∈ L5, a ∈ L6 := fun a ha => by rw [hL6]; exact List.mem_append.mpr (Or.inl ha)
    have u7 : ∀ a ∈ L6, a ∈ L7 := fun a ha => by rw [hL7]; exact List.mem_append.mpr (Or.inl ha)
    have k7 : ∀ a ∈ L5, f8 a = f6 a := fun a ha => (hk7 a (fun z => hq7 (z ▸ u6 a ha))).trans (hk6 a (fun z => hq6 (z ▸ ha)))
    have hW : zLW G L7 f8 oc om aL aD zMuS := ⟨Lc, Lm, ad, 0, _, _, _, _, fun a ha => u7 a (u6 a (c5 a ha)), hm.1, fun a ha => u7 a (u6 a (m5 a ha)), hm5.1, fun a ha hc => (cm a hc).1 ha, ⟨fun z => hq6 (c5 _ z), fun z => hq6 (m5 _ z)⟩, ⟨fun z => hq7 (u6 _ (c5 _ z)), fun z => hq7 (u6 _ (m5 _ z))⟩, ⟨u7 _ hA6.1, by rw [hk7 _ (fun z => hq7 (z ▸ hA6.1))]; exact hA6.2⟩, hD7, CSx_e hC2 (fun a ha => by
      rw [k7 a (c5 a ha), (cm a ha).2, hk4 a (cne a ha)]
      exact hm.2.2.1 a ha), MR_e hM5 (fun a ha => (k7 a (m5 a ha)).trans (hm5.2.2.1 a ha))⟩
    refine z_perm (ls' := zLb 0 b oc om aL aD) [0, 5, 4, 3, 2, 1] rfl ?_
    exact law_loop C (lawX_ok ax) (lawX_4 ax) hfl (lawX_5 ax) (lawX_1 ax) (lawX_2 ax) (lawX_3 ax) hXs hbl (hA b hbl) hL (KE oc om aL aD) 512 0 _ _ L7 f8 zMuS (by decide) (by decide) (by omega) (Nat.le_of_ble_eq_true rfl) (Nat.le_of_ble_eq_true rfl) hW
  rw [lg_entry_eq]
  exact main s.heap [] _ (zP_iff.mpr (fun a h => absurd h List.not_mem_nil)) (zD_iff.mpr ⟨List.nodup_nil, fun a h => absurd h List.not_mem_nil⟩) va_S.rf (lv_entry ([.ref b]) (n := 10) (Nat.le_of_ble_eq_true rfl))
