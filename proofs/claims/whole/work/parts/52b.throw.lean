/-! ===== methods that may throw: contracts, ends, calls ===== -/
/-- the world behind a throw of E -/
def zXC (G : zG) (RX : String → List Nat → (Nat → va_E) → Prop) (A : Nat → Prop) : String → State → State → Prop := fun E st t => (∃ (L' : List Nat) (f' : Nat → va_E), RX E L' f' ∧ zB G A L' f' t) ∧ va_F A st t
/-- a contract of a method that returns or throws -/
def zMX {ρ : Type} (l : Launch) (G : zG) (X : (Nat → Prop) → State → Prop) (y : MethodName) (ws : List Cond) (k mc ms : Nat) (av : List Value) (L : List Nat) (f : Nat → va_E) (en : ρ → Option Value) (R : ρ → List Nat → (Nat → va_E) → Prop) (RX : String → List Nat → (Nat → va_E) → Prop) : Prop :=
  ∀ sz : Nat, vx_Met l y ws (zRm k mc ms) (va_Pc av (zPre G L f sz X)) (zQ G en R (va_A (va_pl L f) sz)) (zXC G RX (va_A (va_pl L f) sz)) mc ms (va_A (va_pl L f) sz)
section ZXL
variable {p : Program} {l : Launch} {e : Env} {s : State} {m : MethodId} {args : Array Value} {below : List Frame} {meth : Method} {c : Code} {cells slots : Nat} {Q : State → Prop}
variable {G : zG} {X : (Nat → Prop) → State → Prop} {A : Nat → Prop} {nL : Nat} {L : List Nat} {f : Nat → va_E} {cc : ByteArray} {own : String} {pc : Nat} {ls : List (Nat × Value)} {ret : Option FieldType}
variable {k0 mc0 ms0 : Nat}
theorem zMX_intro {ρ : Type} {en : ρ → Option Value} {R0 : ρ → List Nat → (Nat → va_E) → Prop} {RX0 : String → List Nat → (Nat → va_E) → Prop} {k mc ms : Nat} {av : List Value} {maxL : Nat} {y : MethodName} (hX : zX X) (hy : plainName y.cls = true) (hav : (lg_sl av).length ≤ maxL)
    (body : ∀ (p : Program) (e : Env) (s : State) (m : MethodId) (args : Array Value) (below : List Frame) (meth : Method) (c : Code) (A : Nat → Prop), ZC G X p l s m args meth c A maxL ret cc y.cls → (∀ x ∈ c.exceptionTable.toList, False) → ZW G p l e (zRm k mc ms) s m args below meth c A maxL 0 0 (vx_MQ below (zQ G en R0 A) (zXC G RX0 A) args s mc ms A) L f 0 (lv_args 0 av) []) : zMX l G X y (.code y cc maxL ret :: zT) k mc ms av L f en R0 RX0 := by
  intro sz
  refine vx_ofW (cc := cc) (maxL := maxL) (ret := ret) hy rfl ?_
  intro p e s m args below meth c s₁ B hml hnt hv
  obtain ⟨rfl, hsz, hP, hK, hD0, hXs⟩ := hv
  have hts := atoms_spec (ws := .code y cc maxL ret :: zT) B.pre
  have hown : s.vm.findClass y.cls = some m.cls := findClass_of_methodNamed B.named
  subst hsz
  have hD := hD0.self (sz := s.heap.size)
  rw [lg_entry_eq]
  exact body p e s m _ below meth c (va_A (va_pl L f) s.heap.size) ⟨B.exec, B.bytes, hml, hown, fun w h => hts w (List.mem_cons_of_mem _ h), hK, fun q h => Or.inr h, B.notSynchronized, B.returns, hXs, hX⟩ hnt s.heap [] _ hP hD va_S.rf (lv_entry av hav)
/-- a return of a method that might have thrown -/
theorem z_xr {R : Room} {Qc : Array Value → State → Outcome → State → Prop} {XC : String → State → State → Prop} {mc ms : Nat} {st : List Value} (K : ZW G p l e R s m args below meth c A nL cells slots (MQ below Qc args s mc ms A) L f pc ls st) : ZW G p l e R s m args below meth c A nL cells slots (vx_MQ below Qc XC args s mc ms A) L f pc ls st :=
  fun H locs la hP hD hS hl => vx_ret (K H locs la hP hD hS hl)
/-- the machine with a throw of E at pc -/
def ZXW (G : zG) (p : Program) (l : Launch) (e : Env) (R : Room) (s : State) (m : MethodId) (args : Array Value) (below : List Frame) (meth : Method) (c : Code) (A : Nat → Prop) (nL cells slots : Nat) (Q : State → Prop) (L : List Nat) (f : Nat → va_E) (pc : Nat) (ls : List (Nat × Value)) (rest : List Value) (E : String) : Prop :=
  ∀ (H : Heap) (locs : List Loc) (la : Array Slot) (q : Addr) (ce : Cell), va_P G.1 vwCl (va_pl L f) H → va_D A (va_pl L f) → va_S A s.heap H locs → lv_has la nL ls → H[q]? = some ce → ce.vm = .none → s.vm.findClass E = some ce.cls → vx_W p l e R s m args below meth c H locs cells slots Q (F0 m pc la rest) q
theorem z_xB (C : ZC G X p l s m args meth c A nL ret cc own) {RX0 : String → List Nat → (Nat → va_E) → Prop} {H : Heap} {locs : List Loc} (hP : va_P G.1 vwCl (va_pl L f) H) (hD : va_D A (va_pl L f)) (hS : va_S A s.heap H locs) {E : String} (hRX : RX0 E L f) (t : State) (hA : s.vm.Alike t.vm) (h1 : H.size ≤ t.heap.size) (h2 : ∀ q : Nat, q < H.size → t.heap[q]? = H[q]?) : zXC G RX0 A E s t :=
  ⟨⟨L, f, hRX, hP.kept (fun k x hk => h2 x.1 ((hP k x hk).lt)), va_K.moved hA C.2.2.2.2.2.1, hD⟩, Nat.le_trans hS.1 h1, fun q q1 q2 => (h2 q (Nat.lt_of_lt_of_le q1 hS.1)).trans (hS.2.1 q q1 q2)⟩
/-- not caught: on to the caller -/
theorem z_xout {ρ : Type} {en : ρ → Option Value} {R0 : ρ → List Nat → (Nat → va_E) → Prop} {RX0 : String → List Nat → (Nat → va_E) → Prop} (C : ZC G X p l s m args meth c A nL ret cc own) (hnt : ∀ x ∈ c.exceptionTable.toList, False) {R : Room} {mc ms : Nat} {rest : List Value} {E : String} (hc : cells ≤ mc) (hs : slots ≤ ms) (hRX : RX0 E L f) : ZXW G p l e R s m args below meth c A nL cells slots (vx_MQ below (zQ G en R0 A) (zXC G RX0 A) args s mc ms A) L f pc ls rest E :=
  fun H locs la q ce hP hD hS hl hq hv hcl => vx_out (fun x hx => (hnt x hx).elim) C.2.2.2.2.2.2.2.1 hq hv hcl (fun t ht hA => z_xB C hP hD hS hRX t hA (by rw [ht]; exact Nat.le_refl _) (fun q _ => by rw [ht])) hS.2.2 hc hs
/-- a call that may throw -/
theorem z_callX {R : Room} {ρ : Type} {en : ρ → Option Value} {R1 : ρ → List Nat → (Nat → va_E) → Prop} {RX1 : String → List Nat → (Nat → va_E) → Prop} {mc ms : Nat} {st0 rest : List Value} {a : Array Value} (C : ZC G X p l s m args meth c A nL ret cc own)
    (hr : ∀ (H : Heap) (locs : List Loc) (la : Array Slot), va_P G.1 vwCl (va_pl L f) H → va_D A (va_pl L f) → va_S A s.heap H locs → lv_has la nL ls → vx_Run p l e R s m args below meth c H locs cells slots mc ms (F0 m pc la st0) rest (zQ G en R1 (va_A (va_pl L f) H.size) a) (zXC G RX1 (va_A (va_pl L f) H.size)) (va_A (va_pl L f) H.size))
    (KX : ∀ (E : String) (L' : List Nat) (f' : Nat → va_E), RX1 E L' f' → ZXW G p l e R s m args below meth c A nL (cells + mc) (slots + ms) Q L' f' pc ls rest E)
    (K : ∀ (z : ρ) (L' : List Nat) (f' : Nat → va_E), R1 z L' f' → ZW G p l e R s m args below meth c A nL (cells + mc) (slots + ms) Q L' f' (pc + 3) ls ((en z).toList ++ rest)) : ZW G p l e R s m args below meth c A nL cells slots Q L f pc ls st0 := by
  intro H locs la hP hD hS hl T hT X0
  have hA : ∀ q, va_A (va_pl L f) H.size q → A q := by
    intro q h
    rcases h with ⟨k, ee, h⟩ | h
    · exact hD.2 k _ h
    · exact C.2.2.2.2.2.2.1 q (Nat.le_trans hS.1 h)
  rcases hr H locs la hP hD hS hl T hT X0 with ⟨v, st₀, t, T', Lc, h0, X', hLc, e1, e2, ⟨⟨z, L', f', hv, hR, hB⟩, hF⟩, stp⟩ | ⟨q, st₀, t, T', Lc, E, ce, h0, X', hLc, e1, e2, ⟨⟨L', f', hR, hB⟩, hF⟩, hce, hcv, hcl, stp⟩
  · obtain rfl : v = en z := Outcome.returned.inj hv
    obtain ⟨k1, k2, k3⟩ := vx_keep h0 e1 hS (fun q _ h => hA q h) hA hLc hF
    obtain ⟨t2, a1, b1⟩ := K z L' f' hR T'.heap (locs ++ Lc) la (by rw [e1]; exact hB.1) (hB.2.2.weaken fun _ _ _ h => hA _ h) k3 hl T' rfl X'
    exact ⟨t2, stp t2 a1, b1⟩
  · obtain ⟨k1, k2, k3⟩ := vx_keep h0 e1 hS (fun q _ h => hA q h) hA hLc hF
    obtain ⟨t2, a1, b1⟩ := KX E L' f' hR T'.heap (locs ++ Lc) la q ce (by rw [e1]; exact hB.1) (hB.2.2.weaken fun _ _ _ h => hA _ h) k3 hl (by rw [e1]; exact hce) hcv hcl T' rfl X'
    exact ⟨t2, stp.trans a1, b1⟩
theorem z_cVX {ρ : Type} {en : ρ → Option Value} {R1 : ρ → List Nat → (Nat → va_E) → Prop} {RX1 : String → List Nat → (Nat → va_E) → Prop} {k1 mc ms n idx b ci maxL : Nat} {y : MethodName} {bytes : ByteArray} {ret1 : Option FieldType} {As rest st0 : List Value} {fs : List Value} {r : vw_C}
    (C : ZC G X p l s m args meth c A nL ret cc own) (cd : zcV y bytes maxL ret1 n) (hM : zMX l G X y (.code y bytes maxL ret1 :: zT) k1 mc ms (.ref b :: As) L f en R1 RX1) (hlk : Cond.methodLink own idx y ∈ lw_tbl) (hk : k1 + 1 ≤ k0) (hmc : cells + mc ≤ mc0) (hms : slots + ms ≤ ms0) (hb : b ∈ L) (hfb : f b = .inr (ci, fs)) (hci : vwCl[ci]? = some r) (hr : r.1 = y.cls) (hn : As.length = n) (hst : st0 = As.reverse ++ .ref b :: rest) (hcat : (rest.map fun v => v.category).sum ≤ 8) (hd : decode cc pc = .ok (.invokevirtual idx, 3))
    (KX : ∀ (E : String) (L' : List Nat) (f' : Nat → va_E), RX1 E L' f' → ZXW G p l e (zRm k0 mc0 ms0) s m args below meth c A nL (cells + mc) (slots + ms) Q L' f' pc ls rest E)
    (K : ∀ (z : ρ) (L' : List Nat) (f' : Nat → va_E), R1 z L' f' → ZW G p l e (zRm k0 mc0 ms0) s m args below meth c A nL (cells + mc) (slots + ms) Q L' f' (pc + 3) ls ((en z).toList ++ rest)) : ZW G p l e (zRm k0 mc0 ms0) s m args below meth c A nL cells slots Q L f pc ls st0 := by
  obtain ⟨c1, c2, c3, c4, ⟨c5, c6, c7⟩, c8⟩ := cd
  refine z_callX (a := (Value.ref b :: As).toArray) C (fun H locs la hP hD hS hl => ?_) KX K
  obtain ⟨q, hq⟩ := va_pl_get (X := []) (f := f) hb
  have hq : (va_pl L f)[q]? = some (b, .inr (ci, fs)) := by rw [← hfb]; exact hq
  have hrecv := va_recv C.2.2.2.2.2.1 hP hci hq
  rw [hr] at hrecv
  obtain ⟨pf, pu⟩ := z_pre C hP hD hS (.ref b :: As)
  exact vx_runV (As := As) (rest := rest) ⟨C.1, C.2.1, C.2.2.1, C.2.2.2.1, C.2.2.2.2.1⟩ (hM H.size) ⟨callB_of n C.2.2.2.2.1 (zGood c1 rfl) rfl rfl rfl (C.w c4 rfl) (C.w hlk rfl) ⟨c5, c6, c7⟩ (z_rm hk c8 mc ms), C.w c2 rfl, C.w c3 rfl⟩ ⟨pf, hrecv, pu⟩ rfl hn hl.1 hst (lv_room hcat) hd ⟨hmc, hms⟩
theorem z_cSX {ρ : Type} {en : ρ → Option Value} {R1 : ρ → List Nat → (Nat → va_E) → Prop} {RX1 : String → List Nat → (Nat → va_E) → Prop} {k1 mc ms n idx maxL : Nat} {y : MethodName} {bytes : ByteArray} {ret1 : Option FieldType} {As rest st0 : List Value}
    (C : ZC G X p l s m args meth c A nL ret cc own) (cd : zcS y bytes maxL ret1 n) (hM : zMX l G X y (.code y bytes maxL ret1 :: zT) k1 mc ms As L f en R1 RX1) (hlk : Cond.methodLink own idx y ∈ lw_tbl) (hk : k1 + 1 ≤ k0) (hmc : cells + mc ≤ mc0) (hms : slots + ms ≤ ms0) (hn : As.length = n) (hst : st0 = As.reverse ++ rest) (hcat : (rest.map fun v => v.category).sum ≤ 8) (hd : decode cc pc = .ok (.invokestatic idx, 3))
    (KX : ∀ (E : String) (L' : List Nat) (f' : Nat → va_E), RX1 E L' f' → ZXW G p l e (zRm k0 mc0 ms0) s m args below meth c A nL (cells + mc) (slots + ms) Q L' f' pc ls rest E)
    (K : ∀ (z : ρ) (L' : List Nat) (f' : Nat → va_E), R1 z L' f' → ZW G p l e (zRm k0 mc0 ms0) s m args below meth c A nL (cells + mc) (slots + ms) Q L' f' (pc + 3) ls ((en z).toList ++ rest)) : ZW G p l e (zRm k0 mc0 ms0) s m args below meth c A nL cells slots Q L f pc ls st0 := by
  obtain ⟨c1, c2, c4, ⟨c5, c6, c7⟩, c8⟩ := cd
  refine z_callX (a := As.toArray) C (fun H locs la hP hD hS hl => ?_) KX K
  exact vx_runS (As := As) (rest := rest) ⟨C.1, C.2.1, C.2.2.1, C.2.2.2.1, C.2.2.2.2.1⟩ (hM H.size) ⟨callB_of n C.2.2.2.2.1 (zGood c1 rfl) rfl rfl rfl (C.w c4 rfl) (C.w hlk rfl) ⟨c5, c6, c7⟩ (z_rm hk c8 mc ms), C.w c2 rfl⟩ (z_pre C hP hD hS As) rfl hn hl.1 hst (lv_room hcat) hd ⟨hmc, hms⟩
theorem z_hat (C : ZC G X p l s m args meth c A nL ret cc own) (h4 : zT4 X) {ws : List Cond} (hw : ∀ w ∈ ws, w ∈ zT ∨ w ∈ zOth) : ∀ w ∈ ws, w.before args s = true := fun w h => (hw w h).elim (C.2.2.2.2.1 w) (fun q => va_Nw.use (zOth_tab w q) (h4 _ _ C.x w q))
theorem z_zq (C : ZC G X p l s m args meth c A nL ret cc own) : vx_Zq Bundle.tN "UNASSIGNED_STACK" Bundle.steD A s s.heap ∧ vx_Zq Bundle.tN "SUPPRESSED_SENTINEL" Bundle.listD A s s.heap ∧ ∀ q ∈ zStrs, ∃ a, vk_R q.1 q.2.1 q.2.2 a s := (C.2.2.2.2.2.2.2.2.2.2.2.2.2 A s C.x).2
abbrev zUps : List String := ["java/lang/RuntimeException", "java/lang/Exception"]
/-- throw new E("..") -/
theorem z_throwS {ρ : Type} {en : ρ → Option Value} {R0 : ρ → List Nat → (Nat → va_E) → Prop} {RX0 : String → List Nat → (Nat → va_E) → Prop} {ik is ic : Nat} {E text : String} {st : List Value} (C : ZC G X p l s m args meth c A nL ret cc "SwathSurvey") (h4 : zT4 X) (hfl : l.stackTraces = false) (hnt : ∀ x ∈ c.exceptionTable.toList, False) (hcls : Bundle.fit E = true) (hk : Cond.classLink "SwathSurvey" ik E ∈ lw_tbl) (hini : Cond.initialized E ∈ lw_tbl) (hstr : ("SwathSurvey", is, text) ∈ zStrs) (hw : ∀ w ∈ vx_atS "SwathSurvey" ic E zUps, w ∈ zT ∨ w ∈ zOth) (hg : ∀ w ∈ Cond.classLink "SwathSurvey" ik E :: Cond.initialized E :: vx_atS "SwathSurvey" ic E zUps, vx_ot w = true)
    (d0 : decode cc pc = .ok (.new ik, 3)) (d3 : decode cc (pc + 3) = .ok (.dup, 1)) (d4 : decode cc (pc + 4) = .ok (.ldc is, 2)) (d6 : decode cc (pc + 6) = .ok (.invokespecial ic, 3)) (d9 : decode cc (pc + 9) = .ok (.athrow, 1)) (hk0 : 6 ≤ k0) (hcat : (st.map fun v => v.category).sum ≤ 8) (hc : cells + 1 ≤ mc0) (hs : slots + 6 ≤ ms0) (hRX : RX0 E L f) :
    ZW G p l e (zRm k0 mc0 ms0) s m args below meth c A nL cells slots (vx_MQ below (zQ G en R0 A) (zXC G RX0 A) args s mc0 ms0 A) L f pc ls st := by
  intro H locs la hP hD hS hl
  obtain ⟨hU, hN, hst⟩ := z_zq C
  obtain ⟨sa, hsa⟩ := hst _ hstr
  exact vx_throwS (own := "SwathSurvey") (cls := E) (names := zUps) (A := A) C.1 C.2.1 hfl C.2.2.2.1 hcls (by decide +kernel) (C.w hk rfl) (C.w hini rfl) hsa (z_hat C h4 hw) hg hU hN hS (hl.1.trans C.2.2.1.symm) d0 d3 d4 d6 d9 (fun x hx => (hnt x hx).elim) hk0 (by show _ + (13 * (2 + 1) + 43) ≤ 60 * k0; omega) hc hs C.2.2.2.2.2.2.2.1 (fun t hA h1 h2 => z_xB C hP hD hS hRX t hA h1 h2) hS.2.2 hc hs
theorem z_throwSW {ρ : Type} {en : ρ → Option Value} {R0 : ρ → List Nat → (Nat → va_E) → Prop} {RX0 : String → List Nat → (Nat → va_E) → Prop} {ik is ic : Nat} {E text : String} {st : List Value} (C : ZC G X p l s m args meth c A nL ret cc "SwathSurvey") (h4 : zT4 X) (hfl : l.stackTraces = false) (hnt : ∀ x ∈ c.exceptionTable.toList, False) (hcls : Bundle.fit E = true) (hk : Cond.classLink "SwathSurvey" ik E ∈ lw_tbl) (hini : Cond.initialized E ∈ lw_tbl) (hstr : ("SwathSurvey", is, text) ∈ zStrs) (hw : ∀ w ∈ vx_atS "SwathSurvey" ic E zUps, w ∈ zT ∨ w ∈ zOth) (hg : ∀ w ∈ Cond.classLink "SwathSurvey" ik E :: Cond.initialized E :: vx_atS "SwathSurvey" ic E zUps, vx_ot w = true)
    (d0 : decode cc pc = .ok (.new ik, 3)) (d3 : decode cc (pc + 3) = .ok (.dup, 1)) (d4 : decode cc (pc + 4) = .ok (.ldc_w is, 3)) (d7 : decode cc (pc + 7) = .ok (.invokespecial ic, 3)) (d10 : decode cc (pc + 10) = .ok (.athrow, 1)) (hk0 : 6 ≤ k0) (hcat : (st.map fun v => v.category).sum ≤ 8) (hc : cells + 1 ≤ mc0) (hs : slots + 6 ≤ ms0) (hRX : RX0 E L f) :
    ZW G p l e (zRm k0 mc0 ms0) s m args below meth c A nL cells slots (vx_MQ below (zQ G en R0 A) (zXC G RX0 A) args s mc0 ms0 A) L f pc ls st := by
  intro H locs la hP hD hS hl
  obtain ⟨hU, hN, hst⟩ := z_zq C
  obtain ⟨sa, hsa⟩ := hst _ hstr
  exact vx_throwSW (own := "SwathSurvey") (cls := E) (names := zUps) (A := A) C.1 C.2.1 hfl C.2.2.2.1 hcls (by decide +kernel) (C.w hk rfl) (C.w hini rfl) hsa (z_hat C h4 hw) hg hU hN hS (hl.1.trans C.2.2.1.symm) d0 d3 d4 d7 d10 (fun x hx => (hnt x hx).elim) hk0 (by show _ + (13 * (2 + 1) + 43) ≤ 60 * k0; omega) hc hs C.2.2.2.2.2.2.2.1 (fun t hA h1 h2 => z_xB C hP hD hS hRX t hA h1 h2) hS.2.2 hc hs
end ZXL
