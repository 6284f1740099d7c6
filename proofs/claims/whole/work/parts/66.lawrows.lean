/-! ===== rows of the law: calls on a part, handlers, its own arrays, its script ===== -/
abbrev zcSW (y : MethodName) (bytes : ByteArray) (maxL : Nat) (ret : Option FieldType) (hh : List (Nat × Nat × Nat × Nat)) (n : Nat) : Prop := Cond.codeWith y bytes maxL ret hh ∈ lw_tbl ∧ Cond.static y ∈ lw_tbl ∧ Cond.initialized y.cls ∈ lw_tbl ∧ (y.cls ≠ "java/lang/invoke/MethodHandle" ∧ y.cls ≠ "java/lang/invoke/VarHandle" ∧ (parseMethodDescriptor y.desc).map (fun d => d.parameters.length) = some n) ∧ maxL ≤ 41
/-- the exceptions that don't pass for one another -/
def zNcs : List (String × String) := (["java/lang/IndexOutOfBoundsException", "java/lang/IllegalArgumentException", "java/lang/UnsupportedOperationException", "java/lang/IllegalStateException", "java/util/NoSuchElementException"].map (fun a => (["java/lang/IndexOutOfBoundsException", "java/lang/IllegalArgumentException", "java/lang/UnsupportedOperationException", "java/lang/IllegalStateException", "java/util/NoSuchElementException"].filter (fun b => b != a)).map (fun b => (a, b)))).flatten
abbrev zT5 (X : (Nat → Prop) → State → Prop) : Prop := ∀ A s, X A s → ∀ q ∈ zNcs, va_Nc q.1 q.2 s
abbrev zLA (G : zG) (L : List Nat) (f : Nat → va_E) (a : Nat) (φ : Nat → Int64) : Prop := a ∈ L ∧ f a = .inl (G.2 4, 1, .inr (.inl φ))
abbrev zDA (G : zG) (L : List Nat) (f : Nat → va_E) (a : Nat) (φ : Nat → UInt64) : Prop := a ∈ L ∧ f a = .inl (G.2 5, 1, .inr (.inr (.inr (.inl φ))))
section ZLAW
variable {p : Program} {l : Launch} {e : Env} {R : Room} {s : State} {m : MethodId} {args : Array Value} {below : List Frame} {meth : Method} {c : Code} {cells slots : Nat} {Q : State → Prop}
variable {G : zG} {X : (Nat → Prop) → State → Prop} {A : Nat → Prop} {nL : Nat} {L : List Nat} {f : Nat → va_E} {cc : ByteArray} {own : String} {pc : Nat} {ls : List (Nat × Value)} {st : List Value} {ret : Option FieldType}
/-- a call of an object's own method, on a part of the pool -/
theorem z_cVs {ρ : Type} {en : ρ → Option Value} {R1 : ρ → List Nat → (Nat → va_E) → Prop} {k1 mc ms n idx b ci maxL : Nat} {y : MethodName} {bytes : ByteArray} {ret1 : Option FieldType} {As rest st0 : List Value} {fs : List Value} {r : vw_C} {Ls : List Nat}
    (C : ZC G X p l s m args meth c A nL ret cc own) (hs : ∀ a ∈ Ls, a ∈ L) (hnd : Ls.Nodup) (cd : zcV y bytes maxL ret1 n) (hM : zM l G X y (.code y bytes maxL ret1 :: zT) k1 mc ms (.ref b :: As) Ls f en R1) (hlk : Cond.methodLink own idx y ∈ lw_tbl) (hk : k1 + 1 ≤ R.frames ∧ 8 + (maxL + 11) + 60 * k1 ≤ R.locals) (hmc : cells + mc ≤ R.cells) (hms : slots + ms ≤ R.slots) (hb : b ∈ Ls) (hfb : f b = .inr (ci, fs)) (hci : vwCl[ci]? = some r) (hr : r.1 = y.cls) (hn : As.length = n) (hst : st0 = As.reverse ++ .ref b :: rest) (hcat : (rest.map fun v => v.category).sum ≤ 8) (hd : decode cc pc = .ok (.invokevirtual idx, 3))
    (K : ∀ (z : ρ) (Ls' : List Nat) (f' : Nat → va_E) (L2 : List Nat) (f2 : Nat → va_E), R1 z Ls' f' → zMrg L Ls f Ls' f' L2 f2 → ZW G p l e R s m args below meth c A nL (cells + mc) (slots + ms) Q L2 f2 (pc + 3) ls ((en z).toList ++ rest)) : ZW G p l e R s m args below meth c A nL cells slots Q L f pc ls st0 := by
  obtain ⟨c1, c2, c3, c4, ⟨c5, c6, c7⟩, c8⟩ := cd
  refine z_callS (a := (Value.ref b :: As).toArray) C hs hnd (fun H locs la hP hD hS hl => ?_) K
  have hG : GoodIn zT (wsV own idx y.cls y (.code y bytes maxL ret1 :: zT)) := by
    intro w hw
    rcases List.mem_append.mp hw with hw | hw
    · rcases List.mem_cons.mp hw with rfl | hw
      · exact ⟨zT_of hlk rfl, good_of_word rfl⟩
      rcases List.mem_cons.mp hw with rfl | hw
      · exact ⟨zT_of c2 rfl, good_of_word rfl⟩
      rcases List.mem_cons.mp hw with rfl | hw
      · exact ⟨zT_of c3 rfl, good_of_word rfl⟩
      rcases List.mem_cons.mp hw with rfl | hw
      · exact ⟨zT_of c4 rfl, good_of_word rfl⟩
      · cases hw
    · exact zGood c1 rfl w hw
  obtain ⟨q, hq⟩ := va_pl_get (X := []) (f := f) hb
  have hq : (va_pl Ls f)[q]? = some (b, .inr (ci, fs)) := by rw [← hfb]; exact hq
  have hrecv := va_recv C.2.2.2.2.2.1 hP hci hq
  rw [hr] at hrecv
  obtain ⟨pf, pu⟩ := z_pre C hP hD hS (.ref b :: As)
  exact va_runV (As := As) (rest := rest) ⟨C.1, C.2.1, C.2.2.1, C.2.2.2.1, C.2.2.2.2.1⟩ (hM H.size) (cwV n C.2.2.2.2.1 hG rfl rfl rfl ⟨rfl, c5, c6, c7⟩ hk) ⟨pf, hrecv, pu⟩ rfl hn hl.1 hst (lv_room hcat) hd ⟨hmc, hms⟩
theorem z_cVXs {ρ : Type} {en : ρ → Option Value} {R1 : ρ → List Nat → (Nat → va_E) → Prop} {RX1 : String → List Nat → (Nat → va_E) → Prop} {k1 mc ms n idx b ci maxL : Nat} {y : MethodName} {bytes : ByteArray} {ret1 : Option FieldType} {As rest st0 : List Value} {fs : List Value} {r : vw_C} {Ls : List Nat}
    (C : ZC G X p l s m args meth c A nL ret cc own) (hs : ∀ a ∈ Ls, a ∈ L) (hnd : Ls.Nodup) (cd : zcV y bytes maxL ret1 n) (hM : zMX l G X y (.code y bytes maxL ret1 :: zT) k1 mc ms (.ref b :: As) Ls f en R1 RX1) (hlk : Cond.methodLink own idx y ∈ lw_tbl) (hk : k1 + 1 ≤ R.frames ∧ 8 + (maxL + 11) + 60 * k1 ≤ R.locals) (hmc : cells + mc ≤ R.cells) (hms : slots + ms ≤ R.slots) (hb : b ∈ Ls) (hfb : f b = .inr (ci, fs)) (hci : vwCl[ci]? = some r) (hr : r.1 = y.cls) (hn : As.length = n) (hst : st0 = As.reverse ++ .ref b :: rest) (hcat : (rest.map fun v => v.category).sum ≤ 8) (hd : decode cc pc = .ok (.invokevirtual idx, 3))
    (KX : ∀ (E : String) (Ls' : List Nat) (f' : Nat → va_E) (L2 : List Nat) (f2 : Nat → va_E), RX1 E Ls' f' → zMrg L Ls f Ls' f' L2 f2 → ZXW G p l e R s m args below meth c A nL (cells + mc) (slots + ms) Q L2 f2 pc ls rest E)
    (K : ∀ (z : ρ) (Ls' : List Nat) (f' : Nat → va_E) (L2 : List Nat) (f2 : Nat → va_E), R1 z Ls' f' → zMrg L Ls f Ls' f' L2 f2 → ZW G p l e R s m args below meth c A nL (cells + mc) (slots + ms) Q L2 f2 (pc + 3) ls ((en z).toList ++ rest)) : ZW G p l e R s m args below meth c A nL cells slots Q L f pc ls st0 := by
  obtain ⟨c1, c2, c3, c4, ⟨c5, c6, c7⟩, c8⟩ := cd
  refine z_callSX (a := (Value.ref b :: As).toArray) C hs hnd (fun H locs la hP hD hS hl => ?_) KX K
  obtain ⟨q, hq⟩ := va_pl_get (X := []) (f := f) hb
  have hq : (va_pl Ls f)[q]? = some (b, .inr (ci, fs)) := by rw [← hfb]; exact hq
  have hrecv := va_recv C.2.2.2.2.2.1 hP hci hq
  rw [hr] at hrecv
  obtain ⟨pf, pu⟩ := z_pre C hP hD hS (.ref b :: As)
  exact vx_runV (As := As) (rest := rest) ⟨C.1, C.2.1, C.2.2.1, C.2.2.2.1, C.2.2.2.2.1⟩ (hM H.size) ⟨callB_of n C.2.2.2.2.1 (zGood c1 rfl) rfl rfl rfl (C.w c4 rfl) (C.w hlk rfl) ⟨c5, c6, c7⟩ hk, C.w c2 rfl, C.w c3 rfl⟩ ⟨pf, hrecv, pu⟩ rfl hn hl.1 hst (lv_room hcat) hd ⟨hmc, hms⟩
theorem z_cIs {ρ : Type} {en : ρ → Option Value} {R1 : ρ → List Nat → (Nat → va_E) → Prop} {k1 mc ms n idx b maxL : Nat} {y : MethodName} {bytes : ByteArray} {As rest st0 : List Value} {Ls : List Nat}
    (C : ZC G X p l s m args meth c A nL ret cc own) (hs : ∀ a ∈ Ls, a ∈ L) (hnd : Ls.Nodup) (cd : zcI y bytes maxL n) (hM : zM l G X y (.code y bytes maxL none :: zT) k1 mc ms (.ref b :: As) Ls f en R1) (hlk : Cond.methodLink own idx y ∈ lw_tbl) (hk : k1 + 1 ≤ R.frames ∧ 8 + (maxL + 11) + 60 * k1 ≤ R.locals) (hmc : cells + mc ≤ R.cells) (hms : slots + ms ≤ R.slots) (hn : As.length = n) (hst : st0 = As.reverse ++ .ref b :: rest) (hcat : (rest.map fun v => v.category).sum ≤ 8) (hd : decode cc pc = .ok (.invokespecial idx, 3))
    (K : ∀ (z : ρ) (Ls' : List Nat) (f' : Nat → va_E) (L2 : List Nat) (f2 : Nat → va_E), R1 z Ls' f' → zMrg L Ls f Ls' f' L2 f2 → ZW G p l e R s m args below meth c A nL (cells + mc) (slots + ms) Q L2 f2 (pc + 3) ls ((en z).toList ++ rest)) : ZW G p l e R s m args below meth c A nL cells slots Q L f pc ls st0 := by
  obtain ⟨c1, c2, c4, ⟨c5, c6, c7⟩, c8, c9⟩ := cd
  refine z_callS (a := (Value.ref b :: As).toArray) C hs hnd (fun H locs la hP hD hS hl => ?_) K
  exact va_runI (As := As) (rest := rest) ⟨C.1, C.2.1, C.2.2.1, C.2.2.2.1, C.2.2.2.2.1⟩ (hM H.size) (cwI n C.2.2.2.2.1 (zGood c1 rfl) rfl rfl rfl (C.w c4 rfl) (C.w hlk rfl) (C.w c2 rfl) c9 ⟨c5, c6, c7⟩ hk) (z_pre C hP hD hS (.ref b :: As)) rfl hn hl.1 hst (lv_room hcat) hd ⟨hmc, hms⟩
/-- a method with handlers -/
theorem zMW_intro {ρ : Type} {en : ρ → Option Value} {R0 : ρ → List Nat → (Nat → va_E) → Prop} {k mc ms : Nat} {av : List Value} {maxL : Nat} {y : MethodName} {hh : List (Nat × Nat × Nat × Nat)} (hX : zX X) (hy : plainName y.cls = true) (hav : (lg_sl av).length ≤ maxL)
    (body : ∀ (p : Program) (e : Env) (s : State) (m : MethodId) (args : Array Value) (below : List Frame) (meth : Method) (c : Code) (A : Nat → Prop), ZC G X p l s m args meth c A maxL ret cc y.cls → c.exceptionTable.toList = tableOf hh → ZW G p l e (zRm k mc ms) s m args below meth c A maxL 0 0 (MQ below (zQ G en R0 A) args s mc ms A) L f 0 (lv_args 0 av) []) : zM l G X y (.codeWith y cc maxL ret hh :: zT) k mc ms av L f en R0 := by
  intro sz
  refine va_MetW (cc := cc) (maxL := maxL) (ret := ret) (hh := hh) hy rfl ?_
  intro p e s m args below meth c s₁ B hml hv
  obtain ⟨rfl, hsz, hP, hK, hD0, hXs⟩ := hv
  have hts := atoms_spec (ws := .codeWith y cc maxL ret hh :: zT) B.pre
  have hown : s.vm.findClass y.cls = some m.cls := findClass_of_methodNamed B.named
  subst hsz
  have hD := hD0.self (sz := s.heap.size)
  rw [lg_entry_eq]
  exact body p e s m _ below meth c (va_A (va_pl L f) s.heap.size) ⟨B.exec, B.bytes, hml, hown, fun w h => hts w (List.mem_cons_of_mem _ h), hK, fun q h => Or.inr h, B.notSynchronized, B.returns, hXs, hX⟩ (vx_table (x := y) B (hts _ List.mem_cons_self)) s.heap [] _ hP hD va_S.rf (lv_entry av hav)
theorem z_cSW {ρ : Type} {en : ρ → Option Value} {R1 : ρ → List Nat → (Nat → va_E) → Prop} {k1 mc ms n idx maxL : Nat} {y : MethodName} {bytes : ByteArray} {ret1 : Option FieldType} {hh : List (Nat × Nat × Nat × Nat)} {As rest st0 : List Value}
    (C : ZC G X p l s m args meth c A nL ret cc own) (cd : zcSW y bytes maxL ret1 hh n) (hM : zM l G X y (.codeWith y bytes maxL ret1 hh :: zT) k1 mc ms As L f en R1) (hlk : Cond.methodLink own idx y ∈ lw_tbl) (hk : k1 + 1 ≤ R.frames ∧ 8 + (maxL + 11) + 60 * k1 ≤ R.locals) (hmc : cells + mc ≤ R.cells) (hms : slots + ms ≤ R.slots) (hn : As.length = n) (hst : st0 = As.reverse ++ rest) (hcat : (rest.map fun v => v.category).sum ≤ 8) (hd : decode cc pc = .ok (.invokestatic idx, 3))
    (K : ∀ (z : ρ) (L' : List Nat) (f' : Nat → va_E), R1 z L' f' → ZW G p l e R s m args below meth c A nL (cells + mc) (slots + ms) Q L' f' (pc + 3) ls ((en z).toList ++ rest)) : ZW G p l e R s m args below meth c A nL cells slots Q L f pc ls st0 := by
  obtain ⟨c1, c2, c4, ⟨c5, c6, c7⟩, c8⟩ := cd
  refine z_call (a := As.toArray) C (fun H locs la hP hD hS hl => ?_) K
  have hG : GoodIn zT (va_wsS own idx y (.codeWith y bytes maxL ret1 hh :: zT)) := by
    intro w hw
    rcases List.mem_append.mp hw with hw | hw
    · rcases List.mem_cons.mp hw with rfl | hw
      · exact ⟨zT_of hlk rfl, good_of_word rfl⟩
      rcases List.mem_cons.mp hw with rfl | hw
      · exact ⟨zT_of c2 rfl, good_of_word rfl⟩
      rcases List.mem_cons.mp hw with rfl | hw
      · exact ⟨zT_of c4 rfl, good_of_word rfl⟩
      · cases hw
    · exact zGood c1 rfl w hw
  exact vx_runSW (As := As) (rest := rest) ⟨C.1, C.2.1, C.2.2.1, C.2.2.2.1, C.2.2.2.2.1⟩ (hM H.size) (vx_cwSW n C.2.2.2.2.1 hG rfl rfl rfl ⟨c5, c6, c7⟩ hk) (z_pre C hP hD hS As) rfl hn hl.1 hst (lv_room hcat) hd ⟨hmc, hms⟩
/-- caught by a row of the method's table -/
theorem z_catch (C : ZC G X p l s m args meth c A nL ret cc own) (h4 : zT4 X) (h5 : zT5 X) {hh : List (Nat × Nat × Nat × Nat)} (ht : c.exceptionTable.toList = tableOf hh) (pre : List ExceptionTableEntry) (x : ExceptionTableEntry) (suf : List ExceptionTableEntry) (hsplit : tableOf hh = pre ++ x :: suf) {E : String} {rest : List Value} (hpass : ∀ z ∈ pre, z.catchType ≠ 0 ∧ ∃ nm : String, Cond.classLink own z.catchType nm ∈ lw_tbl ∧ (E, nm) ∈ zNcs) (hx : covers x pc = true) (h0 : x.catchType ≠ 0) (hlink : Cond.classLink own x.catchType E ∈ lw_tbl) (hcast : Cond.castable E E ∈ zOth)
    (K : ∀ q : Nat, ZW G p l e R s m args below meth c A nL cells slots Q L f x.handlerPc ls [.ref q]) : ZXW G p l e R s m args below meth c A nL cells slots Q L f pc ls rest E := by
  intro H locs la q ce hP hD hS hl hq hv hcl
  exact vx_catch C.2.2.2.1 pre x suf (ht.trans hsplit) (fun z hz => Or.inr (by
    obtain ⟨z0, nm, z1, z2⟩ := hpass z hz
    exact ⟨z0, nm, C.w z1 rfl, h5 _ _ C.x _ z2⟩)) hx h0 (C.w hlink rfl) (va_Nw.use (zOth_tab _ hcast) (h4 _ _ C.x _ hcast)) hq hv hcl (K q H locs la hP hD hS hl)
theorem z_i2lR (C : ZC G X p l s m args meth c A nL ret cc own) {x : Int32} (hd : decode cc pc = .ok (.i2l, 1)) (K : ZW G p l e R s m args below meth c A nL cells slots Q L f (pc + 1) ls (.long x.toInt64 :: st)) : ZW G p l e R s m args below meth c A nL cells slots Q L f pc ls (.int x :: st) :=
  fun H locs la hP hD hS hl => lv_i2l C.1 C.2.1 hd rfl (K H locs la hP hD hS hl)
theorem z_same (C : ZC G X p l s m args meth c A nL ret cc own) {x : Int32} {off : Int} (tgt : Nat) (hd : decode cc pc = .ok (.if_icmp .eq off, 3)) (ht : (pc : Int) + off = (tgt : Int)) (K : ZW G p l e R s m args below meth c A nL cells slots Q L f tgt ls st) : ZW G p l e R s m args below meth c A nL cells slots Q L f pc ls (.int x :: .int x :: st) :=
  fun H locs la hP hD hS hl => lv_icmp_eq C.1 C.2.1 hd ht (fun _ => K H locs la hP hD hS hl) (fun h => absurd rfl h)
theorem z_lcmpS (C : ZC G X p l s m args meth c A nL ret cc own) {x : Int64} (hd : decode cc pc = .ok (.lcmp, 1)) (K : ZW G p l e R s m args below meth c A nL cells slots Q L f (pc + 1) ls (.int (iI 0) :: st)) : ZW G p l e R s m args below meth c A nL cells slots Q L f pc ls (.long x :: .long x :: st) :=
  fun H locs la hP hD hS hl => W.lcmp C.1 C.2.1 hd (by
    have e : lg_cmp x x = iI 0 := by unfold lg_cmp; simp [iI_0]
    rw [e]; exact K H locs la hP hD hS hl)
theorem z_lald (C : ZC G X p l s m args meth c A nL ret cc own) {a : Nat} {φ : Nat → Int64} (h : zLA G L f a φ) (hd : decode cc pc = .ok (.laload, 1)) (K : ZW G p l e R s m args below meth c A nL cells slots Q L f (pc + 1) ls (.long (φ 0) :: st)) : ZW G p l e R s m args below meth c A nL cells slots Q L f pc ls (.int (iI 0) :: .ref a :: st) := by
  intro H locs la hP hD hS hl
  obtain ⟨ha, hf⟩ := h
  obtain ⟨q, hq⟩ := va_pl_get (X := []) (f := f) ha
  have hq' : (va_pl L f)[q]? = some (a, .inl (G.2 4, 1, .inr (.inl φ))) := by rw [← hf]; exact hq
  exact va_lald C.1 C.2.1 C.2.2.2.2.2.1 hP q 4 hq' rfl (iI_in (by decide) (by decide) (by decide)) hd (K H locs la hP hD hS hl)
theorem z_last (C : ZC G X p l s m args meth c A nL ret cc own) {a : Nat} {φ : Nat → Int64} {x : Int64} (h : zLA G L f a φ) (hd : decode cc pc = .ok (.lastore, 1)) (K : ∀ (f' : Nat → va_E) (φ' : Nat → Int64), zLA G L f' a φ' → φ' 0 = x → (∀ b, b ≠ a → f' b = f b) → ZW G p l e R s m args below meth c A nL cells slots Q L f' (pc + 1) ls st) : ZW G p l e R s m args below meth c A nL cells slots Q L f pc ls (.long x :: .int (iI 0) :: .ref a :: st) := by
  intro H locs la hP hD hS hl
  obtain ⟨ha, hf⟩ := h
  obtain ⟨q, hq⟩ := va_pl_get (X := []) (f := f) ha
  have hq' : (va_pl L f)[q]? = some (a, .inl (G.2 4, 1, .inr (.inl φ))) := by rw [← hf]; exact hq
  refine va_last C.1 C.2.1 C.2.2.2.2.2.1 hP hD hS q 4 hq' rfl (iI_in (by decide) (by decide) (by decide)) hd (fun H1 locs1 hP1 hD1 hS1 => ?_)
  rw [zpl_set hD ha hq] at hP1 hD1
  exact K _ _ ⟨ha, va_up_self _ _ _⟩ (if_pos rfl) (fun b hb => va_up_ne _ _ hb) H1 locs1 la hP1 hD1 hS1 hl
theorem z_dald (C : ZC G X p l s m args meth c A nL ret cc own) {a : Nat} {φ : Nat → UInt64} (h : zDA G L f a φ) (hd : decode cc pc = .ok (.daload, 1)) (K : ZW G p l e R s m args below meth c A nL cells slots Q L f (pc + 1) ls (.double (φ 0) :: st)) : ZW G p l e R s m args below meth c A nL cells slots Q L f pc ls (.int (iI 0) :: .ref a :: st) := by
  intro H locs la hP hD hS hl
  obtain ⟨ha, hf⟩ := h
  obtain ⟨q, hq⟩ := va_pl_get (X := []) (f := f) ha
  have hq' : (va_pl L f)[q]? = some (a, .inl (G.2 5, 1, .inr (.inr (.inr (.inl φ))))) := by rw [← hf]; exact hq
  exact va_dald C.1 C.2.1 C.2.2.2.2.2.1 hP q 5 hq' rfl (iI_in (by decide) (by decide) (by decide)) hd (K H locs la hP hD hS hl)
theorem z_dast (C : ZC G X p l s m args meth c A nL ret cc own) {a : Nat} {φ : Nat → UInt64} {x : UInt64} (h : zDA G L f a φ) (hd : decode cc pc = .ok (.dastore, 1)) (K : ∀ (f' : Nat → va_E) (φ' : Nat → UInt64), zDA G L f' a φ' → φ' 0 = x → (∀ b, b ≠ a → f' b = f b) → ZW G p l e R s m args below meth c A nL cells slots Q L f' (pc + 1) ls st) : ZW G p l e R s m args below meth c A nL cells slots Q L f pc ls (.double x :: .int (iI 0) :: .ref a :: st) := by
  intro H locs la hP hD hS hl
  obtain ⟨ha, hf⟩ := h
  obtain ⟨q, hq⟩ := va_pl_get (X := []) (f := f) ha
  have hq' : (va_pl L f)[q]? = some (a, .inl (G.2 5, 1, .inr (.inr (.inr (.inl φ))))) := by rw [← hf]; exact hq
  refine va_dast C.1 C.2.1 C.2.2.2.2.2.1 hP hD hS q 5 hq' rfl (iI_in (by decide) (by decide) (by decide)) hd (fun H1 locs1 hP1 hD1 hS1 => ?_)
  rw [zpl_set hD ha hq] at hP1 hD1
  exact K _ _ ⟨ha, va_up_self _ _ _⟩ (if_pos rfl) (fun b hb => va_up_ne _ _ hb) H1 locs1 la hP1 hD1 hS1 hl
theorem z_newL (C : ZC G X p l s m args meth c A nL ret cc own) (harr : Cond.arrayClass .long ∈ lw_tbl) (hcells : cells + 1 ≤ R.cells) (hslots : slots + 1 ≤ R.slots) (hd : decode cc pc = .ok (.newarray .long, 2))
    (K : ∀ (q : Nat) (L2 : List Nat) (f2 : Nat → va_E), q ∉ L → L2 = L ++ [q] → zLA G L2 f2 q (fun _ => 0) → (∀ b, b ≠ q → f2 b = f b) → ZW G p l e R s m args below meth c A nL (cells + 1) (slots + 1) Q L2 f2 (pc + 2) ls (.ref q :: st)) : ZW G p l e R s m args below meth c A nL cells slots Q L f pc ls (.int (iI 1) :: st) := by
  intro H locs la hP hD hS hl
  refine va_newa (N' := 1) (atype := .long) (ty := .long) (a0 := (1, .inr (.inl (fun _ => 0)))) C.1 C.2.1 (show (Cond.arrayClass FieldType.long).before args s = true from C.w harr rfl) rfl C.2.2.2.2.2.1 hP hD hS C.2.2.2.2.2.2.1 (fun cA => rfl) (by decide) (by decide) (by decide) hcells hslots hd (fun q cA H1 hK1 hP1 hD1 hS1 => ?_)
  have hcA : cA = G.2 4 := by
    have k1 : s.vm.findClass _ = some cA := (hK1.2 (zY G).length (cA, .long) (by rw [List.getElem?_append_right (Nat.le_refl _), Nat.sub_self]; rfl)).2
    have k2 : s.vm.findClass _ = some (G.2 4) := (C.2.2.2.2.2.1.2 4 (G.2 4, .long) rfl).2
    exact Option.some.inj (k1.symm.trans k2)
  subst hcA
  have hq : q ∉ L := z_fresh (H1 := H1) hP hD1
  rw [va_pl_push hq] at hP1 hD1
  exact K q _ _ hq rfl ⟨List.mem_append.mpr (Or.inr (List.mem_singleton.mpr rfl)), va_up_self _ _ _⟩ (fun b hb => va_up_ne _ _ hb) H1 locs la hP1 hD1 hS1 hl
theorem z_newD (C : ZC G X p l s m args meth c A nL ret cc own) (harr : Cond.arrayClass .double ∈ lw_tbl) (hcells : cells + 1 ≤ R.cells) (hslots : slots + 1 ≤ R.slots) (hd : decode cc pc = .ok (.newarray .double, 2))
    (K : ∀ (q : Nat) (L2 : List Nat) (f2 : Nat → va_E), q ∉ L → L2 = L ++ [q] → zDA G L2 f2 q (fun _ => 0) → (∀ b, b ≠ q → f2 b = f b) → ZW G p l e R s m args below meth c A nL (cells + 1) (slots + 1) Q L2 f2 (pc + 2) ls (.ref q :: st)) : ZW G p l e R s m args below meth c A nL cells slots Q L f pc ls (.int (iI 1) :: st) := by
  intro H locs la hP hD hS hl
  refine va_newa (N' := 1) (atype := .double) (ty := .double) (a0 := (1, .inr (.inr (.inr (.inl (fun _ => 0)))))) C.1 C.2.1 (show (Cond.arrayClass FieldType.double).before args s = true from C.w harr rfl) rfl C.2.2.2.2.2.1 hP hD hS C.2.2.2.2.2.2.1 (fun cA => rfl) (by decide) (by decide) (by decide) hcells hslots hd (fun q cA H1 hK1 hP1 hD1 hS1 => ?_)
  have hcA : cA = G.2 5 := by
    have k1 : s.vm.findClass _ = some cA := (hK1.2 (zY G).length (cA, .double) (by rw [List.getElem?_append_right (Nat.le_refl _), Nat.sub_self]; rfl)).2
    have k2 : s.vm.findClass _ = some (G.2 5) := (C.2.2.2.2.2.1.2 5 (G.2 5, .double) rfl).2
    exact Option.some.inj (k1.symm.trans k2)
  subst hcA
  have hq : q ∉ L := z_fresh (H1 := H1) hP hD1
  rw [va_pl_push hq] at hP1 hD1
  exact K q _ _ hq rfl ⟨List.mem_append.mpr (Or.inr (List.mem_singleton.mpr rfl)), va_up_self _ _ _⟩ (fun b hb => va_up_ne _ _ hb) H1 locs la hP1 hD1 hS1 hl
/-- the script's numbers -/
def zgx (xs : Nat → Int32) (j : Int) : Int := (xs j.toNat).toInt
theorem zgx_r (xs : Nat → Int32) (j : Int) : zR (zgx xs j) := iI_rng _
theorem z_slen (C : ZC G X p l s m args meth c A nL ret cc own) {b N : Nat} {xs : Nat → Int32} (hX : va_X b N xs s s.heap) (hbl : b < s.heap.size) (hbA : ¬ A b) (hd : decode cc pc = .ok (.arraylength, 1)) (K : ZW G p l e R s m args below meth c A nL cells slots Q L f (pc + 1) ls (.int (iI (N : Int)) :: st)) : ZW G p l e R s m args below meth c A nL cells slots Q L f pc ls (.ref b :: st) :=
  fun H locs la hP hD hS hl => va_slen C.1 C.2.1 hX hbl hbA hS hd (by
    have e : Int32.ofNat N = iI (N : Int) := by rw [← iI_nat]; rfl
    rw [e]; exact K H locs la hP hD hS hl)
theorem z_sld (C : ZC G X p l s m args meth c A nL ret cc own) {b N : Nat} {xs : Nat → Int32} (hX : va_X b N xs s s.heap) (hbl : b < s.heap.size) (hbA : ¬ A b) {j : Int} (hN : N < 2147483648) (h0 : 0 ≤ j) (h1 : j < N) (hd : decode cc pc = .ok (.iaload, 1)) (K : ZW G p l e R s m args below meth c A nL cells slots Q L f (pc + 1) ls (.int (iI (zgx xs j)) :: st)) : ZW G p l e R s m args below meth c A nL cells slots Q L f pc ls (.int (iI j) :: .ref b :: st) :=
  fun H locs la hP hD hS hl => va_sld C.1 C.2.1 hX hbl hbA hS (iI_in hN h0 h1) hd (by
    have e : xs (iI j).toNatClampNeg = iI (zgx xs j) := by rw [iI_clamp h0 (by omega)]; exact iI_of _
    rw [e]; exact K H locs la hP hD hS hl)
theorem z_iandR (C : ZC G X p l s m args meth c A nL ret cc own) {x y : Int32} (hd : decode cc pc = .ok (.iand, 1)) (K : ∀ w : Int, zR w → ZW G p l e R s m args below meth c A nL cells slots Q L f (pc + 1) ls (.int (iI w) :: st)) : ZW G p l e R s m args below meth c A nL cells slots Q L f pc ls (.int y :: .int x :: st) :=
  fun H locs la hP hD hS hl => lv_iand C.1 C.2.1 hd (by rw [iI_of (x &&& y)]; exact K _ (iI_rng _) H locs la hP hD hS hl)
theorem z_i2cR (C : ZC G X p l s m args meth c A nL ret cc own) {v : Int} (hv : zR v) (hd : decode cc pc = .ok (.i2c, 1)) (K : ZW G p l e R s m args below meth c A nL cells slots Q L f (pc + 1) ls (.int (iI (v % 65536)) :: st)) : ZW G p l e R s m args below meth c A nL cells slots Q L f pc ls (.int (iI v) :: st) :=
  fun H locs la hP hD hS hl => lv_i2c C.1 C.2.1 hd (by
    rw [lg_i2c_nf]
    apply Int32.toInt_inj.mp
    rw [lg_i2c_toInt, iI_toInt hv, iI_toInt ⟨by omega, by omega⟩]
    rfl) (K H locs la hP hD hS hl)
theorem z_tsw (C : ZC G X p l s m args meth c A nL ret cc own) {w dflt lo hi : Int} {offs : Array Int} {len tout : Nat} (hw : zR w) (hd : decode cc pc = .ok (.tableswitch dflt lo hi offs, len)) (ht : (pc : Int) + dflt = (tout : Int)) (Kout : ZW G p l e R s m args below meth c A nL cells slots Q L f tout ls st)
    (Kin : ∀ (off : Int) (tgt : Nat), lo ≤ w → w ≤ hi → offs[(w - lo).toNat]? = some off → (pc : Int) + off = (tgt : Int) → ZW G p l e R s m args below meth c A nL cells slots Q L f tgt ls st) (hin : ∀ k : Int, lo ≤ k → k ≤ hi → ∃ (off : Int) (tgt : Nat), offs[(k - lo).toNat]? = some off ∧ (pc : Int) + off = (tgt : Int)) : ZW G p l e R s m args below meth c A nL cells slots Q L f pc ls (.int (iI w) :: st) := by
  intro H locs la hP hD hS hl
  by_cases q : w < lo ∨ hi < w
  · exact lv_tableOut C.1 C.2.1 hd (by rw [iI_toInt hw]; exact q) ht (Kout H locs la hP hD hS hl)
  · obtain ⟨off, tgt, h1, h2⟩ := hin w (by omega) (by omega)
    exact lv_tableIn C.1 C.2.1 hd (by rw [iI_toInt hw]; omega) (by rw [iI_toInt hw]; omega) (by rw [iI_toInt hw]; exact h1) h2 (Kin off tgt (by omega) (by omega) h1 h2 H locs la hP hD hS hl)
end ZLAW
