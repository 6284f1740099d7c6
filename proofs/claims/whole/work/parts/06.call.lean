/-! ===== calls over the one world, and a method's entry ===== -/
/-- what a callee must be, by the tables: called on an object of its own class -/
def zcV (y : MethodName) (bytes : ByteArray) (maxL : Nat) (ret : Option FieldType) (n : Nat) : Prop := Cond.code y bytes maxL ret ∈ lw_tbl ∧ Cond.instanceMethod y ∈ lw_tbl ∧ Cond.selects y.cls y y ∈ lw_tbl ∧ Cond.initialized y.cls ∈ lw_tbl ∧ (y.cls ≠ "java/lang/invoke/MethodHandle" ∧ y.cls ≠ "java/lang/invoke/VarHandle" ∧ (parseMethodDescriptor y.desc).map (fun d => d.parameters.length) = some n) ∧ maxL ≤ 41
def zcS (y : MethodName) (bytes : ByteArray) (maxL : Nat) (ret : Option FieldType) (n : Nat) : Prop := Cond.code y bytes maxL ret ∈ lw_tbl ∧ Cond.static y ∈ lw_tbl ∧ Cond.initialized y.cls ∈ lw_tbl ∧ (y.cls ≠ "java/lang/invoke/MethodHandle" ∧ y.cls ≠ "java/lang/invoke/VarHandle" ∧ (parseMethodDescriptor y.desc).map (fun d => d.parameters.length) = some n) ∧ maxL ≤ 41
def zcI (y : MethodName) (bytes : ByteArray) (maxL : Nat) (n : Nat) : Prop := Cond.code y bytes maxL none ∈ lw_tbl ∧ Cond.instanceMethod y ∈ lw_tbl ∧ Cond.initialized y.cls ∈ lw_tbl ∧ (y.cls ≠ "java/lang/invoke/MethodHandle" ∧ y.cls ≠ "java/lang/invoke/VarHandle" ∧ (parseMethodDescriptor y.desc).map (fun d => d.parameters.length) = some n) ∧ maxL ≤ 41 ∧ y.name = "<init>"
theorem zGood {w : Cond} (h : w ∈ lw_tbl) (g : goodWord w = true) : GoodIn zT (w :: zT) := fun v hv => by
  rcases List.mem_cons.mp hv with rfl | h2
  · exact ⟨zT_of h g, good_of_word g⟩
  · exact zT_good v h2
section ZCALL
variable {p : Program} {l : Launch} {e : Env} {s : State} {m : MethodId} {args : Array Value} {below : List Frame} {meth : Method} {c : Code} {cells slots : Nat} {Q : State → Prop}
variable {G : zG} {X : (Nat → Prop) → State → Prop} {A : Nat → Prop} {nL : Nat} {L : List Nat} {f : Nat → va_E} {cc : ByteArray} {own : String} {pc : Nat} {ls : List (Nat × Value)} {ret : Option FieldType}
variable {k0 mc0 ms0 : Nat}
theorem zM_intro {ρ : Type} {en : ρ → Option Value} {R0 : ρ → List Nat → (Nat → va_E) → Prop} {k mc ms : Nat} {av : List Value} {maxL : Nat} {y : MethodName} (hX : zX X) (hy : plainName y.cls = true) (hav : (lg_sl av).length ≤ maxL)
    (body : ∀ (p : Program) (e : Env) (s : State) (m : MethodId) (args : Array Value) (below : List Frame) (meth : Method) (c : Code) (A : Nat → Prop), ZC G X p l s m args meth c A maxL ret cc y.cls → (y.name = "<init>" → meth.name = "<init>") → ZW G p l e (zRm k mc ms) s m args below meth c A maxL 0 0 (MQ below (zQ G en R0 A) args s mc ms A) L f 0 (lv_args 0 av) []) : zM l G X y (.code y cc maxL ret :: zT) k mc ms av L f en R0 := by
  intro sz
  refine Met.ofW (cc := cc) (maxL := maxL) (ret := ret) hy rfl ?_
  intro p e s m args below meth c s₁ B hml hv
  obtain ⟨rfl, hsz, hP, hK, hD0, hXs⟩ := hv
  have hts := atoms_spec (ws := .code y cc maxL ret :: zT) B.pre
  have hown : s.vm.findClass y.cls = some m.cls := findClass_of_methodNamed B.named
  subst hsz
  have hD := hD0.self (sz := s.heap.size)
  rw [lg_entry_eq]
  refine body p e s m _ below meth c (va_A (va_pl L f) s.heap.size) ⟨B.exec, B.bytes, hml, hown, fun w h => hts w (List.mem_cons_of_mem _ h), hK, fun q h => Or.inr h, B.notSynchronized, B.returns, hXs, hX⟩ (fun h => by rw [(name_of_methodNamed B.named B.method).1]; exact h) s.heap [] _ hP hD va_S.rf (lv_entry av hav)
/-- the call itself: the world in, the world out -/
theorem z_call {R : Room} {ρ : Type} {en : ρ → Option Value} {R1 : ρ → List Nat → (Nat → va_E) → Prop} {mc ms : Nat} {st0 rest : List Value} {a : Array Value} (C : ZC G X p l s m args meth c A nL ret cc own)
    (hr : ∀ (H : Heap) (locs : List Loc) (la : Array Slot), va_P G.1 vwCl (va_pl L f) H → va_D A (va_pl L f) → va_S A s.heap H locs → lv_has la nL ls → va_Run p l e R s m args below meth c H locs cells slots mc ms (F0 m pc la st0) rest (zQ G en R1 (va_A (va_pl L f) H.size) a) (va_A (va_pl L f) H.size))
    (K : ∀ (z : ρ) (L' : List Nat) (f' : Nat → va_E), R1 z L' f' → ZW G p l e R s m args below meth c A nL (cells + mc) (slots + ms) Q L' f' (pc + 3) ls ((en z).toList ++ rest)) : ZW G p l e R s m args below meth c A nL cells slots Q L f pc ls st0 := by
  intro H locs la hP hD hS hl T hT X0
  have hA : ∀ q, va_A (va_pl L f) H.size q → A q := by
    intro q h
    rcases h with ⟨k, ee, h⟩ | h
    · exact hD.2 k _ h
    · exact C.2.2.2.2.2.2.1 q (Nat.le_trans hS.1 h)
  obtain ⟨v, st₀, t, T', Lc, h0, X', hLc, e1, e2, ⟨⟨z, L', f', hv, hR, hB⟩, hF⟩, stp⟩ := hr H locs la hP hD hS hl T hT X0
  obtain rfl : v = en z := Outcome.returned.inj hv
  obtain ⟨k1, k2, k3⟩ := vx_keep h0 e1 hS (fun q _ h => hA q h) hA hLc hF
  obtain ⟨t2, a1, b1⟩ := K z L' f' hR T'.heap (locs ++ Lc) la (by rw [e1]; exact hB.1) (hB.2.2.weaken fun _ _ _ h => hA _ h) k3 hl T' rfl X'
  exact ⟨t2, stp t2 a1, b1⟩
/-- the callee's premises at a call -/
theorem z_pre (C : ZC G X p l s m args meth c A nL ret cc own) {H : Heap} {locs : List Loc} (hP : va_P G.1 vwCl (va_pl L f) H) (hD : va_D A (va_pl L f)) (hS : va_S A s.heap H locs) (av : List Value) : PreS s H (va_Pc av (zPre G L f H.size X)) av := by
  obtain ⟨x1, x2, x3, x4⟩ := C.2.2.2.2.2.2.2.2.2.2
  refine ⟨fun a U g mk q => ?_, fun U hU hW => ⟨rfl, by rw [hU], by rw [hU]; exact hP, va_K.moved hW.alike C.2.2.2.2.2.1, hD.weaken (fun _ _ _ _ => trivial), ?_⟩⟩
  · obtain ⟨q0, q1, qP, qK, qD, qX⟩ := q
    exact ⟨q0, q1, qP, va_K.moved (u := U) (U := U.calling g mk a) (Vm.Alike.refl U.vm) qK, qD, x3 _ _ g mk a qX⟩
  · refine x2 A _ U (x1 A s U C.2.2.2.2.2.2.2.2.2.1 hW (fun q h1 h2 => by rw [hU]; exact hS.2.1 q h1 h2)) (fun q h => ?_)
    rcases h with ⟨k, ee, h⟩ | h
    · exact hD.2 k _ h
    · exact C.2.2.2.2.2.2.1 q (Nat.le_trans hS.1 h)
theorem z_rm {maxL k1 : Nat} (h : k1 + 1 ≤ k0) (hm : maxL ≤ 41) (mc ms : Nat) : (zRm k1 mc ms).frames + 1 ≤ (zRm k0 mc0 ms0).frames ∧ 8 + (maxL + 11) + (zRm k1 mc ms).locals ≤ (zRm k0 mc0 ms0).locals := ⟨h, by show 8 + (maxL + 11) + 60 * k1 ≤ 60 * k0; omega⟩
/-- a call of an object's own method -/
theorem z_cV {ρ : Type} {en : ρ → Option Value} {R1 : ρ → List Nat → (Nat → va_E) → Prop} {k1 mc ms n idx b ci maxL : Nat} {y : MethodName} {bytes : ByteArray} {ret1 : Option FieldType} {As rest st0 : List Value} {fs : List Value} {r : vw_C}
    (C : ZC G X p l s m args meth c A nL ret cc own) (cd : zcV y bytes maxL ret1 n) (hM : zM l G X y (.code y bytes maxL ret1 :: zT) k1 mc ms (.ref b :: As) L f en R1) (hlk : Cond.methodLink own idx y ∈ lw_tbl) (hk : k1 + 1 ≤ k0) (hmc : cells + mc ≤ mc0) (hms : slots + ms ≤ ms0) (hb : b ∈ L) (hfb : f b = .inr (ci, fs)) (hci : vwCl[ci]? = some r) (hr : r.1 = y.cls) (hn : As.length = n) (hst : st0 = As.reverse ++ .ref b :: rest) (hcat : (rest.map fun v => v.category).sum ≤ 8) (hd : decode cc pc = .ok (.invokevirtual idx, 3))
    (K : ∀ (z : ρ) (L' : List Nat) (f' : Nat → va_E), R1 z L' f' → ZW G p l e (zRm k0 mc0 ms0) s m args below meth c A nL (cells + mc) (slots + ms) Q L' f' (pc + 3) ls ((en z).toList ++ rest)) : ZW G p l e (zRm k0 mc0 ms0) s m args below meth c A nL cells slots Q L f pc ls st0 := by
  obtain ⟨c1, c2, c3, c4, ⟨c5, c6, c7⟩, c8⟩ := cd
  refine z_call (a := (Value.ref b :: As).toArray) C (fun H locs la hP hD hS hl => ?_) K
  have hG : GoodIn zT (wsV own idx y.cls y (.code y bytes maxL ret1 :: zT)) := by
    intro w hw
    rcases List.mem_append.mp hw with hw | hw
    · rcases List.mem_cons.mp hw with rfl | hw
      · exact ⟨zT_of hlk rfl, good_of_word rfl⟩
      rcases List.mem_cons.mp hw with rfl | hw
      · exact ⟨zT_of c2 rfl, good_of_word rfl⟩
      rcases List.mem_cons.mp hw with rfl | hw
      · exact ⟨zT_of c3 rfl, good_of_word rfl⟩
      rcases List.mem_cons.mp hw with rfl | hw
      · exact ⟨zT_of c4 rfl, good_of_word rfl⟩
      · cases hw
    · exact zGood c1 rfl w hw
  obtain ⟨q, hq⟩ := va_pl_get (X := []) (f := f) hb
  have hq : (va_pl L f)[q]? = some (b, .inr (ci, fs)) := by rw [← hfb]; exact hq
  have hrecv := va_recv C.2.2.2.2.2.1 hP hci hq
  rw [hr] at hrecv
  obtain ⟨pf, pu⟩ := z_pre C hP hD hS (.ref b :: As)
  exact va_runV (As := As) (rest := rest) ⟨C.1, C.2.1, C.2.2.1, C.2.2.2.1, C.2.2.2.2.1⟩ (hM H.size) (cwV n C.2.2.2.2.1 hG rfl rfl rfl ⟨rfl, c5, c6, c7⟩ (z_rm hk c8 mc ms)) ⟨pf, hrecv, pu⟩ rfl hn hl.1 hst (lv_room hcat) hd ⟨hmc, hms⟩
theorem z_cS {ρ : Type} {en : ρ → Option Value} {R1 : ρ → List Nat → (Nat → va_E) → Prop} {k1 mc ms n idx maxL : Nat} {y : MethodName} {bytes : ByteArray} {ret1 : Option FieldType} {As rest st0 : List Value}
    (C : ZC G X p l s m args meth c A nL ret cc own) (cd : zcS y bytes maxL ret1 n) (hM : zM l G X y (.code y bytes maxL ret1 :: zT) k1 mc ms As L f en R1) (hlk : Cond.methodLink own idx y ∈ lw_tbl) (hk : k1 + 1 ≤ k0) (hmc : cells + mc ≤ mc0) (hms : slots + ms ≤ ms0) (hn : As.length = n) (hst : st0 = As.reverse ++ rest) (hcat : (rest.map fun v => v.category).sum ≤ 8) (hd : decode cc pc = .ok (.invokestatic idx, 3))
    (K : ∀ (z : ρ) (L' : List Nat) (f' : Nat → va_E), R1 z L' f' → ZW G p l e (zRm k0 mc0 ms0) s m args below meth c A nL (cells + mc) (slots + ms) Q L' f' (pc + 3) ls ((en z).toList ++ rest)) : ZW G p l e (zRm k0 mc0 ms0) s m args below meth c A nL cells slots Q L f pc ls st0 := by
  obtain ⟨c1, c2, c4, ⟨c5, c6, c7⟩, c8⟩ := cd
  refine z_call (a := As.toArray) C (fun H locs la hP hD hS hl => ?_) K
  have hG : GoodIn zT (va_wsS own idx y (.code y bytes maxL ret1 :: zT)) := by
    intro w hw
    rcases List.mem_append.mp hw with hw | hw
    · rcases List.mem_cons.mp hw with rfl | hw
      · exact ⟨zT_of hlk rfl, good_of_word rfl⟩
      rcases List.mem_cons.mp hw with rfl | hw
      · exact ⟨zT_of c2 rfl, good_of_word rfl⟩
      rcases List.mem_cons.mp hw with rfl | hw
      · exact ⟨zT_of c4 rfl, good_of_word rfl⟩
      · cases hw
    · exact zGood c1 rfl w hw
  exact va_runS (As := As) (rest := rest) ⟨C.1, C.2.1, C.2.2.1, C.2.2.2.1, C.2.2.2.2.1⟩ (hM H.size) (va_cwS n C.2.2.2.2.1 hG rfl rfl rfl ⟨c5, c6, c7⟩ (z_rm hk c8 mc ms)) (z_pre C hP hD hS As) rfl hn hl.1 hst (lv_room hcat) hd ⟨hmc, hms⟩
theorem z_cI {ρ : Type} {en : ρ → Option Value} {R1 : ρ → List Nat → (Nat → va_E) → Prop} {k1 mc ms n idx b maxL : Nat} {y : MethodName} {bytes : ByteArray} {As rest st0 : List Value}
    (C : ZC G X p l s m args meth c A nL ret cc own) (cd : zcI y bytes maxL n) (hM : zM l G X y (.code y bytes maxL none :: zT) k1 mc ms (.ref b :: As) L f en R1) (hlk : Cond.methodLink own idx y ∈ lw_tbl) (hk : k1 + 1 ≤ k0) (hmc : cells + mc ≤ mc0) (hms : slots + ms ≤ ms0) (hn : As.length = n) (hst : st0 = As.reverse ++ .ref b :: rest) (hcat : (rest.map fun v => v.category).sum ≤ 8) (hd : decode cc pc = .ok (.invokespecial idx, 3))
    (K : ∀ (z : ρ) (L' : List Nat) (f' : Nat → va_E), R1 z L' f' → ZW G p l e (zRm k0 mc0 ms0) s m args below meth c A nL (cells + mc) (slots + ms) Q L' f' (pc + 3) ls ((en z).toList ++ rest)) : ZW G p l e (zRm k0 mc0 ms0) s m args below meth c A nL cells slots Q L f pc ls st0 := by
  obtain ⟨c1, c2, c4, ⟨c5, c6, c7⟩, c8, c9⟩ := cd
  refine z_call (a := (Value.ref b :: As).toArray) C (fun H locs la hP hD hS hl => ?_) K
  exact va_runI (As := As) (rest := rest) ⟨C.1, C.2.1, C.2.2.1, C.2.2.2.1, C.2.2.2.2.1⟩ (hM H.size) (cwI n C.2.2.2.2.1 (zGood c1 rfl) rfl rfl rfl (C.w c4 rfl) (C.w hlk rfl) (C.w c2 rfl) c9 ⟨c5, c6, c7⟩ (z_rm hk c8 mc ms)) (z_pre C hP hD hS (.ref b :: As)) rfl hn hl.1 hst (lv_room hcat) hd ⟨hmc, hms⟩
theorem z_nw (C : ZC G X p l s m args meth c A nL ret cc own) {w : Cond} (h : w ∈ zNests) : va_Nw w s := (C.2.2.2.2.2.2.2.2.2.2.2.2.2 A s C.2.2.2.2.2.2.2.2.2.1).1 w h
/-- a call of a nest mate's private static method -/
theorem z_cSN {ρ : Type} {en : ρ → Option Value} {R1 : ρ → List Nat → (Nat → va_E) → Prop} {k1 mc ms n idx maxL : Nat} {y : MethodName} {host : String} {bytes : ByteArray} {ret1 : Option FieldType} {As rest st0 : List Value}
    (C : ZC G X p l s m args meth c A nL ret cc own) (cd : zcS y bytes maxL ret1 n) (hM : zM l G X y (.code y bytes maxL ret1 :: zT) k1 mc ms As L f en R1) (hlk : Cond.methodLinkNest own idx y host ∈ zNests) (hk : k1 + 1 ≤ k0) (hmc : cells + mc ≤ mc0) (hms : slots + ms ≤ ms0) (hn : As.length = n) (hst : st0 = As.reverse ++ rest) (hcat : (rest.map fun v => v.category).sum ≤ 8) (hd : decode cc pc = .ok (.invokestatic idx, 3))
    (K : ∀ (z : ρ) (L' : List Nat) (f' : Nat → va_E), R1 z L' f' → ZW G p l e (zRm k0 mc0 ms0) s m args below meth c A nL (cells + mc) (slots + ms) Q L' f' (pc + 3) ls ((en z).toList ++ rest)) : ZW G p l e (zRm k0 mc0 ms0) s m args below meth c A nL cells slots Q L f pc ls st0 := by
  obtain ⟨c1, c2, c4, ⟨c5, c6, c7⟩, c8⟩ := cd
  refine z_call (a := As.toArray) C (fun H locs la hP hD hS hl => ?_) K
  exact va_runSN (As := As) (rest := rest) ⟨C.1, C.2.1, C.2.2.1, C.2.2.2.1, C.2.2.2.2.1⟩ (hM H.size) ⟨va_cnB n C.2.2.2.2.1 (zGood c1 rfl) rfl rfl rfl (z_nw C hlk) (C.w c4 rfl) ⟨c5, c6, c7⟩ (z_rm hk c8 mc ms), C.w c2 rfl, trivial⟩ (z_pre C hP hD hS As) rfl hn hl.1 hst (lv_room hcat) hd ⟨hmc, hms⟩
theorem z_cIN {ρ : Type} {en : ρ → Option Value} {R1 : ρ → List Nat → (Nat → va_E) → Prop} {k1 mc ms n idx b maxL : Nat} {y : MethodName} {host : String} {bytes : ByteArray} {As rest st0 : List Value}
    (C : ZC G X p l s m args meth c A nL ret cc own) (cd : zcI y bytes maxL n) (hM : zM l G X y (.code y bytes maxL none :: zT) k1 mc ms (.ref b :: As) L f en R1) (hlk : Cond.methodLinkNest own idx y host ∈ zNests) (hk : k1 + 1 ≤ k0) (hmc : cells + mc ≤ mc0) (hms : slots + ms ≤ ms0) (hn : As.length = n) (hst : st0 = As.reverse ++ .ref b :: rest) (hcat : (rest.map fun v => v.category).sum ≤ 8) (hd : decode cc pc = .ok (.invokespecial idx, 3))
    (K : ∀ (z : ρ) (L' : List Nat) (f' : Nat → va_E), R1 z L' f' → ZW G p l e (zRm k0 mc0 ms0) s m args below meth c A nL (cells + mc) (slots + ms) Q L' f' (pc + 3) ls ((en z).toList ++ rest)) : ZW G p l e (zRm k0 mc0 ms0) s m args below meth c A nL cells slots Q L f pc ls st0 := by
  obtain ⟨c1, c2, c4, ⟨c5, c6, c7⟩, c8, c9⟩ := cd
  refine z_call (a := (Value.ref b :: As).toArray) C (fun H locs la hP hD hS hl => ?_) K
  exact va_runIN (As := As) (rest := rest) ⟨C.1, C.2.1, C.2.2.1, C.2.2.2.1, C.2.2.2.2.1⟩ (hM H.size) ⟨va_cnB n C.2.2.2.2.1 (zGood c1 rfl) rfl rfl rfl (z_nw C hlk) (C.w c4 rfl) ⟨c5, c6, c7⟩ (z_rm hk c8 mc ms), c9, C.w c2 rfl⟩ (z_pre C hP hD hS (.ref b :: As)) rfl hn hl.1 hst (lv_room hcat) hd ⟨hmc, hms⟩
end ZCALL
/-- a method that looks: the world stays -/
abbrev zRd {ρ : Type} (L : List Nat) (f : Nat → va_E) (φ : ρ → Prop) : ρ → List Nat → (Nat → va_E) → Prop := fun z L' f' => φ z ∧ L = L' ∧ f = f'
