/-! ===== StringBuilder: rows ===== -/
abbrev yASBsel : MethodName := { cls := "java/lang/AbstractStringBuilder", name := "isLatin1", desc := "()Z" }
/-- a private method of AbstractStringBuilder, called on a StringBuilder -/
theorem z_selP {args : Array Value} {s : State} (hi0 : (Cond.instantiable "java/lang/StringBuilder" 4).before args s = true) (hs0 : (Cond.selects "java/lang/StringBuilder" yASBsel yASBsel).before args s = true) {y : MethodName} (hy : y.cls = "java/lang/AbstractStringBuilder") (hpriv : (Cond.privateMethod y).before args s = true) (hinst : (Cond.instanceMethod y).before args s = true) : (Cond.selects "java/lang/StringBuilder" y y).before args s = true := by
  obtain ⟨c, k, hc, hk, -, hniab, -, -⟩ := Cond.instantiable_spec hi0
  obtain ⟨mk, methM, hnamed, hmethM, -, -⟩ := Cond.instanceMethod_spec hinst
  have hne : y.cls ≠ "java/lang/invoke/MethodHandle" ∧ y.cls ≠ "java/lang/invoke/VarHandle" := by rw [hy]; exact ⟨by decide +kernel, by decide +kernel⟩
  have hfound : s.methodFound? y.cls y.name y.desc = some mk := State.methodFound?_of_named hnamed hne
  have hsel : selectMethod {} s.vm c mk = .method mk := selectMethod_private hmethM (Cond.privateMethod_at hpriv mk methM hnamed hmethM)
  obtain ⟨c2, r2, m2, q1, q2, q3, q4, kP, hkP, hkPi⟩ := Cond.selects_spec hs0
  have e1 : s.vm.findClass y.cls = some mk.cls := findClass_of_methodNamed hnamed
  have e2 : s.vm.findClass yASBsel.cls = some m2.cls := findClass_of_methodNamed q3
  have e3 : mk.cls = m2.cls := Option.some.inj (e1.symm.trans ((by rw [hy] : s.vm.findClass y.cls = s.vm.findClass yASBsel.cls).trans e2))
  simp only [Cond.before, Cond.holds, Cond.value, hc, hfound, hnamed, hsel, e3, hkP]
  simp
  exact hkPi
def zPrv : List MethodName := [{ cls := "java/lang/AbstractStringBuilder", name := "ensureCapacityInternal", desc := "(I)V" }, { cls := "java/lang/AbstractStringBuilder", name := "newCapacity", desc := "(I)I" }, { cls := "java/lang/AbstractStringBuilder", name := "putStringAt", desc := "(ILjava/lang/String;)V" }, { cls := "java/lang/AbstractStringBuilder", name := "inflateIfNeededFor", desc := "(Ljava/lang/String;)V" }]
/-- the private ones of AbstractStringBuilder, on a StringBuilder -/
abbrev zT3 (X : (Nat → Prop) → State → Prop) : Prop := ∀ A s, X A s → ∀ y ∈ zPrv, va_Nw (Cond.selects "java/lang/StringBuilder" y y) s
section ZSB
variable {p : Program} {l : Launch} {e : Env} {s : State} {m : MethodId} {args : Array Value} {below : List Frame} {meth : Method} {c : Code} {cells slots : Nat} {Q : State → Prop}
variable {G : zG} {X : (Nat → Prop) → State → Prop} {A : Nat → Prop} {nL : Nat} {L : List Nat} {f : Nat → va_E} {cc : ByteArray} {own : String} {pc : Nat} {ls : List (Nat × Value)} {ret : Option FieldType}
variable {k0 mc0 ms0 : Nat}
/-- a call on a StringBuilder of a method that its superclass has -/
theorem z_cVS {ρ : Type} {en : ρ → Option Value} {R1 : ρ → List Nat → (Nat → va_E) → Prop} {k1 mc ms n idx b maxL : Nat} {y : MethodName} {bytes : ByteArray} {ret1 : Option FieldType} {As rest st0 : List Value} {fs : List Value}
    (C : ZC G X p l s m args meth c A nL ret cc own) (hsel : (Cond.selects "java/lang/StringBuilder" y y).before args s = true) (c1 : Cond.code y bytes maxL ret1 ∈ lw_tbl) (c2 : Cond.instanceMethod y ∈ lw_tbl) (c4 : Cond.initialized y.cls ∈ lw_tbl) (c5 : y.cls ≠ "java/lang/invoke/MethodHandle" ∧ y.cls ≠ "java/lang/invoke/VarHandle" ∧ (parseMethodDescriptor y.desc).map (fun d => d.parameters.length) = some n) (c8 : maxL ≤ 41)
    (hM : zM l G X y (.code y bytes maxL ret1 :: zT) k1 mc ms (.ref b :: As) L f en R1) (hlk : Cond.methodLink own idx y ∈ lw_tbl) (hk : k1 + 1 ≤ k0) (hmc : cells + mc ≤ mc0) (hms : slots + ms ≤ ms0) (hb : zOb L f b 1 fs) (hn : As.length = n) (hst : st0 = As.reverse ++ .ref b :: rest) (hcat : (rest.map fun v => v.category).sum ≤ 8) (hd : decode cc pc = .ok (.invokevirtual idx, 3))
    (K : ∀ (z : ρ) (L' : List Nat) (f' : Nat → va_E), R1 z L' f' → ZW G p l e (zRm k0 mc0 ms0) s m args below meth c A nL (cells + mc) (slots + ms) Q L' f' (pc + 3) ls ((en z).toList ++ rest)) : ZW G p l e (zRm k0 mc0 ms0) s m args below meth c A nL cells slots Q L f pc ls st0 := by
  refine z_call (a := (Value.ref b :: As).toArray) C (fun H locs la hP hD hS hl => ?_) K
  obtain ⟨q, hq⟩ := va_pl_get (X := []) (f := f) hb.1
  have hq : (va_pl L f)[q]? = some (b, .inr (1, fs)) := by rw [← hb.2]; exact hq
  have hrecv := va_recv C.2.2.2.2.2.1 hP (ci := 1) (q := (RJ4, TJ4, 4)) rfl hq
  obtain ⟨pf, pu⟩ := z_pre C hP hD hS (.ref b :: As)
  exact va_runV (As := As) (rest := rest) ⟨C.1, C.2.1, C.2.2.1, C.2.2.2.1, C.2.2.2.2.1⟩ (hM H.size) ⟨callB_of n C.2.2.2.2.1 (zGood c1 rfl) rfl rfl rfl (C.w c4 rfl) (C.w hlk rfl) c5 (z_rm hk c8 mc ms), C.w c2 rfl, hsel⟩ ⟨pf, hrecv, pu⟩ rfl hn hl.1 hst (lv_room hcat) hd ⟨hmc, hms⟩
/-- super.m(..) in StringBuilder -/
theorem z_cSU {ρ : Type} {en : ρ → Option Value} {R1 : ρ → List Nat → (Nat → va_E) → Prop} {k1 mc ms n idx b maxL : Nat} {y : MethodName} {bytes : ByteArray} {ret1 : Option FieldType} {As rest st0 : List Value} {fs : List Value}
    (C : ZC G X p l s m args meth c A nL ret cc own) (c1 : Cond.code y bytes maxL ret1 ∈ lw_tbl) (c2 : Cond.instanceMethod y ∈ lw_tbl) (c3 : Cond.sameMethod y.cls y.cls y.name y.desc ∈ lw_tbl) (c6 : Cond.superclass own y.cls ∈ lw_tbl) (c4 : Cond.initialized y.cls ∈ lw_tbl) (c5 : y.name ≠ "<init>" ∧ (parseMethodDescriptor y.desc).map (fun d => d.parameters.length) = some n) (c8 : maxL ≤ 41)
    (hM : zM l G X y (.code y bytes maxL ret1 :: zT) k1 mc ms (.ref b :: As) L f en R1) (hlk : Cond.methodLink own idx y ∈ lw_tbl) (hk : k1 + 1 ≤ k0) (hmc : cells + mc ≤ mc0) (hms : slots + ms ≤ ms0) (hb : zOb L f b 1 fs) (hn : As.length = n) (hst : st0 = As.reverse ++ .ref b :: rest) (hcat : (rest.map fun v => v.category).sum ≤ 8) (hd : decode cc pc = .ok (.invokespecial idx, 3))
    (K : ∀ (z : ρ) (L' : List Nat) (f' : Nat → va_E), R1 z L' f' → ZW G p l e (zRm k0 mc0 ms0) s m args below meth c A nL (cells + mc) (slots + ms) Q L' f' (pc + 3) ls ((en z).toList ++ rest)) : ZW G p l e (zRm k0 mc0 ms0) s m args below meth c A nL cells slots Q L f pc ls st0 := by
  refine z_call (a := (Value.ref b :: As).toArray) C (fun H locs la hP hD hS hl => ?_) K
  have hG : GoodIn zT (va_wsSU own idx y (.code y bytes maxL ret1 :: zT)) := by
    intro w hw
    rcases List.mem_append.mp hw with hw | hw
    · rcases List.mem_cons.mp hw with rfl | hw
      · exact ⟨zT_of hlk rfl, good_of_word rfl⟩
      rcases List.mem_cons.mp hw with rfl | hw
      · exact ⟨zT_of c3 rfl, good_of_word rfl⟩
      rcases List.mem_cons.mp hw with rfl | hw
      · exact ⟨zT_of c6 rfl, good_of_word rfl⟩
      rcases List.mem_cons.mp hw with rfl | hw
      · exact ⟨zT_of c2 rfl, good_of_word rfl⟩
      rcases List.mem_cons.mp hw with rfl | hw
      · exact ⟨zT_of c4 rfl, good_of_word rfl⟩
      · cases hw
    · exact zGood c1 rfl w hw
  obtain ⟨q, hq⟩ := va_pl_get (X := []) (f := f) hb.1
  have hq : (va_pl L f)[q]? = some (b, .inr (1, fs)) := by rw [← hb.2]; exact hq
  have hrecv := va_recv C.2.2.2.2.2.1 hP (ci := 1) (q := (RJ4, TJ4, 4)) rfl hq
  obtain ⟨pf, pu⟩ := z_pre C hP hD hS (.ref b :: As)
  exact va_runSU (As := As) (rest := rest) ((C.2.2.2.2.2.1.1 1 (RJ4, TJ4, 4) rfl).2) ⟨C.1, C.2.1, C.2.2.1, C.2.2.2.1, C.2.2.2.2.1⟩ (hM H.size) (va_cwSU n C.2.2.2.2.1 hG rfl rfl rfl c5 (z_rm hk c8 mc ms)) ⟨pf, hrecv, pu⟩ rfl hn hl.1 hst (lv_room hcat) hd ⟨hmc, hms⟩
variable {R : Room} {st : List Value}
theorem z_i2b (C : ZC G X p l s m args meth c A nL ret cc own) {x : Int} (hx : 0 ≤ x ∧ x < 128) (hd : decode cc pc = .ok (.i2b, 1)) (K : ZW G p l e R s m args below meth c A nL cells slots Q L f (pc + 1) ls (.int (iI x) :: st)) : ZW G p l e R s m args below meth c A nL cells slots Q L f pc ls (.int (iI x) :: st) :=
  fun H locs la hP hD hS hl => lv_i2b (v := iI x) C.1 C.2.1 hd (by
    apply Int32.toInt_inj.mp
    rw [Int8.toInt_toInt32, Int32.toInt_toInt8, iI_toInt ⟨by omega, by omega⟩]
    exact Int.bmod_eq_of_le (by omega) (by omega)) (K H locs la hP hD hS hl)
theorem z_ishl0 (C : ZC G X p l s m args meth c A nL ret cc own) {x : Int32} (hd : decode cc pc = .ok (.ishl, 1)) (K : ZW G p l e R s m args below meth c A nL cells slots Q L f (pc + 1) ls (.int x :: st)) : ZW G p l e R s m args below meth c A nL cells slots Q L f pc ls (.int (iI 0) :: .int x :: st) :=
  fun H locs la hP hD hS hl => lv_ishl C.1 C.2.1 hd (by rw [show iI 0 &&& 31 = 0 by decide, show x <<< (0 : Int32) = x by simp]; exact K H locs la hP hD hS hl)
theorem z_nar8 {x : Int} (h : 0 ≤ x ∧ x < 128) : vp_nar .byte (iI x) = iI x := by
  have e1 : (iI x).toInt8.toInt32 = iI x := by
    apply Int32.toInt_inj.mp
    rw [Int8.toInt_toInt32, Int32.toInt_toInt8, iI_toInt ⟨by omega, by omega⟩]
    exact Int.bmod_eq_of_le (by omega) (by omega)
  exact e1
end ZSB
theorem z_fit8 {x : Int} (h : 0 ≤ x ∧ x < 128) : fits .byte (.int (iI x)) = true := by
  have e := iI_toInt (z := x) ⟨by omega, by omega⟩
  show (decide ((-128 : Int32) ≤ iI x) && decide (iI x ≤ 127)) = true
  have h1 : (-128 : Int32) ≤ iI x := by rw [Int32.le_iff_toInt_le, e]; show (-128 : Int) ≤ x; omega
  have h2 : iI x ≤ (127 : Int32) := by rw [Int32.le_iff_toInt_le, e]; show x ≤ (127 : Int); omega
  rw [decide_eq_true h1, decide_eq_true h2]; rfl
theorem iI_nneg {z : Int} (h : 0 ≤ z ∧ z < 2147483648) : ¬ iI z < 0 := fun q => by
  have := (iI_lt (a := z) (b := 0) ⟨by omega, by omega⟩ ⟨by omega, by omega⟩).mp q
  omega
/-- the first n of a row, zeros behind or what was there -/
def zcpy (σ τ : Int → Int) (d n : Int) : Int → Int := fun j => if d ≤ j ∧ j < d + n then σ (j - d) else τ j
section ZCPY
variable {p : Program} {l : Launch} {e : Env} {s : State} {m : MethodId} {args : Array Value} {below : List Frame} {meth : Method} {c : Code} {cells slots : Nat} {Q : State → Prop}
variable {G : zG} {X : (Nat → Prop) → State → Prop} {A : Nat → Prop} {nL : Nat} {L : List Nat} {f : Nat → va_E} {cc : ByteArray} {own : String} {pc : Nat} {ls : List (Nat × Value)} {ret : Option FieldType} {st : List Value}
variable {k0 mc0 ms0 : Nat}
theorem z_copyB (C : ZC G X p l s m args meth c A nL ret cc own) {a0 a n0 n1 idx : Nat} {n : Int} {σ τ : Int → Int} (h0 : zA G 3 L f a0 n0 σ) (h1 : zA G 3 L f a n1 τ) (hlk : Cond.methodLink own idx arraycopyName ∈ lw_tbl) (hn : 0 ≤ n ∧ n ≤ n0 ∧ n ≤ n1 ∧ n < 1000) (hfit : ∀ j, 0 ≤ j → j < n → 0 ≤ σ j ∧ σ j < 128) (hk : 2 ≤ k0) (hcat : (st.map fun v => v.category).sum ≤ 8) (hd : decode cc pc = .ok (.invokestatic idx, 3))
    (K : ∀ f', zA G 3 L f' a n1 (zcpy σ τ 0 n) → (∀ b, b ≠ a → f' b = f b) → ZW G p l e (zRm k0 mc0 ms0) s m args below meth c A nL cells slots Q L f' (pc + 3) ls st) : ZW G p l e (zRm k0 mc0 ms0) s m args below meth c A nL cells slots Q L f pc ls (.int (iI n) :: .int (iI 0) :: .ref a :: .int (iI 0) :: .ref a0 :: st) := by
  intro H locs la hP hD hS hl
  obtain ⟨ha0, φ, hf0, hφ⟩ := h0
  obtain ⟨ha1, ψ, hf1, hψ⟩ := h1
  obtain ⟨q0, hq0⟩ := va_pl_get (X := []) (f := f) ha0
  have hq0' : (va_pl L f)[q0]? = some (a0, .inl (G.2 3, n0, .inl φ)) := by rw [← hf0]; exact hq0
  obtain ⟨q1, hq1⟩ := va_pl_get (X := []) (f := f) ha1
  have hq1' : (va_pl L f)[q1]? = some (a, .inl (G.2 3, n1, .inl ψ)) := by rw [← hf1]; exact hq1
  have hc0 : (iI 0).toNatClampNeg = 0 := iI_clamp (by omega) (by omega)
  have hcn : (iI n).toNatClampNeg = n.toNat := iI_clamp hn.1 (by omega)
  refine va_copyi C.1 C.2.1 (C.2.2.1.trans hl.1.symm) C.2.2.2.1 (C.w hlk rfl) (C.w zl_5_83 rfl) (C.w zl_5_82 rfl) (C.w zl_1_27 rfl) C.2.2.2.2.2.1 hP hD hS q0 q1 3 3 hq0' hq1' (ty := .byte) rfl rfl rfl (iI_nneg ⟨by omega, by omega⟩) (iI_nneg ⟨by omega, by omega⟩) (iI_nneg ⟨hn.1, by omega⟩) (by rw [hc0, hcn]; omega) (by rw [hc0, hcn]; omega) (fun i hi => ?_) (Nat.le_trans (by decide) hk) ?_ hd (fun H1 locs1 hP1 hD1 hS1 => ?_)
  · rw [hcn] at hi
    rw [hc0, hφ (0 + i) (by omega)]
    exact z_fit8 (hfit _ (by omega) (by omega))
  · have hw : nativeFrameWords "java/lang/System" "arraycopy" 5 + 11 ≤ 100 := by decide +kernel
    show _ ≤ 60 * k0
    omega
  · rw [zpl_set hD ha1 hq1] at hP1 hD1
    refine K _ ⟨ha1, _, va_up_self _ _ _, fun j hj => ?_⟩ (fun b hb => va_up_ne _ _ hb) H1 locs1 la hP1 hD1 hS1 hl
    rw [hc0, hcn]
    unfold va_cpy zcpy
    by_cases h : j < n.toNat
    · rw [if_pos ⟨Nat.zero_le _, by omega⟩, if_pos ⟨by omega, by omega⟩, hφ _ (by omega)]
      congr 2
      omega
    · rw [if_neg (by omega), if_neg (by omega), hψ _ hj]
theorem z_copyS (C : ZC G X p l s m args meth c A nL ret cc own) {v a n1 idx : Nat} {d : Int} {t : List Int} {τ : Int → Int} (h0 : va_T .byte v t.length (fun j => .int (iI (t.getD j 0))) A s s.heap) (h1 : zA G 3 L f a n1 τ) (hlk : Cond.methodLink own idx arraycopyName ∈ lw_tbl) (hn : 0 ≤ d ∧ d + t.length ≤ n1 ∧ (n1 : Int) < 1000) (hfit : zgood t) (hk : 2 ≤ k0) (hcat : (st.map fun v => v.category).sum ≤ 8) (hd : decode cc pc = .ok (.invokestatic idx, 3))
    (K : ∀ f', zA G 3 L f' a n1 (zcpy (fun j => t.getD j.toNat 0) τ d t.length) → (∀ b, b ≠ a → f' b = f b) → ZW G p l e (zRm k0 mc0 ms0) s m args below meth c A nL cells slots Q L f' (pc + 3) ls st) : ZW G p l e (zRm k0 mc0 ms0) s m args below meth c A nL cells slots Q L f pc ls (.int (iI (t.length : Int)) :: .int (iI d) :: .ref a :: .int (iI 0) :: .ref v :: st) := by
  intro H locs la hP hD hS hl
  obtain ⟨ha1, ψ, hf1, hψ⟩ := h1
  obtain ⟨q1, hq1⟩ := va_pl_get (X := []) (f := f) ha1
  have hq1' : (va_pl L f)[q1]? = some (a, .inl (G.2 3, n1, .inl ψ)) := by rw [← hf1]; exact hq1
  have hc0 : (iI 0).toNatClampNeg = 0 := iI_clamp (by omega) (by omega)
  have hcd : (iI d).toNatClampNeg = d.toNat := iI_clamp hn.1 (by omega)
  have hcn : (iI (t.length : Int)).toNatClampNeg = t.length := by rw [iI_clamp (by omega) (by omega)]; omega
  refine vk_copyt C.1 C.2.1 (C.2.2.1.trans hl.1.symm) C.2.2.2.1 (C.w hlk rfl) (C.w zl_5_83 rfl) (C.w zl_5_82 rfl) (C.w zl_1_27 rfl) C.2.2.2.2.2.1 hP hD hS h0 q1 3 hq1' rfl (iI_nneg ⟨by omega, by omega⟩) (iI_nneg ⟨hn.1, by omega⟩) (iI_nneg ⟨by omega, by omega⟩) (by rw [hc0, hcn]; omega) (by rw [hcd, hcn]; omega) (fun i hi => ?_) (Nat.le_trans (by decide) hk) ?_ hd (fun H1 locs1 hP1 hD1 hS1 => ?_)
  · exact z_fit8 (hfit _)
  · have hw : nativeFrameWords "java/lang/System" "arraycopy" 5 + 11 ≤ 100 := by decide +kernel
    show _ ≤ 60 * k0
    omega
  · rw [zpl_set hD ha1 hq1] at hP1 hD1
    refine K _ ⟨ha1, _, va_up_self _ _ _, fun j hj => ?_⟩ (fun b hb => va_up_ne _ _ hb) H1 locs1 la hP1 hD1 hS1 hl
    rw [hc0, hcd, hcn]
    unfold va_cpy zcpy
    by_cases h : d.toNat ≤ j ∧ j < d.toNat + t.length
    · rw [if_pos h, if_pos ⟨by omega, by omega⟩]
      congr 2
      omega
    · rw [if_neg h, if_neg (by omega), hψ _ hj]
end ZCPY
/-- a StringBuilder at w, its bytes at b, m of them: the text t -/
def zSb (G : zG) (L : List Nat) (f : Nat → va_E) (w b m : Nat) (t : List Int) : Prop := ∃ (x : Int) (τ : Int → Int), zOb L f w 1 [.ref b, .int (iI 0), .int (iI x), .int (iI (t.length : Int))] ∧ zA G 3 L f b m τ ∧ (m = 16 ∨ m = 34) ∧ t.length ≤ m ∧ (∀ j : Int, 0 ≤ j → j < t.length → τ j = t.getD j.toNat 0) ∧ (∀ j : Int, 0 ≤ j → j < m → 0 ≤ τ j ∧ τ j < 128) ∧ (x = 0 ∨ x = 1)
/-- what an appending leaves: all but the builder and its bytes; the new bytes are its old ones or new -/
def zSbP (L : List Nat) (f : Nat → va_E) (w b : Nat) (L' : List Nat) (f' : Nat → va_E) (b' : Nat) : Prop := (b' = b ∨ b' ∉ L) ∧ ∀ c ∈ L, c ∈ L' ∧ (c ≠ w → c ≠ b → f' c = f c)
theorem zSbP_r (L : List Nat) (f : Nat → va_E) (w b : Nat) : zSbP L f w b L f b := ⟨Or.inl rfl, fun _ h => ⟨h, fun _ _ => rfl⟩⟩
theorem zSbP_t {L L1 L2 : List Nat} {f f1 f2 : Nat → va_E} {w b b1 b2 : Nat} (h : zSbP L f w b L1 f1 b1) (h2 : zSbP L1 f1 w b1 L2 f2 b2) : zSbP L f w b L2 f2 b2 := by
  refine ⟨?_, fun c hc => ?_⟩
  · rcases h2.1 with q | q
    · rw [q]; exact h.1
    · exact Or.inr (fun z => q (h.2 _ z).1)
  · obtain ⟨q1, q2⟩ := h.2 c hc
    obtain ⟨q3, q4⟩ := h2.2 c q1
    refine ⟨q3, fun w1 w2 => (q4 w1 (fun z => ?_)).trans (q2 w1 w2)⟩
    rcases h.1 with r | r
    · exact w2 (z.trans r)
    · exact r (z ▸ hc)
/-- the builder's own cells written -/
theorem zSbP_o {L L1 : List Nat} {f f1 f2 : Nat → va_E} {w b b1 : Nat} (h : zSbP L f w b L1 f1 b1) (hk : ∀ c, c ≠ w → f2 c = f1 c) : zSbP L f w b L1 f2 b1 := ⟨h.1, fun c hc => ⟨(h.2 c hc).1, fun q1 q2 => (hk c q1).trans ((h.2 c hc).2 q1 q2)⟩⟩
theorem zSbP_a {L L1 : List Nat} {f f1 f2 : Nat → va_E} {w b b1 : Nat} (h : zSbP L f w b L1 f1 b1) (hk : ∀ c, c ≠ b1 → f2 c = f1 c) : zSbP L f w b L1 f2 b1 := ⟨h.1, fun c hc => ⟨(h.2 c hc).1, fun q1 q2 => (hk c (fun z => by rcases h.1 with r | r; exact q2 (z.trans r); exact r (z ▸ hc))).trans ((h.2 c hc).2 q1 q2)⟩⟩
theorem zSbP_e {L L1 : List Nat} {f f1 : Nat → va_E} {w b b1 : Nat} (h : zExt L f L1 f1) (hb : b1 ∉ L) : zSbP L f w b L1 f1 b1 := ⟨Or.inr hb, fun c hc => ⟨(h c hc).1, fun _ _ => (h c hc).2⟩⟩
theorem zgetD_app {t s : List Int} {j : Int} (h0 : 0 ≤ j) (h : j < t.length) : (t ++ s).getD j.toNat 0 = t.getD j.toNat 0 := by
  rw [List.getD_eq_getElem?_getD, List.getD_eq_getElem?_getD, List.getElem?_append_left (by omega)]
theorem zgetD_app2 {t s : List Int} {j : Int} (h0 : (t.length : Int) ≤ j) : (t ++ s).getD j.toNat 0 = s.getD (j - t.length).toNat 0 := by
  rw [List.getD_eq_getElem?_getD, List.getD_eq_getElem?_getD, List.getElem?_append_right (by omega), show j.toNat - t.length = (j - (t.length : Int)).toNat by omega]
/-- letters appended -/
theorem zSb_of {G : zG} {L : List Nat} {f : Nat → va_E} {w b m : Nat} {t s : List Int} {x : Int} {τ τ' : Int → Int} {n : Int} (ho : zOb L f w 1 [.ref b, .int (iI 0), .int (iI x), .int (iI n)]) (ha : zA G 3 L f b m τ') (hm : m = 16 ∨ m = 34) (hn : n = t.length + s.length) (hlt : n ≤ m) (h1 : ∀ j : Int, 0 ≤ j → j < t.length → τ j = t.getD j.toNat 0) (hb : ∀ j : Int, 0 ≤ j → j < m → 0 ≤ τ j ∧ τ j < 128) (hx : x = 0 ∨ x = 1) (hg : zgood s) (h2 : ∀ j : Int, 0 ≤ j → j < m → τ' j = if t.length ≤ j ∧ j < n then s.getD (j - t.length).toNat 0 else τ j) : zSb G L f w b m (t ++ s) := by
  have hl : ((t ++ s).length : Int) = n := by rw [List.length_append, hn]; omega
  refine ⟨x, τ', by rw [hl]; exact ho, ha, hm, by omega, fun j q0 q1 => ?_, fun j q0 q1 => ?_, hx⟩
  · rw [h2 j q0 (by omega)]
    by_cases q : (t.length : Int) ≤ j
    · rw [if_pos (by omega), zgetD_app2 q]
    · rw [if_neg (by omega), zgetD_app q0 (by omega), h1 j q0 (by omega)]
  · rw [h2 j q0 q1]
    split
    · exact hg _
    · exact hb j q0 q1
section ZRETA
variable {p : Program} {l : Launch} {e : Env} {R : Room} {s : State} {m : MethodId} {args : Array Value} {below : List Frame} {meth : Method} {c : Code} {cells slots : Nat} {Q : State → Prop}
variable {G : zG} {X : (Nat → Prop) → State → Prop} {A : Nat → Prop} {nL : Nat} {L : List Nat} {f : Nat → va_E} {cc : ByteArray} {own : String} {pc : Nat} {ls : List (Nat × Value)} {st : List Value}
theorem z_qreturnA {ty : FieldType} (C : ZC G X p l s m args meth c A nL (some (.array ty)) cc own) {R0 : Option Nat → List Nat → (Nat → va_E) → Prop} {r : Option Nat} {mc ms : Nat} (hd : decode cc pc = .ok (.areturn, 1)) (hc : cells ≤ mc) (hs : slots ≤ ms) (hR : R0 r L f) : ZW G p l e R s m args below meth c A nL cells slots (MQ below (zQ G zeQ R0 A) args s mc ms A) L f pc ls [va_rf r] :=
  fun H locs la hP hD hS hl => W.widen hc hs (W.aret C.1 C.2.1 C.2.2.2.2.2.2.2.2.1 (Or.inr ⟨_, rfl⟩) (by cases r <;> first | exact Or.inl rfl | exact Or.inr ⟨_, rfl⟩) (fun t ht hW => ⟨⟨r, L, f, rfl, hR, by rw [ht]; exact hP, va_K.moved hW.alike C.2.2.2.2.2.1, hD⟩, hS.F ht⟩) hS.2.2 hd C.2.2.2.2.2.2.2.1)
end ZRETA
theorem zdig_w1 {n e v : Int} (h : n ≤ 9) (hv : v = 48 + n) (τ : Int → Int) (j : Int) : zup τ (e + (-1)) v j = zcpy (fun j => (zdig n).getD j.toNat 0) τ (e - (zdig n).length) (zdig n).length j := by
  have e1 : zdig n = [48 + n] := if_pos h
  have e2 : ((zdig n).length : Int) = 1 := by rw [e1]; rfl
  unfold zup zcpy
  rw [e2]
  by_cases q : j = e + (-1)
  · rw [if_pos q, if_pos (by omega), e1]; show v = [48 + n].getD (j - (e - 1)).toNat 0; rw [show (j - (e - 1)).toNat = 0 by omega, hv]; rfl
  · rw [if_neg q, if_neg (by omega)]
theorem zdig_w2 {n e v w : Int} (h : 9 < n) (hv : v = 48 + n % 10) (hw : w = 48 + n / 10) (τ : Int → Int) (j : Int) : zup (zup τ (e + (-1)) v) (e + (-1) + (-1)) w j = zcpy (fun j => (zdig n).getD j.toNat 0) τ (e - (zdig n).length) (zdig n).length j := by
  have e1 : zdig n = [48 + n / 10, 48 + n % 10] := if_neg (by omega)
  have e2 : ((zdig n).length : Int) = 2 := by rw [e1]; rfl
  unfold zup zcpy
  rw [e2]
  by_cases q2 : j = e + (-1) + (-1)
  · rw [if_pos q2, if_pos (by omega), e1]; show w = [48 + n / 10, 48 + n % 10].getD (j - (e - 2)).toNat 0; rw [show (j - (e - 2)).toNat = 0 by omega, hw]; rfl
  · rw [if_neg q2]
    by_cases q : j = e + (-1)
    · rw [if_pos q, if_pos (by omega), e1]; show v = [48 + n / 10, 48 + n % 10].getD (j - (e - 2)).toNat 0; rw [show (j - (e - 2)).toNat = 1 by omega, hv]; rfl
    · rw [if_neg q, if_neg (by omega)]
