/-! ===== what stands outside: the JDK's numbers, the texts ===== -/
def zTexts : List (String × Nat × String × List Int) := [("SwathSurveyModel", 220, " good", [32, 103, 111, 111, 100]), ("SwathSurveyModel", 222, " bad", [32, 98, 97, 100]), ("SwathSurveyModel", 224, " part", [32, 112, 97, 114, 116]), ("SwathSurvey$Line", 146, "good", [103, 111, 111, 100]), ("SwathSurvey$Line", 151, "bad", [98, 97, 100]), ("SwathSurvey$Line", 153, "part", [112, 97, 114, 116])]
/-- a String of these letters, its row at v -/
def zSt (a v : Nat) (t : List Int) (A : Nat → Prop) (s : State) : Prop := va_O "java/lang/String" a A s s.heap ∧ va_OF "java/lang/String" "coder" "B" (.int (iI 0)) a A s s.heap ∧ va_OF "java/lang/String" "value" "[B" (.ref v) a A s s.heap ∧ va_T .byte v t.length (fun j => .int (iI (t.getD j 0))) A s s.heap
def zE1 (ax : Nat → Nat × Nat) (A : Nat → Prop) (s : State) : Prop :=
  (∀ i q, zTexts[i]? = some q → vk_R q.1 q.2.1 q.2.2.1 (ax i).1 s ∧ zSt (ax i).1 (ax i).2 q.2.2.2 A s) ∧
  va_Z "java/lang/String" "COMPACT_STRINGS" "Z" (.int (iI 1)) A s s.heap ∧
  va_Zq "jdk/internal/util/Preconditions" "SIOOBE_FORMATTER" "Ljava/util/function/BiFunction;" A s s.heap ∧
  (va_Z "java/lang/Integer" "DigitOnes" "[B" (.ref (ax 100).1) A s s.heap ∧ va_T .byte (ax 100).1 100 (fun j => .int (iI (48 + (j : Int) % 10))) A s s.heap) ∧
  (va_Z "java/lang/Integer" "DigitTens" "[B" (.ref (ax 101).1) A s s.heap ∧ va_T .byte (ax 101).1 100 (fun j => .int (iI (48 + (j : Int) / 10))) A s s.heap)
abbrev zT1 (X : (Nat → Prop) → State → Prop) (ax : Nat → Nat × Nat) : Prop := ∀ A s, X A s → zE1 ax A s
theorem iI_ands : ∀ n : Fin 256, iI (n.val : Int) &&& iI 255 = iI (n.val : Int) := by decide +kernel
theorem iI_and {z : Int} (h : 0 ≤ z ∧ z < 256) : iI z &&& iI 255 = iI z := by
  have q := iI_ands ⟨z.toNat, by omega⟩
  rw [show ((⟨z.toNat, by omega⟩ : Fin 256).val : Int) = z from Int.toNat_of_nonneg h.1] at q
  exact q
section ZOUT
variable {p : Program} {l : Launch} {e : Env} {R : Room} {s : State} {m : MethodId} {args : Array Value} {below : List Frame} {meth : Method} {c : Code} {cells slots : Nat} {Q : State → Prop}
variable {G : zG} {X : (Nat → Prop) → State → Prop} {A : Nat → Prop} {nL : Nat} {L : List Nat} {f : Nat → va_E} {cc : ByteArray} {own : String} {pc : Nat} {ls : List (Nat × Value)} {st : List Value} {ret : Option FieldType} {ax : Nat → Nat × Nat}
theorem ZC.x (C : ZC G X p l s m args meth c A nL ret cc own) : X A s := C.2.2.2.2.2.2.2.2.2.1
theorem z_gets (C : ZC G X p l s m args meth c A nL ret cc own) {n d ref : String} {v : Value} {index : Nat} (hZ : va_Z ref n d v A s s.heap) (hlink : Cond.fieldLink own index ref n d ∈ lw_tbl) (hd : decode cc pc = .ok (.getstatic index, 3)) (K : ZW G p l e R s m args below meth c A nL cells slots Q L f (pc + 3) ls (v :: st)) : ZW G p l e R s m args below meth c A nL cells slots Q L f pc ls st :=
  fun H locs la hP hD hS hl => va_gets C.1 C.2.1 hZ hS C.2.2.2.1 (C.w hlink rfl) (fun x h => h) hd (K H locs la hP hD hS hl)
theorem z_getsq (C : ZC G X p l s m args meth c A nL ret cc own) {n d ref : String} {index : Nat} (hZ : va_Zq ref n d A s s.heap) (hlink : Cond.fieldLink own index ref n d ∈ lw_tbl) (hd : decode cc pc = .ok (.getstatic index, 3)) (K : ∀ r : Option Nat, ZW G p l e R s m args below meth c A nL cells slots Q L f (pc + 3) ls (va_rf r :: st)) : ZW G p l e R s m args below meth c A nL cells slots Q L f pc ls st := by
  rcases hZ with h | ⟨t, h⟩
  · exact z_gets C h hlink hd (K none)
  · exact z_gets C h hlink hd (K (some t))
theorem z_sget (C : ZC G X p l s m args meth c A nL ret cc own) {n d ref : String} {v : Value} {index q : Nat} (hE : va_OF ref n d v q A s s.heap) (hlink : Cond.fieldLink own index ref n d ∈ lw_tbl) (hd : decode cc pc = .ok (.getfield index, 3)) (K : ZW G p l e R s m args below meth c A nL cells slots Q L f (pc + 3) ls (v :: st)) : ZW G p l e R s m args below meth c A nL cells slots Q L f pc ls (.ref q :: st) :=
  fun H locs la hP hD hS hl => vk_getf C.1 C.2.1 hE hS C.2.2.2.1 (C.w hlink rfl) (fun x h => h) hd (K H locs la hP hD hS hl)
theorem z_tlen (C : ZC G X p l s m args meth c A nL ret cc own) {ty : FieldType} {t N : Nat} {φ : Nat → Value} (hT : va_T ty t N φ A s s.heap) (hd : decode cc pc = .ok (.arraylength, 1)) (K : ZW G p l e R s m args below meth c A nL cells slots Q L f (pc + 1) ls (.int (iI (N : Int)) :: st)) : ZW G p l e R s m args below meth c A nL cells slots Q L f pc ls (.ref t :: st) :=
  fun H locs la hP hD hS hl => va_tlen C.1 C.2.1 hT hS (iI_nat N) hd (K H locs la hP hD hS hl)
theorem z_tb (C : ZC G X p l s m args meth c A nL ret cc own) {t N : Nat} {φ : Nat → Value} {i x : Int} (hT : va_T .byte t N φ A s s.heap) (hn : N < 2147483648) (h0 : 0 ≤ i) (h1 : i < N) (hx : φ i.toNat = .int (iI x)) (hd : decode cc pc = .ok (.baload, 1)) (K : ZW G p l e R s m args below meth c A nL cells slots Q L f (pc + 1) ls (.int (iI x) :: st)) : ZW G p l e R s m args below meth c A nL cells slots Q L f pc ls (.int (iI i) :: .ref t :: st) :=
  fun H locs la hP hD hS hl => va_tb C.1 C.2.1 hT hS (iI_in hn h0 h1) (by rw [iI_clamp h0 (by omega)]; exact hx) hd (K H locs la hP hD hS hl)
theorem z_ishr0 (C : ZC G X p l s m args meth c A nL ret cc own) {x : Int32} (hd : decode cc pc = .ok (.ishr, 1)) (K : ZW G p l e R s m args below meth c A nL cells slots Q L f (pc + 1) ls (.int x :: st)) : ZW G p l e R s m args below meth c A nL cells slots Q L f pc ls (.int (iI 0) :: .int x :: st) :=
  fun H locs la hP hD hS hl => lv_ishr C.1 C.2.1 hd (by rw [show iI 0 &&& 31 = 0 by decide, show x >>> (0 : Int32) = x by simp]; exact K H locs la hP hD hS hl)
theorem z_iand8 (C : ZC G X p l s m args meth c A nL ret cc own) {x : Int} (hx : 0 ≤ x ∧ x < 256) (hd : decode cc pc = .ok (.iand, 1)) (K : ZW G p l e R s m args below meth c A nL cells slots Q L f (pc + 1) ls (.int (iI x) :: st)) : ZW G p l e R s m args below meth c A nL cells slots Q L f pc ls (.int (iI 255) :: .int (iI x) :: st) :=
  fun H locs la hP hD hS hl => lv_iand C.1 C.2.1 hd (by rw [iI_and hx]; exact K H locs la hP hD hS hl)
theorem z_b0return (C : ZC G X p l s m args meth c A nL (some .byte) cc own) {R0 : Int → List Nat → (Nat → va_E) → Prop} {mc ms : Nat} (hd : decode cc pc = .ok (.ireturn, 1)) (hc : cells ≤ mc) (hs : slots ≤ ms) (hR : R0 0 L f) : ZW G p l e R s m args below meth c A nL cells slots (MQ below (zQ G zeI R0 A) args s mc ms A) L f pc ls [.int (iI 0)] :=
  fun H locs la hP hD hS hl => W.widen hc hs (W.zret C.1 C.2.1 C.2.2.2.2.2.2.2.2.1 rfl (fun t ht hW => ⟨⟨0, L, f, rfl, hR, by rw [ht]; exact hP, va_K.moved hW.alike C.2.2.2.2.2.1, hD⟩, hS.F ht⟩) hS.2.2 hd C.2.2.2.2.2.2.2.1)
theorem z_ldcS (C : ZC G X p l s m args meth c A nL ret cc own) {tx : String} {index q : Nat} (hZ : vk_R own index tx q s) (hd : decode cc pc = .ok (.ldc index, 2)) (K : ZW G p l e R s m args below meth c A nL cells slots Q L f (pc + 2) ls (.ref q :: st)) : ZW G p l e R s m args below meth c A nL cells slots Q L f pc ls st :=
  fun H locs la hP hD hS hl => va_ldcS C.1 C.2.1 C.2.2.2.1 hZ hd (K H locs la hP hD hS hl)
/-- a call of a method of an object that stands outside -/
theorem z_cVO {k0 mc0 ms0 : Nat} {ρ : Type} {en : ρ → Option Value} {R1 : ρ → List Nat → (Nat → va_E) → Prop} {k1 mc ms n idx b maxL : Nat} {y : MethodName} {bytes : ByteArray} {ret1 : Option FieldType} {As rest st0 : List Value}
    (C : ZC G X p l s m args meth c A nL ret cc own) (cd : zcV y bytes maxL ret1 n) (hM : zM l G X y (.code y bytes maxL ret1 :: zT) k1 mc ms (.ref b :: As) L f en R1) (hlk : Cond.methodLink own idx y ∈ lw_tbl) (hk : k1 + 1 ≤ k0) (hmc : cells + mc ≤ mc0) (hms : slots + ms ≤ ms0) (hO : va_O y.cls b A s s.heap) (hn : As.length = n) (hst : st0 = As.reverse ++ .ref b :: rest) (hcat : (rest.map fun v => v.category).sum ≤ 8) (hd : decode cc pc = .ok (.invokevirtual idx, 3))
    (K : ∀ (z : ρ) (L' : List Nat) (f' : Nat → va_E), R1 z L' f' → ZW G p l e (zRm k0 mc0 ms0) s m args below meth c A nL (cells + mc) (slots + ms) Q L' f' (pc + 3) ls ((en z).toList ++ rest)) : ZW G p l e (zRm k0 mc0 ms0) s m args below meth c A nL cells slots Q L f pc ls st0 := by
  obtain ⟨c1, c2, c3, c4, ⟨c5, c6, c7⟩, c8⟩ := cd
  refine z_call (a := (Value.ref b :: As).toArray) C (fun H locs la hP hD hS hl => ?_) K
  have hG : GoodIn zT (wsV own idx y.cls y (.code y bytes maxL ret1 :: zT)) := by
    intro w hw
    rcases List.mem_append.mp hw with hw | hw
    · rcases List.mem_cons.mp hw with rfl | hw
      · exact ⟨zT_of hlk rfl, good_of_word rfl⟩
      rcases List.mem_cons.mp hw with rfl | hw
      · exact ⟨zT_of c2 rfl, good_of_word rfl⟩
      rcases List.mem_cons.mp hw with rfl | hw
      · exact ⟨zT_of c3 rfl, good_of_word rfl⟩
      rcases List.mem_cons.mp hw with rfl | hw
      · exact ⟨zT_of c4 rfl, good_of_word rfl⟩
      · cases hw
    · exact zGood c1 rfl w hw
  obtain ⟨cell, r1, r2, r3, -⟩ := hO.kept hS.2.1
  obtain ⟨pf, pu⟩ := z_pre C hP hD hS (.ref b :: As)
  exact va_runV (As := As) (rest := rest) ⟨C.1, C.2.1, C.2.2.1, C.2.2.2.1, C.2.2.2.2.1⟩ (hM H.size) (cwV n C.2.2.2.2.1 hG rfl rfl rfl ⟨rfl, c5, c6, c7⟩ (z_rm hk c8 mc ms)) ⟨pf, ⟨cell, r1, r2, r3⟩, pu⟩ rfl hn hl.1 hst (lv_room hcat) hd ⟨hmc, hms⟩
end ZOUT
