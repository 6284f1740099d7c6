/-! ===== throw new NoSuchElementException("..") ===== -/
section ZTN
variable {p : Program} {l : Launch} {e : Env} {s : State} {m : MethodId} {args : Array Value} {below : List Frame} {meth : Method} {c : Code} {cells slots : Nat} {Q : State → Prop}
variable {G : zG} {X : (Nat → Prop) → State → Prop} {A : Nat → Prop} {nL : Nat} {L : List Nat} {f : Nat → va_E} {cc : ByteArray} {own : String} {pc : Nat} {ls : List (Nat × Value)} {ret : Option FieldType}
variable {k0 mc0 ms0 : Nat}
theorem z_throwN {ρ : Type} {en : ρ → Option Value} {R0 : ρ → List Nat → (Nat → va_E) → Prop} {RX0 : String → List Nat → (Nat → va_E) → Prop} {ik is ic : Nat} {text : String} {st : List Value} (C : ZC G X p l s m args meth c A nL ret cc "SwathSurvey") (h4 : zT4 X) (hfl : l.stackTraces = false) (hnt : ∀ x ∈ c.exceptionTable.toList, False) (hk : Cond.classLink "SwathSurvey" ik zNSE ∈ lw_tbl) (hini : Cond.initialized zNSE ∈ lw_tbl) (hstr : ("SwathSurvey", is, text) ∈ zStrs) (hw : ∀ w ∈ zatN "SwathSurvey" ic, w ∈ zT ∨ w ∈ zOth) (hg : ∀ w ∈ Cond.classLink "SwathSurvey" ik zNSE :: Cond.initialized zNSE :: zatN "SwathSurvey" ic, vx_ot w = true)
    (d0 : decode cc pc = .ok (.new ik, 3)) (d3 : decode cc (pc + 3) = .ok (.dup, 1)) (d4 : decode cc (pc + 4) = .ok (.ldc is, 2)) (d6 : decode cc (pc + 6) = .ok (.invokespecial ic, 3)) (d9 : decode cc (pc + 9) = .ok (.athrow, 1)) (hk0 : 6 ≤ k0) (hcat : (st.map fun v => v.category).sum ≤ 8) (hc : cells + 1 ≤ mc0) (hs : slots + 6 ≤ ms0) (hRX : RX0 zNSE L f) :
    ZW G p l e (zRm k0 mc0 ms0) s m args below meth c A nL cells slots (vx_MQ below (zQ G en R0 A) (zXC G RX0 A) args s mc0 ms0 A) L f pc ls st := by
  intro H locs la hP hD hS hl T hT X0
  obtain ⟨hU, hN, hst⟩ := z_zq C
  obtain ⟨sa, hsa⟩ := hst _ hstr
  have hb := C.2.1
  have htr : e.platform.stackTraces = false := (show e.platform.stackTraces = l.stackTraces by rw [X0.admits.platform]).trans hfl
  have Y := vx_rebase X0 (R' := { frames := k0, locals := 60 * k0, cells := 1, slots := 6 }) (Nat.le_refl _) (Nat.le_refl _) hc hs
  obtain ⟨s', hA⟩ : ∃ z, z = (T.setVm s.vm).setFrames (.invoking m args :: below) := ⟨_, rfl⟩
  rw [← hA] at Y
  have hvm : s'.vm = s.vm := by rw [hA]; rfl
  have hhp : s'.heap = H := by rw [hA]; exact hT
  have hW0 : s.WarmedH s'.vm := by rw [hvm]; exact State.WarmedH.refl s
  have hat' : ∀ w ∈ zatN "SwathSurvey" ic, w.before args s' = true := fun w hw2 => vx_ot_at hW0 hvm.symm (hg w (List.mem_cons_of_mem _ (List.mem_cons_of_mem _ hw2))) (z_hat C h4 hw w hw2)
  have hk' : (Cond.classLink "SwathSurvey" ik zNSE).before args s' = true := vx_ot_at hW0 hvm.symm (hg _ List.mem_cons_self) (C.w hk rfl)
  have hini' : (Cond.initialized zNSE).before args s' = true := vx_ot_at hW0 hvm.symm (hg _ (List.mem_cons_of_mem _ List.mem_cons_self)) (C.w hini rfl)
  have hU' : vx_Zq Bundle.tN "UNASSIGNED_STACK" Bundle.steD A s' s'.heap := by rw [hhp]; exact vx_Zq.moved hW0.alike (hU.kept hS.2.1)
  have hN' : vx_Zq Bundle.tN "SUPPRESSED_SENTINEL" Bundle.listD A s' s'.heap := by rw [hhp]; exact vx_Zq.moved hW0.alike (hN.kept hS.2.1)
  have h : ∀ w ∈ zOwnN "SwathSurvey" ic, w.before args s' = true := vx_own hat' (vx_isRefq hU'.1) (vx_isRefq hN'.1) hU'.2.word hN'.2.word
  have hown' : s'.vm.findClass "SwathSurvey" = some m.cls := by rw [hvm]; exact C.2.2.2.1
  have hins : (Cond.instantiable zNSE 6).before args s' = true := h _ (by simp [zOwnN])
  obtain ⟨vm₁, cX, kX, hfX, hkX, -, -, X₁, st1⟩ := Y.newCold C.1 (own := "SwathSurvey") (C := zNSE) (index := ik) (n := 6) hown' hk' hins hini'
    (g := F0 m pc la st) rfl (by rw [hb]; exact d0) (Nat.le_refl _) (Nat.le_refl _)
  generalize hT1 : (T.setVm vm₁).pushCell { cls := cX, slots := kX.instanceTypes.map defaultValue, vm := .none } = T1 at X₁ st1
  have hcat1 : (Value.ref T.heap.size).category = 1 := rfl
  have hcellA : T1.heap[T.heap.size]? = some (freshCell cX kX) := by rw [← hT1]; exact State.heap_pushCell_size _ _
  obtain ⟨U, hsteps, hrun, hend, hW, hsame, ce, hce, hcl, hcv⟩ := zx_ctorN X₁ C.1 htr (own := "SwathSurvey") (ic := ic) hown' h (fun x hx => nomatch hx) hfX hkX hcellA (by rw [hhp, hT]; exact Nat.le_refl _) (msg := .ref sa) rfl
    (g := { method := m, pc := pc + 6, locals := la, stack := .ref sa :: .ref T.heap.size :: .ref T.heap.size :: st, locked := none }) rfl (hl.1.trans C.2.2.1.symm) rfl rfl (rest := st) rfl
    (by rw [hb]; exact d6) (by rw [hb]; exact d9) (fun x hx => (hnt x hx).elim) hk0 (by show _ ≤ 60 * k0; simp only [List.map_cons, List.sum_cons, hcat1]; show 2 * 0 + _ + 81 ≤ _; omega) C.2.2.2.2.2.2.2.1
  obtain ⟨f1, f2⟩ := vx_frame hsame
  rw [hhp] at f1 f2
  have hWs : s.WarmedH U.vm := State.WarmedH.trans hW0 hW
  have hcl' : s.vm.findClass zNSE = some ce.cls := by rw [hvm] at hcl; exact hcl
  have hall : s.sameButNew ({ U with vm := s.vm } : State) locs mc0 ms0 := by
    subst hA
    obtain ⟨e1, e2⟩ := hsame
    rw [State.setFrames_setFrames] at e1
    have h2 : (T.setVm s.vm).sameButNew ({ U with vm := s.vm } : State) [] (0 + 1) (0 + 6) := ⟨e1, e2⟩
    have h3 := X0.same.trans h2
    rw [List.append_nil] at h3
    exact h3.mono hc hs
  refine ⟨U, ?_, .threw T.heap.size, hrun, hend, Or.inr ⟨T.heap.size, rfl, zNSE, ce, locs, z_xB C hP hD hS hRX U hWs.alike f1 (fun q hq => f2 q hq (fun z hz => nomatch hz)), hce, hcv, hcl', hWs, hall, hS.2.2⟩⟩
  refine st1 _ ?_
  have hexec := C.1
  have d3' : decode c.code (pc + 3) = .ok (.dup, 1) := by rw [hb]; exact d3
  have d4' : decode c.code (pc + 4) = .ok (.ldc is, 2) := by rw [hb]; exact d4
  have hstr' : vk_R "SwathSurvey" is text sa s' := vk_R.warm hW0 hsa
  show Steps p.tables e below (T1.setTop { method := m, pc := pc + 3, locals := la, stack := .ref T.heap.size :: st, locked := none }) _
  jvm_step X₁.here [X₁.here.top, hexec, d3', Value.category]
  exact X₁.ldcString hexec (own := "SwathSurvey") (text := text) (index := is) (a := sa) hown' hstr'.1 hstr'.2
    (g := { method := m, pc := pc + 4, locals := la, stack := .ref T.heap.size :: .ref T.heap.size :: st, locked := none }) rfl d4' _ hsteps
theorem z_throwNW {ρ : Type} {en : ρ → Option Value} {R0 : ρ → List Nat → (Nat → va_E) → Prop} {RX0 : String → List Nat → (Nat → va_E) → Prop} {ik is ic : Nat} {text : String} {st : List Value} (C : ZC G X p l s m args meth c A nL ret cc "SwathSurvey") (h4 : zT4 X) (hfl : l.stackTraces = false) (hnt : ∀ x ∈ c.exceptionTable.toList, False) (hk : Cond.classLink "SwathSurvey" ik zNSE ∈ lw_tbl) (hini : Cond.initialized zNSE ∈ lw_tbl) (hstr : ("SwathSurvey", is, text) ∈ zStrs) (hw : ∀ w ∈ zatN "SwathSurvey" ic, w ∈ zT ∨ w ∈ zOth) (hg : ∀ w ∈ Cond.classLink "SwathSurvey" ik zNSE :: Cond.initialized zNSE :: zatN "SwathSurvey" ic, vx_ot w = true)
    (d0 : decode cc pc = .ok (.new ik, 3)) (d3 : decode cc (pc + 3) = .ok (.dup, 1)) (d4 : decode cc (pc + 4) = .ok (.ldc_w is, 3)) (d6 : decode cc (pc + 7) = .ok (.invokespecial ic, 3)) (d9 : decode cc (pc + 10) = .ok (.athrow, 1)) (hk0 : 6 ≤ k0) (hcat : (st.map fun v => v.category).sum ≤ 8) (hc : cells + 1 ≤ mc0) (hs : slots + 6 ≤ ms0) (hRX : RX0 zNSE L f) :
    ZW G p l e (zRm k0 mc0 ms0) s m args below meth c A nL cells slots (vx_MQ below (zQ G en R0 A) (zXC G RX0 A) args s mc0 ms0 A) L f pc ls st := by
  intro H locs la hP hD hS hl T hT X0
  obtain ⟨hU, hN, hst⟩ := z_zq C
  obtain ⟨sa, hsa⟩ := hst _ hstr
  have hb := C.2.1
  have htr : e.platform.stackTraces = false := (show e.platform.stackTraces = l.stackTraces by rw [X0.admits.platform]).trans hfl
  have Y := vx_rebase X0 (R' := { frames := k0, locals := 60 * k0, cells := 1, slots := 6 }) (Nat.le_refl _) (Nat.le_refl _) hc hs
  obtain ⟨s', hA⟩ : ∃ z, z = (T.setVm s.vm).setFrames (.invoking m args :: below) := ⟨_, rfl⟩
  rw [← hA] at Y
  have hvm : s'.vm = s.vm := by rw [hA]; rfl
  have hhp : s'.heap = H := by rw [hA]; exact hT
  have hW0 : s.WarmedH s'.vm := by rw [hvm]; exact State.WarmedH.refl s
  have hat' : ∀ w ∈ zatN "SwathSurvey" ic, w.before args s' = true := fun w hw2 => vx_ot_at hW0 hvm.symm (hg w (List.mem_cons_of_mem _ (List.mem_cons_of_mem _ hw2))) (z_hat C h4 hw w hw2)
  have hk' : (Cond.classLink "SwathSurvey" ik zNSE).before args s' = true := vx_ot_at hW0 hvm.symm (hg _ List.mem_cons_self) (C.w hk rfl)
  have hini' : (Cond.initialized zNSE).before args s' = true := vx_ot_at hW0 hvm.symm (hg _ (List.mem_cons_of_mem _ List.mem_cons_self)) (C.w hini rfl)
  have hU' : vx_Zq Bundle.tN "UNASSIGNED_STACK" Bundle.steD A s' s'.heap := by rw [hhp]; exact vx_Zq.moved hW0.alike (hU.kept hS.2.1)
  have hN' : vx_Zq Bundle.tN "SUPPRESSED_SENTINEL" Bundle.listD A s' s'.heap := by rw [hhp]; exact vx_Zq.moved hW0.alike (hN.kept hS.2.1)
  have h : ∀ w ∈ zOwnN "SwathSurvey" ic, w.before args s' = true := vx_own hat' (vx_isRefq hU'.1) (vx_isRefq hN'.1) hU'.2.word hN'.2.word
  have hown' : s'.vm.findClass "SwathSurvey" = some m.cls := by rw [hvm]; exact C.2.2.2.1
  have hins : (Cond.instantiable zNSE 6).before args s' = true := h _ (by simp [zOwnN])
  obtain ⟨vm₁, cX, kX, hfX, hkX, -, -, X₁, st1⟩ := Y.newCold C.1 (own := "SwathSurvey") (C := zNSE) (index := ik) (n := 6) hown' hk' hins hini'
    (g := F0 m pc la st) rfl (by rw [hb]; exact d0) (Nat.le_refl _) (Nat.le_refl _)
  generalize hT1 : (T.setVm vm₁).pushCell { cls := cX, slots := kX.instanceTypes.map defaultValue, vm := .none } = T1 at X₁ st1
  have hcat1 : (Value.ref T.heap.size).category = 1 := rfl
  have hcellA : T1.heap[T.heap.size]? = some (freshCell cX kX) := by rw [← hT1]; exact State.heap_pushCell_size _ _
  obtain ⟨U, hsteps, hrun, hend, hW, hsame, ce, hce, hcl, hcv⟩ := zx_ctorN X₁ C.1 htr (own := "SwathSurvey") (ic := ic) hown' h (fun x hx => nomatch hx) hfX hkX hcellA (by rw [hhp, hT]; exact Nat.le_refl _) (msg := .ref sa) rfl
    (g := { method := m, pc := pc + 7, locals := la, stack := .ref sa :: .ref T.heap.size :: .ref T.heap.size :: st, locked := none }) rfl (hl.1.trans C.2.2.1.symm) rfl rfl (rest := st) rfl
    (by rw [hb]; exact d6) (by rw [hb]; exact d9) (fun x hx => (hnt x hx).elim) hk0 (by show _ ≤ 60 * k0; simp only [List.map_cons, List.sum_cons, hcat1]; show 2 * 0 + _ + 81 ≤ _; omega) C.2.2.2.2.2.2.2.1
  obtain ⟨f1, f2⟩ := vx_frame hsame
  rw [hhp] at f1 f2
  have hWs : s.WarmedH U.vm := State.WarmedH.trans hW0 hW
  have hcl' : s.vm.findClass zNSE = some ce.cls := by rw [hvm] at hcl; exact hcl
  have hall : s.sameButNew ({ U with vm := s.vm } : State) locs mc0 ms0 := by
    subst hA
    obtain ⟨e1, e2⟩ := hsame
    rw [State.setFrames_setFrames] at e1
    have h2 : (T.setVm s.vm).sameButNew ({ U with vm := s.vm } : State) [] (0 + 1) (0 + 6) := ⟨e1, e2⟩
    have h3 := X0.same.trans h2
    rw [List.append_nil] at h3
    exact h3.mono hc hs
  refine ⟨U, ?_, .threw T.heap.size, hrun, hend, Or.inr ⟨T.heap.size, rfl, zNSE, ce, locs, z_xB C hP hD hS hRX U hWs.alike f1 (fun q hq => f2 q hq (fun z hz => nomatch hz)), hce, hcv, hcl', hWs, hall, hS.2.2⟩⟩
  refine st1 _ ?_
  have hexec := C.1
  have d3' : decode c.code (pc + 3) = .ok (.dup, 1) := by rw [hb]; exact d3
  have d4' : decode c.code (pc + 4) = .ok (.ldc_w is, 3) := by rw [hb]; exact d4
  have hstr' : vk_R "SwathSurvey" is text sa s' := vk_R.warm hW0 hsa
  show Steps p.tables e below (T1.setTop { method := m, pc := pc + 3, locals := la, stack := .ref T.heap.size :: st, locked := none }) _
  jvm_step X₁.here [X₁.here.top, hexec, d3', Value.category]
  exact X₁.ldcStringW hexec (own := "SwathSurvey") (text := text) (index := is) (a := sa) hown' hstr'.1 hstr'.2
    (g := { method := m, pc := pc + 4, locals := la, stack := .ref T.heap.size :: .ref T.heap.size :: st, locked := none }) rfl d4' _ hsteps
end ZTN
