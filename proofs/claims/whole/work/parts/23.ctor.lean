/-! ===== making: arrays, and an object in its constructor ===== -/
section ZNEWA
variable {p : Program} {l : Launch} {e : Env} {R : Room} {s : State} {m : MethodId} {args : Array Value} {below : List Frame} {meth : Method} {c : Code} {cells slots : Nat} {Q : State → Prop}
variable {G : zG} {X : (Nat → Prop) → State → Prop} {A : Nat → Prop} {nL : Nat} {L : List Nat} {f : Nat → va_E} {cc : ByteArray} {own : String} {pc : Nat} {ls : List (Nat × Value)} {st : List Value} {ret : Option FieldType}
theorem z_newa (C : ZC G X p l s m args meth c A nL ret cc own) {atype : ArrayType} {ty : FieldType} (t : Nat) {n : Int} (N : Nat) (harr : Cond.arrayClass ty ∈ lw_tbl) (hty : newarray.typeOf atype = ty) (ht : (zY G)[t]? = some (G.2 t, ty)) (hdv : defaultValue ty = .int 0) (hra : ∀ (U : State) (cA : ClassId), va_RA U cA ty → U.vm.findClass ("[" ++ ty.toString) = some cA) (hn : n = N) (hN : N < 2147483648) (hbytes : N * componentBytes ty ≤ 536870912) (hcells : cells + 1 ≤ R.cells) (hslots : slots + N ≤ R.slots) (hd : decode cc pc = .ok (.newarray atype, 2))
    (K : ∀ (q : Nat) (L2 : List Nat) (f2 : Nat → va_E), q ∉ L → L2 = L ++ [q] → zA G t L2 f2 q N (fun _ => 0) → (∀ b, b ≠ q → f2 b = f b) → ZW G p l e R s m args below meth c A nL (cells + 1) (slots + N) Q L2 f2 (pc + 2) ls (.ref q :: st)) : ZW G p l e R s m args below meth c A nL cells slots Q L f pc ls (.int (iI n) :: st) := by
  intro H locs la hP hD hS hl
  have hgw : goodWord (Cond.arrayClass ty) = true := rfl
  refine va_newa (a0 := (N, .inl (fun _ => 0))) C.1 C.2.1 (by rw [hty]; exact C.w harr hgw) hty C.2.2.2.2.2.1 hP hD hS C.2.2.2.2.2.2.1 (fun cA => by rw [hdv]; rfl) (by rw [hn]; have := iI_le (a := 0) (b := (N : Int)) ⟨by omega, by omega⟩ ⟨by omega, by omega⟩; exact Int32.not_lt.mpr (this.mpr (by omega))) (by rw [hn, iI_clamp (by omega) (by omega)]; omega) hbytes hcells hslots hd (fun q cA H1 hK1 hP1 hD1 hS1 => ?_)
  have hcA : cA = G.2 t := by
    have k1 := hra s cA ((hK1.2 (zY G).length (cA, ty) (by rw [List.getElem?_append_right (Nat.le_refl _), Nat.sub_self]; rfl)).2)
    have k2 := hra s (G.2 t) ((C.2.2.2.2.2.1.2 t _ ht).2)
    exact Option.some.inj (k1.symm.trans k2)
  subst hcA
  have hq : q ∉ L := z_fresh (H1 := H1) hP hD1
  rw [va_pl_push hq] at hP1 hD1
  exact K q _ _ hq rfl ⟨List.mem_append.mpr (Or.inr (List.mem_singleton.mpr rfl)), fun _ => 0, va_up_self _ _ _, fun j _ => rfl⟩ (fun b hb => va_up_ne _ _ hb) H1 locs la hP1 hD1 hS1 hl
theorem z_objInit {k0 mc0 ms0 : Nat} (C : ZC G X p l s m args meth c A nL ret cc own) {idx o : Nat} (hlk : Cond.methodLink own idx Lib.objectInit ∈ lw_tbl) (hk : 1 ≤ k0) (hcat : (st.map fun v => v.category).sum ≤ 8) (hd : decode cc pc = .ok (.invokespecial idx, 3)) (K : ZW G p l e (zRm k0 mc0 ms0) s m args below meth c A nL cells slots Q L f (pc + 3) ls st) : ZW G p l e (zRm k0 mc0 ms0) s m args below meth c A nL cells slots Q L f pc ls (.ref o :: st) := by
  intro H locs la hP hD hS hl
  have hr := lv_room (m := m) (pc := pc) (ls := la) (rest := Value.ref o :: st) hcat
  exact W.objInit C.1 C.2.1 C.2.2.2.1 (C.w hlk rfl) (C.w zl_1_38 rfl) (C.w (show Cond.code Lib.objectInit ⟨#[0xb1]⟩ 1 none ∈ lw_tbl from zl_1_39) rfl) (g := F0 m pc la (.ref o :: st)) rfl (hl.1.trans C.2.2.1.symm) rfl hd hk (by show _ ≤ 60 * k0; omega) (K H locs la hP hD hS hl)
end ZNEWA
/-- an object o of class ci with fields fs in the midst of its making, its arrays as so far; the rest is as it was -/
def zPC (G : zG) (L0 : List Nat) (f0 : Nat → va_E) (L : List Nat) (f : Nat → va_E) (o ci : Nat) (fs : List Value) (as : List (Nat × Nat × Nat)) : Prop :=
  (o ∈ L ∧ f o = .inr (ci, fs)) ∧ (∀ e ∈ as, e.1 ≠ o ∧ zA G e.2.1 L f e.1 e.2.2 (fun _ => 0)) ∧ as.Pairwise (fun a b => a.1 ≠ b.1) ∧ (∀ b ∈ L0, b ∈ L) ∧ (∀ b ∈ L0, b ≠ o → f b = f0 b) ∧ (∀ e ∈ as, e.1 ∉ L0)
theorem zPC_0 {G : zG} {L : List Nat} {f : Nat → va_E} {o ci : Nat} {fs : List Value} (h : o ∈ L ∧ f o = .inr (ci, fs)) : zPC G L f L f o ci fs [] :=
  ⟨h, (fun e q => by cases q), List.Pairwise.nil, (fun b q => q), (fun b q _ => rfl), (fun e q => by cases q)⟩
theorem zPC_new {G : zG} {L0 : List Nat} {f0 : Nat → va_E} {L : List Nat} {f : Nat → va_E} {o ci : Nat} {fs : List Value} {as : List (Nat × Nat × Nat)} (h : zPC G L0 f0 L f o ci fs as) {q t n : Nat} {L2 : List Nat} {f2 : Nat → va_E} (hq : q ∉ L) (hL : L2 = L ++ [q]) (hA : zA G t L2 f2 q n (fun _ => 0)) (hk : ∀ b, b ≠ q → f2 b = f b) : zPC G L0 f0 L2 f2 o ci fs (as ++ [(q, t, n)]) := by
  subst hL
  obtain ⟨⟨h1, h2⟩, h3, h4, h5, h6, h7⟩ := h
  have hmem : ∀ b ∈ L, b ∈ L ++ [q] := fun b hb => List.mem_append.mpr (Or.inl hb)
  have hne : ∀ b ∈ L, b ≠ q := fun b hb z => hq (z ▸ hb)
  refine ⟨⟨hmem _ h1, by rw [hk o (hne o h1)]; exact h2⟩, fun e he => ?_, ?_, fun b hb => hmem _ (h5 b hb), fun b hb hbo => by rw [hk b (hne b (h5 b hb))]; exact h6 b hb hbo, fun e he => ?_⟩
  · rcases List.mem_append.mp he with he | he
    · obtain ⟨a1, a2⟩ := h3 e he
      exact ⟨a1, zA_kept a2 hmem (hk _ (hne _ a2.1))⟩
    · rw [List.mem_singleton.mp he]
      exact ⟨fun z => hq (by have z : q = o := z; rw [z]; exact h1), hA⟩
  · refine List.pairwise_append.mpr ⟨h4, List.pairwise_singleton _ _, fun a ha b hb => ?_⟩
    rw [List.mem_singleton.mp hb]
    exact hne _ (h3 a ha).2.1
  · rcases List.mem_append.mp he with he | he
    · exact h7 e he
    · rw [List.mem_singleton.mp he]; exact fun z => hq (h5 _ z)
theorem zPC_put {G : zG} {L0 : List Nat} {f0 : Nat → va_E} {L : List Nat} {f : Nat → va_E} {o ci : Nat} {fs : List Value} {as : List (Nat × Nat × Nat)} (h : zPC G L0 f0 L f o ci fs as) (fs' : List Value) : zPC G L0 f0 L (va_up f o (.inr (ci, fs'))) o ci fs' as := by
  obtain ⟨⟨h1, h2⟩, h3, h4, h5, h6, h7⟩ := h
  exact ⟨⟨h1, va_up_self _ _ _⟩, fun e he => ⟨(h3 e he).1, zA_kept (h3 e he).2 (fun b hb => hb) (va_up_ne _ _ (h3 e he).1)⟩, h4, h5, fun b hb hbo => by rw [va_up_ne _ _ hbo]; exact h6 b hb hbo, h7⟩
theorem zPC_A {G : zG} {L0 : List Nat} {f0 : Nat → va_E} {L : List Nat} {f : Nat → va_E} {o ci : Nat} {fs : List Value} {as : List (Nat × Nat × Nat)} (h : zPC G L0 f0 L f o ci fs as) (k : Nat) {q t n : Nat} (hk : as[k]? = some (q, t, n)) : zA G t L f q n (fun _ => 0) := (h.2.1 (q, t, n) (List.mem_of_getElem? hk)).2
/-- addresses from place 4 on -/
def zad (l : List Nat) (i : Nat) : Nat := l.getD (i - 4) 0
theorem zad_ne {l : List Nat} (h : l.Pairwise (· ≠ ·)) {i j : Nat} (hi : i < l.length) (hj : j < l.length) (hij : i ≠ j) : l.getD i 0 ≠ l.getD j 0 := by
  rw [List.getD_eq_getElem?_getD, List.getD_eq_getElem?_getD, List.getElem?_eq_getElem hi, List.getElem?_eq_getElem hj]
  show l[i] ≠ l[j]
  rcases Nat.lt_or_gt_of_ne hij with q | q
  · exact List.pairwise_iff_getElem.mp h i j hi hj q
  · exact (List.pairwise_iff_getElem.mp h j i hj hi q).symm
theorem zad_o {G : zG} {L0 : List Nat} {f0 : Nat → va_E} {L : List Nat} {f : Nat → va_E} {o ci : Nat} {fs : List Value} {as : List (Nat × Nat × Nat)} (h : zPC G L0 f0 L f o ci fs as) {i : Nat} (hi : i < as.length) : (as.map (·.1)).getD i 0 ≠ o := by
  rw [List.getD_eq_getElem?_getD, List.getElem?_map, List.getElem?_eq_getElem hi]
  exact (h.2.1 _ (List.getElem_mem hi)).1
theorem zad_L {G : zG} {L0 : List Nat} {f0 : Nat → va_E} {L : List Nat} {f : Nat → va_E} {o ci : Nat} {fs : List Value} {as : List (Nat × Nat × Nat)} (h : zPC G L0 f0 L f o ci fs as) {i : Nat} (hi : i < as.length) : (as.map (·.1)).getD i 0 ∉ L0 := by
  rw [List.getD_eq_getElem?_getD, List.getElem?_map, List.getElem?_eq_getElem hi]
  exact h.2.2.2.2.2 _ (List.getElem_mem hi)
