section ZM
variable {p : Program} {l : Launch} {e : Env} {R : Room} {s : State} {m : MethodId} {args : Array Value} {below : List Frame} {meth : Method} {c : Code} {cells slots : Nat} {Q : State → Prop}
variable {G : zG} {X : (Nat → Prop) → State → Prop} {A : Nat → Prop} {nL : Nat} {L : List Nat} {f : Nat → va_E} {cc : ByteArray} {own : String} {pc : Nat} {ls : List (Nat × Value)} {st : List Value} {ret : Option FieldType}
theorem z_ldcw (C : ZC G X p l s m args meth c A nL ret cc own) {index : Nat} {v : Int32} {n : Int} (hw : Cond.constant own index v ∈ lw_tbl) (hv : v = iI n) (hd : decode cc pc = .ok (.ldc_w index, 3)) (K : ZW G p l e R s m args below meth c A nL cells slots Q L f (pc + 3) ls (.int (iI n) :: st)) : ZW G p l e R s m args below meth c A nL cells slots Q L f pc ls st :=
  fun H locs la hP hD hS hl => lv_ldcw C.1 C.2.1 C.2.2.2.1 (C.w hw rfl) hd (by rw [hv]; exact K H locs la hP hD hS hl)
theorem z_alen (C : ZC G X p l s m args meth c A nL ret cc own) {a t n : Nat} {ty : FieldType} {σ : Int → Int} (h : zA G t L f a n σ) (ht : (zY G)[t]? = some (G.2 t, ty)) (hd : decode cc pc = .ok (.arraylength, 1)) (K : ZW G p l e R s m args below meth c A nL cells slots Q L f (pc + 1) ls (.int (iI (n : Int)) :: st)) : ZW G p l e R s m args below meth c A nL cells slots Q L f pc ls (.ref a :: st) := by
  intro H locs la hP hD hS hl
  obtain ⟨ha, φ, hf, hφ⟩ := h
  obtain ⟨q, hq⟩ := va_pl_get (X := []) (f := f) ha
  have hq : (va_pl L f)[q]? = some (a, .inl (G.2 t, n, .inl φ)) := by rw [← hf]; exact hq
  exact va_alen C.1 C.2.1 C.2.2.2.2.2.1 hP q t hq ht (iI_nat n) hd (K H locs la hP hD hS hl)
/-- a world's new cell -/
theorem z_fresh {H : Heap} (hP : va_P G.1 vwCl (va_pl L f) H) {q : Nat} {x : va_E} {H1 : Heap} (hD : va_D A (va_pl L f ++ [(q, x)])) : q ∉ L := by
  intro h
  obtain ⟨k, hk⟩ := va_pl_get (X := []) (f := f) h
  have hk : (va_pl L f)[k]? = some (q, f q) := hk
  have hl := (List.getElem?_eq_some_iff.mp hk).1
  have h1 : (va_pl L f ++ [(q, x)])[k]? = some (q, f q) := by rw [List.getElem?_append_left hl]; exact hk
  have h2 : (va_pl L f ++ [(q, x)])[(va_pl L f).length]? = some (q, x) := by rw [List.getElem?_append_right (Nat.le_refl _), Nat.sub_self]; rfl
  have := hD.1 _ _ _ _ h1 h2 rfl
  exact absurd this (Nat.ne_of_lt hl)
theorem z_new (C : ZC G X p l s m args meth c A nL ret cc own) {idx N ci : Nat} {Cn : String} {T : u_T} {fs : List Value} {ty : Nat → FieldType} (hin : ∀ w ∈ u_ws Cn T N, w ∈ zT) (hty : ∀ k, k < N → parseFieldDescriptor (T k).2.2.1 = some (ty k)) (hlk : Cond.classLink own idx Cn ∈ lw_tbl) (hinst : Cond.instantiable Cn N ∈ lw_tbl) (hini : Cond.initialized Cn ∈ lw_tbl) (hc : vwCl[ci]? = some (Cn, T, N)) (hfs : ∀ j, j < N → defaultValue (ty j) = vp_V fs j) (hcells : cells + 1 ≤ R.cells) (hslots : slots + N ≤ R.slots) (hd : decode cc pc = .ok (.new idx, 3))
    (K : ∀ q : Nat, q ∉ L → ZW G p l e R s m args below meth c A nL (cells + 1) (slots + N) Q (L ++ [q]) (va_up f q (.inr (ci, fs))) (pc + 3) ls (.ref q :: st)) : ZW G p l e R s m args below meth c A nL cells slots Q L f pc ls st := by
  intro H locs la hP hD hS hl
  refine va_new C.1 C.2.1 C.2.2.2.2.1 hin ty hty C.2.2.2.1 (C.w hlk rfl) (C.w hinst rfl) (C.w hini rfl) C.2.2.2.2.2.1 hP hD hS C.2.2.2.2.2.2.1 hc hfs hcells hslots hd (fun q H1 hP1 hD1 hS1 => ?_)
  have hq : q ∉ L := z_fresh (H1 := H1) hP hD1
  rw [va_pl_push hq] at hP1 hD1
  exact K q hq H1 locs la hP1 hD1 hS1 hl
theorem z_idivP (C : ZC G X p l s m args meth c A nL ret cc own) {a b : Int} (hd : decode cc pc = .ok (.idiv, 1)) (ha : 0 ≤ a ∧ a < 2147483648) (hb : 0 < b ∧ b < 2147483648) (K : ZW G p l e R s m args below meth c A nL cells slots Q L f (pc + 1) ls (.int (iI (a / b)) :: st)) : ZW G p l e R s m args below meth c A nL cells slots Q L f pc ls (.int (iI b) :: .int (iI a) :: st) :=
  z_idiv C hd ⟨by omega, ha.2⟩ hb (by rw [Int.tdiv_eq_ediv_of_nonneg ha.1]; exact K)
theorem z_iremP (C : ZC G X p l s m args meth c A nL ret cc own) {a b : Int} (hd : decode cc pc = .ok (.irem, 1)) (ha : 0 ≤ a ∧ a < 2147483648) (hb : 0 < b ∧ b < 2147483648) (K : ZW G p l e R s m args below meth c A nL cells slots Q L f (pc + 1) ls (.int (iI (a % b)) :: st)) : ZW G p l e R s m args below meth c A nL cells slots Q L f pc ls (.int (iI b) :: .int (iI a) :: st) :=
  z_irem C hd ⟨by omega, ha.2⟩ hb (by rw [Int.tmod_eq_emod_of_nonneg ha.1]; exact K)
/-- references that may be null, in locals -/
theorem z_qload_n (C : ZC G X p l s m args meth c A nL ret cc own) {k : Fin 4} (j : Nat) {r : Option Nat} (hd : decode cc pc = .ok (.aload_n k, 1)) (hl : ls[j]? = some ((k : Nat), va_rf r)) (K : ZW G p l e R s m args below meth c A nL cells slots Q L f (pc + 1) ls (va_rf r :: st)) : ZW G p l e R s m args below meth c A nL cells slots Q L f pc ls st := by
  cases r with
  | none => exact fun H locs la hP hD hS h => lv_aload_nN C.1 C.2.1 hd rfl (lv_at h j hl) (K H locs la hP hD hS h)
  | some x => exact z_aload_n C j hd hl K
theorem z_qload (C : ZC G X p l s m args meth c A nL ret cc own) {k : Nat} (j : Nat) {r : Option Nat} (hd : decode cc pc = .ok (.aload k, 2)) (hl : ls[j]? = some (k, va_rf r)) (K : ZW G p l e R s m args below meth c A nL cells slots Q L f (pc + 2) ls (va_rf r :: st)) : ZW G p l e R s m args below meth c A nL cells slots Q L f pc ls st := by
  cases r with
  | none => exact fun H locs la hP hD hS h => lv_aloadN C.1 C.2.1 hd (lv_at h j hl) (K H locs la hP hD hS h)
  | some x => exact z_aload C j hd hl K
theorem z_ifnullr (C : ZC G X p l s m args meth c A nL ret cc own) {x : Nat} {off : Int} (hd : decode cc pc = .ok (.ifnull off, 3)) (K : ZW G p l e R s m args below meth c A nL cells slots Q L f (pc + 3) ls st) : ZW G p l e R s m args below meth c A nL cells slots Q L f pc ls (.ref x :: st) :=
  fun H locs la hP hD hS hl => lv_ifnull C.1 C.2.1 hd (K H locs la hP hD hS hl)
theorem z_ifnull (C : ZC G X p l s m args meth c A nL ret cc own) {r : Option Nat} {off : Int} (tgt : Nat) (hd : decode cc pc = .ok (.ifnull off, 3)) (ht : (pc : Int) + off = (tgt : Int)) (K1 : r = none → ZW G p l e R s m args below meth c A nL cells slots Q L f tgt ls st) (K2 : ∀ x : Nat, r = some x → ZW G p l e R s m args below meth c A nL cells slots Q L f (pc + 3) ls st) : ZW G p l e R s m args below meth c A nL cells slots Q L f pc ls (va_rf r :: st) := by
  cases r with
  | none => exact fun H locs la hP hD hS hl => lv_ifnullN C.1 C.2.1 hd ht (K1 rfl H locs la hP hD hS hl)
  | some x => exact fun H locs la hP hD hS hl => lv_ifnull C.1 C.2.1 hd (K2 x rfl H locs la hP hD hS hl)
theorem z_ifnonnull (C : ZC G X p l s m args meth c A nL ret cc own) {r : Option Nat} {off : Int} (tgt : Nat) (hd : decode cc pc = .ok (.ifnonnull off, 3)) (ht : (pc : Int) + off = (tgt : Int)) (K1 : r = none → ZW G p l e R s m args below meth c A nL cells slots Q L f (pc + 3) ls st) (K2 : ∀ x : Nat, r = some x → ZW G p l e R s m args below meth c A nL cells slots Q L f tgt ls st) : ZW G p l e R s m args below meth c A nL cells slots Q L f pc ls (va_rf r :: st) := by
  cases r with
  | none => exact fun H locs la hP hD hS hl => lv_ifnonnullN C.1 C.2.1 hd (K1 rfl H locs la hP hD hS hl)
  | some x => exact fun H locs la hP hD hS hl => lv_ifnonnull C.1 C.2.1 hd ht (K2 x rfl H locs la hP hD hS hl)
end ZM
