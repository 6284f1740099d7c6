/-! ===== ldc_w of a float ===== -/
section ZLDCF
variable {p : Program} {l : Launch} {e : Env} {R : Room} {s : State} {m : MethodId} {args : Array Value} {below : List Frame} {meth : Method} {c : Code} {cells slots : Nat} {Q : State → Prop}
variable {G : zG} {X : (Nat → Prop) → State → Prop} {A : Nat → Prop} {nL : Nat} {L : List Nat} {f : Nat → va_E} {cc : ByteArray} {own : String} {pc : Nat} {ls : List (Nat × Value)} {st : List Value} {ret : Option FieldType}
theorem z_ldcfw (C : ZC G X p l s m args meth c A nL ret cc own) {index : Nat} {v : UInt32} (hw : Cond.constantFloat own index v ∈ lw_tbl) (hd : decode cc pc = .ok (.ldc_w index, 3)) (K : ZW G p l e R s m args below meth c A nL cells slots Q L f (pc + 3) ls (.float v :: st)) : ZW G p l e R s m args below meth c A nL cells slots Q L f pc ls st := by
  intro H locs la hP hD hS hl T hT Y
  obtain ⟨t, a, b⟩ := K H locs la hP hD hS hl T hT Y
  refine ⟨t, ?_, b⟩
  obtain ⟨k1, cf, hk, hcf, hcp⟩ := Cond.constantFloat_spec C.2.2.2.1 (C.w hw rfl)
  obtain ⟨k', hk', he⟩ := Y.warmed.alike.2.2 _ _ hk
  have hexec := C.1
  have hdg : decode c.code (F0 m pc la st).pc = .ok (.ldc_w index, 3) := by rw [C.2.1]; exact hd
  jvm_step Y.here [hexec, hdg, ldc_w.wp_float (s := T) (f := F0 m pc la st) Y.here.top hk' (by rw [he]; exact hcf) hcp]
  exact a
end ZLDCF
