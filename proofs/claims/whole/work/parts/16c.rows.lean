/-! ===== numbers of two words, numbers of a point ===== -/
abbrev iL (z : Int) : Int64 := Int64.ofInt z
theorem iL_of (z : Int) (h : zR z) : (iI z).toInt64 = iL z := by
  apply Int64.toInt_inj.mp
  rw [Int32.toInt_toInt64, iI_toInt h]
  exact (Int64.toInt_ofInt_of_le (by have := h.1; omega) (by have := h.2; omega)).symm
abbrev zeF : UInt32 → Option Value := fun z => some (.float z)
abbrev zeD : UInt64 → Option Value := fun z => some (.double z)
section ZLONG
variable {p : Program} {l : Launch} {e : Env} {R : Room} {s : State} {m : MethodId} {args : Array Value} {below : List Frame} {meth : Method} {c : Code} {cells slots : Nat} {Q : State → Prop}
variable {G : zG} {X : (Nat → Prop) → State → Prop} {A : Nat → Prop} {nL : Nat} {L : List Nat} {f : Nat → va_E} {cc : ByteArray} {own : String} {pc : Nat} {ls : List (Nat × Value)} {st : List Value} {ret : Option FieldType}
theorem z_lconst (C : ZC G X p l s m args meth c A nL ret cc own) {n : Fin 2} (hd : decode cc pc = .ok (.lconst n, 1)) (K : ZW G p l e R s m args below meth c A nL cells slots Q L f (pc + 1) ls (.long (iL ((n : Nat) : Int)) :: st)) : ZW G p l e R s m args below meth c A nL cells slots Q L f pc ls st :=
  fun H locs la hP hD hS hl => lv_lconst C.1 C.2.1 hd rfl (K H locs la hP hD hS hl)
theorem z_lload_n (C : ZC G X p l s m args meth c A nL ret cc own) {k : Fin 4} (j : Nat) {x : Int64} (hd : decode cc pc = .ok (.lload_n k, 1)) (hl : ls[j]? = some ((k : Nat), .long x)) (K : ZW G p l e R s m args below meth c A nL cells slots Q L f (pc + 1) ls (.long x :: st)) : ZW G p l e R s m args below meth c A nL cells slots Q L f pc ls st :=
  fun H locs la hP hD hS h => lv_lload_n C.1 C.2.1 hd rfl (lv_at h j hl) (K H locs la hP hD hS h)
theorem z_lload (C : ZC G X p l s m args meth c A nL ret cc own) {k : Nat} (j : Nat) {x : Int64} (hd : decode cc pc = .ok (.lload k, 2)) (hl : ls[j]? = some (k, .long x)) (K : ZW G p l e R s m args below meth c A nL cells slots Q L f (pc + 2) ls (.long x :: st)) : ZW G p l e R s m args below meth c A nL cells slots Q L f pc ls st :=
  fun H locs la hP hD hS h => lv_lload C.1 C.2.1 hd (lv_at h j hl) (K H locs la hP hD hS h)
theorem z_lstore_n (C : ZC G X p l s m args meth c A nL ret cc own) {k : Fin 4} {x : Int64} {ls' : List (Nat × Value)} (hd : decode cc pc = .ok (.lstore_n k, 1)) (hn : (k : Nat) + 1 < nL) (hl : ((k : Nat), Value.long x) :: ls.filter (fun q => !(q.1 == (k : Nat)) && (!(q.1 == (k : Nat) + 1) && !(q.1 + 1 == (k : Nat) && q.2.category == 2))) = ls') (K : ZW G p l e R s m args below meth c A nL cells slots Q L f (pc + 1) ls' st) : ZW G p l e R s m args below meth c A nL cells slots Q L f pc ls (.long x :: st) :=
  fun H locs la hP hD hS h => lv_lstore_n C.1 C.2.1 hd rfl h hn hl (fun la' h' => K H locs la' hP hD hS h')
theorem z_lstore (C : ZC G X p l s m args meth c A nL ret cc own) {k : Nat} {x : Int64} {ls' : List (Nat × Value)} (hd : decode cc pc = .ok (.lstore k, 2)) (hn : k + 1 < nL) (hl : (k, Value.long x) :: ls.filter (fun q => !(q.1 == k) && (!(q.1 == k + 1) && !(q.1 + 1 == k && q.2.category == 2))) = ls') (K : ZW G p l e R s m args below meth c A nL cells slots Q L f (pc + 2) ls' st) : ZW G p l e R s m args below meth c A nL cells slots Q L f pc ls (.long x :: st) :=
  fun H locs la hP hD hS h => lv_lstore C.1 C.2.1 hd h hn hl (fun la' h' => K H locs la' hP hD hS h')
theorem z_ladd (C : ZC G X p l s m args meth c A nL ret cc own) {a b : Int} (hd : decode cc pc = .ok (.ladd, 1)) (K : ZW G p l e R s m args below meth c A nL cells slots Q L f (pc + 1) ls (.long (iL (a + b)) :: st)) : ZW G p l e R s m args below meth c A nL cells slots Q L f pc ls (.long (iL b) :: .long (iL a) :: st) :=
  fun H locs la hP hD hS hl => lv_ladd C.1 C.2.1 hd (by rw [show iL a + iL b = iL (a + b) from (Int64.ofInt_add a b).symm]; exact K H locs la hP hD hS hl)
theorem z_i2l (C : ZC G X p l s m args meth c A nL ret cc own) {a : Int} (hd : decode cc pc = .ok (.i2l, 1)) (ha : zR a) (K : ZW G p l e R s m args below meth c A nL cells slots Q L f (pc + 1) ls (.long (iL a) :: st)) : ZW G p l e R s m args below meth c A nL cells slots Q L f pc ls (.int (iI a) :: st) :=
  fun H locs la hP hD hS hl => lv_i2l C.1 C.2.1 hd (iL_of a ha) (K H locs la hP hD hS hl)
theorem z_ldc2 (C : ZC G X p l s m args meth c A nL ret cc own) {index : Nat} {v : Int64} {n : Int} (hw : Cond.constantLong own index v ∈ lw_tbl) (hv : v = iL n) (hd : decode cc pc = .ok (.ldc2_w index, 3)) (K : ZW G p l e R s m args below meth c A nL cells slots Q L f (pc + 3) ls (.long (iL n) :: st)) : ZW G p l e R s m args below meth c A nL cells slots Q L f pc ls st :=
  fun H locs la hP hD hS hl => lv_ldc2 C.1 C.2.1 C.2.2.2.1 (C.w hw rfl) hd (by rw [hv]; exact K H locs la hP hD hS hl)
theorem z_ldcf (C : ZC G X p l s m args meth c A nL ret cc own) {index : Nat} {v : UInt32} (hw : Cond.constantFloat own index v ∈ lw_tbl) (hd : decode cc pc = .ok (.ldc index, 2)) (K : ZW G p l e R s m args below meth c A nL cells slots Q L f (pc + 2) ls (.float v :: st)) : ZW G p l e R s m args below meth c A nL cells slots Q L f pc ls st :=
  fun H locs la hP hD hS hl => lv_ldcf C.1 C.2.1 C.2.2.2.1 (C.w hw rfl) hd (K H locs la hP hD hS hl)
theorem z_i2f (C : ZC G X p l s m args meth c A nL ret cc own) {x : Int32} (hd : decode cc pc = .ok (.i2f, 1)) (K : ZW G p l e R s m args below meth c A nL cells slots Q L f (pc + 1) ls (.float (FP.i2f x) :: st)) : ZW G p l e R s m args below meth c A nL cells slots Q L f pc ls (.int x :: st) :=
  fun H locs la hP hD hS hl => lv_i2f C.1 C.2.1 hd (K H locs la hP hD hS hl)
theorem z_i2d (C : ZC G X p l s m args meth c A nL ret cc own) {x : Int32} (hd : decode cc pc = .ok (.i2d, 1)) (K : ZW G p l e R s m args below meth c A nL cells slots Q L f (pc + 1) ls (.double (FP.i2d x) :: st)) : ZW G p l e R s m args below meth c A nL cells slots Q L f pc ls (.int x :: st) :=
  fun H locs la hP hD hS hl => lv_i2d C.1 C.2.1 hd (K H locs la hP hD hS hl)
theorem z_fdiv (C : ZC G X p l s m args meth c A nL ret cc own) {x y : UInt32} (hd : decode cc pc = .ok (.fdiv, 1)) (hn : vf_n32 (FP.fdiv x y)) (K : ZW G p l e R s m args below meth c A nL cells slots Q L f (pc + 1) ls (.float (FP.fdiv x y) :: st)) : ZW G p l e R s m args below meth c A nL cells slots Q L f pc ls (.float y :: .float x :: st) :=
  fun H locs la hP hD hS hl => lv_fdiv C.1 C.2.1 hd hn (K H locs la hP hD hS hl)
theorem z_ddiv (C : ZC G X p l s m args meth c A nL ret cc own) {x y : UInt64} (hd : decode cc pc = .ok (.ddiv, 1)) (hn : vf_n64 (FP.ddiv x y)) (K : ZW G p l e R s m args below meth c A nL cells slots Q L f (pc + 1) ls (.double (FP.ddiv x y) :: st)) : ZW G p l e R s m args below meth c A nL cells slots Q L f pc ls (.double y :: .double x :: st) :=
  fun H locs la hP hD hS hl => lv_ddiv C.1 C.2.1 hd hn (K H locs la hP hD hS hl)
theorem z_dconst0 (C : ZC G X p l s m args meth c A nL ret cc own) (hd : decode cc pc = .ok (.dconst 0, 1)) (K : ZW G p l e R s m args below meth c A nL cells slots Q L f (pc + 1) ls (.double FP.dconst0 :: st)) : ZW G p l e R s m args below meth c A nL cells slots Q L f pc ls st :=
  fun H locs la hP hD hS hl => lv_dconst0 C.1 C.2.1 hd (K H locs la hP hD hS hl)
theorem z_i2c (C : ZC G X p l s m args meth c A nL ret cc own) {x : Int} (hd : decode cc pc = .ok (.i2c, 1)) (hx : 0 ≤ x ∧ x < 65536) (K : ZW G p l e R s m args below meth c A nL cells slots Q L f (pc + 1) ls (.int (iI x) :: st)) : ZW G p l e R s m args below meth c A nL cells slots Q L f pc ls (.int (iI x) :: st) :=
  fun H locs la hP hD hS hl => lv_i2c C.1 C.2.1 hd (by rw [show iI x = nI x.toNat by rw [iI_nat, Int.toNat_of_nonneg hx.1]]; rw [pk_char, pk_tn (by omega), Nat.mod_eq_of_lt (by omega)]) (K H locs la hP hD hS hl)
theorem z_creturn (C : ZC G X p l s m args meth c A nL (some .char) cc own) {R0 : Int → List Nat → (Nat → va_E) → Prop} {z : Int} {mc ms : Nat} (hz : 0 ≤ z ∧ z < 65536) (hd : decode cc pc = .ok (.ireturn, 1)) (hc : cells ≤ mc) (hs : slots ≤ ms) (hR : R0 z L f) : ZW G p l e R s m args below meth c A nL cells slots (MQ below (zQ G zeI R0 A) args s mc ms A) L f pc ls [.int (iI z)] :=
  fun H locs la hP hD hS hl => W.widen hc hs (W.zret C.1 C.2.1 C.2.2.2.2.2.2.2.2.1 (by rw [show iI z = nI z.toNat by rw [iI_nat, Int.toNat_of_nonneg hz.1]]; exact (pk_charN (q := z.toNat) (by omega)).1) (fun t ht hW => ⟨⟨z, L, f, rfl, hR, by rw [ht]; exact hP, va_K.moved hW.alike C.2.2.2.2.2.1, hD⟩, hS.F ht⟩) hS.2.2 hd C.2.2.2.2.2.2.2.1)
theorem z_freturn (C : ZC G X p l s m args meth c A nL (some .float) cc own) {R0 : UInt32 → List Nat → (Nat → va_E) → Prop} {z : UInt32} {mc ms : Nat} (hd : decode cc pc = .ok (.freturn, 1)) (hc : cells ≤ mc) (hs : slots ≤ ms) (hR : R0 z L f) : ZW G p l e R s m args below meth c A nL cells slots (MQ below (zQ G zeF R0 A) args s mc ms A) L f pc ls [.float z] :=
  fun H locs la hP hD hS hl => W.widen hc hs (W.fret C.1 C.2.1 C.2.2.2.2.2.2.2.2.1 (fun t ht hW => ⟨⟨z, L, f, rfl, hR, by rw [ht]; exact hP, va_K.moved hW.alike C.2.2.2.2.2.1, hD⟩, hS.F ht⟩) hS.2.2 hd C.2.2.2.2.2.2.2.1)
theorem z_dreturn (C : ZC G X p l s m args meth c A nL (some .double) cc own) {R0 : UInt64 → List Nat → (Nat → va_E) → Prop} {z : UInt64} {mc ms : Nat} (hd : decode cc pc = .ok (.dreturn, 1)) (hc : cells ≤ mc) (hs : slots ≤ ms) (hR : R0 z L f) : ZW G p l e R s m args below meth c A nL cells slots (MQ below (zQ G zeD R0 A) args s mc ms A) L f pc ls [.double z] :=
  fun H locs la hP hD hS hl => W.widen hc hs (W.dret C.1 C.2.1 C.2.2.2.2.2.2.2.2.1 (fun t ht hW => ⟨⟨z, L, f, rfl, hR, by rw [ht]; exact hP, va_K.moved hW.alike C.2.2.2.2.2.1, hD⟩, hS.F ht⟩) hS.2.2 hd C.2.2.2.2.2.2.2.1)
end ZLONG
/-- what is said of the hire -/
def spLastDay (μ : zMu) : Int := zfold (fun l w => if w < μ 16 l then μ 16 l else w) (μ 2 0).toNat (-1)
theorem spLd_r {μ : zMu} (hI : MJ μ) {n : Nat} (hn : n ≤ 16) : -1 ≤ zfold (fun l w => if w < μ 16 l then μ 16 l else w) n (-1) ∧ zfold (fun l w => if w < μ 16 l then μ 16 l else w) n (-1) ≤ 9 := zfold_inv (P := fun w => -1 ≤ w ∧ w ≤ 9) (by omega) (fun i q0 q1 w hw => by have := hI.b12 i q0 (by omega); split <;> omega)
def spDay (μ : zMu) (d : Int) : Int := if 0 < spHours μ d then 1000 + (if 10 < spHours μ d then 40 * (spHours μ d - 10) else 0) else (if 4 < μ 7 d then 600 else 200)
def spHire (μ : zMu) : Int := zsum (spDay μ) (spLastDay μ + 1).toNat
/-! no quotient of two numbers is a NaN where the divisor is none of 0 -/
theorem fp_low {f : FP.Core.Fmt} (s : Bool) {e t : Nat} (he : e < f.exps) (ht : t < f.tails) : FP.Core.assemble f s e t % (f.exps * f.tails) = e * f.tails + t := by
  unfold FP.Core.assemble
  have h1 : (s.toNat * f.exps + e) * f.tails + t = e * f.tails + t + f.exps * f.tails * s.toNat := by
    rw [Nat.add_mul, Nat.mul_comm s.toNat f.exps, Nat.mul_right_comm]; omega
  have h2 : e * f.tails + t < f.exps * f.tails := by
    have : (e + 1) * f.tails ≤ f.exps * f.tails := Nat.mul_le_mul_right _ he
    rw [Nat.add_mul, Nat.one_mul] at this
    omega
  rw [h1, Nat.add_mul_mod_self_left, Nat.mod_eq_of_lt h2]
def fp_ok (f : FP.Core.Fmt) : FP.Core.Datum → Prop
  | .nan => False
  | .inf _ => True
  | .fin _ c q => c < 2 ^ f.p ∧ q ≤ f.qmax
theorem fp_ratio {f : FP.Core.Fmt} (s : Bool) (num den : Nat) (e : Int) (hm : f.qmin ≤ f.qmax) (hp : f.tails < 2 ^ f.p) : fp_ok f (FP.Core.roundRatio f s num den e) := by
  unfold FP.Core.roundRatio
  split
  · exact ⟨Nat.lt_of_le_of_lt (Nat.zero_le _) hp, hm⟩
  · unfold FP.Core.roundAt FP.Core.settle FP.Core.bound
    split <;> split
    · rename_i h1 h2; exact ⟨h1, h2⟩
    · trivial
    · rename_i h1 h2; exact ⟨hp, h2⟩
    · trivial
