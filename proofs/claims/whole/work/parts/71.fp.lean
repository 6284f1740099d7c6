/-! ===== doubles of the law ===== -/
theorem fp_cmp_self (a : Int) : compare a a = .eq := by simp [compare, compareOfLessAndEq]
theorem fp_order {d : FP.Core.Datum} (h : d ≠ .nan) : FP.Core.order d d = some .eq := by
  cases d with
  | nan => exact absurd rfl h
  | inf s => show some (compare _ _) = some .eq; rw [fp_cmp_self]
  | fin s c q => show some (compare _ _) = some .eq; rw [fp_cmp_self]
theorem fp_dcmp {x : UInt64} (h : vf_n64 x) : Op.cmpValue (FP.dcmp x x) .l = 0 := by
  have hd : FP.Core.decode FP.Core.b64 x.toNat ≠ .nan := by
    apply fp_dec
    unfold vf_n64 at h
    rw [UInt64.le_iff_toNat_le, UInt64.toNat_and, show (0x7fffffffffffffff : UInt64).toNat = 2 ^ 63 - 1 by decide, Nat.and_two_pow_sub_one_eq_mod, show (0x7ff0000000000000 : UInt64).toNat = 9218868437227405312 by decide] at h
    exact h
  have e : FP.dcmp x x = some .eq := fp_order hd
  rw [e]
  rfl
theorem fp_share2s : ∀ n : Fin 241, (FP.f2d (FP.fdiv (FP.i2f (nI n.val)) 1131413504) &&& 0x7fffffffffffffff ≤ 0x7ff0000000000000) := by decide +kernel
theorem fp_share2 {n : Int} (h : 0 ≤ n ∧ n ≤ 240) : vf_n64 (FP.f2d (FP.fdiv (FP.i2f (iI n)) 1131413504)) := by
  have q := fp_share2s ⟨n.toNat, by omega⟩
  rw [show iI n = nI n.toNat by rw [iI_nat, Int.toNat_of_nonneg (by omega)]]
  exact q
section ZFPL
variable {p : Program} {l : Launch} {e : Env} {R : Room} {s : State} {m : MethodId} {args : Array Value} {below : List Frame} {meth : Method} {c : Code} {cells slots : Nat} {Q : State → Prop}
variable {G : zG} {X : (Nat → Prop) → State → Prop} {A : Nat → Prop} {nL : Nat} {L : List Nat} {f : Nat → va_E} {cc : ByteArray} {own : String} {pc : Nat} {ls : List (Nat × Value)} {st : List Value} {ret : Option FieldType}
theorem z_f2d (C : ZC G X p l s m args meth c A nL ret cc own) {x : UInt32} (hd : decode cc pc = .ok (.f2d, 1)) (hn : vf_n64 (FP.f2d x)) (K : ZW G p l e R s m args below meth c A nL cells slots Q L f (pc + 1) ls (.double (FP.f2d x) :: st)) : ZW G p l e R s m args below meth c A nL cells slots Q L f pc ls (.float x :: st) :=
  fun H locs la hP hD hS hl => lv_f2d C.1 C.2.1 hd hn (K H locs la hP hD hS hl)
theorem z_dcmpS (C : ZC G X p l s m args meth c A nL ret cc own) {x : UInt64} (hd : decode cc pc = .ok (.dcmp .l, 1)) (hn : vf_n64 x) (K : ZW G p l e R s m args below meth c A nL cells slots Q L f (pc + 1) ls (.int (iI 0) :: st)) : ZW G p l e R s m args below meth c A nL cells slots Q L f pc ls (.double x :: .double x :: st) :=
  fun H locs la hP hD hS hl => lv_dcmp C.1 C.2.1 hd (by rw [fp_dcmp hn]; exact K H locs la hP hD hS hl)
theorem z_dload (C : ZC G X p l s m args meth c A nL ret cc own) {k : Nat} (j : Nat) {x : UInt64} (hd : decode cc pc = .ok (.dload k, 2)) (hl : ls[j]? = some (k, .double x)) (K : ZW G p l e R s m args below meth c A nL cells slots Q L f (pc + 2) ls (.double x :: st)) : ZW G p l e R s m args below meth c A nL cells slots Q L f pc ls st :=
  fun H locs la hP hD hS h => lv_dload C.1 C.2.1 hd (lv_at h j hl) (K H locs la hP hD hS h)
theorem z_dstore (C : ZC G X p l s m args meth c A nL ret cc own) {k : Nat} {x : UInt64} {ls' : List (Nat × Value)} (hd : decode cc pc = .ok (.dstore k, 2)) (hn : k + 1 < nL) (hl : (k, Value.double x) :: ls.filter (fun q => !(q.1 == k) && (!(q.1 == k + 1) && !(q.1 + 1 == k && q.2.category == 2))) = ls') (K : ZW G p l e R s m args below meth c A nL cells slots Q L f (pc + 2) ls' st) : ZW G p l e R s m args below meth c A nL cells slots Q L f pc ls (.double x :: st) :=
  fun H locs la hP hD hS h => lv_dstore C.1 C.2.1 hd h hn hl (fun la' h' => K H locs la' hP hD hS h')
end ZFPL
