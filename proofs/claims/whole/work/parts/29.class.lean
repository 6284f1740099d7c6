/-! ===== the class's world ===== -/
/-- a Row at r, its numbers at a: n of them, b outside -/
def zRow (G : zG) (L : List Nat) (f : Nat → va_E) (r a n : Nat) (b : Int) (σ : Int → Int) : Prop := (r ∈ L ∧ f r = .inr (8, [.ref a, .int (iI b)])) ∧ zA G 0 L f a n σ
/-- what is read of a row -/
def zrd (n : Nat) (b : Int) (σ : Int → Int) (i : Int) : Int := if 0 ≤ i ∧ i < n then σ i else b
/-- .. and what is written -/
def zwr (n : Nat) (σ : Int → Int) (i x : Int) : Int → Int := if 0 ≤ i ∧ i < n then zup σ i x else σ
theorem zRow_ne {G : zG} {L : List Nat} {f : Nat → va_E} {r a n : Nat} {b : Int} {σ : Int → Int} (h : zRow G L f r a n b σ) {a2 t n2 : Nat} {σ2 : Int → Int} (h2 : zA G t L f a2 n2 σ2) : r ≠ a2 := by
  intro z
  obtain ⟨-, φ, e, -⟩ := h2
  have h1 := h.1.2
  rw [z, e] at h1
  cases h1
theorem zRow_kept {G : zG} {L L' : List Nat} {f f' : Nat → va_E} {r a n : Nat} {b : Int} {σ : Int → Int} (h : zRow G L f r a n b σ) (hL : ∀ c ∈ L, c ∈ L') (h1 : f' r = f r) (h2 : f' a = f a) : zRow G L' f' r a n b σ := ⟨⟨hL _ h.1.1, by rw [h1]; exact h.1.2⟩, zA_kept h.2 hL h2⟩
/-- a row's numbers written -/
theorem zRow_w {G : zG} {L : List Nat} {f f' : Nat → va_E} {r a n : Nat} {b : Int} {σ σ' : Int → Int} (h : zRow G L f r a n b σ) (ha : zA G 0 L f' a n σ') (hk : ∀ c, c ≠ a → f' c = f c) : zRow G L f' r a n b σ' := ⟨⟨h.1.1, by rw [hk r (zRow_ne h h.2)]; exact h.1.2⟩, ha⟩
def zcell (c r : Int) : Int := if 0 ≤ c ∧ c ≤ 19 ∧ 0 ≤ r ∧ r ≤ 11 then 20 * r + c else -1
def zhour (d h : Int) : Int := if 0 ≤ d ∧ d ≤ 9 ∧ 0 ≤ h ∧ h ≤ 23 then 24 * d + h else -1
theorem zfd {a b q : Int} (hb : 0 < b) (hq : q = a.tdiv b) : (q = a / b ∧ (0 ≤ a ∨ q * b = a) ∧ q * b ≤ a ∧ a - b < q * b) ∨ (a < 0 ∧ q - 1 = a / b ∧ q * b ≠ a ∧ a < q * b ∧ q * b < a + b) := by
  have hm := Int.emod_nonneg a (Int.ne_of_gt hb)
  have hl := Int.emod_lt_of_pos a hb
  have hd := Int.tdiv_eq_ediv (a := a) (b := b)
  have he : b * (a / b) + a % b = a := Int.mul_ediv_add_emod a b
  have hs : b.sign = 1 := Int.sign_eq_one_of_pos hb
  by_cases h : 0 ≤ a ∨ b ∣ a
  · rw [if_pos h] at hd
    have hd : q = a / b := by omega
    left
    have e : q * b = a - a % b := by rw [hd, Int.mul_comm]; omega
    refine ⟨hd, ?_, by omega, by omega⟩
    rcases h with h | h
    · exact Or.inl h
    · right; have := Int.emod_eq_zero_of_dvd h; omega
  · rw [if_neg h, hs] at hd
    have h0 : a % b ≠ 0 := fun z => h (Or.inr (Int.dvd_of_emod_eq_zero z))
    have hd : q = a / b + 1 := by omega
    right
    have e : q * b = a - a % b + b := by rw [hd, Int.add_mul, Int.one_mul, Int.mul_comm]; omega
    exact ⟨by omega, by omega, by omega, by omega, by omega⟩
section ZXOR
variable {p : Program} {l : Launch} {e : Env} {R : Room} {s : State} {m : MethodId} {args : Array Value} {below : List Frame} {meth : Method} {c : Code} {cells slots : Nat} {Q : State → Prop}
variable {G : zG} {X : (Nat → Prop) → State → Prop} {A : Nat → Prop} {nL : Nat} {L : List Nat} {f : Nat → va_E} {cc : ByteArray} {own : String} {pc : Nat} {ls : List (Nat × Value)} {st : List Value} {ret : Option FieldType}
theorem z_ixorS (C : ZC G X p l s m args meth c A nL ret cc own) {a b : Int} (hd : decode cc pc = .ok (.ixor, 1)) (ha : zR a) (hb : 0 < b ∧ b < 2147483648) (K : ∀ w : Int, zR w → (w < 0 ↔ a < 0) → ZW G p l e R s m args below meth c A nL cells slots Q L f (pc + 1) ls (.int (iI w) :: st)) : ZW G p l e R s m args below meth c A nL cells slots Q L f pc ls (.int (iI b) :: .int (iI a) :: st) := by
  intro H locs la hP hD hS hl
  refine lv_ixor C.1 C.2.1 hd ?_
  have h1 : ((iI a ^^^ iI b).toInt < 0) ↔ a < 0 := by
    have m1 : (iI a).toBitVec.msb = decide (a < 0) := by rw [BitVec.msb_eq_toInt]; show decide ((iI a).toInt < 0) = _; rw [iI_toInt ha]
    have m2 : (iI b).toBitVec.msb = false := by rw [BitVec.msb_eq_toInt]; show decide ((iI b).toInt < 0) = _; rw [iI_toInt ⟨by omega, by omega⟩]; exact decide_eq_false (by omega)
    have m3 : (iI a ^^^ iI b).toBitVec.msb = decide (a < 0) := by rw [Int32.toBitVec_xor, BitVec.msb_xor, m1, m2, Bool.xor_false]
    rw [BitVec.msb_eq_toInt] at m3
    exact decide_eq_decide.mp m3
  rw [iI_of (iI a ^^^ iI b)]
  exact K _ (iI_rng _) h1 H locs la hP hD hS hl
end ZXOR
theorem zcell_rng (c r : Int) : -1 ≤ zcell c r ∧ zcell c r < 240 := by unfold zcell; split <;> omega
theorem zhour_rng (d h : Int) : -1 ≤ zhour d h ∧ zhour d h < 240 := by unfold zhour; split <;> omega
section ZMF
variable {l : Launch} {G : zG} {X : (Nat → Prop) → State → Prop} {L : List Nat} {f : Nat → va_E} {cc : ByteArray} {ret : Option FieldType}
/-- a contract of a member that the machine has no entry for, of a class that has entries -/
theorem zM_introF {ρ : Type} {en : ρ → Option Value} {R0 : ρ → List Nat → (Nat → va_E) → Prop} {k mc ms : Nat} {av : List Value} {maxL : Nat} {y : MethodName} (hX : zX X) (hy : plainFor y = true) (hav : (lg_sl av).length ≤ maxL)
    (body : ∀ (p : Program) (e : Env) (s : State) (m : MethodId) (args : Array Value) (below : List Frame) (meth : Method) (c : Code) (A : Nat → Prop), ZC G X p l s m args meth c A maxL ret cc y.cls → (y.name = "<init>" → meth.name = "<init>") → ZW G p l e (zRm k mc ms) s m args below meth c A maxL 0 0 (MQ below (zQ G en R0 A) args s mc ms A) L f 0 (lv_args 0 av) []) : zM l G X y (.code y cc maxL ret :: zT) k mc ms av L f en R0 := by
  intro sz
  refine va_MetF (cc := cc) (maxL := maxL) (ret := ret) hy rfl ?_
  intro p e s m args below meth c s₁ B hml hv
  obtain ⟨rfl, hsz, hP, hK, hD0, hXs⟩ := hv
  have hts := atoms_spec (ws := .code y cc maxL ret :: zT) B.pre
  have hown : s.vm.findClass y.cls = some m.cls := findClass_of_methodNamed B.named
  subst hsz
  have hD := hD0.self (sz := s.heap.size)
  rw [lg_entry_eq]
  exact body p e s m _ below meth c (va_A (va_pl L f) s.heap.size) ⟨B.exec, B.bytes, hml, hown, fun w h => hts w (List.mem_cons_of_mem _ h), hK, fun q h => Or.inr h, B.notSynchronized, B.returns, hXs, hX⟩ (fun h => by rw [(name_of_methodNamed B.named B.method).1]; exact h) s.heap [] _ hP hD va_S.rf (lv_entry av hav)
end ZMF
