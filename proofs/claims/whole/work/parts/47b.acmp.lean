section ZACMP
variable {p : Program} {l : Launch} {e : Env} {R : Room} {s : State} {m : MethodId} {args : Array Value} {below : List Frame} {meth : Method} {c : Code} {cells slots : Nat} {Q : State → Prop}
variable {G : zG} {X : (Nat → Prop) → State → Prop} {A : Nat → Prop} {nL : Nat} {L : List Nat} {f : Nat → va_E} {cc : ByteArray} {own : String} {pc : Nat} {ls : List (Nat × Value)} {st : List Value} {ret : Option FieldType}
theorem z_acmp_eq (C : ZC G X p l s m args meth c A nL ret cc own) {a b : Nat} {off : Int} (tgt : Nat) (hd : decode cc pc = .ok (.if_acmp .eq off, 3)) (ht : (pc : Int) + off = (tgt : Int)) (K1 : a = b → ZW G p l e R s m args below meth c A nL cells slots Q L f tgt ls st) (K2 : a ≠ b → ZW G p l e R s m args below meth c A nL cells slots Q L f (pc + 3) ls st) : ZW G p l e R s m args below meth c A nL cells slots Q L f pc ls (.ref b :: .ref a :: st) :=
  fun H locs la hP hD hS hl => lv_acmp_eq (rx := some a) (ry := some b) C.1 C.2.1 hd ht (fun h => K1 (Option.some.inj h) H locs la hP hD hS hl) (fun h => K2 (fun z => h (by rw [z])) H locs la hP hD hS hl)
theorem z_acmp_eqQ (C : ZC G X p l s m args meth c A nL ret cc own) {a : Nat} {q : Option Nat} {off : Int} (tgt : Nat) (hd : decode cc pc = .ok (.if_acmp .eq off, 3)) (ht : (pc : Int) + off = (tgt : Int)) (K1 : q = some a → ZW G p l e R s m args below meth c A nL cells slots Q L f tgt ls st) (K2 : q ≠ some a → ZW G p l e R s m args below meth c A nL cells slots Q L f (pc + 3) ls st) : ZW G p l e R s m args below meth c A nL cells slots Q L f pc ls (va_rf q :: .ref a :: st) :=
  fun H locs la hP hD hS hl => lv_acmp_eq (rx := some a) (ry := q) C.1 C.2.1 hd ht (fun h => K1 h.symm H locs la hP hD hS hl) (fun h => K2 (fun z => h z.symm) H locs la hP hD hS hl)
end ZACMP
/-- columns left of the reach, and right of it, gain nothing -/
theorem zsum_0 {φ : Int → Int} : ∀ {n : Nat}, (∀ i : Int, 0 ≤ i → i < n → φ i = 0) → zsum φ n = 0
  | 0, _ => rfl
  | n + 1, h => by
    show zsum φ n + φ n = 0
    rw [zsum_0 (fun i q0 q1 => h i q0 (by omega)), h n (by omega) (by omega)]; rfl
theorem spGs_left (μ : zMu) (u : Int → Int) {r c t : Int} (h : t = -spReach (μ 4 (20 * r + c))) (h0 : -3 ≤ t) (h1 : t ≤ 0) : zsum (spGs μ u r c) (t + 3).toNat = 0 := zsum_0 (fun i q0 q1 => bI_0 (fun z => by have := z.1.1; omega))
theorem zsum_tail {φ : Int → Int} {k : Nat} : ∀ {n : Nat}, k ≤ n → (∀ i : Int, (k : Int) ≤ i → i < n → φ i = 0) → zsum φ n = zsum φ k
  | 0, h, _ => by rw [show k = 0 by omega]
  | n + 1, h, hz => by
    by_cases q : k = n + 1
    · rw [q]
    · show zsum φ n + φ n = _
      rw [zsum_tail (n := n) (by omega) (fun i q0 q1 => hz i q0 (by omega)), hz n (by omega) (by omega), Int.add_zero]
theorem spGs_right (μ : zMu) (u : Int → Int) {r c t : Int} (h : t = spReach (μ 4 (20 * r + c)) + 1) (h0 : 0 ≤ t) (h1 : t ≤ 4) : zsum (spGs μ u r c) 7 = zsum (spGs μ u r c) (t + 3).toNat := zsum_tail (by omega) (fun i q0 q1 => bI_0 (fun z => by have := z.1.2; omega))
