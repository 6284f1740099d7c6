/-! ===== rows of references ===== -/
def zP (G : zG) (t : Nat) (L : List Nat) (f : Nat → va_E) (a n : Nat) (γ : Nat → Option Nat) : Prop := a ∈ L ∧ f a = .inl (G.2 t, n, .inr (.inr (.inr (.inr γ))))
theorem zP_kept {G : zG} {t a n : Nat} {γ : Nat → Option Nat} {L L' : List Nat} {f f' : Nat → va_E} (h : zP G t L f a n γ) (hL : ∀ b ∈ L, b ∈ L') (hf : f' a = f a) : zP G t L' f' a n γ := ⟨hL _ h.1, by rw [hf]; exact h.2⟩
section ZREFS
variable {p : Program} {l : Launch} {e : Env} {R : Room} {s : State} {m : MethodId} {args : Array Value} {below : List Frame} {meth : Method} {c : Code} {cells slots : Nat} {Q : State → Prop}
variable {G : zG} {X : (Nat → Prop) → State → Prop} {A : Nat → Prop} {nL : Nat} {L : List Nat} {f : Nat → va_E} {cc : ByteArray} {own : String} {pc : Nat} {ls : List (Nat × Value)} {st : List Value} {ret : Option FieldType}
theorem z_aald (C : ZC G X p l s m args meth c A nL ret cc own) {a t n : Nat} {Cn : String} {γ : Nat → Option Nat} {i : Int} (h : zP G t L f a n γ) (ht : (zY G)[t]? = some (G.2 t, .object Cn)) (hn : n < 2147483648) (h0 : 0 ≤ i) (h1 : i < n) (hd : decode cc pc = .ok (.aaload, 1)) (K : ZW G p l e R s m args below meth c A nL cells slots Q L f (pc + 1) ls (va_rf (γ i.toNat) :: st)) : ZW G p l e R s m args below meth c A nL cells slots Q L f pc ls (.int (iI i) :: .ref a :: st) := by
  intro H locs la hP hD hS hl
  obtain ⟨ha, hf⟩ := h
  obtain ⟨q, hq⟩ := va_pl_get (X := []) (f := f) ha
  have hq' : (va_pl L f)[q]? = some (a, .inl (G.2 t, n, .inr (.inr (.inr (.inr γ))))) := by rw [← hf]; exact hq
  exact va_aldq C.1 C.2.1 C.2.2.2.2.2.1 hP q t hq' ht (iI_in hn h0 h1) hd (by rw [iI_clamp h0 (by omega)]; exact K H locs la hP hD hS hl)
theorem z_alenP (C : ZC G X p l s m args meth c A nL ret cc own) {a t n : Nat} {Cn : String} {γ : Nat → Option Nat} (h : zP G t L f a n γ) (ht : (zY G)[t]? = some (G.2 t, .object Cn)) (hd : decode cc pc = .ok (.arraylength, 1)) (K : ZW G p l e R s m args below meth c A nL cells slots Q L f (pc + 1) ls (.int (iI (n : Int)) :: st)) : ZW G p l e R s m args below meth c A nL cells slots Q L f pc ls (.ref a :: st) := by
  intro H locs la hP hD hS hl
  obtain ⟨ha, hf⟩ := h
  obtain ⟨q, hq⟩ := va_pl_get (X := []) (f := f) ha
  have hq' : (va_pl L f)[q]? = some (a, .inl (G.2 t, n, .inr (.inr (.inr (.inr γ))))) := by rw [← hf]; exact hq
  exact va_alen C.1 C.2.1 C.2.2.2.2.2.1 hP q t hq' ht (iI_nat n) hd (K H locs la hP hD hS hl)
theorem z_aast (C : ZC G X p l s m args meth c A nL ret cc own) {a t n v ci : Nat} {r : vw_C} {vs : List Value} {γ : Nat → Option Nat} {i : Int} (h : zP G t L f a n γ) (ht : (zY G)[t]? = some (G.2 t, .object r.1)) (hn : n < 2147483648) (h0 : 0 ≤ i) (h1 : i < n) (hv : v ∈ L ∧ f v = .inr (ci, vs)) (hc : vwCl[ci]? = some r) (hd : decode cc pc = .ok (.aastore, 1)) (K : ∀ f' : Nat → va_E, zP G t L f' a n (va_up γ i.toNat (some v)) → (∀ b, b ≠ a → f' b = f b) → ZW G p l e R s m args below meth c A nL cells slots Q L f' (pc + 1) ls st) : ZW G p l e R s m args below meth c A nL cells slots Q L f pc ls (.ref v :: .int (iI i) :: .ref a :: st) := by
  intro H locs la hP hD hS hl
  obtain ⟨ha, hf⟩ := h
  obtain ⟨q, hq⟩ := va_pl_get (X := []) (f := f) ha
  have hq' : (va_pl L f)[q]? = some (a, .inl (G.2 t, n, .inr (.inr (.inr (.inr γ))))) := by rw [← hf]; exact hq
  obtain ⟨qv, hqv⟩ := va_pl_get (X := []) (f := f) hv.1
  have hqv' : (va_pl L f)[qv]? = some (v, .inr (ci, vs)) := by rw [← hv.2]; exact hqv
  refine va_astq C.1 C.2.1 C.2.2.2.2.2.1 hP hD hS q t qv ci hq' ht hqv' hc (iI_in hn h0 h1) hd (fun H1 locs1 hP1 hD1 hS1 => ?_)
  rw [zpl_set hD ha hq, iI_clamp h0 (by omega)] at hP1 hD1
  exact K _ ⟨ha, va_up_self _ _ _⟩ (fun b hb => va_up_ne _ _ hb) H1 locs1 la hP1 hD1 hS1 hl
theorem z_aconstN (C : ZC G X p l s m args meth c A nL ret cc own) (hd : decode cc pc = .ok (.aconst_null, 1)) (K : ZW G p l e R s m args below meth c A nL cells slots Q L f (pc + 1) ls (va_rf none :: st)) : ZW G p l e R s m args below meth c A nL cells slots Q L f pc ls st :=
  fun H locs la hP hD hS hl => lv_null C.1 C.2.1 hd (K H locs la hP hD hS hl)
end ZREFS
/-- the Gauges at w: n of them, the g-th at ga g in column k g, its row at gr g, its numbers at gx g -/
def zGs (G : zG) (L : List Nat) (f : Nat → va_E) (w p : Nat) (n : Int) (ga gr gx : Nat → Nat) (k : Int → Int) (σ : Nat → Int → Int) : Prop :=
  (w ∈ L ∧ f w = .inr (6, [.ref p, .int (iI n)])) ∧ zP G 6 L f p 3 (fun g => if (g : Int) < n then some (ga g) else none) ∧ ∀ g : Nat, (g : Int) < n → zGau G L f (ga g) (k g) (gr g) (gx g) (σ g)
