theorem zw_mminS : Cond.static Lib.Math.min.name ∈ lw_tbl := zl_2_100
theorem zw_mminC : Cond.code Lib.Math.min.name Lib.Math.min.code 2 (some .int) ∈ lw_tbl := zl_2_101
theorem zw_mmaxS : Cond.static Lib.Math.max.name ∈ lw_tbl := zl_1_212
theorem zw_mmaxC : Cond.code Lib.Math.max.name Lib.Math.max.code 2 (some .int) ∈ lw_tbl := zl_1_213
theorem zw_mabsS : Cond.static Lib.Math.abs.name ∈ lw_tbl := zl_1_230
theorem zw_mabsC : Cond.code Lib.Math.abs.name Lib.Math.abs.code 1 (some .int) ∈ lw_tbl := zl_1_231
theorem zw_mathI : Cond.initialized "java/lang/Math" ∈ lw_tbl := zl_1_18
section ZMATH
variable {p : Program} {l : Launch} {e : Env} {s : State} {m : MethodId} {args : Array Value} {below : List Frame} {meth : Method} {c : Code} {cells slots k0 mc0 ms0 : Nat} {Q : State → Prop}
variable {G : zG} {X : (Nat → Prop) → State → Prop} {A : Nat → Prop} {nL : Nat} {L : List Nat} {f : Nat → va_E} {cc : ByteArray} {own : String} {pc : Nat} {ls : List (Nat × Value)} {st : List Value} {ret : Option FieldType}
theorem z_mmin (C : ZC G X p l s m args meth c A nL ret cc own) {idx : Nat} {a b : Int} (hlk : Cond.methodLink own idx Lib.Math.min.name ∈ lw_tbl) (hk : 1 ≤ k0) (hc : cells ≤ mc0) (hs : slots ≤ ms0) (ha : zR a) (hb : zR b) (hcat : (st.map fun v => v.category).sum ≤ 8) (hd : decode cc pc = .ok (.invokestatic idx, 3)) (K : ∀ w : Int, (w = b ∧ b < a ∨ w = a ∧ a ≤ b) → ZW G p l e (zRm k0 mc0 ms0) s m args below meth c A nL cells slots Q L f (pc + 3) ls (.int (iI w) :: st)) : ZW G p l e (zRm k0 mc0 ms0) s m args below meth c A nL cells slots Q L f pc ls (.int (iI b) :: .int (iI a) :: st) := by
  intro H locs la hP hD hS hl
  refine va_mmin C.1 C.2.1 (C.2.2.1.trans hl.1.symm) C.2.2.2.1 (C.w hlk rfl) (C.w zw_mminS rfl) (C.w zw_mathI rfl) (C.w zw_mminC rfl) hk (by show _ ≤ 60 * k0; omega) hc hs hd ?_
  by_cases h : b < a
  · rw [if_pos ((iI_lt hb ha).mpr h)]; exact K b (Or.inl ⟨rfl, h⟩) H locs la hP hD hS hl
  · rw [if_neg (fun z => h ((iI_lt hb ha).mp z))]; exact K a (Or.inr ⟨rfl, by omega⟩) H locs la hP hD hS hl
theorem z_mmax (C : ZC G X p l s m args meth c A nL ret cc own) {idx : Nat} {a b : Int} (hlk : Cond.methodLink own idx Lib.Math.max.name ∈ lw_tbl) (hk : 1 ≤ k0) (hc : cells ≤ mc0) (hs : slots ≤ ms0) (ha : zR a) (hb : zR b) (hcat : (st.map fun v => v.category).sum ≤ 8) (hd : decode cc pc = .ok (.invokestatic idx, 3)) (K : ∀ w : Int, (w = b ∧ a < b ∨ w = a ∧ b ≤ a) → ZW G p l e (zRm k0 mc0 ms0) s m args below meth c A nL cells slots Q L f (pc + 3) ls (.int (iI w) :: st)) : ZW G p l e (zRm k0 mc0 ms0) s m args below meth c A nL cells slots Q L f pc ls (.int (iI b) :: .int (iI a) :: st) := by
  intro H locs la hP hD hS hl
  refine va_mmax C.1 C.2.1 (C.2.2.1.trans hl.1.symm) C.2.2.2.1 (C.w hlk rfl) (C.w zw_mmaxS rfl) (C.w zw_mathI rfl) (C.w zw_mmaxC rfl) hk (by show _ ≤ 60 * k0; omega) hc hs hd ?_
  by_cases h : a < b
  · rw [if_pos ((iI_lt ha hb).mpr h)]; exact K b (Or.inl ⟨rfl, h⟩) H locs la hP hD hS hl
  · rw [if_neg (fun z => h ((iI_lt ha hb).mp z))]; exact K a (Or.inr ⟨rfl, by omega⟩) H locs la hP hD hS hl
theorem z_mabs (C : ZC G X p l s m args meth c A nL ret cc own) {idx : Nat} {a : Int} (hlk : Cond.methodLink own idx Lib.Math.abs.name ∈ lw_tbl) (hk : 1 ≤ k0) (hc : cells ≤ mc0) (hs : slots ≤ ms0) (ha : zR a) (hcat : (st.map fun v => v.category).sum ≤ 8) (hd : decode cc pc = .ok (.invokestatic idx, 3)) (K : ∀ w : Int, (w = a ∧ 0 ≤ a ∨ w = -a ∧ a < 0) → ZW G p l e (zRm k0 mc0 ms0) s m args below meth c A nL cells slots Q L f (pc + 3) ls (.int (iI w) :: st)) : ZW G p l e (zRm k0 mc0 ms0) s m args below meth c A nL cells slots Q L f pc ls (.int (iI a) :: st) := by
  intro H locs la hP hD hS hl
  refine va_mabs C.1 C.2.1 (C.2.2.1.trans hl.1.symm) C.2.2.2.1 (C.w hlk rfl) (C.w zw_mabsS rfl) (C.w zw_mathI rfl) (C.w zw_mabsC rfl) hk (by show _ ≤ 60 * k0; omega) hc hs hd ?_
  have e0 : (0 : Int32) = iI 0 := rfl
  by_cases h : 0 ≤ a
  · rw [if_pos (by rw [e0]; exact (iI_le ⟨by omega, by omega⟩ ha).mpr h)]; exact K a (Or.inl ⟨rfl, h⟩) H locs la hP hD hS hl
  · rw [if_neg (by rw [e0]; exact fun z => h ((iI_le ⟨by omega, by omega⟩ ha).mp z)), e0, iI_sub, show (0 : Int) - a = -a by omega]; exact K (-a) (Or.inr ⟨rfl, by omega⟩) H locs la hP hD hS hl
end ZMATH
/-- the Sea at w, its rows at xr 0 .. xr 3 -/
def zSea (G : zG) (L : List Nat) (f : Nat → va_E) (w : Nat) (xr xa : Nat → Nat) (κ : zMu) : Prop := (w ∈ L ∧ f w = .inr (9, [.ref (xr 0), .ref (xr 1), .ref (xr 2), .ref (xr 3)])) ∧ zRow G L f (xr 0) (xa 0) 240 20 (κ 0) ∧ zRow G L f (xr 1) (xa 1) 240 0 (κ 1) ∧ zRow G L f (xr 2) (xa 2) 10 0 (κ 2) ∧ zRow G L f (xr 3) (xa 3) 10 0 (κ 3)
def zSK (κ : zMu) : Prop := (∀ i, 0 ≤ i → i < 240 → 1 ≤ κ 0 i ∧ κ 0 i ≤ 99) ∧ (∀ i, 0 ≤ i → i < 240 → 0 ≤ κ 1 i ∧ κ 1 i ≤ 30) ∧ (∀ i, 0 ≤ i → i < 10 → -2 ≤ κ 2 i ∧ κ 2 i ≤ 2) ∧ (∀ i, 0 ≤ i → i < 10 → 0 ≤ κ 3 i ∧ κ 3 i ≤ 9)
theorem zrd_in {n : Nat} {b : Int} {σ : Int → Int} {i : Int} (h : 0 ≤ i ∧ i < n) : zrd n b σ i = σ i := if_pos h
theorem zcell_in {c r : Int} (h : 0 ≤ c ∧ c ≤ 19 ∧ 0 ≤ r ∧ r ≤ 11) : zcell c r = 20 * r + c := if_pos h
theorem zhour_in {d h : Int} (q : 0 ≤ d ∧ d ≤ 9 ∧ 0 ≤ h ∧ h ≤ 23) : zhour d h = 24 * d + h := if_pos q
theorem zrd_cell (b : Int) (σ : Int → Int) (c r : Int) : zrd 240 b σ (zcell c r) = if 0 ≤ c ∧ c ≤ 19 ∧ 0 ≤ r ∧ r ≤ 11 then σ (20 * r + c) else b := by
  unfold zrd zcell
  by_cases h : 0 ≤ c ∧ c ≤ 19 ∧ 0 ≤ r ∧ r ≤ 11
  · rw [if_pos h, if_pos h, if_pos ⟨by omega, by omega⟩]
  · rw [if_neg h, if_neg h, if_neg (by omega)]
theorem zmul_rng {a c : Int} (ha : -2 ≤ a ∧ a ≤ 2) (hc : 0 ≤ c ∧ c ≤ 19) : -38 ≤ a * c ∧ a * c ≤ 38 := by
  have a1 : a * c ≤ 2 * c := Int.mul_le_mul_of_nonneg_right ha.2 hc.1
  have a2 : -2 * c ≤ a * c := Int.mul_le_mul_of_nonneg_right ha.1 hc.1
  omega
