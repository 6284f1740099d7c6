/-! ===== making: objects, rows of references, and what a making leaves as it was ===== -/
/-- more cells, the old ones as they were -/
def zExt (L : List Nat) (f : Nat → va_E) (L' : List Nat) (f' : Nat → va_E) : Prop := ∀ c ∈ L, c ∈ L' ∧ f' c = f c
/-- .. but o -/
def zFr (L : List Nat) (f : Nat → va_E) (L' : List Nat) (f' : Nat → va_E) (o : Nat) : Prop := ∀ c ∈ L, c ∈ L' ∧ (c ≠ o → f' c = f c)
theorem zExt_r (L : List Nat) (f : Nat → va_E) : zExt L f L f := fun _ h => ⟨h, rfl⟩
theorem zExt_t {L L1 L2 : List Nat} {f f1 f2 : Nat → va_E} (h : zExt L f L1 f1) (h2 : zExt L1 f1 L2 f2) : zExt L f L2 f2 := fun c hc => ⟨(h2 c (h c hc).1).1, ((h2 c (h c hc).1).2).trans (h c hc).2⟩
theorem zExt_q {L L2 : List Nat} {f f2 : Nat → va_E} {q : Nat} (hq : q ∉ L) (hL : L2 = L ++ [q]) (hk : ∀ b, b ≠ q → f2 b = f b) : zExt L f L2 f2 := fun c hc => by
  subst hL
  exact ⟨List.mem_append.mpr (Or.inl hc), hk c (fun z => hq (z ▸ hc))⟩
/-- a new object made by its constructor -/
theorem zExt_new {L L2 L3 : List Nat} {f f2 f3 : Nat → va_E} {q : Nat} (hq : q ∉ L) (hL : L2 = L ++ [q]) (hk : ∀ b, b ≠ q → f2 b = f b) (h : zFr L2 f2 L3 f3 q) : zExt L f L3 f3 := fun c hc => by
  subst hL
  have h1 := h c (List.mem_append.mpr (Or.inl hc))
  exact ⟨h1.1, (h1.2 (fun z => hq (z ▸ hc))).trans (hk c (fun z => hq (z ▸ hc)))⟩
theorem zFr_r (L : List Nat) (f : Nat → va_E) (o : Nat) : zFr L f L f o := fun _ h => ⟨h, fun _ => rfl⟩
theorem zFr_e {L L1 L2 : List Nat} {f f1 f2 : Nat → va_E} {o : Nat} (h : zFr L f L1 f1 o) (h2 : zExt L1 f1 L2 f2) : zFr L f L2 f2 o := fun c hc => ⟨(h2 c (h c hc).1).1, fun z => ((h2 c (h c hc).1).2).trans ((h c hc).2 z)⟩
theorem zFr_o {L L1 : List Nat} {f f1 f2 : Nat → va_E} {o : Nat} (h : zFr L f L1 f1 o) (hk : ∀ b, b ≠ o → f2 b = f1 b) : zFr L f L1 f2 o := fun c hc => ⟨(h c hc).1, fun z => (hk c z).trans ((h c hc).2 z)⟩
/-- new numbers written -/
theorem zFr_a {L L1 : List Nat} {f f1 f2 : Nat → va_E} {o a : Nat} (h : zFr L f L1 f1 o) (ha : a ∉ L) (hk : ∀ b, b ≠ a → f2 b = f1 b) : zFr L f L1 f2 o := fun c hc => ⟨(h c hc).1, fun z => (hk c (fun w => ha (w ▸ hc))).trans ((h c hc).2 z)⟩
theorem zFr_no {L L1 : List Nat} {f f1 : Nat → va_E} {o q : Nat} (h : zFr L f L1 f1 o) (hq : q ∉ L1) : q ∉ L := fun z => hq (h q z).1
theorem zExt_no {L L1 : List Nat} {f f1 : Nat → va_E} {q : Nat} (h : zExt L f L1 f1) (hq : q ∉ L1) : q ∉ L := fun z => hq (h q z).1
abbrev zOb (L : List Nat) (f : Nat → va_E) (o ci : Nat) (fs : List Value) : Prop := o ∈ L ∧ f o = .inr (ci, fs)
theorem zOb_e {L L' : List Nat} {f f' : Nat → va_E} {o ci : Nat} {fs : List Value} (h : zOb L f o ci fs) (he : zExt L f L' f') : zOb L' f' o ci fs := ⟨(he o h.1).1, (he o h.1).2.trans h.2⟩
theorem zA_e {G : zG} {t a n : Nat} {L L' : List Nat} {f f' : Nat → va_E} {σ : Int → Int} (h : zA G t L f a n σ) (he : zExt L f L' f') : zA G t L' f' a n σ := zA_kept h (fun b hb => (he b hb).1) (he a h.1).2
theorem zP_e {G : zG} {t a n : Nat} {γ : Nat → Option Nat} {L L' : List Nat} {f f' : Nat → va_E} (h : zP G t L f a n γ) (he : zExt L f L' f') : zP G t L' f' a n γ := zP_kept h (fun b hb => (he b hb).1) (he a h.1).2
theorem zRow_e {G : zG} {L L' : List Nat} {f f' : Nat → va_E} {r a n : Nat} {b : Int} {σ : Int → Int} (h : zRow G L f r a n b σ) (he : zExt L f L' f') : zRow G L' f' r a n b σ := zRow_kept h (fun b hb => (he b hb).1) (he r h.1.1).2 (he a h.2.1).2
theorem zRow_wO {G : zG} {L : List Nat} {f f' : Nat → va_E} {r a n : Nat} {b : Int} {σ : Int → Int} (h : zRow G L f r a n b σ) {o ci : Nat} {vs : List Value} (ho : f o = .inr (ci, vs)) (h8 : ci ≠ 8) (hk : ∀ c, c ≠ o → f' c = f c) : zRow G L f' r a n b σ := zRow_kept h (fun _ q => q) (hk _ (zne_c h.1.2 ho (fun z => h8 z.symm))) (hk _ (zne_A ho h.2).symm)
theorem zP_wO {G : zG} {L : List Nat} {f f' : Nat → va_E} {a t n : Nat} {γ : Nat → Option Nat} (h : zP G t L f a n γ) {o ci : Nat} {vs : List Value} (ho : f o = .inr (ci, vs)) (hk : ∀ c, c ≠ o → f' c = f c) : zP G t L f' a n γ := zP_kept h (fun _ q => q) (hk _ (zne_P ho h).symm)
theorem zSea_e {G : zG} {L L' : List Nat} {f f' : Nat → va_E} {w : Nat} {xr xa : Nat → Nat} {κ : zMu} (h : zSea G L f w xr xa κ) (he : zExt L f L' f') : zSea G L' f' w xr xa κ := ⟨zOb_e h.1 he, zRow_e h.2.1 he, zRow_e h.2.2.1 he, zRow_e h.2.2.2.1 he, zRow_e h.2.2.2.2 he⟩
theorem zGau_e {G : zG} {L L' : List Nat} {f f' : Nat → va_E} {w : Nat} {k : Int} {r a : Nat} {F : Int → Int} (h : zGau G L f w k r a F) (he : zExt L f L' f') : zGau G L' f' w k r a F := ⟨zOb_e h.1 he, zRow_e h.2 he⟩
theorem zGs_e {G : zG} {L L' : List Nat} {f f' : Nat → va_E} {w p : Nat} {n : Int} {ga gr gx : Nat → Nat} {k : Int → Int} {F : Nat → Int → Int} (h : zGs G L f w p n ga gr gx k F) (he : zExt L f L' f') : zGs G L' f' w p n ga gr gx k F := ⟨zOb_e h.1 he, zP_e h.2.1 he, fun g hg => zGau_e (h.2.2 g hg) he⟩
theorem zCh_e {G : zG} {L L' : List Nat} {f f' : Nat → va_E} {w r a : Nat} {u : Int → Int} (h : zCh G L f w r a u) (he : zExt L f L' f') : zCh G L' f' w r a u := ⟨zOb_e h.1 he, zRow_e h.2 he⟩
theorem zLn_e {G : zG} {L L' : List Nat} {f f' : Nat → va_E} {w : Nat} {μ : zMu} {l : Int} {r0 r1 r2 a0 a1 a2 : Nat} {s e rd : Int → Int} (h : zLn G L f w μ l r0 r1 r2 a0 a1 a2 s e rd) (he : zExt L f L' f') : zLn G L' f' w μ l r0 r1 r2 a0 a1 a2 s e rd := ⟨zOb_e h.1 he, zRow_e h.2.1 he, zRow_e h.2.2.1 he, zRow_e h.2.2.2 he⟩
/-- the tables' array classes over Gauge and Line -/
abbrev zT2 (X : (Nat → Prop) → State → Prop) : Prop := ∀ A s, X A s → va_AO "SwathSurvey$Gauge" s ∧ va_AO "SwathSurvey$Line" s
section ZNEWG
variable {p : Program} {l : Launch} {e : Env} {R : Room} {s : State} {m : MethodId} {args : Array Value} {below : List Frame} {meth : Method} {c : Code} {cells slots : Nat} {Q : State → Prop}
variable {G : zG} {X : (Nat → Prop) → State → Prop} {A : Nat → Prop} {nL : Nat} {L : List Nat} {f : Nat → va_E} {cc : ByteArray} {own : String} {pc : Nat} {ls : List (Nat × Value)} {st : List Value} {ret : Option FieldType}
theorem z_newG (C : ZC G X p l s m args meth c A nL ret cc own) {idx N ci : Nat} {Cn : String} {T : u_T} {fs : List Value} {ty : Nat → FieldType} (hin : ∀ w ∈ u_ws Cn T N, w ∈ zT) (hty : ∀ k, k < N → parseFieldDescriptor (T k).2.2.1 = some (ty k)) (hlk : Cond.classLink own idx Cn ∈ lw_tbl) (hinst : Cond.instantiable Cn N ∈ lw_tbl) (hini : Cond.initialized Cn ∈ lw_tbl) (hc : vwCl[ci]? = some (Cn, T, N)) (hfs : ∀ j, j < N → defaultValue (ty j) = vp_V fs j) (hcells : cells + 1 ≤ R.cells) (hslots : slots + N ≤ R.slots) (hd : decode cc pc = .ok (.new idx, 3))
    (K : ∀ (q : Nat) (L2 : List Nat) (f2 : Nat → va_E), q ∉ L → L2 = L ++ [q] → zOb L2 f2 q ci fs → (∀ b, b ≠ q → f2 b = f b) → ZW G p l e R s m args below meth c A nL (cells + 1) (slots + N) Q L2 f2 (pc + 3) ls (.ref q :: st)) : ZW G p l e R s m args below meth c A nL cells slots Q L f pc ls st :=
  z_new C hin hty hlk hinst hini hc hfs hcells hslots hd (fun q hq => K q _ _ hq rfl ⟨List.mem_append.mpr (Or.inr (List.mem_singleton.mpr rfl)), va_up_self _ _ _⟩ (fun b hb => va_up_ne _ _ hb))
theorem z_newq (C : ZC G X p l s m args meth c A nL ret cc own) {idx t : Nat} {Cn : String} {n : Int} (N : Nat) (hO : va_AO Cn s) (ht : (zY G)[t]? = some (G.2 t, .object Cn)) (hlk : Cond.classLink own idx Cn ∈ lw_tbl) (hn : n = N) (hN : N < 2147483648) (hbytes : N * 4 ≤ 536870912) (hcells : cells + 1 ≤ R.cells) (hslots : slots + N ≤ R.slots) (hd : decode cc pc = .ok (.anewarray idx, 3))
    (K : ∀ (q : Nat) (L2 : List Nat) (f2 : Nat → va_E), q ∉ L → L2 = L ++ [q] → zP G t L2 f2 q N (fun _ => none) → (∀ b, b ≠ q → f2 b = f b) → ZW G p l e R s m args below meth c A nL (cells + 1) (slots + N) Q L2 f2 (pc + 3) ls (.ref q :: st)) : ZW G p l e R s m args below meth c A nL cells slots Q L f pc ls (.int (iI n) :: st) := by
  intro H locs la hP hD hS hl
  refine va_newq (N' := N) C.1 C.2.1 C.2.2.2.1 (C.w hlk rfl) hO C.2.2.2.2.2.1 hP hD hS C.2.2.2.2.2.2.1 (by rw [hn]; have := iI_le (a := 0) (b := (N : Int)) ⟨by omega, by omega⟩ ⟨by omega, by omega⟩; exact Int32.not_lt.mpr (this.mpr (by omega))) (by rw [hn, iI_clamp (by omega) (by omega)]; omega) hbytes hcells hslots hd (fun q cA H1 hK1 hP1 hD1 hS1 => ?_)
  have hcA : cA = G.2 t := by
    obtain ⟨k1, k2, -, -, -, k3⟩ := (hK1.2 (zY G).length (cA, .object Cn) (by rw [List.getElem?_append_right (Nat.le_refl _), Nat.sub_self]; rfl)).2
    obtain ⟨j1, j2, -, -, -, j3⟩ := (C.2.2.2.2.2.1.2 t _ ht).2
    exact Option.some.inj (k3.symm.trans j3)
  subst hcA
  have hq : q ∉ L := z_fresh (H1 := H1) hP hD1
  rw [va_pl_push hq] at hP1 hD1
  exact K q _ _ hq rfl ⟨List.mem_append.mpr (Or.inr (List.mem_singleton.mpr rfl)), va_up_self _ _ _⟩ (fun b hb => va_up_ne _ _ hb) H1 locs la hP1 hD1 hS1 hl
end ZNEWG
