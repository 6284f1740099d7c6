/-! ===== the law's world: the class's part, the reference's part, the law's own arrays ===== -/
theorem MR_e {G : zG} {L : List Nat} {f f' : Nat → va_E} {o : Nat} {ad : Nat → Nat} {μ : zMu} {t : Int} {u v : Int → Int} (h : MR G L f o ad μ t u v) (hf : ∀ a ∈ L, f' a = f a) : MR G L f' o ad μ t u v := by
  have he : zExt L f L f' := fun a ha => ⟨ha, hf a ha⟩
  obtain ⟨⟨h1, h2⟩, h3, h4, a4, a5, a6, a7, a8, a9, a10, a11, a12, a13, a14, a15, a16, a17, a18, a19, a20⟩ := h
  exact ⟨⟨h1, by rw [hf _ h1]; exact h2⟩, h3, h4, zA_e a4 he, zA_e a5 he, zA_e a6 he, zA_e a7 he, zA_e a8 he, zA_e a9 he, zA_e a10 he, zA_e a11 he, zA_e a12 he, zA_e a13 he, zA_e a14 he, zA_e a15 he, zA_e a16 he, zA_e a17 he, zA_e a18 he, zA_e a19 he, zA_e a20 he⟩
def zLWx (G : zG) (L : List Nat) (f : Nat → va_E) (oc om aL aD : Nat) (μc μm : zMu) (Lc Lm : List Nat) (ad : Nat → Nat) (t : Int) (u v : Int → Int) (φ : Nat → Int64) (ψ : Nat → UInt64) : Prop :=
  (∀ a ∈ Lc, a ∈ L) ∧ Lc.Nodup ∧ (∀ a ∈ Lm, a ∈ L) ∧ Lm.Nodup ∧ (∀ a ∈ Lm, a ∉ Lc) ∧ (aL ∉ Lc ∧ aL ∉ Lm) ∧ (aD ∉ Lc ∧ aD ∉ Lm) ∧ zLA G L f aL φ ∧ zDA G L f aD ψ ∧ CSx G Lc f oc μc ∧ MR G Lm f om ad μm t u v
def zLW (G : zG) (L : List Nat) (f : Nat → va_E) (oc om aL aD : Nat) (μ : zMu) : Prop := ∃ (Lc Lm : List Nat) (ad : Nat → Nat) (t : Int) (u v : Int → Int) (φ : Nat → Int64) (ψ : Nat → UInt64), zLWx G L f oc om aL aD μ μ Lc Lm ad t u v φ ψ
section ZLW
variable {G : zG} {L : List Nat} {f : Nat → va_E} {oc om aL aD : Nat} {μ μc μm : zMu} {Lc Lm : List Nat} {ad : Nat → Nat} {t : Int} {u v : Int → Int} {φ : Nat → Int64} {ψ : Nat → UInt64}
theorem zLWx.s (h : zLWx G L f oc om aL aD μc μm Lc Lm ad t u v φ ψ) : ∀ a ∈ Lc, a ∈ L := h.1
theorem zLWx.n (h : zLWx G L f oc om aL aD μc μm Lc Lm ad t u v φ ψ) : Lc.Nodup := h.2.1
theorem zLWx.ms (h : zLWx G L f oc om aL aD μc μm Lc Lm ad t u v φ ψ) : ∀ a ∈ Lm, a ∈ L := h.2.2.1
theorem zLWx.mn (h : zLWx G L f oc om aL aD μc μm Lc Lm ad t u v φ ψ) : Lm.Nodup := h.2.2.2.1
theorem zLWx.d (h : zLWx G L f oc om aL aD μc μm Lc Lm ad t u v φ ψ) : ∀ a ∈ Lm, a ∉ Lc := h.2.2.2.2.1
theorem zLWx.l (h : zLWx G L f oc om aL aD μc μm Lc Lm ad t u v φ ψ) : aL ∉ Lc ∧ aL ∉ Lm := h.2.2.2.2.2.1
theorem zLWx.dd (h : zLWx G L f oc om aL aD μc μm Lc Lm ad t u v φ ψ) : aD ∉ Lc ∧ aD ∉ Lm := h.2.2.2.2.2.2.1
theorem zLWx.A (h : zLWx G L f oc om aL aD μc μm Lc Lm ad t u v φ ψ) : zLA G L f aL φ := h.2.2.2.2.2.2.2.1
theorem zLWx.D (h : zLWx G L f oc om aL aD μc μm Lc Lm ad t u v φ ψ) : zDA G L f aD ψ := h.2.2.2.2.2.2.2.2.1
theorem zLWx.C (h : zLWx G L f oc om aL aD μc μm Lc Lm ad t u v φ ψ) : CSx G Lc f oc μc := h.2.2.2.2.2.2.2.2.2.1
theorem zLWx.M (h : zLWx G L f oc om aL aD μc μm Lc Lm ad t u v φ ψ) : MR G Lm f om ad μm t u v := h.2.2.2.2.2.2.2.2.2.2
theorem zLWx.ne (h : zLWx G L f oc om aL aD μc μm Lc Lm ad t u v φ ψ) : aL ≠ aD := fun z => by
  have h1 := h.A.2
  rw [z, h.D.2] at h1
  have h3 := (Prod.mk.inj (Prod.mk.inj (Sum.inl.inj h1)).2).2
  cases h3
/-- behind a wrapper -/
theorem zLWx_w {ov : Int → Int64} {tt : Int × Int × zMu} {z : Int} {L' : List Nat} {f' : Nat → va_E} (h : zLWx G L f oc om aL aD μc μm Lc Lm ad t u v φ ψ) (hq : zWQ G L Lc f oc aL ov tt z L' f') :
    ∃ (Lc' : List Nat) (φ' : Nat → Int64), zLWx G L' f' oc om aL aD tt.2.2 μm Lc' Lm ad t u v φ' ψ ∧ (tt.1 = 0 → φ' 0 = ov tt.2.1) ∧ z = tt.1 ∧ 0 ≤ tt.1 ∧ tt.1 ≤ 4 := by
  obtain ⟨hz, h04, Lc', hs, hn, hC, hk, φ', hA, hφ⟩ := hq
  have km : ∀ a ∈ Lm, a ∈ L' ∧ a ∉ Lc' ∧ f' a = f a := fun a ha => by
    have q := hk a (h.ms a ha) (h.d a ha)
    exact ⟨q.1, q.2.1, q.2.2 (fun z => h.l.2 (z ▸ ha))⟩
  have kl := hk aL h.A.1 h.l.1
  have kd := hk aD h.D.1 h.dd.1
  exact ⟨Lc', φ', ⟨hs, hn, fun a ha => (km a ha).1, h.mn, fun a ha => (km a ha).2.1, ⟨kl.2.1, h.l.2⟩, ⟨kd.2.1, h.dd.2⟩, hA, ⟨kd.1, by rw [kd.2.2 (fun z => h.ne z.symm)]; exact h.D.2⟩, hC, MR_e h.M (fun a ha => (km a ha).2.2)⟩, hφ, hz, h04⟩
theorem zLWx_wd {z : Int} {L' : List Nat} {f' : Nat → va_E} (h : zLWx G L f oc om aL aD μc μm Lc Lm ad t u v φ ψ) (hq : zWD G L Lc f oc aD μc z L' f') :
    ∃ (Lc' : List Nat) (ψ' : Nat → UInt64), zLWx G L' f' oc om aL aD μc μm Lc' Lm ad t u v φ ψ' ∧ (spCharted μc = 0 ∧ z = 1 ∨ spCharted μc ≠ 0 ∧ z = 0) ∧ (z = 0 → ψ' 0 = FP.ddiv (FP.i2d (iI (spSum μc))) (FP.i2d (iI (spCharted μc)))) := by
  obtain ⟨hz, Lc', hs, hn, hC, hk, ψ', hA, hφ⟩ := hq
  have km : ∀ a ∈ Lm, a ∈ L' ∧ a ∉ Lc' ∧ f' a = f a := fun a ha => by
    have q := hk a (h.ms a ha) (h.d a ha)
    exact ⟨q.1, q.2.1, q.2.2 (fun z => h.dd.2 (z ▸ ha))⟩
  have kl := hk aL h.A.1 h.l.1
  have kd := hk aD h.D.1 h.dd.1
  exact ⟨Lc', ψ', ⟨hs, hn, fun a ha => (km a ha).1, h.mn, fun a ha => (km a ha).2.1, ⟨kl.2.1, h.l.2⟩, ⟨kd.2.1, h.dd.2⟩, ⟨kl.1, by rw [kl.2.2 h.ne]; exact h.A.2⟩, hA, hC, MR_e h.M (fun a ha => (km a ha).2.2)⟩, hz, hφ⟩
/-- behind a call of the reference -/
theorem zLWx_m {L2 : List Nat} {f1 f2 : Nat → va_E} {t' : Int} {μ' : zMu} {u' v' : Int → Int} (h : zLWx G L f oc om aL aD μc μm Lc Lm ad t u v φ ψ) (hm : zMrg L Lm f Lm f1 L2 f2) (hM : MR G Lm f1 om ad μ' t' u' v') : zLWx G L2 f2 oc om aL aD μc μ' Lc Lm ad t' u' v' φ ψ := by
  have hin : ∀ a ∈ L, a ∈ L2 := fun a ha => by
    by_cases q : a ∈ Lm
    · exact (hm.2.1 a).mpr (Or.inl q)
    · exact (hm.2.1 a).mpr (Or.inr ⟨ha, q⟩)
  have hk : ∀ a ∈ L, a ∉ Lm → f2 a = f a := fun a ha q => (hm.2.2.2 a ha q).2
  have hcm : ∀ a ∈ Lc, a ∉ Lm := fun a ha q => h.d a q ha
  exact ⟨fun a ha => hin a (h.s a ha), h.n, fun a ha => hin a (h.ms a ha), h.mn, h.d, h.l, h.dd, ⟨hin _ h.A.1, by rw [hk _ h.A.1 h.l.2]; exact h.A.2⟩, ⟨hin _ h.D.1, by rw [hk _ h.D.1 h.dd.2]; exact h.D.2⟩, CSx_e h.C (fun a ha => hk a (h.s a ha) (hcm a ha)), MR_e hM hm.2.2.1⟩
/-- behind a call of the class -/
theorem zLWx_c {L2 Lc' : List Nat} {f1 f2 : Nat → va_E} {μ' : zMu} (h : zLWx G L f oc om aL aD μc μm Lc Lm ad t u v φ ψ) (hm : zMrg L Lc f Lc' f1 L2 f2) (hC : CSx G Lc' f1 oc μ') : zLWx G L2 f2 oc om aL aD μ' μm Lc' Lm ad t u v φ ψ := by
  have hr : ∀ a ∈ L, a ∉ Lc → a ∈ L2 ∧ a ∉ Lc' ∧ f2 a = f a := fun a ha q => ⟨(hm.2.1 a).mpr (Or.inr ⟨ha, q⟩), (hm.2.2.2 a ha q).1, (hm.2.2.2 a ha q).2⟩
  have kl := hr aL h.A.1 h.l.1
  have kd := hr aD h.D.1 h.dd.1
  have km : ∀ a ∈ Lm, a ∈ L2 ∧ a ∉ Lc' ∧ f2 a = f a := fun a ha => hr a (h.ms a ha) (h.d a ha)
  exact ⟨fun a ha => (hm.2.1 a).mpr (Or.inl ha), hm.1, fun a ha => (km a ha).1, h.mn, fun a ha => (km a ha).2.1, ⟨kl.2.1, h.l.2⟩, ⟨kd.2.1, h.dd.2⟩, ⟨kl.1, by rw [kl.2.2]; exact h.A.2⟩, ⟨kd.1, by rw [kd.2.2]; exact h.D.2⟩, CSx_e hC hm.2.2.1, MR_e h.M (fun a ha => (km a ha).2.2)⟩
theorem zLW_mk (h : zLWx G L f oc om aL aD μ μ Lc Lm ad t u v φ ψ) : zLW G L f oc om aL aD μ := ⟨Lc, Lm, ad, t, u, v, φ, ψ, h⟩
end ZLW
/-- the law's locals at the loop's head -/
abbrev zLb (i : Int) (b oc om aL aD : Nat) : List (Nat × Value) := [(5, .int (iI i)), (0, .ref b), (1, .ref oc), (2, .ref om), (3, .ref aL), (4, .ref aD)]
section ZTAIL
variable {p : Program} {l : Launch} {e : Env} {R : Room} {s : State} {m : MethodId} {args : Array Value} {below : List Frame} {meth : Method} {c : Code} {cells slots : Nat} {Q : State → Prop}
variable {G : zG} {X : (Nat → Prop) → State → Prop} {A : Nat → Prop} {L : List Nat} {f : Nat → va_E} {cc : ByteArray} {own : String} {ret : Option FieldType}
/-- what the law does behind the two calls: both threw the same, and where none threw, both answered the same -/
theorem z_tail (C : ZC G X p l s m args meth c A 10 ret cc own) (hX : zX X) {b oc om aL aD idx P : Nat} {g i z2 t : Int} {μ : zMu} {Lc Lm : List Nat} {ad : Nat → Nat} {u v : Int → Int} {φ : Nat → Int64} {ψ : Nat → UInt64} (hW : zLWx G L f oc om aL aD μ μ Lc Lm ad t u v φ ψ) (ht : 0 ≤ t ∧ t ≤ 4) (hφ : t = 0 → φ 0 = zov z2) (hr : 0 + 1 ≤ R.frames ∧ 8 + (1 + 11) + 60 * 0 ≤ R.locals) (hc : cells ≤ R.cells) (hs : slots ≤ R.slots) (hlk : Cond.methodLink own idx yX7_thrown ∈ lw_tbl)
    (d0 : decode cc P = .ok (.istore 7, 2)) (d2 : decode cc (P + 2) = .ok (.aload_n 2, 1)) (d3 : decode cc (P + 3) = .ok (.invokevirtual idx, 3)) (d6 : decode cc (P + 6) = .ok (.iload 6, 2)) (d8 : decode cc (P + 8) = .ok (.if_icmp .eq 5, 3)) (d13 : decode cc (P + 13) = .ok (.iload 6, 2)) (d15 : decode cc (P + 15) = .ok (.ifCond .ne 15, 3)) (d18 : decode cc (P + 18) = .ok (.aload_n 3, 1)) (d19 : decode cc (P + 19) = .ok (.iconst 0, 1)) (d20 : decode cc (P + 20) = .ok (.laload, 1)) (d21 : decode cc (P + 21) = .ok (.iload 7, 2)) (d23 : decode cc (P + 23) = .ok (.i2l, 1)) (d24 : decode cc (P + 24) = .ok (.lcmp, 1)) (d25 : decode cc (P + 25) = .ok (.ifCond .eq 5, 3)) (d30 : decode cc (P + 30) = .ok (.goto g, 3)) (hg : ((P + 30 : Nat) : Int) + g = ((2409 : Nat) : Int))
    (K : ∀ (L2 : List Nat) (f2 : Nat → va_E), zLW G L2 f2 oc om aL aD μ → ZW G p l e R s m args below meth c A 10 cells slots Q L2 f2 2409 ((7, .int (iI z2)) :: (6, .int (iI t)) :: zLb i b oc om aL aD) []) : ZW G p l e R s m args below meth c A 10 cells slots Q L f P ((6, .int (iI t)) :: zLb i b oc om aL aD) [.int (iI z2)] := by
  refine z_istore (ls' := (7, .int (iI z2)) :: (6, .int (iI t)) :: zLb i b oc om aL aD) C d0 (by decide) rfl ?_
  refine z_aload_n (k := 2) C 5 d2 rfl ?_
  refine z_cVs (As := []) C hW.ms hW.mn zc_X7_thrown (c_X7_thrown hX hW.M) hlk hr hc hs hW.M.1.1 hW.M.1.2 rfl rfl rfl rfl (Nat.le_of_ble_eq_true rfl) d3 (fun z Lm1 f1 L2 f2 hq hm => ?_)
  obtain ⟨rfl, rfl, rfl⟩ := hq
  have hW2 := zLWx_m hW hm hW.M
  have hGo : ZW G p l e R s m args below meth c A 10 (cells + 0) (slots + 0) Q L2 f2 (P + 30) ((7, .int (iI z2)) :: (6, .int (iI z)) :: zLb i b oc om aL aD) [] :=
    z_goto C 2409 d30 hg (K L2 f2 (zLW_mk hW2))
  refine z_iload (k := 6) C 1 d6 rfl ?_
  refine z_same C (P + 13) d8 (by omega) ?_
  refine z_iload (k := 6) C 1 d13 rfl ?_
  refine z_if_ne C (P + 30) d15 (by omega) (by omega) (fun _ => hGo) (fun h0 => ?_)
  refine z_aload_n (k := 3) C 6 d18 rfl ?_
  refine z_iconst C d19 ?_
  refine z_lald C hW2.A d20 ?_
  refine z_iload (k := 7) C 0 d21 rfl ?_
  refine z_i2lR C d23 ?_
  rw [hφ h0]
  refine z_lcmpS C d24 ?_
  exact z_if_eq C (P + 30) d25 (by omega) (by decide) (fun _ => hGo) (fun h => absurd rfl h)
end ZTAIL
