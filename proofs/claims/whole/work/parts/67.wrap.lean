/-! ===== what a wrapper of the law leaves ===== -/
/-- behind a wrapper of an op with the answer t: z the throw's number; the class's part has become Lc', the rest is as it was but for the law's long -/
def zWQ (G : zG) (L Lc : List Nat) (f : Nat → va_E) (o aL : Nat) (ov : Int → Int64) (t : Int × Int × zMu) : Int → List Nat → (Nat → va_E) → Prop := fun z L' f' => z = t.1 ∧ (0 ≤ t.1 ∧ t.1 ≤ 4) ∧
  ∃ Lc' : List Nat, (∀ a ∈ Lc', a ∈ L') ∧ Lc'.Nodup ∧ CSx G Lc' f' o t.2.2 ∧ (∀ a ∈ L, a ∉ Lc → a ∈ L' ∧ a ∉ Lc' ∧ (a ≠ aL → f' a = f a)) ∧ ∃ φ : Nat → Int64, zLA G L' f' aL φ ∧ (t.1 = 0 → φ 0 = ov t.2.1)
theorem CSx_e {G : zG} {L : List Nat} {f f' : Nat → va_E} {o : Nat} {μ : zMu} (h : CSx G L f o μ) (hf : ∀ a ∈ L, f' a = f a) : CSx G L f' o μ := by
  obtain ⟨ω, hR, hI, hK⟩ := h
  exact ⟨ω, SR_e hR (fun a ha => ⟨ha, hf a ha⟩), hI, hK⟩
section ZWRAP
variable {G : zG} {L Lc : List Nat} {f : Nat → va_E} {o aL : Nat} {ov : Int → Int64} {t : Int × Int × zMu} {φ : Nat → Int64}
/-- caught -/
theorem zWQ_x {j : Int} {Ls L2 : List Nat} {f1 f2 : Nat → va_E} (hA : zLA G L f aL φ) (hna : aL ∉ Lc) (hm : zMrg L Lc f Ls f1 L2 f2) (hc : CSx G Ls f1 o t.2.2) (e : t.1 = j) (hj : 1 ≤ j ∧ j ≤ 4) : zWQ G L Lc f o aL ov t j L2 f2 :=
  ⟨e.symm, by rw [e]; omega, Ls, fun a ha => (hm.2.1 a).mpr (Or.inl ha), hm.1, CSx_e hc hm.2.2.1, fun a ha h => ⟨(hm.2.1 a).mpr (Or.inr ⟨ha, h⟩), (hm.2.2.2 a ha h).1, fun _ => (hm.2.2.2 a ha h).2⟩, φ, ⟨(hm.2.1 aL).mpr (Or.inr ⟨hA.1, hna⟩), by rw [(hm.2.2.2 aL hA.1 hna).2]; exact hA.2⟩, fun h0 => absurd h0 (by omega)⟩
/-- the law's long behind the call -/
theorem zLA_m {Ls L2 : List Nat} {f1 f2 : Nat → va_E} (hA : zLA G L f aL φ) (hna : aL ∉ Lc) (hm : zMrg L Lc f Ls f1 L2 f2) : zLA G L2 f2 aL φ := ⟨(hm.2.1 aL).mpr (Or.inr ⟨hA.1, hna⟩), by rw [(hm.2.2.2 aL hA.1 hna).2]; exact hA.2⟩
theorem zWQ_n {Ls L2 : List Nat} {f1 f2 f3 : Nat → va_E} {φ3 : Nat → Int64} (hA : zLA G L f aL φ) (hna : aL ∉ Lc) (hm : zMrg L Lc f Ls f1 L2 f2) (hc : CSx G Ls f1 o t.2.2) (e : t.1 = 0) (hA3 : zLA G L2 f3 aL φ3) (hk : ∀ b, b ≠ aL → f3 b = f2 b) (hφ : φ3 0 = ov t.2.1) : zWQ G L Lc f o aL ov t 0 L2 f3 :=
  ⟨e.symm, by rw [e]; omega, Ls, fun a ha => (hm.2.1 a).mpr (Or.inl ha), hm.1, CSx_e hc (fun a ha => by
    rw [hk a (fun z => (hm.2.2.2 aL hA.1 hna).1 (z ▸ ha))]; exact hm.2.2.1 a ha), fun a ha h => ⟨(hm.2.1 a).mpr (Or.inr ⟨ha, h⟩), (hm.2.2.2 a ha h).1, fun hne => by rw [hk a hne]; exact (hm.2.2.2 a ha h).2⟩, φ3, hA3, fun _ => hφ⟩
end ZWRAP
theorem zes1 {t : Int} {a E : String} (h1 : 1 ≤ t) (h : [a][(t - 1).toNat]? = some E) : t = 1 ∧ E = a := by
  obtain ⟨n, hn⟩ : ∃ n : Nat, (t - 1).toNat = n := ⟨_, rfl⟩
  rw [hn] at h
  match n with
  | 0 => cases h; exact ⟨by omega, rfl⟩
  | n + 1 => cases h
theorem zes2 {t : Int} {a b E : String} (h1 : 1 ≤ t) (h : [a, b][(t - 1).toNat]? = some E) : (t = 1 ∧ E = a) ∨ (t = 2 ∧ E = b) := by
  obtain ⟨n, hn⟩ : ∃ n : Nat, (t - 1).toNat = n := ⟨_, rfl⟩
  rw [hn] at h
  match n with
  | 0 => cases h; exact Or.inl ⟨by omega, rfl⟩
  | 1 => cases h; exact Or.inr ⟨by omega, rfl⟩
  | n + 2 => cases h
theorem zes3 {t : Int} {a b d E : String} (h1 : 1 ≤ t) (h : [a, b, d][(t - 1).toNat]? = some E) : (t = 1 ∧ E = a) ∨ (t = 2 ∧ E = b) ∨ (t = 3 ∧ E = d) := by
  obtain ⟨n, hn⟩ : ∃ n : Nat, (t - 1).toNat = n := ⟨_, rfl⟩
  rw [hn] at h
  match n with
  | 0 => cases h; exact Or.inl ⟨by omega, rfl⟩
  | 1 => cases h; exact Or.inr (Or.inl ⟨by omega, rfl⟩)
  | 2 => cases h; exact Or.inr (Or.inr ⟨by omega, rfl⟩)
  | n + 3 => cases h
theorem zes4 {t : Int} {a b d g E : String} (h1 : 1 ≤ t) (h : [a, b, d, g][(t - 1).toNat]? = some E) : (t = 1 ∧ E = a) ∨ (t = 2 ∧ E = b) ∨ (t = 3 ∧ E = d) ∨ (t = 4 ∧ E = g) := by
  obtain ⟨n, hn⟩ : ∃ n : Nat, (t - 1).toNat = n := ⟨_, rfl⟩
  rw [hn] at h
  match n with
  | 0 => cases h; exact Or.inl ⟨by omega, rfl⟩
  | 1 => cases h; exact Or.inr (Or.inl ⟨by omega, rfl⟩)
  | 2 => cases h; exact Or.inr (Or.inr (Or.inl ⟨by omega, rfl⟩))
  | 3 => cases h; exact Or.inr (Or.inr (Or.inr ⟨by omega, rfl⟩))
  | n + 4 => cases h
abbrev zov (v : Int) : Int64 := (iI v).toInt64
def zovB (v : Int) : Int64 := if v = 0 then iL 0 else iL 1
