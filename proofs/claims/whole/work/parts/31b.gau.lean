/-- a Gauge at w in column k, its row at r -/
def zGau (G : zG) (L : List Nat) (f : Nat → va_E) (w : Nat) (k : Int) (r a : Nat) (σ : Int → Int) : Prop := (w ∈ L ∧ f w = .inr (5, [.int (iI k), .ref r])) ∧ zRow G L f r a 240 0 σ
theorem zGau_ne {G : zG} {L : List Nat} {f : Nat → va_E} {w : Nat} {k : Int} {r a : Nat} {σ : Int → Int} (h : zGau G L f w k r a σ) : w ≠ a := by
  intro z
  obtain ⟨-, φ, e, -⟩ := h.2.2
  have h1 := h.1.2
  rw [z, e] at h1
  cases h1
