theorem cN_cs {z : Int} (h : z = zNO ∨ (-108 ≤ z ∧ z ≤ 208)) : (z = zNO ∧ cN z = -1000000) ∨ (-108 ≤ z ∧ z ≤ 208 ∧ z ≠ zNO ∧ cN z = z) := by
  have hNO : zNO = -2147483648 := rfl
  rcases h with h | h
  · left; exact ⟨h, by rw [h]; exact cN_no⟩
  · right; exact ⟨h.1, h.2, by omega, cN_in (by omega)⟩
theorem cN_up (u : Int → Int) (n : Int) {x : Int} (hx : -108 ≤ x ∧ x ≤ 208) : zup (fun i => cN (u i)) n x = fun i => cN (zup u n x i) := by
  funext i
  unfold zup
  by_cases h : i = n
  · rw [if_pos h, if_pos h, cN_in (by omega)]
  · rw [if_neg h, if_neg h]
/-- a Chart at w, its row at r, the depths u -/
def zCh (G : zG) (L : List Nat) (f : Nat → va_E) (w r a : Nat) (u : Int → Int) : Prop := (w ∈ L ∧ f w = .inr (4, [.ref r])) ∧ zRow G L f r a 240 (-1000000) (fun i => cN (u i))
def zlow (u : Int → Int) (i x : Int) : Int → Int := if u i = zNO ∨ x < u i then zup u i x else u
abbrev zOn (c r : Int) : Prop := 0 ≤ c ∧ c ≤ 19 ∧ 0 ≤ r ∧ r ≤ 11
theorem spGp_rng (u : Int → Int) (i : Int) : ∀ (n : Nat) (c m : Int), 0 ≤ c → c + n ≤ 240 → spGp u i n c m = zNO ∨ (0 ≤ spGp u i n c m ∧ spGp u i n c m ≤ 1200)
  | 0, _, _, _, _ => Or.inl rfl
  | n + 1, c, m, h0, h1 => by
    unfold spGp
    split
    · split
      · right; omega
      · exact spGp_rng u i n (c + 1) (m + 1) (by omega) (by omega)
    · exact spGp_rng u i n (c + 1) m (by omega) (by omega)
