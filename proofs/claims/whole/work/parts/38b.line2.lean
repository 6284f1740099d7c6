/-- a line's number of cell k at side t, or NO -/
def zls (s : Int → Int) (k t : Int) : Int := if 0 ≤ k ∧ k ≤ 19 ∧ -3 ≤ t ∧ t ≤ 3 then s (7 * k + t + 3) else zNO
theorem zls_in {s : Int → Int} {k t : Int} (h : 0 ≤ k ∧ k ≤ 19 ∧ -3 ≤ t ∧ t ≤ 3) : zls s k t = s (7 * k + t + 3) := if_pos h
theorem zrd_slot (s : Int → Int) (k t : Int) : zrd 140 (-1000000) (fun p => cN (s p)) (zslot k t) = cN (zls s k t) := by
  unfold zrd zslot zls
  by_cases h : 0 ≤ k ∧ k ≤ 19 ∧ -3 ≤ t ∧ t ≤ 3
  · rw [if_pos h, if_pos h, if_pos ⟨by omega, by omega⟩]
  · rw [if_neg h, if_neg h, if_neg (by omega), cN_no]
theorem zls_cr {s : Int → Int} (h : zCr s) (k t : Int) : zls s k t = zNO ∨ (-108 ≤ zls s k t ∧ zls s k t ≤ 208) := by
  unfold zls
  split
  · exact h _
  · exact Or.inl rfl
abbrev zspk (rd : Int → Int) (k t : Int) : Prop := zls rd k t ≠ zNO ∧ ¬ (zls rd (k - 1) t = zNO ∧ zls rd (k + 1) t = zNO) ∧ (zls rd (k - 1) t = zNO ∨ spFar (zls rd k t) (zls rd (k - 1) t)) ∧ (zls rd (k + 1) t = zNO ∨ spFar (zls rd k t) (zls rd (k + 1) t))
abbrev zgood2 (rd : Int → Int) (k t : Int) : Prop := zls rd k t ≠ zNO ∧ ¬ zspk rd k t
