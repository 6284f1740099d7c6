/-- line l of mu at w, its rows r0 r1 r2 with the numbers at a0 a1 a2: soundings s, errors e, reductions rd -/
def zLn (G : zG) (L : List Nat) (f : Nat → va_E) (w : Nat) (μ : zMu) (l : Int) (r0 r1 r2 a0 a1 a2 : Nat) (s e rd : Int → Int) : Prop :=
  (w ∈ L ∧ f w = .inr (7, [.int (iI (μ 12 l)), .int (iI (μ 13 l)), .int (iI (μ 14 l)), .int (iI (μ 15 l)), .int (iI (spSize μ l)), .int (iI (μ 16 l)), .int (iI (μ 17 l)), .ref r0, .ref r1, .ref r2])) ∧ zRow G L f r0 a0 140 (-1000000) (fun p => cN (s p)) ∧ zRow G L f r1 a1 140 0 e ∧ zRow G L f r2 a2 140 (-1000000) (fun p => cN (rd p))
/-- a line's numbers in their bounds -/
abbrev zLB (μ : zMu) (l : Int) : Prop := 0 ≤ μ 12 l ∧ μ 12 l ≤ 1 ∧ 0 ≤ μ 13 l ∧ μ 13 l ≤ 19 ∧ 0 ≤ μ 14 l ∧ μ 14 l ≤ 19 ∧ 0 ≤ μ 15 l ∧ μ 15 l ≤ 19 ∧ 0 ≤ μ 16 l ∧ μ 16 l ≤ 9 ∧ 0 ≤ μ 17 l ∧ μ 17 l ≤ 23
theorem zLB_sz {μ : zMu} {l : Int} (h : zLB μ l) : 1 ≤ spSize μ l ∧ spSize μ l ≤ 20 := by unfold spSize; split <;> omega
def zslot (k s : Int) : Int := if 0 ≤ k ∧ k ≤ 19 ∧ -3 ≤ s ∧ s ≤ 3 then 7 * k + s + 3 else -1
theorem zslot_rng (k s : Int) : -1 ≤ zslot k s ∧ zslot k s < 140 := by unfold zslot; split <;> omega
