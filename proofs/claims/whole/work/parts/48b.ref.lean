/-- the reductions of the lines before k, the others' as they were -/
def rdk (μ : zMu) (rd : Nat → Int → Int) (k : Int) : Nat → Int → Int := fun j => if (j : Int) < k then zrl μ j else rd j
abbrev zrd0 (μ : zMu) (rd : Nat → Int → Int) : Prop := ∀ l : Nat, (l : Int) < μ 2 0 → ∀ p, 7 * spSize μ l ≤ p → p < 140 → rd l p = zNO
section ZREF
variable {G : zG} {L : List Nat} {f f' : Nat → va_E} {o : Nat} {ω : Nat → Nat → Nat} {μ : zMu} {ch : Int → Int} {rd : Nat → Int → Int} {tx : List Int}
theorem rdk_s {k : Int} (hk : 0 ≤ k) (h : SR G L f o ω μ ch (fun j => if j = k.toNat then zrl μ ((k.toNat : Nat) : Int) else rdk μ rd k j) tx) : SR G L f o ω μ ch (rdk μ rd (k + 1)) tx := SR_rd h (fun l hl p q0 q1 => by
  unfold rdk
  by_cases q : l = k.toNat
  · rw [if_pos q, if_pos (by omega), q]
  · rw [if_neg q]
    by_cases q2 : (l : Int) < k
    · rw [if_pos q2, if_pos (by omega)]
    · rw [if_neg q2, if_neg (by omega)])
theorem rdk_e {k : Int} (hk : μ 2 0 ≤ k) (h : SR G L f o ω μ ch (rdk μ rd k) tx) : SR G L f o ω μ ch (fun l => zrl μ l) tx := SR_rd h (fun l hl p q0 q1 => by
  unfold rdk
  rw [if_pos (by omega)])
theorem rdk_0 (h : SR G L f o ω μ ch rd tx) : SR G L f o ω μ ch (rdk μ rd 0) tx := SR_rd h (fun l hl p q0 q1 => by
  unfold rdk
  rw [if_neg (by omega)])
theorem zrd0_k {k : Int} (h : zrd0 μ rd) (hk : 0 ≤ k) (hl : k < μ 2 0) : ∀ p, 7 * spSize μ ((k.toNat : Nat) : Int) ≤ p → p < 140 → rdk μ rd k k.toNat p = zNO := fun p q0 q1 => by
  unfold rdk
  rw [if_neg (by omega)]
  exact h k.toNat (by omega) p q0 q1
theorem zrd0_r (μ : zMu) : zrd0 μ (fun l => zrl μ l) := fun l hl p q0 q1 => by
  show zrl μ l p = zNO
  unfold zrl
  by_cases q : 0 ≤ p ∧ p < 140
  · rw [if_pos q, spRed_out (Or.inr (by omega))]
  · rw [if_neg q]
theorem spC1_s (μ : zMu) {k : Int} (hk : 0 ≤ k) (u : Int → Int) : spC1 μ (k + 1).toNat u = spC2 μ k (spSize μ k).toNat (spC1 μ k.toNat u) := by
  unfold spC1
  rw [zfold_s _ hk]
end ZREF
