theorem fp_enc {d : FP.Core.Datum} (h : fp_ok FP.Core.b64 d) : FP.Core.encode FP.Core.b64 d % 9223372036854775808 ≤ 9218868437227405312 := by
  have e1 : FP.Core.b64.exps = 2048 := by decide
  have e2 : FP.Core.b64.tails = 4503599627370496 := by decide
  have e3 : FP.Core.b64.qmax = 971 := by decide
  have e4 : FP.Core.b64.qmin = -1074 := by decide
  have e5 : 2 ^ FP.Core.b64.p = 9007199254740992 := by decide
  have e6 : FP.Core.b64.exps * FP.Core.b64.tails = 9223372036854775808 := by rw [e1, e2]
  cases d with
  | nan => exact absurd h id
  | inf s =>
    have q := fp_low (f := FP.Core.b64) s (e := FP.Core.b64.exps - 1) (t := 0) (by omega) (by omega)
    rw [e6, e2, e1] at q
    show FP.Core.assemble FP.Core.b64 s (FP.Core.b64.exps - 1) 0 % 9223372036854775808 ≤ _
    rw [e1, q]
    decide
  | fin s c q =>
    obtain ⟨h1, h2⟩ := h
    unfold FP.Core.encode
    dsimp only
    by_cases hc : c < FP.Core.b64.tails
    · rw [if_pos hc]
      have w := fp_low (f := FP.Core.b64) s (e := 0) (t := c) (by omega) hc
      rw [e6] at w
      rw [w]
      omega
    · rw [if_neg hc]
      have w := fp_low (f := FP.Core.b64) s (e := (q - FP.Core.b64.qmin).toNat + 1) (t := c - FP.Core.b64.tails) (by omega) (by omega)
      rw [e6] at w
      rw [w, e2]
      omega
theorem fp_dec {n : Nat} (h : n % 9223372036854775808 ≤ 9218868437227405312) : FP.Core.decode FP.Core.b64 n ≠ .nan := by
  have e1 : FP.Core.b64.exps = 2048 := by decide
  have e2 : FP.Core.b64.tails = 4503599627370496 := by decide
  unfold FP.Core.decode FP.Core.fieldE FP.Core.fieldT
  rw [e1, e2]
  split
  · rw [if_pos (by omega)]
    exact fun z => by cases z
  · split <;> exact fun z => by cases z
theorem fp_i2d (x : Int32) : FP.Core.decode FP.Core.b64 (FP.i2d x).toNat ≠ .nan := by
  apply fp_dec
  have h : (FP.i2d x).toNat = FP.Core.encode FP.Core.b64 (FP.Core.round FP.Core.b64 (FP.Core.ofInt x.toInt)) % 2 ^ 64 := by
    show (UInt64.ofNat _).toNat = _
    rw [UInt64.toNat_ofNat']
    rfl
  rw [h]
  have q := fp_enc (fp_ratio (f := FP.Core.b64) (decide (x.toInt < 0)) x.toInt.natAbs 1 0 (by decide) (by decide))
  have e : FP.Core.round FP.Core.b64 (FP.Core.ofInt x.toInt) = FP.Core.roundRatio FP.Core.b64 (decide (x.toInt < 0)) x.toInt.natAbs 1 0 := rfl
  rw [e]
  omega
def fp_one (y : UInt64) : Bool := match FP.Core.decode FP.Core.b64 y.toNat with
  | .fin _ d _ => d != 0
  | _ => false
theorem fp_ddiv {x y : UInt64} (hx : FP.Core.decode FP.Core.b64 x.toNat ≠ .nan) (hy : fp_one y = true) : vf_n64 (FP.ddiv x y) := by
  have k : fp_ok FP.Core.b64 (FP.Core.quotient FP.Core.b64 (FP.Core.decode FP.Core.b64 x.toNat) (FP.Core.decode FP.Core.b64 y.toNat)) := by
    unfold fp_one at hy
    revert hx hy
    cases FP.Core.decode FP.Core.b64 y.toNat with
    | nan => intro hx hy; exact absurd hy (by decide)
    | inf s => intro hx hy; exact absurd (show false = true from hy) (by decide)
    | fin t d r =>
      intro hx hy
      cases hxx : FP.Core.decode FP.Core.b64 x.toNat with
      | nan => exact absurd hxx hx
      | inf s => trivial
      | fin s c q =>
        unfold FP.Core.quotient
        dsimp only
        rw [if_neg (by intro z; rw [z] at hy; exact absurd (show ((0 : Nat) != 0) = true from hy) (by decide))]
        exact fp_ratio _ _ _ _ (by decide) (by decide)
  have q := fp_enc k
  unfold vf_n64
  rw [UInt64.le_iff_toNat_le, UInt64.toNat_and]
  have e : (FP.ddiv x y).toNat = FP.Core.encode FP.Core.b64 (FP.Core.quotient FP.Core.b64 (FP.Core.decode FP.Core.b64 x.toNat) (FP.Core.decode FP.Core.b64 y.toNat)) % 2 ^ 64 := by
    show (UInt64.ofNat _).toNat = _
    rw [UInt64.toNat_ofNat']
    rfl
  rw [e, show (0x7fffffffffffffff : UInt64).toNat = 2 ^ 63 - 1 by decide, Nat.and_two_pow_sub_one_eq_mod, show (0x7ff0000000000000 : UInt64).toNat = 9218868437227405312 by decide]
  omega
theorem fp_ones : ∀ n : Fin 241, n.val = 0 ∨ fp_one (FP.i2d (nI n.val)) = true := by decide +kernel
theorem fp_mean (x : Int32) {n : Int} (h : 1 ≤ n ∧ n ≤ 240) : vf_n64 (FP.ddiv (FP.i2d x) (FP.i2d (iI n))) := by
  refine fp_ddiv (fp_i2d x) ?_
  have q := fp_ones ⟨n.toNat, by omega⟩
  rw [show iI n = nI n.toNat by rw [iI_nat, Int.toNat_of_nonneg (by omega)]]
  exact q.resolve_left (by show n.toNat ≠ 0; omega)
theorem fp_shares : ∀ n : Fin 241, (FP.fdiv (FP.i2f (nI n.val)) 1131413504 &&& 0x7fffffff ≤ 0x7f800000) := by decide +kernel
theorem fp_share {n : Int} (h : 0 ≤ n ∧ n ≤ 240) : vf_n32 (FP.fdiv (FP.i2f (iI n)) 1131413504) := by
  have q := fp_shares ⟨n.toNat, by omega⟩
  rw [show iI n = nI n.toNat by rw [iI_nat, Int.toNat_of_nonneg (by omega)]]
  exact q
