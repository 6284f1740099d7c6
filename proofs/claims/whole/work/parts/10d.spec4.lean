/-! sums, reductions, spikes -/
def zsum (φ : Int → Int) : Nat → Int
  | 0 => 0
  | n + 1 => zsum φ n + φ n
theorem zsum_s (φ : Int → Int) {k : Int} (h : 0 ≤ k) : zsum φ (k + 1).toNat = zsum φ k.toNat + φ k := by
  have e : (k + 1).toNat = k.toNat + 1 := by omega
  rw [e]
  show zsum φ k.toNat + φ (k.toNat : Int) = _
  rw [Int.toNat_of_nonneg h]
theorem zsum_rng {φ : Int → Int} {c : Int} (hc : 0 ≤ c) (h : ∀ i, 0 ≤ φ i ∧ φ i ≤ c) : ∀ n : Nat, 0 ≤ zsum φ n ∧ zsum φ n ≤ c * n
  | 0 => ⟨Int.le_refl _, by simp [zsum]⟩
  | n + 1 => by
    have h1 := zsum_rng hc h n
    have h2 := h n
    have e : c * ((n + 1 : Nat) : Int) = c * n + c := by rw [Int.natCast_add, Int.mul_add]; simp
    rw [e]
    show 0 ≤ zsum φ n + φ n ∧ zsum φ n + φ n ≤ c * n + c
    omega
theorem zsum_cong {φ ψ : Int → Int} : ∀ {n : Nat}, (∀ i : Int, 0 ≤ i → i < n → φ i = ψ i) → zsum φ n = zsum ψ n
  | 0, _ => rfl
  | n + 1, h => by
    show zsum φ n + φ n = zsum ψ n + ψ n
    rw [zsum_cong (fun i h0 h1 => h i h0 (by omega)), h n (by omega) (by omega)]
theorem bI_rng (c : Prop) [Decidable c] : 0 ≤ bI c ∧ bI c ≤ 1 := by unfold bI; split <;> omega
theorem bI_1 {c : Prop} [Decidable c] (h : c) : bI c = 1 := if_pos h
theorem bI_0 {c : Prop} [Decidable c] (h : ¬ c) : bI c = 0 := if_neg h
/-- a sounding that is there -/
abbrev spHas (μ : zMu) (l k s : Int) : Prop := μ 18 (7 * (20 * l + k) + s + 3) ≠ zNO
def spTi (μ : zMu) (l k : Int) : Int := spTide μ (spCol μ l k 0) (μ 16 l) (μ 17 l + k / 5)
def spRed (μ : zMu) (l k s : Int) : Int := if k < 0 ∨ spSize μ l ≤ k ∨ μ 18 (7 * (20 * l + k) + s + 3) = zNO then zNO else if spTi μ l k = zNO then zNO else μ 18 (7 * (20 * l + k) + s + 3) + μ 19 (7 * (20 * l + k) + s + 3) - spTi μ l k
abbrev spFar (a b : Int) : Prop := a - b > 5 ∨ b - a > 5
abbrev spSpike (μ : zMu) (l k s : Int) : Prop := spRed μ l k s ≠ zNO ∧ ¬ (spRed μ l (k - 1) s = zNO ∧ spRed μ l (k + 1) s = zNO) ∧ (spRed μ l (k - 1) s = zNO ∨ spFar (spRed μ l k s) (spRed μ l (k - 1) s)) ∧ (spRed μ l (k + 1) s = zNO ∨ spFar (spRed μ l k s) (spRed μ l (k + 1) s))
theorem spTi_rng {μ : zMu} (hI : MI μ) {l k : Int} (hl : 0 ≤ l ∧ l < 16) (hk : 0 ≤ k ∧ k < spSize μ l) : spTi μ l k = zNO ∨ (-10 ≤ spTi μ l k ∧ spTi μ l k ≤ 39) := by
  have h := hI.J.b12 l hl.1 hl.2
  have h2 := spSize_rng hI.J hl
  exact spTide_rng hI (by omega) (by omega)
theorem spRed_rng {μ : zMu} (hI : MI μ) {l : Int} (k : Int) {s : Int} (hl : 0 ≤ l ∧ l < 16) (hs : -3 ≤ s ∧ s ≤ 3) : spRed μ l k s = zNO ∨ (-108 ≤ spRed μ l k s ∧ spRed μ l k s ≤ 208) := by
  unfold spRed
  split
  · exact Or.inl rfl
  · rename_i q
    have hz := spSize_rng hI.J hl
    have ht := spTi_rng hI hl (k := k) (by omega)
    have hb := hI.b18 (7 * (20 * l + k) + s + 3) (by omega) (by omega)
    split
    · exact Or.inl rfl
    · omega
theorem spRed_out {μ : zMu} {l k s : Int} (h : k < 0 ∨ spSize μ l ≤ k) : spRed μ l k s = zNO := by
  unfold spRed; rw [if_pos (by omega)]
def spSpk (μ : zMu) (l k : Int) : Int → Int := fun j => bI (spSpike μ l k (j - 3))
def spLst (μ : zMu) (l k : Int) : Int → Int := fun j => bI (spHas μ l k (j - 3) ∧ spRed μ l k (j - 3) = zNO)
def spSpikes (μ : zMu) (l : Int) : Int := zsum (fun k => zsum (spSpk μ l k) 7) (spSize μ l).toNat
def spLost (μ : zMu) (l : Int) : Int := zsum (fun k => zsum (spLst μ l k) 7) (spSize μ l).toNat
def spCount (μ : zMu) (l : Int) : Int := zsum (fun p => bI (μ 18 (140 * l + p) ≠ zNO)) 140
theorem spSpk_rng (μ : zMu) (l k : Int) (n : Nat) : 0 ≤ zsum (spSpk μ l k) n ∧ zsum (spSpk μ l k) n ≤ n := by
  have := zsum_rng (c := 1) (by decide) (fun i => bI_rng (spSpike μ l k (i - 3))) n
  have e : zsum (fun i => bI (spSpike μ l k (i - 3))) n = zsum (spSpk μ l k) n := rfl
  omega
theorem spLst_rng (μ : zMu) (l k : Int) (n : Nat) : 0 ≤ zsum (spLst μ l k) n ∧ zsum (spLst μ l k) n ≤ n := by
  have := zsum_rng (c := 1) (by decide) (fun i => bI_rng (spHas μ l k (i - 3) ∧ spRed μ l k (i - 3) = zNO)) n
  have e : zsum (fun i => bI (spHas μ l k (i - 3) ∧ spRed μ l k (i - 3) = zNO)) n = zsum (spLst μ l k) n := rfl
  omega
theorem spSpks_rng (μ : zMu) (l : Int) (n : Nat) : 0 ≤ zsum (fun k => zsum (spSpk μ l k) 7) n ∧ zsum (fun k => zsum (spSpk μ l k) 7) n ≤ 7 * n :=
  zsum_rng (c := 7) (by decide) (fun i => spSpk_rng μ l i 7) n
theorem spLsts_rng (μ : zMu) (l : Int) (n : Nat) : 0 ≤ zsum (fun k => zsum (spLst μ l k) 7) n ∧ zsum (fun k => zsum (spLst μ l k) 7) n ≤ 7 * n :=
  zsum_rng (c := 7) (by decide) (fun i => spLst_rng μ l i 7) n
abbrev spLine (μ : zMu) (l : Int) : Prop := 0 ≤ l ∧ l < μ 2 0
abbrev spOk (μ : zMu) (l k s : Int) : Prop := (0 ≤ k ∧ k < spSize μ l) ∧ (-3 ≤ s ∧ s ≤ 3) ∧ spHas μ l k s
def o_disturb (μ : zMu) (l k s x : Int) : Int × Int × zMu := if spLine μ l then (if spOk μ l k s then (if -60 ≤ x ∧ x ≤ 60 then (0, μ 19 (7 * (20 * l + k) + s + 3), zset μ 19 (zup (μ 19) (7 * (20 * l + k) + s + 3) x)) else (3, 0, μ)) else (2, 0, μ)) else (1, 0, μ)
def o_sounding (μ : zMu) (l k s : Int) : Int × Int × zMu := if spLine μ l then (if spOk μ l k s then (0, μ 18 (7 * (20 * l + k) + s + 3) + μ 19 (7 * (20 * l + k) + s + 3), μ) else (2, 0, μ)) else (1, 0, μ)
def o_reduced (μ : zMu) (l k s : Int) : Int × Int × zMu := if spLine μ l then (if spOk μ l k s then (if spRed μ l k s = zNO then (3, 0, μ) else (0, spRed μ l k s, μ)) else (2, 0, μ)) else (1, 0, μ)
def o_isSpike (μ : zMu) (l k s : Int) : Int × Int × zMu := if spLine μ l then (if spOk μ l k s then (0, bI (spSpike μ l k s), μ) else (2, 0, μ)) else (1, 0, μ)
def o_soundings (μ : zMu) (l : Int) : Int × Int × zMu := if spLine μ l then (0, spCount μ l, μ) else (1, 0, μ)
def o_spikes (μ : zMu) (l : Int) : Int × Int × zMu := if spLine μ l then (0, spSpikes μ l, μ) else (1, 0, μ)
def o_lost (μ : zMu) (l : Int) : Int × Int × zMu := if spLine μ l then (0, spLost μ l, μ) else (1, 0, μ)
def o_dayOf (μ : zMu) (l : Int) : Int × Int × zMu := if spLine μ l then (0, μ 16 l, μ) else (1, 0, μ)
