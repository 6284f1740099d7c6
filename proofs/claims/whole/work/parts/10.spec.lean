/-! ===== what is said of the survey: numbers by the reference's fields (mu k i: field k, place i; the scalars at place 0) ===== -/
abbrev zMu : Type := Nat → Int → Int
def zset (μ : zMu) (k : Nat) (g : Int → Int) : zMu := fun j => if j = k then g else μ j
theorem zset_s (μ : zMu) (k : Nat) (g : Int → Int) : zset μ k g k = g := by simp [zset]
theorem zset_n (μ : zMu) {k j : Nat} (g : Int → Int) (h : j ≠ k) : zset μ k g j = μ j := by simp [zset, h]
noncomputable def zif {α : Sort _} (P : Prop) (a b : α) : α := @ite α P (Classical.propDecidable P) a b
theorem zif_pos {α : Sort _} {P : Prop} {a b : α} (h : P) : zif P a b = a := by unfold zif; rw [if_pos h]
theorem zif_neg {α : Sort _} {P : Prop} {a b : α} (h : ¬ P) : zif P a b = b := by unfold zif; rw [if_neg h]
theorem zup_s (σ : Int → Int) (i x : Int) : zup σ i x i = x := by simp [zup]
theorem zup_n (σ : Int → Int) {i j : Int} (x : Int) (h : j ≠ i) : zup σ i x j = σ j := by simp [zup, h]
def zfill (σ : Int → Int) (a b x : Int) : Int → Int := fun j => if a ≤ j ∧ j < b then x else σ j
theorem zfill_0 (σ : Int → Int) (a x : Int) : zfill σ a a x = σ := by
  funext j; unfold zfill; rw [if_neg (by omega)]
theorem zfill_1 (σ : Int → Int) {a b : Int} (h : a ≤ b) (x : Int) : zup (zfill σ a b x) b x = zfill σ a (b + 1) x := by
  funext j; unfold zup zfill
  by_cases h1 : j = b
  · rw [if_pos h1, if_pos (by omega)]
  · rw [if_neg h1]
    by_cases h2 : a ≤ j ∧ j < b
    · rw [if_pos h2, if_pos (by omega)]
    · rw [if_neg h2, if_neg (by omega)]
/-- how many of n places from a on are not 0 -/
def zcnt (σ : Int → Int) (a : Int) : Nat → Int
  | 0 => 0
  | n + 1 => zcnt σ a n + if σ (a + n) ≠ 0 then 1 else 0
theorem zcnt_rng (σ : Int → Int) (a : Int) : ∀ n : Nat, 0 ≤ zcnt σ a n ∧ zcnt σ a n ≤ n
  | 0 => ⟨Int.le_refl _, Int.le_refl _⟩
  | n + 1 => by
    have := zcnt_rng σ a n
    unfold zcnt
    split <;> omega
theorem zcnt_s (σ : Int → Int) (a : Int) {k : Int} (h : 0 ≤ k) : zcnt σ a (k + 1).toNat = zcnt σ a k.toNat + if σ (a + k) ≠ 0 then 1 else 0 := by
  have e : (k + 1).toNat = k.toNat + 1 := by omega
  rw [e]
  show zcnt σ a k.toNat + (if σ (a + (k.toNat : Int)) ≠ 0 then 1 else 0) = _
  rw [Int.toNat_of_nonneg h]
/-- a quotient rounded down -/
theorem zdown {a b : Int} (hb : 0 < b) : (if a.tmod b < 0 then a.tdiv b - 1 else a.tdiv b) = a / b := by
  have hm := Int.emod_nonneg a (Int.ne_of_gt hb)
  have hl := Int.emod_lt_of_pos a hb
  have hd := Int.tdiv_eq_ediv (a := a) (b := b)
  have ht : a.tmod b = a - b * a.tdiv b := Int.tmod_def a b
  have he : b * (a / b) + a % b = a := Int.mul_ediv_add_emod a b
  have hs : b.sign = 1 := Int.sign_eq_one_of_pos hb
  by_cases h : 0 ≤ a ∨ b ∣ a
  · rw [if_pos h] at hd
    have hd : a.tdiv b = a / b := by omega
    rw [ht, hd, if_neg (by omega)]
  · rw [if_neg h, hs] at hd
    have h0 : a % b ≠ 0 := fun z => h (Or.inr (Int.dvd_of_emod_eq_zero z))
    have h2 : b * (a / b + 1) = b * (a / b) + b := by rw [Int.mul_add, Int.mul_one]
    rw [ht, hd, h2, if_pos (by omega)]
    omega
def zNO : Int := -2147483648
/-- the height of the water, and the column's part -/
def spWater (μ : zMu) (c d h : Int) : Int := μ 5 (24 * d + h) + (μ 6 d * c) / 4
/-- what the reference's numbers keep to -/
def MI (μ : zMu) : Prop :=
  (0 ≤ μ 1 0 ∧ μ 1 0 ≤ 3 ∧ 0 ≤ μ 2 0 ∧ μ 2 0 ≤ 16 ∧ 0 ≤ μ 3 0 ∧ μ 3 0 ≤ 40) ∧
  (∀ i, 0 ≤ i → i < 240 → 1 ≤ μ 4 i ∧ μ 4 i ≤ 99) ∧
  (∀ i, 0 ≤ i → i < 240 → 0 ≤ μ 5 i ∧ μ 5 i ≤ 30) ∧
  (∀ i, 0 ≤ i → i < 10 → -2 ≤ μ 6 i ∧ μ 6 i ≤ 2) ∧
  (∀ i, 0 ≤ i → i < 10 → 0 ≤ μ 7 i ∧ μ 7 i ≤ 9) ∧
  (∀ i, 0 ≤ i → i < 3 → 0 ≤ μ 8 i ∧ μ 8 i ≤ 19) ∧
  (∀ i, 0 ≤ i → i < 720 → 0 ≤ μ 11 i ∧ μ 11 i ≤ 1) ∧
  (∀ i, μ 1 0 * 240 ≤ i → i < 720 → μ 11 i = 0) ∧
  (∀ i, 0 ≤ i → i < 16 → 0 ≤ μ 12 i ∧ μ 12 i ≤ 1 ∧ 0 ≤ μ 13 i ∧ μ 13 i ≤ 19 ∧ 0 ≤ μ 14 i ∧ μ 14 i ≤ 19 ∧ 0 ≤ μ 15 i ∧ μ 15 i ≤ 19 ∧ 0 ≤ μ 16 i ∧ μ 16 i ≤ 9 ∧ 0 ≤ μ 17 i ∧ μ 17 i ≤ 23) ∧
  (∀ i, 0 ≤ i → i < 16 → (μ 12 i = 0 → μ 14 i ≤ 11 ∧ μ 15 i ≤ 11) ∧ (μ 12 i ≠ 0 → μ 13 i ≤ 11)) ∧
  (∀ i, 0 ≤ i → i < 16 → 5 * μ 17 i + (μ 14 i - μ 15 i) < 120 ∧ 5 * μ 17 i + (μ 15 i - μ 14 i) < 120) ∧
  (∀ i, 0 ≤ i → i < 2240 → (μ 18 i = zNO ∨ (-9 ≤ μ 18 i ∧ μ 18 i ≤ 138)) ∧ -60 ≤ μ 19 i ∧ μ 19 i ≤ 60) ∧
  (∀ i, 0 ≤ i → i < 40 → 0 ≤ μ 20 i ∧ μ 20 i ≤ 127)
/-- .. but for the soundings and the text -/
def MJ (μ : zMu) : Prop :=
  (0 ≤ μ 1 0 ∧ μ 1 0 ≤ 3 ∧ 0 ≤ μ 2 0 ∧ μ 2 0 ≤ 16 ∧ 0 ≤ μ 3 0 ∧ μ 3 0 ≤ 40) ∧
  (∀ i, 0 ≤ i → i < 240 → 1 ≤ μ 4 i ∧ μ 4 i ≤ 99) ∧
  (∀ i, 0 ≤ i → i < 240 → 0 ≤ μ 5 i ∧ μ 5 i ≤ 30) ∧
  (∀ i, 0 ≤ i → i < 10 → -2 ≤ μ 6 i ∧ μ 6 i ≤ 2) ∧
  (∀ i, 0 ≤ i → i < 10 → 0 ≤ μ 7 i ∧ μ 7 i ≤ 9) ∧
  (∀ i, 0 ≤ i → i < 3 → 0 ≤ μ 8 i ∧ μ 8 i ≤ 19) ∧
  (∀ i, 0 ≤ i → i < 720 → 0 ≤ μ 11 i ∧ μ 11 i ≤ 1) ∧
  (∀ i, 0 ≤ i → i < 16 → 0 ≤ μ 12 i ∧ μ 12 i ≤ 1 ∧ 0 ≤ μ 13 i ∧ μ 13 i ≤ 19 ∧ 0 ≤ μ 14 i ∧ μ 14 i ≤ 19 ∧ 0 ≤ μ 15 i ∧ μ 15 i ≤ 19 ∧ 0 ≤ μ 16 i ∧ μ 16 i ≤ 9 ∧ 0 ≤ μ 17 i ∧ μ 17 i ≤ 23) ∧
  (∀ i, 0 ≤ i → i < 16 → (μ 12 i = 0 → μ 14 i ≤ 11 ∧ μ 15 i ≤ 11) ∧ (μ 12 i ≠ 0 → μ 13 i ≤ 11)) ∧
  (∀ i, 0 ≤ i → i < 16 → 5 * μ 17 i + (μ 14 i - μ 15 i) < 120 ∧ 5 * μ 17 i + (μ 15 i - μ 14 i) < 120)
theorem MI.J {μ : zMu} (h : MI μ) : MJ μ := ⟨h.1, h.2.1, h.2.2.1, h.2.2.2.1, h.2.2.2.2.1, h.2.2.2.2.2.1, h.2.2.2.2.2.2.1, h.2.2.2.2.2.2.2.2.1, h.2.2.2.2.2.2.2.2.2.1, h.2.2.2.2.2.2.2.2.2.2.1⟩
theorem MJ.n {μ : zMu} (h : MJ μ) : 0 ≤ μ 1 0 ∧ μ 1 0 ≤ 3 ∧ 0 ≤ μ 2 0 ∧ μ 2 0 ≤ 16 ∧ 0 ≤ μ 3 0 ∧ μ 3 0 ≤ 40 := h.1
theorem MJ.b4 {μ : zMu} (h : MJ μ) : ∀ i, 0 ≤ i → i < 240 → 1 ≤ μ 4 i ∧ μ 4 i ≤ 99 := h.2.1
theorem MJ.b5 {μ : zMu} (h : MJ μ) : ∀ i, 0 ≤ i → i < 240 → 0 ≤ μ 5 i ∧ μ 5 i ≤ 30 := h.2.2.1
theorem MJ.b6 {μ : zMu} (h : MJ μ) : ∀ i, 0 ≤ i → i < 10 → -2 ≤ μ 6 i ∧ μ 6 i ≤ 2 := h.2.2.2.1
theorem MJ.b7 {μ : zMu} (h : MJ μ) : ∀ i, 0 ≤ i → i < 10 → 0 ≤ μ 7 i ∧ μ 7 i ≤ 9 := h.2.2.2.2.1
theorem MJ.b8 {μ : zMu} (h : MJ μ) : ∀ i, 0 ≤ i → i < 3 → 0 ≤ μ 8 i ∧ μ 8 i ≤ 19 := h.2.2.2.2.2.1
theorem MJ.b11 {μ : zMu} (h : MJ μ) : ∀ i, 0 ≤ i → i < 720 → 0 ≤ μ 11 i ∧ μ 11 i ≤ 1 := h.2.2.2.2.2.2.1
theorem MJ.b12 {μ : zMu} (h : MJ μ) : ∀ i, 0 ≤ i → i < 16 → 0 ≤ μ 12 i ∧ μ 12 i ≤ 1 ∧ 0 ≤ μ 13 i ∧ μ 13 i ≤ 19 ∧ 0 ≤ μ 14 i ∧ μ 14 i ≤ 19 ∧ 0 ≤ μ 15 i ∧ μ 15 i ≤ 19 ∧ 0 ≤ μ 16 i ∧ μ 16 i ≤ 9 ∧ 0 ≤ μ 17 i ∧ μ 17 i ≤ 23 := h.2.2.2.2.2.2.2.1
theorem MJ.c12 {μ : zMu} (h : MJ μ) : ∀ i, 0 ≤ i → i < 16 → (μ 12 i = 0 → μ 14 i ≤ 11 ∧ μ 15 i ≤ 11) ∧ (μ 12 i ≠ 0 → μ 13 i ≤ 11) := h.2.2.2.2.2.2.2.2.1
theorem MJ.h17 {μ : zMu} (h : MJ μ) : ∀ i, 0 ≤ i → i < 16 → 5 * μ 17 i + (μ 14 i - μ 15 i) < 120 ∧ 5 * μ 17 i + (μ 15 i - μ 14 i) < 120 := h.2.2.2.2.2.2.2.2.2
theorem MI.n {μ : zMu} (h : MI μ) : 0 ≤ μ 1 0 ∧ μ 1 0 ≤ 3 ∧ 0 ≤ μ 2 0 ∧ μ 2 0 ≤ 16 ∧ 0 ≤ μ 3 0 ∧ μ 3 0 ≤ 40 := h.1
theorem MI.b4 {μ : zMu} (h : MI μ) : ∀ i, 0 ≤ i → i < 240 → 1 ≤ μ 4 i ∧ μ 4 i ≤ 99 := h.2.1
theorem MI.b5 {μ : zMu} (h : MI μ) : ∀ i, 0 ≤ i → i < 240 → 0 ≤ μ 5 i ∧ μ 5 i ≤ 30 := h.2.2.1
theorem MI.b6 {μ : zMu} (h : MI μ) : ∀ i, 0 ≤ i → i < 10 → -2 ≤ μ 6 i ∧ μ 6 i ≤ 2 := h.2.2.2.1
theorem MI.b7 {μ : zMu} (h : MI μ) : ∀ i, 0 ≤ i → i < 10 → 0 ≤ μ 7 i ∧ μ 7 i ≤ 9 := h.2.2.2.2.1
theorem MI.b8 {μ : zMu} (h : MI μ) : ∀ i, 0 ≤ i → i < 3 → 0 ≤ μ 8 i ∧ μ 8 i ≤ 19 := h.2.2.2.2.2.1
theorem MI.b11 {μ : zMu} (h : MI μ) : ∀ i, 0 ≤ i → i < 720 → 0 ≤ μ 11 i ∧ μ 11 i ≤ 1 := h.2.2.2.2.2.2.1
theorem MI.b12 {μ : zMu} (h : MI μ) : ∀ i, 0 ≤ i → i < 16 → 0 ≤ μ 12 i ∧ μ 12 i ≤ 1 ∧ 0 ≤ μ 13 i ∧ μ 13 i ≤ 19 ∧ 0 ≤ μ 14 i ∧ μ 14 i ≤ 19 ∧ 0 ≤ μ 15 i ∧ μ 15 i ≤ 19 ∧ 0 ≤ μ 16 i ∧ μ 16 i ≤ 9 ∧ 0 ≤ μ 17 i ∧ μ 17 i ≤ 23 := h.2.2.2.2.2.2.2.2.1
theorem MI.b18 {μ : zMu} (h : MI μ) : ∀ i, 0 ≤ i → i < 2240 → (μ 18 i = zNO ∨ (-9 ≤ μ 18 i ∧ μ 18 i ≤ 138)) ∧ -60 ≤ μ 19 i ∧ μ 19 i ≤ 60 := h.2.2.2.2.2.2.2.2.2.2.2.1
theorem MI.b20 {μ : zMu} (h : MI μ) : ∀ i, 0 ≤ i → i < 40 → 0 ≤ μ 20 i ∧ μ 20 i ≤ 127 := h.2.2.2.2.2.2.2.2.2.2.2.2
theorem spWater_rng {μ : zMu} (hI : MJ μ) {c d h : Int} (hc : 0 ≤ c ∧ c ≤ 19) (hd : 0 ≤ d ∧ d ≤ 9) (hh : 0 ≤ h ∧ h ≤ 23) : -10 ≤ spWater μ c d h ∧ spWater μ c d h ≤ 39 := by
  have h5 := hI.b5 (24 * d + h) (by omega) (by omega)
  have h6 := hI.b6 d (by omega) (by omega)
  have h1 : -38 ≤ μ 6 d * c ∧ μ 6 d * c ≤ 38 := by
    have a1 : μ 6 d * c ≤ 2 * c := Int.mul_le_mul_of_nonneg_right h6.2 hc.1
    have a2 : -2 * c ≤ μ 6 d * c := Int.mul_le_mul_of_nonneg_right h6.1 hc.1
    omega
  unfold spWater
  omega
