theorem zsum_rng3 {φ : Int → Int} {a b : Int} (ha : 0 ≤ a) (hb : 0 ≤ b) (h : ∀ i : Int, -a ≤ φ i ∧ φ i ≤ b) : ∀ n : Nat, -(a * n) ≤ zsum φ n ∧ zsum φ n ≤ b * n
  | 0 => by simp [zsum]
  | n + 1 => by
    have h1 := zsum_rng3 ha hb h n
    have h2 := h n
    have e1 : a * ((n + 1 : Nat) : Int) = a * n + a := by rw [Int.natCast_add, Int.mul_add]; simp
    have e2 : b * ((n + 1 : Nat) : Int) = b * n + b := by rw [Int.natCast_add, Int.mul_add]; simp
    rw [e1, e2]
    show _ ≤ zsum φ n + φ n ∧ zsum φ n + φ n ≤ _
    omega
noncomputable def spSum (μ : zMu) : Int := zsum (fun c => if spChart μ c = zNO then 0 else spChart μ c) 240
theorem spSum_rng {μ : zMu} (hI : MI μ) (n : Nat) : -(108 * (n : Int)) ≤ zsum (fun c => if spChart μ c = zNO then 0 else spChart μ c) n ∧ zsum (fun c => if spChart μ c = zNO then 0 else spChart μ c) n ≤ 208 * n := zsum_rng3 (by decide) (by decide) (fun i => by
  have := spChart_r hI i
  have hNO : zNO = -2147483648 := rfl
  split <;> omega) n
