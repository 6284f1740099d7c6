def znS (s : Int → Int) (k : Int) : Int → Int := fun j => bI (zls s k (j - 3) ≠ zNO)
def znL (s rd : Int → Int) (k : Int) : Int → Int := fun j => bI (zls s k (j - 3) ≠ zNO ∧ zls rd k (j - 3) = zNO)
def znP (rd : Int → Int) (k : Int) : Int → Int := fun j => bI (zspk rd k (j - 3))
theorem zb_rng {φ : Int → Int → Int} (h : ∀ k j, 0 ≤ φ k j ∧ φ k j ≤ 1) (k : Int) (n : Nat) : 0 ≤ zsum (φ k) n ∧ zsum (φ k) n ≤ 1 * n := zsum_rng (by decide) (fun j => h k j) n
theorem zbb_rng {φ : Int → Int → Int} (h : ∀ k j, 0 ≤ φ k j ∧ φ k j ≤ 1) (n : Nat) : 0 ≤ zsum (fun k => zsum (φ k) 7) n ∧ zsum (fun k => zsum (φ k) 7) n ≤ 7 * n := zsum_rng (c := 7) (by decide) (fun k => by have := zb_rng h k 7; omega) n
theorem znS_b (s : Int → Int) (k j : Int) : 0 ≤ znS s k j ∧ znS s k j ≤ 1 := bI_rng _
theorem znL_b (s rd : Int → Int) (k j : Int) : 0 ≤ znL s rd k j ∧ znL s rd k j ≤ 1 := bI_rng _
theorem znP_b (rd : Int → Int) (k j : Int) : 0 ≤ znP rd k j ∧ znP rd k j ≤ 1 := bI_rng _
