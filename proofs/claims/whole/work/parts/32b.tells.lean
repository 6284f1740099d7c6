def cN (z : Int) : Int := if z = zNO then -1000000 else z
theorem cN_no : cN zNO = -1000000 := if_pos rfl
theorem cN_in {z : Int} (h : -2000 ≤ z ∧ z ≤ 2000) : cN z = z := by
  have hNO : zNO = -2147483648 := rfl
  exact if_neg (by omega)
/-- what is told: F the failures from place a on, W the water by the hour -/
def zTl (F : Int → Int) (a : Int) (W : Int → Int) (h : Int) : Int :=
  if spBef F a (h + 1).toNat = h then W h
  else if spBef F a (h + 1).toNat < 0 ∨ spBeh F a (24 - h).toNat = 24 ∨ spBeh F a (24 - h).toNat - spBef F a (h + 1).toNat > 6 then zNO
  else W (spBef F a (h + 1).toNat) + ((W (spBeh F a (24 - h).toNat) - W (spBef F a (h + 1).toNat)) * (h - spBef F a (h + 1).toNat)) / (spBeh F a (24 - h).toNat - spBef F a (h + 1).toNat)
theorem zTl_eq (μ : zMu) (g d h : Int) : spTells μ g d h = zTl (μ 11) (240 * g + 24 * d) (fun h => spWater μ (μ 8 g) d h) h := rfl
theorem spBef_shift (F : Int → Int) (c a : Int) : ∀ n : Nat, spBef (fun j => F (c + j)) a n = spBef F (c + a) n
  | 0 => rfl
  | n + 1 => by unfold spBef; rw [spBef_shift F c a n, show c + (a + (n : Int)) = c + a + n by omega]
theorem spBeh_shift (F : Int → Int) (c a : Int) : ∀ n : Nat, spBeh (fun j => F (c + j)) a n = spBeh F (c + a) n
  | 0 => rfl
  | n + 1 => by unfold spBeh; rw [spBeh_shift F c a n, show c + (a + (23 - (n : Int))) = c + a + (23 - n) by omega]
theorem zTl_shift (F : Int → Int) (c a : Int) (W : Int → Int) (h : Int) : zTl (fun j => F (c + j)) a W h = zTl F (c + a) W h := by
  unfold zTl; rw [spBef_shift, spBeh_shift]
abbrev zWt (κ : zMu) (k d h : Int) : Int := κ 1 (24 * d + h) + (κ 2 d * k) / 4
theorem zWt_rng {κ : zMu} (hK : zSK κ) {k d h : Int} (hk : 0 ≤ k ∧ k ≤ 19) (hd : 0 ≤ d ∧ d ≤ 9) (hh : 0 ≤ h ∧ h ≤ 23) : -10 ≤ zWt κ k d h ∧ zWt κ k d h ≤ 39 := by
  have h1 := hK.2.1 (24 * d + h) (by omega) (by omega)
  have h2 := zmul_rng (hK.2.2.1 d (by omega) (by omega)) hk
  unfold zWt
  omega
theorem zTl_0 {F : Int → Int} {a : Int} (W : Int → Int) {h : Int} (hh : 0 ≤ h ∧ h ≤ 23) (h0 : F (a + h) = 0) : zTl F a W h = W h := by
  unfold zTl
  rw [if_pos (by rw [spBef_s _ _ hh.1, if_neg (by omega)])]
theorem zTl_1 {F : Int → Int} {a : Int} (W : Int → Int) {h b e : Int} (hh : 0 ≤ h ∧ h ≤ 23) (h0 : F (a + h) ≠ 0) (hb : b = spBef F a h.toNat) (he : e = spBeh F a (24 - (h + 1)).toNat) : zTl F a W h = if b < 0 ∨ e = 24 ∨ e - b > 6 then zNO else W b + ((W e - W b) * (h - b)) / (e - b) := by
  have r := spBef_rng F a h.toNat
  unfold zTl
  rw [spBef_s _ _ hh.1, if_pos h0, spBeh_s _ _ (by omega), if_pos h0, ← hb, ← he, if_neg (by omega)]
theorem zbtw {x y k w : Int} (hx : -10 ≤ x ∧ x ≤ 39) (hy : -10 ≤ y ∧ y ≤ 39) (hk : 0 ≤ k ∧ k ≤ w) (hw : 0 < w) : -2000 ≤ x + ((y - x) * k) / w ∧ x + ((y - x) * k) / w ≤ 2000 := by
  have := zmid hx hy hk hw
  omega
