theorem zapp_30 (μ : zMu) (t : List Int) : zapp μ t 3 0 = μ 3 0 + t.length := congrFun (zapp_3 μ t) 0
theorem MI_30 {μ : zMu} (hI : MI μ) : MI (zset μ 3 (fun _ => 0)) := by
  refine ⟨?_, hI.2⟩
  rw [zset_s, zset_n _ _ (show 1 ≠ 3 by decide), zset_n _ _ (show 2 ≠ 3 by decide)]
  have := hI.n
  omega
theorem ztake {w : List Int} {j : Int} (h0 : 0 ≤ j) (h1 : j < w.length) : w.take j.toNat ++ [w.getD j.toNat 0] = w.take (j + 1).toNat := by
  have e : (j + 1).toNat = j.toNat + 1 := by omega
  have h : j.toNat < w.length := by omega
  rw [e, List.take_add_one, List.getD_eq_getElem?_getD, List.getElem?_eq_getElem h]
  rfl
theorem ztake_len {w : List Int} {j : Int} (h0 : 0 ≤ j) (h1 : j ≤ w.length) : ((w.take j.toNat).length : Int) = j := by
  rw [List.length_take]; omega
theorem ztake_0 (w : List Int) : w.take (0 : Int).toNat = [] := rfl
theorem ztake_n {w : List Int} {j : Int} (h : (w.length : Int) ≤ j) : w.take j.toNat = w := List.take_of_length_le (by omega)
theorem zgood_lit (t : List Int) (h : (∀ x ∈ t, 0 ≤ x ∧ x < 128)) : zgood t := fun j => by
  rw [List.getD_eq_getElem?_getD]
  cases q : t[j]? with
  | none => exact ⟨Int.le_refl 0, by show (0 : Int) < 128; decide⟩
  | some x => exact h x (List.mem_of_getElem? q)
