section ZAST
variable {p : Program} {l : Launch} {e : Env} {R : Room} {s : State} {m : MethodId} {args : Array Value} {below : List Frame} {meth : Method} {c : Code} {cells slots : Nat} {Q : State → Prop}
variable {G : zG} {X : (Nat → Prop) → State → Prop} {A : Nat → Prop} {nL : Nat} {L : List Nat} {f : Nat → va_E} {cc : ByteArray} {own : String} {pc : Nat} {ls : List (Nat × Value)} {st : List Value} {ret : Option FieldType}
theorem z_astore (C : ZC G X p l s m args meth c A nL ret cc own) {k : Nat} {x : Nat} {ls' : List (Nat × Value)} (hd : decode cc pc = .ok (.astore k, 2)) (hn : k < nL) (hl : (k, Value.ref x) :: ls.filter (fun q => !(q.1 == k) && !(q.1 + 1 == k && q.2.category == 2)) = ls') (K : ZW G p l e R s m args below meth c A nL cells slots Q L f (pc + 2) ls' st) : ZW G p l e R s m args below meth c A nL cells slots Q L f pc ls (.ref x :: st) :=
  fun H locs la hP hD hS h => lv_astore C.1 C.2.1 hd h hn hl (fun la' h' => K H locs la' hP hD hS h')
theorem z_ifnonnullr (C : ZC G X p l s m args meth c A nL ret cc own) {x : Nat} {off : Int} (tgt : Nat) (hd : decode cc pc = .ok (.ifnonnull off, 3)) (ht : (pc : Int) + off = (tgt : Int)) (K : ZW G p l e R s m args below meth c A nL cells slots Q L f tgt ls st) : ZW G p l e R s m args below meth c A nL cells slots Q L f pc ls (.ref x :: st) :=
  fun H locs la hP hD hS hl => lv_ifnonnull C.1 C.2.1 hd ht (K H locs la hP hD hS hl)
end ZAST
/-- what the g-th gauge tells, of the class's numbers -/
def gT (σ : Nat → Int → Int) (κ : zMu) (k : Int → Int) (d h : Int) : Int → Int := fun g => zTl (σ g.toNat) (24 * d) (fun h => zWt κ (k g) d h) h
theorem zTl_rng {κ : zMu} (hK : zSK κ) {k d h : Int} (F : Int → Int) (hk : 0 ≤ k ∧ k ≤ 19) (hd : 0 ≤ d ∧ d ≤ 9) (hh : 0 ≤ h ∧ h ≤ 23) : zTl F (24 * d) (fun h => zWt κ k d h) h = zNO ∨ (-10 ≤ zTl F (24 * d) (fun h => zWt κ k d h) h ∧ zTl F (24 * d) (fun h => zWt κ k d h) h ≤ 39) := by
  by_cases q : F (24 * d + h) = 0
  · rw [zTl_0 _ hh q]; exact Or.inr (zWt_rng hK hk hd hh)
  · rw [zTl_1 _ hh q rfl rfl]
    have hb := spBef_rng F (24 * d) h.toNat
    have he := spBeh_rng F (24 * d) (24 - (h + 1)).toNat
    split
    · exact Or.inl rfl
    · exact Or.inr (zmid (zWt_rng hK hk hd (by omega)) (zWt_rng hK hk hd (by omega)) (by omega) (by omega))
/-- the class's two places and heights beside the reference's two numbers -/
def zLh (T k : Int → Int) (lo hi lw hg lt ht : Int) : Prop := ((lo < 0 ∧ lw = -1 ∧ lt = -1000000) ∨ (0 ≤ lo ∧ lw = k lo ∧ lt = T lo)) ∧ ((hi < 0 ∧ hg = 20 ∧ ht = -1000000) ∨ (0 ≤ hi ∧ hg = k hi ∧ ht = T hi))
theorem zLh_s {T k : Int → Int} {c g lo hi lw hg lt ht lw' hg' lt' ht' : Int} (h : zLh T k lo hi lw hg lt ht) (h0 : 0 ≤ g) (hk : 0 ≤ k g ∧ k g ≤ 19) (h1 : (k g < c ∧ lw < k g ∧ lw' = k g ∧ lt' = T g) ∨ (¬ (k g < c ∧ lw < k g) ∧ lw' = lw ∧ lt' = lt)) (h2 : (c < k g ∧ k g < hg ∧ hg' = k g ∧ ht' = T g) ∨ (¬ (c < k g ∧ k g < hg) ∧ hg' = hg ∧ ht' = ht)) : zLh T k (spLo k c g lo) (spHi k c g hi) lw' hg' lt' ht' := by
  unfold zLh at h ⊢
  unfold spLo spHi
  obtain ⟨a, b⟩ := h
  refine ⟨?_, ?_⟩
  · split <;> omega
  · split <;> omega
