/-! ===== calls on a part of the pool ===== -/
section ZSUB0
variable {D : va_G} {cl : List vw_C} {L : List Nat} {f : Nat → va_E} {H : Heap} {A : Nat → Prop}
theorem zpl_at (L : List Nat) (f : Nat → va_E) (k : Nat) : (va_pl L f)[k]? = (L[k]?).map (fun a => (a, f a)) := by
  unfold va_pl; rw [List.getElem?_map]
theorem zpl_some {k : Nat} {q : Nat × va_E} (h : (va_pl L f)[k]? = some q) : q.1 ∈ L ∧ L[k]? = some q.1 ∧ q = (q.1, f q.1) := by
  rw [zpl_at] at h
  cases e : L[k]? with
  | none => rw [e] at h; cases h
  | some a =>
    rw [e] at h
    cases h
    exact ⟨List.mem_of_getElem? e, rfl, rfl⟩
theorem zP_iff : va_P D cl (va_pl L f) H ↔ ∀ a ∈ L, va_at D cl (a, f a) H := by
  constructor
  · intro h a ha
    obtain ⟨k, hk⟩ := va_pl_get (X := []) (f := f) ha
    exact h k _ hk
  · intro h k q hq
    obtain ⟨h1, -, h3⟩ := zpl_some hq
    rw [h3]
    exact h _ h1
theorem zD_iff : va_D A (va_pl L f) ↔ L.Nodup ∧ ∀ a ∈ L, A a := by
  constructor
  · intro h
    refine ⟨List.pairwise_iff_getElem.mpr (fun i j hi hj hij e => ?_), fun a ha => ?_⟩
    · have q := h.1 i j (L[i], f L[i]) (L[j], f L[j]) (by rw [zpl_at, List.getElem?_eq_getElem hi]; rfl) (by rw [zpl_at, List.getElem?_eq_getElem hj]; rfl) e
      omega
    · obtain ⟨k, hk⟩ := va_pl_get (X := []) (f := f) ha
      exact h.2 k _ hk
  · intro ⟨h1, h2⟩
    refine ⟨fun i j p q hp hq e => ?_, fun k q hq => h2 _ (zpl_some hq).1⟩
    obtain ⟨-, p2, -⟩ := zpl_some hp
    obtain ⟨-, q2, -⟩ := zpl_some hq
    obtain ⟨hi, ei⟩ := List.getElem?_eq_some_iff.mp p2
    obtain ⟨hj, ej⟩ := List.getElem?_eq_some_iff.mp q2
    have hp := List.pairwise_iff_getElem.mp h1
    rcases Nat.lt_trichotomy i j with c | c | c
    · exact absurd (ei.trans (e.trans ej.symm)) (hp i j hi hj c)
    · exact c
    · exact absurd (ej.trans (e.symm.trans ei.symm)) (hp j i hj hi c)
theorem zA_iff {sz q : Nat} : va_A (va_pl L f) sz q ↔ q ∈ L ∨ sz ≤ q := by
  unfold va_A
  constructor
  · rintro (⟨k, e, h⟩ | h)
    · exact Or.inl (zpl_some h).1
    · exact Or.inr h
  · rintro (h | h)
    · obtain ⟨k, hk⟩ := va_pl_get (X := []) (f := f) h
      exact Or.inl ⟨k, _, hk⟩
    · exact Or.inr h
end ZSUB0
/-- what a call on the part Ls leaves: the part has become Ls', f'; the rest is as it was -/
def zMrg (L Ls : List Nat) (f : Nat → va_E) (Ls' : List Nat) (f' : Nat → va_E) (L2 : List Nat) (f2 : Nat → va_E) : Prop :=
  Ls'.Nodup ∧ (∀ a, a ∈ L2 ↔ a ∈ Ls' ∨ (a ∈ L ∧ a ∉ Ls)) ∧ (∀ a ∈ Ls', f2 a = f' a) ∧ ∀ a ∈ L, a ∉ Ls → a ∉ Ls' ∧ f2 a = f a
section ZSUB
variable {p : Program} {l : Launch} {e : Env} {R : Room} {s : State} {m : MethodId} {args : Array Value} {below : List Frame} {meth : Method} {c : Code} {cells slots : Nat} {Q : State → Prop}
variable {G : zG} {X : (Nat → Prop) → State → Prop} {A : Nat → Prop} {nL : Nat} {L : List Nat} {f : Nat → va_E} {cc : ByteArray} {own : String} {pc : Nat} {ls : List (Nat × Value)} {ret : Option FieldType}
theorem zMrg_ok {D : va_G} {cl : List vw_C} {Ls Ls' : List Nat} {f' : Nat → va_E} {H H2 : Heap} {A : Nat → Prop} (hP : va_P D cl (va_pl L f) H) (hD : va_D A (va_pl L f)) (hP2 : va_P D cl (va_pl Ls' f') H2) (hD2 : va_D (va_A (va_pl Ls f) H.size) (va_pl Ls' f')) (hA : ∀ q, va_A (va_pl Ls f) H.size q → A q) (hk : ∀ q : Nat, q < H.size → ¬ va_A (va_pl Ls f) H.size q → H2[q]? = H[q]?) :
    ∃ (L2 : List Nat) (f2 : Nat → va_E), zMrg L Ls f Ls' f' L2 f2 ∧ va_P D cl (va_pl L2 f2) H2 ∧ va_D A (va_pl L2 f2) := by
  classical
  obtain ⟨d1, d2⟩ := zD_iff.mp hD
  obtain ⟨e1, e2⟩ := zD_iff.mp hD2
  have pP := zP_iff.mp hP
  have hlt : ∀ a ∈ L, a < H.size := fun a ha => (pP a ha).lt
  have hno : ∀ a ∈ L, a ∉ Ls → a ∉ Ls' := fun a ha hs hs' => by
    rcases zA_iff.mp (e2 a hs') with q | q
    · exact hs q
    · have := hlt a ha; omega
  have hm : ∀ a, a ∈ Ls' ++ L.filter (fun a => decide (a ∉ Ls)) ↔ a ∈ Ls' ∨ (a ∈ L ∧ a ∉ Ls) := fun a => by
    rw [List.mem_append, List.mem_filter, decide_eq_true_iff]
  refine ⟨Ls' ++ L.filter (fun a => decide (a ∉ Ls)), fun a => if a ∈ Ls' then f' a else f a, ⟨e1, hm, fun a ha => if_pos ha, fun a ha hs => ⟨hno a ha hs, if_neg (hno a ha hs)⟩⟩, ?_, ?_⟩
  · refine zP_iff.mpr (fun a ha => ?_)
    rcases (hm a).mp ha with q | ⟨q1, q2⟩
    · rw [if_pos q]; exact zP_iff.mp hP2 a q
    · rw [if_neg (hno a q1 q2)]
      refine (pP a q1).kept (hk a (hlt a q1) (fun z => ?_))
      rcases zA_iff.mp z with w | w
      · exact q2 w
      · have := hlt a q1; omega
  · refine zD_iff.mpr ⟨List.nodup_append.mpr ⟨e1, d1.filter _, fun a ha b hb hab => ?_⟩, fun a ha => ?_⟩
    · rw [List.mem_filter, decide_eq_true_iff] at hb
      exact hno b hb.1 hb.2 (hab ▸ ha)
    · rcases (hm a).mp ha with q | ⟨q1, q2⟩
      · exact hA a (e2 a q)
      · exact d2 a q1
theorem z_callS {ρ : Type} {en : ρ → Option Value} {R1 : ρ → List Nat → (Nat → va_E) → Prop} {mc ms : Nat} {st0 rest : List Value} {a : Array Value} (C : ZC G X p l s m args meth c A nL ret cc own) {Ls : List Nat} (hs : ∀ a ∈ Ls, a ∈ L) (hn : Ls.Nodup)
    (hr : ∀ (H : Heap) (locs : List Loc) (la : Array Slot), va_P G.1 vwCl (va_pl Ls f) H → va_D A (va_pl Ls f) → va_S A s.heap H locs → lv_has la nL ls → va_Run p l e R s m args below meth c H locs cells slots mc ms (F0 m pc la st0) rest (zQ G en R1 (va_A (va_pl Ls f) H.size) a) (va_A (va_pl Ls f) H.size))
    (K : ∀ (z : ρ) (Ls' : List Nat) (f' : Nat → va_E) (L2 : List Nat) (f2 : Nat → va_E), R1 z Ls' f' → zMrg L Ls f Ls' f' L2 f2 → ZW G p l e R s m args below meth c A nL (cells + mc) (slots + ms) Q L2 f2 (pc + 3) ls ((en z).toList ++ rest)) : ZW G p l e R s m args below meth c A nL cells slots Q L f pc ls st0 := by
  intro H locs la hP hD hS hl T hT X0
  have hPs : va_P G.1 vwCl (va_pl Ls f) H := zP_iff.mpr (fun a ha => zP_iff.mp hP a (hs a ha))
  have hDs : va_D A (va_pl Ls f) := zD_iff.mpr ⟨hn, fun a ha => (zD_iff.mp hD).2 a (hs a ha)⟩
  have hA : ∀ q, va_A (va_pl Ls f) H.size q → A q := by
    intro q h
    rcases h with ⟨k, ee, h⟩ | h
    · exact hDs.2 k _ h
    · exact C.2.2.2.2.2.2.1 q (Nat.le_trans hS.1 h)
  obtain ⟨v, st₀, t, T', Lc, h0, X', hLc, e1, e2, ⟨⟨z, L', f', hv, hR, hB⟩, hF⟩, stp⟩ := hr H locs la hPs hDs hS hl T hT X0
  obtain rfl : v = en z := Outcome.returned.inj hv
  obtain ⟨k1, k2, k3⟩ := vx_keep h0 e1 hS (fun q _ h => hA q h) hA hLc hF
  obtain ⟨L2, f2, hM, hP2, hD2⟩ := zMrg_ok hP hD (H2 := T'.heap) (by rw [e1]; exact hB.1) hB.2.2 hA (fun q q1 q2 => by rw [e1, hF.2 q (by rw [h0]; exact q1) q2, h0])
  obtain ⟨t2, a1, b1⟩ := K z L' f' L2 f2 hR hM T'.heap (locs ++ Lc) la hP2 hD2 k3 hl T' rfl X'
  exact ⟨t2, stp t2 a1, b1⟩
theorem z_callSX {ρ : Type} {en : ρ → Option Value} {R1 : ρ → List Nat → (Nat → va_E) → Prop} {RX1 : String → List Nat → (Nat → va_E) → Prop} {mc ms : Nat} {st0 rest : List Value} {a : Array Value} (C : ZC G X p l s m args meth c A nL ret cc own) {Ls : List Nat} (hs : ∀ a ∈ Ls, a ∈ L) (hn : Ls.Nodup)
    (hr : ∀ (H : Heap) (locs : List Loc) (la : Array Slot), va_P G.1 vwCl (va_pl Ls f) H → va_D A (va_pl Ls f) → va_S A s.heap H locs → lv_has la nL ls → vx_Run p l e R s m args below meth c H locs cells slots mc ms (F0 m pc la st0) rest (zQ G en R1 (va_A (va_pl Ls f) H.size) a) (zXC G RX1 (va_A (va_pl Ls f) H.size)) (va_A (va_pl Ls f) H.size))
    (KX : ∀ (E : String) (Ls' : List Nat) (f' : Nat → va_E) (L2 : List Nat) (f2 : Nat → va_E), RX1 E Ls' f' → zMrg L Ls f Ls' f' L2 f2 → ZXW G p l e R s m args below meth c A nL (cells + mc) (slots + ms) Q L2 f2 pc ls rest E)
    (K : ∀ (z : ρ) (Ls' : List Nat) (f' : Nat → va_E) (L2 : List Nat) (f2 : Nat → va_E), R1 z Ls' f' → zMrg L Ls f Ls' f' L2 f2 → ZW G p l e R s m args below meth c A nL (cells + mc) (slots + ms) Q L2 f2 (pc + 3) ls ((en z).toList ++ rest)) : ZW G p l e R s m args below meth c A nL cells slots Q L f pc ls st0 := by
  intro H locs la hP hD hS hl T hT X0
  have hPs : va_P G.1 vwCl (va_pl Ls f) H := zP_iff.mpr (fun a ha => zP_iff.mp hP a (hs a ha))
  have hDs : va_D A (va_pl Ls f) := zD_iff.mpr ⟨hn, fun a ha => (zD_iff.mp hD).2 a (hs a ha)⟩
  have hA : ∀ q, va_A (va_pl Ls f) H.size q → A q := by
    intro q h
    rcases h with ⟨k, ee, h⟩ | h
    · exact hDs.2 k _ h
    · exact C.2.2.2.2.2.2.1 q (Nat.le_trans hS.1 h)
  rcases hr H locs la hPs hDs hS hl T hT X0 with ⟨v, st₀, t, T', Lc, h0, X', hLc, e1, e2, ⟨⟨z, L', f', hv, hR, hB⟩, hF⟩, stp⟩ | ⟨q, st₀, t, T', Lc, E, ce, h0, X', hLc, e1, e2, ⟨⟨L', f', hR, hB⟩, hF⟩, hce, hcv, hcl, stp⟩
  · obtain rfl : v = en z := Outcome.returned.inj hv
    obtain ⟨k1, k2, k3⟩ := vx_keep h0 e1 hS (fun q _ h => hA q h) hA hLc hF
    obtain ⟨L2, f2, hM, hP2, hD2⟩ := zMrg_ok hP hD (H2 := T'.heap) (by rw [e1]; exact hB.1) hB.2.2 hA (fun q q1 q2 => by rw [e1, hF.2 q (by rw [h0]; exact q1) q2, h0])
    obtain ⟨t2, a1, b1⟩ := K z L' f' L2 f2 hR hM T'.heap (locs ++ Lc) la hP2 hD2 k3 hl T' rfl X'
    exact ⟨t2, stp t2 a1, b1⟩
  · obtain ⟨k1, k2, k3⟩ := vx_keep h0 e1 hS (fun q _ h => hA q h) hA hLc hF
    obtain ⟨L2, f2, hM, hP2, hD2⟩ := zMrg_ok hP hD (H2 := T'.heap) (by rw [e1]; exact hB.1) hB.2.2 hA (fun q q1 q2 => by rw [e1, hF.2 q (by rw [h0]; exact q1) q2, h0])
    obtain ⟨t2, a1, b1⟩ := KX E L' f' L2 f2 hR hM T'.heap (locs ++ Lc) la q ce hP2 hD2 k3 hl (by rw [e1]; exact hce) hcv hcl T' rfl X'
    exact ⟨t2, stp.trans a1, b1⟩
end ZSUB
