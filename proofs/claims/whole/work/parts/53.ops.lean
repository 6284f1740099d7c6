/-! ===== the survey at rest, and what the calls keep ===== -/
/-- the text's letters -/
def spTx (μ : zMu) : List Int := (List.range (μ 3 0).toNat).map (fun j : Nat => μ 20 (j : Int))
theorem spTx_len (μ : zMu) : (spTx μ).length = (μ 3 0).toNat := by unfold spTx; rw [List.length_map, List.length_range]
theorem spTx_at (μ : zMu) {i : Int} (h0 : 0 ≤ i) (h1 : i < μ 3 0) : (spTx μ).getD i.toNat 0 = μ 20 i := by
  unfold spTx
  rw [List.getD_eq_getElem?_getD, List.getElem?_map, List.getElem?_range (by omega)]
  show μ 20 ((i.toNat : Nat) : Int) = μ 20 i
  rw [Int.toNat_of_nonneg h0]
theorem spTx_app (μ : zMu) (t : List Int) : spTx (zapp (zset μ 3 (fun _ => 0)) t) = t := by
  have e3 : zapp (zset μ 3 (fun _ => 0)) t 3 0 = (t.length : Int) := by rw [zapp_30, zset_s]; omega
  refine List.ext_getElem? (fun i => ?_)
  unfold spTx
  rw [e3, List.getElem?_map]
  by_cases h : i < t.length
  · rw [List.getElem?_range (by omega), zapp_20]
    show some (if zset μ 3 (fun _ => 0) 3 0 ≤ (i : Int) ∧ (i : Int) < zset μ 3 (fun _ => 0) 3 0 + t.length then t.getD ((i : Int) - zset μ 3 (fun _ => 0) 3 0).toNat 0 else _) = t[i]?
    rw [zset_s, if_pos ⟨by omega, by omega⟩, List.getD_eq_getElem?_getD, show ((i : Int) - 0).toNat = i by omega, List.getElem?_eq_getElem h]
    rfl
  · rw [List.getElem?_eq_none (by rw [List.length_range]; omega), List.getElem?_eq_none (by omega)]
    rfl
abbrev SRC (G : zG) (L : List Nat) (f : Nat → va_E) (o : Nat) (ω : Nat → Nat → Nat) (μ : zMu) : Prop := SR G L f o ω μ (spChart μ) (fun l => zrl μ l) (spTx μ)
/-- the survey at rest -/
def CSx (G : zG) (L : List Nat) (f : Nat → va_E) (o : Nat) (μ : zMu) : Prop := ∃ ω, SRC G L f o ω μ ∧ MI μ ∧ MK μ
/-- an answer -/
def CR (G : zG) (o : Nat) (t : Int × Int × zMu) : Int → List Nat → (Nat → va_E) → Prop := fun z L' f' => t.1 = 0 ∧ z = t.2.1 ∧ CSx G L' f' o t.2.2
/-- a throw -/
def CX (G : zG) (o : Nat) (es : List String) (t : Int × Int × zMu) : String → List Nat → (Nat → va_E) → Prop := fun E L' f' => 1 ≤ t.1 ∧ es[(t.1 - 1).toNat]? = some E ∧ CSx G L' f' o t.2.2
theorem CR_mk {G : zG} {o : Nat} {t : Int × Int × zMu} {z v : Int} {μ' : zMu} {L' : List Nat} {f' : Nat → va_E} (h : t = (0, v, μ')) (hz : z = v) (hc : CSx G L' f' o μ') : CR G o t z L' f' := by
  subst h; exact ⟨rfl, hz, hc⟩
theorem CX_mk {G : zG} {o : Nat} {es : List String} {t : Int × Int × zMu} {v j : Int} {μ' : zMu} {E : String} {L' : List Nat} {f' : Nat → va_E} (h : t = (j, v, μ')) (h1 : 1 ≤ j) (he : es[(j - 1).toNat]? = some E) (hc : CSx G L' f' o μ') : CX G o es t E L' f' := by
  subst h; exact ⟨h1, he, hc⟩
theorem MI_4 {μ : zMu} (h : MI μ) {i x : Int} (hx : 1 ≤ x ∧ x ≤ 99) : MI (zset μ 4 (zup (μ 4) i x)) := ⟨h.1, fun j q0 q1 => by
  show 1 ≤ zup (μ 4) i x j ∧ zup (μ 4) i x j ≤ 99
  unfold zup; split
  · exact hx
  · exact h.b4 j q0 q1, h.2.2⟩
theorem MI_5 {μ : zMu} (h : MI μ) {i x : Int} (hx : 0 ≤ x ∧ x ≤ 30) : MI (zset μ 5 (zup (μ 5) i x)) := ⟨h.1, h.2.1, fun j q0 q1 => by
  show 0 ≤ zup (μ 5) i x j ∧ zup (μ 5) i x j ≤ 30
  unfold zup; split
  · exact hx
  · exact h.b5 j q0 q1, h.2.2.2⟩
theorem MI_6 {μ : zMu} (h : MI μ) {i x : Int} (hx : -2 ≤ x ∧ x ≤ 2) : MI (zset μ 6 (zup (μ 6) i x)) := ⟨h.1, h.2.1, h.2.2.1, fun j q0 q1 => by
  show -2 ≤ zup (μ 6) i x j ∧ zup (μ 6) i x j ≤ 2
  unfold zup; split
  · exact hx
  · exact h.b6 j q0 q1, h.2.2.2.2⟩
theorem MI_7 {μ : zMu} (h : MI μ) {i x : Int} (hx : 0 ≤ x ∧ x ≤ 9) : MI (zset μ 7 (zup (μ 7) i x)) := ⟨h.1, h.2.1, h.2.2.1, h.2.2.2.1, fun j q0 q1 => by
  show 0 ≤ zup (μ 7) i x j ∧ zup (μ 7) i x j ≤ 9
  unfold zup; split
  · exact hx
  · exact h.b7 j q0 q1, h.2.2.2.2.2⟩
theorem MI_8 {μ : zMu} (h : MI μ) {c : Int} (hc : 0 ≤ c ∧ c ≤ 19) (h3 : μ 1 0 ≠ 3) : MI (zset (zset μ 8 (zup (μ 8) (μ 1 0) c)) 1 (fun _ => μ 1 0 + 1)) := by
  have hn := h.n
  refine ⟨⟨show 0 ≤ μ 1 0 + 1 by omega, show μ 1 0 + 1 ≤ 3 by omega, hn.2.2⟩, h.2.1, h.2.2.1, h.2.2.2.1, h.2.2.2.2.1, fun j q0 q1 => ?_, h.2.2.2.2.2.2.1, fun j q0 q1 => ?_, h.2.2.2.2.2.2.2.2⟩
  · show 0 ≤ zup (μ 8) (μ 1 0) c j ∧ zup (μ 8) (μ 1 0) c j ≤ 19
    unfold zup; split
    · exact hc
    · exact h.b8 j q0 q1
  · have q0 : (μ 1 0 + 1) * 240 ≤ j := q0
    exact h.2.2.2.2.2.2.2.1 j (by omega) q1
theorem MI_11 {μ : zMu} (h : MI μ) {a b x : Int} (hx : 0 ≤ x ∧ x ≤ 1) (hb : b ≤ μ 1 0 * 240) : MI (zset μ 11 (zfill (μ 11) a b x)) := ⟨h.1, h.2.1, h.2.2.1, h.2.2.2.1, h.2.2.2.2.1, h.2.2.2.2.2.1, fun j q0 q1 => by
  show 0 ≤ zfill (μ 11) a b x j ∧ zfill (μ 11) a b x j ≤ 1
  unfold zfill; split
  · exact hx
  · exact h.b11 j q0 q1, fun j q0 q1 => by
  have q0 : μ 1 0 * 240 ≤ j := q0
  show zfill (μ 11) a b x j = 0
  unfold zfill
  rw [if_neg (by omega)]
  exact h.2.2.2.2.2.2.2.1 j q0 q1, h.2.2.2.2.2.2.2.2⟩
theorem MI_19 {μ : zMu} (h : MI μ) {i x : Int} (hx : -60 ≤ x ∧ x ≤ 60) : MI (zset μ 19 (zup (μ 19) i x)) := ⟨h.1, h.2.1, h.2.2.1, h.2.2.2.1, h.2.2.2.2.1, h.2.2.2.2.2.1, h.2.2.2.2.2.2.1, h.2.2.2.2.2.2.2.1, h.2.2.2.2.2.2.2.2.1, h.2.2.2.2.2.2.2.2.2.1, h.2.2.2.2.2.2.2.2.2.2.1, fun j q0 q1 => ⟨(h.b18 j q0 q1).1, by
  show -60 ≤ zup (μ 19) i x j ∧ zup (μ 19) i x j ≤ 60
  unfold zup; split
  · exact hx
  · exact (h.b18 j q0 q1).2⟩, h.2.2.2.2.2.2.2.2.2.2.2.2⟩
theorem spChart_4 (μ : zMu) (g : Int → Int) : spChart (zset μ 4 g) = spChart μ := rfl
theorem spChart_7 (μ : zMu) (g : Int → Int) : spChart (zset μ 7 g) = spChart μ := rfl
theorem zrl_4 (μ : zMu) (g : Int → Int) (l : Int) : zrl (zset μ 4 g) l = zrl μ l := rfl
theorem zrl_7 (μ : zMu) (g : Int → Int) (l : Int) : zrl (zset μ 7 g) l = zrl μ l := rfl
theorem SRC_4 {G : zG} {L : List Nat} {f : Nat → va_E} {o : Nat} {ω : Nat → Nat → Nat} {μ : zMu} {g : Int → Int} (h : SR G L f o ω (zset μ 4 g) (spChart μ) (fun l => zrl μ l) (spTx μ)) : SRC G L f o ω (zset μ 4 g) := by
  have e : (fun l : Nat => zrl (zset μ 4 g) (l : Int)) = fun l : Nat => zrl μ (l : Int) := funext (fun l => zrl_4 μ g l)
  unfold SRC
  rw [spChart_4, e]
  exact h
theorem SRC_7 {G : zG} {L : List Nat} {f : Nat → va_E} {o : Nat} {ω : Nat → Nat → Nat} {μ : zMu} {g : Int → Int} (h : SR G L f o ω (zset μ 7 g) (spChart μ) (fun l => zrl μ l) (spTx μ)) : SRC G L f o ω (zset μ 7 g) := by
  have e : (fun l : Nat => zrl (zset μ 7 g) (l : Int)) = fun l : Nat => zrl μ (l : Int) := funext (fun l => zrl_7 μ g l)
  unfold SRC
  rw [spChart_7, e]
  exact h
theorem zls_ok {μ : zMu} (hI : MI μ) (hK : MK μ) {l : Int} (hl : 0 ≤ l ∧ l < μ 2 0) (k t : Int) : zls (zsl μ l) k t ≠ zNO ↔ spOk μ l k t := by
  have hz := spSize_rng hI.J (l := l) ⟨hl.1, by have := hI.n; omega⟩
  constructor
  · intro h
    by_cases q : 0 ≤ k ∧ k ≤ 19 ∧ -3 ≤ t ∧ t ≤ 3
    · rw [zls_zsl μ l q] at h
      have a := (hK l k t hl.1 hl.2 q.1 (by omega) q.2.2.1 q.2.2.2 h).1
      exact ⟨⟨q.1, a⟩, ⟨q.2.2.1, q.2.2.2⟩, h⟩
    · exact absurd (if_neg q) h
  · intro ⟨h1, h2, h3⟩
    rw [zls_zsl μ l ⟨h1.1, by omega, h2.1, h2.2⟩]
    exact h3
theorem zcnt_shift (F : Int → Int) (c a : Int) : ∀ n : Nat, zcnt (fun j => F (c + j)) a n = zcnt F (c + a) n
  | 0 => rfl
  | n + 1 => by unfold zcnt; rw [zcnt_shift F c a n, show c + (a + (n : Int)) = c + a + n by omega]
section ZQST
variable {p : Program} {l : Launch} {e : Env} {R : Room} {s : State} {m : MethodId} {args : Array Value} {below : List Frame} {meth : Method} {c : Code} {cells slots : Nat} {Q : State → Prop}
variable {G : zG} {X : (Nat → Prop) → State → Prop} {A : Nat → Prop} {nL : Nat} {L : List Nat} {f : Nat → va_E} {cc : ByteArray} {own : String} {pc : Nat} {ls : List (Nat × Value)} {st : List Value} {ret : Option FieldType}
theorem z_qstore_n (C : ZC G X p l s m args meth c A nL ret cc own) {k : Fin 4} {r : Option Nat} {ls' : List (Nat × Value)} (hd : decode cc pc = .ok (.astore_n k, 1)) (hn : (k : Nat) < nL) (hl : ((k : Nat), va_rf r) :: ls.filter (fun q => !(q.1 == (k : Nat)) && !(q.1 + 1 == (k : Nat) && q.2.category == 2)) = ls') (K : ZW G p l e R s m args below meth c A nL cells slots Q L f (pc + 1) ls' st) : ZW G p l e R s m args below meth c A nL cells slots Q L f pc ls (va_rf r :: st) := by
  cases r with
  | none => exact fun H locs la hP hD hS h => lv_astore_nN C.1 C.2.1 hd rfl h hn hl (fun la' h' => K H locs la' hP hD hS h')
  | some x => exact z_astore_n C hd hn hl K
theorem z_qstore (C : ZC G X p l s m args meth c A nL ret cc own) {k : Nat} {r : Option Nat} {ls' : List (Nat × Value)} (hd : decode cc pc = .ok (.astore k, 2)) (hn : k < nL) (hl : (k, va_rf r) :: ls.filter (fun q => !(q.1 == k) && !(q.1 + 1 == k && q.2.category == 2)) = ls') (K : ZW G p l e R s m args below meth c A nL cells slots Q L f (pc + 2) ls' st) : ZW G p l e R s m args below meth c A nL cells slots Q L f pc ls (va_rf r :: st) := by
  cases r with
  | none => exact fun H locs la hP hD hS h => lv_astoreN C.1 C.2.1 hd h hn hl (fun la' h' => K H locs la' hP hD hS h')
  | some x => exact z_astore C hd hn hl K
end ZQST
