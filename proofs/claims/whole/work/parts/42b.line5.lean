/-! ===== a line's writing: soundings, reductions, the chart ===== -/
/-- the sea's numbers among all -/
def zK (μ : zMu) : zMu := fun i => μ (4 + i)
theorem MJ_SK {μ : zMu} (h : MJ μ) : zSK (zK μ) := ⟨h.b4, h.b5, h.b6, h.b7⟩
theorem zne_c {f : Nat → va_E} {a b c1 c2 : Nat} {v1 v2 : List Value} (h1 : f a = .inr (c1, v1)) (h2 : f b = .inr (c2, v2)) (hc : c1 ≠ c2) : a ≠ b := by
  intro z
  rw [z, h2] at h1
  cases h1
  exact hc rfl
theorem zne_A {G : zG} {L : List Nat} {f : Nat → va_E} {a b c1 t n : Nat} {v1 : List Value} {σ : Int → Int} (h1 : f a = .inr (c1, v1)) (h2 : zA G t L f b n σ) : a ≠ b := by
  intro z
  obtain ⟨-, φ, e, -⟩ := h2
  rw [z, e] at h1
  cases h1
theorem zSea_kept {G : zG} {L L' : List Nat} {f f' : Nat → va_E} {w : Nat} {xr xa : Nat → Nat} {κ : zMu} (h : zSea G L f w xr xa κ) (hL : ∀ b ∈ L, b ∈ L') (h0 : f' w = f w) (h1 : ∀ i, i < 4 → f' (xr i) = f (xr i)) (h2 : ∀ i, i < 4 → f' (xa i) = f (xa i)) : zSea G L' f' w xr xa κ :=
  ⟨⟨hL _ h.1.1, by rw [h0]; exact h.1.2⟩, zRow_kept h.2.1 hL (h1 0 (by decide)) (h2 0 (by decide)), zRow_kept h.2.2.1 hL (h1 1 (by decide)) (h2 1 (by decide)), zRow_kept h.2.2.2.1 hL (h1 2 (by decide)) (h2 2 (by decide)), zRow_kept h.2.2.2.2 hL (h1 3 (by decide)) (h2 3 (by decide))⟩
theorem zSea_r {G : zG} {L : List Nat} {f : Nat → va_E} {w : Nat} {xr xa : Nat → Nat} {κ : zMu} (h : zSea G L f w xr xa κ) {i : Nat} (hi : i < 4) : ∃ b, f (xr i) = .inr (8, [.ref (xa i), .int (iI b)]) := by
  match i, hi with
  | 0, _ => exact ⟨_, h.2.1.1.2⟩
  | 1, _ => exact ⟨_, h.2.2.1.1.2⟩
  | 2, _ => exact ⟨_, h.2.2.2.1.1.2⟩
  | 3, _ => exact ⟨_, h.2.2.2.2.1.2⟩
theorem zSea_a {G : zG} {L : List Nat} {f : Nat → va_E} {w : Nat} {xr xa : Nat → Nat} {κ : zMu} (h : zSea G L f w xr xa κ) {i : Nat} (hi : i < 4) : ∃ n σ, zA G 0 L f (xa i) n σ := by
  match i, hi with
  | 0, _ => exact ⟨_, _, h.2.1.2⟩
  | 1, _ => exact ⟨_, _, h.2.2.1.2⟩
  | 2, _ => exact ⟨_, _, h.2.2.2.1.2⟩
  | 3, _ => exact ⟨_, _, h.2.2.2.2.2⟩
/-- the sea beside a change of numbers that are not its own -/
theorem zSea_wA {G : zG} {L : List Nat} {f f' : Nat → va_E} {w : Nat} {xr xa : Nat → Nat} {κ : zMu} (h : zSea G L f w xr xa κ) {a t n : Nat} {σ : Int → Int} (ha : zA G t L f a n σ) (hx : ∀ i, i < 4 → xa i ≠ a) (hk : ∀ c, c ≠ a → f' c = f c) : zSea G L f' w xr xa κ :=
  zSea_kept h (fun _ q => q) (hk _ (zne_A h.1.2 ha)) (fun i hi => by obtain ⟨b, e⟩ := zSea_r h hi; exact hk _ (zne_A e ha)) (fun i hi => hk _ (hx i hi))
/-- .. of an object of another class -/
theorem zSea_wO {G : zG} {L : List Nat} {f f' : Nat → va_E} {w : Nat} {xr xa : Nat → Nat} {κ : zMu} (h : zSea G L f w xr xa κ) {o ci : Nat} {vs : List Value} (ho : f o = .inr (ci, vs)) (h8 : ci ≠ 8) (h9 : ci ≠ 9) (hk : ∀ c, c ≠ o → f' c = f c) : zSea G L f' w xr xa κ :=
  zSea_kept h (fun _ q => q) (hk _ (zne_c h.1.2 ho (fun z => h9 z.symm))) (fun i hi => by obtain ⟨b, e⟩ := zSea_r h hi; exact hk _ (zne_c e ho (fun z => h8 z.symm))) (fun i hi => by obtain ⟨n, σ, e⟩ := zSea_a h hi; exact hk _ (zne_A ho e).symm)
theorem zLn_w0 {G : zG} {L : List Nat} {f f' : Nat → va_E} {w : Nat} {μ : zMu} {l : Int} {r0 r1 r2 a0 a1 a2 : Nat} {s e rd s' : Int → Int} (h : zLn G L f w μ l r0 r1 r2 a0 a1 a2 s e rd) (h1 : a1 ≠ a0) (h2 : a2 ≠ a0) (ha : zA G 0 L f' a0 140 (fun p => cN (s' p))) (hk : ∀ c, c ≠ a0 → f' c = f c) : zLn G L f' w μ l r0 r1 r2 a0 a1 a2 s' e rd :=
  ⟨⟨h.1.1, by rw [hk _ (zne_A h.1.2 h.2.1.2)]; exact h.1.2⟩, zRow_w h.2.1 ha hk, zRow_kept h.2.2.1 (fun _ q => q) (hk _ (zne_A h.2.2.1.1.2 h.2.1.2)) (hk _ h1), zRow_kept h.2.2.2 (fun _ q => q) (hk _ (zne_A h.2.2.2.1.2 h.2.1.2)) (hk _ h2)⟩
theorem zLn_w1 {G : zG} {L : List Nat} {f f' : Nat → va_E} {w : Nat} {μ : zMu} {l : Int} {r0 r1 r2 a0 a1 a2 : Nat} {s e rd e' : Int → Int} (h : zLn G L f w μ l r0 r1 r2 a0 a1 a2 s e rd) (h1 : a0 ≠ a1) (h2 : a2 ≠ a1) (ha : zA G 0 L f' a1 140 e') (hk : ∀ c, c ≠ a1 → f' c = f c) : zLn G L f' w μ l r0 r1 r2 a0 a1 a2 s e' rd :=
  ⟨⟨h.1.1, by rw [hk _ (zne_A h.1.2 h.2.2.1.2)]; exact h.1.2⟩, zRow_kept h.2.1 (fun _ q => q) (hk _ (zne_A h.2.1.1.2 h.2.2.1.2)) (hk _ h1), zRow_w h.2.2.1 ha hk, zRow_kept h.2.2.2 (fun _ q => q) (hk _ (zne_A h.2.2.2.1.2 h.2.2.1.2)) (hk _ h2)⟩
theorem zLn_w2 {G : zG} {L : List Nat} {f f' : Nat → va_E} {w : Nat} {μ : zMu} {l : Int} {r0 r1 r2 a0 a1 a2 : Nat} {s e rd rd' : Int → Int} (h : zLn G L f w μ l r0 r1 r2 a0 a1 a2 s e rd) (h1 : a0 ≠ a2) (h2 : a1 ≠ a2) (ha : zA G 0 L f' a2 140 (fun p => cN (rd' p))) (hk : ∀ c, c ≠ a2 → f' c = f c) : zLn G L f' w μ l r0 r1 r2 a0 a1 a2 s e rd' :=
  ⟨⟨h.1.1, by rw [hk _ (zne_A h.1.2 h.2.2.2.2)]; exact h.1.2⟩, zRow_kept h.2.1 (fun _ q => q) (hk _ (zne_A h.2.1.1.2 h.2.2.2.2)) (hk _ h1), zRow_kept h.2.2.1 (fun _ q => q) (hk _ (zne_A h.2.2.1.1.2 h.2.2.2.2)) (hk _ h2), zRow_w h.2.2.2 ha hk⟩
/-- the line's own cell written -/
theorem zLn_wO {G : zG} {L : List Nat} {f f' : Nat → va_E} {w : Nat} {μ μ' : zMu} {l : Int} {r0 r1 r2 a0 a1 a2 : Nat} {s e rd : Int → Int} (h : zLn G L f w μ l r0 r1 r2 a0 a1 a2 s e rd) (hw : f' w = .inr (7, [.int (iI (μ' 12 l)), .int (iI (μ' 13 l)), .int (iI (μ' 14 l)), .int (iI (μ' 15 l)), .int (iI (spSize μ' l)), .int (iI (μ' 16 l)), .int (iI (μ' 17 l)), .ref r0, .ref r1, .ref r2])) (hk : ∀ c, c ≠ w → f' c = f c) : zLn G L f' w μ' l r0 r1 r2 a0 a1 a2 s e rd :=
  ⟨⟨h.1.1, hw⟩, zRow_kept h.2.1 (fun _ q => q) (hk _ (zne_c h.2.1.1.2 h.1.2 (by decide))) (hk _ (zne_A h.1.2 h.2.1.2).symm), zRow_kept h.2.2.1 (fun _ q => q) (hk _ (zne_c h.2.2.1.1.2 h.1.2 (by decide))) (hk _ (zne_A h.1.2 h.2.2.1.2).symm), zRow_kept h.2.2.2 (fun _ q => q) (hk _ (zne_c h.2.2.2.1.2 h.1.2 (by decide))) (hk _ (zne_A h.1.2 h.2.2.2.2).symm)⟩
/-- a line run on that day, in that hour -/
def zday (μ : zMu) (l d : Int) : zMu := zset μ 16 (zup (μ 16) l d)
def zanew (μ : zMu) (l d h : Int) : zMu := zset (zset μ 16 (zup (μ 16) l d)) 17 (zup (μ 17) l h)
theorem zday_size (μ : zMu) (l d : Int) : spSize (zday μ l d) l = spSize μ l := rfl
theorem zanew_size (μ : zMu) (l d h : Int) : spSize (zanew μ l d h) l = spSize μ l := rfl
theorem zday_16 (μ : zMu) (l d : Int) : zday μ l d 16 l = d := zup_s _ _ _
theorem zanew_16 (μ : zMu) (l d h : Int) : zanew μ l d h 16 l = d := zup_s _ _ _
theorem zanew_17 (μ : zMu) (l d h : Int) : zanew μ l d h 17 l = h := zup_s _ _ _
/-- the soundings of the places before b, none behind -/
noncomputable def zsb (μ : zMu) (l b : Int) : Int → Int := fun p => if 0 ≤ p ∧ p < b then spSv μ l (p / 7) (p % 7 - 3) else zNO
theorem zsb_0 (μ : zMu) (l : Int) {b : Int} (h : b ≤ 0) : zsb μ l b = fun _ => zNO := by
  funext p; unfold zsb; rw [if_neg (by omega)]
theorem zsb_s (μ : zMu) (l : Int) {k t : Int} (hk : 0 ≤ k) (ht : -3 ≤ t ∧ t ≤ 3) : zup (zsb μ l (7 * k + t + 3)) (7 * k + t + 3) (spSv μ l k t) = zsb μ l (7 * k + (t + 1) + 3) := by
  funext p; unfold zup zsb
  by_cases h : p = 7 * k + t + 3
  · rw [if_pos h, if_pos (by omega), show p / 7 = k by omega, show p % 7 - 3 = t by omega]
  · rw [if_neg h]
    by_cases h2 : 0 ≤ p ∧ p < 7 * k + t + 3
    · rw [if_pos h2, if_pos (by omega)]
    · rw [if_neg h2, if_neg (by omega)]
theorem zsb_skip (μ : zMu) (l : Int) {b b' : Int} (hb : b ≤ b') (h : ∀ p, 0 ≤ p → b ≤ p → p < b' → spSv μ l (p / 7) (p % 7 - 3) = zNO) : zsb μ l b = zsb μ l b' := by
  funext p; unfold zsb
  by_cases h2 : 0 ≤ p ∧ p < b
  · rw [if_pos h2, if_pos (by omega)]
  · rw [if_neg h2]
    by_cases h3 : 0 ≤ p ∧ p < b'
    · rw [if_pos h3, h p h3.1 (by omega) h3.2]
    · rw [if_neg h3]
theorem spSv_far {μ : zMu} {l k s : Int} (h : spSize μ l ≤ k ∨ ¬ spOn μ l k s ∨ s < -spReach (μ 4 (spCell μ l k 0)) ∨ spReach (μ 4 (spCell μ l k 0)) < s) : spSv μ l k s = zNO := zif_neg (fun q => by rcases h with h | h | h; omega; exact h q.2.1; omega)
theorem spSv_near {μ : zMu} {l k s : Int} (h0 : k < spSize μ l) (h1 : spOn μ l k s) (h2 : -spReach (μ 4 (spCell μ l k 0)) ≤ s ∧ s ≤ spReach (μ 4 (spCell μ l k 0))) : spSv μ l k s = μ 4 (spCell μ l k s) + spWater μ (spCol μ l k 0) (μ 16 l) (μ 17 l + k / 5) := zif_pos ⟨h0, h1, h2⟩
/-- the places left of the reach -/
theorem zsb_left {μ : zMu} {l k : Int} (hk : 0 ≤ k) {t : Int} (ht : -3 ≤ t) (h : t = -spReach (μ 4 (spCell μ l k 0))) (hr : 0 ≤ spReach (μ 4 (spCell μ l k 0))) : zsb μ l (7 * k) = zsb μ l (7 * k + t + 3) := zsb_skip μ l (by omega) (fun p h0 h1 h2 => spSv_far (Or.inr (Or.inr (Or.inl (by
  have e : p / 7 = k := by omega
  rw [e, ← h]; omega)))))
theorem zsb_right {μ : zMu} {l k : Int} (hk : 0 ≤ k) {t : Int} (ht : t ≤ 4) (h : t = spReach (μ 4 (spCell μ l k 0)) + 1) (hr : 0 ≤ spReach (μ 4 (spCell μ l k 0))) : zsb μ l (7 * k + t + 3) = zsb μ l (7 * (k + 1)) := zsb_skip μ l (by omega) (fun p h0 h1 h2 => spSv_far (Or.inr (Or.inr (Or.inr (by
  have e : p / 7 = k := by omega
  rw [e]; omega)))))
theorem zsb_end (μ : zMu) (l : Int) {k : Int} (hk : spSize μ l ≤ k) (h20 : k ≤ 20) : zsb μ l (7 * k) = zsb μ l 140 := zsb_skip μ l (by omega) (fun p h0 h1 h2 => spSv_far (Or.inl (by omega)))
/-- a line's soundings and errors, places from 0 -/
def zsl (μ : zMu) (l : Int) : Int → Int := fun p => if 0 ≤ p ∧ p < 140 then μ 18 (140 * l + p) else zNO
def zel (μ : zMu) (l : Int) : Int → Int := fun p => if 0 ≤ p ∧ p < 140 then μ 19 (140 * l + p) else 0
def zrl (μ : zMu) (l : Int) : Int → Int := fun p => if 0 ≤ p ∧ p < 140 then spRed μ l (p / 7) (p % 7 - 3) else zNO
theorem zsl_SM (μ : zMu) (l : Int) : zsl (spSM μ l (140 * l + 140)) l = zsb μ l 140 := by
  funext p
  unfold zsl zsb
  by_cases h : 0 ≤ p ∧ p < 140
  · rw [if_pos h, if_pos h]
    show spSF μ l (140 * l + 140) (140 * l + p) = _
    unfold spSF
    rw [if_pos (by omega), show 140 * l + p - 140 * l = p by omega]
  · rw [if_neg h, if_neg h]
theorem zel_SM (μ : zMu) (l : Int) : zel (spSM μ l (140 * l + 140)) l = fun _ => 0 := by
  funext p
  unfold zel
  by_cases h : 0 ≤ p ∧ p < 140
  · rw [if_pos h]
    show zfill (μ 19) (140 * l) (140 * l + 140) 0 (140 * l + p) = 0
    unfold zfill
    rw [if_pos (by omega)]
  · rw [if_neg h]
theorem zcell_on {c r : Int} (h : zOn c r) : zcell c r = 20 * r + c := if_pos h
theorem zcell_no {c r : Int} (h : ¬ zOn c r) : zcell c r = -1 := if_neg h
theorem zslot_in {k t : Int} (h : 0 ≤ k ∧ k ≤ 19 ∧ -3 ≤ t ∧ t ≤ 3) : zslot k t = 7 * k + t + 3 := if_pos h
theorem cN_upd {s : Int → Int} {i x : Int} (hx : -2000 ≤ x ∧ x ≤ 2000) : zup (fun p => cN (s p)) i x = fun p => cN (zup s i x p) := by
  funext p
  unfold zup
  by_cases h : p = i
  · rw [if_pos h, if_pos h, cN_in hx]
  · rw [if_neg h, if_neg h]
section ZPUTG
variable {p : Program} {l : Launch} {e : Env} {R : Room} {s : State} {m : MethodId} {args : Array Value} {below : List Frame} {meth : Method} {c : Code} {cells slots : Nat} {Q : State → Prop}
variable {G : zG} {X : (Nat → Prop) → State → Prop} {A : Nat → Prop} {nL : Nat} {L : List Nat} {f : Nat → va_E} {cc : ByteArray} {own : String} {pc : Nat} {ls : List (Nat × Value)} {st : List Value} {ret : Option FieldType}
/-- a field written: the world behind it by what is known of it -/
theorem z_putG (C : ZC G X p l s m args meth c A nL ret cc own) {o ci idx N : Nat} {Cn ref : String} {T : u_T} {fs : List Value} {v : Value} {ty0 : Nat → FieldType} {ty : FieldType} (k : Nat) (hin : ∀ w ∈ u_ws Cn T N, w ∈ zT) (hty : ∀ k, k < N → parseFieldDescriptor (T k).2.2.1 = some (ty0 k)) (hnm : ∀ a, a < N → ∀ b, b < N → a ≠ b → (T a).2.1 ≠ (T b).2.1) (ho : o ∈ L) (hf : f o = .inr (ci, fs)) (hc : vwCl[ci]? = some (Cn, T, N)) (hk : k < N) (hlink : Cond.fieldLink own idx ref (T k).2.1 (T k).2.2.1 ∈ lw_tbl) (hsame : (T k).1 = ref) (hfin : (T k).2.2.2 = false) (hdes : parseFieldDescriptor (T k).2.2.1 = some ty) (hn : narrow ty v = v) (hfit : fits ty v = true) (hl : k < fs.length) (hd : decode cc pc = .ok (.putfield idx, 3))
    (K : ∀ f', f' o = .inr (ci, fs.set k v) → (∀ b, b ≠ o → f' b = f b) → ZW G p l e R s m args below meth c A nL cells slots Q L f' (pc + 3) ls st) : ZW G p l e R s m args below meth c A nL cells slots Q L f pc ls (v :: .ref o :: st) :=
  z_putf C k hin hty hnm ho hf hc hk hlink hsame hfin hdes hn hfit hl hd (K _ (va_up_self _ _ _) (fun b hb => va_up_ne _ _ hb))
/-- .. a final one, in the making -/
theorem z_putGF (C : ZC G X p l s m args meth c A nL ret cc own) (hini : meth.name = "<init>") {o ci idx N : Nat} {Cn ref : String} {T : u_T} {fs : List Value} {v : Value} {ty0 : Nat → FieldType} {ty : FieldType} (k : Nat) (hin : ∀ w ∈ u_ws Cn T N, w ∈ zT) (hty : ∀ k, k < N → parseFieldDescriptor (T k).2.2.1 = some (ty0 k)) (hnm : ∀ a, a < N → ∀ b, b < N → a ≠ b → (T a).2.1 ≠ (T b).2.1) (ho : o ∈ L) (hf : f o = .inr (ci, fs)) (hc : vwCl[ci]? = some (Cn, T, N)) (hk : k < N) (hlink : Cond.fieldLink own idx ref (T k).2.1 (T k).2.2.1 ∈ lw_tbl) (hsame : (T k).1 = ref) (hown : (T k).1 = own) (hfin : (T k).2.2.2 = true) (hdes : parseFieldDescriptor (T k).2.2.1 = some ty) (hn : narrow ty v = v) (hfit : fits ty v = true) (hl : k < fs.length) (hd : decode cc pc = .ok (.putfield idx, 3))
    (K : ∀ f', f' o = .inr (ci, fs.set k v) → (∀ b, b ≠ o → f' b = f b) → ZW G p l e R s m args below meth c A nL cells slots Q L f' (pc + 3) ls st) : ZW G p l e R s m args below meth c A nL cells slots Q L f pc ls (v :: .ref o :: st) :=
  z_putfF C hini k hin hty hnm ho hf hc hk hlink hsame hown hfin hdes hn hfit hl hd (K _ (va_up_self _ _ _) (fun b hb => va_up_ne _ _ hb))
end ZPUTG
theorem cN_upc (s : Int → Int) (i x : Int) : zup (fun p => cN (s p)) i (cN x) = fun p => cN (zup s i x p) := by
  funext p
  unfold zup
  by_cases h : p = i
  · rw [if_pos h, if_pos h]
  · rw [if_neg h, if_neg h]
theorem zLn_wA {G : zG} {L : List Nat} {f f' : Nat → va_E} {w : Nat} {μ : zMu} {l : Int} {r0 r1 r2 a0 a1 a2 : Nat} {s e rd : Int → Int} (h : zLn G L f w μ l r0 r1 r2 a0 a1 a2 s e rd) {a t n : Nat} {σ : Int → Int} (ha : zA G t L f a n σ) (h0 : a0 ≠ a) (h1 : a1 ≠ a) (h2 : a2 ≠ a) (hk : ∀ c, c ≠ a → f' c = f c) : zLn G L f' w μ l r0 r1 r2 a0 a1 a2 s e rd :=
  ⟨⟨h.1.1, by rw [hk _ (zne_A h.1.2 ha)]; exact h.1.2⟩, zRow_kept h.2.1 (fun _ q => q) (hk _ (zne_A h.2.1.1.2 ha)) (hk _ h0), zRow_kept h.2.2.1 (fun _ q => q) (hk _ (zne_A h.2.2.1.1.2 ha)) (hk _ h1), zRow_kept h.2.2.2 (fun _ q => q) (hk _ (zne_A h.2.2.2.1.2 ha)) (hk _ h2)⟩
theorem zLn_c {G : zG} {L : List Nat} {f : Nat → va_E} {w : Nat} {μ : zMu} {l : Int} {r0 r1 r2 a0 a1 a2 : Nat} {s e rd s' e' rd' : Int → Int} (h : zLn G L f w μ l r0 r1 r2 a0 a1 a2 s e rd) (h0 : ∀ p, 0 ≤ p → p < 140 → s p = s' p) (h1 : ∀ p, 0 ≤ p → p < 140 → e p = e' p) (h2 : ∀ p, 0 ≤ p → p < 140 → rd p = rd' p) : zLn G L f w μ l r0 r1 r2 a0 a1 a2 s' e' rd' :=
  ⟨h.1, ⟨h.2.1.1, zA_cong h.2.1.2 (fun i q0 q1 => by rw [h0 i q0 q1])⟩, ⟨h.2.2.1.1, zA_cong h.2.2.1.2 h1⟩, ⟨h.2.2.2.1, zA_cong h.2.2.2.2 (fun i q0 q1 => by rw [h2 i q0 q1])⟩⟩
theorem zP_A {G : zG} {L : List Nat} {f : Nat → va_E} {a b t t2 n n2 : Nat} {γ : Nat → Option Nat} {σ : Int → Int} (h1 : zP G t L f a n γ) (h2 : zA G t2 L f b n2 σ) : a ≠ b := by
  intro z
  obtain ⟨-, φ, e, -⟩ := h2
  have h3 := h1.2
  rw [z, e] at h3
  have h4 := (Prod.mk.inj (Prod.mk.inj (Sum.inl.inj h3)).2).2
  cases h4
theorem zne_P {G : zG} {L : List Nat} {f : Nat → va_E} {a b c1 t n : Nat} {v1 : List Value} {γ : Nat → Option Nat} (h1 : f a = .inr (c1, v1)) (h2 : zP G t L f b n γ) : a ≠ b := by
  intro z
  have h3 := h2.2
  rw [← z, h1] at h3
  cases h3
theorem zGau_wA {G : zG} {L : List Nat} {f f' : Nat → va_E} {w : Nat} {k : Int} {r x : Nat} {F : Int → Int} (h : zGau G L f w k r x F) {a t n : Nat} {σ : Int → Int} (ha : zA G t L f a n σ) (hx : x ≠ a) (hk : ∀ c, c ≠ a → f' c = f c) : zGau G L f' w k r x F :=
  ⟨⟨h.1.1, by rw [hk _ (zne_A h.1.2 ha)]; exact h.1.2⟩, zRow_kept h.2 (fun _ q => q) (hk _ (zne_A h.2.1.2 ha)) (hk _ hx)⟩
theorem zGau_wO {G : zG} {L : List Nat} {f f' : Nat → va_E} {w : Nat} {k : Int} {r x : Nat} {F : Int → Int} (h : zGau G L f w k r x F) {o ci : Nat} {vs : List Value} (ho : f o = .inr (ci, vs)) (h8 : ci ≠ 8) (h5 : ci ≠ 5) (hk : ∀ c, c ≠ o → f' c = f c) : zGau G L f' w k r x F :=
  ⟨⟨h.1.1, by rw [hk _ (zne_c h.1.2 ho (fun z => h5 z.symm))]; exact h.1.2⟩, zRow_kept h.2 (fun _ q => q) (hk _ (zne_c h.2.1.2 ho (fun z => h8 z.symm))) (hk _ (zne_A ho h.2.2).symm)⟩
theorem zGs_wA {G : zG} {L : List Nat} {f f' : Nat → va_E} {w p : Nat} {n : Int} {ga gr gx : Nat → Nat} {k : Int → Int} {F : Nat → Int → Int} (h : zGs G L f w p n ga gr gx k F) {a t m : Nat} {σ : Int → Int} (ha : zA G t L f a m σ) (hx : ∀ g : Nat, (g : Int) < n → gx g ≠ a) (hk : ∀ c, c ≠ a → f' c = f c) : zGs G L f' w p n ga gr gx k F :=
  ⟨⟨h.1.1, by rw [hk _ (zne_A h.1.2 ha)]; exact h.1.2⟩, zP_kept h.2.1 (fun _ q => q) (hk _ (zP_A h.2.1 ha)), fun g hg => zGau_wA (h.2.2 g hg) ha (hx g hg) hk⟩
theorem zGs_wO {G : zG} {L : List Nat} {f f' : Nat → va_E} {w p : Nat} {n : Int} {ga gr gx : Nat → Nat} {k : Int → Int} {F : Nat → Int → Int} (h : zGs G L f w p n ga gr gx k F) {o ci : Nat} {vs : List Value} (ho : f o = .inr (ci, vs)) (h8 : ci ≠ 8) (h5 : ci ≠ 5) (h6 : ci ≠ 6) (hk : ∀ c, c ≠ o → f' c = f c) : zGs G L f' w p n ga gr gx k F :=
  ⟨⟨h.1.1, by rw [hk _ (zne_c h.1.2 ho (fun z => h6 z.symm))]; exact h.1.2⟩, zP_kept h.2.1 (fun _ q => q) (hk _ (zne_P ho h.2.1).symm), fun g hg => zGau_wO (h.2.2 g hg) ho h8 h5 hk⟩
theorem zCh_wO {G : zG} {L : List Nat} {f f' : Nat → va_E} {w r a : Nat} {u : Int → Int} (h : zCh G L f w r a u) {o ci : Nat} {vs : List Value} (ho : f o = .inr (ci, vs)) (h8 : ci ≠ 8) (h4 : ci ≠ 4) (hk : ∀ c, c ≠ o → f' c = f c) : zCh G L f' w r a u :=
  ⟨⟨h.1.1, by rw [hk _ (zne_c h.1.2 ho (fun z => h4 z.symm))]; exact h.1.2⟩, zRow_kept h.2 (fun _ q => q) (hk _ (zne_c h.2.1.2 ho (fun z => h8 z.symm))) (hk _ (zne_A ho h.2.2).symm)⟩
theorem zCh_wA {G : zG} {L : List Nat} {f f' : Nat → va_E} {w r x : Nat} {u : Int → Int} (h : zCh G L f w r x u) {a t n : Nat} {σ : Int → Int} (ha : zA G t L f a n σ) (hx : x ≠ a) (hk : ∀ c, c ≠ a → f' c = f c) : zCh G L f' w r x u :=
  ⟨⟨h.1.1, by rw [hk _ (zne_A h.1.2 ha)]; exact h.1.2⟩, zRow_kept h.2 (fun _ q => q) (hk _ (zne_A h.2.1.2 ha)) (hk _ hx)⟩
/-- its own numbers written -/
theorem zCh_w {G : zG} {L : List Nat} {f f' : Nat → va_E} {w r a : Nat} {u u' : Int → Int} (h : zCh G L f w r a u) (ha : zA G 0 L f' a 240 (fun i => cN (u' i))) (hk : ∀ c, c ≠ a → f' c = f c) : zCh G L f' w r a u' :=
  ⟨⟨h.1.1, by rw [hk _ (zne_A h.1.2 h.2.2)]; exact h.1.2⟩, zRow_w h.2 ha hk⟩
theorem spTd_cong {T T' a : Int → Int} (hT : ∀ g, 0 ≤ g → T g = T' g) (c : Int) : ∀ (n : Nat) (g lo hi : Int), 0 ≤ g → spTd T a c n g lo hi = spTd T' a c n g lo hi
  | 0, g, lo, hi, _ => by
    show spFin T a c lo hi = spFin T' a c lo hi
    unfold spFin
    by_cases h1 : lo < 0
    · by_cases h2 : hi < 0
      · simp [h1, h2]
      · simp [h1, h2]; exact hT hi (by omega)
    · by_cases h2 : hi < 0
      · simp [h1, h2]; exact hT lo (by omega)
      · simp [h1, h2, hT lo (by omega), hT hi (by omega)]
  | n + 1, g, lo, hi, h => by
    show (if T g = zNO then spTd T a c n (g + 1) lo hi else if a g = c then T g else spTd T a c n (g + 1) (spLo a c g lo) (spHi a c g hi)) = (if T' g = zNO then spTd T' a c n (g + 1) lo hi else if a g = c then T' g else spTd T' a c n (g + 1) (spLo a c g lo) (spHi a c g hi))
    rw [hT g h, spTd_cong hT c n (g + 1) lo hi (by omega), spTd_cong hT c n (g + 1) (spLo a c g lo) (spHi a c g hi) (by omega)]
/-- the failures of the g-th gauge, places from 0 -/
abbrev zfl (μ : zMu) : Nat → Int → Int := fun g j => μ 11 (240 * g + j)
theorem gT_tells (μ : zMu) (d h : Int) {g : Int} (hg : 0 ≤ g) : gT (zfl μ) (zK μ) (μ 8) d h g = spTells μ g d h := by
  rw [zTl_eq]
  unfold gT
  show zTl (fun j => μ 11 (240 * ((g.toNat : Nat) : Int) + j)) (24 * d) _ h = _
  rw [Int.toNat_of_nonneg hg, zTl_shift]
  rfl
theorem gT_tide (μ : zMu) (c d h : Int) : spTd (gT (zfl μ) (zK μ) (μ 8) d h) (μ 8) c (μ 1 0 - 0).toNat 0 (-1) (-1) = spTide μ c d h := spTd_cong (fun g hg => gT_tells μ d h hg) c _ _ _ _ (by decide)
/-- what the reductions of the places before b are -/
def zrb (μ : zMu) (l b : Int) (rd : Int → Int) : Int → Int := fun p => if 0 ≤ p ∧ p < b then spRed μ l (p / 7) (p % 7 - 3) else rd p
theorem zrb_0 (μ : zMu) (l : Int) {b : Int} (h : b ≤ 0) (rd : Int → Int) : zrb μ l b rd = rd := by
  funext p; unfold zrb; rw [if_neg (by omega)]
theorem zrb_s (μ : zMu) (l : Int) {k t : Int} (hk : 0 ≤ k) (ht : -3 ≤ t ∧ t ≤ 3) (rd : Int → Int) : zup (zrb μ l (7 * k + t + 3) rd) (7 * k + t + 3) (spRed μ l k t) = zrb μ l (7 * k + (t + 1) + 3) rd := by
  funext p; unfold zup zrb
  by_cases h : p = 7 * k + t + 3
  · rw [if_pos h, if_pos (by omega), show p / 7 = k by omega, show p % 7 - 3 = t by omega]
  · rw [if_neg h]
    by_cases h2 : 0 ≤ p ∧ p < 7 * k + t + 3
    · rw [if_pos h2, if_pos (by omega)]
    · rw [if_neg h2, if_neg (by omega)]
theorem zrb_end {μ : zMu} {l k : Int} (hk : k = spSize μ l) {rd : Int → Int} (h : ∀ p, 7 * spSize μ l ≤ p → p < 140 → rd p = zNO) : ∀ p, 0 ≤ p → p < 140 → zrb μ l (7 * k) rd p = zrl μ l p := fun p h0 h1 => by
  unfold zrb zrl
  rw [if_pos (show 0 ≤ p ∧ p < 140 from ⟨h0, h1⟩)]
  by_cases q : 0 ≤ p ∧ p < 7 * k
  · rw [if_pos q]
  · rw [if_neg q, h p (by omega) h1, spRed_out (Or.inr (by omega))]
theorem zls_zsl (μ : zMu) (l : Int) {k t : Int} (h : 0 ≤ k ∧ k ≤ 19 ∧ -3 ≤ t ∧ t ≤ 3) : zls (zsl μ l) k t = μ 18 (7 * (20 * l + k) + t + 3) := by
  rw [zls_in h]
  unfold zsl
  rw [if_pos (by omega), show 140 * l + (7 * k + t + 3) = 7 * (20 * l + k) + t + 3 by omega]
theorem zel_at (μ : zMu) (l : Int) {k t : Int} (h : 0 ≤ k ∧ k ≤ 19 ∧ -3 ≤ t ∧ t ≤ 3) : zel μ l (7 * k + t + 3) = μ 19 (7 * (20 * l + k) + t + 3) := by
  unfold zel
  rw [if_pos (by omega), show 140 * l + (7 * k + t + 3) = 7 * (20 * l + k) + t + 3 by omega]
theorem zls_zrl {μ : zMu} {l : Int} (hs : 0 ≤ spSize μ l ∧ spSize μ l ≤ 20) (k : Int) {t : Int} (h : -3 ≤ t ∧ t ≤ 3) : zls (zrl μ l) k t = spRed μ l k t := by
  by_cases q : 0 ≤ k ∧ k ≤ 19
  · rw [zls_in ⟨q.1, q.2, h.1, h.2⟩]
    unfold zrl
    rw [if_pos (by omega), show (7 * k + t + 3) / 7 = k by omega, show (7 * k + t + 3) % 7 - 3 = t by omega]
  · unfold zls
    rw [if_neg (fun z => q ⟨z.1, z.2.1⟩), spRed_out (by omega)]
theorem zsl_cr {μ : zMu} (hI : MI μ) {l : Int} (hl : 0 ≤ l ∧ l < 16) : zCr (zsl μ l) := fun p => by
  unfold zsl
  split
  · have := hI.b18 (140 * l + p) (by omega) (by omega)
    omega
  · exact Or.inl rfl
theorem zel_r {μ : zMu} (hI : MI μ) {l : Int} (hl : 0 ≤ l ∧ l < 16) : ∀ p, -60 ≤ zel μ l p ∧ zel μ l p ≤ 60 := fun p => by
  unfold zel
  split
  · exact (hI.b18 (140 * l + p) (by omega) (by omega)).2
  · omega
theorem zrl_cr {μ : zMu} (hI : MI μ) {l : Int} (hl : 0 ≤ l ∧ l < 16) : zCr (zrl μ l) := fun p => by
  unfold zrl
  split
  · exact spRed_rng hI _ hl (by omega)
  · exact Or.inl rfl
theorem zred_v {μ : zMu} {l k t : Int} (hk : 0 ≤ k ∧ k < spSize μ l) (h20 : spSize μ l ≤ 20) (ht : -3 ≤ t ∧ t ≤ 3) : (spRed μ l k t = zNO ∧ (zls (zsl μ l) k t = zNO ∨ spTi μ l k = zNO)) ∨ (zls (zsl μ l) k t ≠ zNO ∧ spTi μ l k ≠ zNO ∧ spRed μ l k t = zls (zsl μ l) k t + zel μ l (7 * k + t + 3) - spTi μ l k) := by
  rw [zls_zsl μ l ⟨hk.1, by omega, ht.1, ht.2⟩, zel_at μ l ⟨hk.1, by omega, ht.1, ht.2⟩]
  unfold spRed
  by_cases q : μ 18 (7 * (20 * l + k) + t + 3) = zNO
  · rw [if_pos (Or.inr (Or.inr q))]; exact Or.inl ⟨rfl, Or.inl q⟩
  · rw [if_neg (fun z => by rcases z with z | z | z; omega; omega; exact q z)]
    by_cases q2 : spTi μ l k = zNO
    · rw [if_pos q2]; exact Or.inl ⟨rfl, Or.inr q2⟩
    · rw [if_neg q2]; exact Or.inr ⟨q, q2, rfl⟩
theorem zgood_iff {μ : zMu} {l : Int} (hs : 0 ≤ spSize μ l ∧ spSize μ l ≤ 20) (k : Int) {t : Int} (h : -3 ≤ t ∧ t ≤ 3) : zgood2 (zrl μ l) k t ↔ (spRed μ l k t ≠ zNO ∧ ¬ spSpike μ l k t) := by
  unfold zgood2 zspk
  rw [zls_zrl hs k h, zls_zrl hs (k - 1) h, zls_zrl hs (k + 1) h]
theorem spC2_s (μ : zMu) (l : Int) {k : Int} (hk : 0 ≤ k) (u : Int → Int) : spC2 μ l (k + 1).toNat u = spC3 μ l k 7 (spC2 μ l k.toNat u) := by
  unfold spC2
  rw [zfold_s _ hk]
