/-! ===== what is added: a gauge, a line; a line sounded anew ===== -/
/-- cells added; one object x and one row of references pa changed -/
def zKp (L : List Nat) (f : Nat → va_E) (L' : List Nat) (f' : Nat → va_E) (x pa : Nat) : Prop := ∀ c ∈ L, c ∈ L' ∧ (c ≠ x → c ≠ pa → f' c = f c)
section ZKP
variable {G : zG} {L L' : List Nat} {f f' : Nat → va_E} {x pa ci t n : Nat} {vs : List Value} {γ : Nat → Option Nat}
theorem zKp_ob (hk : zKp L f L' f' x pa) (hx : f x = .inr (ci, vs)) (hp : zP G t L f pa n γ) {w c2 : Nat} {fs : List Value} (hw : zOb L f w c2 fs) (hc : c2 ≠ ci) : zOb L' f' w c2 fs :=
  ⟨(hk w hw.1).1, by rw [(hk w hw.1).2 (zne_c hw.2 hx hc) (zne_P hw.2 hp)]; exact hw.2⟩
theorem zKp_A (hk : zKp L f L' f' x pa) (hx : f x = .inr (ci, vs)) (hp : zP G t L f pa n γ) {a t2 m : Nat} {σ : Int → Int} (ha : zA G t2 L f a m σ) : zA G t2 L' f' a m σ :=
  zA_kept ha (fun c hc => (hk c hc).1) ((hk a ha.1).2 (zne_A hx ha).symm (fun z => zP_A hp ha z.symm))
theorem zKp_row (hk : zKp L f L' f' x pa) (hx : f x = .inr (ci, vs)) (hp : zP G t L f pa n γ) {r a m : Nat} {b : Int} {σ : Int → Int} (hr : zRow G L f r a m b σ) (h8 : 8 ≠ ci) : zRow G L' f' r a m b σ :=
  ⟨zKp_ob hk hx hp hr.1 h8, zKp_A hk hx hp hr.2⟩
theorem zKp_P (hk : zKp L f L' f' x pa) (hx : f x = .inr (ci, vs)) {a t2 m : Nat} {δ : Nat → Option Nat} (hq : zP G t2 L f a m δ) (hne : a ≠ pa) : zP G t2 L' f' a m δ :=
  zP_kept hq (fun c hc => (hk c hc).1) ((hk a hq.1).2 (fun z => zne_P hx hq z.symm) hne)
theorem zKp_sea (hk : zKp L f L' f' x pa) (hx : f x = .inr (ci, vs)) (hp : zP G t L f pa n γ) (h8 : 8 ≠ ci) (h9 : 9 ≠ ci) {w : Nat} {xr xa : Nat → Nat} {κ : zMu} (h : zSea G L f w xr xa κ) : zSea G L' f' w xr xa κ :=
  ⟨zKp_ob hk hx hp h.1 h9, zKp_row hk hx hp h.2.1 h8, zKp_row hk hx hp h.2.2.1 h8, zKp_row hk hx hp h.2.2.2.1 h8, zKp_row hk hx hp h.2.2.2.2 h8⟩
theorem zKp_gau (hk : zKp L f L' f' x pa) (hx : f x = .inr (ci, vs)) (hp : zP G t L f pa n γ) (h8 : 8 ≠ ci) (h5 : 5 ≠ ci) {w : Nat} {k : Int} {r a : Nat} {F : Int → Int} (h : zGau G L f w k r a F) : zGau G L' f' w k r a F :=
  ⟨zKp_ob hk hx hp h.1 h5, zKp_row hk hx hp h.2 h8⟩
theorem zKp_ch (hk : zKp L f L' f' x pa) (hx : f x = .inr (ci, vs)) (hp : zP G t L f pa n γ) (h8 : 8 ≠ ci) (h4 : 4 ≠ ci) {w r a : Nat} {u : Int → Int} (h : zCh G L f w r a u) : zCh G L' f' w r a u :=
  ⟨zKp_ob hk hx hp h.1 h4, zKp_row hk hx hp h.2 h8⟩
theorem zKp_ln (hk : zKp L f L' f' x pa) (hx : f x = .inr (ci, vs)) (hp : zP G t L f pa n γ) (h8 : 8 ≠ ci) (h7 : 7 ≠ ci) {w : Nat} {μ : zMu} {l : Int} {r0 r1 r2 a0 a1 a2 : Nat} {s e rd : Int → Int} (h : zLn G L f w μ l r0 r1 r2 a0 a1 a2 s e rd) : zLn G L' f' w μ l r0 r1 r2 a0 a1 a2 s e rd :=
  ⟨zKp_ob hk hx hp h.1 h7, zKp_row hk hx hp h.2.1 h8, zKp_row hk hx hp h.2.2.1 h8, zKp_row hk hx hp h.2.2.2 h8⟩
theorem zKp_sb (hk : zKp L f L' f' x pa) (hx : f x = .inr (ci, vs)) (hp : zP G t L f pa n γ) (h1 : 1 ≠ ci) {w b m : Nat} {tx : List Int} (h : zSb G L f w b m tx) : zSb G L' f' w b m tx := by
  obtain ⟨y, τ, g1, g2, g3⟩ := h
  exact ⟨y, τ, zKp_ob hk hx hp g1 h1, zKp_A hk hx hp g2, g3⟩
end ZKP
section ZADD
variable {G : zG} {L L' : List Nat} {f f' : Nat → va_E} {o : Nat} {ω : Nat → Nat → Nat} {μ M : zMu} {ch : Int → Int} {rd : Nat → Int → Int} {tx : List Int}
theorem SR_e (h : SR G L f o ω μ ch rd tx) (he : zExt L f L' f') : SR G L' f' o ω μ ch rd tx :=
  ⟨zOb_e h.ob he, zSea_e h.sea he, zGs_e h.gs he, zP_e h.la he, zCh_e h.ct he, zSb_e h.sb he, fun l hl => zLn_e (h.ln l hl) he, h.2.2.2.2.2.2.2⟩
theorem zSea_k {w : Nat} {xr xa : Nat → Nat} {κ κ' : zMu} (h : zSea G L f w xr xa κ) (hk : ∀ i, i < 4 → κ i = κ' i) : zSea G L f w xr xa κ' := by
  unfold zSea at h ⊢
  rw [← hk 0 (by omega), ← hk 1 (by omega), ← hk 2 (by omega), ← hk 3 (by omega)]
  exact h
theorem zLn_m {w : Nat} {l : Int} {r0 r1 r2 a0 a1 a2 : Nat} {s e rd : Int → Int} (h : zLn G L f w μ l r0 r1 r2 a0 a1 a2 s e rd) (hk : ∀ k, 12 ≤ k → k ≤ 17 → M k l = μ k l) : zLn G L f w M l r0 r1 r2 a0 a1 a2 s e rd := by
  unfold zLn spSize at h ⊢
  rw [hk 12 (by omega) (by omega), hk 13 (by omega) (by omega), hk 14 (by omega) (by omega), hk 15 (by omega) (by omega), hk 16 (by omega) (by omega), hk 17 (by omega) (by omega)]
  exact h
/-- the same survey but for line n and the number of lines -/
def zSm (μ M : zMu) (n : Int) : Prop := (∀ k, k < 12 → k ≠ 2 → M k = μ k) ∧ ∀ l : Int, 0 ≤ l → l < μ 2 0 → l ≠ n → (∀ k, 12 ≤ k → k ≤ 17 → M k l = μ k l) ∧ ∀ p, 0 ≤ p → p < 140 → M 18 (140 * l + p) = μ 18 (140 * l + p) ∧ M 19 (140 * l + p) = μ 19 (140 * l + p)
theorem zSm_ln {n : Int} (hz : zSm μ M n) {l : Nat} (hl : (l : Int) < μ 2 0) (hn : (l : Int) ≠ n) {w : Nat} {r0 r1 r2 a0 a1 a2 : Nat} {r : Int → Int} (h : zLn G L f w μ l r0 r1 r2 a0 a1 a2 (zsl μ l) (zel μ l) r) : zLn G L f w M l r0 r1 r2 a0 a1 a2 (zsl M l) (zel M l) r := by
  obtain ⟨h1, h2⟩ := hz.2 l (by omega) hl hn
  refine zLn_c (zLn_m h h1) (fun p q0 q1 => ?_) (fun p q0 q1 => ?_) (fun _ _ _ => rfl)
  · unfold zsl; rw [if_pos ⟨q0, q1⟩, if_pos ⟨q0, q1⟩, (h2 p q0 q1).1]
  · unfold zel; rw [if_pos ⟨q0, q1⟩, if_pos ⟨q0, q1⟩, (h2 p q0 q1).2]
theorem zSm_sea {n : Int} (hz : zSm μ M n) {w : Nat} {xr xa : Nat → Nat} (h : zSea G L f w xr xa (zK μ)) : zSea G L f w xr xa (zK M) :=
  zSea_k h (fun i hi => (hz.1 (4 + i) (by omega) (by omega)).symm)
theorem zSm_gs {n : Int} (hz : zSm μ M n) {w p : Nat} {ga gr gx : Nat → Nat} (h : zGs G L f w p (μ 1 0) ga gr gx (μ 8) (zfl μ)) : zGs G L f w p (M 1 0) ga gr gx (M 8) (zfl M) := by
  have e : zfl M = zfl μ := by unfold zfl; rw [hz.1 11 (by omega) (by omega)]
  rw [hz.1 1 (by omega) (by omega), hz.1 8 (by omega) (by omega), e]
  exact h
/-- line l sounded anew -/
theorem SR_snd (h : SR G L f o ω μ ch rd tx) (h3 : μ 1 0 ≤ 3) {l : Nat} (hl : (l : Int) < μ 2 0) (hz : zSm μ M l) (h2 : M 2 0 = μ 2 0)
    (hln : zLn G L f' (ω 5 l) M l (ω 6 (3 * l)) (ω 6 (3 * l + 1)) (ω 6 (3 * l + 2)) (ω 2 (10 + 3 * l)) (ω 2 (11 + 3 * l)) (ω 2 (12 + 3 * l)) (zsl M l) (zel M l) (rd l))
    (hk : ∀ c, c ≠ ω 5 l → c ≠ ω 2 (10 + 3 * l) → c ≠ ω 2 (11 + 3 * l) → f' c = f c) : SR G L f' o ω M ch rd tx := by
  have hO := (h.ln l hl).1.2
  have hA0 := (h.ln l hl).2.1.2
  have hA1 := (h.ln l hl).2.2.1.2
  have hu0 : zUsed μ (10 + 3 * l) := zUs_l0 hl
  have hu1 : zUsed μ (11 + 3 * l) := zUs_l1 hl
  have ko : ∀ {w ci : Nat} {fs : List Value}, zOb L f w ci fs → ci ≠ 7 → zOb L f' w ci fs := fun hw hc => ⟨hw.1, by rw [hk _ (zne_c hw.2 hO hc) (zne_A hw.2 hA0) (zne_A hw.2 hA1)]; exact hw.2⟩
  have ka : ∀ {i t m : Nat} {σ : Int → Int}, zA G t L f (ω 2 i) m σ → zUsed μ i → i ≠ 10 + 3 * l → i ≠ 11 + 3 * l → zA G t L f' (ω 2 i) m σ := fun ha hi n0 n1 => zA_kept ha (fun _ q => q) (hk _ (zne_A hO ha).symm (h.inj hi hu0 n0) (h.inj hi hu1 n1))
  have kr : ∀ {r i n : Nat} {bl : Int} {σ : Int → Int}, zRow G L f r (ω 2 i) n bl σ → zUsed μ i → i ≠ 10 + 3 * l → i ≠ 11 + 3 * l → zRow G L f' r (ω 2 i) n bl σ := fun hr hi n0 n1 => ⟨ko hr.1 (by decide), ka hr.2 hi n0 n1⟩
  have kp : ∀ {a t n : Nat} {γ : Nat → Option Nat}, zP G t L f a n γ → zP G t L f' a n γ := fun hq => zP_kept hq (fun _ q => q) (hk _ (zne_P hO hq).symm (zP_A hq hA0) (zP_A hq hA1))
  have hs : ∀ {i : Nat}, i < 6 → zUsed μ i := fun hi => zUs_s hi
  have hu : ∀ i, zUsed M i → zUsed μ i := fun i hi => by
    unfold zUsed at hi ⊢
    rw [hz.1 1 (by omega) (by omega), h2] at hi
    exact hi
  refine ⟨by rw [h2]; exact ko h.ob (by decide), zSm_sea hz ⟨ko h.sea.1 (by decide), kr h.sea.2.1 (hs (by omega)) (by omega) (by omega), kr h.sea.2.2.1 (hs (by omega)) (by omega) (by omega), kr h.sea.2.2.2.1 (hs (by omega)) (by omega) (by omega), kr h.sea.2.2.2.2 (hs (by omega)) (by omega) (by omega)⟩, zSm_gs hz ⟨ko h.gs.1 (by decide), kp h.gs.2.1, fun g hg => ⟨ko (h.gs.2.2 g hg).1 (by decide), kr (i := 6 + g) (h.gs.2.2 g hg).2 (zUs_g hg h3) (by omega) (by omega)⟩⟩, by rw [h2]; exact kp h.la, ⟨ko h.ct.1 (by decide), kr h.ct.2 (hs (by omega)) (by omega) (by omega)⟩, ?_, fun j hj => ?_, fun i j hi hj => h.2.2.2.2.2.2.2.1 i j (hu i hi) (hu j hj), fun i j hi hj => h.2.2.2.2.2.2.2.2.1 i j (by omega) (by omega), h.pp⟩
  · obtain ⟨y, τ, g1, g2, g3⟩ := h.sb
    exact ⟨y, τ, ko g1 (by decide), ka g2 (hs (by omega)) (by omega) (by omega), g3⟩
  · have hj : (j : Int) < μ 2 0 := by omega
    by_cases q : j = l
    · subst q; exact hln
    · have a := h.ln j hj
      refine zSm_ln hz hj (by omega) ⟨⟨a.1.1, by rw [hk _ (h.lin hj hl q) (zne_A a.1.2 hA0) (zne_A a.1.2 hA1)]; exact a.1.2⟩, kr a.2.1 (zUs_l0 hj) (by omega) (by omega), kr a.2.2.1 (zUs_l1 hj) (by omega) (by omega), kr a.2.2.2 (zUs_l2 hj) (by omega) (by omega)⟩
/-- the addresses with a gauge added -/
def zwG (ω : Nat → Nat → Nat) (n q r a : Nat) : Nat → Nat → Nat := fun i j => if i = 3 then (if j = n then q else ω 3 j) else if i = 4 then (if j = n then r else ω 4 j) else if i = 2 then (if j = 6 + n then a else ω 2 j) else ω i j
theorem zwG_2 {n q r a : Nat} (j : Nat) (h : j ≠ 6 + n) : zwG ω n q r a 2 j = ω 2 j := if_neg h
theorem SR_addG (h : SR G L f o ω μ ch rd tx) (h3 : μ 1 0 < 3) (hg0 : 0 ≤ μ 1 0) {n q r a : Nat} {c : Int} (hn : (n : Int) = μ 1 0) (hk : zKp L f L' f' (ω 0 1) (ω 0 2))
    (ho : zOb L' f' (ω 0 1) 6 [.ref (ω 0 2), .int (iI (μ 1 0 + 1))]) (hp : zP G 6 L' f' (ω 0 2) 3 (va_up (fun g => if (g : Int) < μ 1 0 then some (ω 3 g) else none) n (some q))) (hg : zGau G L' f' q c r a (fun _ => 0)) (ha : a ∉ L) (h11 : ∀ j, μ 1 0 * 240 ≤ j → j < 720 → μ 11 j = 0) :
    SR G L' f' o (zwG ω n q r a) (zset (zset μ 8 (zup (μ 8) (μ 1 0) c)) 1 (fun _ => μ 1 0 + 1)) ch rd tx := by
  have hx := h.gs.1.2
  have hpp := h.gs.2.1
  have hu : ∀ i, zUsed (zset (zset μ 8 (zup (μ 8) (μ 1 0) c)) 1 (fun _ => μ 1 0 + 1)) i → i = 6 + n ∨ (i ≠ 6 + n ∧ zUsed μ i) := fun i hi => by
    have hi : i < 6 ∨ (6 ≤ i ∧ i < 10 ∧ (i : Int) < 6 + (μ 1 0 + 1)) ∨ (10 ≤ i ∧ (i : Int) < 10 + 3 * μ 2 0) := hi
    unfold zUsed
    omega
  refine ⟨zKp_ob hk hx hpp h.ob (by decide), zKp_sea hk hx hpp (by decide) (by decide) ⟨h.sea.1, ?_, ?_, ?_, ?_⟩, ⟨ho, ?_, fun g hg2 => ?_⟩, zKp_P hk hx h.la (fun z => h.pp z.symm), ?_, ?_, fun l hl => ?_, fun i j hi hj hij => ?_, h.2.2.2.2.2.2.2.2.1, h.pp⟩
  · rw [zwG_2 0 (by omega)]; exact h.sea.2.1
  · rw [zwG_2 1 (by omega)]; exact h.sea.2.2.1
  · rw [zwG_2 2 (by omega)]; exact h.sea.2.2.2.1
  · rw [zwG_2 3 (by omega)]; exact h.sea.2.2.2.2
  · have e : va_up (fun g : Nat => if (g : Int) < μ 1 0 then some (ω 3 g) else none) n (some q) = fun g : Nat => if (g : Int) < μ 1 0 + 1 then some (zwG ω n q r a 3 g) else none := funext (fun g => by
      unfold va_up
      show (if g = n then some q else if (g : Int) < μ 1 0 then some (ω 3 g) else none) = if (g : Int) < μ 1 0 + 1 then some (if g = n then q else ω 3 g) else none
      by_cases e1 : g = n
      · rw [if_pos e1, if_pos (by omega), if_pos e1]
      · rw [if_neg e1, if_neg e1]
        by_cases e2 : (g : Int) < μ 1 0
        · rw [if_pos e2, if_pos (by omega)]
        · rw [if_neg e2, if_neg (by omega)])
    rw [e] at hp
    exact hp
  · have hg2 : (g : Int) < μ 1 0 + 1 := hg2
    show zGau G L' f' (if g = n then q else ω 3 g) (zup (μ 8) (μ 1 0) c g) (if g = n then r else ω 4 g) (if 6 + g = 6 + n then a else ω 2 (6 + g)) (zfl μ g)
    by_cases e1 : g = n
    · rw [if_pos e1, if_pos e1, if_pos (by omega), show (g : Int) = μ 1 0 by omega, zup_s]
      exact ⟨hg.1, hg.2.1, zA_cong hg.2.2 (fun i q0 q1 => by show 0 = μ 11 (240 * g + i); exact (h11 _ (by omega) (by omega)).symm)⟩
    · rw [if_neg e1, if_neg e1, if_neg (by omega), zup_n _ _ (by omega)]
      exact zKp_gau hk hx hpp (by decide) (by decide) (h.gs.2.2 g (by omega))
  · have b := zKp_ch hk hx hpp (by decide) (by decide) h.ct
    show zCh G L' f' (ω 0 4) (ω 0 7) (zwG ω n q r a 2 4) ch
    rw [zwG_2 4 (by omega)]; exact b
  · have b := zKp_sb hk hx hpp (by decide) h.sb
    show zSb G L' f' (ω 0 5) (zwG ω n q r a 2 5) (ω 0 6) tx
    rw [zwG_2 5 (by omega)]; exact b
  · have b := zKp_ln hk hx hpp (by decide) (by decide) (h.ln l hl)
    show zLn G L' f' (ω 5 l) μ l (ω 6 (3 * l)) (ω 6 (3 * l + 1)) (ω 6 (3 * l + 2)) (zwG ω n q r a 2 (10 + 3 * l)) (zwG ω n q r a 2 (11 + 3 * l)) (zwG ω n q r a 2 (12 + 3 * l)) (zsl μ l) (zel μ l) (rd l)
    rw [zwG_2 _ (by omega), zwG_2 _ (by omega), zwG_2 _ (by omega)]; exact b
  · have hm : ∀ i, zUsed μ i → ω 2 i ∈ L := fun i hi => SR_mem h (by omega) hg0 hi
    have es : zwG ω n q r a 2 (6 + n) = a := if_pos rfl
    rcases hu i hi with e1 | ⟨e1, u1⟩ <;> rcases hu j hj with e2 | ⟨e2, u2⟩
    · omega
    · rw [e1, es, zwG_2 _ e2] at hij
      exact absurd (hij ▸ hm j u2) ha
    · rw [e2, es, zwG_2 _ e1] at hij
      exact absurd (hij ▸ hm i u1) ha
    · rw [zwG_2 _ e1, zwG_2 _ e2] at hij
      exact h.2.2.2.2.2.2.2.1 i j u1 u2 hij
/-- the addresses with a line added -/
def zwL (ω : Nat → Nat → Nat) (n q r0 r1 r2 a0 a1 a2 : Nat) : Nat → Nat → Nat := fun i j => if i = 5 then (if j = n then q else ω 5 j) else if i = 6 then (if j = 3 * n then r0 else if j = 3 * n + 1 then r1 else if j = 3 * n + 2 then r2 else ω 6 j) else if i = 2 then (if j = 10 + 3 * n then a0 else if j = 11 + 3 * n then a1 else if j = 12 + 3 * n then a2 else ω 2 j) else ω i j
theorem zwL_2 {n q r0 r1 r2 a0 a1 a2 : Nat} (j : Nat) (h : j < 10 + 3 * n) : zwL ω n q r0 r1 r2 a0 a1 a2 2 j = ω 2 j := by
  show (if j = 10 + 3 * n then a0 else if j = 11 + 3 * n then a1 else if j = 12 + 3 * n then a2 else ω 2 j) = ω 2 j
  rw [if_neg (by omega), if_neg (by omega), if_neg (by omega)]
theorem zwL_6 {n q r0 r1 r2 a0 a1 a2 : Nat} (j : Nat) (h : j < 3 * n) : zwL ω n q r0 r1 r2 a0 a1 a2 6 j = ω 6 j := by
  show (if j = 3 * n then r0 else if j = 3 * n + 1 then r1 else if j = 3 * n + 2 then r2 else ω 6 j) = ω 6 j
  rw [if_neg (by omega), if_neg (by omega), if_neg (by omega)]
theorem zwL_n (ω : Nat → Nat → Nat) (n q r0 r1 r2 a0 a1 a2 : Nat) : zwL ω n q r0 r1 r2 a0 a1 a2 6 (3 * n) = r0 ∧ zwL ω n q r0 r1 r2 a0 a1 a2 6 (3 * n + 1) = r1 ∧ zwL ω n q r0 r1 r2 a0 a1 a2 6 (3 * n + 2) = r2 ∧ zwL ω n q r0 r1 r2 a0 a1 a2 2 (10 + 3 * n) = a0 ∧ zwL ω n q r0 r1 r2 a0 a1 a2 2 (11 + 3 * n) = a1 ∧ zwL ω n q r0 r1 r2 a0 a1 a2 2 (12 + 3 * n) = a2 := by
  have s6 : ∀ j, zwL ω n q r0 r1 r2 a0 a1 a2 6 j = if j = 3 * n then r0 else if j = 3 * n + 1 then r1 else if j = 3 * n + 2 then r2 else ω 6 j := fun _ => rfl
  have s2 : ∀ j, zwL ω n q r0 r1 r2 a0 a1 a2 2 j = if j = 10 + 3 * n then a0 else if j = 11 + 3 * n then a1 else if j = 12 + 3 * n then a2 else ω 2 j := fun _ => rfl
  refine ⟨?_, ?_, ?_, ?_, ?_, ?_⟩
  · rw [s6, if_pos rfl]
  · rw [s6, if_neg (by omega), if_pos rfl]
  · rw [s6, if_neg (by omega), if_neg (by omega), if_pos rfl]
  · rw [s2, if_pos rfl]
  · rw [s2, if_neg (by omega), if_pos rfl]
  · rw [s2, if_neg (by omega), if_neg (by omega), if_pos rfl]
theorem SR_addL (h : SR G L f o ω μ ch rd tx) (h3 : μ 1 0 ≤ 3) (hg0 : 0 ≤ μ 1 0) {n q r0 r1 r2 a0 a1 a2 : Nat} (hn : (n : Int) = μ 2 0) (hz : zSm μ M n) (h2 : M 2 0 = μ 2 0 + 1) (hk : zKp L f L' f' o (ω 0 3))
    (ho : zOb L' f' o 10 [.ref (ω 0 0), .ref (ω 0 1), .ref (ω 0 3), .int (iI (μ 2 0 + 1)), .ref (ω 0 4), .ref (ω 0 5)]) (hp : zP G 7 L' f' (ω 0 3) 16 (va_up (fun l => if (l : Int) < μ 2 0 then some (ω 5 l) else none) n (some q)))
    {r : Int → Int} (hln : zLn G L' f' q M n r0 r1 r2 a0 a1 a2 (zsl M n) (zel M n) r) (hq : q ∉ L) (ha : a0 ∉ L ∧ a1 ∉ L ∧ a2 ∉ L) (hd : a0 ≠ a1 ∧ a0 ≠ a2 ∧ a1 ≠ a2) :
    SR G L' f' o (zwL ω n q r0 r1 r2 a0 a1 a2) M ch (fun l => if l = n then r else rd l) tx := by
  have hx := h.ob.2
  have hpp := h.la
  have e1 : M 1 0 = μ 1 0 := by rw [hz.1 1 (by omega) (by omega)]
  have hu : ∀ i, zUsed M i → (i = 10 + 3 * n ∨ i = 11 + 3 * n ∨ i = 12 + 3 * n) ∨ (i < 10 + 3 * n ∧ zUsed μ i) := fun i hi => by
    unfold zUsed at hi ⊢
    rw [e1, h2] at hi
    omega
  refine ⟨by rw [h2]; exact ho, zSm_sea hz (zKp_sea hk hx hpp (by decide) (by decide) ⟨h.sea.1, ?_, ?_, ?_, ?_⟩), zSm_gs hz ⟨zKp_ob hk hx hpp h.gs.1 (by decide), zKp_P hk hx h.gs.2.1 h.pp, fun g hg2 => ?_⟩, ?_, ?_, ?_, fun l hl => ?_, fun i j hi hj hij => ?_, fun i j hi hj hij => ?_, h.pp⟩
  · rw [zwL_2 0 (by omega)]; exact h.sea.2.1
  · rw [zwL_2 1 (by omega)]; exact h.sea.2.2.1
  · rw [zwL_2 2 (by omega)]; exact h.sea.2.2.2.1
  · rw [zwL_2 3 (by omega)]; exact h.sea.2.2.2.2
  · have b := zKp_gau hk hx hpp (by decide) (by decide) (h.gs.2.2 g hg2)
    show zGau G L' f' (ω 3 g) (μ 8 g) (ω 4 g) (zwL ω n q r0 r1 r2 a0 a1 a2 2 (6 + g)) (zfl μ g)
    rw [zwL_2 _ (by omega)]; exact b
  · have e : va_up (fun l : Nat => if (l : Int) < μ 2 0 then some (ω 5 l) else none) n (some q) = fun l : Nat => if (l : Int) < M 2 0 then some (zwL ω n q r0 r1 r2 a0 a1 a2 5 l) else none := funext (fun g => by
      unfold va_up
      rw [h2]
      show (if g = n then some q else if (g : Int) < μ 2 0 then some (ω 5 g) else none) = if (g : Int) < μ 2 0 + 1 then some (if g = n then q else ω 5 g) else none
      by_cases e1 : g = n
      · rw [if_pos e1, if_pos (by omega), if_pos e1]
      · rw [if_neg e1, if_neg e1]
        by_cases e2 : (g : Int) < μ 2 0
        · rw [if_pos e2, if_pos (by omega)]
        · rw [if_neg e2, if_neg (by omega)])
    rw [e] at hp
    exact hp
  · have b := zKp_ch hk hx hpp (by decide) (by decide) h.ct
    show zCh G L' f' (ω 0 4) (ω 0 7) (zwL ω n q r0 r1 r2 a0 a1 a2 2 4) ch
    rw [zwL_2 4 (by omega)]; exact b
  · have b := zKp_sb hk hx hpp (by decide) h.sb
    show zSb G L' f' (ω 0 5) (zwL ω n q r0 r1 r2 a0 a1 a2 2 5) (ω 0 6) tx
    rw [zwL_2 5 (by omega)]; exact b
  · rw [h2] at hl
    show zLn G L' f' (if l = n then q else ω 5 l) M l (zwL ω n q r0 r1 r2 a0 a1 a2 6 (3 * l)) (zwL ω n q r0 r1 r2 a0 a1 a2 6 (3 * l + 1)) (zwL ω n q r0 r1 r2 a0 a1 a2 6 (3 * l + 2)) (zwL ω n q r0 r1 r2 a0 a1 a2 2 (10 + 3 * l)) (zwL ω n q r0 r1 r2 a0 a1 a2 2 (11 + 3 * l)) (zwL ω n q r0 r1 r2 a0 a1 a2 2 (12 + 3 * l)) (zsl M l) (zel M l) (if l = n then r else rd l)
    by_cases el : l = n
    · subst el
      obtain ⟨i0, i1, i2, j0, j1, j2⟩ := zwL_n ω l q r0 r1 r2 a0 a1 a2
      rw [if_pos rfl, if_pos rfl, i0, i1, i2, j0, j1, j2]
      exact hln
    · have hl2 : (l : Int) < μ 2 0 := by omega
      rw [if_neg el, if_neg el, zwL_6 _ (by omega), zwL_6 _ (by omega), zwL_6 _ (by omega), zwL_2 _ (by omega), zwL_2 _ (by omega), zwL_2 _ (by omega)]
      exact zSm_ln hz hl2 (by omega) (zKp_ln hk hx hpp (by decide) (by decide) (h.ln l hl2))
  · have hm : ∀ i, zUsed μ i → ω 2 i ∈ L := fun i hi => SR_mem h h3 hg0 hi
    obtain ⟨-, -, -, j0, j1, j2⟩ := zwL_n ω n q r0 r1 r2 a0 a1 a2
    have nw : ∀ i, (i = 10 + 3 * n ∨ i = 11 + 3 * n ∨ i = 12 + 3 * n) → zwL ω n q r0 r1 r2 a0 a1 a2 2 i ∉ L := fun i hi => by
      rcases hi with e | e | e <;> rw [e]
      · rw [j0]; exact ha.1
      · rw [j1]; exact ha.2.1
      · rw [j2]; exact ha.2.2
    rcases hu i hi with u1 | ⟨e1, u1⟩ <;> rcases hu j hj with u2 | ⟨e2, u2⟩
    · rcases u1 with e1 | e1 | e1 <;> rcases u2 with e2 | e2 | e2 <;> rw [e1, e2] at hij ⊢ <;> simp only [j0, j1, j2] at hij
      · exact absurd hij hd.1
      · exact absurd hij hd.2.1
      · exact absurd hij.symm hd.1
      · exact absurd hij hd.2.2
      · exact absurd hij.symm hd.2.1
      · exact absurd hij.symm hd.2.2
    · rw [zwL_2 _ e2] at hij
      exact absurd (hij ▸ hm j u2) (nw i u1)
    · rw [zwL_2 _ e1] at hij
      exact absurd (hij ▸ hm i u1) (nw j u2)
    · rw [zwL_2 _ e1, zwL_2 _ e2] at hij
      exact h.2.2.2.2.2.2.2.1 i j u1 u2 hij
  · rw [h2] at hi hj
    have hm : ∀ i : Nat, (i : Int) < μ 2 0 → ω 5 i ∈ L := fun i hi => (h.ln i hi).1.1
    have hij : (if i = n then q else ω 5 i) = (if j = n then q else ω 5 j) := hij
    by_cases u1 : i = n <;> by_cases u2 : j = n
    · omega
    · rw [if_pos u1, if_neg u2] at hij
      exact absurd (hij ▸ hm j (by omega)) hq
    · rw [if_neg u1, if_pos u2] at hij
      exact absurd (hij.symm ▸ hm i (by omega)) hq
    · rw [if_neg u1, if_neg u2] at hij
      exact h.2.2.2.2.2.2.2.2.1 i j (by omega) (by omega) hij
/-- the gauge placed -/
theorem zPl_end {w p q r a : Nat} {ga gr gx : Nat → Nat} {k : Int → Int} {σ : Nat → Int → Int} {m c : Int} {γ : Nat → Option Nat} {vs : List Value} {L3 : List Nat} {f3 f4 f5 : Nat → va_E} (hGs : zGs G L f w p m ga gr gx k σ) (hE : zExt L f L3 f3) (hg : zGau G L3 f3 q c r a (fun _ => 0)) (hP4 : zP G 6 L3 f4 p 3 γ) (hk4 : ∀ b, b ≠ p → f4 b = f3 b) (hf5 : f5 w = .inr (6, vs)) (hk5 : ∀ b, b ≠ w → f5 b = f4 b) :
    zOb L3 f5 w 6 vs ∧ zP G 6 L3 f5 p 3 γ ∧ zGau G L3 f5 q c r a (fun _ => 0) ∧ zKp L f L3 f5 w p := by
  have hw := zOb_e hGs.1 hE
  have hP3 := zP_e hGs.2.1 hE
  have hnwp : w ≠ p := zne_P hw.2 hP3
  have hqw : q ≠ w := zne_c hg.1.2 hw.2 (by decide)
  have hrw : r ≠ w := zne_c hg.2.1.2 hw.2 (by decide)
  have haw : a ≠ w := (zne_A hw.2 hg.2.2).symm
  have hqp : q ≠ p := zne_P hg.1.2 hP3
  have hrp : r ≠ p := zne_P hg.2.1.2 hP3
  have hap : a ≠ p := fun z => zP_A hP3 hg.2.2 z.symm
  refine ⟨⟨hw.1, hf5⟩, zP_kept hP4 (fun _ q => q) (hk5 _ hnwp.symm), ⟨⟨hg.1.1, by rw [hk5 _ hqw, hk4 _ hqp]; exact hg.1.2⟩, zRow_kept hg.2 (fun _ q => q) (by rw [hk5 _ hrw, hk4 _ hrp]) (by rw [hk5 _ haw, hk4 _ hap])⟩, fun c hc => ⟨(hE c hc).1, fun h1 h2 => by rw [hk5 _ h1, hk4 _ h2]; exact (hE c hc).2⟩⟩
end ZADD
