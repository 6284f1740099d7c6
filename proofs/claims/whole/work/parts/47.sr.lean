/-! ===== the survey: the class's whole world ===== -/
/-- the numbers' places in use: 0..3 the sea's, 4 the chart's, 5 the text's bytes, from 6 the gauges', from 10 the lines' (soundings, errors, reductions) -/
def zUsed (μ : zMu) (i : Nat) : Prop := i < 6 ∨ (6 ≤ i ∧ i < 10 ∧ (i : Int) < 6 + μ 1 0) ∨ (10 ≤ i ∧ (i : Int) < 10 + 3 * μ 2 0)
/-- the survey at o, its addresses by ω, its numbers μ, the chart's ch, the reductions rd, the text tx -/
def SR (G : zG) (L : List Nat) (f : Nat → va_E) (o : Nat) (ω : Nat → Nat → Nat) (μ : zMu) (ch : Int → Int) (rd : Nat → Int → Int) (tx : List Int) : Prop :=
  zOb L f o 10 [.ref (ω 0 0), .ref (ω 0 1), .ref (ω 0 3), .int (iI (μ 2 0)), .ref (ω 0 4), .ref (ω 0 5)] ∧
  zSea G L f (ω 0 0) (ω 1) (ω 2) (zK μ) ∧
  zGs G L f (ω 0 1) (ω 0 2) (μ 1 0) (ω 3) (ω 4) (fun g => ω 2 (6 + g)) (μ 8) (zfl μ) ∧
  zP G 7 L f (ω 0 3) 16 (fun l => if (l : Int) < μ 2 0 then some (ω 5 l) else none) ∧
  zCh G L f (ω 0 4) (ω 0 7) (ω 2 4) ch ∧
  zSb G L f (ω 0 5) (ω 2 5) (ω 0 6) tx ∧
  (∀ l : Nat, (l : Int) < μ 2 0 → zLn G L f (ω 5 l) μ l (ω 6 (3 * l)) (ω 6 (3 * l + 1)) (ω 6 (3 * l + 2)) (ω 2 (10 + 3 * l)) (ω 2 (11 + 3 * l)) (ω 2 (12 + 3 * l)) (zsl μ l) (zel μ l) (rd l)) ∧
  (∀ i j : Nat, zUsed μ i → zUsed μ j → ω 2 i = ω 2 j → i = j) ∧
  (∀ i j : Nat, (i : Int) < μ 2 0 → (j : Int) < μ 2 0 → ω 5 i = ω 5 j → i = j) ∧ ω 0 2 ≠ ω 0 3
section ZSR
variable {G : zG} {L : List Nat} {f f' : Nat → va_E} {o : Nat} {ω : Nat → Nat → Nat} {μ : zMu} {ch : Int → Int} {rd : Nat → Int → Int} {tx : List Int}
theorem SR.ob (h : SR G L f o ω μ ch rd tx) : zOb L f o 10 [.ref (ω 0 0), .ref (ω 0 1), .ref (ω 0 3), .int (iI (μ 2 0)), .ref (ω 0 4), .ref (ω 0 5)] := h.1
theorem SR.sea (h : SR G L f o ω μ ch rd tx) : zSea G L f (ω 0 0) (ω 1) (ω 2) (zK μ) := h.2.1
theorem SR.gs (h : SR G L f o ω μ ch rd tx) : zGs G L f (ω 0 1) (ω 0 2) (μ 1 0) (ω 3) (ω 4) (fun g => ω 2 (6 + g)) (μ 8) (zfl μ) := h.2.2.1
theorem SR.la (h : SR G L f o ω μ ch rd tx) : zP G 7 L f (ω 0 3) 16 (fun l => if (l : Int) < μ 2 0 then some (ω 5 l) else none) := h.2.2.2.1
theorem SR.ct (h : SR G L f o ω μ ch rd tx) : zCh G L f (ω 0 4) (ω 0 7) (ω 2 4) ch := h.2.2.2.2.1
theorem SR.sb (h : SR G L f o ω μ ch rd tx) : zSb G L f (ω 0 5) (ω 2 5) (ω 0 6) tx := h.2.2.2.2.2.1
theorem SR.ln (h : SR G L f o ω μ ch rd tx) (l : Nat) (hl : (l : Int) < μ 2 0) : zLn G L f (ω 5 l) μ l (ω 6 (3 * l)) (ω 6 (3 * l + 1)) (ω 6 (3 * l + 2)) (ω 2 (10 + 3 * l)) (ω 2 (11 + 3 * l)) (ω 2 (12 + 3 * l)) (zsl μ l) (zel μ l) (rd l) := h.2.2.2.2.2.2.1 l hl
theorem SR.inj (h : SR G L f o ω μ ch rd tx) {i j : Nat} (hi : zUsed μ i) (hj : zUsed μ j) (hij : i ≠ j) : ω 2 i ≠ ω 2 j := fun z => hij (h.2.2.2.2.2.2.2.1 i j hi hj z)
theorem SR.lin (h : SR G L f o ω μ ch rd tx) {i j : Nat} (hi : (i : Int) < μ 2 0) (hj : (j : Int) < μ 2 0) (hij : i ≠ j) : ω 5 i ≠ ω 5 j := fun z => hij (h.2.2.2.2.2.2.2.2.1 i j hi hj z)
theorem SR.pp (h : SR G L f o ω μ ch rd tx) : ω 0 2 ≠ ω 0 3 := h.2.2.2.2.2.2.2.2.2
theorem zUs_s {i : Nat} (h : i < 6) : zUsed μ i := Or.inl h
theorem zUs_g {g : Nat} (h : (g : Int) < μ 1 0) (h3 : μ 1 0 ≤ 3) : zUsed μ (6 + g) := Or.inr (Or.inl ⟨by omega, by omega, by omega⟩)
theorem zUs_l {l : Nat} (h : (l : Int) < μ 2 0) {j : Nat} (hj : j < 3) : zUsed μ (10 + j + 3 * l) := Or.inr (Or.inr ⟨by omega, by omega⟩)
theorem zUs_l0 {l : Nat} (h : (l : Int) < μ 2 0) : zUsed μ (10 + 3 * l) := Or.inr (Or.inr ⟨by omega, by omega⟩)
theorem zUs_l1 {l : Nat} (h : (l : Int) < μ 2 0) : zUsed μ (11 + 3 * l) := Or.inr (Or.inr ⟨by omega, by omega⟩)
theorem zUs_l2 {l : Nat} (h : (l : Int) < μ 2 0) : zUsed μ (12 + 3 * l) := Or.inr (Or.inr ⟨by omega, by omega⟩)
theorem zSb_wA {w b m : Nat} {t : List Int} (h : zSb G L f w b m t) {a t2 n : Nat} {σ : Int → Int} (ha : zA G t2 L f a n σ) (hb : b ≠ a) (hk : ∀ c, c ≠ a → f' c = f c) : zSb G L f' w b m t := by
  obtain ⟨x, τ, h1, h2, h3⟩ := h
  exact ⟨x, τ, ⟨h1.1, by rw [hk _ (zne_A h1.2 ha)]; exact h1.2⟩, zA_kept h2 (fun _ q => q) (hk _ hb), h3⟩
theorem zSb_wO {w b m : Nat} {t : List Int} (h : zSb G L f w b m t) {o2 ci : Nat} {vs : List Value} (ho : f o2 = .inr (ci, vs)) (h1 : ci ≠ 1) (hk : ∀ c, c ≠ o2 → f' c = f c) : zSb G L f' w b m t := by
  obtain ⟨x, τ, g1, g2, g3⟩ := h
  exact ⟨x, τ, ⟨g1.1, by rw [hk _ (zne_c g1.2 ho (fun z => h1 z.symm))]; exact g1.2⟩, zA_wO g2 ho hk, g3⟩
theorem zSb_e {L' : List Nat} {w b m : Nat} {t : List Int} (h : zSb G L f w b m t) (he : zExt L f L' f') : zSb G L' f' w b m t := by
  obtain ⟨x, τ, g1, g2, g3⟩ := h
  exact ⟨x, τ, zOb_e g1 he, zA_e g2 he, g3⟩
theorem zSb_a {w b m : Nat} {t : List Int} (h : zSb G L f w b m t) : ∃ τ, zA G 3 L f b m τ := by
  obtain ⟨x, τ, g1, g2, g3⟩ := h
  exact ⟨τ, g2⟩
theorem zSb_o {w b m : Nat} {t : List Int} (h : zSb G L f w b m t) : ∃ vs, f w = .inr (1, vs) := by
  obtain ⟨x, τ, g1, g2, g3⟩ := h
  exact ⟨_, g1.2⟩
/-- numbers at a place in use changed: what stays -/
theorem SR_kA (h : SR G L f o ω μ ch rd tx) (h3 : μ 1 0 ≤ 3) {i : Nat} (hi : zUsed μ i) {t n : Nat} {σ : Int → Int} (ha : zA G t L f (ω 2 i) n σ) (hk : ∀ c, c ≠ ω 2 i → f' c = f c) :
    zOb L f' o 10 [.ref (ω 0 0), .ref (ω 0 1), .ref (ω 0 3), .int (iI (μ 2 0)), .ref (ω 0 4), .ref (ω 0 5)] ∧
    (4 ≤ i → zSea G L f' (ω 0 0) (ω 1) (ω 2) (zK μ)) ∧
    (i < 6 ∨ 10 ≤ i → zGs G L f' (ω 0 1) (ω 0 2) (μ 1 0) (ω 3) (ω 4) (fun g => ω 2 (6 + g)) (μ 8) (zfl μ)) ∧
    zP G 7 L f' (ω 0 3) 16 (fun l => if (l : Int) < μ 2 0 then some (ω 5 l) else none) ∧
    (i ≠ 4 → zCh G L f' (ω 0 4) (ω 0 7) (ω 2 4) ch) ∧
    (i ≠ 5 → zSb G L f' (ω 0 5) (ω 2 5) (ω 0 6) tx) ∧
    (∀ l : Nat, (l : Int) < μ 2 0 → i ≠ 10 + 3 * l → i ≠ 11 + 3 * l → i ≠ 12 + 3 * l → zLn G L f' (ω 5 l) μ l (ω 6 (3 * l)) (ω 6 (3 * l + 1)) (ω 6 (3 * l + 2)) (ω 2 (10 + 3 * l)) (ω 2 (11 + 3 * l)) (ω 2 (12 + 3 * l)) (zsl μ l) (zel μ l) (rd l)) :=
  ⟨⟨h.ob.1, by rw [hk _ (zne_A h.ob.2 ha)]; exact h.ob.2⟩,
   fun q => zSea_wA h.sea ha (fun j hj => h.inj (zUs_s (by omega)) hi (by omega)) hk,
   fun q => zGs_wA h.gs ha (fun g hg => h.inj (zUs_g hg h3) hi (by omega)) hk,
   zP_kept h.la (fun _ q => q) (hk _ (zP_A h.la ha)),
   fun q => zCh_wA h.ct ha (h.inj (zUs_s (by omega)) hi (fun z => q z.symm)) hk,
   fun q => zSb_wA h.sb ha (h.inj (zUs_s (by omega)) hi (fun z => q z.symm)) hk,
   fun l hl q0 q1 q2 => zLn_wA (h.ln l hl) ha (h.inj (zUs_l0 hl) hi (fun z => q0 z.symm)) (h.inj (zUs_l1 hl) hi (fun z => q1 z.symm)) (h.inj (zUs_l2 hl) hi (fun z => q2 z.symm)) hk⟩
theorem SR_wch (h : SR G L f o ω μ ch rd tx) (h3 : μ 1 0 ≤ 3) {u : Int → Int} (ha : zA G 0 L f' (ω 2 4) 240 (fun i => cN (u i))) (hk : ∀ c, c ≠ ω 2 4 → f' c = f c) : SR G L f' o ω μ u rd tx := by
  obtain ⟨k1, k2, k3, k4, k5, k6, k7⟩ := SR_kA h h3 (zUs_s (by omega)) h.ct.2.2 hk
  exact ⟨k1, k2 (by omega), k3 (Or.inl (by omega)), k4, zCh_w h.ct ha hk, k6 (by omega), fun l hl => k7 l hl (by omega) (by omega) (by omega), h.2.2.2.2.2.2.2⟩
/-- a line's reductions written -/
theorem SR_wrd (h : SR G L f o ω μ ch rd tx) (h3 : μ 1 0 ≤ 3) {l : Nat} (hl : (l : Int) < μ 2 0) {r : Int → Int} (ha : zLn G L f' (ω 5 l) μ l (ω 6 (3 * l)) (ω 6 (3 * l + 1)) (ω 6 (3 * l + 2)) (ω 2 (10 + 3 * l)) (ω 2 (11 + 3 * l)) (ω 2 (12 + 3 * l)) (zsl μ l) (zel μ l) r) (hk : ∀ c, c ≠ ω 2 (12 + 3 * l) → f' c = f c) : SR G L f' o ω μ ch (fun j => if j = l then r else rd j) tx := by
  obtain ⟨k1, k2, k3, k4, k5, k6, k7⟩ := SR_kA h h3 (zUs_l2 hl) (h.ln l hl).2.2.2.2 hk
  refine ⟨k1, k2 (by omega), k3 (Or.inr (by omega)), k4, k5 (by omega), k6 (by omega), fun j hj => ?_, h.2.2.2.2.2.2.2⟩
  by_cases q : j = l
  · subst q
    dsimp only; rw [if_pos rfl]; exact ha
  · dsimp only; rw [if_neg q]; exact k7 j hj (by omega) (by omega) (by omega)
theorem SR_mem (h : SR G L f o ω μ ch rd tx) (h3 : μ 1 0 ≤ 3) (hg0 : 0 ≤ μ 1 0) {i : Nat} (hi : zUsed μ i) : ω 2 i ∈ L := by
  rcases hi with q | q | q
  · match i, q with
    | 0, _ => exact h.sea.2.1.2.1
    | 1, _ => exact h.sea.2.2.1.2.1
    | 2, _ => exact h.sea.2.2.2.1.2.1
    | 3, _ => exact h.sea.2.2.2.2.2.1
    | 4, _ => exact h.ct.2.2.1
    | 5, _ => obtain ⟨τ, e⟩ := zSb_a h.sb; exact e.1
  · have a := h.gs.2.2 (i - 6) (by omega)
    have a2 : ω 2 (6 + (i - 6)) ∈ L := a.2.2.1
    rwa [show 6 + (i - 6) = i by omega] at a2
  · have hl : (((i - 10) / 3 : Nat) : Int) < μ 2 0 := by omega
    have a := h.ln ((i - 10) / 3) hl
    rcases (show i = 10 + 3 * ((i - 10) / 3) ∨ i = 11 + 3 * ((i - 10) / 3) ∨ i = 12 + 3 * ((i - 10) / 3) by omega) with e | e | e
    · rw [e]; exact a.2.1.2.1
    · rw [e]; exact a.2.2.1.2.1
    · rw [e]; exact a.2.2.2.2.1
theorem SR_rd (h : SR G L f o ω μ ch rd tx) {rd' : Nat → Int → Int} (hr : ∀ l : Nat, (l : Int) < μ 2 0 → ∀ p, 0 ≤ p → p < 140 → rd l p = rd' l p) : SR G L f o ω μ ch rd' tx :=
  ⟨h.1, h.2.1, h.2.2.1, h.2.2.2.1, h.2.2.2.2.1, h.2.2.2.2.2.1, fun l hl => zLn_c (h.ln l hl) (fun _ _ _ => rfl) (fun _ _ _ => rfl) (hr l hl), h.2.2.2.2.2.2.2⟩
end ZSR
section ZSRW
variable {G : zG} {L : List Nat} {f f' : Nat → va_E} {o : Nat} {ω : Nat → Nat → Nat} {μ : zMu} {ch : Int → Int} {rd : Nat → Int → Int} {tx : List Int}
/-- the sea's numbers written -/
theorem SR_ws0 (h : SR G L f o ω μ ch rd tx) (h3 : μ 1 0 ≤ 3) {σ : Int → Int} (ha : zA G 0 L f' (ω 2 0) 240 σ) (hk : ∀ c, c ≠ ω 2 0 → f' c = f c) : SR G L f' o ω (zset μ 4 σ) ch rd tx := by
  obtain ⟨k1, k2, k3, k4, k5, k6, k7⟩ := SR_kA h h3 (zUs_s (by omega)) h.sea.2.1.2 hk
  refine ⟨k1, ⟨⟨h.sea.1.1, by rw [hk _ (zne_A h.sea.1.2 h.sea.2.1.2)]; exact h.sea.1.2⟩, zRow_w h.sea.2.1 ha hk, zRow_kept h.sea.2.2.1 (fun _ q => q) (hk _ (zne_A h.sea.2.2.1.1.2 h.sea.2.1.2)) (hk _ (h.inj (zUs_s (by omega)) (zUs_s (by omega)) (by omega))), zRow_kept h.sea.2.2.2.1 (fun _ q => q) (hk _ (zne_A h.sea.2.2.2.1.1.2 h.sea.2.1.2)) (hk _ (h.inj (zUs_s (by omega)) (zUs_s (by omega)) (by omega))), zRow_kept h.sea.2.2.2.2 (fun _ q => q) (hk _ (zne_A h.sea.2.2.2.2.1.2 h.sea.2.1.2)) (hk _ (h.inj (zUs_s (by omega)) (zUs_s (by omega)) (by omega)))⟩, k3 (Or.inl (by omega)), k4, k5 (by omega), k6 (by omega), fun l hl => k7 l hl (by omega) (by omega) (by omega), h.2.2.2.2.2.2.2⟩
/-- the sea's numbers written -/
theorem SR_ws1 (h : SR G L f o ω μ ch rd tx) (h3 : μ 1 0 ≤ 3) {σ : Int → Int} (ha : zA G 0 L f' (ω 2 1) 240 σ) (hk : ∀ c, c ≠ ω 2 1 → f' c = f c) : SR G L f' o ω (zset μ 5 σ) ch rd tx := by
  obtain ⟨k1, k2, k3, k4, k5, k6, k7⟩ := SR_kA h h3 (zUs_s (by omega)) h.sea.2.2.1.2 hk
  refine ⟨k1, ⟨⟨h.sea.1.1, by rw [hk _ (zne_A h.sea.1.2 h.sea.2.2.1.2)]; exact h.sea.1.2⟩, zRow_kept h.sea.2.1 (fun _ q => q) (hk _ (zne_A h.sea.2.1.1.2 h.sea.2.2.1.2)) (hk _ (h.inj (zUs_s (by omega)) (zUs_s (by omega)) (by omega))), zRow_w h.sea.2.2.1 ha hk, zRow_kept h.sea.2.2.2.1 (fun _ q => q) (hk _ (zne_A h.sea.2.2.2.1.1.2 h.sea.2.2.1.2)) (hk _ (h.inj (zUs_s (by omega)) (zUs_s (by omega)) (by omega))), zRow_kept h.sea.2.2.2.2 (fun _ q => q) (hk _ (zne_A h.sea.2.2.2.2.1.2 h.sea.2.2.1.2)) (hk _ (h.inj (zUs_s (by omega)) (zUs_s (by omega)) (by omega)))⟩, k3 (Or.inl (by omega)), k4, k5 (by omega), k6 (by omega), fun l hl => k7 l hl (by omega) (by omega) (by omega), h.2.2.2.2.2.2.2⟩
/-- the sea's numbers written -/
theorem SR_ws2 (h : SR G L f o ω μ ch rd tx) (h3 : μ 1 0 ≤ 3) {σ : Int → Int} (ha : zA G 0 L f' (ω 2 2) 10 σ) (hk : ∀ c, c ≠ ω 2 2 → f' c = f c) : SR G L f' o ω (zset μ 6 σ) ch rd tx := by
  obtain ⟨k1, k2, k3, k4, k5, k6, k7⟩ := SR_kA h h3 (zUs_s (by omega)) h.sea.2.2.2.1.2 hk
  refine ⟨k1, ⟨⟨h.sea.1.1, by rw [hk _ (zne_A h.sea.1.2 h.sea.2.2.2.1.2)]; exact h.sea.1.2⟩, zRow_kept h.sea.2.1 (fun _ q => q) (hk _ (zne_A h.sea.2.1.1.2 h.sea.2.2.2.1.2)) (hk _ (h.inj (zUs_s (by omega)) (zUs_s (by omega)) (by omega))), zRow_kept h.sea.2.2.1 (fun _ q => q) (hk _ (zne_A h.sea.2.2.1.1.2 h.sea.2.2.2.1.2)) (hk _ (h.inj (zUs_s (by omega)) (zUs_s (by omega)) (by omega))), zRow_w h.sea.2.2.2.1 ha hk, zRow_kept h.sea.2.2.2.2 (fun _ q => q) (hk _ (zne_A h.sea.2.2.2.2.1.2 h.sea.2.2.2.1.2)) (hk _ (h.inj (zUs_s (by omega)) (zUs_s (by omega)) (by omega)))⟩, k3 (Or.inl (by omega)), k4, k5 (by omega), k6 (by omega), fun l hl => k7 l hl (by omega) (by omega) (by omega), h.2.2.2.2.2.2.2⟩
/-- the sea's numbers written -/
theorem SR_ws3 (h : SR G L f o ω μ ch rd tx) (h3 : μ 1 0 ≤ 3) {σ : Int → Int} (ha : zA G 0 L f' (ω 2 3) 10 σ) (hk : ∀ c, c ≠ ω 2 3 → f' c = f c) : SR G L f' o ω (zset μ 7 σ) ch rd tx := by
  obtain ⟨k1, k2, k3, k4, k5, k6, k7⟩ := SR_kA h h3 (zUs_s (by omega)) h.sea.2.2.2.2.2 hk
  refine ⟨k1, ⟨⟨h.sea.1.1, by rw [hk _ (zne_A h.sea.1.2 h.sea.2.2.2.2.2)]; exact h.sea.1.2⟩, zRow_kept h.sea.2.1 (fun _ q => q) (hk _ (zne_A h.sea.2.1.1.2 h.sea.2.2.2.2.2)) (hk _ (h.inj (zUs_s (by omega)) (zUs_s (by omega)) (by omega))), zRow_kept h.sea.2.2.1 (fun _ q => q) (hk _ (zne_A h.sea.2.2.1.1.2 h.sea.2.2.2.2.2)) (hk _ (h.inj (zUs_s (by omega)) (zUs_s (by omega)) (by omega))), zRow_kept h.sea.2.2.2.1 (fun _ q => q) (hk _ (zne_A h.sea.2.2.2.1.1.2 h.sea.2.2.2.2.2)) (hk _ (h.inj (zUs_s (by omega)) (zUs_s (by omega)) (by omega))), zRow_w h.sea.2.2.2.2 ha hk⟩, k3 (Or.inl (by omega)), k4, k5 (by omega), k6 (by omega), fun l hl => k7 l hl (by omega) (by omega) (by omega), h.2.2.2.2.2.2.2⟩
/-- an error written -/
theorem SR_we (h : SR G L f o ω μ ch rd tx) (h3 : μ 1 0 ≤ 3) {l : Nat} (hl : (l : Int) < μ 2 0) {p x : Int} (hp : 0 ≤ p ∧ p < 140) (ha : zA G 0 L f' (ω 2 (11 + 3 * l)) 140 (zup (zel μ l) p x)) (hk : ∀ c, c ≠ ω 2 (11 + 3 * l) → f' c = f c) : SR G L f' o ω (zset μ 19 (zup (μ 19) (140 * l + p) x)) ch rd tx := by
  obtain ⟨k1, k2, k3, k4, k5, k6, k7⟩ := SR_kA h h3 (zUs_l1 hl) (h.ln l hl).2.2.1.2 hk
  have hz : ∀ (j : Nat) (q : Int), 0 ≤ q → q < 140 → zel (zset μ 19 (zup (μ 19) (140 * l + p) x)) j q = if j = l then zup (zel μ l) p x q else zel μ j q := by
    intro j q q0 q1
    have e : zel (zset μ 19 (zup (μ 19) (140 * l + p) x)) j q = zup (μ 19) (140 * l + p) x (140 * j + q) := by unfold zel; rw [if_pos ⟨q0, q1⟩, zset_s]
    rw [e]
    by_cases hj : j = l
    · rw [if_pos hj, hj]
      unfold zup zel
      by_cases hq : q = p
      · rw [if_pos (by omega), if_pos hq]
      · rw [if_neg (by omega), if_neg hq, if_pos ⟨q0, q1⟩]
    · rw [if_neg hj, zup_n _ _ (by omega)]
      unfold zel
      rw [if_pos ⟨q0, q1⟩]
  refine ⟨k1, k2 (by omega), k3 (Or.inr (by omega)), k4, k5 (by omega), k6 (by omega), fun j hj => ?_, h.2.2.2.2.2.2.2⟩
  by_cases q : j = l
  · subst q
    have a := zLn_w1 (h.ln j hl) (h.inj (zUs_l0 hl) (zUs_l1 hl) (by omega)) (h.inj (zUs_l2 hl) (zUs_l1 hl) (by omega)) ha hk
    exact zLn_c a (fun _ _ _ => rfl) (fun p2 q0 q1 => by rw [hz j p2 q0 q1, if_pos rfl]) (fun _ _ _ => rfl)
  · exact zLn_c (k7 j hj (by omega) (by omega) (by omega)) (fun _ _ _ => rfl) (fun p2 q0 q1 => by rw [hz j p2 q0 q1, if_neg q]) (fun _ _ _ => rfl)
/-- a gauge's failures written -/
theorem SR_wg (h : SR G L f o ω μ ch rd tx) (h3 : μ 1 0 ≤ 3) {g : Nat} (hg : (g : Int) < μ 1 0) {σ τ : Int → Int} (ha : zA G 0 L f' (ω 2 (6 + g)) 240 τ) (h1 : ∀ j, 0 ≤ j → j < 240 → τ j = σ (240 * g + j)) (h2 : ∀ (i : Nat) (j : Int), (i : Int) < μ 1 0 → i ≠ g → 0 ≤ j → j < 240 → μ 11 (240 * i + j) = σ (240 * i + j)) (hk : ∀ c, c ≠ ω 2 (6 + g) → f' c = f c) : SR G L f' o ω (zset μ 11 σ) ch rd tx := by
  obtain ⟨k1, k2, k3, k4, k5, k6, k7⟩ := SR_kA h h3 (zUs_g hg h3) (h.gs.2.2 g hg).2.2 hk
  have hgn : (g : Int) < 3 := by omega
  refine ⟨k1, k2 (by omega), ⟨⟨h.gs.1.1, by rw [hk _ (zne_A h.gs.1.2 (h.gs.2.2 g hg).2.2)]; exact h.gs.1.2⟩, zP_kept h.gs.2.1 (fun _ q => q) (hk _ (zP_A h.gs.2.1 (h.gs.2.2 g hg).2.2)), fun i hi => ?_⟩, k4, k5 (by omega), k6 (by omega), fun l hl => k7 l hl (by omega) (by omega) (by omega), h.2.2.2.2.2.2.2⟩
  have a := h.gs.2.2 i hi
  by_cases q : i = g
  · subst q
    exact ⟨⟨a.1.1, by rw [hk _ (zne_A a.1.2 a.2.2)]; exact a.1.2⟩, zRow_w a.2 (zA_cong ha (fun j q0 q1 => h1 j q0 q1)) hk⟩
  · have b := zGau_wA a (h.gs.2.2 g hg).2.2 (h.inj (zUs_g hi h3) (zUs_g hg h3) (by omega)) hk
    exact ⟨b.1, b.2.1, zA_cong b.2.2 (fun j q0 q1 => h2 i j hi q q0 q1)⟩
/-- the text written -/
theorem SR_wsb (h : SR G L f o ω μ ch rd tx) {L' : List Nat} {b' m' : Nat} {tx' : List Int} (hs : zSb G L' f' (ω 0 5) b' m' tx') (hp : zSbP L f (ω 0 5) (ω 2 5) L' f' b') (h3 : μ 1 0 ≤ 3) (hg0 : 0 ≤ μ 1 0) : SR G L' f' o (fun i j => if i = 2 ∧ j = 5 then b' else if i = 0 ∧ j = 6 then m' else ω i j) μ ch rd tx' := by
  obtain ⟨τ, hA⟩ := zSb_a h.sb
  obtain ⟨vs, hO⟩ := zSb_o h.sb
  obtain ⟨hb, hP⟩ := hp
  have hL : ∀ c ∈ L, c ∈ L' := fun c hc => (hP c hc).1
  have hk : ∀ c ∈ L, c ≠ ω 0 5 → c ≠ ω 2 5 → f' c = f c := fun c hc => (hP c hc).2
  have kr : ∀ {r a n : Nat} {bl : Int} {σ : Int → Int}, zRow G L f r a n bl σ → a ≠ ω 2 5 → zRow G L' f' r a n bl σ := fun hr ha => zRow_kept hr hL (hk _ hr.1.1 (zne_c hr.1.2 hO (by decide)) (zne_A hr.1.2 hA)) (hk _ hr.2.1 (zne_A hO hr.2).symm ha)
  have ko : ∀ {w ci : Nat} {fs : List Value}, zOb L f w ci fs → ci ≠ 1 → zOb L' f' w ci fs := fun hw hc => ⟨hL _ hw.1, by rw [hk _ hw.1 (zne_c hw.2 hO hc) (zne_A hw.2 hA)]; exact hw.2⟩
  have kp : ∀ {a t n : Nat} {γ : Nat → Option Nat}, zP G t L f a n γ → zP G t L' f' a n γ := fun hq => zP_kept hq hL (hk _ hq.1 (zne_P hO hq).symm (zP_A hq hA))
  have hs5 : zUsed μ 5 := zUs_s (by omega)
  refine ⟨ko h.ob (by decide), ⟨ko h.sea.1 (by decide), kr h.sea.2.1 (h.inj (zUs_s (by omega)) hs5 (by omega)), kr h.sea.2.2.1 (h.inj (zUs_s (by omega)) hs5 (by omega)), kr h.sea.2.2.2.1 (h.inj (zUs_s (by omega)) hs5 (by omega)), kr h.sea.2.2.2.2 (h.inj (zUs_s (by omega)) hs5 (by omega))⟩, ⟨ko h.gs.1 (by decide), kp h.gs.2.1, fun g hg => ?_⟩, kp h.la, ⟨ko h.ct.1 (by decide), kr h.ct.2 (h.inj (zUs_s (by omega)) hs5 (by omega))⟩, hs, fun l hl => ?_, fun i j hi hj hij => ?_, h.2.2.2.2.2.2.2.2⟩
  · have e : (if 2 = 2 ∧ 6 + g = 5 then b' else if 2 = 0 ∧ 6 + g = 6 then m' else ω 2 (6 + g)) = ω 2 (6 + g) := by rw [if_neg (by omega), if_neg (by omega)]
    show zGau G L' f' (ω 3 g) (μ 8 g) (ω 4 g) (if 2 = 2 ∧ 6 + g = 5 then b' else if 2 = 0 ∧ 6 + g = 6 then m' else ω 2 (6 + g)) (zfl μ g)
    rw [e]
    exact ⟨ko (h.gs.2.2 g hg).1 (by decide), kr (h.gs.2.2 g hg).2 (h.inj (zUs_g hg h3) hs5 (by omega))⟩
  · have e : ∀ j, 10 ≤ j → (if 2 = 2 ∧ j = 5 then b' else if 2 = 0 ∧ j = 6 then m' else ω 2 j) = ω 2 j := fun j hj => by rw [if_neg (by omega), if_neg (by omega)]
    have a := h.ln l hl
    show zLn G L' f' (ω 5 l) μ l (ω 6 (3 * l)) (ω 6 (3 * l + 1)) (ω 6 (3 * l + 2)) (if 2 = 2 ∧ 10 + 3 * l = 5 then b' else if 2 = 0 ∧ 10 + 3 * l = 6 then m' else ω 2 (10 + 3 * l)) (if 2 = 2 ∧ 11 + 3 * l = 5 then b' else if 2 = 0 ∧ 11 + 3 * l = 6 then m' else ω 2 (11 + 3 * l)) (if 2 = 2 ∧ 12 + 3 * l = 5 then b' else if 2 = 0 ∧ 12 + 3 * l = 6 then m' else ω 2 (12 + 3 * l)) (zsl μ l) (zel μ l) (rd l)
    rw [e _ (by omega), e _ (by omega), e _ (by omega)]
    exact ⟨ko a.1 (by decide), kr a.2.1 (h.inj (zUs_l0 hl) hs5 (by omega)), kr a.2.2.1 (h.inj (zUs_l1 hl) hs5 (by omega)), kr a.2.2.2 (h.inj (zUs_l2 hl) hs5 (by omega))⟩
  · have hm : ∀ i, zUsed μ i → ω 2 i ∈ L := fun i hi => SR_mem h h3 hg0 hi
    have ne : ∀ j, zUsed μ j → j ≠ 5 → b' ≠ ω 2 j := fun j hj hj5 z => by
      rcases hb with q | q
      · exact h.inj hs5 hj (fun w => hj5 w.symm) (q.symm.trans z)
      · exact q (z ▸ hm j hj)
    have e : ∀ j, (if 2 = 2 ∧ j = 5 then b' else if 2 = 0 ∧ j = 6 then m' else ω 2 j) = if j = 5 then b' else ω 2 j := fun j => by
      by_cases q : j = 5
      · rw [if_pos ⟨rfl, q⟩, if_pos q]
      · rw [if_neg (fun z => q z.2), if_neg (by omega), if_neg q]
    have hij : (if 2 = 2 ∧ i = 5 then b' else if 2 = 0 ∧ i = 6 then m' else ω 2 i) = (if 2 = 2 ∧ j = 5 then b' else if 2 = 0 ∧ j = 6 then m' else ω 2 j) := hij
    rw [e i, e j] at hij
    by_cases qi : i = 5
    · by_cases qj : j = 5
      · rw [qi, qj]
      · rw [if_pos qi, if_neg qj] at hij; exact absurd hij (ne j hj qj)
    · by_cases qj : j = 5
      · rw [if_neg qi, if_pos qj] at hij; exact absurd hij.symm (ne i hi qi)
      · rw [if_neg qi, if_neg qj] at hij
        exact h.2.2.2.2.2.2.2.1 i j hi hj hij
end ZSRW
