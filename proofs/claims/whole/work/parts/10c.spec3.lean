/-! lines -/
def spSize (μ : zMu) (l : Int) : Int := (if μ 15 l < μ 14 l then μ 14 l - μ 15 l else μ 15 l - μ 14 l) + 1
def spAlong (μ : zMu) (l k : Int) : Int := if μ 15 l < μ 14 l then μ 14 l - k else μ 14 l + k
def spCol (μ : zMu) (l k s : Int) : Int := if μ 12 l = 0 then μ 13 l + s else spAlong μ l k
def spRow (μ : zMu) (l k s : Int) : Int := if μ 12 l = 0 then spAlong μ l k else μ 13 l + s
def spOn (μ : zMu) (l k s : Int) : Prop := (0 ≤ spCol μ l k s ∧ spCol μ l k s ≤ 19) ∧ 0 ≤ spRow μ l k s ∧ spRow μ l k s ≤ 11
def spCell (μ : zMu) (l k s : Int) : Int := 20 * spRow μ l k s + spCol μ l k s
def spReach (x : Int) : Int := if x / 10 < 3 then x / 10 else 3
theorem spSize_rng {μ : zMu} (hI : MJ μ) {l : Int} (hl : 0 ≤ l ∧ l < 16) : 1 ≤ spSize μ l ∧ spSize μ l ≤ 20 ∧ 5 * μ 17 l + spSize μ l ≤ 120 := by
  have h := hI.b12 l hl.1 hl.2
  have h2 := hI.h17 l hl.1 hl.2
  unfold spSize
  split <;> omega
theorem spAlong_rng {μ : zMu} (hI : MJ μ) {l : Int} (hl : 0 ≤ l ∧ l < 16) {k : Int} (hk : -100 ≤ k ∧ k ≤ 100) : -100 ≤ spAlong μ l k ∧ spAlong μ l k ≤ 120 := by
  have h := hI.b12 l hl.1 hl.2
  unfold spAlong
  split <;> omega
/-- the ship's own cell lies in the chart -/
theorem spOn_own {μ : zMu} (hI : MJ μ) {l k : Int} (hl : 0 ≤ l ∧ l < 16) (hk : 0 ≤ k ∧ k < spSize μ l) : 0 ≤ spCol μ l k 0 ∧ spCol μ l k 0 ≤ 19 ∧ 0 ≤ spRow μ l k 0 ∧ spRow μ l k 0 ≤ 11 := by
  have h := hI.b12 l hl.1 hl.2
  have h2 := hI.c12 l hl.1 hl.2
  unfold spSize at hk
  unfold spCol spRow spAlong
  by_cases e : μ 12 l = 0
  · have := h2.1 e
    simp only [if_pos e]
    split <;> split at hk <;> omega
  · have := h2.2 e
    simp only [if_neg e]
    split <;> split at hk <;> omega
theorem spReach_rng {x : Int} (h : 0 ≤ x) : 0 ≤ spReach x ∧ spReach x ≤ 3 := by unfold spReach; split <;> omega
noncomputable def spSv (μ : zMu) (l k s : Int) : Int := zif (k < spSize μ l ∧ spOn μ l k s ∧ -spReach (μ 4 (spCell μ l k 0)) ≤ s ∧ s ≤ spReach (μ 4 (spCell μ l k 0))) (μ 4 (spCell μ l k s) + spWater μ (spCol μ l k 0) (μ 16 l) (μ 17 l + k / 5)) zNO
noncomputable def spSF (μ : zMu) (l b : Int) : Int → Int := fun p => if 140 * l ≤ p ∧ p < b then spSv μ l ((p - 140 * l) / 7) ((p - 140 * l) % 7 - 3) else μ 18 p
noncomputable def spSM (μ : zMu) (l b : Int) : zMu := zset (zset μ 19 (zfill (μ 19) (140 * l) b 0)) 18 (spSF μ l b)
theorem spSF_0 (μ : zMu) (l : Int) : spSF μ l (140 * l) = μ 18 := by
  funext p; unfold spSF; rw [if_neg (by omega)]
theorem spSM_0 (μ : zMu) (l : Int) : spSM μ l (140 * l) = μ := by
  unfold spSM; rw [spSF_0, zfill_0, zset_id]
  have e : zset μ 18 (μ 18) = μ := zset_id μ 18
  exact e
theorem spSF_s (μ : zMu) {l k s b : Int} (hb : b = 140 * l + 7 * k + (s + 3)) (hk : 0 ≤ k) (hs : -3 ≤ s ∧ s ≤ 3) : zup (spSF μ l b) b (spSv μ l k s) = spSF μ l (b + 1) := by
  funext p; unfold zup spSF
  by_cases h : p = b
  · rw [if_pos h, if_pos (by omega)]
    have e1 : (p - 140 * l) / 7 = k := by omega
    have e2 : (p - 140 * l) % 7 - 3 = s := by omega
    rw [e1, e2]
  · rw [if_neg h]
    by_cases h2 : 140 * l ≤ p ∧ p < b
    · rw [if_pos h2, if_pos (by omega)]
    · rw [if_neg h2, if_neg (by omega)]
theorem zup_zup (σ : Int → Int) (i x y : Int) : zup (zup σ i x) i y = zup σ i y := by
  funext j; unfold zup; by_cases h : j = i <;> simp [h]
theorem spSM_w1 (μ : zMu) {l k s b v : Int} (hb : b = 140 * l + 7 * k + (s + 3)) (hl : 0 ≤ l) (hk : 0 ≤ k) (hs : -3 ≤ s ∧ s ≤ 3) (hv : spSv μ l k s = v) :
    zset (zset (spSM μ l b) 19 (zup (spSM μ l b 19) b 0)) 18 (zup ((zset (spSM μ l b) 19 (zup (spSM μ l b 19) b 0)) 18) b v) = spSM μ l (b + 1) := by
  subst hv
  have e19 : spSM μ l b 19 = zfill (μ 19) (140 * l) b 0 := rfl
  have e18 : (zset (spSM μ l b) 19 (zup (spSM μ l b 19) b 0)) 18 = spSF μ l b := rfl
  rw [e18, spSF_s μ hb hk hs, e19, zfill_1 _ (by omega)]
  funext j
  unfold spSM zset
  by_cases h18 : j = 18
  · simp [h18]
  · by_cases h19 : j = 19
    · simp [h19]
    · simp [h18, h19]
theorem spSM_w2 (μ : zMu) {l k s b v w : Int} (hb : b = 140 * l + 7 * k + (s + 3)) (hl : 0 ≤ l) (hk : 0 ≤ k) (hs : -3 ≤ s ∧ s ≤ 3) (hv : spSv μ l k s = v) :
    zset (zset (zset (spSM μ l b) 19 (zup (spSM μ l b 19) b 0)) 18 (zup ((zset (spSM μ l b) 19 (zup (spSM μ l b 19) b 0)) 18) b w)) 18 (zup ((zset (zset (spSM μ l b) 19 (zup (spSM μ l b 19) b 0)) 18 (zup ((zset (spSM μ l b) 19 (zup (spSM μ l b 19) b 0)) 18) b w)) 18) b v) = spSM μ l (b + 1) := by
  rw [zset_s, zup_zup, zset_zset]
  exact spSM_w1 μ hb hl hk hs hv
/-- a place on the way of the ship -/
def spPl (l k s : Int) : Int := 7 * (20 * l + k) + s + 3
theorem spCol_rng {μ : zMu} (hI : MJ μ) {l k s : Int} (hl : 0 ≤ l ∧ l < 16) (hk : -100 ≤ k ∧ k ≤ 100) (hs : -100 ≤ s ∧ s ≤ 100) : -200 ≤ spCol μ l k s ∧ spCol μ l k s ≤ 200 := by
  have h := hI.b12 l hl.1 hl.2
  have h2 := spAlong_rng hI hl hk
  unfold spCol
  split <;> omega
theorem spRow_rng {μ : zMu} (hI : MJ μ) {l k s : Int} (hl : 0 ≤ l ∧ l < 16) (hk : -100 ≤ k ∧ k ≤ 100) (hs : -100 ≤ s ∧ s ≤ 100) : -200 ≤ spRow μ l k s ∧ spRow μ l k s ≤ 200 := by
  have h := hI.b12 l hl.1 hl.2
  have h2 := spAlong_rng hI hl hk
  unfold spRow
  split <;> omega
