/-! counts of a line, by its own numbers and by the reference's -/
theorem spLost_n {μ : zMu} (hI : MI μ) {l : Int} (hl : 0 ≤ l ∧ l < 16) : zsum (fun k => zsum (znL (zsl μ l) (zrl μ l) k) 7) (spSize μ l).toNat = spLost μ l := by
  have hz := spSize_rng hI.J hl
  refine zsum_cong (fun k q0 q1 => zsum_cong (fun j r0 r1 => ?_))
  unfold znL spLst
  rw [zls_zsl μ l ⟨q0, by omega, by omega, by omega⟩, zls_zrl ⟨by omega, hz.2.1⟩ k ⟨by omega, by omega⟩]
theorem spSpikes_n {μ : zMu} (hI : MI μ) {l : Int} (hl : 0 ≤ l ∧ l < 16) : zsum (fun k => zsum (znP (zrl μ l) k) 7) (spSize μ l).toNat = spSpikes μ l := by
  have hz := spSize_rng hI.J hl
  refine zsum_cong (fun k q0 q1 => zsum_cong (fun j r0 r1 => ?_))
  unfold znP spSpk zspk spSpike
  rw [zls_zrl ⟨by omega, hz.2.1⟩ k (t := j - 3) ⟨by omega, by omega⟩, zls_zrl ⟨by omega, hz.2.1⟩ (k - 1) (t := j - 3) ⟨by omega, by omega⟩, zls_zrl ⟨by omega, hz.2.1⟩ (k + 1) (t := j - 3) ⟨by omega, by omega⟩]
theorem zsum_add {φ : Int → Int} (a : Nat) : ∀ b : Nat, zsum φ (a + b) = zsum φ a + zsum (fun j => φ (a + j)) b
  | 0 => (Int.add_zero _).symm
  | b + 1 => by
    show zsum φ (a + b) + φ ((a + b : Nat) : Int) = _ + (zsum (fun j => φ (a + j)) b + φ (a + b))
    rw [zsum_add a b, Int.natCast_add, Int.add_assoc]
theorem zsum_7 (φ : Int → Int) : ∀ n : Nat, zsum φ (7 * n) = zsum (fun k => zsum (fun j => φ (7 * k + j)) 7) n
  | 0 => rfl
  | n + 1 => by
    have e : 7 * (n + 1) = 7 * n + 7 := by omega
    rw [e, zsum_add, zsum_7 φ n]
    show _ = _ + zsum (fun j => φ (7 * (n : Int) + j)) 7
    congr 1
theorem spCount_n {μ : zMu} (hI : MI μ) (hK : MK μ) {l : Int} (hl : 0 ≤ l ∧ l < μ 2 0) : zsum (fun k => zsum (znS (zsl μ l) k) 7) (spSize μ l).toNat = spCount μ l := by
  have hl16 : 0 ≤ l ∧ l < 16 := ⟨hl.1, by have := hI.n; omega⟩
  have hz := spSize_rng hI.J hl16
  have e1 : spCount μ l = zsum (fun k => zsum (znS (zsl μ l) k) 7) 20 := by
    have a := zsum_7 (fun p => bI (μ 18 (140 * l + p) ≠ zNO)) 20
    have a : spCount μ l = _ := a
    rw [a]
    refine zsum_cong (fun k q0 q1 => zsum_cong (fun j r0 r1 => ?_))
    unfold znS
    rw [zls_zsl μ l ⟨q0, by omega, by omega, by omega⟩, show 7 * (20 * l + k) + (j - 3) + 3 = 140 * l + (7 * k + j) by omega]
  rw [e1]
  symm
  refine zsum_tail (by omega) (fun k q0 q1 => zsum_0 (fun j r0 r1 => bI_0 (fun z => ?_)))
  rw [zls_zsl μ l ⟨by omega, by omega, by omega, by omega⟩] at z
  have := (hK l k (j - 3) hl.1 hl.2 (by omega) (by omega) (by omega) (by omega) z).1
  omega
/-- a line's numbers lie apart from b -/
def zNe3 (a0 a1 a2 b : Nat) : Prop := a0 ≠ b ∧ a1 ≠ b ∧ a2 ≠ b
theorem zLn_P {G : zG} {L L' : List Nat} {f f' : Nat → va_E} {w : Nat} {μ : zMu} {l : Int} {r0 r1 r2 a0 a1 a2 v b b' m : Nat} {s e rd : Int → Int} {t : List Int} (h : zLn G L f w μ l r0 r1 r2 a0 a1 a2 s e rd) (hne : zNe3 a0 a1 a2 b) (hs : zSb G L f v b m t) (hp : zSbP L f v b L' f' b') : zLn G L' f' w μ l r0 r1 r2 a0 a1 a2 s e rd ∧ zNe3 a0 a1 a2 b' := by
  obtain ⟨τ, hA⟩ := zSb_a hs
  obtain ⟨vs, hO⟩ := zSb_o hs
  obtain ⟨hb, hP⟩ := hp
  have hL : ∀ c ∈ L, c ∈ L' := fun c hc => (hP c hc).1
  have hk : ∀ c ∈ L, c ≠ v → c ≠ b → f' c = f c := fun c hc => (hP c hc).2
  have kr : ∀ {r a n : Nat} {bl : Int} {σ : Int → Int}, zRow G L f r a n bl σ → a ≠ b → zRow G L' f' r a n bl σ := fun hr ha => zRow_kept hr hL (hk _ hr.1.1 (zne_c hr.1.2 hO (by decide)) (zne_A hr.1.2 hA)) (hk _ hr.2.1 (zne_A hO hr.2).symm ha)
  have ne : ∀ a, a ∈ L → a ≠ b → a ≠ b' := fun a ha hab z => by
    rcases hb with q | q
    · exact hab (z.trans q)
    · exact q (z ▸ ha)
  exact ⟨⟨⟨hL _ h.1.1, by rw [hk _ h.1.1 (zne_c h.1.2 hO (by decide)) (zne_A h.1.2 hA)]; exact h.1.2⟩, kr h.2.1 hne.1, kr h.2.2.1 hne.2.1, kr h.2.2.2 hne.2.2⟩, ne _ h.2.1.2.1 hne.1, ne _ h.2.2.1.2.1 hne.2.1, ne _ h.2.2.2.2.1 hne.2.2⟩
theorem spText_eq (μ : zMu) (l : Int) : ((((((((((([] ++ [if μ 12 l ≠ 0 then 114 else 99]) ++ zdig (μ 13 l)) ++ [58]) ++ zdig (μ 14 l)) ++ [45]) ++ zdig (μ 15 l)) ++ [64]) ++ zdig (μ 16 l)) ++ [47]) ++ zdig (μ 17 l)) ++ [32]) ++ spWord μ l = spText μ l := by
  unfold spText
  simp only [List.nil_append, List.append_assoc]
theorem zSb_ob {G : zG} {L : List Nat} {f : Nat → va_E} {w b m : Nat} {t : List Int} (h : zSb G L f w b m t) : ∃ vs, zOb L f w 1 vs := by
  obtain ⟨x, τ, g1, g2, g3⟩ := h
  exact ⟨_, g1⟩
