section ZTAILB
variable {p : Program} {l : Launch} {e : Env} {R : Room} {s : State} {m : MethodId} {args : Array Value} {below : List Frame} {meth : Method} {c : Code} {cells slots : Nat} {Q : State → Prop}
variable {G : zG} {X : (Nat → Prop) → State → Prop} {A : Nat → Prop} {L : List Nat} {f : Nat → va_E} {cc : ByteArray} {own : String} {ret : Option FieldType}
/-- the same where the answers are booleans -/
theorem z_tailB (C : ZC G X p l s m args meth c A 10 ret cc own) (hX : zX X) {b oc om aL aD idx P : Nat} {g i z2 t : Int} {μ : zMu} {Lc Lm : List Nat} {ad : Nat → Nat} {u v : Int → Int} {φ : Nat → Int64} {ψ : Nat → UInt64} (hW : zLWx G L f oc om aL aD μ μ Lc Lm ad t u v φ ψ) (ht : 0 ≤ t ∧ t ≤ 4) (hφ : t = 0 → φ 0 = zovB z2) (hzr : t = 0 → zR z2) (hr : 0 + 1 ≤ R.frames ∧ 8 + (1 + 11) + 60 * 0 ≤ R.locals) (hc : cells ≤ R.cells) (hs : slots ≤ R.slots) (hlk : Cond.methodLink own idx yX7_thrown ∈ lw_tbl)
    (d0 : decode cc P = .ok (.istore 7, 2)) (d2 : decode cc (P + 2) = .ok (.aload_n 2, 1)) (d3 : decode cc (P + 3) = .ok (.invokevirtual idx, 3)) (d6 : decode cc (P + 6) = .ok (.iload 6, 2)) (d8 : decode cc (P + 8) = .ok (.if_icmp .eq 5, 3)) (d13 : decode cc (P + 13) = .ok (.iload 6, 2)) (d15 : decode cc (P + 15) = .ok (.ifCond .ne 22, 3)) (d18 : decode cc (P + 18) = .ok (.aload_n 3, 1)) (d19 : decode cc (P + 19) = .ok (.iconst 0, 1)) (d20 : decode cc (P + 20) = .ok (.laload, 1)) (d21 : decode cc (P + 21) = .ok (.iload 7, 2)) (d23 : decode cc (P + 23) = .ok (.ifCond .eq 7, 3)) (d26 : decode cc (P + 26) = .ok (.lconst 1, 1)) (d27 : decode cc (P + 27) = .ok (.goto 4, 3)) (d30 : decode cc (P + 30) = .ok (.lconst 0, 1)) (d31 : decode cc (P + 31) = .ok (.lcmp, 1)) (d32 : decode cc (P + 32) = .ok (.ifCond .eq 5, 3)) (d37 : decode cc (P + 37) = .ok (.goto g, 3)) (hg : ((P + 37 : Nat) : Int) + g = ((2409 : Nat) : Int))
    (K : ∀ (L2 : List Nat) (f2 : Nat → va_E), zLW G L2 f2 oc om aL aD μ → ZW G p l e R s m args below meth c A 10 cells slots Q L2 f2 2409 ((7, .int (iI z2)) :: (6, .int (iI t)) :: zLb i b oc om aL aD) []) : ZW G p l e R s m args below meth c A 10 cells slots Q L f P ((6, .int (iI t)) :: zLb i b oc om aL aD) [.int (iI z2)] := by
  refine z_istore (ls' := (7, .int (iI z2)) :: (6, .int (iI t)) :: zLb i b oc om aL aD) C d0 (by decide) rfl ?_
  refine z_aload_n (k := 2) C 5 d2 rfl ?_
  refine z_cVs (As := []) C hW.ms hW.mn zc_X7_thrown (c_X7_thrown hX hW.M) hlk hr hc hs hW.M.1.1 hW.M.1.2 rfl rfl rfl rfl (Nat.le_of_ble_eq_true rfl) d3 (fun z Lm1 f1 L2 f2 hq hm => ?_)
  obtain ⟨rfl, rfl, rfl⟩ := hq
  have hW2 := zLWx_m hW hm hW.M
  have hGo : ZW G p l e R s m args below meth c A 10 (cells + 0) (slots + 0) Q L2 f2 (P + 37) ((7, .int (iI z2)) :: (6, .int (iI z)) :: zLb i b oc om aL aD) [] :=
    z_goto C 2409 d37 hg (K L2 f2 (zLW_mk hW2))
  refine z_iload (k := 6) C 1 d6 rfl ?_
  refine z_same C (P + 13) d8 (by omega) ?_
  refine z_iload (k := 6) C 1 d13 rfl ?_
  refine z_if_ne C (P + 37) d15 (by omega) (by omega) (fun _ => hGo) (fun h0 => ?_)
  refine z_aload_n (k := 3) C 6 d18 rfl ?_
  refine z_iconst C d19 ?_
  refine z_lald C hW2.A d20 ?_
  refine z_iload (k := 7) C 0 d21 rfl ?_
  rw [hφ h0]
  refine z_if_eq C (P + 30) d23 (by omega) (hzr h0) (fun h2 => ?_) (fun h2 => ?_)
  · refine z_lconst C d30 ?_
    rw [show zovB z2 = iL 0 from if_pos h2]
    refine z_lcmpS C d31 ?_
    exact z_if_eq C (P + 37) d32 (by omega) (by decide) (fun _ => hGo) (fun h => absurd rfl h)
  · refine z_lconst C d26 ?_
    refine z_goto C (P + 31) d27 (by omega) ?_
    rw [show zovB z2 = iL 1 from if_neg h2]
    refine z_lcmpS C d31 ?_
    exact z_if_eq C (P + 37) d32 (by omega) (by decide) (fun _ => hGo) (fun h => absurd rfl h)
theorem o_isSpike_b (μ : zMu) (l k s : Int) : 0 ≤ (o_isSpike μ l k s).2.1 ∧ (o_isSpike μ l k s).2.1 ≤ 1 := by
  unfold o_isSpike
  have hb := bI_rng (spSpike μ l k s)
  split
  · split
    · exact hb
    · exact ⟨by show (0 : Int) ≤ 0; decide, by show (0 : Int) ≤ 1; decide⟩
  · exact ⟨by show (0 : Int) ≤ 0; decide, by show (0 : Int) ≤ 1; decide⟩
end ZTAILB
