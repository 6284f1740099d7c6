section ZM
variable {p : Program} {l : Launch} {e : Env} {R : Room} {s : State} {m : MethodId} {args : Array Value} {below : List Frame} {meth : Method} {c : Code} {cells slots : Nat} {Q : State → Prop}
variable {G : zG} {X : (Nat → Prop) → State → Prop} {A : Nat → Prop} {nL : Nat} {L : List Nat} {f : Nat → va_E} {cc : ByteArray} {own : String} {pc : Nat} {ls : List (Nat × Value)} {st : List Value} {ret : Option FieldType}
theorem z_ldcw (C : ZC G X p l s m args meth c A nL ret cc own) {index : Nat} {v : Int32} {n : Int} (hw : Cond.constant own index v ∈ lw_tbl) (hv : v = iI n) (hd : decode cc pc = .ok (.ldc_w index, 3)) (K : ZW G p l e R s m args below meth c A nL cells slots Q L f (pc + 3) ls (.int (iI n) :: st)) : ZW G p l e R s m args below meth c A nL cells slots Q L f pc ls st :=
  fun H locs la hP hD hS hl => lv_ldcw C.1 C.2.1 C.2.2.2.1 (C.w hw rfl) hd (by rw [hv]; exact K H locs la hP hD hS hl)
theorem z_alen (C : ZC G X p l s m args meth c A nL ret cc own) {a t n : Nat} {ty : FieldType} {σ : Int → Int} (h : zA G t L f a n σ) (ht : (zY G)[t]? = some (G.2 t, ty)) (hd : decode cc pc = .ok (.arraylength, 1)) (K : ZW G p l e R s m args below meth c A nL cells slots Q L f (pc + 1) ls (.int (iI (n : Int)) :: st)) : ZW G p l e R s m args below meth c A nL cells slots Q L f pc ls (.ref a :: st) := by
  intro H locs la hP hD hS hl
  obtain ⟨ha, φ, hf, hφ⟩ := h
  obtain ⟨q, hq⟩ := va_pl_get (X := []) (f := f) ha
  have hq : (va_pl L f)[q]? = some (a, .inl (G.2 t, n, .inl φ)) := by rw [← hf]; exact hq
  exact va_alen C.1 C.2.1 C.2.2.2.2.2.1 hP q t hq ht (iI_nat n) hd (K H locs la hP hD hS hl)
/-- a world's new cell -/
theorem z_fresh {H : Heap} (hP : va_P G.1 vwCl (va_pl L f) H) {q : Nat} {x : va_E} {H1 : Heap} (hD : va_D A (va_pl L f ++ [(q, x)])) : q ∉ L := by
  intro h
  obtain ⟨k, hk⟩ := va_pl_get (X := []) (f := f) h
  have hl := (List.getElem?_eq_some_iff.mp hk).1
  have h1 : (va_pl L f ++ [(q, x)])[k]? = some (q, f q) := by rw [List.getElem?_append_left hl]; exact hk
  have h2 : (va_pl L f ++ [(q, x)])[(va_pl L f).length]? = some (q, x) := by rw [List.getElem?_append_right (Nat.le_refl _), Nat.sub_self]; rfl
  have := hD.1 _ _ _ _ h1 h2 rfl
  exact absurd this (Nat.ne_of_lt hl)
theorem z_new (C : ZC G X p l s m args meth c A nL ret cc own) {idx N ci : Nat} {Cn : String} {T : u_T} {fs : List Value} {ty : Nat → FieldType} (hin : ∀ w ∈ u_ws Cn T N, w ∈ zT) (hty : ∀ k, k < N → parseFieldDescriptor (T k).2.2.1 = some (ty k)) (hlk : Cond.classLink own idx Cn ∈ lw_tbl) (hinst : Cond.instantiable Cn N ∈ lw_tbl) (hini : Cond.initialized Cn ∈ lw_tbl) (hc : vwCl[ci]? = some (Cn, T, N)) (hfs : ∀ j, j < N → defaultValue (ty j) = vp_V fs j) (hcells : cells + 1 ≤ R.cells) (hslots : slots + N ≤ R.slots) (hd : decode cc pc = .ok (.new idx, 3))
    (K : ∀ q : Nat, q ∉ L → ZW G p l e R s m args below meth c A nL (cells + 1) (slots + N) Q (L ++ [q]) (va_up f q (.inr (ci, fs))) (pc + 3) ls (.ref q :: st)) : ZW G p l e R s m args below meth c A nL cells slots Q L f pc ls st := by
  intro H locs la hP hD hS hl
  refine va_new C.1 C.2.1 C.2.2.2.2.1 hin ty hty C.2.2.2.1 (C.w hlk rfl) (C.w hinst rfl) (C.w hini rfl) C.2.2.2.2.2.1 hP hD hS C.2.2.2.2.2.2.1 hc hfs hcells hslots hd (fun q H1 hP1 hD1 hS1 => ?_)
  have hq : q ∉ L := z_fresh (H1 := H1) hP hD1
  rw [va_pl_push hq] at hP1 hD1
  exact K q hq H1 locs la hP1 hD1 hS1 hl
/-- references that may be null, in locals -/
theorem z_qload_n (C : ZC G X p l s m args meth c A nL ret cc own) {k : Fin 4} (j : Nat) {r : Option Nat} (hd : decode cc pc = .ok (.aload_n k, 1)) (hl : ls[j]? = some ((k : Nat), va_rf r)) (K : ZW G p l e R s m args below meth c A nL cells slots Q L f (pc + 1) ls (va_rf r :: st)) : ZW G p l e R s m args below meth c A nL cells slots Q L f pc ls st := by
  cases r with
  | none => exact fun H locs la hP hD hS h => lv_aload_nN C.1 C.2.1 hd rfl (lv_at h j hl) (K H locs la hP hD hS h)
  | some x => exact z_aload_n C j hd hl K
theorem z_qload (C : ZC G X p l s m args meth c A nL ret cc own) {k : Nat} (j : Nat) {r : Option Nat} (hd : decode cc pc = .ok (.aload k, 2)) (hl : ls[j]? = some (k, va_rf r)) (K : ZW G p l e R s m args below meth c A nL cells slots Q L f (pc + 2) ls (va_rf r :: st)) : ZW G p l e R s m args below meth c A nL cells slots Q L f pc ls st := by
  cases r with
  | none => exact fun H locs la hP hD hS h => lv_aloadN C.1 C.2.1 hd (lv_at h j hl) (K H locs la hP hD hS h)
  | some x => exact z_aload C j hd hl K
theorem z_ifnullr (C : ZC G X p l s m args meth c A nL ret cc own) {x : Nat} {off : Int} (hd : decode cc pc = .ok (.ifnull off, 3)) (K : ZW G p l e R s m args below meth c A nL cells slots Q L f (pc + 3) ls st) : ZW G p l e R s m args below meth c A nL cells slots Q L f pc ls (.ref x :: st) :=
  fun H locs la hP hD hS hl => lv_ifnull C.1 C.2.1 hd (K H locs la hP hD hS hl)
theorem z_ifnull (C : ZC G X p l s m args meth c A nL ret cc own) {r : Option Nat} {off : Int} (tgt : Nat) (hd : decode cc pc = .ok (.ifnull off, 3)) (ht : (pc : Int) + off = (tgt : Int)) (K1 : r = none → ZW G p l e R s m args below meth c A nL cells slots Q L f tgt ls st) (K2 : ∀ x : Nat, r = some x → ZW G p l e R s m args below meth c A nL cells slots Q L f (pc + 3) ls st) : ZW G p l e R s m args below meth c A nL cells slots Q L f pc ls (va_rf r :: st) := by
  cases r with
  | none => exact fun H locs la hP hD hS hl => lv_ifnullN C.1 C.2.1 hd ht (K1 rfl H locs la hP hD hS hl)
  | some x => exact fun H locs la hP hD hS hl => lv_ifnull C.1 C.2.1 hd (K2 x rfl H locs la hP hD hS hl)
theorem z_ifnonnull (C : ZC G X p l s m args meth c A nL ret cc own) {r : Option Nat} {off : Int} (tgt : Nat) (hd : decode cc pc = .ok (.ifnonnull off, 3)) (ht : (pc : Int) + off = (tgt : Int)) (K1 : r = none → ZW G p l e R s m args below meth c A nL cells slots Q L f (pc + 3) ls st) (K2 : ∀ x : Nat, r = some x → ZW G p l e R s m args below meth c A nL cells slots Q L f tgt ls st) : ZW G p l e R s m args below meth c A nL cells slots Q L f pc ls (va_rf r :: st) := by
  cases r with
  | none => exact fun H locs la hP hD hS hl => lv_ifnonnullN C.1 C.2.1 hd (K1 rfl H locs la hP hD hS hl)
  | some x => exact fun H locs la hP hD hS hl => lv_ifnonnull C.1 C.2.1 hd ht (K2 x rfl H locs la hP hD hS hl)
end ZM
theorem zin_J0 : ∀ w ∈ u_ws RJ0 TJ0 4, w ∈ zT := List.forall_mem_cons.mpr ⟨zT_of zl_2_190 rfl, List.forall_mem_cons.mpr ⟨zT_of zl_2_192 rfl, List.forall_mem_cons.mpr ⟨zT_of zl_5_237 rfl, List.forall_mem_cons.mpr ⟨zT_of zl_5_239 rfl, fun _ h => absurd h List.not_mem_nil⟩⟩⟩⟩
theorem zin_J4 : ∀ w ∈ u_ws RJ4 TJ4 4, w ∈ zT := List.forall_mem_cons.mpr ⟨zT_of zl_1_129 rfl, List.forall_mem_cons.mpr ⟨zT_of zl_1_131 rfl, List.forall_mem_cons.mpr ⟨zT_of zl_1_133 rfl, List.forall_mem_cons.mpr ⟨zT_of zl_1_135 rfl, fun _ h => absurd h List.not_mem_nil⟩⟩⟩⟩
theorem zin_Jx00060 : ∀ w ∈ u_ws RJx00060 TJx00060 6, w ∈ zT := List.forall_mem_cons.mpr ⟨zT_of zl_2_157 rfl, List.forall_mem_cons.mpr ⟨zT_of zl_2_159 rfl, List.forall_mem_cons.mpr ⟨zT_of zl_2_161 rfl, List.forall_mem_cons.mpr ⟨zT_of zl_2_163 rfl, List.forall_mem_cons.mpr ⟨zT_of zl_2_165 rfl, List.forall_mem_cons.mpr ⟨zT_of zl_2_167 rfl, fun _ h => absurd h List.not_mem_nil⟩⟩⟩⟩⟩⟩
theorem zin_Jx7c733 : ∀ w ∈ u_ws RJx7c733 TJx7c733 6, w ∈ zT := List.forall_mem_cons.mpr ⟨zT_of zl_6_3 rfl, List.forall_mem_cons.mpr ⟨zT_of zl_6_4 rfl, List.forall_mem_cons.mpr ⟨zT_of zl_6_5 rfl, List.forall_mem_cons.mpr ⟨zT_of zl_6_6 rfl, List.forall_mem_cons.mpr ⟨zT_of zl_6_7 rfl, List.forall_mem_cons.mpr ⟨zT_of zl_6_8 rfl, fun _ h => absurd h List.not_mem_nil⟩⟩⟩⟩⟩⟩
theorem zin_X0 : ∀ w ∈ u_ws RX0 TX0 1, w ∈ zT := List.forall_mem_cons.mpr ⟨zT_of zl_1_103 rfl, fun _ h => absurd h List.not_mem_nil⟩
theorem zin_X1 : ∀ w ∈ u_ws RX1 TX1 2, w ∈ zT := List.forall_mem_cons.mpr ⟨zT_of zl_3_141 rfl, List.forall_mem_cons.mpr ⟨zT_of zl_3_143 rfl, fun _ h => absurd h List.not_mem_nil⟩⟩
theorem zin_X2 : ∀ w ∈ u_ws RX2 TX2 2, w ∈ zT := List.forall_mem_cons.mpr ⟨zT_of zl_1_86 rfl, List.forall_mem_cons.mpr ⟨zT_of zl_1_88 rfl, fun _ h => absurd h List.not_mem_nil⟩⟩
theorem zin_X3 : ∀ w ∈ u_ws RX3 TX3 10, w ∈ zT := List.forall_mem_cons.mpr ⟨zT_of zl_4_7 rfl, List.forall_mem_cons.mpr ⟨zT_of zl_4_9 rfl, List.forall_mem_cons.mpr ⟨zT_of zl_4_11 rfl, List.forall_mem_cons.mpr ⟨zT_of zl_4_13 rfl, List.forall_mem_cons.mpr ⟨zT_of zl_4_15 rfl, List.forall_mem_cons.mpr ⟨zT_of zl_4_17 rfl, List.forall_mem_cons.mpr ⟨zT_of zl_4_19 rfl, List.forall_mem_cons.mpr ⟨zT_of zl_4_21 rfl, List.forall_mem_cons.mpr ⟨zT_of zl_4_23 rfl, List.forall_mem_cons.mpr ⟨zT_of zl_4_25 rfl, fun _ h => absurd h List.not_mem_nil⟩⟩⟩⟩⟩⟩⟩⟩⟩⟩
theorem zin_X4 : ∀ w ∈ u_ws RX4 TX4 2, w ∈ zT := List.forall_mem_cons.mpr ⟨zT_of zl_1_57 rfl, List.forall_mem_cons.mpr ⟨zT_of zl_1_59 rfl, fun _ h => absurd h List.not_mem_nil⟩⟩
theorem zin_X5 : ∀ w ∈ u_ws RX5 TX5 4, w ∈ zT := List.forall_mem_cons.mpr ⟨zT_of zl_1_67 rfl, List.forall_mem_cons.mpr ⟨zT_of zl_1_69 rfl, List.forall_mem_cons.mpr ⟨zT_of zl_1_71 rfl, List.forall_mem_cons.mpr ⟨zT_of zl_1_73 rfl, fun _ h => absurd h List.not_mem_nil⟩⟩⟩⟩
theorem zin_X6 : ∀ w ∈ u_ws RX6 TX6 6, w ∈ zT := List.forall_mem_cons.mpr ⟨zT_of zl_1_145 rfl, List.forall_mem_cons.mpr ⟨zT_of zl_1_147 rfl, List.forall_mem_cons.mpr ⟨zT_of zl_1_149 rfl, List.forall_mem_cons.mpr ⟨zT_of zl_1_151 rfl, List.forall_mem_cons.mpr ⟨zT_of zl_1_153 rfl, List.forall_mem_cons.mpr ⟨zT_of zl_1_155 rfl, fun _ h => absurd h List.not_mem_nil⟩⟩⟩⟩⟩⟩
theorem zin_X7 : ∀ w ∈ u_ws RX7 TX7 21, w ∈ zT := List.forall_mem_cons.mpr ⟨zT_of zl_6_115 rfl, List.forall_mem_cons.mpr ⟨zT_of zl_6_117 rfl, List.forall_mem_cons.mpr ⟨zT_of zl_6_119 rfl, List.forall_mem_cons.mpr ⟨zT_of zl_6_121 rfl, List.forall_mem_cons.mpr ⟨zT_of zl_6_123 rfl, List.forall_mem_cons.mpr ⟨zT_of zl_6_125 rfl, List.forall_mem_cons.mpr ⟨zT_of zl_6_127 rfl, List.forall_mem_cons.mpr ⟨zT_of zl_6_129 rfl, List.forall_mem_cons.mpr ⟨zT_of zl_6_131 rfl, List.forall_mem_cons.mpr ⟨zT_of zl_6_133 rfl, List.forall_mem_cons.mpr ⟨zT_of zl_6_135 rfl, List.forall_mem_cons.mpr ⟨zT_of zl_6_137 rfl, List.forall_mem_cons.mpr ⟨zT_of zl_6_139 rfl, List.forall_mem_cons.mpr ⟨zT_of zl_6_141 rfl, List.forall_mem_cons.mpr ⟨zT_of zl_6_143 rfl, List.forall_mem_cons.mpr ⟨zT_of zl_6_145 rfl, List.forall_mem_cons.mpr ⟨zT_of zl_6_147 rfl, List.forall_mem_cons.mpr ⟨zT_of zl_6_149 rfl, List.forall_mem_cons.mpr ⟨zT_of zl_6_151 rfl, List.forall_mem_cons.mpr ⟨zT_of zl_6_153 rfl, List.forall_mem_cons.mpr ⟨zT_of zl_6_155 rfl, fun _ h => absurd h List.not_mem_nil⟩⟩⟩⟩⟩⟩⟩⟩⟩⟩⟩⟩⟩⟩⟩⟩⟩⟩⟩⟩⟩
theorem zn_9_RX6 : Cond.methodLinkNest RX6 9 yX5_init RX6 ∈ zNests := List.mem_of_getElem? (i := 0) (by decide +kernel)
theorem zn_18_RX6 : Cond.methodLinkNest RX6 18 yX2_init RX6 ∈ zNests := List.mem_of_getElem? (i := 1) (by decide +kernel)
theorem zn_35_RX6 : Cond.methodLinkNest RX6 35 yX0_init RX6 ∈ zNests := List.mem_of_getElem? (i := 2) (by decide +kernel)
theorem zn_24_RX1 : Cond.methodLinkNest RX1 24 yX6_hourNumber RX6 ∈ zNests := List.mem_of_getElem? (i := 3) (by decide +kernel)
theorem zn_36_RX5 : Cond.methodLinkNest RX5 36 yX6_hourNumber RX6 ∈ zNests := List.mem_of_getElem? (i := 4) (by decide +kernel)
theorem zn_48_RX1 : Cond.methodLinkNest RX1 48 yX6_between RX6 ∈ zNests := List.mem_of_getElem? (i := 5) (by decide +kernel)
theorem zn_37_RX2 : Cond.methodLinkNest RX2 37 yX6_between RX6 ∈ zNests := List.mem_of_getElem? (i := 6) (by decide +kernel)
theorem zn_24_RX0 : Cond.methodLinkNest RX0 24 yX6_cellNumber RX6 ∈ zNests := List.mem_of_getElem? (i := 7) (by decide +kernel)
theorem zn_29_RX5 : Cond.methodLinkNest RX5 29 yX6_cellNumber RX6 ∈ zNests := List.mem_of_getElem? (i := 8) (by decide +kernel)
theorem zn_82_RX3 : Cond.methodLinkNest RX3 82 yX6_cellNumber RX6 ∈ zNests := List.mem_of_getElem? (i := 9) (by decide +kernel)
theorem zc_X0_init : zcI yX0_init cX0_init 1 0 := ⟨zl_1_97, zl_1_96, zl_1_6, ⟨by decide +kernel, by decide +kernel, by decide +kernel⟩, by decide, rfl⟩
theorem zc_X0_forget : zcV yX0_forget cX0_forget 1 none 0 := ⟨zl_3_22, zl_3_20, zl_3_21, zl_1_6, ⟨by decide +kernel, by decide +kernel, by decide +kernel⟩, by decide⟩
theorem zc_X0_lower : zcV yX0_lower cX0_lower 6 none 3 := ⟨zl_3_38, zl_3_36, zl_3_37, zl_1_6, ⟨by decide +kernel, by decide +kernel, by decide +kernel⟩, by decide⟩
theorem zc_X0_depthIn : zcV yX0_depthIn cX0_depthIn 3 (some .int) 2 := ⟨zl_2_76, zl_2_74, zl_2_75, zl_1_6, ⟨by decide +kernel, by decide +kernel, by decide +kernel⟩, by decide⟩
theorem zc_X0_lacks : zcV yX0_lacks cX0_lacks 3 (some .boolean) 2 := ⟨zl_4_183, zl_4_181, zl_4_182, zl_1_6, ⟨by decide +kernel, by decide +kernel, by decide +kernel⟩, by decide⟩
theorem zc_X0_countDepths : zcV yX0_countDepths cX0_countDepths 3 (some .int) 0 := ⟨zl_1_165, zl_1_163, zl_1_164, zl_1_6, ⟨by decide +kernel, by decide +kernel, by decide +kernel⟩, by decide⟩
theorem zc_X0_sumOfDepths : zcV yX0_sumOfDepths cX0_sumOfDepths 4 (some .int) 0 := ⟨zl_5_15, zl_5_13, zl_5_14, zl_1_6, ⟨by decide +kernel, by decide +kernel, by decide +kernel⟩, by decide⟩
theorem zc_X0_emptyCell : zcV yX0_emptyCell cX0_emptyCell 4 (some .int) 1 := ⟨zl_4_166, zl_4_164, zl_4_165, zl_1_6, ⟨by decide +kernel, by decide +kernel, by decide +kernel⟩, by decide⟩
theorem zc_X1_init : zcI yX1_init cX1_init 2 1 := ⟨zl_3_135, zl_3_134, zl_1_22, ⟨by decide +kernel, by decide +kernel, by decide +kernel⟩, by decide, rfl⟩
theorem zc_X1_place : zcV yX1_place cX1_place 1 (some .int) 0 := ⟨zl_2_63, zl_2_61, zl_2_62, zl_1_22, ⟨by decide +kernel, by decide +kernel, by decide +kernel⟩, by decide⟩
theorem zc_X1_breakDown : zcV yX1_breakDown cX1_breakDown 5 none 3 := ⟨zl_3_179, zl_3_177, zl_3_178, zl_1_22, ⟨by decide +kernel, by decide +kernel, by decide +kernel⟩, by decide⟩
theorem zc_X1_repair : zcV yX1_repair cX1_repair 3 none 1 := ⟨zl_3_195, zl_3_193, zl_3_194, zl_1_22, ⟨by decide +kernel, by decide +kernel, by decide +kernel⟩, by decide⟩
theorem zc_X1_failedHours : zcV yX1_failedHours cX1_failedHours 4 (some .int) 1 := ⟨zl_3_184, zl_3_182, zl_3_183, zl_1_22, ⟨by decide +kernel, by decide +kernel, by decide +kernel⟩, by decide⟩
theorem zc_X1_tellsIn : zcV yX1_tellsIn cX1_tellsIn 8 (some .int) 3 := ⟨zl_2_33, zl_2_31, zl_2_32, zl_1_22, ⟨by decide +kernel, by decide +kernel, by decide +kernel⟩, by decide⟩
theorem zc_X1_workedBefore : zcV yX1_workedBefore cX1_workedBefore 4 (some .int) 2 := ⟨zl_2_50, zl_2_48, zl_p_8, zl_1_22, ⟨by decide +kernel, by decide +kernel, by decide +kernel⟩, by decide⟩
theorem zc_X1_workedBehind : zcV yX1_workedBehind cX1_workedBehind 4 (some .int) 2 := ⟨zl_2_54, zl_2_53, zl_p_9, zl_1_22, ⟨by decide +kernel, by decide +kernel, by decide +kernel⟩, by decide⟩
theorem zc_X2_init : zcI yX2_init cX2_init 1 0 := ⟨zl_1_80, zl_1_79, zl_1_5, ⟨by decide +kernel, by decide +kernel, by decide +kernel⟩, by decide, rfl⟩
theorem zc_X2_areFull : zcV yX2_areFull cX2_areFull 1 (some .boolean) 0 := ⟨zl_3_112, zl_3_110, zl_3_111, zl_1_5, ⟨by decide +kernel, by decide +kernel, by decide +kernel⟩, by decide⟩
theorem zc_X2_standIn : zcV yX2_standIn cX2_standIn 4 (some .boolean) 1 := ⟨zl_3_92, zl_3_90, zl_3_91, zl_1_5, ⟨by decide +kernel, by decide +kernel, by decide +kernel⟩, by decide⟩
theorem zc_X2_placeIn : zcV yX2_placeIn cX2_placeIn 3 (some .int) 1 := ⟨zl_3_132, zl_3_130, zl_3_131, zl_1_5, ⟨by decide +kernel, by decide +kernel, by decide +kernel⟩, by decide⟩
theorem zc_X2_gaugeOrNull : zcV yX2_gaugeOrNull cX2_gaugeOrNull 2 (some (.object "SwathSurvey$Gauge")) 1 := ⟨zl_2_29, zl_2_27, zl_2_28, zl_1_5, ⟨by decide +kernel, by decide +kernel, by decide +kernel⟩, by decide⟩
theorem zc_X2_tideIn : zcV yX2_tideIn cX2_tideIn 13 (some .int) 4 := ⟨zl_2_24, zl_2_22, zl_2_23, zl_1_5, ⟨by decide +kernel, by decide +kernel, by decide +kernel⟩, by decide⟩
theorem zc_X3_init : zcI yX3_init cX3_init 5 4 := ⟨zl_3_233, zl_3_232, zl_1_19, ⟨by decide +kernel, by decide +kernel, by decide +kernel⟩, by decide, rfl⟩
theorem zc_X3_ranOn : zcV yX3_ranOn cX3_ranOn 1 (some .int) 0 := ⟨zl_1_210, zl_1_208, zl_1_209, zl_1_19, ⟨by decide +kernel, by decide +kernel, by decide +kernel⟩, by decide⟩
theorem zc_X3_hoursBehind : zcV yX3_hoursBehind cX3_hoursBehind 1 (some .int) 0 := ⟨zl_1_225, zl_1_223, zl_1_224, zl_1_19, ⟨by decide +kernel, by decide +kernel, by decide +kernel⟩, by decide⟩
theorem zc_X3_isSoundedIn : zcV yX3_isSoundedIn cX3_isSoundedIn 4 (some .boolean) 3 := ⟨zl_4_35, zl_4_33, zl_4_34, zl_1_19, ⟨by decide +kernel, by decide +kernel, by decide +kernel⟩, by decide⟩
theorem zc_X3_soundAll : zcV yX3_soundAll cX3_soundAll 10 none 3 := ⟨zl_4_41, zl_4_39, zl_4_40, zl_1_19, ⟨by decide +kernel, by decide +kernel, by decide +kernel⟩, by decide⟩
theorem zc_X3_putError : zcV yX3_putError cX3_putError 4 (some .int) 3 := ⟨zl_4_84, zl_4_82, zl_4_83, zl_1_19, ⟨by decide +kernel, by decide +kernel, by decide +kernel⟩, by decide⟩
theorem zc_X3_reduceBy : zcV yX3_reduceBy cX3_reduceBy 7 none 2 := ⟨zl_2_7, zl_2_5, zl_2_6, zl_1_19, ⟨by decide +kernel, by decide +kernel, by decide +kernel⟩, by decide⟩
theorem zc_X3_drawOn : zcV yX3_drawOn cX3_drawOn 4 none 1 := ⟨zl_3_30, zl_3_28, zl_3_29, zl_1_19, ⟨by decide +kernel, by decide +kernel, by decide +kernel⟩, by decide⟩
theorem zc_X3_hasSounded : zcV yX3_hasSounded cX3_hasSounded 3 (some .boolean) 2 := ⟨zl_1_189, zl_1_187, zl_1_188, zl_1_19, ⟨by decide +kernel, by decide +kernel, by decide +kernel⟩, by decide⟩
theorem zc_X3_soundingAt : zcV yX3_soundingAt cX3_soundingAt 4 (some .int) 2 := ⟨zl_2_68, zl_2_66, zl_2_67, zl_1_19, ⟨by decide +kernel, by decide +kernel, by decide +kernel⟩, by decide⟩
theorem zc_X3_reducedAt : zcV yX3_reducedAt cX3_reducedAt 3 (some .int) 2 := ⟨zl_1_198, zl_1_196, zl_1_197, zl_1_19, ⟨by decide +kernel, by decide +kernel, by decide +kernel⟩, by decide⟩
theorem zc_X3_standsOut : zcV yX3_standsOut cX3_standsOut 6 (some .boolean) 2 := ⟨zl_2_107, zl_2_105, zl_2_106, zl_1_19, ⟨by decide +kernel, by decide +kernel, by decide +kernel⟩, by decide⟩
theorem zc_X3_countSounded : zcV yX3_countSounded cX3_countSounded 4 (some .int) 0 := ⟨zl_4_95, zl_4_93, zl_4_94, zl_1_19, ⟨by decide +kernel, by decide +kernel, by decide +kernel⟩, by decide⟩
theorem zc_X3_countSpikes : zcV yX3_countSpikes cX3_countSpikes 4 (some .int) 0 := ⟨zl_4_130, zl_4_128, zl_4_129, zl_1_19, ⟨by decide +kernel, by decide +kernel, by decide +kernel⟩, by decide⟩
theorem zc_X3_countLost : zcV yX3_countLost cX3_countLost 4 (some .int) 0 := ⟨zl_1_185, zl_1_183, zl_1_184, zl_1_19, ⟨by decide +kernel, by decide +kernel, by decide +kernel⟩, by decide⟩
theorem zc_X3_depthOver : zcV yX3_depthOver cX3_depthOver 5 (some .int) 2 := ⟨zl_2_88, zl_2_86, zl_2_87, zl_1_19, ⟨by decide +kernel, by decide +kernel, by decide +kernel⟩, by decide⟩
theorem zc_X3_meets : zcV yX3_meets cX3_meets 2 (some .boolean) 1 := ⟨zl_4_202, zl_4_200, zl_4_201, zl_1_19, ⟨by decide +kernel, by decide +kernel, by decide +kernel⟩, by decide⟩
theorem zc_X3_misfitTo : zcV yX3_misfitTo cX3_misfitTo 4 (some .int) 1 := ⟨zl_4_207, zl_4_205, zl_4_206, zl_1_19, ⟨by decide +kernel, by decide +kernel, by decide +kernel⟩, by decide⟩
theorem zc_X3_describeIn : zcV yX3_describeIn cX3_describeIn 3 none 1 := ⟨zl_6_39, zl_6_37, zl_6_38, zl_1_19, ⟨by decide +kernel, by decide +kernel, by decide +kernel⟩, by decide⟩
theorem zc_X3_isGood : zcV yX3_isGood cX3_isGood 3 (some .boolean) 2 := ⟨zl_2_103, zl_2_102, zl_p_12, zl_1_19, ⟨by decide +kernel, by decide +kernel, by decide +kernel⟩, by decide⟩
theorem zc_X3_isFar : zcS yX3_isFar cX3_isFar 2 (some .boolean) 2 := ⟨zl_2_110, zl_2_109, zl_1_19, ⟨by decide +kernel, by decide +kernel, by decide +kernel⟩, by decide⟩
theorem zc_X3_cellAt : zcV yX3_cellAt cX3_cellAt 3 (some .int) 1 := ⟨zl_2_92, zl_2_91, zl_p_11, zl_1_19, ⟨by decide +kernel, by decide +kernel, by decide +kernel⟩, by decide⟩
theorem zc_X3_placeOf : zcV yX3_placeOf cX3_placeOf 2 (some .int) 1 := ⟨zl_2_16, zl_2_15, zl_p_6, zl_1_19, ⟨by decide +kernel, by decide +kernel, by decide +kernel⟩, by decide⟩
theorem zc_X3_columnOf : zcV yX3_columnOf cX3_columnOf 3 (some .int) 2 := ⟨zl_2_12, zl_2_10, zl_p_5, zl_1_19, ⟨by decide +kernel, by decide +kernel, by decide +kernel⟩, by decide⟩
theorem zc_X3_rowOf : zcV yX3_rowOf cX3_rowOf 3 (some .int) 2 := ⟨zl_3_34, zl_3_33, zl_p_15, zl_1_19, ⟨by decide +kernel, by decide +kernel, by decide +kernel⟩, by decide⟩
theorem zc_X3_hourOf : zcV yX3_hourOf cX3_hourOf 2 (some .int) 1 := ⟨zl_2_20, zl_2_19, zl_p_7, zl_1_19, ⟨by decide +kernel, by decide +kernel, by decide +kernel⟩, by decide⟩
theorem zc_X3_slotOf : zcS yX3_slotOf cX3_slotOf 3 (some .int) 2 := ⟨zl_1_192, zl_1_191, zl_1_19, ⟨by decide +kernel, by decide +kernel, by decide +kernel⟩, by decide⟩
theorem zc_X4_init : zcI yX4_init cX4_init 3 2 := ⟨zl_1_50, zl_1_49, zl_1_3, ⟨by decide +kernel, by decide +kernel, by decide +kernel⟩, by decide, rfl⟩
theorem zc_X4_read : zcV yX4_read cX4_read 2 (some .int) 1 := ⟨zl_1_169, zl_1_167, zl_1_168, zl_1_3, ⟨by decide +kernel, by decide +kernel, by decide +kernel⟩, by decide⟩
theorem zc_X4_write : zcV yX4_write cX4_write 4 (some .int) 2 := ⟨zl_2_72, zl_2_70, zl_2_71, zl_1_3, ⟨by decide +kernel, by decide +kernel, by decide +kernel⟩, by decide⟩
theorem zc_X4_clear : zcV yX4_clear cX4_clear 1 none 0 := ⟨zl_3_26, zl_3_24, zl_3_25, zl_1_3, ⟨by decide +kernel, by decide +kernel, by decide +kernel⟩, by decide⟩
theorem zc_X5_init : zcI yX5_init cX5_init 1 0 := ⟨zl_1_44, zl_1_43, zl_1_2, ⟨by decide +kernel, by decide +kernel, by decide +kernel⟩, by decide, rfl⟩
theorem zc_X5_putFloor : zcV yX5_putFloor cX5_putFloor 4 (some .int) 3 := ⟨zl_2_235, zl_2_233, zl_2_234, zl_1_2, ⟨by decide +kernel, by decide +kernel, by decide +kernel⟩, by decide⟩
theorem zc_X5_putHeight : zcV yX5_putHeight cX5_putHeight 4 (some .int) 3 := ⟨zl_3_14, zl_3_12, zl_3_13, zl_1_2, ⟨by decide +kernel, by decide +kernel, by decide +kernel⟩, by decide⟩
theorem zc_X5_putSlope : zcV yX5_putSlope cX5_putSlope 3 (some .int) 2 := ⟨zl_3_55, zl_3_53, zl_3_54, zl_1_2, ⟨by decide +kernel, by decide +kernel, by decide +kernel⟩, by decide⟩
theorem zc_X5_putForce : zcV yX5_putForce cX5_putForce 3 (some .int) 2 := ⟨zl_3_79, zl_3_77, zl_3_78, zl_1_2, ⟨by decide +kernel, by decide +kernel, by decide +kernel⟩, by decide⟩
theorem zc_X5_floorIn : zcV yX5_floorIn cX5_floorIn 3 (some .int) 2 := ⟨zl_4_51, zl_4_49, zl_4_50, zl_1_2, ⟨by decide +kernel, by decide +kernel, by decide +kernel⟩, by decide⟩
theorem zc_X5_waterIn : zcV yX5_waterIn cX5_waterIn 4 (some .int) 3 := ⟨zl_2_41, zl_2_39, zl_2_40, zl_1_2, ⟨by decide +kernel, by decide +kernel, by decide +kernel⟩, by decide⟩
theorem zc_X5_isRough : zcV yX5_isRough cX5_isRough 2 (some .boolean) 1 := ⟨zl_1_229, zl_1_227, zl_1_228, zl_1_2, ⟨by decide +kernel, by decide +kernel, by decide +kernel⟩, by decide⟩
theorem zc_X5_reachFrom : zcV yX5_reachFrom cX5_reachFrom 3 (some .int) 2 := ⟨zl_4_47, zl_4_45, zl_4_46, zl_1_2, ⟨by decide +kernel, by decide +kernel, by decide +kernel⟩, by decide⟩
theorem zc_X6_init : zcI yX6_init cX6_init 1 0 := ⟨zl_1_36, zl_1_35, zl_1_1, ⟨by decide +kernel, by decide +kernel, by decide +kernel⟩, by decide, rfl⟩
theorem zc_X6_setFloor : zcV yX6_setFloor cX6_setFloor 4 (some .int) 3 := ⟨zl_2_198, zl_2_196, zl_2_197, zl_1_1, ⟨by decide +kernel, by decide +kernel, by decide +kernel⟩, by decide⟩
theorem zc_X6_setWater : zcV yX6_setWater cX6_setWater 5 (some .int) 3 := ⟨zl_3_4, zl_3_2, zl_3_3, zl_1_1, ⟨by decide +kernel, by decide +kernel, by decide +kernel⟩, by decide⟩
theorem zc_X6_setSlope : zcV yX6_setSlope cX6_setSlope 4 (some .int) 2 := ⟨zl_3_46, zl_3_44, zl_3_45, zl_1_1, ⟨by decide +kernel, by decide +kernel, by decide +kernel⟩, by decide⟩
theorem zc_X6_waterAt : zcV yX6_waterAt cX6_waterAt 4 (some .int) 3 := ⟨zl_3_62, zl_3_60, zl_3_61, zl_1_1, ⟨by decide +kernel, by decide +kernel, by decide +kernel⟩, by decide⟩
theorem zc_X6_setWeather : zcV yX6_setWeather cX6_setWeather 3 (some .int) 2 := ⟨zl_3_74, zl_3_72, zl_3_73, zl_1_1, ⟨by decide +kernel, by decide +kernel, by decide +kernel⟩, by decide⟩
theorem zc_X6_addGauge : zcV yX6_addGauge cX6_addGauge 3 (some .int) 1 := ⟨zl_3_88, zl_3_86, zl_3_87, zl_1_1, ⟨by decide +kernel, by decide +kernel, by decide +kernel⟩, by decide⟩
theorem zc_X6_fail : zcV yX6_fail cX6_fail 6 (some .int) 4 := ⟨zl_3_153, zl_3_151, zl_3_152, zl_1_1, ⟨by decide +kernel, by decide +kernel, by decide +kernel⟩, by decide⟩
theorem zc_X6_mend : zcV yX6_mend cX6_mend 5 (some .int) 2 := ⟨zl_3_191, zl_3_189, zl_3_190, zl_1_1, ⟨by decide +kernel, by decide +kernel, by decide +kernel⟩, by decide⟩
theorem zc_X6_told : zcV yX6_told cX6_told 6 (some .int) 3 := ⟨zl_3_202, zl_3_200, zl_3_201, zl_1_1, ⟨by decide +kernel, by decide +kernel, by decide +kernel⟩, by decide⟩
theorem zc_X6_tide : zcV yX6_tide cX6_tide 5 (some .int) 3 := ⟨zl_3_211, zl_3_209, zl_3_210, zl_1_1, ⟨by decide +kernel, by decide +kernel, by decide +kernel⟩, by decide⟩
theorem zc_X6_run : zcV yX6_run cX6_run 10 (some .int) 6 := ⟨zl_3_220, zl_3_218, zl_3_219, zl_1_1, ⟨by decide +kernel, by decide +kernel, by decide +kernel⟩, by decide⟩
theorem zc_X6_runAnew : zcV yX6_runAnew cX6_runAnew 5 (some .int) 3 := ⟨zl_4_61, zl_4_59, zl_4_60, zl_1_1, ⟨by decide +kernel, by decide +kernel, by decide +kernel⟩, by decide⟩
theorem zc_X6_disturb : zcV yX6_disturb cX6_disturb 7 (some .int) 4 := ⟨zl_4_73, zl_4_71, zl_4_72, zl_1_1, ⟨by decide +kernel, by decide +kernel, by decide +kernel⟩, by decide⟩
theorem zc_X6_soundings : zcV yX6_soundings cX6_soundings 2 (some .int) 1 := ⟨zl_4_91, zl_4_89, zl_4_90, zl_1_1, ⟨by decide +kernel, by decide +kernel, by decide +kernel⟩, by decide⟩
theorem zc_X6_sounding : zcV yX6_sounding cX6_sounding 4 (some .int) 3 := ⟨zl_4_102, zl_4_100, zl_4_101, zl_1_1, ⟨by decide +kernel, by decide +kernel, by decide +kernel⟩, by decide⟩
theorem zc_X6_reduced : zcV yX6_reduced cX6_reduced 5 (some .int) 3 := ⟨zl_4_110, zl_4_108, zl_4_109, zl_1_1, ⟨by decide +kernel, by decide +kernel, by decide +kernel⟩, by decide⟩
theorem zc_X6_isSpike : zcV yX6_isSpike cX6_isSpike 4 (some .boolean) 3 := ⟨zl_4_118, zl_4_116, zl_4_117, zl_1_1, ⟨by decide +kernel, by decide +kernel, by decide +kernel⟩, by decide⟩
theorem zc_X6_spikes : zcV yX6_spikes cX6_spikes 2 (some .int) 1 := ⟨zl_4_126, zl_4_124, zl_4_125, zl_1_1, ⟨by decide +kernel, by decide +kernel, by decide +kernel⟩, by decide⟩
theorem zc_X6_lost : zcV yX6_lost cX6_lost 2 (some .int) 1 := ⟨zl_4_137, zl_4_135, zl_4_136, zl_1_1, ⟨by decide +kernel, by decide +kernel, by decide +kernel⟩, by decide⟩
theorem zc_X6_depth : zcV yX6_depth cX6_depth 3 (some .int) 2 := ⟨zl_4_144, zl_4_142, zl_4_143, zl_1_1, ⟨by decide +kernel, by decide +kernel, by decide +kernel⟩, by decide⟩
theorem zc_X6_depthAnew : zcV yX6_depthAnew cX6_depthAnew 3 (some .int) 2 := ⟨zl_4_155, zl_4_153, zl_4_154, zl_1_1, ⟨by decide +kernel, by decide +kernel, by decide +kernel⟩, by decide⟩
theorem zc_X6_charted : zcV yX6_charted cX6_charted 1 (some .int) 0 := ⟨zl_1_161, zl_1_159, zl_1_160, zl_1_1, ⟨by decide +kernel, by decide +kernel, by decide +kernel⟩, by decide⟩
theorem zc_X6_gap : zcV yX6_gap cX6_gap 3 (some .int) 1 := ⟨zl_4_162, zl_4_160, zl_4_161, zl_1_1, ⟨by decide +kernel, by decide +kernel, by decide +kernel⟩, by decide⟩
theorem zc_X6_bestRow : zcV yX6_bestRow cX6_bestRow 5 (some .int) 0 := ⟨zl_4_173, zl_4_171, zl_4_172, zl_1_1, ⟨by decide +kernel, by decide +kernel, by decide +kernel⟩, by decide⟩
theorem zc_X6_lines : zcV yX6_lines cX6_lines 1 (some .int) 0 := ⟨zl_1_173, zl_1_171, zl_1_172, zl_1_1, ⟨by decide +kernel, by decide +kernel, by decide +kernel⟩, by decide⟩
theorem zc_X6_dayOf : zcV yX6_dayOf cX6_dayOf 2 (some .int) 1 := ⟨zl_4_191, zl_4_189, zl_4_190, zl_1_1, ⟨by decide +kernel, by decide +kernel, by decide +kernel⟩, by decide⟩
theorem zc_X6_toRun : zcV yX6_toRun cX6_toRun 4 (some .int) 0 := ⟨zl_1_177, zl_1_175, zl_1_176, zl_1_1, ⟨by decide +kernel, by decide +kernel, by decide +kernel⟩, by decide⟩
theorem zc_X6_cross : zcV yX6_cross cX6_cross 6 (some .int) 2 := ⟨zl_4_198, zl_4_196, zl_4_197, zl_1_1, ⟨by decide +kernel, by decide +kernel, by decide +kernel⟩, by decide⟩
theorem zc_X6_worstCross : zcV yX6_worstCross cX6_worstCross 4 (some .int) 0 := ⟨zl_4_215, zl_4_213, zl_4_214, zl_1_1, ⟨by decide +kernel, by decide +kernel, by decide +kernel⟩, by decide⟩
theorem zc_X6_hours : zcV yX6_hours cX6_hours 2 (some .int) 1 := ⟨zl_4_227, zl_4_225, zl_4_226, zl_1_1, ⟨by decide +kernel, by decide +kernel, by decide +kernel⟩, by decide⟩
theorem zc_X6_hire : zcV yX6_hire cX6_hire 5 (some .long) 0 := ⟨zl_1_202, zl_1_200, zl_1_201, zl_1_1, ⟨by decide +kernel, by decide +kernel, by decide +kernel⟩, by decide⟩
theorem zc_X6_chartedShare : zcV yX6_chartedShare cX6_chartedShare 1 (some .float) 0 := ⟨zl_1_234, zl_1_232, zl_1_233, zl_1_1, ⟨by decide +kernel, by decide +kernel, by decide +kernel⟩, by decide⟩
theorem zc_X6_meanDepth : zcV yX6_meanDepth cX6_meanDepth 2 (some .double) 0 := ⟨zl_5_8, zl_5_6, zl_5_7, zl_1_1, ⟨by decide +kernel, by decide +kernel, by decide +kernel⟩, by decide⟩
theorem zc_X6_writeLine : zcV yX6_writeLine cX6_writeLine 3 (some .int) 1 := ⟨zl_5_22, zl_5_20, zl_5_21, zl_1_1, ⟨by decide +kernel, by decide +kernel, by decide +kernel⟩, by decide⟩
theorem zc_X6_textAt : zcV yX6_textAt cX6_textAt 2 (some .char) 1 := ⟨zl_6_76, zl_6_74, zl_6_75, zl_1_1, ⟨by decide +kernel, by decide +kernel, by decide +kernel⟩, by decide⟩
theorem zc_X6_isSure : zcV yX6_isSure cX6_isSure 3 (some .boolean) 0 := ⟨zl_1_239, zl_1_237, zl_1_238, zl_1_1, ⟨by decide +kernel, by decide +kernel, by decide +kernel⟩, by decide⟩
theorem zc_X6_requireCell : zcS yX6_requireCell cX6_requireCell 2 none 2 := ⟨zl_2_201, zl_2_200, zl_1_1, ⟨by decide +kernel, by decide +kernel, by decide +kernel⟩, by decide⟩
theorem zc_X6_requireColumn : zcS yX6_requireColumn cX6_requireColumn 1 none 1 := ⟨zl_3_65, zl_3_64, zl_1_1, ⟨by decide +kernel, by decide +kernel, by decide +kernel⟩, by decide⟩
theorem zc_X6_requireDay : zcS yX6_requireDay cX6_requireDay 1 none 1 := ⟨zl_3_49, zl_3_48, zl_1_1, ⟨by decide +kernel, by decide +kernel, by decide +kernel⟩, by decide⟩
theorem zc_X6_requireHour : zcS yX6_requireHour cX6_requireHour 2 none 2 := ⟨zl_3_7, zl_3_6, zl_1_1, ⟨by decide +kernel, by decide +kernel, by decide +kernel⟩, by decide⟩
theorem zc_X6_requireWay : zcS yX6_requireWay cX6_requireWay 5 none 4 := ⟨zl_3_224, zl_3_223, zl_1_1, ⟨by decide +kernel, by decide +kernel, by decide +kernel⟩, by decide⟩
theorem zc_X6_requireCalm : zcV yX6_requireCalm cX6_requireCalm 2 none 1 := ⟨zl_3_229, zl_3_228, zl_p_17, zl_1_1, ⟨by decide +kernel, by decide +kernel, by decide +kernel⟩, by decide⟩
theorem zc_X6_requireDepth : zcS yX6_requireDepth cX6_requireDepth 1 (some .int) 1 := ⟨zl_4_147, zl_4_146, zl_1_1, ⟨by decide +kernel, by decide +kernel, by decide +kernel⟩, by decide⟩
theorem zc_X6_requireGauge : zcV yX6_requireGauge cX6_requireGauge 3 (some (.object "SwathSurvey$Gauge")) 1 := ⟨zl_3_157, zl_3_156, zl_p_16, zl_1_1, ⟨by decide +kernel, by decide +kernel, by decide +kernel⟩, by decide⟩
theorem zc_X6_requireLine : zcV yX6_requireLine cX6_requireLine 3 (some (.object "SwathSurvey$Line")) 1 := ⟨zl_4_65, zl_4_64, zl_p_19, zl_1_1, ⟨by decide +kernel, by decide +kernel, by decide +kernel⟩, by decide⟩
theorem zc_X6_requireSounded : zcV yX6_requireSounded cX6_requireSounded 5 (some (.object "SwathSurvey$Line")) 3 := ⟨zl_4_77, zl_4_76, zl_p_20, zl_1_1, ⟨by decide +kernel, by decide +kernel, by decide +kernel⟩, by decide⟩
theorem zc_X6_cellNumber : zcS yX6_cellNumber cX6_cellNumber 3 (some .int) 2 := ⟨zl_2_79, zl_2_78, zl_1_1, ⟨by decide +kernel, by decide +kernel, by decide +kernel⟩, by decide⟩
theorem zc_X6_hourNumber : zcS yX6_hourNumber cX6_hourNumber 3 (some .int) 2 := ⟨zl_2_36, zl_2_35, zl_1_1, ⟨by decide +kernel, by decide +kernel, by decide +kernel⟩, by decide⟩
theorem zc_X6_between : zcS yX6_between cX6_between 4 (some .int) 4 := ⟨zl_2_58, zl_2_57, zl_1_1, ⟨by decide +kernel, by decide +kernel, by decide +kernel⟩, by decide⟩
theorem zc_X6_lineOrNull : zcV yX6_lineOrNull cX6_lineOrNull 2 (some (.object "SwathSurvey$Line")) 1 := ⟨zl_1_181, zl_1_180, zl_p_0, zl_1_1, ⟨by decide +kernel, by decide +kernel, by decide +kernel⟩, by decide⟩
theorem zc_X6_refresh : zcV yX6_refresh cX6_refresh 3 none 0 := ⟨zl_3_18, zl_3_17, zl_p_14, zl_1_1, ⟨by decide +kernel, by decide +kernel, by decide +kernel⟩, by decide⟩
theorem zc_X6_reduceLines : zcV yX6_reduceLines cX6_reduceLines 3 none 0 := ⟨zl_2_3, zl_2_2, zl_p_4, zl_1_1, ⟨by decide +kernel, by decide +kernel, by decide +kernel⟩, by decide⟩
theorem zc_X6_leastDepth : zcV yX6_leastDepth cX6_leastDepth 7 (some .int) 2 := ⟨zl_2_83, zl_2_82, zl_p_10, zl_1_1, ⟨by decide +kernel, by decide +kernel, by decide +kernel⟩, by decide⟩
theorem zc_X6_gainOfRow : zcV yX6_gainOfRow cX6_gainOfRow 6 (some .int) 1 := ⟨zl_4_178, zl_4_177, zl_p_21, zl_1_1, ⟨by decide +kernel, by decide +kernel, by decide +kernel⟩, by decide⟩
theorem zc_X6_isFree : zcV yX6_isFree cX6_isFree 7 (some .boolean) 3 := ⟨zl_4_31, zl_4_30, zl_p_18, zl_1_1, ⟨by decide +kernel, by decide +kernel, by decide +kernel⟩, by decide⟩
theorem zc_X6_misfit : zcS yX6_misfit cX6_misfit 3 (some .int) 2 := ⟨zl_4_218, zl_4_217, zl_1_1, ⟨by decide +kernel, by decide +kernel, by decide +kernel⟩, by decide⟩
theorem zc_X6_hoursOn : zcV yX6_hoursOn cX6_hoursOn 5 (some .int) 1 := ⟨zl_1_221, zl_1_220, zl_p_3, zl_1_1, ⟨by decide +kernel, by decide +kernel, by decide +kernel⟩, by decide⟩
theorem zc_X6_lastDay : zcV yX6_lastDay cX6_lastDay 4 (some .int) 0 := ⟨zl_1_206, zl_1_205, zl_p_1, zl_1_1, ⟨by decide +kernel, by decide +kernel, by decide +kernel⟩, by decide⟩
theorem zc_X6_costOf : zcV yX6_costOf cX6_costOf 3 (some .int) 1 := ⟨zl_1_217, zl_1_216, zl_p_2, zl_1_1, ⟨by decide +kernel, by decide +kernel, by decide +kernel⟩, by decide⟩
theorem zc_X7_init : zcI yX7_init cX7_init 2 0 := ⟨zl_6_92, zl_6_91, zl_1_11, ⟨by decide +kernel, by decide +kernel, by decide +kernel⟩, by decide, rfl⟩
theorem zc_X7_thrown : zcV yX7_thrown cX7_thrown 1 (some .int) 0 := ⟨zl_6_163, zl_6_161, zl_6_162, zl_1_11, ⟨by decide +kernel, by decide +kernel, by decide +kernel⟩, by decide⟩
theorem zc_X7_refuse : zcV yX7_refuse cX7_refuse 2 (some .int) 1 := ⟨zl_6_178, zl_6_177, zl_p_23, zl_1_11, ⟨by decide +kernel, by decide +kernel, by decide +kernel⟩, by decide⟩
theorem zc_X7_isIn : zcS yX7_isIn cX7_isIn 3 (some .boolean) 3 := ⟨zl_6_174, zl_6_173, zl_1_11, ⟨by decide +kernel, by decide +kernel, by decide +kernel⟩, by decide⟩
theorem zc_X7_down : zcS yX7_down cX7_down 3 (some .int) 2 := ⟨zl_6_205, zl_6_204, zl_1_11, ⟨by decide +kernel, by decide +kernel, by decide +kernel⟩, by decide⟩
theorem zc_X7_noCell : zcV yX7_noCell cX7_noCell 3 (some .boolean) 2 := ⟨zl_6_171, zl_6_170, zl_p_22, zl_1_11, ⟨by decide +kernel, by decide +kernel, by decide +kernel⟩, by decide⟩
theorem zc_X7_noHour : zcV yX7_noHour cX7_noHour 3 (some .boolean) 2 := ⟨zl_6_186, zl_6_185, zl_p_24, zl_1_11, ⟨by decide +kernel, by decide +kernel, by decide +kernel⟩, by decide⟩
theorem zc_X7_noDay : zcV yX7_noDay cX7_noDay 2 (some .boolean) 1 := ⟨zl_6_194, zl_6_193, zl_p_25, zl_1_11, ⟨by decide +kernel, by decide +kernel, by decide +kernel⟩, by decide⟩
theorem zc_X7_setFloor : zcV yX7_setFloor cX7_setFloor 5 (some .int) 3 := ⟨zl_6_167, zl_6_165, zl_6_166, zl_1_11, ⟨by decide +kernel, by decide +kernel, by decide +kernel⟩, by decide⟩
theorem zc_X7_setWater : zcV yX7_setWater cX7_setWater 5 (some .int) 3 := ⟨zl_6_182, zl_6_180, zl_6_181, zl_1_11, ⟨by decide +kernel, by decide +kernel, by decide +kernel⟩, by decide⟩
theorem zc_X7_setSlope : zcV yX7_setSlope cX7_setSlope 4 (some .int) 2 := ⟨zl_6_190, zl_6_188, zl_6_189, zl_1_11, ⟨by decide +kernel, by decide +kernel, by decide +kernel⟩, by decide⟩
theorem zc_X7_water : zcV yX7_water cX7_water 4 (some .int) 3 := ⟨zl_6_202, zl_6_201, zl_p_26, zl_1_11, ⟨by decide +kernel, by decide +kernel, by decide +kernel⟩, by decide⟩
theorem zc_X7_waterAt : zcV yX7_waterAt cX7_waterAt 4 (some .int) 3 := ⟨zl_6_198, zl_6_196, zl_6_197, zl_1_11, ⟨by decide +kernel, by decide +kernel, by decide +kernel⟩, by decide⟩
theorem zc_X7_setWeather : zcV yX7_setWeather cX7_setWeather 4 (some .int) 2 := ⟨zl_6_209, zl_6_207, zl_6_208, zl_1_11, ⟨by decide +kernel, by decide +kernel, by decide +kernel⟩, by decide⟩
theorem zc_X7_addGauge : zcV yX7_addGauge cX7_addGauge 3 (some .int) 1 := ⟨zl_6_213, zl_6_211, zl_6_212, zl_1_11, ⟨by decide +kernel, by decide +kernel, by decide +kernel⟩, by decide⟩
theorem zc_X7_noGauge : zcV yX7_noGauge cX7_noGauge 4 (some .boolean) 3 := ⟨zl_6_221, zl_6_220, zl_p_27, zl_1_11, ⟨by decide +kernel, by decide +kernel, by decide +kernel⟩, by decide⟩
theorem zc_X7_fail : zcV yX7_fail cX7_fail 6 (some .int) 4 := ⟨zl_6_217, zl_6_215, zl_6_216, zl_1_11, ⟨by decide +kernel, by decide +kernel, by decide +kernel⟩, by decide⟩
theorem zc_X7_failures : zcV yX7_failures cX7_failures 5 (some .int) 2 := ⟨zl_6_225, zl_6_224, zl_p_28, zl_1_11, ⟨by decide +kernel, by decide +kernel, by decide +kernel⟩, by decide⟩
theorem zc_X7_mend : zcV yX7_mend cX7_mend 5 (some .int) 2 := ⟨zl_6_229, zl_6_227, zl_6_228, zl_1_11, ⟨by decide +kernel, by decide +kernel, by decide +kernel⟩, by decide⟩
theorem zc_X7_tells : zcV yX7_tells cX7_tells 9 (some .int) 3 := ⟨zl_6_237, zl_6_236, zl_p_29, zl_1_11, ⟨by decide +kernel, by decide +kernel, by decide +kernel⟩, by decide⟩
theorem zc_X7_told : zcV yX7_told cX7_told 5 (some .int) 3 := ⟨zl_6_233, zl_6_231, zl_6_232, zl_1_11, ⟨by decide +kernel, by decide +kernel, by decide +kernel⟩, by decide⟩
theorem zc_X7_tideIn : zcV yX7_tideIn cX7_tideIn 8 (some .int) 3 := ⟨zl_7_6, zl_7_5, zl_p_30, zl_1_11, ⟨by decide +kernel, by decide +kernel, by decide +kernel⟩, by decide⟩
theorem zc_X7_tide : zcV yX7_tide cX7_tide 5 (some .int) 3 := ⟨zl_7_2, zl_7_0, zl_7_1, zl_1_11, ⟨by decide +kernel, by decide +kernel, by decide +kernel⟩, by decide⟩
theorem zc_X7_size : zcV yX7_size cX7_size 2 (some .int) 1 := ⟨zl_7_21, zl_7_20, zl_p_32, zl_1_11, ⟨by decide +kernel, by decide +kernel, by decide +kernel⟩, by decide⟩
theorem zc_X7_last : zcS yX7_last cX7_last 2 (some .int) 2 := ⟨zl_7_13, zl_7_12, zl_1_11, ⟨by decide +kernel, by decide +kernel, by decide +kernel⟩, by decide⟩
theorem zc_X7_isBusy : zcV yX7_isBusy cX7_isBusy 6 (some .boolean) 4 := ⟨zl_7_17, zl_7_16, zl_p_31, zl_1_11, ⟨by decide +kernel, by decide +kernel, by decide +kernel⟩, by decide⟩
theorem zc_X7_place : zcV yX7_place cX7_place 4 (some .int) 3 := ⟨zl_7_29, zl_7_28, zl_p_34, zl_1_11, ⟨by decide +kernel, by decide +kernel, by decide +kernel⟩, by decide⟩
theorem zc_X7_along : zcV yX7_along cX7_along 3 (some .int) 2 := ⟨zl_7_41, zl_7_40, zl_p_37, zl_1_11, ⟨by decide +kernel, by decide +kernel, by decide +kernel⟩, by decide⟩
theorem zc_X7_columnOf : zcV yX7_columnOf cX7_columnOf 4 (some .int) 3 := ⟨zl_7_37, zl_7_36, zl_p_36, zl_1_11, ⟨by decide +kernel, by decide +kernel, by decide +kernel⟩, by decide⟩
theorem zc_X7_rowOf : zcV yX7_rowOf cX7_rowOf 4 (some .int) 3 := ⟨zl_7_45, zl_7_44, zl_p_38, zl_1_11, ⟨by decide +kernel, by decide +kernel, by decide +kernel⟩, by decide⟩
theorem zc_X7_isOn : zcV yX7_isOn cX7_isOn 4 (some .boolean) 3 := ⟨zl_7_33, zl_7_32, zl_p_35, zl_1_11, ⟨by decide +kernel, by decide +kernel, by decide +kernel⟩, by decide⟩
theorem zc_X7_cellOf : zcV yX7_cellOf cX7_cellOf 4 (some .int) 3 := ⟨zl_7_49, zl_7_48, zl_p_39, zl_1_11, ⟨by decide +kernel, by decide +kernel, by decide +kernel⟩, by decide⟩
theorem zc_X7_reach : zcS yX7_reach cX7_reach 1 (some .int) 1 := ⟨zl_7_52, zl_7_51, zl_1_11, ⟨by decide +kernel, by decide +kernel, by decide +kernel⟩, by decide⟩
theorem zc_X7_sounds : zcV yX7_sounds cX7_sounds 6 none 1 := ⟨zl_7_25, zl_7_24, zl_p_33, zl_1_11, ⟨by decide +kernel, by decide +kernel, by decide +kernel⟩, by decide⟩
theorem zc_X7_run : zcV yX7_run cX7_run 10 (some .int) 6 := ⟨zl_7_10, zl_7_8, zl_7_9, zl_1_11, ⟨by decide +kernel, by decide +kernel, by decide +kernel⟩, by decide⟩
theorem zc_X7_noLine : zcV yX7_noLine cX7_noLine 2 (some .boolean) 1 := ⟨zl_7_60, zl_7_59, zl_p_40, zl_1_11, ⟨by decide +kernel, by decide +kernel, by decide +kernel⟩, by decide⟩
theorem zc_X7_runAnew : zcV yX7_runAnew cX7_runAnew 4 (some .int) 3 := ⟨zl_7_56, zl_7_54, zl_7_55, zl_1_11, ⟨by decide +kernel, by decide +kernel, by decide +kernel⟩, by decide⟩
theorem zc_X7_found : zcV yX7_found cX7_found 5 (some .int) 3 := ⟨zl_7_87, zl_7_86, zl_p_44, zl_1_11, ⟨by decide +kernel, by decide +kernel, by decide +kernel⟩, by decide⟩
theorem zc_X7_disturb : zcV yX7_disturb cX7_disturb 7 (some .int) 4 := ⟨zl_7_83, zl_7_81, zl_7_82, zl_1_11, ⟨by decide +kernel, by decide +kernel, by decide +kernel⟩, by decide⟩
theorem zc_X7_soundings : zcV yX7_soundings cX7_soundings 4 (some .int) 1 := ⟨zl_7_91, zl_7_89, zl_7_90, zl_1_11, ⟨by decide +kernel, by decide +kernel, by decide +kernel⟩, by decide⟩
theorem zc_X7_sounding : zcV yX7_sounding cX7_sounding 5 (some .int) 3 := ⟨zl_7_95, zl_7_93, zl_7_94, zl_1_11, ⟨by decide +kernel, by decide +kernel, by decide +kernel⟩, by decide⟩
theorem zc_X7_reduces : zcV yX7_reduces cX7_reduces 5 (some .int) 3 := ⟨zl_7_72, zl_7_71, zl_p_42, zl_1_11, ⟨by decide +kernel, by decide +kernel, by decide +kernel⟩, by decide⟩
theorem zc_X7_reduced : zcV yX7_reduced cX7_reduced 5 (some .int) 3 := ⟨zl_7_99, zl_7_97, zl_7_98, zl_1_11, ⟨by decide +kernel, by decide +kernel, by decide +kernel⟩, by decide⟩
theorem zc_X7_isFar : zcS yX7_isFar cX7_isFar 2 (some .boolean) 2 := ⟨zl_7_79, zl_7_78, zl_1_11, ⟨by decide +kernel, by decide +kernel, by decide +kernel⟩, by decide⟩
theorem zc_X7_spike : zcV yX7_spike cX7_spike 7 (some .boolean) 3 := ⟨zl_7_76, zl_7_75, zl_p_43, zl_1_11, ⟨by decide +kernel, by decide +kernel, by decide +kernel⟩, by decide⟩
theorem zc_X7_isSpike : zcV yX7_isSpike cX7_isSpike 4 (some .boolean) 3 := ⟨zl_7_103, zl_7_101, zl_7_102, zl_1_11, ⟨by decide +kernel, by decide +kernel, by decide +kernel⟩, by decide⟩
theorem zc_X7_spikes : zcV yX7_spikes cX7_spikes 5 (some .int) 1 := ⟨zl_7_107, zl_7_105, zl_7_106, zl_1_11, ⟨by decide +kernel, by decide +kernel, by decide +kernel⟩, by decide⟩
theorem zc_X7_lostOf : zcV yX7_lostOf cX7_lostOf 5 (some .int) 1 := ⟨zl_7_115, zl_7_114, zl_p_45, zl_1_11, ⟨by decide +kernel, by decide +kernel, by decide +kernel⟩, by decide⟩
theorem zc_X7_lost : zcV yX7_lost cX7_lost 2 (some .int) 1 := ⟨zl_7_111, zl_7_109, zl_7_110, zl_1_11, ⟨by decide +kernel, by decide +kernel, by decide +kernel⟩, by decide⟩
theorem zc_X7_charts : zcV yX7_charts cX7_charts 6 none 0 := ⟨zl_7_68, zl_7_67, zl_p_41, zl_1_11, ⟨by decide +kernel, by decide +kernel, by decide +kernel⟩, by decide⟩
theorem zc_X7_depth : zcV yX7_depth cX7_depth 3 (some .int) 2 := ⟨zl_7_119, zl_7_117, zl_7_118, zl_1_11, ⟨by decide +kernel, by decide +kernel, by decide +kernel⟩, by decide⟩
theorem zc_X7_depthAnew : zcV yX7_depthAnew cX7_depthAnew 3 (some .int) 2 := ⟨zl_7_123, zl_7_121, zl_7_122, zl_1_11, ⟨by decide +kernel, by decide +kernel, by decide +kernel⟩, by decide⟩
theorem zc_X7_charted : zcV yX7_charted cX7_charted 3 (some .int) 0 := ⟨zl_7_64, zl_7_62, zl_7_63, zl_1_11, ⟨by decide +kernel, by decide +kernel, by decide +kernel⟩, by decide⟩
theorem zc_X7_gap : zcV yX7_gap cX7_gap 4 (some .int) 1 := ⟨zl_7_129, zl_7_127, zl_7_128, zl_1_11, ⟨by decide +kernel, by decide +kernel, by decide +kernel⟩, by decide⟩
theorem zc_X7_gains : zcV yX7_gains cX7_gains 7 (some .int) 1 := ⟨zl_7_137, zl_7_136, zl_p_46, zl_1_11, ⟨by decide +kernel, by decide +kernel, by decide +kernel⟩, by decide⟩
theorem zc_X7_bestRow : zcV yX7_bestRow cX7_bestRow 3 (some .int) 0 := ⟨zl_7_133, zl_7_131, zl_7_132, zl_1_11, ⟨by decide +kernel, by decide +kernel, by decide +kernel⟩, by decide⟩
theorem zc_X7_lines : zcV yX7_lines cX7_lines 1 (some .int) 0 := ⟨zl_7_141, zl_7_139, zl_7_140, zl_1_11, ⟨by decide +kernel, by decide +kernel, by decide +kernel⟩, by decide⟩
theorem zc_X7_dayOf : zcV yX7_dayOf cX7_dayOf 2 (some .int) 1 := ⟨zl_7_145, zl_7_143, zl_7_144, zl_1_11, ⟨by decide +kernel, by decide +kernel, by decide +kernel⟩, by decide⟩
theorem zc_X7_toRun : zcV yX7_toRun cX7_toRun 3 (some .int) 0 := ⟨zl_7_149, zl_7_147, zl_7_148, zl_1_11, ⟨by decide +kernel, by decide +kernel, by decide +kernel⟩, by decide⟩
theorem zc_X7_cellAt : zcV yX7_cellAt cX7_cellAt 4 (some .int) 2 := ⟨zl_7_161, zl_7_160, zl_p_48, zl_1_11, ⟨by decide +kernel, by decide +kernel, by decide +kernel⟩, by decide⟩
theorem zc_X7_isCrossing : zcV yX7_isCrossing cX7_isCrossing 3 (some .boolean) 2 := ⟨zl_7_157, zl_7_156, zl_p_47, zl_1_11, ⟨by decide +kernel, by decide +kernel, by decide +kernel⟩, by decide⟩
theorem zc_X7_own : zcV yX7_own cX7_own 3 (some .int) 2 := ⟨zl_7_165, zl_7_164, zl_p_49, zl_1_11, ⟨by decide +kernel, by decide +kernel, by decide +kernel⟩, by decide⟩
theorem zc_X7_cross : zcV yX7_cross cX7_cross 3 (some .int) 2 := ⟨zl_7_153, zl_7_151, zl_7_152, zl_1_11, ⟨by decide +kernel, by decide +kernel, by decide +kernel⟩, by decide⟩
theorem zc_X7_worstCross : zcV yX7_worstCross cX7_worstCross 4 (some .int) 0 := ⟨zl_7_169, zl_7_167, zl_7_168, zl_1_11, ⟨by decide +kernel, by decide +kernel, by decide +kernel⟩, by decide⟩
theorem zc_X7_hoursOf : zcV yX7_hoursOf cX7_hoursOf 4 (some .int) 1 := ⟨zl_7_177, zl_7_176, zl_p_50, zl_1_11, ⟨by decide +kernel, by decide +kernel, by decide +kernel⟩, by decide⟩
theorem zc_X7_hours : zcV yX7_hours cX7_hours 2 (some .int) 1 := ⟨zl_7_173, zl_7_171, zl_7_172, zl_1_11, ⟨by decide +kernel, by decide +kernel, by decide +kernel⟩, by decide⟩
theorem zc_X7_hire : zcV yX7_hire cX7_hire 6 (some .long) 0 := ⟨zl_7_181, zl_7_179, zl_7_180, zl_1_11, ⟨by decide +kernel, by decide +kernel, by decide +kernel⟩, by decide⟩
theorem zc_X7_chartedShare : zcV yX7_chartedShare cX7_chartedShare 1 (some .float) 0 := ⟨zl_7_187, zl_7_185, zl_7_186, zl_1_11, ⟨by decide +kernel, by decide +kernel, by decide +kernel⟩, by decide⟩
theorem zc_X7_meanDepth : zcV yX7_meanDepth cX7_meanDepth 4 (some .double) 0 := ⟨zl_7_192, zl_7_190, zl_7_191, zl_1_11, ⟨by decide +kernel, by decide +kernel, by decide +kernel⟩, by decide⟩
theorem zc_X7_sign : zcV yX7_sign cX7_sign 2 none 1 := ⟨zl_7_200, zl_7_199, zl_p_51, zl_1_11, ⟨by decide +kernel, by decide +kernel, by decide +kernel⟩, by decide⟩
theorem zc_X7_number : zcV yX7_number cX7_number 2 none 1 := ⟨zl_7_204, zl_7_203, zl_p_52, zl_1_11, ⟨by decide +kernel, by decide +kernel, by decide +kernel⟩, by decide⟩
theorem zc_X7_word : zcV yX7_word cX7_word 3 none 1 := ⟨zl_7_212, zl_7_211, zl_p_53, zl_1_11, ⟨by decide +kernel, by decide +kernel, by decide +kernel⟩, by decide⟩
theorem zc_X7_writeLine : zcV yX7_writeLine cX7_writeLine 4 (some .int) 1 := ⟨zl_7_196, zl_7_194, zl_7_195, zl_1_11, ⟨by decide +kernel, by decide +kernel, by decide +kernel⟩, by decide⟩
theorem zc_X7_textAt : zcV yX7_textAt cX7_textAt 2 (some .char) 1 := ⟨zl_7_232, zl_7_230, zl_7_231, zl_1_11, ⟨by decide +kernel, by decide +kernel, by decide +kernel⟩, by decide⟩
theorem zc_X7_isSure : zcV yX7_isSure cX7_isSure 1 (some .boolean) 0 := ⟨zl_7_236, zl_7_234, zl_7_235, zl_1_11, ⟨by decide +kernel, by decide +kernel, by decide +kernel⟩, by decide⟩
theorem zc_J5_init_d00df : zcI yJ5_init_d00df cJ5_init_d00df 2 1 := ⟨zl_1_113, zl_1_112, zl_1_7, ⟨by decide +kernel, by decide +kernel, by decide +kernel⟩, by decide, rfl⟩
theorem zc_Jx00060_init_a7421 : zcI yJx00060_init_a7421 cJx00060_init_a7421 2 1 := ⟨zl_2_117, zl_2_116, zl_1_16, ⟨by decide +kernel, by decide +kernel, by decide +kernel⟩, by decide, rfl⟩
theorem zc_Jx00060_init_d00df : zcI yJx00060_init_d00df cJx00060_init_d00df 2 1 := ⟨zl_6_25, zl_6_24, zl_1_16, ⟨by decide +kernel, by decide +kernel, by decide +kernel⟩, by decide, rfl⟩
theorem zc_J6_getChars_ba4f3 : zcS yJ6_getChars_ba4f3 cJ6_getChars_ba4f3 7 (some .int) 3 := ⟨zl_5_166, zl_5_165, zl_1_31, ⟨by decide +kernel, by decide +kernel, by decide +kernel⟩, by decide⟩
theorem zc_J6_stringSize_0f7a4 : zcS yJ6_stringSize_0f7a4 cJ6_stringSize_0f7a4 4 (some .int) 1 := ⟨zl_5_163, zl_5_162, zl_1_31, ⟨by decide +kernel, by decide +kernel, by decide +kernel⟩, by decide⟩
theorem zc_J9_floorDiv_7cf53 : zcS yJ9_floorDiv_7cf53 cJ9_floorDiv_7cf53 3 (some .int) 2 := ⟨zl_2_45, zl_2_44, zl_1_18, ⟨by decide +kernel, by decide +kernel, by decide +kernel⟩, by decide⟩
theorem zc_J9_abs_0f7a4 : zcS yJ9_abs_0f7a4 cJ9_abs_0f7a4 1 (some .int) 1 := ⟨zl_2_99, zl_2_98, zl_1_18, ⟨by decide +kernel, by decide +kernel, by decide +kernel⟩, by decide⟩
theorem zc_J9_max_7cf53 : zcS yJ9_max_7cf53 cJ9_max_7cf53 2 (some .int) 2 := ⟨zl_1_213, zl_1_212, zl_1_18, ⟨by decide +kernel, by decide +kernel, by decide +kernel⟩, by decide⟩
theorem zc_J9_min_7cf53 : zcS yJ9_min_7cf53 cJ9_min_7cf53 2 (some .int) 2 := ⟨zl_2_95, zl_2_94, zl_1_18, ⟨by decide +kernel, by decide +kernel, by decide +kernel⟩, by decide⟩
theorem zc_J0_init_81219 : zcI yJ0_init_81219 cJ0_init_81219 2 1 := ⟨zl_5_186, zl_5_185, zl_1_9, ⟨by decide +kernel, by decide +kernel, by decide +kernel⟩, by decide, rfl⟩
theorem zc_J0_length_8abf5 : zcV yJ0_length_8abf5 cJ0_length_8abf5 1 (some .int) 0 := ⟨zl_5_114, zl_5_112, zl_5_113, zl_1_9, ⟨by decide +kernel, by decide +kernel, by decide +kernel⟩, by decide⟩
theorem zc_J0_charAt_5068e : zcV yJ0_charAt_5068e cJ0_charAt_5068e 2 (some .char) 1 := ⟨zl_7_217, zl_7_215, zl_7_216, zl_1_9, ⟨by decide +kernel, by decide +kernel, by decide +kernel⟩, by decide⟩
theorem zc_J0_getBytes_840e7 : zcV yJ0_getBytes_840e7 cJ0_getBytes_840e7 4 none 3 := ⟨zl_5_151, zl_5_149, zl_5_150, zl_1_9, ⟨by decide +kernel, by decide +kernel, by decide +kernel⟩, by decide⟩
theorem zc_J0_init_db425 : zcI yJ0_init_db425 cJ0_init_db425 5 2 := ⟨zl_5_189, zl_5_188, zl_1_9, ⟨by decide +kernel, by decide +kernel, by decide +kernel⟩, by decide, rfl⟩
theorem zc_J0_coder_7d493 : zcV yJ0_coder_7d493 cJ0_coder_7d493 1 (some .byte) 0 := ⟨zl_5_118, zl_5_116, zl_5_117, zl_1_9, ⟨by decide +kernel, by decide +kernel, by decide +kernel⟩, by decide⟩
theorem zc_J0_isLatin1_aae02 : zcV yJ0_isLatin1_aae02 cJ0_isLatin1_aae02 1 (some .boolean) 0 := ⟨zl_7_221, zl_7_219, zl_7_220, zl_1_9, ⟨by decide +kernel, by decide +kernel, by decide +kernel⟩, by decide⟩
theorem zc_J0_checkIndex_df160 : zcS yJ0_checkIndex_df160 cJ0_checkIndex_df160 2 none 2 := ⟨zl_6_58, zl_6_57, zl_1_9, ⟨by decide +kernel, by decide +kernel, by decide +kernel⟩, by decide⟩
theorem zc_J0_checkBoundsOffCount_cabcc : zcS yJ0_checkBoundsOffCount_cabcc cJ0_checkBoundsOffCount_cabcc 3 (some .int) 3 := ⟨zl_5_144, zl_5_143, zl_1_9, ⟨by decide +kernel, by decide +kernel, by decide +kernel⟩, by decide⟩
theorem zc_J0_checkBoundsBeginEnd_23922 : zcS yJ0_checkBoundsBeginEnd_23922 cJ0_checkBoundsBeginEnd_23922 3 none 3 := ⟨zl_5_96, zl_5_95, zl_1_9, ⟨by decide +kernel, by decide +kernel, by decide +kernel⟩, by decide⟩
theorem zc_J4_init_da8c8 : zcI yJ4_init_da8c8 cJ4_init_da8c8 1 0 := ⟨zl_1_110, zl_1_109, zl_1_8, ⟨by decide +kernel, by decide +kernel, by decide +kernel⟩, by decide, rfl⟩
theorem zc_J4_append_15ec4 : zcV yJ4_append_15ec4 cJ4_append_15ec4 2 (some (.object "java/lang/StringBuilder")) 1 := ⟨zl_5_41, zl_5_39, zl_5_40, zl_1_8, ⟨by decide +kernel, by decide +kernel, by decide +kernel⟩, by decide⟩
theorem zc_J4_append_cf468 : zcV yJ4_append_cf468 cJ4_append_cf468 2 (some (.object "java/lang/StringBuilder")) 1 := ⟨zl_6_43, zl_6_41, zl_6_42, zl_1_8, ⟨by decide +kernel, by decide +kernel, by decide +kernel⟩, by decide⟩
theorem zc_J4_append_bf812 : zcV yJ4_append_bf812 cJ4_append_bf812 2 (some (.object "java/lang/StringBuilder")) 1 := ⟨zl_5_157, zl_5_155, zl_5_156, zl_1_8, ⟨by decide +kernel, by decide +kernel, by decide +kernel⟩, by decide⟩
theorem zc_J4_toString_0e30d : zcV yJ4_toString_0e30d cJ4_toString_0e30d 1 (some (.object "java/lang/String")) 0 := ⟨zl_5_182, zl_5_180, zl_5_181, zl_1_8, ⟨by decide +kernel, by decide +kernel, by decide +kernel⟩, by decide⟩
theorem zc_J4_charAt_5068e : zcV yJ4_charAt_5068e cJ4_charAt_5068e 2 (some .char) 1 := ⟨zl_6_81, zl_6_79, zl_6_80, zl_1_8, ⟨by decide +kernel, by decide +kernel, by decide +kernel⟩, by decide⟩
theorem zc_J4_setLength_d00df : zcV yJ4_setLength_d00df cJ4_setLength_d00df 2 none 1 := ⟨zl_5_26, zl_5_24, zl_5_25, zl_1_8, ⟨by decide +kernel, by decide +kernel, by decide +kernel⟩, by decide⟩
theorem zc_J4_length_8abf5 : zcV yJ4_length_8abf5 cJ4_length_8abf5 1 (some .int) 0 := ⟨zl_5_201, zl_5_200, zl_8_10, zl_1_8, ⟨by decide +kernel, by decide +kernel, by decide +kernel⟩, by decide⟩
theorem zc_Jx7c733_init_d00df : zcI yJx7c733_init_d00df cJx7c733_init_d00df 2 1 := ⟨zl_5_34, zl_5_33, zl_1_25, ⟨by decide +kernel, by decide +kernel, by decide +kernel⟩, by decide, rfl⟩
theorem zc_J1_charAt_3b067 : zcS yJ1_charAt_3b067 cJ1_charAt_3b067 2 (some .char) 2 := ⟨zl_7_224, zl_7_223, zl_1_29, ⟨by decide +kernel, by decide +kernel, by decide +kernel⟩, by decide⟩
theorem zc_J1_canEncode_fc78d : zcS yJ1_canEncode_fc78d cJ1_canEncode_fc78d 1 (some .boolean) 1 := ⟨zl_6_49, zl_6_48, zl_1_29, ⟨by decide +kernel, by decide +kernel, by decide +kernel⟩, by decide⟩
theorem zc_J1_fillNull_b72d1 : zcS yJ1_fillNull_b72d1 cJ1_fillNull_b72d1 3 none 3 := ⟨zl_6_12, zl_6_11, zl_1_29, ⟨by decide +kernel, by decide +kernel, by decide +kernel⟩, by decide⟩
theorem zc_J1_inflate_0e8fd : zcS yJ1_inflate_0e8fd cJ1_inflate_0e8fd 5 none 5 := ⟨zl_5_135, zl_5_134, zl_1_29, ⟨by decide +kernel, by decide +kernel, by decide +kernel⟩, by decide⟩
theorem zc_J2_newBytesFor_77867 : zcS yJ2_newBytesFor_77867 cJ2_newBytesFor_77867 1 (some (.array .byte)) 1 := ⟨zl_1_119, zl_1_118, zl_1_10, ⟨by decide +kernel, by decide +kernel, by decide +kernel⟩, by decide⟩
theorem zc_J2_newBytesLength_0f7a4 : zcS yJ2_newBytesLength_0f7a4 cJ2_newBytesLength_0f7a4 1 (some .int) 1 := ⟨zl_1_122, zl_1_121, zl_1_10, ⟨by decide +kernel, by decide +kernel, by decide +kernel⟩, by decide⟩
theorem zc_J2_putChar_b72d1 : zcS yJ2_putChar_b72d1 cJ2_putChar_b72d1 3 none 3 := ⟨zl_5_104, zl_5_103, zl_1_10, ⟨by decide +kernel, by decide +kernel, by decide +kernel⟩, by decide⟩
theorem zc_J2_getChar_3b067 : zcS yJ2_getChar_3b067 cJ2_getChar_3b067 2 (some .char) 2 := ⟨zl_5_230, zl_5_229, zl_1_10, ⟨by decide +kernel, by decide +kernel, by decide +kernel⟩, by decide⟩
theorem zc_J2_length_9d52b : zcS yJ2_length_9d52b cJ2_length_9d52b 1 (some .int) 1 := ⟨zl_5_93, zl_5_92, zl_1_10, ⟨by decide +kernel, by decide +kernel, by decide +kernel⟩, by decide⟩
theorem zc_J2_coderFromArrayLen_85cad : zcS yJ2_coderFromArrayLen_85cad cJ2_coderFromArrayLen_85cad 2 (some .byte) 2 := ⟨zl_5_234, zl_5_233, zl_1_10, ⟨by decide +kernel, by decide +kernel, by decide +kernel⟩, by decide⟩
theorem zc_J2_compress_39247 : zcS yJ2_compress_39247 cJ2_compress_39247 6 (some (.array .byte)) 3 := ⟨zl_5_224, zl_5_223, zl_1_10, ⟨by decide +kernel, by decide +kernel, by decide +kernel⟩, by decide⟩
theorem zc_J2_compress_5af95 : zcS yJ2_compress_5af95 cJ2_compress_5af95 7 (some .int) 5 := ⟨zl_5_227, zl_5_226, zl_1_10, ⟨by decide +kernel, by decide +kernel, by decide +kernel⟩, by decide⟩
theorem zc_J2_fillNull_b72d1 : zcS yJ2_fillNull_b72d1 cJ2_fillNull_b72d1 3 none 3 := ⟨zl_6_34, zl_6_33, zl_1_10, ⟨by decide +kernel, by decide +kernel, by decide +kernel⟩, by decide⟩
theorem zc_J2_putCharSB_b72d1 : zcS yJ2_putCharSB_b72d1 cJ2_putCharSB_b72d1 3 none 3 := ⟨zl_6_52, zl_6_51, zl_1_10, ⟨by decide +kernel, by decide +kernel, by decide +kernel⟩, by decide⟩
theorem zc_J2_getChars_46870 : zcS yJ2_getChars_46870 cJ2_getChars_46870 5 (some .int) 4 := ⟨zl_5_173, zl_5_172, zl_1_10, ⟨by decide +kernel, by decide +kernel, by decide +kernel⟩, by decide⟩
theorem zc_J2_putCharsAt_cd4e5 : zcS yJ2_putCharsAt_cd4e5 cJ2_putCharsAt_cd4e5 7 (some .int) 6 := ⟨zl_5_87, zl_5_86, zl_1_10, ⟨by decide +kernel, by decide +kernel, by decide +kernel⟩, by decide⟩
theorem zc_J2_charAt_3b067 : zcS yJ2_charAt_3b067 cJ2_charAt_3b067 2 (some .char) 2 := ⟨zl_7_228, zl_7_227, zl_1_10, ⟨by decide +kernel, by decide +kernel, by decide +kernel⟩, by decide⟩
theorem zc_J2_inflate_0e8fd : zcS yJ2_inflate_0e8fd cJ2_inflate_0e8fd 6 none 5 := ⟨zl_5_138, zl_5_137, zl_1_10, ⟨by decide +kernel, by decide +kernel, by decide +kernel⟩, by decide⟩
theorem zc_J2_getChars_ba4f3 : zcS yJ2_getChars_ba4f3 cJ2_getChars_ba4f3 7 (some .int) 3 := ⟨zl_5_176, zl_5_175, zl_1_10, ⟨by decide +kernel, by decide +kernel, by decide +kernel⟩, by decide⟩
theorem zc_J2_checkIndex_2214a : zcS yJ2_checkIndex_2214a cJ2_checkIndex_2214a 2 none 2 := ⟨zl_6_55, zl_6_54, zl_1_10, ⟨by decide +kernel, by decide +kernel, by decide +kernel⟩, by decide⟩
theorem zc_J2_checkBoundsBeginEnd_d044e : zcS yJ2_checkBoundsBeginEnd_d044e cJ2_checkBoundsBeginEnd_d044e 3 none 3 := ⟨zl_5_90, zl_5_89, zl_1_10, ⟨by decide +kernel, by decide +kernel, by decide +kernel⟩, by decide⟩
theorem zc_J2_checkBoundsOffCount_d044e : zcS yJ2_checkBoundsOffCount_d044e cJ2_checkBoundsOffCount_d044e 3 none 3 := ⟨zl_5_141, zl_5_140, zl_1_10, ⟨by decide +kernel, by decide +kernel, by decide +kernel⟩, by decide⟩
theorem zc_J7_rangeCheck_23922 : zcS yJ7_rangeCheck_23922 cJ7_rangeCheck_23922 3 none 3 := ⟨zl_6_18, zl_6_17, zl_1_4, ⟨by decide +kernel, by decide +kernel, by decide +kernel⟩, by decide⟩
theorem zc_J7_fill_53178 : zcS yJ7_fill_53178 cJ7_fill_53178 4 none 2 := ⟨zl_1_54, zl_1_53, zl_1_4, ⟨by decide +kernel, by decide +kernel, by decide +kernel⟩, by decide⟩
theorem zc_J7_fill_eb02e : zcS yJ7_fill_eb02e cJ7_fill_eb02e 5 none 4 := ⟨zl_6_15, zl_6_14, zl_1_4, ⟨by decide +kernel, by decide +kernel, by decide +kernel⟩, by decide⟩
theorem zc_J7_copyOf_9075b : zcS yJ7_copyOf_9075b cJ7_copyOf_9075b 3 (some (.array .byte)) 2 := ⟨zl_5_68, zl_5_67, zl_1_4, ⟨by decide +kernel, by decide +kernel, by decide +kernel⟩, by decide⟩
theorem zc_J7_checkLength_df160 : zcS yJ7_checkLength_df160 cJ7_checkLength_df160 2 none 2 := ⟨zl_5_213, zl_5_212, zl_1_4, ⟨by decide +kernel, by decide +kernel, by decide +kernel⟩, by decide⟩
theorem zc_J7_copyOfRange_39247 : zcS yJ7_copyOfRange_39247 cJ7_copyOfRange_39247 3 (some (.array .byte)) 3 := ⟨zl_5_207, zl_5_206, zl_1_4, ⟨by decide +kernel, by decide +kernel, by decide +kernel⟩, by decide⟩
theorem zc_J7_copyOfRangeByte_39247 : zcS yJ7_copyOfRangeByte_39247 cJ7_copyOfRangeByte_39247 5 (some (.array .byte)) 3 := ⟨zl_5_210, zl_5_209, zl_1_4, ⟨by decide +kernel, by decide +kernel, by decide +kernel⟩, by decide⟩
theorem zc_J8_newLength_cabcc : zcS yJ8_newLength_cabcc cJ8_newLength_cabcc 4 (some .int) 3 := ⟨zl_5_59, zl_5_58, zl_1_26, ⟨by decide +kernel, by decide +kernel, by decide +kernel⟩, by decide⟩
theorem zc_J8_hugeLength_7cf53 : zcS yJ8_hugeLength_7cf53 cJ8_hugeLength_7cf53 3 (some .int) 2 := ⟨zl_5_64, zl_5_63, zl_1_26, ⟨by decide +kernel, by decide +kernel, by decide +kernel⟩, by decide⟩
theorem zc_J3_checkIndex_8e157 : zcS yJ3_checkIndex_8e157 cJ3_checkIndex_8e157 3 (some .int) 3 := ⟨zl_6_61, zl_6_60, zl_1_28, ⟨by decide +kernel, by decide +kernel, by decide +kernel⟩, by decide⟩
theorem zc_J3_checkFromToIndex_8c36e : zcS yJ3_checkFromToIndex_8c36e cJ3_checkFromToIndex_8c36e 4 (some .int) 4 := ⟨zl_5_101, zl_5_100, zl_1_28, ⟨by decide +kernel, by decide +kernel, by decide +kernel⟩, by decide⟩
theorem zc_J3_checkFromIndexSize_8c36e : zcS yJ3_checkFromIndexSize_8c36e cJ3_checkFromIndexSize_8c36e 4 (some .int) 4 := ⟨zl_5_147, zl_5_146, zl_1_28, ⟨by decide +kernel, by decide +kernel, by decide +kernel⟩, by decide⟩
