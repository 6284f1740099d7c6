section ZPCF
variable {p : Program} {l : Launch} {e : Env} {R : Room} {s : State} {m : MethodId} {args : Array Value} {below : List Frame} {meth : Method} {c : Code} {cells slots : Nat} {Q : State → Prop}
variable {G : zG} {X : (Nat → Prop) → State → Prop} {A : Nat → Prop} {nL : Nat} {L L0 : List Nat} {f f0 : Nat → va_E} {cc : ByteArray} {own : String} {pc : Nat} {ls : List (Nat × Value)} {st : List Value} {ret : Option FieldType} {as : List (Nat × Nat × Nat)} {fs : List Value}
theorem mF_put4 (C : ZC G X p l s m args meth c A nL ret cc RX7) (hini : meth.name = "<init>") {o q : Nat} (fs2 : List Value) (hP : zPC G L0 f0 L f o 11 fs as) (hl : 4 < fs.length) (h2 : fs.set 4 (.ref q) = fs2) (hd : decode cc pc = .ok (.putfield 9, 3)) (K : ∀ f2, zPC G L0 f0 L f2 o 11 fs2 as → ZW G p l e R s m args below meth c A nL cells slots Q L f2 (pc + 3) ls st) : ZW G p l e R s m args below meth c A nL cells slots Q L f pc ls (.ref q :: .ref o :: st) :=
  z_putfF C hini 4 zin_X7 tyX7_ok nmX7 hP.1.1 hP.1.2 rfl (Nat.le_of_ble_eq_true rfl) zl_6_102 rfl rfl rfl rfl rfl rfl hl hd (by rw [h2]; exact K _ (zPC_put hP fs2))
theorem mF_put5 (C : ZC G X p l s m args meth c A nL ret cc RX7) (hini : meth.name = "<init>") {o q : Nat} (fs2 : List Value) (hP : zPC G L0 f0 L f o 11 fs as) (hl : 5 < fs.length) (h2 : fs.set 5 (.ref q) = fs2) (hd : decode cc pc = .ok (.putfield 15, 3)) (K : ∀ f2, zPC G L0 f0 L f2 o 11 fs2 as → ZW G p l e R s m args below meth c A nL cells slots Q L f2 (pc + 3) ls st) : ZW G p l e R s m args below meth c A nL cells slots Q L f pc ls (.ref q :: .ref o :: st) :=
  z_putfF C hini 5 zin_X7 tyX7_ok nmX7 hP.1.1 hP.1.2 rfl (Nat.le_of_ble_eq_true rfl) zl_6_103 rfl rfl rfl rfl rfl rfl hl hd (by rw [h2]; exact K _ (zPC_put hP fs2))
theorem mF_put6 (C : ZC G X p l s m args meth c A nL ret cc RX7) (hini : meth.name = "<init>") {o q : Nat} (fs2 : List Value) (hP : zPC G L0 f0 L f o 11 fs as) (hl : 6 < fs.length) (h2 : fs.set 6 (.ref q) = fs2) (hd : decode cc pc = .ok (.putfield 18, 3)) (K : ∀ f2, zPC G L0 f0 L f2 o 11 fs2 as → ZW G p l e R s m args below meth c A nL cells slots Q L f2 (pc + 3) ls st) : ZW G p l e R s m args below meth c A nL cells slots Q L f pc ls (.ref q :: .ref o :: st) :=
  z_putfF C hini 6 zin_X7 tyX7_ok nmX7 hP.1.1 hP.1.2 rfl (Nat.le_of_ble_eq_true rfl) zl_6_104 rfl rfl rfl rfl rfl rfl hl hd (by rw [h2]; exact K _ (zPC_put hP fs2))
theorem mF_put7 (C : ZC G X p l s m args meth c A nL ret cc RX7) (hini : meth.name = "<init>") {o q : Nat} (fs2 : List Value) (hP : zPC G L0 f0 L f o 11 fs as) (hl : 7 < fs.length) (h2 : fs.set 7 (.ref q) = fs2) (hd : decode cc pc = .ok (.putfield 21, 3)) (K : ∀ f2, zPC G L0 f0 L f2 o 11 fs2 as → ZW G p l e R s m args below meth c A nL cells slots Q L f2 (pc + 3) ls st) : ZW G p l e R s m args below meth c A nL cells slots Q L f pc ls (.ref q :: .ref o :: st) :=
  z_putfF C hini 7 zin_X7 tyX7_ok nmX7 hP.1.1 hP.1.2 rfl (Nat.le_of_ble_eq_true rfl) zl_6_105 rfl rfl rfl rfl rfl rfl hl hd (by rw [h2]; exact K _ (zPC_put hP fs2))
theorem mF_put8 (C : ZC G X p l s m args meth c A nL ret cc RX7) (hini : meth.name = "<init>") {o q : Nat} (fs2 : List Value) (hP : zPC G L0 f0 L f o 11 fs as) (hl : 8 < fs.length) (h2 : fs.set 8 (.ref q) = fs2) (hd : decode cc pc = .ok (.putfield 24, 3)) (K : ∀ f2, zPC G L0 f0 L f2 o 11 fs2 as → ZW G p l e R s m args below meth c A nL cells slots Q L f2 (pc + 3) ls st) : ZW G p l e R s m args below meth c A nL cells slots Q L f pc ls (.ref q :: .ref o :: st) :=
  z_putfF C hini 8 zin_X7 tyX7_ok nmX7 hP.1.1 hP.1.2 rfl (Nat.le_of_ble_eq_true rfl) zl_6_106 rfl rfl rfl rfl rfl rfl hl hd (by rw [h2]; exact K _ (zPC_put hP fs2))
theorem mF_put9 (C : ZC G X p l s m args meth c A nL ret cc RX7) (hini : meth.name = "<init>") {o q : Nat} (fs2 : List Value) (hP : zPC G L0 f0 L f o 11 fs as) (hl : 9 < fs.length) (h2 : fs.set 9 (.ref q) = fs2) (hd : decode cc pc = .ok (.putfield 27, 3)) (K : ∀ f2, zPC G L0 f0 L f2 o 11 fs2 as → ZW G p l e R s m args below meth c A nL cells slots Q L f2 (pc + 3) ls st) : ZW G p l e R s m args below meth c A nL cells slots Q L f pc ls (.ref q :: .ref o :: st) :=
  z_putfF C hini 9 zin_X7 tyX7_ok nmX7 hP.1.1 hP.1.2 rfl (Nat.le_of_ble_eq_true rfl) zl_6_107 rfl rfl rfl rfl rfl rfl hl hd (by rw [h2]; exact K _ (zPC_put hP fs2))
theorem mF_put10 (C : ZC G X p l s m args meth c A nL ret cc RX7) (hini : meth.name = "<init>") {o q : Nat} (fs2 : List Value) (hP : zPC G L0 f0 L f o 11 fs as) (hl : 10 < fs.length) (h2 : fs.set 10 (.ref q) = fs2) (hd : decode cc pc = .ok (.putfield 30, 3)) (K : ∀ f2, zPC G L0 f0 L f2 o 11 fs2 as → ZW G p l e R s m args below meth c A nL cells slots Q L f2 (pc + 3) ls st) : ZW G p l e R s m args below meth c A nL cells slots Q L f pc ls (.ref q :: .ref o :: st) :=
  z_putfF C hini 10 zin_X7 tyX7_ok nmX7 hP.1.1 hP.1.2 rfl (Nat.le_of_ble_eq_true rfl) zl_6_108 rfl rfl rfl rfl rfl rfl hl hd (by rw [h2]; exact K _ (zPC_put hP fs2))
theorem mF_put11 (C : ZC G X p l s m args meth c A nL ret cc RX7) (hini : meth.name = "<init>") {o q : Nat} (fs2 : List Value) (hP : zPC G L0 f0 L f o 11 fs as) (hl : 11 < fs.length) (h2 : fs.set 11 (.ref q) = fs2) (hd : decode cc pc = .ok (.putfield 33, 3)) (K : ∀ f2, zPC G L0 f0 L f2 o 11 fs2 as → ZW G p l e R s m args below meth c A nL cells slots Q L f2 (pc + 3) ls st) : ZW G p l e R s m args below meth c A nL cells slots Q L f pc ls (.ref q :: .ref o :: st) :=
  z_putfF C hini 11 zin_X7 tyX7_ok nmX7 hP.1.1 hP.1.2 rfl (Nat.le_of_ble_eq_true rfl) zl_6_109 rfl rfl rfl rfl rfl rfl hl hd (by rw [h2]; exact K _ (zPC_put hP fs2))
theorem mF_put12 (C : ZC G X p l s m args meth c A nL ret cc RX7) (hini : meth.name = "<init>") {o q : Nat} (fs2 : List Value) (hP : zPC G L0 f0 L f o 11 fs as) (hl : 12 < fs.length) (h2 : fs.set 12 (.ref q) = fs2) (hd : decode cc pc = .ok (.putfield 37, 3)) (K : ∀ f2, zPC G L0 f0 L f2 o 11 fs2 as → ZW G p l e R s m args below meth c A nL cells slots Q L f2 (pc + 3) ls st) : ZW G p l e R s m args below meth c A nL cells slots Q L f pc ls (.ref q :: .ref o :: st) :=
  z_putfF C hini 12 zin_X7 tyX7_ok nmX7 hP.1.1 hP.1.2 rfl (Nat.le_of_ble_eq_true rfl) zl_6_110 rfl rfl rfl rfl rfl rfl hl hd (by rw [h2]; exact K _ (zPC_put hP fs2))
theorem mF_put13 (C : ZC G X p l s m args meth c A nL ret cc RX7) (hini : meth.name = "<init>") {o q : Nat} (fs2 : List Value) (hP : zPC G L0 f0 L f o 11 fs as) (hl : 13 < fs.length) (h2 : fs.set 13 (.ref q) = fs2) (hd : decode cc pc = .ok (.putfield 40, 3)) (K : ∀ f2, zPC G L0 f0 L f2 o 11 fs2 as → ZW G p l e R s m args below meth c A nL cells slots Q L f2 (pc + 3) ls st) : ZW G p l e R s m args below meth c A nL cells slots Q L f pc ls (.ref q :: .ref o :: st) :=
  z_putfF C hini 13 zin_X7 tyX7_ok nmX7 hP.1.1 hP.1.2 rfl (Nat.le_of_ble_eq_true rfl) zl_6_111 rfl rfl rfl rfl rfl rfl hl hd (by rw [h2]; exact K _ (zPC_put hP fs2))
theorem mF_put14 (C : ZC G X p l s m args meth c A nL ret cc RX7) (hini : meth.name = "<init>") {o q : Nat} (fs2 : List Value) (hP : zPC G L0 f0 L f o 11 fs as) (hl : 14 < fs.length) (h2 : fs.set 14 (.ref q) = fs2) (hd : decode cc pc = .ok (.putfield 43, 3)) (K : ∀ f2, zPC G L0 f0 L f2 o 11 fs2 as → ZW G p l e R s m args below meth c A nL cells slots Q L f2 (pc + 3) ls st) : ZW G p l e R s m args below meth c A nL cells slots Q L f pc ls (.ref q :: .ref o :: st) :=
  z_putfF C hini 14 zin_X7 tyX7_ok nmX7 hP.1.1 hP.1.2 rfl (Nat.le_of_ble_eq_true rfl) zl_6_112 rfl rfl rfl rfl rfl rfl hl hd (by rw [h2]; exact K _ (zPC_put hP fs2))
theorem mF_put15 (C : ZC G X p l s m args meth c A nL ret cc RX7) (hini : meth.name = "<init>") {o q : Nat} (fs2 : List Value) (hP : zPC G L0 f0 L f o 11 fs as) (hl : 15 < fs.length) (h2 : fs.set 15 (.ref q) = fs2) (hd : decode cc pc = .ok (.putfield 46, 3)) (K : ∀ f2, zPC G L0 f0 L f2 o 11 fs2 as → ZW G p l e R s m args below meth c A nL cells slots Q L f2 (pc + 3) ls st) : ZW G p l e R s m args below meth c A nL cells slots Q L f pc ls (.ref q :: .ref o :: st) :=
  z_putfF C hini 15 zin_X7 tyX7_ok nmX7 hP.1.1 hP.1.2 rfl (Nat.le_of_ble_eq_true rfl) zl_6_113 rfl rfl rfl rfl rfl rfl hl hd (by rw [h2]; exact K _ (zPC_put hP fs2))
theorem mF_put16 (C : ZC G X p l s m args meth c A nL ret cc RX7) (hini : meth.name = "<init>") {o q : Nat} (fs2 : List Value) (hP : zPC G L0 f0 L f o 11 fs as) (hl : 16 < fs.length) (h2 : fs.set 16 (.ref q) = fs2) (hd : decode cc pc = .ok (.putfield 49, 3)) (K : ∀ f2, zPC G L0 f0 L f2 o 11 fs2 as → ZW G p l e R s m args below meth c A nL cells slots Q L f2 (pc + 3) ls st) : ZW G p l e R s m args below meth c A nL cells slots Q L f pc ls (.ref q :: .ref o :: st) :=
  z_putfF C hini 16 zin_X7 tyX7_ok nmX7 hP.1.1 hP.1.2 rfl (Nat.le_of_ble_eq_true rfl) zl_6_114 rfl rfl rfl rfl rfl rfl hl hd (by rw [h2]; exact K _ (zPC_put hP fs2))
theorem mF_put17 (C : ZC G X p l s m args meth c A nL ret cc RX7) (hini : meth.name = "<init>") {o q : Nat} (fs2 : List Value) (hP : zPC G L0 f0 L f o 11 fs as) (hl : 17 < fs.length) (h2 : fs.set 17 (.ref q) = fs2) (hd : decode cc pc = .ok (.putfield 52, 3)) (K : ∀ f2, zPC G L0 f0 L f2 o 11 fs2 as → ZW G p l e R s m args below meth c A nL cells slots Q L f2 (pc + 3) ls st) : ZW G p l e R s m args below meth c A nL cells slots Q L f pc ls (.ref q :: .ref o :: st) :=
  z_putfF C hini 17 zin_X7 tyX7_ok nmX7 hP.1.1 hP.1.2 rfl (Nat.le_of_ble_eq_true rfl) zl_6_115 rfl rfl rfl rfl rfl rfl hl hd (by rw [h2]; exact K _ (zPC_put hP fs2))
theorem mF_put18 (C : ZC G X p l s m args meth c A nL ret cc RX7) (hini : meth.name = "<init>") {o q : Nat} (fs2 : List Value) (hP : zPC G L0 f0 L f o 11 fs as) (hl : 18 < fs.length) (h2 : fs.set 18 (.ref q) = fs2) (hd : decode cc pc = .ok (.putfield 55, 3)) (K : ∀ f2, zPC G L0 f0 L f2 o 11 fs2 as → ZW G p l e R s m args below meth c A nL cells slots Q L f2 (pc + 3) ls st) : ZW G p l e R s m args below meth c A nL cells slots Q L f pc ls (.ref q :: .ref o :: st) :=
  z_putfF C hini 18 zin_X7 tyX7_ok nmX7 hP.1.1 hP.1.2 rfl (Nat.le_of_ble_eq_true rfl) zl_6_116 rfl rfl rfl rfl rfl rfl hl hd (by rw [h2]; exact K _ (zPC_put hP fs2))
theorem mF_put19 (C : ZC G X p l s m args meth c A nL ret cc RX7) (hini : meth.name = "<init>") {o q : Nat} (fs2 : List Value) (hP : zPC G L0 f0 L f o 11 fs as) (hl : 19 < fs.length) (h2 : fs.set 19 (.ref q) = fs2) (hd : decode cc pc = .ok (.putfield 58, 3)) (K : ∀ f2, zPC G L0 f0 L f2 o 11 fs2 as → ZW G p l e R s m args below meth c A nL cells slots Q L f2 (pc + 3) ls st) : ZW G p l e R s m args below meth c A nL cells slots Q L f pc ls (.ref q :: .ref o :: st) :=
  z_putfF C hini 19 zin_X7 tyX7_ok nmX7 hP.1.1 hP.1.2 rfl (Nat.le_of_ble_eq_true rfl) zl_6_117 rfl rfl rfl rfl rfl rfl hl hd (by rw [h2]; exact K _ (zPC_put hP fs2))
theorem mF_put20 (C : ZC G X p l s m args meth c A nL ret cc RX7) (hini : meth.name = "<init>") {o q : Nat} (fs2 : List Value) (hP : zPC G L0 f0 L f o 11 fs as) (hl : 20 < fs.length) (h2 : fs.set 20 (.ref q) = fs2) (hd : decode cc pc = .ok (.putfield 61, 3)) (K : ∀ f2, zPC G L0 f0 L f2 o 11 fs2 as → ZW G p l e R s m args below meth c A nL cells slots Q L f2 (pc + 3) ls st) : ZW G p l e R s m args below meth c A nL cells slots Q L f pc ls (.ref q :: .ref o :: st) :=
  z_putfF C hini 20 zin_X7 tyX7_ok nmX7 hP.1.1 hP.1.2 rfl (Nat.le_of_ble_eq_true rfl) zl_6_118 rfl rfl rfl rfl rfl rfl hl hd (by rw [h2]; exact K _ (zPC_put hP fs2))
end ZPCF
def zMu0 : zMu := fun _ _ => 0
def zMuS : zMu := zset zMu0 4 (zfill (fun _ => 0) 0 240 20)
theorem PC_MR {G : zG} {L0 : List Nat} {f0 : Nat → va_E} {L : List Nat} {f : Nat → va_E} {o : Nat} {q4 q5 q6 q7 q8 q9 q10 q11 q12 q13 q14 q15 q16 q17 q18 q19 q20 : Nat} (h : zPC G L0 f0 L f o 11 [.int 0, .int 0, .int 0, .int 0, .ref q4, .ref q5, .ref q6, .ref q7, .ref q8, .ref q9, .ref q10, .ref q11, .ref q12, .ref q13, .ref q14, .ref q15, .ref q16, .ref q17, .ref q18, .ref q19, .ref q20] [(q4, 0, 240), (q5, 0, 240), (q6, 0, 10), (q7, 0, 10), (q8, 0, 3), (q9, 0, 240), (q10, 0, 240), (q11, 1, 720), (q12, 1, 16), (q13, 0, 16), (q14, 0, 16), (q15, 0, 16), (q16, 0, 16), (q17, 0, 16), (q18, 0, 2240), (q19, 0, 2240), (q20, 2, 40)]) : MR G L f o (zad [q4, q5, q6, q7, q8, q9, q10, q11, q12, q13, q14, q15, q16, q17, q18, q19, q20]) zMu0 0 (fun _ => 0) (fun _ => 0) := by
  refine ⟨h.1, fun i h4 h20 => zad_o h (i := i - 4) (by show i - 4 < 17; omega), fun i j h4 h20 h4' h20' hij => zad_ne (l := [q4, q5, q6, q7, q8, q9, q10, q11, q12, q13, q14, q15, q16, q17, q18, q19, q20]) ((List.pairwise_map (f := fun x : Nat × Nat × Nat => x.1)).mpr h.2.2.1) (by show i - 4 < 17; omega) (by show j - 4 < 17; omega) (by omega), zPC_A h 0 rfl, zPC_A h 1 rfl, zPC_A h 2 rfl, zPC_A h 3 rfl, zPC_A h 4 rfl, zPC_A h 5 rfl, zPC_A h 6 rfl, zPC_A h 7 rfl, zPC_A h 8 rfl, zPC_A h 9 rfl, zPC_A h 10 rfl, zPC_A h 11 rfl, zPC_A h 12 rfl, zPC_A h 13 rfl, zPC_A h 14 rfl, zPC_A h 15 rfl, zPC_A h 16 rfl⟩
set_option maxRecDepth 100000 in
set_option maxHeartbeats 2000000 in
theorem c_X7_init {la : Launch} {G : zG} {X : (Nat → Prop) → State → Prop} (hX : zX X) {L : List Nat} {f : Nat → va_E} {o : Nat} (ho : o ∈ L ∧ f o = .inr (11, [.int 0, .int 0, .int 0, .int 0, .null, .null, .null, .null, .null, .null, .null, .null, .null, .null, .null, .null, .null, .null, .null, .null, .null]))  : zM la G X yX7_init (.code yX7_init cX7_init 2 none :: zT) 1 17 6319 [.ref o] L f zeV (fun _ L' f' => (∃ ad, MR G L' f' o ad zMuS 0 (fun _ => 0) (fun _ => 0) ∧ (∀ i, 4 ≤ i → i ≤ 20 → ad i ∉ L)) ∧ (∀ b ∈ L, b ∈ L') ∧ (∀ b ∈ L, b ≠ o → f' b = f b)) := by
  refine zM_intro hX (by decide) (Nat.le_of_ble_eq_true rfl) (fun pZ eZ sZ mZ aZ bZ hZ cZ AZ C hini => ?_)
  change ZW G pZ la eZ (zRm 1 17 6319) sZ mZ aZ bZ hZ cZ AZ 2 0 0 _ L f 0 [(0, .ref o)] []
  have hPC0 := zPC_0 (G := G) ho
  refine z_aload_n C 0 dX7_init_0 rfl ?_
  refine z_objInit C zl_6_97 (Nat.le_of_ble_eq_true rfl) (Nat.le_of_ble_eq_true rfl) dX7_init_1 ?_
  refine z_aload_n C 0 dX7_init_4 rfl ?_
  refine z_sipush C dX7_init_5 (by decide) ?_
  refine z_newa (ty := .int) C 0 240 zl_1_62 rfl rfl rfl (fun U cA h => h) rfl (Nat.le_of_ble_eq_true rfl) (Nat.le_of_ble_eq_true rfl) (Nat.le_of_ble_eq_true rfl) (Nat.le_of_ble_eq_true rfl) dX7_init_8 (fun q4 L1 f2 hq hL hA hk => ?_)
  have hPC3 := zPC_new hPC0 hq hL hA hk
  clear hq hL hA hk
  refine mF_put4 C (hini rfl) [.int 0, .int 0, .int 0, .int 0, .ref q4, .null, .null, .null, .null, .null, .null, .null, .null, .null, .null, .null, .null, .null, .null, .null, .null] hPC3 (Nat.le_of_ble_eq_true rfl) rfl dX7_init_10 (fun f4 hPC5 => ?_)
  refine z_aload_n C 0 dX7_init_13 rfl ?_
  refine z_sipush C dX7_init_14 (by decide) ?_
  refine z_newa (ty := .int) C 0 240 zl_1_62 rfl rfl rfl (fun U cA h => h) rfl (Nat.le_of_ble_eq_true rfl) (Nat.le_of_ble_eq_true rfl) (Nat.le_of_ble_eq_true rfl) (Nat.le_of_ble_eq_true rfl) dX7_init_17 (fun q5 L6 f7 hq hL hA hk => ?_)
  have hPC8 := zPC_new hPC5 hq hL hA hk
  clear hq hL hA hk
  refine mF_put5 C (hini rfl) [.int 0, .int 0, .int 0, .int 0, .ref q4, .ref q5, .null, .null, .null, .null, .null, .null, .null, .null, .null, .null, .null, .null, .null, .null, .null] hPC8 (Nat.le_of_ble_eq_true rfl) rfl dX7_init_19 (fun f9 hPC10 => ?_)
  refine z_aload_n C 0 dX7_init_22 rfl ?_
  refine z_bipush C dX7_init_23 (by decide) ?_
  refine z_newa (ty := .int) C 0 10 zl_1_62 rfl rfl rfl (fun U cA h => h) rfl (Nat.le_of_ble_eq_true rfl) (Nat.le_of_ble_eq_true rfl) (Nat.le_of_ble_eq_true rfl) (Nat.le_of_ble_eq_true rfl) dX7_init_25 (fun q6 L11 f12 hq hL hA hk => ?_)
  have hPC13 := zPC_new hPC10 hq hL hA hk
  clear hq hL hA hk
  refine mF_put6 C (hini rfl) [.int 0, .int 0, .int 0, .int 0, .ref q4, .ref q5, .ref q6, .null, .null, .null, .null, .null, .null, .null, .null, .null, .null, .null, .null, .null, .null] hPC13 (Nat.le_of_ble_eq_true rfl) rfl dX7_init_27 (fun f14 hPC15 => ?_)
  refine z_aload_n C 0 dX7_init_30 rfl ?_
  refine z_bipush C dX7_init_31 (by decide) ?_
  refine z_newa (ty := .int) C 0 10 zl_1_62 rfl rfl rfl (fun U cA h => h) rfl (Nat.le_of_ble_eq_true rfl) (Nat.le_of_ble_eq_true rfl) (Nat.le_of_ble_eq_true rfl) (Nat.le_of_ble_eq_true rfl) dX7_init_33 (fun q7 L16 f17 hq hL hA hk => ?_)
  have hPC18 := zPC_new hPC15 hq hL hA hk
  clear hq hL hA hk
  refine mF_put7 C (hini rfl) [.int 0, .int 0, .int 0, .int 0, .ref q4, .ref q5, .ref q6, .ref q7, .null, .null, .null, .null, .null, .null, .null, .null, .null, .null, .null, .null, .null] hPC18 (Nat.le_of_ble_eq_true rfl) rfl dX7_init_35 (fun f19 hPC20 => ?_)
  refine z_aload_n C 0 dX7_init_38 rfl ?_
  refine z_iconst C dX7_init_39 ?_
  refine z_newa (ty := .int) C 0 3 zl_1_62 rfl rfl rfl (fun U cA h => h) rfl (Nat.le_of_ble_eq_true rfl) (Nat.le_of_ble_eq_true rfl) (Nat.le_of_ble_eq_true rfl) (Nat.le_of_ble_eq_true rfl) dX7_init_40 (fun q8 L21 f22 hq hL hA hk => ?_)
  have hPC23 := zPC_new hPC20 hq hL hA hk
  clear hq hL hA hk
  refine mF_put8 C (hini rfl) [.int 0, .int 0, .int 0, .int 0, .ref q4, .ref q5, .ref q6, .ref q7, .ref q8, .null, .null, .null, .null, .null, .null, .null, .null, .null, .null, .null, .null] hPC23 (Nat.le_of_ble_eq_true rfl) rfl dX7_init_42 (fun f24 hPC25 => ?_)
  refine z_aload_n C 0 dX7_init_45 rfl ?_
  refine z_sipush C dX7_init_46 (by decide) ?_
  refine z_newa (ty := .int) C 0 240 zl_1_62 rfl rfl rfl (fun U cA h => h) rfl (Nat.le_of_ble_eq_true rfl) (Nat.le_of_ble_eq_true rfl) (Nat.le_of_ble_eq_true rfl) (Nat.le_of_ble_eq_true rfl) dX7_init_49 (fun q9 L26 f27 hq hL hA hk => ?_)
  have hPC28 := zPC_new hPC25 hq hL hA hk
  clear hq hL hA hk
  refine mF_put9 C (hini rfl) [.int 0, .int 0, .int 0, .int 0, .ref q4, .ref q5, .ref q6, .ref q7, .ref q8, .ref q9, .null, .null, .null, .null, .null, .null, .null, .null, .null, .null, .null] hPC28 (Nat.le_of_ble_eq_true rfl) rfl dX7_init_51 (fun f29 hPC30 => ?_)
  refine z_aload_n C 0 dX7_init_54 rfl ?_
  refine z_sipush C dX7_init_55 (by decide) ?_
  refine z_newa (ty := .int) C 0 240 zl_1_62 rfl rfl rfl (fun U cA h => h) rfl (Nat.le_of_ble_eq_true rfl) (Nat.le_of_ble_eq_true rfl) (Nat.le_of_ble_eq_true rfl) (Nat.le_of_ble_eq_true rfl) dX7_init_58 (fun q10 L31 f32 hq hL hA hk => ?_)
  have hPC33 := zPC_new hPC30 hq hL hA hk
  clear hq hL hA hk
  refine mF_put10 C (hini rfl) [.int 0, .int 0, .int 0, .int 0, .ref q4, .ref q5, .ref q6, .ref q7, .ref q8, .ref q9, .ref q10, .null, .null, .null, .null, .null, .null, .null, .null, .null, .null] hPC33 (Nat.le_of_ble_eq_true rfl) rfl dX7_init_60 (fun f34 hPC35 => ?_)
  refine z_aload_n C 0 dX7_init_63 rfl ?_
  refine z_sipush C dX7_init_64 (by decide) ?_
  refine z_newa (ty := .boolean) C 1 720 zl_6_162 rfl rfl rfl (fun U cA h => h) rfl (Nat.le_of_ble_eq_true rfl) (Nat.le_of_ble_eq_true rfl) (Nat.le_of_ble_eq_true rfl) (Nat.le_of_ble_eq_true rfl) dX7_init_67 (fun q11 L36 f37 hq hL hA hk => ?_)
  have hPC38 := zPC_new hPC35 hq hL hA hk
  clear hq hL hA hk
  refine mF_put11 C (hini rfl) [.int 0, .int 0, .int 0, .int 0, .ref q4, .ref q5, .ref q6, .ref q7, .ref q8, .ref q9, .ref q10, .ref q11, .null, .null, .null, .null, .null, .null, .null, .null, .null] hPC38 (Nat.le_of_ble_eq_true rfl) rfl dX7_init_69 (fun f39 hPC40 => ?_)
  refine z_aload_n C 0 dX7_init_72 rfl ?_
  refine z_bipush C dX7_init_73 (by decide) ?_
  refine z_newa (ty := .boolean) C 1 16 zl_6_162 rfl rfl rfl (fun U cA h => h) rfl (Nat.le_of_ble_eq_true rfl) (Nat.le_of_ble_eq_true rfl) (Nat.le_of_ble_eq_true rfl) (Nat.le_of_ble_eq_true rfl) dX7_init_75 (fun q12 L41 f42 hq hL hA hk => ?_)
  have hPC43 := zPC_new hPC40 hq hL hA hk
  clear hq hL hA hk
  refine mF_put12 C (hini rfl) [.int 0, .int 0, .int 0, .int 0, .ref q4, .ref q5, .ref q6, .ref q7, .ref q8, .ref q9, .ref q10, .ref q11, .ref q12, .null, .null, .null, .null, .null, .null, .null, .null] hPC43 (Nat.le_of_ble_eq_true rfl) rfl dX7_init_77 (fun f44 hPC45 => ?_)
  refine z_aload_n C 0 dX7_init_80 rfl ?_
  refine z_bipush C dX7_init_81 (by decide) ?_
  refine z_newa (ty := .int) C 0 16 zl_1_62 rfl rfl rfl (fun U cA h => h) rfl (Nat.le_of_ble_eq_true rfl) (Nat.le_of_ble_eq_true rfl) (Nat.le_of_ble_eq_true rfl) (Nat.le_of_ble_eq_true rfl) dX7_init_83 (fun q13 L46 f47 hq hL hA hk => ?_)
  have hPC48 := zPC_new hPC45 hq hL hA hk
  clear hq hL hA hk
  refine mF_put13 C (hini rfl) [.int 0, .int 0, .int 0, .int 0, .ref q4, .ref q5, .ref q6, .ref q7, .ref q8, .ref q9, .ref q10, .ref q11, .ref q12, .ref q13, .null, .null, .null, .null, .null, .null, .null] hPC48 (Nat.le_of_ble_eq_true rfl) rfl dX7_init_85 (fun f49 hPC50 => ?_)
  refine z_aload_n C 0 dX7_init_88 rfl ?_
  refine z_bipush C dX7_init_89 (by decide) ?_
  refine z_newa (ty := .int) C 0 16 zl_1_62 rfl rfl rfl (fun U cA h => h) rfl (Nat.le_of_ble_eq_true rfl) (Nat.le_of_ble_eq_true rfl) (Nat.le_of_ble_eq_true rfl) (Nat.le_of_ble_eq_true rfl) dX7_init_91 (fun q14 L51 f52 hq hL hA hk => ?_)
  have hPC53 := zPC_new hPC50 hq hL hA hk
  clear hq hL hA hk
  refine mF_put14 C (hini rfl) [.int 0, .int 0, .int 0, .int 0, .ref q4, .ref q5, .ref q6, .ref q7, .ref q8, .ref q9, .ref q10, .ref q11, .ref q12, .ref q13, .ref q14, .null, .null, .null, .null, .null, .null] hPC53 (Nat.le_of_ble_eq_true rfl) rfl dX7_init_93 (fun f54 hPC55 => ?_)
  refine z_aload_n C 0 dX7_init_96 rfl ?_
  refine z_bipush C dX7_init_97 (by decide) ?_
  refine z_newa (ty := .int) C 0 16 zl_1_62 rfl rfl rfl (fun U cA h => h) rfl (Nat.le_of_ble_eq_true rfl) (Nat.le_of_ble_eq_true rfl) (Nat.le_of_ble_eq_true rfl) (Nat.le_of_ble_eq_true rfl) dX7_init_99 (fun q15 L56 f57 hq hL hA hk => ?_)
  have hPC58 := zPC_new hPC55 hq hL hA hk
  clear hq hL hA hk
  refine mF_put15 C (hini rfl) [.int 0, .int 0, .int 0, .int 0, .ref q4, .ref q5, .ref q6, .ref q7, .ref q8, .ref q9, .ref q10, .ref q11, .ref q12, .ref q13, .ref q14, .ref q15, .null, .null, .null, .null, .null] hPC58 (Nat.le_of_ble_eq_true rfl) rfl dX7_init_101 (fun f59 hPC60 => ?_)
  refine z_aload_n C 0 dX7_init_104 rfl ?_
  refine z_bipush C dX7_init_105 (by decide) ?_
  refine z_newa (ty := .int) C 0 16 zl_1_62 rfl rfl rfl (fun U cA h => h) rfl (Nat.le_of_ble_eq_true rfl) (Nat.le_of_ble_eq_true rfl) (Nat.le_of_ble_eq_true rfl) (Nat.le_of_ble_eq_true rfl) dX7_init_107 (fun q16 L61 f62 hq hL hA hk => ?_)
  have hPC63 := zPC_new hPC60 hq hL hA hk
  clear hq hL hA hk
  refine mF_put16 C (hini rfl) [.int 0, .int 0, .int 0, .int 0, .ref q4, .ref q5, .ref q6, .ref q7, .ref q8, .ref q9, .ref q10, .ref q11, .ref q12, .ref q13, .ref q14, .ref q15, .ref q16, .null, .null, .null, .null] hPC63 (Nat.le_of_ble_eq_true rfl) rfl dX7_init_109 (fun f64 hPC65 => ?_)
  refine z_aload_n C 0 dX7_init_112 rfl ?_
  refine z_bipush C dX7_init_113 (by decide) ?_
  refine z_newa (ty := .int) C 0 16 zl_1_62 rfl rfl rfl (fun U cA h => h) rfl (Nat.le_of_ble_eq_true rfl) (Nat.le_of_ble_eq_true rfl) (Nat.le_of_ble_eq_true rfl) (Nat.le_of_ble_eq_true rfl) dX7_init_115 (fun q17 L66 f67 hq hL hA hk => ?_)
  have hPC68 := zPC_new hPC65 hq hL hA hk
  clear hq hL hA hk
  refine mF_put17 C (hini rfl) [.int 0, .int 0, .int 0, .int 0, .ref q4, .ref q5, .ref q6, .ref q7, .ref q8, .ref q9, .ref q10, .ref q11, .ref q12, .ref q13, .ref q14, .ref q15, .ref q16, .ref q17, .null, .null, .null] hPC68 (Nat.le_of_ble_eq_true rfl) rfl dX7_init_117 (fun f69 hPC70 => ?_)
  refine z_aload_n C 0 dX7_init_120 rfl ?_
  refine z_sipush C dX7_init_121 (by decide) ?_
  refine z_newa (ty := .int) C 0 2240 zl_1_62 rfl rfl rfl (fun U cA h => h) rfl (Nat.le_of_ble_eq_true rfl) (Nat.le_of_ble_eq_true rfl) (Nat.le_of_ble_eq_true rfl) (Nat.le_of_ble_eq_true rfl) dX7_init_124 (fun q18 L71 f72 hq hL hA hk => ?_)
  have hPC73 := zPC_new hPC70 hq hL hA hk
  clear hq hL hA hk
  refine mF_put18 C (hini rfl) [.int 0, .int 0, .int 0, .int 0, .ref q4, .ref q5, .ref q6, .ref q7, .ref q8, .ref q9, .ref q10, .ref q11, .ref q12, .ref q13, .ref q14, .ref q15, .ref q16, .ref q17, .ref q18, .null, .null] hPC73 (Nat.le_of_ble_eq_true rfl) rfl dX7_init_126 (fun f74 hPC75 => ?_)
  refine z_aload_n C 0 dX7_init_129 rfl ?_
  refine z_sipush C dX7_init_130 (by decide) ?_
  refine z_newa (ty := .int) C 0 2240 zl_1_62 rfl rfl rfl (fun U cA h => h) rfl (Nat.le_of_ble_eq_true rfl) (Nat.le_of_ble_eq_true rfl) (Nat.le_of_ble_eq_true rfl) (Nat.le_of_ble_eq_true rfl) dX7_init_133 (fun q19 L76 f77 hq hL hA hk => ?_)
  have hPC78 := zPC_new hPC75 hq hL hA hk
  clear hq hL hA hk
  refine mF_put19 C (hini rfl) [.int 0, .int 0, .int 0, .int 0, .ref q4, .ref q5, .ref q6, .ref q7, .ref q8, .ref q9, .ref q10, .ref q11, .ref q12, .ref q13, .ref q14, .ref q15, .ref q16, .ref q17, .ref q18, .ref q19, .null] hPC78 (Nat.le_of_ble_eq_true rfl) rfl dX7_init_135 (fun f79 hPC80 => ?_)
  refine z_aload_n C 0 dX7_init_138 rfl ?_
  refine z_bipush C dX7_init_139 (by decide) ?_
  refine z_newa (ty := .char) C 2 40 zl_6_163 rfl rfl rfl (fun U cA h => h) rfl (Nat.le_of_ble_eq_true rfl) (Nat.le_of_ble_eq_true rfl) (Nat.le_of_ble_eq_true rfl) (Nat.le_of_ble_eq_true rfl) dX7_init_141 (fun q20 L81 f82 hq hL hA hk => ?_)
  have hPC83 := zPC_new hPC80 hq hL hA hk
  clear hq hL hA hk
  refine mF_put20 C (hini rfl) [.int 0, .int 0, .int 0, .int 0, .ref q4, .ref q5, .ref q6, .ref q7, .ref q8, .ref q9, .ref q10, .ref q11, .ref q12, .ref q13, .ref q14, .ref q15, .ref q16, .ref q17, .ref q18, .ref q19, .ref q20] hPC83 (Nat.le_of_ble_eq_true rfl) rfl dX7_init_143 (fun f84 hPC85 => ?_)
  obtain ⟨ad, hM, hadL⟩ : ∃ ad, MR G L81 f84 o ad zMu0 0 (fun _ => 0) (fun _ => 0) ∧ ∀ i, 4 ≤ i → i ≤ 20 → ad i ∉ L := ⟨(zad [q4, q5, q6, q7, q8, q9, q10, q11, q12, q13, q14, q15, q16, q17, q18, q19, q20]), PC_MR hPC85, fun i h4 h20 => zad_L hPC85 (i := i - 4) (by show i - 4 < 17; omega)⟩
  have hLL := hPC85.2.2.2.1
  have hfr := hPC85.2.2.2.2.1
  refine z_iconst C dX7_init_146 ?_
  refine z_istore_n (ls' := [(1, .int (iI 0)), (0, .ref o)]) C dX7_init_147 (Nat.le_of_ble_eq_true rfl) rfl ?_
  have key148 : ∀ (n148 : Nat) (j : Int) (f99 : Nat → va_E), (0 ≤ j ∧ j ≤ 240 ∧ MR G L81 f99 o ad (zset zMu0 4 (zfill (fun _ => 0) 0 j 20)) 0 (fun _ => 0) (fun _ => 0) ∧ ∀ b ∈ L, b ≠ o → f99 b = f b) → 240 - j < (n148 : Int) → ZW G pZ la eZ (zRm 1 17 6319) sZ mZ aZ bZ hZ cZ AZ 2 17 6319 (MQ bZ (zQ G zeV (fun _ L' f' => (∃ ad, MR G L' f' o ad zMuS 0 (fun _ => 0) (fun _ => 0) ∧ (∀ i, 4 ≤ i → i ≤ 20 → ad i ∉ L)) ∧ (∀ b ∈ L, b ∈ L') ∧ (∀ b ∈ L, b ≠ o → f' b = f b)) AZ) aZ sZ 17 6319 AZ) L81 f99 148 [(0, .ref o), (1, .int (iI j))] [] := by
    intro n148
    induction n148 with
    | zero => intro j f99 hi148 hn148; exfalso; omega
    | succ n148 ih148 =>
      intro j f99 hi148 hn148
      obtain ⟨hj0, hj1, hM9, hfr9⟩ := hi148
      refine z_iload_n C 1 dX7_init_148 rfl ?_
      refine z_sipush C dX7_init_149 (by decide) ?_
      refine z_icmp_ge C 169 dX7_init_152 (by decide) (by omega) (by omega) (fun h152 => ?_) (fun h152 => ?_)
      · exact z_vreturn C dX7_init_169 (Nat.le_of_ble_eq_true rfl) (Nat.le_of_ble_eq_true rfl) ⟨⟨ad, by have q := hM9; rw [show j = 240 by omega] at q; exact q, hadL⟩, hLL, hfr9⟩
      · refine z_aload_n C 0 dX7_init_155 rfl ?_
        refine z_getf C 4 zin_X7 (hM9.1.1) (hM9.1.2) rfl (Nat.le_of_ble_eq_true rfl) zl_6_102 rfl rfl dX7_init_156 ?_
        refine z_iload_n C 1 dX7_init_159 rfl ?_
        refine z_bipush C dX7_init_160 (by decide) ?_
        refine z_iast C (MR_a4 hM9) (by omega) (by omega) (by omega) dX7_init_162 (fun f86 ha87 hk88 => ?_)
        have hM89 := MR_w4 hM9 ha87 hk88
        refine z_iinc (ls' := [(1, .int (iI (j + 1))), (0, .ref o)]) C 1 dX7_init_163 rfl (Nat.le_of_ble_eq_true rfl) rfl ?_
        refine z_goto C 148 dX7_init_166 (by decide) ?_
        refine z_perm [1, 0] rfl ?_
        exact ih148 _ _ ⟨by omega, by omega, by have q := hM89; rw [zset_s, zset_zset, zfill_1 _ (by omega)] at q; exact q, fun b hb hbo => by rw [hk88 b (fun z => hadL 4 (by decide) (by decide) (z ▸ hb))]; exact hfr9 b hb hbo⟩ (by omega)
  refine z_perm [1, 0] rfl ?_
  exact key148 2000 _ _ ⟨by omega, by omega, by rw [zfill_0, show zset zMu0 4 (fun _ => 0) = zMu0 from zset_id zMu0 4]; exact hM, hfr⟩ (by omega)
