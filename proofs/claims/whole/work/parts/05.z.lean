/-! ===== the layer of this claim: one world (the pool L, f), the heap and the locals' array hidden; numbers as iI z, z : Int ===== -/
def iI (z : Int) : Int32 := Int32.ofInt z
theorem iI_add (a b : Int) : iI a + iI b = iI (a + b) := (Int32.ofInt_add a b).symm
theorem iI_sub (a b : Int) : iI a - iI b = iI (a - b) := (Int32.ofInt_sub a b).symm
theorem iI_mul (a b : Int) : iI a * iI b = iI (a * b) := (Int32.ofInt_mul a b).symm
theorem iI_neg (a : Int) : -iI a = iI (-a) := (Int32.ofInt_neg a).symm
abbrev zR (z : Int) : Prop := -2147483648 ≤ z ∧ z < 2147483648
theorem iI_toInt {z : Int} (h : zR z) : (iI z).toInt = z := by
  unfold iI
  rw [Int32.toInt_ofInt]
  show Int.bmod z 4294967296 = z
  exact Int.bmod_eq_of_le (by omega) (by omega)
theorem iI_of (x : Int32) : x = iI x.toInt := by unfold iI; rw [Int32.ofInt_toInt]
theorem iI_rng (x : Int32) : zR x.toInt := ⟨Int32.le_toInt x, Int32.toInt_lt x⟩
theorem iI_eq {a b : Int} (ha : zR a) (hb : zR b) : iI a = iI b ↔ a = b := by
  constructor
  · intro h
    have := congrArg Int32.toInt h
    rwa [iI_toInt ha, iI_toInt hb] at this
  · intro h; rw [h]
theorem iI_lt {a b : Int} (ha : zR a) (hb : zR b) : iI a < iI b ↔ a < b := by
  rw [Int32.lt_iff_toInt_lt, iI_toInt ha, iI_toInt hb]
theorem iI_le {a b : Int} (ha : zR a) (hb : zR b) : iI a ≤ iI b ↔ a ≤ b := by
  rw [Int32.le_iff_toInt_le, iI_toInt ha, iI_toInt hb]
theorem iI_0 : iI 0 = 0 := rfl
theorem iI_nat (n : Nat) : nI n = iI (n : Int) := by
  unfold nI iI
  exact (Int32.ofInt_eq_ofNat).symm
theorem iI_clamp {z : Int} (h0 : 0 ≤ z) (h1 : z < 2147483648) : (iI z).toNatClampNeg = z.toNat := by
  show (iI z).toInt.toNat = z.toNat
  rw [iI_toInt ⟨by omega, h1⟩]
theorem iI_in {z : Int} {n : Nat} (hn : n < 2147483648) (h0 : 0 ≤ z) (h1 : z < n) : vp_in (iI z) n := by
  have h := iI_toInt (z := z) ⟨by omega, by omega⟩
  exact vp_in_iff.mpr ⟨by omega, by omega⟩
theorem iI_div {a b : Int} (ha : zR a) (hb : zR b) (h : ¬ (a = -2147483648 ∧ b = -1)) : iI a / iI b = iI (a.tdiv b) := by
  apply Int32.toInt_inj.mp
  rw [Int32.toInt_div, iI_toInt ha, iI_toInt hb]
  have hq : zR (a.tdiv b) := by
    have h1 := Int.natAbs_tdiv_le_natAbs a b
    unfold zR at ha hb ⊢
    rcases Int.lt_trichotomy b 0 with hb0 | hb0 | hb0
    · by_cases hb1 : b = -1
      · subst hb1
        have : a.tdiv (-1) = -a := by rw [Int.tdiv_neg, Int.tdiv_one]
        omega
      · have h2 : (a.tdiv b).natAbs ≤ a.natAbs / 2 := by
          rw [Int.natAbs_tdiv]
          exact Nat.div_le_div_left (by omega) (by omega)
        omega
    · subst hb0
      rw [Int.tdiv_zero]
      omega
    · by_cases ha0 : 0 ≤ a
      · have := Int.tdiv_nonneg ha0 (Int.le_of_lt hb0)
        omega
      · have h3 : (-a).tdiv b = -(a.tdiv b) := Int.neg_tdiv ..
        have := Int.tdiv_nonneg (show (0 : Int) ≤ -a by omega) (Int.le_of_lt hb0)
        omega
  rw [iI_toInt hq]
  unfold zR at hq
  show Int.bmod (a.tdiv b) 4294967296 = a.tdiv b
  exact Int.bmod_eq_of_le (by omega) (by omega)

theorem z_cv_eq {a b : Int} : (zR a → zR b → iI a = iI b → a = b) ∧ (zR a → zR b → ¬ iI a = iI b → a ≠ b) := ⟨fun ha hb h => (iI_eq ha hb).mp h, fun ha hb h z => h ((iI_eq ha hb).mpr z)⟩
theorem z_cv_ne {a b : Int} : (zR a → zR b → ¬ iI a = iI b → a ≠ b) ∧ (zR a → zR b → iI a = iI b → a = b) := ⟨z_cv_eq.2, z_cv_eq.1⟩
theorem z_cv_lt {a b : Int} : (zR a → zR b → iI a < iI b → a < b) ∧ (zR a → zR b → ¬ iI a < iI b → b ≤ a) := ⟨fun ha hb h => (iI_lt ha hb).mp h, fun ha hb h => Int.not_lt.mp (fun z => h ((iI_lt ha hb).mpr z))⟩
theorem z_cv_ge {a b : Int} : (zR a → zR b → iI b ≤ iI a → b ≤ a) ∧ (zR a → zR b → ¬ iI b ≤ iI a → a < b) := ⟨fun ha hb h => (iI_le hb ha).mp h, fun ha hb h => Int.not_le.mp (fun z => h ((iI_le hb ha).mpr z))⟩
theorem z_cv_gt {a b : Int} : (zR a → zR b → iI b < iI a → b < a) ∧ (zR a → zR b → ¬ iI b < iI a → a ≤ b) := ⟨fun ha hb h => (iI_lt hb ha).mp h, fun ha hb h => Int.not_lt.mp (fun z => h ((iI_lt hb ha).mpr z))⟩
theorem z_cv_le {a b : Int} : (zR a → zR b → iI a ≤ iI b → a ≤ b) ∧ (zR a → zR b → ¬ iI a ≤ iI b → b < a) := ⟨fun ha hb h => (iI_le ha hb).mp h, fun ha hb h => Int.not_le.mp (fun z => h ((iI_le ha hb).mpr z))⟩
/-- what a condition is worth as an int -/
def bI (c : Prop) [Decidable c] : Int := if c then 1 else 0

abbrev zG : Type := va_G × (Nat → ClassId)
def zY (G : zG) : List (ClassId × FieldType) := [(G.2 0, .int), (G.2 1, .boolean), (G.2 2, .char), (G.2 3, .byte), (G.2 4, .long), (G.2 5, .double), (G.2 6, .object "SwathSurvey$Gauge"), (G.2 7, .object "SwathSurvey$Line")]
def zRm (k mc ms : Nat) : Room := { frames := k, cells := mc, slots := ms, locals := 60 * k }
/-- the world behind a method -/
def zB (G : zG) (A : Nat → Prop) (L : List Nat) (f : Nat → va_E) (t : State) : Prop := va_P G.1 vwCl (va_pl L f) t.heap ∧ va_K G.1 vwCl (zY G) t ∧ va_D A (va_pl L f)
def zQ {ρ : Type} (G : zG) (en : ρ → Option Value) (R : ρ → List Nat → (Nat → va_E) → Prop) (A : Nat → Prop) : Array Value → State → Outcome → State → Prop := fun _ st oc t =>
  (∃ (z : ρ) (L' : List Nat) (f' : Nat → va_E), oc = .returned (en z) ∧ R z L' f' ∧ zB G A L' f' t) ∧ va_F A st t
abbrev zeI : Int → Option Value := fun z => some (.int (iI z))
abbrev zeV : Unit → Option Value := fun _ => none
abbrev zeR : Nat → Option Value := fun a => some (.ref a)
abbrev zeQ : Option Nat → Option Value := fun r => some (va_rf r)
abbrev zeL : Int64 → Option Value := fun z => some (.long z)
/-- the words of private members of nest mates -/
def zNests : List Cond := [(Jvm.Cond.methodLinkNest "SwathSurvey" (9 : Nat) ({ cls := "SwathSurvey$Sea", name := "<init>", desc := "()V" } : Jvm.MethodName) "SwathSurvey"), (Jvm.Cond.methodLinkNest "SwathSurvey" (18 : Nat) ({ cls := "SwathSurvey$Gauges", name := "<init>", desc := "()V" } : Jvm.MethodName) "SwathSurvey"), (Jvm.Cond.methodLinkNest "SwathSurvey" (35 : Nat) ({ cls := "SwathSurvey$Chart", name := "<init>", desc := "()V" } : Jvm.MethodName) "SwathSurvey"), (Jvm.Cond.methodLinkNest "SwathSurvey$Line" (56 : Nat) ({ cls := "SwathSurvey", name := "hoursBehind", desc := "(II)I" } : Jvm.MethodName) "SwathSurvey"), (Jvm.Cond.methodLinkNest "SwathSurvey$Gauge" (24 : Nat) ({ cls := "SwathSurvey", name := "hourNumber", desc := "(II)I" } : Jvm.MethodName) "SwathSurvey"), (Jvm.Cond.methodLinkNest "SwathSurvey$Sea" (36 : Nat) ({ cls := "SwathSurvey", name := "hourNumber", desc := "(II)I" } : Jvm.MethodName) "SwathSurvey"), (Jvm.Cond.methodLinkNest "SwathSurvey$Gauge" (48 : Nat) ({ cls := "SwathSurvey", name := "between", desc := "(IIII)I" } : Jvm.MethodName) "SwathSurvey"), (Jvm.Cond.methodLinkNest "SwathSurvey$Gauges" (37 : Nat) ({ cls := "SwathSurvey", name := "between", desc := "(IIII)I" } : Jvm.MethodName) "SwathSurvey"), (Jvm.Cond.methodLinkNest "SwathSurvey$Chart" (24 : Nat) ({ cls := "SwathSurvey", name := "cellNumber", desc := "(II)I" } : Jvm.MethodName) "SwathSurvey"), (Jvm.Cond.methodLinkNest "SwathSurvey$Sea" (29 : Nat) ({ cls := "SwathSurvey", name := "cellNumber", desc := "(II)I" } : Jvm.MethodName) "SwathSurvey"), (Jvm.Cond.methodLinkNest "SwathSurvey$Line" (85 : Nat) ({ cls := "SwathSurvey", name := "cellNumber", desc := "(II)I" } : Jvm.MethodName) "SwathSurvey")]
/-- the Strings of the tables: own, place, text -/
def zStrs : List (String × Nat × String) := [("SwathSurvey", 227, "no such cell"), ("SwathSurvey", 53, "the depth is out of range"), ("SwathSurvey", 311, "no such day or hour"), ("SwathSurvey", 65, "the height is out of range"), ("SwathSurvey", 306, "no such day"), ("SwathSurvey", 77, "the slope is out of range"), ("SwathSurvey", 304, "no such column"), ("SwathSurvey", 89, "the weather is out of range"), ("SwathSurvey", 100, "a gauge stands there"), ("SwathSurvey", 109, "there are all gauges"), ("SwathSurvey", 325, "no such gauge"), ("SwathSurvey", 120, "the end is out of range"), ("SwathSurvey", 139, "the gauge tells nothing"), ("SwathSurvey", 145, "the tide is not known"), ("SwathSurvey", 147, "no such kind"), ("SwathSurvey", 313, "no such row, column or cell"), ("SwathSurvey", 318, "the weather is too bad"), ("SwathSurvey", 163, "the line has no place"), ("SwathSurvey", 327, "no such line"), ("SwathSurvey", 332, "no such sounding"), ("SwathSurvey", 186, "the error is out of range"), ("SwathSurvey", 320, "the cell has no depth"), ("SwathSurvey", 230, "all cells have a depth"), ("SwathSurvey", 245, "the lines do not cross"), ("SwathSurvey", 251, "a sounding is not reduced"), ("SwathSurvey", 262, "no such pair"), ("SwathSurvey", 276, "no cell has a depth"), ("java/lang/StringIndexOutOfBoundsException", 13, "String index out of range: "), ("java/util/Arrays", 337, " > "), ("java/util/Arrays", 48, "fromIndex("), ("java/util/Arrays", 57, ") > toIndex("), ("java/util/Arrays", 59, ")"), ("java/lang/ArrayIndexOutOfBoundsException", 13, "Array index out of range: "), ("SwathSurvey$Line", 146, "good"), ("SwathSurvey$Line", 151, "bad"), ("SwathSurvey$Line", 153, "part"), ("SwathSurvey", 294, "no such character"), ("SwathSurveyModel", 220, " good"), ("SwathSurveyModel", 222, " bad"), ("SwathSurveyModel", 224, " part")]
/-- what lies outside of all worlds, and what the tables say that may be found anew -/
def zE0 (A : Nat → Prop) (s : State) : Prop := (∀ w ∈ zNests, va_Nw w s) ∧ vx_Zq Bundle.tN "UNASSIGNED_STACK" Bundle.steD A s s.heap ∧ vx_Zq Bundle.tN "SUPPRESSED_SENTINEL" Bundle.listD A s s.heap ∧ ∀ q ∈ zStrs, ∃ a, vk_R q.1 q.2.1 q.2.2 a s
def zPre (G : zG) (L : List Nat) (f : Nat → va_E) (sz : Nat) (X : (Nat → Prop) → State → Prop) (U : State) : Prop := U.heap.size = sz ∧ va_P G.1 vwCl (va_pl L f) U.heap ∧ va_K G.1 vwCl (zY G) U ∧ va_D (fun _ => True) (va_pl L f) ∧ X (va_A (va_pl L f) sz) U
/-- what lies outside of all worlds and is as it was: kept by what a method does, and over a call -/
def zX (X : (Nat → Prop) → State → Prop) : Prop :=
  (∀ (A : Nat → Prop) (s U : State), X A s → s.WarmedH U.vm → (∀ q : Nat, q < s.heap.size → ¬ A q → U.heap[q]? = s.heap[q]?) → X A U) ∧
  (∀ (A B : Nat → Prop) (s : State), X A s → (∀ q, B q → A q) → X B s) ∧
  (∀ (A : Nat → Prop) (s : State) (g : JFrame) (mk : MethodId) (a : Array Value), X A s → X A (s.calling g mk a)) ∧
  (∀ (A : Nat → Prop) (s : State), X A s → zE0 A s)
/-- a method's contract over the one world -/
def zM {ρ : Type} (l : Launch) (G : zG) (X : (Nat → Prop) → State → Prop) (y : MethodName) (ws : List Cond) (k mc ms : Nat) (av : List Value) (L : List Nat) (f : Nat → va_E) (en : ρ → Option Value) (R : ρ → List Nat → (Nat → va_E) → Prop) : Prop :=
  ∀ sz : Nat, Met l y ws (zRm k mc ms) (va_Pc av (zPre G L f sz X)) (zQ G en R (va_A (va_pl L f) sz)) mc ms (va_A (va_pl L f) sz)
theorem zpl_set {A : Nat → Prop} {L : List Nat} {f : Nat → va_E} {a k : Nat} {e : va_E} (hD : va_D A (va_pl L f)) (h : a ∈ L) (hk : (va_pl L f)[k]? = some (a, f a)) : (va_pl L f).set k (a, e) = va_pl L (va_up f a e) := va_pl_set (X := []) hD h hk
section ZL
variable {p : Program} {l : Launch} {e : Env} {R : Room} {s : State} {m : MethodId} {args : Array Value} {below : List Frame} {meth : Method} {c : Code} {cells slots : Nat} {Q : State → Prop}
variable {G : zG} {X : (Nat → Prop) → State → Prop} {A : Nat → Prop} {nL : Nat} {L : List Nat} {f : Nat → va_E} {cc : ByteArray} {own : String} {pc : Nat} {ls : List (Nat × Value)} {st : List Value} {ret : Option FieldType}
/-- the machine stands at pc with these locals and this stack, the world being (L, f); it comes to Q -/
def ZW (G : zG) (p : Program) (l : Launch) (e : Env) (R : Room) (s : State) (m : MethodId) (args : Array Value) (below : List Frame) (meth : Method) (c : Code) (A : Nat → Prop) (nL cells slots : Nat) (Q : State → Prop) (L : List Nat) (f : Nat → va_E) (pc : Nat) (ls : List (Nat × Value)) (st : List Value) : Prop :=
  ∀ (H : Heap) (locs : List Loc) (la : Array Slot), va_P G.1 vwCl (va_pl L f) H → va_D A (va_pl L f) → va_S A s.heap H locs → lv_has la nL ls → W p l e R s m args below meth c H locs cells slots Q (F0 m pc la st)
/-- what stays through a method's body -/
def ZC (G : zG) (X : (Nat → Prop) → State → Prop) (p : Program) (l : Launch) (s : State) (m : MethodId) (args : Array Value) (meth : Method) (c : Code) (A : Nat → Prop) (nL : Nat) (ret : Option FieldType) (cc : ByteArray) (own : String) : Prop :=
  p.tables.exec = Jvm.exec ∧ c.code = cc ∧ c.maxLocals = nL ∧ s.vm.findClass own = some m.cls ∧ (∀ w ∈ zT, w.before args s = true) ∧ va_K G.1 vwCl (zY G) s ∧ (∀ q, s.heap.size ≤ q → A q) ∧ meth.locks = false ∧ meth.sig.returnType = ret ∧ X A s ∧ zX X
theorem ZC.w (C : ZC G X p l s m args meth c A nL ret cc own) {w : Cond} (h : w ∈ lw_tbl) (g : goodWord w = true) : w.before args s = true := C.2.2.2.2.1 w (zT_of h g)
theorem z_perm {ls' : List (Nat × Value)} (ks : List Nat) (h : lv_pick ls ks = ls') (K : ZW G p l e R s m args below meth c A nL cells slots Q L f pc ls' st) : ZW G p l e R s m args below meth c A nL cells slots Q L f pc ls st :=
  fun H locs la hP hD hS hl => K H locs la hP hD hS (lv_sub hl ks h)
/-- a name for the number on top -/
theorem z_nm {a : Int} (K : ∀ x : Int, x = a → ZW G p l e R s m args below meth c A nL cells slots Q L f pc ls (.int (iI x) :: st)) : ZW G p l e R s m args below meth c A nL cells slots Q L f pc ls (.int (iI a) :: st) := K a rfl
theorem z_eq {a b : Int} (h : a = b) (K : ZW G p l e R s m args below meth c A nL cells slots Q L f pc ls (.int (iI b) :: st)) : ZW G p l e R s m args below meth c A nL cells slots Q L f pc ls (.int (iI a) :: st) := h ▸ K
theorem z_iconst (C : ZC G X p l s m args meth c A nL ret cc own) {n : Int} (hd : decode cc pc = .ok (.iconst n, 1)) (K : ZW G p l e R s m args below meth c A nL cells slots Q L f (pc + 1) ls (.int (iI n) :: st)) : ZW G p l e R s m args below meth c A nL cells slots Q L f pc ls st :=
  fun H locs la hP hD hS hl => lv_iconst C.1 C.2.1 hd rfl (K H locs la hP hD hS hl)
theorem z_bv8 {n : Int} (h : -128 ≤ n ∧ n < 128) : (Int8.ofInt n).toInt32 = iI n := by
  apply Int32.toInt_inj.mp
  rw [iI_toInt ⟨by omega, by omega⟩, Int8.toInt_toInt32, Int8.toInt_ofInt]
  show Int.bmod n 256 = n
  exact Int.bmod_eq_of_le (by omega) (by omega)
theorem z_bv16 {n : Int} (h : -32768 ≤ n ∧ n < 32768) : (Int16.ofInt n).toInt32 = iI n := by
  apply Int32.toInt_inj.mp
  rw [iI_toInt ⟨by omega, by omega⟩, Int16.toInt_toInt32, Int16.toInt_ofInt]
  show Int.bmod n 65536 = n
  exact Int.bmod_eq_of_le (by omega) (by omega)
theorem z_bipush (C : ZC G X p l s m args meth c A nL ret cc own) {n : Int} (hd : decode cc pc = .ok (.bipush n, 2)) (hv : -128 ≤ n ∧ n < 128) (K : ZW G p l e R s m args below meth c A nL cells slots Q L f (pc + 2) ls (.int (iI n) :: st)) : ZW G p l e R s m args below meth c A nL cells slots Q L f pc ls st :=
  fun H locs la hP hD hS hl => lv_bipush C.1 C.2.1 hd (z_bv8 hv) (K H locs la hP hD hS hl)
theorem z_sipush (C : ZC G X p l s m args meth c A nL ret cc own) {n : Int} (hd : decode cc pc = .ok (.sipush n, 3)) (hv : -32768 ≤ n ∧ n < 32768) (K : ZW G p l e R s m args below meth c A nL cells slots Q L f (pc + 3) ls (.int (iI n) :: st)) : ZW G p l e R s m args below meth c A nL cells slots Q L f pc ls st :=
  fun H locs la hP hD hS hl => lv_sipush C.1 C.2.1 hd (z_bv16 hv) (K H locs la hP hD hS hl)
theorem z_ldc (C : ZC G X p l s m args meth c A nL ret cc own) {index : Nat} {v : Int32} {n : Int} (hw : Cond.constant own index v ∈ lw_tbl) (hv : v = iI n) (hd : decode cc pc = .ok (.ldc index, 2)) (K : ZW G p l e R s m args below meth c A nL cells slots Q L f (pc + 2) ls (.int (iI n) :: st)) : ZW G p l e R s m args below meth c A nL cells slots Q L f pc ls st :=
  fun H locs la hP hD hS hl => lv_ldc C.1 C.2.1 C.2.2.2.1 (C.w hw rfl) hd (by rw [hv]; exact K H locs la hP hD hS hl)
theorem z_iload_n (C : ZC G X p l s m args meth c A nL ret cc own) {k : Fin 4} (j : Nat) {x : Int32} (hd : decode cc pc = .ok (.iload_n k, 1)) (hl : ls[j]? = some ((k : Nat), .int x)) (K : ZW G p l e R s m args below meth c A nL cells slots Q L f (pc + 1) ls (.int x :: st)) : ZW G p l e R s m args below meth c A nL cells slots Q L f pc ls st :=
  fun H locs la hP hD hS h => lv_iload_n C.1 C.2.1 hd rfl (lv_at h j hl) (K H locs la hP hD hS h)
theorem z_iload (C : ZC G X p l s m args meth c A nL ret cc own) {k : Nat} (j : Nat) {x : Int32} (hd : decode cc pc = .ok (.iload k, 2)) (hl : ls[j]? = some (k, .int x)) (K : ZW G p l e R s m args below meth c A nL cells slots Q L f (pc + 2) ls (.int x :: st)) : ZW G p l e R s m args below meth c A nL cells slots Q L f pc ls st :=
  fun H locs la hP hD hS h => lv_iload C.1 C.2.1 hd (lv_at h j hl) (K H locs la hP hD hS h)
theorem z_aload_n (C : ZC G X p l s m args meth c A nL ret cc own) {k : Fin 4} (j : Nat) {x : Nat} (hd : decode cc pc = .ok (.aload_n k, 1)) (hl : ls[j]? = some ((k : Nat), .ref x)) (K : ZW G p l e R s m args below meth c A nL cells slots Q L f (pc + 1) ls (.ref x :: st)) : ZW G p l e R s m args below meth c A nL cells slots Q L f pc ls st :=
  fun H locs la hP hD hS h => lv_aload_n C.1 C.2.1 hd rfl (lv_at h j hl) (K H locs la hP hD hS h)
theorem z_aload (C : ZC G X p l s m args meth c A nL ret cc own) {k : Nat} (j : Nat) {x : Nat} (hd : decode cc pc = .ok (.aload k, 2)) (hl : ls[j]? = some (k, .ref x)) (K : ZW G p l e R s m args below meth c A nL cells slots Q L f (pc + 2) ls (.ref x :: st)) : ZW G p l e R s m args below meth c A nL cells slots Q L f pc ls st :=
  fun H locs la hP hD hS h => lv_aload C.1 C.2.1 hd (lv_at h j hl) (K H locs la hP hD hS h)
theorem z_istore_n (C : ZC G X p l s m args meth c A nL ret cc own) {k : Fin 4} {x : Int32} {ls' : List (Nat × Value)} (hd : decode cc pc = .ok (.istore_n k, 1)) (hn : (k : Nat) < nL) (hl : ((k : Nat), Value.int x) :: ls.filter (fun q => !(q.1 == (k : Nat)) && !(q.1 + 1 == (k : Nat) && q.2.category == 2)) = ls') (K : ZW G p l e R s m args below meth c A nL cells slots Q L f (pc + 1) ls' st) : ZW G p l e R s m args below meth c A nL cells slots Q L f pc ls (.int x :: st) :=
  fun H locs la hP hD hS h => lv_istore_n C.1 C.2.1 hd rfl h hn hl (fun la' h' => K H locs la' hP hD hS h')
theorem z_istore (C : ZC G X p l s m args meth c A nL ret cc own) {k : Nat} {x : Int32} {ls' : List (Nat × Value)} (hd : decode cc pc = .ok (.istore k, 2)) (hn : k < nL) (hl : (k, Value.int x) :: ls.filter (fun q => !(q.1 == k) && !(q.1 + 1 == k && q.2.category == 2)) = ls') (K : ZW G p l e R s m args below meth c A nL cells slots Q L f (pc + 2) ls' st) : ZW G p l e R s m args below meth c A nL cells slots Q L f pc ls (.int x :: st) :=
  fun H locs la hP hD hS h => lv_istore C.1 C.2.1 hd h hn hl (fun la' h' => K H locs la' hP hD hS h')
theorem z_astore_n (C : ZC G X p l s m args meth c A nL ret cc own) {k : Fin 4} {x : Nat} {ls' : List (Nat × Value)} (hd : decode cc pc = .ok (.astore_n k, 1)) (hn : (k : Nat) < nL) (hl : ((k : Nat), Value.ref x) :: ls.filter (fun q => !(q.1 == (k : Nat)) && !(q.1 + 1 == (k : Nat) && q.2.category == 2)) = ls') (K : ZW G p l e R s m args below meth c A nL cells slots Q L f (pc + 1) ls' st) : ZW G p l e R s m args below meth c A nL cells slots Q L f pc ls (.ref x :: st) :=
  fun H locs la hP hD hS h => lv_astore_n C.1 C.2.1 hd rfl h hn hl (fun la' h' => K H locs la' hP hD hS h')
theorem z_iinc (C : ZC G X p l s m args meth c A nL ret cc own) {k : Nat} (j : Nat) {n a : Int} {ls' : List (Nat × Value)} (hd : decode cc pc = .ok (.iinc k n, 3)) (hk : ls[j]? = some (k, .int (iI a))) (hn : k < nL) (hl : (k, Value.int (iI (a + n))) :: ls.filter (fun q => !(q.1 == k) && !(q.1 + 1 == k && q.2.category == 2)) = ls') (K : ZW G p l e R s m args below meth c A nL cells slots Q L f (pc + 3) ls' st) : ZW G p l e R s m args below meth c A nL cells slots Q L f pc ls st :=
  fun H locs la hP hD hS h => lv_iinc C.1 C.2.1 hd h hk (iI_add a n) hn hl (fun la' h' => K H locs la' hP hD hS h')
theorem z_dup (C : ZC G X p l s m args meth c A nL ret cc own) {v : Value} (hd : decode cc pc = .ok (.dup, 1)) (hv : v.category = 1) (K : ZW G p l e R s m args below meth c A nL cells slots Q L f (pc + 1) ls (v :: v :: st)) : ZW G p l e R s m args below meth c A nL cells slots Q L f pc ls (v :: st) :=
  fun H locs la hP hD hS hl => lv_dup C.1 C.2.1 hd hv (K H locs la hP hD hS hl)
theorem z_dup_x1 (C : ZC G X p l s m args meth c A nL ret cc own) {v w : Value} (hd : decode cc pc = .ok (.dup_x1, 1)) (hv : v.category = 1) (hw : w.category = 1) (K : ZW G p l e R s m args below meth c A nL cells slots Q L f (pc + 1) ls (v :: w :: v :: st)) : ZW G p l e R s m args below meth c A nL cells slots Q L f pc ls (v :: w :: st) :=
  fun H locs la hP hD hS hl => lv_dup_x1 C.1 C.2.1 hd hv hw (K H locs la hP hD hS hl)
theorem z_pop (C : ZC G X p l s m args meth c A nL ret cc own) {v : Value} (hd : decode cc pc = .ok (.pop, 1)) (hv : v.category = 1) (K : ZW G p l e R s m args below meth c A nL cells slots Q L f (pc + 1) ls st) : ZW G p l e R s m args below meth c A nL cells slots Q L f pc ls (v :: st) :=
  fun H locs la hP hD hS hl => lv_pop C.1 C.2.1 hd hv (K H locs la hP hD hS hl)
theorem z_iadd (C : ZC G X p l s m args meth c A nL ret cc own) {a b : Int} (hd : decode cc pc = .ok (.iadd, 1)) (K : ZW G p l e R s m args below meth c A nL cells slots Q L f (pc + 1) ls (.int (iI (a + b)) :: st)) : ZW G p l e R s m args below meth c A nL cells slots Q L f pc ls (.int (iI b) :: .int (iI a) :: st) :=
  fun H locs la hP hD hS hl => lv_iadd C.1 C.2.1 hd (by rw [iI_add]; exact K H locs la hP hD hS hl)
theorem z_isub (C : ZC G X p l s m args meth c A nL ret cc own) {a b : Int} (hd : decode cc pc = .ok (.isub, 1)) (K : ZW G p l e R s m args below meth c A nL cells slots Q L f (pc + 1) ls (.int (iI (a - b)) :: st)) : ZW G p l e R s m args below meth c A nL cells slots Q L f pc ls (.int (iI b) :: .int (iI a) :: st) :=
  fun H locs la hP hD hS hl => lv_isub C.1 C.2.1 hd (by rw [iI_sub]; exact K H locs la hP hD hS hl)
theorem z_imul (C : ZC G X p l s m args meth c A nL ret cc own) {a b : Int} (hd : decode cc pc = .ok (.imul, 1)) (K : ZW G p l e R s m args below meth c A nL cells slots Q L f (pc + 1) ls (.int (iI (a * b)) :: st)) : ZW G p l e R s m args below meth c A nL cells slots Q L f pc ls (.int (iI b) :: .int (iI a) :: st) :=
  fun H locs la hP hD hS hl => lv_imul C.1 C.2.1 hd (by rw [iI_mul]; exact K H locs la hP hD hS hl)
theorem z_ineg (C : ZC G X p l s m args meth c A nL ret cc own) {a : Int} (hd : decode cc pc = .ok (.ineg, 1)) (K : ZW G p l e R s m args below meth c A nL cells slots Q L f (pc + 1) ls (.int (iI (-a)) :: st)) : ZW G p l e R s m args below meth c A nL cells slots Q L f pc ls (.int (iI a) :: st) :=
  fun H locs la hP hD hS hl => lv_ineg C.1 C.2.1 hd (by rw [iI_neg]; exact K H locs la hP hD hS hl)
theorem z_idiv (C : ZC G X p l s m args meth c A nL ret cc own) {a b : Int} (hd : decode cc pc = .ok (.idiv, 1)) (ha : zR a) (hb : 0 < b ∧ b < 2147483648) (K : ZW G p l e R s m args below meth c A nL cells slots Q L f (pc + 1) ls (.int (iI (a.tdiv b)) :: st)) : ZW G p l e R s m args below meth c A nL cells slots Q L f pc ls (.int (iI b) :: .int (iI a) :: st) :=
  fun H locs la hP hD hS hl => lv_idiv C.1 C.2.1 hd (by rw [← iI_0]; intro h; have := (iI_eq ⟨by omega, hb.2⟩ ⟨by omega, by omega⟩).mp h; omega) (by rw [iI_div ha ⟨by omega, hb.2⟩ (by omega)]; exact K H locs la hP hD hS hl)
theorem z_irem (C : ZC G X p l s m args meth c A nL ret cc own) {a b : Int} (hd : decode cc pc = .ok (.irem, 1)) (ha : zR a) (hb : 0 < b ∧ b < 2147483648) (K : ZW G p l e R s m args below meth c A nL cells slots Q L f (pc + 1) ls (.int (iI (a.tmod b)) :: st)) : ZW G p l e R s m args below meth c A nL cells slots Q L f pc ls (.int (iI b) :: .int (iI a) :: st) :=
  fun H locs la hP hD hS hl => lv_irem C.1 C.2.1 hd (by rw [← iI_0]; intro h; have := (iI_eq ⟨by omega, hb.2⟩ ⟨by omega, by omega⟩).mp h; omega) (by rw [iI_div ha ⟨by omega, hb.2⟩ (by omega), iI_mul, iI_sub, show a - a.tdiv b * b = a.tmod b by rw [Int.tmod_def, Int.mul_comm]]; exact K H locs la hP hD hS hl)
theorem z_goto (C : ZC G X p l s m args meth c A nL ret cc own) {off : Int} (tgt : Nat) (hd : decode cc pc = .ok (.goto off, 3)) (ht : (pc : Int) + off = (tgt : Int)) (K : ZW G p l e R s m args below meth c A nL cells slots Q L f tgt ls st) : ZW G p l e R s m args below meth c A nL cells slots Q L f pc ls st :=
  fun H locs la hP hD hS hl => lv_goto C.1 C.2.1 hd ht (K H locs la hP hD hS hl)
theorem z_icmp_eq (C : ZC G X p l s m args meth c A nL ret cc own) {a b : Int} {off : Int} (tgt : Nat) (hd : decode cc pc = .ok (.if_icmp .eq off, 3)) (ht : (pc : Int) + off = (tgt : Int)) (ha : zR a) (hb : zR b) (K1 : a = b → ZW G p l e R s m args below meth c A nL cells slots Q L f tgt ls st) (K2 : a ≠ b → ZW G p l e R s m args below meth c A nL cells slots Q L f (pc + 3) ls st) : ZW G p l e R s m args below meth c A nL cells slots Q L f pc ls (.int (iI b) :: .int (iI a) :: st) :=
  fun H locs la hP hD hS hl => lv_icmp_eq C.1 C.2.1 hd ht (fun h => K1 (z_cv_eq.1 ha hb h) H locs la hP hD hS hl) (fun h => K2 (z_cv_eq.2 ha hb h) H locs la hP hD hS hl)
theorem z_if_eq (C : ZC G X p l s m args meth c A nL ret cc own) {a : Int} {off : Int} (tgt : Nat) (hd : decode cc pc = .ok (.ifCond .eq off, 3)) (ht : (pc : Int) + off = (tgt : Int)) (ha : zR a) (K1 : a = 0 → ZW G p l e R s m args below meth c A nL cells slots Q L f tgt ls st) (K2 : a ≠ 0 → ZW G p l e R s m args below meth c A nL cells slots Q L f (pc + 3) ls st) : ZW G p l e R s m args below meth c A nL cells slots Q L f pc ls (.int (iI a) :: st) :=
  fun H locs la hP hD hS hl => lv_if_eq C.1 C.2.1 hd ht (fun h => K1 (z_cv_eq.1 ha (⟨by omega, by omega⟩ : zR 0) h) H locs la hP hD hS hl) (fun h => K2 (z_cv_eq.2 ha (⟨by omega, by omega⟩ : zR 0) h) H locs la hP hD hS hl)
theorem z_icmp_ne (C : ZC G X p l s m args meth c A nL ret cc own) {a b : Int} {off : Int} (tgt : Nat) (hd : decode cc pc = .ok (.if_icmp .ne off, 3)) (ht : (pc : Int) + off = (tgt : Int)) (ha : zR a) (hb : zR b) (K1 : a ≠ b → ZW G p l e R s m args below meth c A nL cells slots Q L f tgt ls st) (K2 : a = b → ZW G p l e R s m args below meth c A nL cells slots Q L f (pc + 3) ls st) : ZW G p l e R s m args below meth c A nL cells slots Q L f pc ls (.int (iI b) :: .int (iI a) :: st) :=
  fun H locs la hP hD hS hl => lv_icmp_ne C.1 C.2.1 hd ht (fun h => K1 (z_cv_ne.1 ha hb h) H locs la hP hD hS hl) (fun h => K2 (z_cv_ne.2 ha hb h) H locs la hP hD hS hl)
theorem z_if_ne (C : ZC G X p l s m args meth c A nL ret cc own) {a : Int} {off : Int} (tgt : Nat) (hd : decode cc pc = .ok (.ifCond .ne off, 3)) (ht : (pc : Int) + off = (tgt : Int)) (ha : zR a) (K1 : a ≠ 0 → ZW G p l e R s m args below meth c A nL cells slots Q L f tgt ls st) (K2 : a = 0 → ZW G p l e R s m args below meth c A nL cells slots Q L f (pc + 3) ls st) : ZW G p l e R s m args below meth c A nL cells slots Q L f pc ls (.int (iI a) :: st) :=
  fun H locs la hP hD hS hl => lv_if_ne C.1 C.2.1 hd ht (fun h => K1 (z_cv_ne.1 ha (⟨by omega, by omega⟩ : zR 0) h) H locs la hP hD hS hl) (fun h => K2 (z_cv_ne.2 ha (⟨by omega, by omega⟩ : zR 0) h) H locs la hP hD hS hl)
theorem z_icmp_lt (C : ZC G X p l s m args meth c A nL ret cc own) {a b : Int} {off : Int} (tgt : Nat) (hd : decode cc pc = .ok (.if_icmp .lt off, 3)) (ht : (pc : Int) + off = (tgt : Int)) (ha : zR a) (hb : zR b) (K1 : a < b → ZW G p l e R s m args below meth c A nL cells slots Q L f tgt ls st) (K2 : b ≤ a → ZW G p l e R s m args below meth c A nL cells slots Q L f (pc + 3) ls st) : ZW G p l e R s m args below meth c A nL cells slots Q L f pc ls (.int (iI b) :: .int (iI a) :: st) :=
  fun H locs la hP hD hS hl => lv_icmp_lt C.1 C.2.1 hd ht (fun h => K1 (z_cv_lt.1 ha hb h) H locs la hP hD hS hl) (fun h => K2 (z_cv_lt.2 ha hb h) H locs la hP hD hS hl)
theorem z_if_lt (C : ZC G X p l s m args meth c A nL ret cc own) {a : Int} {off : Int} (tgt : Nat) (hd : decode cc pc = .ok (.ifCond .lt off, 3)) (ht : (pc : Int) + off = (tgt : Int)) (ha : zR a) (K1 : a < 0 → ZW G p l e R s m args below meth c A nL cells slots Q L f tgt ls st) (K2 : 0 ≤ a → ZW G p l e R s m args below meth c A nL cells slots Q L f (pc + 3) ls st) : ZW G p l e R s m args below meth c A nL cells slots Q L f pc ls (.int (iI a) :: st) :=
  fun H locs la hP hD hS hl => lv_if_lt C.1 C.2.1 hd ht (fun h => K1 (z_cv_lt.1 ha (⟨by omega, by omega⟩ : zR 0) h) H locs la hP hD hS hl) (fun h => K2 (z_cv_lt.2 ha (⟨by omega, by omega⟩ : zR 0) h) H locs la hP hD hS hl)
theorem z_icmp_ge (C : ZC G X p l s m args meth c A nL ret cc own) {a b : Int} {off : Int} (tgt : Nat) (hd : decode cc pc = .ok (.if_icmp .ge off, 3)) (ht : (pc : Int) + off = (tgt : Int)) (ha : zR a) (hb : zR b) (K1 : b ≤ a → ZW G p l e R s m args below meth c A nL cells slots Q L f tgt ls st) (K2 : a < b → ZW G p l e R s m args below meth c A nL cells slots Q L f (pc + 3) ls st) : ZW G p l e R s m args below meth c A nL cells slots Q L f pc ls (.int (iI b) :: .int (iI a) :: st) :=
  fun H locs la hP hD hS hl => lv_icmp_ge C.1 C.2.1 hd ht (fun h => K1 (z_cv_ge.1 ha hb h) H locs la hP hD hS hl) (fun h => K2 (z_cv_ge.2 ha hb h) H locs la hP hD hS hl)
theorem z_if_ge (C : ZC G X p l s m args meth c A nL ret cc own) {a : Int} {off : Int} (tgt : Nat) (hd : decode cc pc = .ok (.ifCond .ge off, 3)) (ht : (pc : Int) + off = (tgt : Int)) (ha : zR a) (K1 : 0 ≤ a → ZW G p l e R s m args below meth c A nL cells slots Q L f tgt ls st) (K2 : a < 0 → ZW G p l e R s m args below meth c A nL cells slots Q L f (pc + 3) ls st) : ZW G p l e R s m args below meth c A nL cells slots Q L f pc ls (.int (iI a) :: st) :=
  fun H locs la hP hD hS hl => lv_if_ge C.1 C.2.1 hd ht (fun h => K1 (z_cv_ge.1 ha (⟨by omega, by omega⟩ : zR 0) h) H locs la hP hD hS hl) (fun h => K2 (z_cv_ge.2 ha (⟨by omega, by omega⟩ : zR 0) h) H locs la hP hD hS hl)
theorem z_icmp_gt (C : ZC G X p l s m args meth c A nL ret cc own) {a b : Int} {off : Int} (tgt : Nat) (hd : decode cc pc = .ok (.if_icmp .gt off, 3)) (ht : (pc : Int) + off = (tgt : Int)) (ha : zR a) (hb : zR b) (K1 : b < a → ZW G p l e R s m args below meth c A nL cells slots Q L f tgt ls st) (K2 : a ≤ b → ZW G p l e R s m args below meth c A nL cells slots Q L f (pc + 3) ls st) : ZW G p l e R s m args below meth c A nL cells slots Q L f pc ls (.int (iI b) :: .int (iI a) :: st) :=
  fun H locs la hP hD hS hl => lv_icmp_gt C.1 C.2.1 hd ht (fun h => K1 (z_cv_gt.1 ha hb h) H locs la hP hD hS hl) (fun h => K2 (z_cv_gt.2 ha hb h) H locs la hP hD hS hl)
theorem z_if_gt (C : ZC G X p l s m args meth c A nL ret cc own) {a : Int} {off : Int} (tgt : Nat) (hd : decode cc pc = .ok (.ifCond .gt off, 3)) (ht : (pc : Int) + off = (tgt : Int)) (ha : zR a) (K1 : 0 < a → ZW G p l e R s m args below meth c A nL cells slots Q L f tgt ls st) (K2 : a ≤ 0 → ZW G p l e R s m args below meth c A nL cells slots Q L f (pc + 3) ls st) : ZW G p l e R s m args below meth c A nL cells slots Q L f pc ls (.int (iI a) :: st) :=
  fun H locs la hP hD hS hl => lv_if_gt C.1 C.2.1 hd ht (fun h => K1 (z_cv_gt.1 ha (⟨by omega, by omega⟩ : zR 0) h) H locs la hP hD hS hl) (fun h => K2 (z_cv_gt.2 ha (⟨by omega, by omega⟩ : zR 0) h) H locs la hP hD hS hl)
theorem z_icmp_le (C : ZC G X p l s m args meth c A nL ret cc own) {a b : Int} {off : Int} (tgt : Nat) (hd : decode cc pc = .ok (.if_icmp .le off, 3)) (ht : (pc : Int) + off = (tgt : Int)) (ha : zR a) (hb : zR b) (K1 : a ≤ b → ZW G p l e R s m args below meth c A nL cells slots Q L f tgt ls st) (K2 : b < a → ZW G p l e R s m args below meth c A nL cells slots Q L f (pc + 3) ls st) : ZW G p l e R s m args below meth c A nL cells slots Q L f pc ls (.int (iI b) :: .int (iI a) :: st) :=
  fun H locs la hP hD hS hl => lv_icmp_le C.1 C.2.1 hd ht (fun h => K1 (z_cv_le.1 ha hb h) H locs la hP hD hS hl) (fun h => K2 (z_cv_le.2 ha hb h) H locs la hP hD hS hl)
theorem z_if_le (C : ZC G X p l s m args meth c A nL ret cc own) {a : Int} {off : Int} (tgt : Nat) (hd : decode cc pc = .ok (.ifCond .le off, 3)) (ht : (pc : Int) + off = (tgt : Int)) (ha : zR a) (K1 : a ≤ 0 → ZW G p l e R s m args below meth c A nL cells slots Q L f tgt ls st) (K2 : 0 < a → ZW G p l e R s m args below meth c A nL cells slots Q L f (pc + 3) ls st) : ZW G p l e R s m args below meth c A nL cells slots Q L f pc ls (.int (iI a) :: st) :=
  fun H locs la hP hD hS hl => lv_if_le C.1 C.2.1 hd ht (fun h => K1 (z_cv_le.1 ha (⟨by omega, by omega⟩ : zR 0) h) H locs la hP hD hS hl) (fun h => K2 (z_cv_le.2 ha (⟨by omega, by omega⟩ : zR 0) h) H locs la hP hD hS hl)
theorem z_if_eq_b (C : ZC G X p l s m args meth c A nL ret cc own) {φ : Prop} [Decidable φ] {off : Int} (tgt : Nat) (hd : decode cc pc = .ok (.ifCond .eq off, 3)) (ht : (pc : Int) + off = (tgt : Int)) (K1 : ¬ φ → ZW G p l e R s m args below meth c A nL cells slots Q L f tgt ls st) (K2 : φ → ZW G p l e R s m args below meth c A nL cells slots Q L f (pc + 3) ls st) : ZW G p l e R s m args below meth c A nL cells slots Q L f pc ls (.int (iI (bI φ)) :: st) := by
  by_cases h : φ
  · rw [show bI φ = 1 from if_pos h]
    exact z_if_eq C tgt hd ht ⟨by omega, by omega⟩ (fun z => absurd z (by decide)) (fun _ => K2 h)
  · rw [show bI φ = 0 from if_neg h]
    exact z_if_eq C tgt hd ht ⟨by omega, by omega⟩ (fun _ => K1 h) (fun z => absurd rfl z)
theorem z_if_ne_b (C : ZC G X p l s m args meth c A nL ret cc own) {φ : Prop} [Decidable φ] {off : Int} (tgt : Nat) (hd : decode cc pc = .ok (.ifCond .ne off, 3)) (ht : (pc : Int) + off = (tgt : Int)) (K1 : φ → ZW G p l e R s m args below meth c A nL cells slots Q L f tgt ls st) (K2 : ¬ φ → ZW G p l e R s m args below meth c A nL cells slots Q L f (pc + 3) ls st) : ZW G p l e R s m args below meth c A nL cells slots Q L f pc ls (.int (iI (bI φ)) :: st) := by
  by_cases h : φ
  · rw [show bI φ = 1 from if_pos h]
    exact z_if_ne C tgt hd ht ⟨by omega, by omega⟩ (fun _ => K1 h) (fun z => absurd z (by decide))
  · rw [show bI φ = 0 from if_neg h]
    exact z_if_ne C tgt hd ht ⟨by omega, by omega⟩ (fun z => absurd rfl z) (fun _ => K2 h)
/-! the ends -/
theorem z_ireturn (C : ZC G X p l s m args meth c A nL (some .int) cc own) {R0 : Int → List Nat → (Nat → va_E) → Prop} {z : Int} {mc ms : Nat} (hd : decode cc pc = .ok (.ireturn, 1)) (hc : cells ≤ mc) (hs : slots ≤ ms) (hR : R0 z L f) : ZW G p l e R s m args below meth c A nL cells slots (MQ below (zQ G zeI R0 A) args s mc ms A) L f pc ls [.int (iI z)] :=
  fun H locs la hP hD hS hl => W.widen hc hs (W.iret C.1 C.2.1 C.2.2.2.2.2.2.2.2.1 (fun t ht hW => ⟨⟨z, L, f, rfl, hR, by rw [ht]; exact hP, va_K.moved hW.alike C.2.2.2.2.2.1, hD⟩, hS.F ht⟩) hS.2.2 hd C.2.2.2.2.2.2.2.1)
theorem z_zreturn (C : ZC G X p l s m args meth c A nL (some .boolean) cc own) {R0 : Int → List Nat → (Nat → va_E) → Prop} {z : Int} {mc ms : Nat} (hz : z = 0 ∨ z = 1) (hd : decode cc pc = .ok (.ireturn, 1)) (hc : cells ≤ mc) (hs : slots ≤ ms) (hR : R0 z L f) : ZW G p l e R s m args below meth c A nL cells slots (MQ below (zQ G zeI R0 A) args s mc ms A) L f pc ls [.int (iI z)] :=
  fun H locs la hP hD hS hl => W.widen hc hs (W.zret C.1 C.2.1 C.2.2.2.2.2.2.2.2.1 (by rcases hz with rfl | rfl <;> rfl) (fun t ht hW => ⟨⟨z, L, f, rfl, hR, by rw [ht]; exact hP, va_K.moved hW.alike C.2.2.2.2.2.1, hD⟩, hS.F ht⟩) hS.2.2 hd C.2.2.2.2.2.2.2.1)
theorem z_vreturn (C : ZC G X p l s m args meth c A nL none cc own) {R0 : Unit → List Nat → (Nat → va_E) → Prop} {mc ms : Nat} (hd : decode cc pc = .ok (.return_, 1)) (hc : cells ≤ mc) (hs : slots ≤ ms) (hR : R0 () L f) : ZW G p l e R s m args below meth c A nL cells slots (MQ below (zQ G zeV R0 A) args s mc ms A) L f pc ls [] :=
  fun H locs la hP hD hS hl => W.widen hc hs (W.vret C.1 C.2.1 C.2.2.2.2.2.2.2.2.1 (fun t ht hW => ⟨⟨(), L, f, rfl, hR, by rw [ht]; exact hP, va_K.moved hW.alike C.2.2.2.2.2.1, hD⟩, hS.F ht⟩) hS.2.2 hd C.2.2.2.2.2.2.2.1)
theorem z_qreturn {rc : String} (C : ZC G X p l s m args meth c A nL (some (.object rc)) cc own) {R0 : Option Nat → List Nat → (Nat → va_E) → Prop} {r : Option Nat} {mc ms : Nat} (hd : decode cc pc = .ok (.areturn, 1)) (hc : cells ≤ mc) (hs : slots ≤ ms) (hR : R0 r L f) : ZW G p l e R s m args below meth c A nL cells slots (MQ below (zQ G zeQ R0 A) args s mc ms A) L f pc ls [va_rf r] :=
  fun H locs la hP hD hS hl => W.widen hc hs (W.aret C.1 C.2.1 C.2.2.2.2.2.2.2.2.1 (Or.inl ⟨_, rfl⟩) (by cases r <;> first | exact Or.inl rfl | exact Or.inr ⟨_, rfl⟩) (fun t ht hW => ⟨⟨r, L, f, rfl, hR, by rw [ht]; exact hP, va_K.moved hW.alike C.2.2.2.2.2.1, hD⟩, hS.F ht⟩) hS.2.2 hd C.2.2.2.2.2.2.2.1)
theorem z_lreturn (C : ZC G X p l s m args meth c A nL (some .long) cc own) {R0 : Int64 → List Nat → (Nat → va_E) → Prop} {z : Int64} {mc ms : Nat} (hd : decode cc pc = .ok (.lreturn, 1)) (hc : cells ≤ mc) (hs : slots ≤ ms) (hR : R0 z L f) : ZW G p l e R s m args below meth c A nL cells slots (MQ below (zQ G zeL R0 A) args s mc ms A) L f pc ls [.long z] :=
  fun H locs la hP hD hS hl => W.widen hc hs (W.lret C.1 C.2.1 C.2.2.2.2.2.2.2.2.1 (fun t ht hW => ⟨⟨z, L, f, rfl, hR, by rw [ht]; exact hP, va_K.moved hW.alike C.2.2.2.2.2.1, hD⟩, hS.F ht⟩) hS.2.2 hd C.2.2.2.2.2.2.2.1)
/-! fields -/
theorem z_getf (C : ZC G X p l s m args meth c A nL ret cc own) {o ci idx N : Nat} {Cn ref : String} {T : u_T} {fs : List Value} {v : Value} (k : Nat) (hin : ∀ w ∈ u_ws Cn T N, w ∈ zT) (ho : o ∈ L) (hf : f o = .inr (ci, fs)) (hc : vwCl[ci]? = some (Cn, T, N)) (hk : k < N) (hlink : Cond.fieldLink own idx ref (T k).2.1 (T k).2.2.1 ∈ lw_tbl) (hsame : (T k).1 = ref) (hv : fs[k]? = some v) (hd : decode cc pc = .ok (.getfield idx, 3)) (K : ZW G p l e R s m args below meth c A nL cells slots Q L f (pc + 3) ls (v :: st)) : ZW G p l e R s m args below meth c A nL cells slots Q L f pc ls (.ref o :: st) := by
  intro H locs la hP hD hS hl
  obtain ⟨q, hq⟩ := va_pl_get (X := []) (f := f) ho
  have hq : (va_pl L f)[q]? = some (o, .inr (ci, fs)) := by rw [← hf]; exact hq
  exact va_get C.1 C.2.1 C.2.2.2.2.1 hin C.2.2.2.1 C.2.2.2.2.2.1 hP q hq hc k hk (C.w hlink rfl) (fun x h => by rw [← hsame]; exact h) hv hd (K H locs la hP hD hS hl)
theorem z_putf (C : ZC G X p l s m args meth c A nL ret cc own) {o ci idx N : Nat} {Cn ref : String} {T : u_T} {fs : List Value} {v : Value} {ty0 : Nat → FieldType} {ty : FieldType} (k : Nat) (hin : ∀ w ∈ u_ws Cn T N, w ∈ zT) (hty : ∀ k, k < N → parseFieldDescriptor (T k).2.2.1 = some (ty0 k)) (hnm : ∀ a, a < N → ∀ b, b < N → a ≠ b → (T a).2.1 ≠ (T b).2.1) (ho : o ∈ L) (hf : f o = .inr (ci, fs)) (hc : vwCl[ci]? = some (Cn, T, N)) (hk : k < N) (hlink : Cond.fieldLink own idx ref (T k).2.1 (T k).2.2.1 ∈ lw_tbl) (hsame : (T k).1 = ref) (hfin : (T k).2.2.2 = false) (hdes : parseFieldDescriptor (T k).2.2.1 = some ty) (hn : narrow ty v = v) (hfit : fits ty v = true) (hl : k < fs.length) (hd : decode cc pc = .ok (.putfield idx, 3)) (K : ZW G p l e R s m args below meth c A nL cells slots Q L (va_up f o (.inr (ci, fs.set k v))) (pc + 3) ls st) : ZW G p l e R s m args below meth c A nL cells slots Q L f pc ls (v :: .ref o :: st) := by
  intro H locs la hP hD hS hl9
  obtain ⟨q, hq⟩ := va_pl_get (X := []) (f := f) ho
  have hq' : (va_pl L f)[q]? = some (o, .inr (ci, fs)) := by rw [← hf]; exact hq
  refine va_put C.1 C.2.1 C.2.2.2.2.1 hin ty0 hty hnm C.2.2.2.1 C.2.2.2.2.2.1 hP hD hS q hq' hc k hk (C.w hlink rfl) (fun x h => by rw [← hsame]; exact h) hfin hdes hn hfit hl hd (fun H1 locs1 hP1 hD1 hS1 => ?_)
  rw [zpl_set hD ho hq] at hP1 hD1
  exact K H1 locs1 la hP1 hD1 hS1 hl9
theorem z_putfF (C : ZC G X p l s m args meth c A nL ret cc own) (hini : meth.name = "<init>") {o ci idx N : Nat} {Cn ref : String} {T : u_T} {fs : List Value} {v : Value} {ty0 : Nat → FieldType} {ty : FieldType} (k : Nat) (hin : ∀ w ∈ u_ws Cn T N, w ∈ zT) (hty : ∀ k, k < N → parseFieldDescriptor (T k).2.2.1 = some (ty0 k)) (hnm : ∀ a, a < N → ∀ b, b < N → a ≠ b → (T a).2.1 ≠ (T b).2.1) (ho : o ∈ L) (hf : f o = .inr (ci, fs)) (hc : vwCl[ci]? = some (Cn, T, N)) (hk : k < N) (hlink : Cond.fieldLink own idx ref (T k).2.1 (T k).2.2.1 ∈ lw_tbl) (hsame : (T k).1 = ref) (hown : (T k).1 = own) (hfin : (T k).2.2.2 = true) (hdes : parseFieldDescriptor (T k).2.2.1 = some ty) (hn : narrow ty v = v) (hfit : fits ty v = true) (hl : k < fs.length) (hd : decode cc pc = .ok (.putfield idx, 3)) (K : ZW G p l e R s m args below meth c A nL cells slots Q L (va_up f o (.inr (ci, fs.set k v))) (pc + 3) ls st) : ZW G p l e R s m args below meth c A nL cells slots Q L f pc ls (v :: .ref o :: st) := by
  intro H locs la hP hD hS hl9
  obtain ⟨q, hq⟩ := va_pl_get (X := []) (f := f) ho
  have hq' : (va_pl L f)[q]? = some (o, .inr (ci, fs)) := by rw [← hf]; exact hq
  refine va_putF C.1 C.2.1 C.2.2.2.2.1 hin ty0 hty hnm C.2.2.2.1 C.2.2.2.2.2.1 hP hD hS q hq' hc k hk (C.w hlink rfl) (fun x h => by rw [← hsame]; exact h) hfin hini hown hdes hn hfit hl hd (fun H1 locs1 hP1 hD1 hS1 => ?_)
  rw [zpl_set hD ho hq] at hP1 hD1
  exact K H1 locs1 la hP1 hD1 hS1 hl9
/-! arrays of numbers: zA t n σ, t the kind by zY -/
def zup (σ : Int → Int) (i x : Int) : Int → Int := fun j => if j = i then x else σ j
def zA (G : zG) (t : Nat) (L : List Nat) (f : Nat → va_E) (a n : Nat) (σ : Int → Int) : Prop := a ∈ L ∧ ∃ φ : Nat → Int32, f a = .inl (G.2 t, n, .inl φ) ∧ ∀ j : Nat, j < n → φ j = iI (σ j)
theorem zA_kept {t a n : Nat} {σ : Int → Int} {L' : List Nat} {f' : Nat → va_E} (h : zA G t L f a n σ) (hL : ∀ b ∈ L, b ∈ L') (hf : f' a = f a) : zA G t L' f' a n σ := by
  obtain ⟨h1, φ, h2, h3⟩ := h
  exact ⟨hL _ h1, φ, by rw [hf]; exact h2, h3⟩
theorem zA_rd {n : Nat} {σ : Int → Int} {φ : Nat → Int32} (h : ∀ j : Nat, j < n → φ j = iI (σ j)) {i : Int} (h0 : 0 ≤ i) (h1 : i < n) : φ i.toNat = iI (σ i) := by
  have := h i.toNat (by omega)
  rwa [Int.toNat_of_nonneg h0] at this
theorem zA_wr {n : Nat} {σ : Int → Int} {φ : Nat → Int32} (h : ∀ j : Nat, j < n → φ j = iI (σ j)) {i x : Int} (h0 : 0 ≤ i) : ∀ j : Nat, j < n → upd φ i.toNat (iI x) j = iI (zup σ i x j) := by
  intro j hj
  by_cases hji : j = i.toNat
  · subst hji
    rw [pk_us]
    simp [zup, Int.toNat_of_nonneg h0]
  · rw [pk_un hji, h j hj]
    have : ¬ (j : Int) = i := by omega
    simp [zup, this]
theorem z_iald (C : ZC G X p l s m args meth c A nL ret cc own) {a n : Nat} {σ : Int → Int} {i : Int} (h : zA G 0 L f a n σ) (hn : n < 2147483648) (h0 : 0 ≤ i) (h1 : i < n) (hd : decode cc pc = .ok (.iaload, 1)) (K : ZW G p l e R s m args below meth c A nL cells slots Q L f (pc + 1) ls (.int (iI (σ i)) :: st)) : ZW G p l e R s m args below meth c A nL cells slots Q L f pc ls (.int (iI i) :: .ref a :: st) := by
  intro H locs la hP hD hS hl
  obtain ⟨ha, φ, hf, hφ⟩ := h
  obtain ⟨q, hq⟩ := va_pl_get (X := []) (f := f) ha
  have hq : (va_pl L f)[q]? = some (a, .inl (G.2 0, n, .inl φ)) := by rw [← hf]; exact hq
  refine va_iald C.1 C.2.1 C.2.2.2.2.2.1 hP q 0 hq rfl (iI_in hn h0 h1) hd ?_
  rw [iI_clamp h0 (by omega), zA_rd hφ h0 h1]
  exact K H locs la hP hD hS hl
theorem z_zald (C : ZC G X p l s m args meth c A nL ret cc own) {a n : Nat} {σ : Int → Int} {i : Int} (h : zA G 1 L f a n σ) (hn : n < 2147483648) (h0 : 0 ≤ i) (h1 : i < n) (hd : decode cc pc = .ok (.baload, 1)) (K : ZW G p l e R s m args below meth c A nL cells slots Q L f (pc + 1) ls (.int (iI (σ i)) :: st)) : ZW G p l e R s m args below meth c A nL cells slots Q L f pc ls (.int (iI i) :: .ref a :: st) := by
  intro H locs la hP hD hS hl
  obtain ⟨ha, φ, hf, hφ⟩ := h
  obtain ⟨q, hq⟩ := va_pl_get (X := []) (f := f) ha
  have hq : (va_pl L f)[q]? = some (a, .inl (G.2 1, n, .inl φ)) := by rw [← hf]; exact hq
  refine va_zald C.1 C.2.1 C.2.2.2.2.2.1 hP q 1 hq rfl (iI_in hn h0 h1) hd ?_
  rw [iI_clamp h0 (by omega), zA_rd hφ h0 h1]
  exact K H locs la hP hD hS hl
theorem z_cald (C : ZC G X p l s m args meth c A nL ret cc own) {a n : Nat} {σ : Int → Int} {i : Int} (h : zA G 2 L f a n σ) (hn : n < 2147483648) (h0 : 0 ≤ i) (h1 : i < n) (hd : decode cc pc = .ok (.caload, 1)) (K : ZW G p l e R s m args below meth c A nL cells slots Q L f (pc + 1) ls (.int (iI (σ i)) :: st)) : ZW G p l e R s m args below meth c A nL cells slots Q L f pc ls (.int (iI i) :: .ref a :: st) := by
  intro H locs la hP hD hS hl
  obtain ⟨ha, φ, hf, hφ⟩ := h
  obtain ⟨q, hq⟩ := va_pl_get (X := []) (f := f) ha
  have hq : (va_pl L f)[q]? = some (a, .inl (G.2 2, n, .inl φ)) := by rw [← hf]; exact hq
  refine va_cald C.1 C.2.1 C.2.2.2.2.2.1 hP q 2 hq rfl (iI_in hn h0 h1) hd ?_
  rw [iI_clamp h0 (by omega), zA_rd hφ h0 h1]
  exact K H locs la hP hD hS hl
theorem z_bald (C : ZC G X p l s m args meth c A nL ret cc own) {a n : Nat} {σ : Int → Int} {i : Int} (h : zA G 3 L f a n σ) (hn : n < 2147483648) (h0 : 0 ≤ i) (h1 : i < n) (hd : decode cc pc = .ok (.baload, 1)) (K : ZW G p l e R s m args below meth c A nL cells slots Q L f (pc + 1) ls (.int (iI (σ i)) :: st)) : ZW G p l e R s m args below meth c A nL cells slots Q L f pc ls (.int (iI i) :: .ref a :: st) := by
  intro H locs la hP hD hS hl
  obtain ⟨ha, φ, hf, hφ⟩ := h
  obtain ⟨q, hq⟩ := va_pl_get (X := []) (f := f) ha
  have hq : (va_pl L f)[q]? = some (a, .inl (G.2 3, n, .inl φ)) := by rw [← hf]; exact hq
  refine va_bald C.1 C.2.1 C.2.2.2.2.2.1 hP q 3 hq rfl (iI_in hn h0 h1) hd ?_
  rw [iI_clamp h0 (by omega), zA_rd hφ h0 h1]
  exact K H locs la hP hD hS hl
theorem z_iast (C : ZC G X p l s m args meth c A nL ret cc own) {a n : Nat} {σ : Int → Int} {i x : Int} (h : zA G 0 L f a n σ) (hn : n < 2147483648) (h0 : 0 ≤ i) (h1 : i < n) (hd : decode cc pc = .ok (.iastore, 1)) (K : ∀ f' : Nat → va_E, zA G 0 L f' a n (zup σ i x) → (∀ b, b ≠ a → f' b = f b) → ZW G p l e R s m args below meth c A nL cells slots Q L f' (pc + 1) ls st) : ZW G p l e R s m args below meth c A nL cells slots Q L f pc ls (.int (iI x) :: .int (iI i) :: .ref a :: st) := by
  intro H locs la hP hD hS hl
  obtain ⟨ha, φ, hf, hφ⟩ := h
  obtain ⟨q, hq⟩ := va_pl_get (X := []) (f := f) ha
  have hq' : (va_pl L f)[q]? = some (a, .inl (G.2 0, n, .inl φ)) := by rw [← hf]; exact hq
  refine va_iast C.1 C.2.1 C.2.2.2.2.2.1 hP hD hS q 0 hq' rfl (iI_in hn h0 h1) hd (fun H1 locs1 hP1 hD1 hS1 => ?_)
  rw [zpl_set hD ha hq, iI_clamp h0 (by omega)] at hP1 hD1
  exact K _ ⟨ha, _, va_up_self _ _ _, zA_wr hφ h0⟩ (fun b hb => va_up_ne _ _ hb) H1 locs1 la hP1 hD1 hS1 hl
theorem z_zast (C : ZC G X p l s m args meth c A nL ret cc own) {a n : Nat} {σ : Int → Int} {i x : Int} (h : zA G 1 L f a n σ) (hn : n < 2147483648) (h0 : 0 ≤ i) (h1 : i < n) (hx : x = 0 ∨ x = 1) (hd : decode cc pc = .ok (.bastore, 1)) (K : ∀ f' : Nat → va_E, zA G 1 L f' a n (zup σ i x) → (∀ b, b ≠ a → f' b = f b) → ZW G p l e R s m args below meth c A nL cells slots Q L f' (pc + 1) ls st) : ZW G p l e R s m args below meth c A nL cells slots Q L f pc ls (.int (iI x) :: .int (iI i) :: .ref a :: st) := by
  intro H locs la hP hD hS hl
  obtain ⟨ha, φ, hf, hφ⟩ := h
  obtain ⟨q, hq⟩ := va_pl_get (X := []) (f := f) ha
  have hq' : (va_pl L f)[q]? = some (a, .inl (G.2 1, n, .inl φ)) := by rw [← hf]; exact hq
  refine va_zast C.1 C.2.1 C.2.2.2.2.2.1 hP hD hS q 1 hq' rfl (iI_in hn h0 h1) hd (fun H1 locs1 hP1 hD1 hS1 => ?_)
  rw [zpl_set hD ha hq, iI_clamp h0 (by omega)] at hP1 hD1
  rw [show vp_nar .boolean (iI x) = iI x by rcases hx with rfl | rfl <;> rfl] at hP1 hD1
  exact K _ ⟨ha, _, va_up_self _ _ _, zA_wr hφ h0⟩ (fun b hb => va_up_ne _ _ hb) H1 locs1 la hP1 hD1 hS1 hl
theorem z_char {x : Int} (h0 : 0 ≤ x) (h1 : x < 65536) : vp_nar .char (iI x) = iI x := by
  have e : iI x = nI x.toNat := by rw [iI_nat, Int.toNat_of_nonneg h0]
  rw [e]
  unfold vp_nar
  rw [(pk_charN (q := x.toNat) (by omega)).1]
theorem z_cast (C : ZC G X p l s m args meth c A nL ret cc own) {a n : Nat} {σ : Int → Int} {i x : Int} (h : zA G 2 L f a n σ) (hn : n < 2147483648) (h0 : 0 ≤ i) (h1 : i < n) (hx : 0 ≤ x ∧ x < 65536) (hd : decode cc pc = .ok (.castore, 1)) (K : ∀ f' : Nat → va_E, zA G 2 L f' a n (zup σ i x) → (∀ b, b ≠ a → f' b = f b) → ZW G p l e R s m args below meth c A nL cells slots Q L f' (pc + 1) ls st) : ZW G p l e R s m args below meth c A nL cells slots Q L f pc ls (.int (iI x) :: .int (iI i) :: .ref a :: st) := by
  intro H locs la hP hD hS hl
  obtain ⟨ha, φ, hf, hφ⟩ := h
  obtain ⟨q, hq⟩ := va_pl_get (X := []) (f := f) ha
  have hq' : (va_pl L f)[q]? = some (a, .inl (G.2 2, n, .inl φ)) := by rw [← hf]; exact hq
  refine va_cast C.1 C.2.1 C.2.2.2.2.2.1 hP hD hS q 2 hq' rfl (iI_in hn h0 h1) hd (fun H1 locs1 hP1 hD1 hS1 => ?_)
  rw [zpl_set hD ha hq, iI_clamp h0 (by omega)] at hP1 hD1
  rw [show vp_nar .char (iI x) = iI x from z_char hx.1 hx.2] at hP1 hD1
  exact K _ ⟨ha, _, va_up_self _ _ _, zA_wr hφ h0⟩ (fun b hb => va_up_ne _ _ hb) H1 locs1 la hP1 hD1 hS1 hl
theorem z_bast (C : ZC G X p l s m args meth c A nL ret cc own) {a n : Nat} {σ : Int → Int} {i x : Int} (h : zA G 3 L f a n σ) (hn : n < 2147483648) (h0 : 0 ≤ i) (h1 : i < n) (hx : vp_nar .byte (iI x) = iI x) (hd : decode cc pc = .ok (.bastore, 1)) (K : ∀ f' : Nat → va_E, zA G 3 L f' a n (zup σ i x) → (∀ b, b ≠ a → f' b = f b) → ZW G p l e R s m args below meth c A nL cells slots Q L f' (pc + 1) ls st) : ZW G p l e R s m args below meth c A nL cells slots Q L f pc ls (.int (iI x) :: .int (iI i) :: .ref a :: st) := by
  intro H locs la hP hD hS hl
  obtain ⟨ha, φ, hf, hφ⟩ := h
  obtain ⟨q, hq⟩ := va_pl_get (X := []) (f := f) ha
  have hq' : (va_pl L f)[q]? = some (a, .inl (G.2 3, n, .inl φ)) := by rw [← hf]; exact hq
  refine va_bast C.1 C.2.1 C.2.2.2.2.2.1 hP hD hS q 3 hq' rfl (iI_in hn h0 h1) hd (fun H1 locs1 hP1 hD1 hS1 => ?_)
  rw [zpl_set hD ha hq, iI_clamp h0 (by omega)] at hP1 hD1
  rw [hx] at hP1 hD1
  exact K _ ⟨ha, _, va_up_self _ _ _, zA_wr hφ h0⟩ (fun b hb => va_up_ne _ _ hb) H1 locs1 la hP1 hD1 hS1 hl
end ZL
