/-! ===== what lies outside of all worlds ===== -/
def lawX (ax : Nat → Nat × Nat) (A : Nat → Prop) (s : State) : Prop := zE0 A s ∧ zE1 ax A s ∧ (va_AO "SwathSurvey$Gauge" s ∧ va_AO "SwathSurvey$Line" s) ∧ (∀ y ∈ zPrv, va_Nw (Cond.selects "java/lang/StringBuilder" y y) s) ∧ (∀ w ∈ zOth, va_Nw w s) ∧ (∀ q ∈ zNcs, va_Nc q.1 q.2 s)
theorem zNests_w : ∀ w ∈ zNests, ∃ (a : String) (i : Nat) (x : MethodName) (h : String), w = .methodLinkNest a i x h := by
  intro w hw
  simp only [zNests, List.mem_cons, List.not_mem_nil, or_false] at hw
  rcases hw with rfl | rfl | rfl | rfl | rfl | rfl | rfl | rfl | rfl | rfl | rfl <;> exact ⟨_, _, _, _, rfl⟩
theorem zOth_w : ∀ w ∈ zOth, (∃ x : MethodName, w = .declares x) ∨ ∃ C T : String, w = .castable C T := by
  intro w hw
  simp only [zOth, List.mem_cons, List.not_mem_nil, or_false] at hw
  rcases hw with rfl | rfl | rfl | rfl | rfl | rfl | rfl | rfl | rfl
  · exact Or.inl ⟨_, rfl⟩
  · exact Or.inl ⟨_, rfl⟩
  · exact Or.inl ⟨_, rfl⟩
  all_goals exact Or.inr ⟨_, _, rfl⟩
section ZOUTX
variable {ax : Nat → Nat × Nat} {A B : Nat → Prop} {s U : State}
theorem zSt_warm {a v : Nat} {t : List Int} (h : zSt a v t A s) (hW : s.WarmedH U.vm) (hk : ∀ q : Nat, q < s.heap.size → ¬ A q → U.heap[q]? = s.heap[q]?) : zSt a v t A U :=
  ⟨(h.1.kept hk).moved hW.alike, (h.2.1.kept hk).moved hW.alike, (h.2.2.1.kept hk).moved hW.alike, (h.2.2.2.kept hk).moved hW.alike⟩
theorem zSt_narrow {a v : Nat} {t : List Int} (h : zSt a v t A s) (hB : ∀ q, B q → A q) : zSt a v t B s := ⟨h.1.narrow hB, h.2.1.narrow hB, h.2.2.1.narrow hB, h.2.2.2.narrow hB⟩
theorem zE0_warm (h : zE0 A s) (hW : s.WarmedH U.vm) (hk : ∀ q : Nat, q < s.heap.size → ¬ A q → U.heap[q]? = s.heap[q]?) : zE0 A U := by
  refine ⟨fun w hw => ?_, (h.2.1.kept hk).moved hW.alike, (h.2.2.1.kept hk).moved hW.alike, fun q hq => ?_⟩
  · obtain ⟨a, i, x, n, rfl⟩ := zNests_w w hw
    exact va_Nw.warmM hW (h.1 _ hw)
  · obtain ⟨a, ha⟩ := h.2.2.2 q hq
    exact ⟨a, ha.warm hW⟩
theorem zE0_narrow (h : zE0 A s) (hB : ∀ q, B q → A q) : zE0 B s := ⟨h.1, h.2.1.narrow hB, h.2.2.1.narrow hB, h.2.2.2⟩
theorem zE1_warm (h : zE1 ax A s) (hW : s.WarmedH U.vm) (hk : ∀ q : Nat, q < s.heap.size → ¬ A q → U.heap[q]? = s.heap[q]?) : zE1 ax A U :=
  ⟨fun i q hq => ⟨(h.1 i q hq).1.warm hW, zSt_warm (h.1 i q hq).2 hW hk⟩, (h.2.1.kept hk).moved hW.alike, (h.2.2.1.kept hk).moved hW.alike, ⟨(h.2.2.2.1.1.kept hk).moved hW.alike, (h.2.2.2.1.2.kept hk).moved hW.alike⟩, ⟨(h.2.2.2.2.1.kept hk).moved hW.alike, (h.2.2.2.2.2.kept hk).moved hW.alike⟩⟩
theorem zE1_narrow (h : zE1 ax A s) (hB : ∀ q, B q → A q) : zE1 ax B s :=
  ⟨fun i q hq => ⟨(h.1 i q hq).1, zSt_narrow (h.1 i q hq).2 hB⟩, h.2.1.narrow hB, h.2.2.1.narrow hB, ⟨h.2.2.2.1.1.narrow hB, h.2.2.2.1.2.narrow hB⟩, ⟨h.2.2.2.2.1.narrow hB, h.2.2.2.2.2.narrow hB⟩⟩
theorem lawX_ok (ax : Nat → Nat × Nat) : zX (lawX ax) := by
  refine ⟨fun A s U h hW hk => ?_, fun A B s h hB => ?_, fun A s g mk a h => ?_, fun A s h => h.1⟩
  · obtain ⟨h1, h2, ⟨h3, h3'⟩, h4, h5, h6⟩ := h
    refine ⟨zE0_warm h1 hW hk, zE1_warm h2 hW hk, ⟨h3.moved hW.alike, h3'.moved hW.alike⟩, fun y hy => ?_, fun w hw => ?_, fun q hq => (h6 q hq).moved hW.alike⟩
    · exact word_at hW (good_of_word rfl) (h4 y hy)
    · rcases zOth_w w hw with ⟨x, rfl⟩ | ⟨C, T, rfl⟩
      · exact va_Nw.warmD hW (h5 _ hw)
      · exact va_Nw.warmC hW (h5 _ hw)
  · obtain ⟨h1, h2, h3, h4, h5, h6⟩ := h
    exact ⟨zE0_narrow h1 hB, zE1_narrow h2 hB, h3, h4, h5, h6⟩
  · obtain ⟨⟨e1, e2, e3, e4⟩, ⟨f1, f2, f3, ⟨f4, f5⟩, ⟨f6, f7⟩⟩, ⟨h3, h3'⟩, h4, h5, h6⟩ := h
    have r : s.vm.Alike (s.calling g mk a).vm := Vm.Alike.refl s.vm
    have nw : ∀ w : Cond, w.onTables = true → va_Nw w s → va_Nw w (s.calling g mk a) := fun w hw hz => va_Nw.same (u := s) (U := s.calling g mk a) hw rfl hz
    refine ⟨⟨fun w hw => ?_, e2.moved r, e3.moved r, fun q hq => ?_⟩, ⟨fun i q hq => ⟨vk_R.same rfl (f1 i q hq).1, ⟨(f1 i q hq).2.1.moved r, (f1 i q hq).2.2.1.moved r, (f1 i q hq).2.2.2.1.moved r, (f1 i q hq).2.2.2.2.moved r⟩⟩, f2.moved r, f3.moved r, ⟨f4.moved r, f5.moved r⟩, ⟨f6.moved r, f7.moved r⟩⟩, ⟨h3.moved r, h3'.moved r⟩, fun y hy => nw _ rfl (h4 y hy), fun w hw => nw w (zOth_tab w hw) (h5 w hw), fun q hq => (h6 q hq).moved r⟩
    · obtain ⟨a, i, x, n, rfl⟩ := zNests_w w hw
      exact nw _ rfl (e1 _ hw)
    · obtain ⟨a, ha⟩ := e4 q hq
      exact ⟨a, vk_R.same rfl ha⟩
theorem lawX_1 (ax : Nat → Nat × Nat) : zT1 (lawX ax) ax := fun _ _ h => h.2.1
theorem lawX_2 (ax : Nat → Nat × Nat) : zT2 (lawX ax) := fun _ _ h => h.2.2.1
theorem lawX_3 (ax : Nat → Nat × Nat) : zT3 (lawX ax) := fun _ _ h => h.2.2.2.1
theorem lawX_4 (ax : Nat → Nat × Nat) : zT4 (lawX ax) := fun _ _ h => h.2.2.2.2.1
theorem lawX_5 (ax : Nat → Nat × Nat) : zT5 (lawX ax) := fun _ _ h => h.2.2.2.2.2
end ZOUTX
