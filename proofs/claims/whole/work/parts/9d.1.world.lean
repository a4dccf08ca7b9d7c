/-! THE WORLD AT THE LAW's START: words, classes, arrays -/
section AX123
variable {s : State} {b : Nat}
theorem wx_sel (hts : ∀ w ∈ lw_tbl, w.before #[Value.ref b] s = true) : (Cond.selects "java/lang/StringBuilder" ax_yE ax_yE).before #[Value.ref b] s = true := by
  obtain ⟨c, r, m, h1, h2, h3, h4, mk, h5, h6⟩ := Cond.selects_spec (hts (.selects "java/lang/StringBuilder" ⟨"java/lang/AbstractStringBuilder", "isLatin1", "()Z"⟩ ⟨"java/lang/AbstractStringBuilder", "isLatin1", "()Z"⟩) (by decide +kernel))
  obtain ⟨mk2, methM, hnamed, hmethM, -, -⟩ := Cond.instanceMethod_spec (hts (.instanceMethod ax_yE) (by decide +kernel))
  have hpriv : (Cond.privateMethod ax_yE).before #[Value.ref b] s = true := hts (.privateMethod ax_yE) (by decide +kernel)
  have hfound : s.methodFound? ax_yE.cls ax_yE.name ax_yE.desc = some mk2 := State.methodFound?_of_named hnamed (by decide)
  have q1 : s.vm.findClass "java/lang/AbstractStringBuilder" = some mk2.cls := findClass_of_methodNamed hnamed
  have q2 : s.vm.findClass "java/lang/AbstractStringBuilder" = some m.cls := findClass_of_methodNamed h3
  have hcls : mk2.cls = m.cls := Option.some.inj (q1.symm.trans q2)
  have hsel : selectMethod {} s.vm c mk2 = .method mk2 := selectMethod_private hmethM (Cond.privateMethod_at hpriv mk2 methM hnamed hmethM)
  simp only [Cond.before, Cond.holds, Cond.value, h1, hfound, hnamed, hsel, hcls, h5]
  simp; exact h6
theorem wx_ws (hts : ∀ w ∈ lw_tbl, w.before #[Value.ref b] s = true) : ∀ w ∈ ax_ws, w.before #[Value.ref b] s = true := fun w hw => by
  rcases List.mem_append.mp (List.mem_filter.mp hw).1 with h | h
  · exact hts w h
  · unfold ax_xs at h
    rw [List.mem_singleton] at h
    subst h
    exact wx_sel hts
/-- the classes -/
def wx_n : List Nat := [4, 4, 10, 13, 3, 2, 5, 2, 3, 4, 2, 10, 3, 2, 55]
theorem wx_in : ∀ q ∈ ax_cl, (∀ w ∈ u_ws q.1 q.2.1 q.2.2, w ∈ lw_tbl) ∧ Cond.instantiable q.1 q.2.2 ∈ lw_tbl := by
  intro q hq
  simp only [ax_cl, List.mem_cons, List.not_mem_nil, or_false] at hq
  rcases hq with rfl | rfl | rfl | rfl | rfl | rfl | rfl | rfl | rfl | rfl | rfl | rfl | rfl | rfl | rfl
  all_goals (exact ⟨by decide +kernel, by decide +kernel⟩)
theorem wx_cls (hts : ∀ w ∈ lw_tbl, w.before #[Value.ref b] s = true) : ∃ D : va_G, ∀ (c : Nat) (q : vw_C), ax_cl[c]? = some q → u_Kn s q.1 q.2.1 q.2.2 (D.1 c) (D.2 c) := by
  have h : ∀ c : Nat, ∃ r : ClassId × (Nat → Nat), ∀ q : vw_C, ax_cl[c]? = some q → u_Kn s q.1 q.2.1 q.2.2 r.1 r.2 := fun c => by
    cases hq : ax_cl[c]? with
    | none => exact ⟨(default, fun _ => 0), fun q e => by cases e⟩
    | some q =>
      obtain ⟨g1, g2⟩ := wx_in q (List.mem_of_getElem? hq)
      obtain ⟨cC, iS, g3⟩ := u_known hts g1 (hts _ g2)
      exact ⟨(cC, iS), fun q' e => by cases e; exact g3⟩
  obtain ⟨f, hf⟩ := Classical.axiomOfChoice h
  exact ⟨(fun c => (f c).1, fun c => (f c).2), fun c q e => hf c q e⟩
theorem wx_ar1 {ty : FieldType} (h : (Cond.arrayClass ty).before #[Value.ref b] s = true) : ∃ c k comp, s.vm.findClass ("[" ++ ty.toString) = some c ∧ s.vm.classes[c]? = some k ∧ k.kind = .array comp ty := Cond.arrayClass_spec h
theorem wx_at {ty : FieldType} {c : ClassId} {k : Class} {comp : ClassId} (h2 : s.vm.classes[c]? = some k) (h3 : k.kind = .array comp ty) : ArrOfT s c ty := fun n z => ⟨fun k h => (by cases h), k, h2, comp, h3⟩
theorem wx_arr (hts : ∀ w ∈ lw_tbl, w.before #[Value.ref b] s = true) : ∃ cA : Nat → ClassId, ∀ t ∈ ax_tl, ArrOfT s (cA t) (ax_aty t) ∧ va_RA s (cA t) (ax_aty t) := by
  have h : ∀ t : Nat, ∃ c : ClassId, t ∈ ax_tl → ArrOfT s c (ax_aty t) ∧ va_RA s c (ax_aty t) := fun t => by
    by_cases ht : t ∈ ax_tl
    · have pr : ∀ ty : FieldType, (Cond.arrayClass ty).before #[Value.ref b] s = true → (∀ c, s.vm.findClass ("[" ++ ty.toString) = some c → va_RA s c ty) → ∃ c : ClassId, ArrOfT s c ty ∧ va_RA s c ty := fun ty hw hr => by
        obtain ⟨c, k, comp, g1, g2, g3⟩ := wx_ar1 hw
        exact ⟨c, wx_at g2 g3, hr c g1⟩
      have ob : ∀ C : String, (Cond.arrayOver (.object C)).before #[Value.ref b] s = true → ∃ c : ClassId, ArrOfT s c (.object C) ∧ va_RA s c (.object C) := fun C hw => by
        obtain ⟨comp, c, k, g1, g2, g3, g4, g5⟩ := Cond.arrayOver_spec hw
        exact ⟨c, wx_at g3 g4, k, comp, g3, g4, g1, g5⟩
      have : ∃ c : ClassId, ArrOfT s c (ax_aty t) ∧ va_RA s c (ax_aty t) := by
        simp only [ax_tl, List.mem_cons, List.not_mem_nil, or_false] at ht
        rcases ht with rfl | rfl | rfl | rfl | rfl | rfl | rfl | rfl
        · exact pr .int (hts _ (by decide +kernel)) (fun c h => h)
        · exact pr .char (hts _ (by decide +kernel)) (fun c h => h)
        · exact pr .byte (hts _ (by decide +kernel)) (fun c h => h)
        · exact pr .boolean (hts _ (by decide +kernel)) (fun c h => h)
        · exact pr .long (hts _ (by decide +kernel)) (fun c h => h)
        · exact ob "PageServer$Field" (hts _ (by decide +kernel))
        · exact ob "PageServer$Page" (hts _ (by decide +kernel))
        · exact ob "PageServer$Stream" (hts _ (by decide +kernel))
      obtain ⟨c, h⟩ := this
      exact ⟨c, fun _ => h⟩
    · exact ⟨default, fun h => absurd h ht⟩
  obtain ⟨f, hf⟩ := Classical.axiomOfChoice h
  exact ⟨f, fun t ht => hf t ht⟩
end AX123
