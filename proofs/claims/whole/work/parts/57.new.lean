/-! NEW PLACES -/
/-- M2 is M below n0, perhaps with new places -/
def Bl (n0 : Nat) (M M2 : ax_M) : Prop := n0 ≤ ax_n M ∧ ax_n M ≤ ax_n M2 ∧ ∀ q, q < n0 → (ax_tg M2 q = ax_tg M q ∧ ax_ln M2 q = ax_ln M q) ∧ ∀ k, ax_hi M2 q k = ax_hi M q k ∧ ax_hr M2 q k = ax_hr M q k
theorem Bl.refl {n0 : Nat} {M : ax_M} (h : n0 ≤ ax_n M) : Bl n0 M M := ⟨h, Nat.le_refl _, fun _ _ => ⟨⟨rfl, rfl⟩, fun _ => ⟨rfl, rfl⟩⟩⟩
theorem Bl.trans {n0 : Nat} {M M2 M3 : ax_M} (h : Bl n0 M M2) (g : Bl n0 M2 M3) : Bl n0 M M3 :=
  ⟨h.1, Nat.le_trans h.2.1 g.2.1, fun q hq => ⟨⟨(g.2.2 q hq).1.1.trans (h.2.2 q hq).1.1, (g.2.2 q hq).1.2.trans (h.2.2 q hq).1.2⟩, fun k => ⟨((g.2.2 q hq).2 k).1.trans ((h.2.2 q hq).2 k).1, ((g.2.2 q hq).2 k).2.trans ((h.2.2 q hq).2 k).2⟩⟩⟩
theorem Bl.si {n0 : Nat} {M M2 : ax_M} (h : Bl n0 M M2) {o k : Nat} {v : Int32} (ho : n0 ≤ o) : Bl n0 M (ax_si M2 o k v) :=
  h.trans ⟨Nat.le_trans h.1 h.2.1, Nat.le_refl _, fun q hq => ⟨⟨rfl, rfl⟩, fun j => ⟨wm_h1n (nbq (by omega)), rfl⟩⟩⟩
theorem Bl.sr {n0 : Nat} {M M2 : ax_M} (h : Bl n0 M M2) {o k : Nat} {v : Option Nat} (ho : n0 ≤ o) : Bl n0 M (ax_sr M2 o k v) :=
  h.trans ⟨Nat.le_trans h.1 h.2.1, Nat.le_refl _, fun q hq => ⟨⟨rfl, rfl⟩, fun j => ⟨rfl, wm_r2n (nbq (by omega))⟩⟩⟩
theorem Bl.new {n0 : Nat} {M M2 : ax_M} (h : Bl n0 M M2) {t len : Nat} : Bl n0 M (ax_new M2 t len) := by
  refine h.trans ⟨Nat.le_trans h.1 h.2.1, Nat.le_succ _, fun q hq => ?_⟩
  have : q ≠ ax_n M2 := by have := h.1; have := h.2.1; omega
  simp only [ax_tg, ax_ln, ax_hi, ax_hr, ax_new, if_neg this]
  exact ⟨⟨trivial, trivial⟩, fun _ => ⟨trivial, trivial⟩⟩
theorem Bl.sh {n0 : Nat} {M M2 : ax_M} (h : Bl n0 M M2) (hn : 78 ≤ n0) (g : SH M) : SH M2 := by
  have hl2 : ∀ q ∈ sh_ln, q.1 < 78 := by decide
  have hr2 : ∀ q ∈ sh_rf, q.1 < 78 := by decide
  obtain ⟨g1, g2, g3, g4, g5, g6⟩ := g
  refine ⟨Nat.le_trans g1 h.2.1, fun q hq => ?_, fun q hq => ?_, fun q hq => ?_, fun q hq j hj => ?_, fun q hq => ?_⟩
  · exact ((h.2.2 q.1 (by have := sh_tg_lt q hq; omega)).1.1).trans (g2 q hq)
  · exact ((h.2.2 q.1 (by have := hl2 q hq; omega)).1.2).trans (g3 q hq)
  · exact (((h.2.2 q.1 (by have := hr2 q hq; omega)).2 q.2.1).2).trans (g4 q hq)
  · exact (((h.2.2 q.1 (by have := sh_by_lt q hq; omega)).2 j).1).trans (g5 q hq j hj)
  · exact (((h.2.2 q (by have := sh_cs_lt q hq; omega)).2 1).1).trans (g6 q hq)
theorem Bl.own {n0 : Nat} {M M2 : ax_M} (h : Bl n0 M M2) {o t : Nat} (ho : o < n0) (g : ax_own M o t) : ax_own M2 o t := ⟨Nat.lt_of_lt_of_le g.1 h.2.1, ((h.2.2 o ho).1.1).trans g.2⟩
theorem Bl.hi {n0 : Nat} {M M2 : ax_M} (h : Bl n0 M M2) {o : Nat} (ho : o < n0) (k : Nat) : ax_hi M2 o k = ax_hi M o k := ((h.2.2 o ho).2 k).1
theorem Bl.hr {n0 : Nat} {M M2 : ax_M} (h : Bl n0 M M2) {o : Nat} (ho : o < n0) (k : Nat) : ax_hr M2 o k = ax_hr M o k := ((h.2.2 o ho).2 k).2
theorem Bl.sm {A : Nat → Nat → Bool} {M M2 : ax_M} (h : Bl (ax_n M) M M2) (hn : 78 ≤ ax_n M) (hA : ∀ q k, A q k = true → q < 78) : Sm A M M2 :=
  ⟨⟨h.2.1, fun q hq => (h.2.2 q hq).1⟩, fun q k e => by
    have hq : q < ax_n M := by
      rcases e with e | e
      · exact e.2
      · have := hA q k e; omega
    exact (h.2.2 q hq).2 k⟩
theorem Bl.le {n0 n1 : Nat} {M M2 : ax_M} (h : Bl n0 M M2) (g : n1 ≤ n0) : Bl n1 M M2 := ⟨Nat.le_trans g h.1, h.2.1, fun q hq => h.2.2 q (by omega)⟩
theorem nw_n (M : ax_M) (t len : Nat) : ax_n (ax_new M t len) = ax_n M + 1 := rfl
theorem nw_own (M : ax_M) (t len : Nat) : ax_own (ax_new M t len) (ax_n M) t := ⟨Nat.lt_succ_self _, by simp only [ax_tg, ax_new, if_true]⟩
theorem nw_ln (M : ax_M) (t len : Nat) : ax_ln (ax_new M t len) (ax_n M) = len := by simp only [ax_ln, ax_new, if_true]
theorem nw_hi (M : ax_M) (t len k : Nat) : ax_hi (ax_new M t len) (ax_n M) k = 0 := by simp only [ax_hi, ax_new, if_true]
section AX57
variable {C : ax_C} {cod : List ax_R} {Q : ax_O → ax_M → Prop} {rt : Option FieldType} {pc a b c d : Nat} {rest : List ax_R} {lv : ax_L} {st : List ax_V} {M : ax_M} {rc rs : Nat}
theorem we_new {i : Nat} (h1 : 1 ≤ rc) (h2 : b ≤ rs) : ax_Ev C cod Q rt ((pc, .new i, a, b, 0, d) :: rest) lv st M rc rs = ax_Ev C cod Q rt rest lv (.inr (.inl (some (ax_n M))) :: st) (ax_new M a 0) (rc - 1) (rs - b) := by
  rw [ax_Ev_cons, if_neg (by decide)]
  show (1 ≤ rc ∧ b ≤ rs ∧ ax_Ev C cod Q rt rest lv (.inr (.inl (some (ax_n M))) :: st) (ax_new M a 0) (rc - 1) (rs - b)) = _
  exact propext ⟨fun z => z.2.2, fun z => ⟨h1, h2, z⟩⟩
theorem we_newarr {t : ArrayType} {n : Nat} (hn : n ≤ 60000000) (h1 : 1 ≤ rc) (h2 : n ≤ rs) : ax_Ev C cod Q rt ((pc, .newarray t, a, b, 0, d) :: rest) lv (.inl (nI n) :: st) M rc rs = ax_Ev C cod Q rt rest lv (.inr (.inl (some (ax_n M))) :: st) (ax_new M a n) (rc - 1) (rs - n) := by
  rw [ax_Ev_cons, if_neg (by decide)]
  have hc : (nI n).toNatClampNeg = n := nI_clamp (by omega)
  show (_ ∧ _ ∧ _ ∧ _ ∧ _) = _
  rw [hc]
  exact propext ⟨fun z => z.2.2.2.2, fun z => ⟨nI_pos (by omega), hn, h1, h2, z⟩⟩
/-- Object's constructor -/
theorem we_obj {i o : Nat} (hw : (st.map ax_w).sum ≤ 8) : ax_Ev C cod Q rt ((pc, .invokespecial i, a, b, 5, d) :: rest) lv (.inr (.inl (some o)) :: st) M rc rs = ax_Ev C cod Q rt rest lv st M rc rs := by
  rw [ax_Ev_cons, if_neg (by decide)]
  unfold ax_ins
  rw [if_pos rfl]
  show (_ ∧ _) = _
  exact propext ⟨fun z => z.2, fun z => ⟨hw, z⟩⟩
/-- a constructor -/
theorem ax_gi {i : Nat} {st2 : List ax_V} {M2 : ax_M} {o c1 s1 : Nat} {as : List ax_V} (hcall : C a c1 s1 (.inr (.inl (some o)) :: as) M (.inl none) M2) (hc : c ≠ 99 ∧ c ≠ 5 ∧ c ≠ 11) (hst : st = (.inr (.inl (some o)) :: as).reverse ++ st2) (hb : (.inr (.inl (some o)) :: as : List ax_V).length = b)
    (hw : (st2.map ax_w).sum ≤ 8) (k1 : c1 ≤ rc) (k2 : s1 ≤ rs) (h : ax_Ev C cod Q rt rest lv st2 M2 (rc - c1) (rs - s1)) : ax_Ev C cod Q rt ((pc, .invokespecial i, a, b, c, d) :: rest) lv st M rc rs := by
  rw [ax_Ev_cons, if_neg hc.1]
  unfold ax_ins
  rw [if_neg hc.2.1, if_neg hc.2.2]
  subst hst; subst hb
  have e1 : ((.inr (.inl (some o)) :: as : List ax_V).reverse ++ st2).drop (.inr (.inl (some o)) :: as : List ax_V).length = st2 := by rw [List.drop_append_of_le_length (by simp), List.drop_of_length_le (by simp)]; rfl
  have e2 : ((.inr (.inl (some o)) :: as : List ax_V).reverse ++ st2).take (.inr (.inl (some o)) :: as : List ax_V).length = (.inr (.inl (some o)) :: as : List ax_V).reverse := by rw [List.take_append_of_le_length (by simp), List.take_of_length_le (by simp)]
  refine ⟨⟨o, ?_⟩, by simp, by rw [e1]; exact hw, c1, s1, none, M2, k1, k2, by rw [e2, List.reverse_reverse]; exact hcall, by rw [e1]; exact h⟩
  rw [List.getElem?_append_left (by simp), List.getElem?_reverse (by simp)]
  simp
/-- a call of a static method that answers and may make new places -/
theorem ax_gtB {i : Nat} {st2 : List ax_V} {M2 : ax_M} {c1 s1 : Nat} {as : List ax_V} {v : ax_V} (hcall : C a c1 s1 as M (.inl (some v)) M2) (hc : c ≠ 99 ∧ c ≠ 6 ∧ c ≠ 7 ∧ c ≠ 8) (hst : st = as.reverse ++ st2) (hb : as.length = b)
    (hw : (st2.map ax_w).sum ≤ 8) (k1 : c1 ≤ rc) (k2 : s1 ≤ rs) (h : ax_Ev C cod Q rt rest lv (v :: st2) M2 (rc - c1) (rs - s1)) : ax_Ev C cod Q rt ((pc, .invokestatic i, a, b, c, d) :: rest) lv st M rc rs :=
  ax_goS _ st2 c1 s1 _ M2 hc hst hb hw k1 k2 hcall h
theorem ax_gvB {i : Nat} {st2 : List ax_V} {M2 : ax_M} {o c1 s1 : Nat} {as : List ax_V} {v : ax_V} (hcall : C a c1 s1 (.inr (.inl (some o)) :: as) M (.inl (some v)) M2) (hown : ax_own M o c) (hc : c ≠ 99) (hst : st = (.inr (.inl (some o)) :: as).reverse ++ st2) (hb : (.inr (.inl (some o)) :: as : List ax_V).length = b)
    (hw : (st2.map ax_w).sum ≤ 8) (k1 : c1 ≤ rc) (k2 : s1 ≤ rs) (h : ax_Ev C cod Q rt rest lv (v :: st2) M2 (rc - c1) (rs - s1)) : ax_Ev C cod Q rt ((pc, .invokevirtual i, a, b, c, d) :: rest) lv st M rc rs :=
  ax_goV _ st2 c1 s1 _ M2 hc hst hb ⟨hown.1, Or.inl hown.2⟩ hw k1 k2 hcall h
theorem ax_gvB0 {i : Nat} {st2 : List ax_V} {M2 : ax_M} {o c1 s1 : Nat} {as : List ax_V} (hcall : C a c1 s1 (.inr (.inl (some o)) :: as) M (.inl none) M2) (hown : ax_own M o c) (hc : c ≠ 99) (hst : st = (.inr (.inl (some o)) :: as).reverse ++ st2) (hb : (.inr (.inl (some o)) :: as : List ax_V).length = b)
    (hw : (st2.map ax_w).sum ≤ 8) (k1 : c1 ≤ rc) (k2 : s1 ≤ rs) (h : ax_Ev C cod Q rt rest lv st2 M2 (rc - c1) (rs - s1)) : ax_Ev C cod Q rt ((pc, .invokevirtual i, a, b, c, d) :: rest) lv st M rc rs :=
  ax_goV _ st2 c1 s1 _ M2 hc hst hb ⟨hown.1, Or.inl hown.2⟩ hw k1 k2 hcall h
end AX57
