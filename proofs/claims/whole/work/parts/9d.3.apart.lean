/-! THE CONSTANTS ARE APART -/
def txL : List (List Int32) := [[58, 109], [71, 69, 84], [72, 69, 65, 68], [58, 112], [47], [104, 111, 115, 116], [], [108, 101, 110, 103, 116, 104], [58, 115], [50, 48, 48], [52, 48, 52], [110, 111, 32, 112, 97, 116, 104]]
def txO : List (String × Nat) := [("PageServer$HeaderTable", 18), ("PageServer$HeaderTable", 20), ("PageServer$HeaderTable", 25), ("PageServer$HeaderTable", 27), ("PageServer$HeaderTable", 29), ("PageServer$HeaderTable", 31), ("PageServer$HeaderTable", 33), ("PageServer$HeaderTable", 35), ("PageServer$HeaderTable", 37), ("PageServer$HeaderTable", 39), ("PageServer$HeaderTable", 41), ("PageServer", 24)]
section AX125
variable {s : State} {b : Nat}
theorem Ro.lt {ty : FieldType} {q n : Nat} {f : Nat → Int32} (h : Ro ty q n f s) : q < s.heap.size := by
  obtain ⟨cell, h1, -⟩ := h
  exact (Array.getElem?_eq_some_iff.mp h1).1
theorem Ro.inj {ty ty' : FieldType} {q n n' : Nat} {f f' : Nat → Int32} (h : Ro ty q n f s) (g : Ro ty' q n' f' s) (hn : n < 2147483648) (hn' : n' < 2147483648) : ty = ty' ∧ n = n' ∧ ∀ j, j < n → f j = f' j := by
  obtain ⟨c, h1, ⟨-, kA, h2, comp, h3⟩, -, ⟨h4, h5⟩, h6⟩ := h
  obtain ⟨c', g1, ⟨-, kB, g2, comp', g3⟩, -, ⟨g4, g5⟩, g6⟩ := g
  rw [h1] at g1
  cases g1
  rw [h2] at g2
  cases g2
  rw [h3] at g3
  have e : n = n' := nI_inj hn hn' (h5.symm.trans g5)
  subst e
  injection g3 with _ e2
  refine ⟨e2, rfl, fun j hj => ?_⟩
  have a := h6 j hj
  rw [g6 j hj] at a
  injection a with a
  injection a with a
  exact a.symm
theorem OF_inj {o n d : String} {v v' : Value} {t : Nat} {A : Nat → Prop} (h : va_OF o n d v t A s s.heap) (g : va_OF o n d v' t A s s.heap) : v = v' := by
  obtain ⟨cf, k, i, f, cell, h1, h2, h3, h4, h5, -⟩ := h
  obtain ⟨cf', k', i', f', cell', g1, g2, g3, g4, g5, -⟩ := g
  rw [h1] at g1
  cases g1
  rw [h3] at g3
  cases g3
  rw [h5] at g5
  exact Option.some.inj g5
theorem str_arr (hi : (Cond.instantiable "java/lang/String" 4).before #[Value.ref b] s = true) {ty : FieldType} {q n : Nat} {f : Nat → Int32} {A : Nat → Prop} (h : Ro ty q n f s) (g : va_O RJ0 q A s s.heap) : False := by
  obtain ⟨c, h1, ⟨-, kA, h2, comp, h3⟩, -⟩ := h
  obtain ⟨cell, g1, -, g3, -⟩ := g
  rw [h1] at g1
  cases g1
  obtain ⟨cC, kC, k1, k2, k3, -⟩ := Cond.instantiable_spec hi
  have g3 : s.vm.findClass "java/lang/String" = some c.cls := g3
  rw [k1] at g3
  cases g3
  rw [h2] at k2
  cases k2
  rw [h3] at k3
  cases k3
theorem wc (hgv : (Jvm.Cond.and given_1 narrow_1).before #[Value.ref b] s = true) : ∃ sa sv : Nat → Nat, ∀ k, k < 12 → Cs (txO.getD k ("", 0)).1 (txO.getD k ("", 0)).2 (txL.getD k []).length (txL.getD k []) s (sa k) (sv k) := by
  have h : ∀ k : Nat, ∃ q : Nat × Nat, k < 12 → Cs (txO.getD k ("", 0)).1 (txO.getD k ("", 0)).2 (txL.getD k []).length (txL.getD k []) s q.1 q.2 := fun k => by
    by_cases hk : k < 12
    · have : ∃ a v, Cs (txO.getD k ("", 0)).1 (txO.getD k ("", 0)).2 (txL.getD k []).length (txL.getD k []) s a v := by
        have : k = 0 ∨ k = 1 ∨ k = 2 ∨ k = 3 ∨ k = 4 ∨ k = 5 ∨ k = 6 ∨ k = 7 ∨ k = 8 ∨ k = 9 ∨ k = 10 ∨ k = 11 := by omega
        rcases this with rfl | rfl | rfl | rfl | rfl | rfl | rfl | rfl | rfl | rfl | rfl | rfl
        · exact wc_0 hgv
        · exact wc_1 hgv
        · exact wc_2 hgv
        · exact wc_3 hgv
        · exact wc_4 hgv
        · exact wc_5 hgv
        · exact wc_6 hgv
        · exact wc_7 hgv
        · exact wc_8 hgv
        · exact wc_9 hgv
        · exact wc_10 hgv
        · exact wc_11 hgv
      obtain ⟨a, v, h⟩ := this
      exact ⟨(a, v), fun _ => h⟩
    · exact ⟨(0, 0), fun h => absurd h hk⟩
  obtain ⟨f, hf⟩ := Classical.axiomOfChoice h
  exact ⟨fun k => (f k).1, fun k => (f k).2, fun k hk => hf k hk⟩
theorem txL_20 : ∀ k, k < 12 → (txL.getD k []).length < 2147483648 := by decide
theorem txL_inj : ∀ k, k < 12 → ∀ j, j < 12 → txL.getD k [] = txL.getD j [] → k = j := by decide
/-- the addresses of the Strings and of their bytes differ -/
theorem wc_inj {sa sv : Nat → Nat} (h : ∀ k, k < 12 → Cs (txO.getD k ("", 0)).1 (txO.getD k ("", 0)).2 (txL.getD k []).length (txL.getD k []) s (sa k) (sv k)) : (∀ k j, k < 12 → j < 12 → sv k = sv j → k = j) ∧ ∀ k j, k < 12 → j < 12 → sa k = sa j → k = j := by
  have hv : ∀ k j, k < 12 → j < 12 → sv k = sv j → k = j := fun k j hk hj e => by
    have a := (h k hk).2.2.2.2
    have c := (h j hj).2.2.2.2
    rw [← e] at c
    obtain ⟨-, e2, e3⟩ := a.inj c (txL_20 k hk) (txL_20 j hj)
    exact txL_inj k hk j hj (lst_ext e2 e3)
  refine ⟨hv, fun k j hk hj e => hv k j hk hj ?_⟩
  have a := (h k hk).2.2.2.1
  have c := (h j hj).2.2.2.1
  rw [← e] at c
  have := OF_inj a c
  injection this
end AX125
