/-! THE MEMORY AT THE LAW's START, AND WHERE IT LIES -/
def w_tg : List Nat := [200, 200, 300, 202, 300, 202, 300, 202, 300, 202, 300, 202, 300, 202, 300, 202, 300, 202, 300, 202, 300, 202, 300, 202, 299]
def w_ln : List Nat := [4, 5, 0, 2, 0, 3, 0, 4, 0, 2, 0, 1, 0, 4, 0, 0, 0, 6, 0, 2, 0, 3, 0, 3, 0]
def w_by : List (List Int32) := [[], [80, 82, 73, 10], [6, 3, 52, 48, 53], [], [58, 109], [], [71, 69, 84], [], [72, 69, 65, 68], [], [58, 112], [], [47], [], [104, 111, 115, 116], [], [], [], [108, 101, 110, 103, 116, 104], [], [58, 115], [], [50, 48, 48], [], [52, 48, 52], []]
def w_hr (r0 : Option Nat) (i k : Nat) : Option Nat := if i = 0 then r0 else if i % 2 = 1 ∧ 3 ≤ i ∧ i < 25 ∧ k = 0 then some (i + 1) else none
def wM (t0 L : Nat) (xs : Nat → Int32) (r0 : Option Nat) : ax_M := (fun i => (t0 :: w_tg).getD i 0, fun i => (L :: w_ln).getD i 0, fun i k => if i = 0 then xs k else (w_by.getD i []).getD k 0, w_hr r0, fun _ _ => 0, 26)
def wA (a0 p1 p2 : Nat) (sa sv : Nat → Nat) (t z i : Nat) : Nat := if i = 0 then a0 else if i = 1 then p1 else if i = 2 then p2 else if i = 25 then t else if i < 25 then (if i % 2 = 1 then sa ((i - 3) / 2) else sv ((i - 4) / 2)) else z + (i - 26)
def wG (D : va_G) (cA : Nat → ClassId) (a : Nat → Nat) (z : Nat) (M : ax_M) : ax_G := (D, cA, a, 26, z, M)
/-- what is known of the constants -/
def WH (s : State) (t0 L : Nat) (xs : Nat → Int32) (a0 p1 p2 : Nat) (sa sv : Nat → Nat) : Prop :=
  (∀ k, k < 12 → Cs (txO.getD k ("", 0)).1 (txO.getD k ("", 0)).2 (txL.getD k []).length (txL.getD k []) s (sa k) (sv k)) ∧ Ro .int p1 4 (fun j => ([80, 82, 73, 10] : List Int32).getD j 0) s ∧ Ro .int p2 5 (fun j => ([6, 3, 52, 48, 53] : List Int32).getD j 0) s ∧ ((t0 = 200 ∧ L ≤ 2560 ∧ Ro .int a0 L xs s ∧ a0 ≠ p1 ∧ a0 ≠ p2) ∨ (t0 = 299 ∧ a0 = sa 11))
theorem shp_wM {t0 L : Nat} {xs : Nat → Int32} {r0 : Option Nat} : Shp pK (wM t0 L xs r0) := by
  have h1 : ∀ q ∈ sh_tg, pK q.1 = true → q.1 ≠ 0 ∧ q.1 < 26 ∧ w_tg.getD (q.1 - 1) 0 = q.2 := by decide
  have h2 : ∀ q ∈ sh_ln, pK q.1 = true → q.1 ≠ 0 ∧ w_ln.getD (q.1 - 1) 0 = q.2 := by decide
  have h3 : ∀ q ∈ sh_rf, pK q.1 = true → q.1 ≠ 0 ∧ w_hr none q.1 q.2.1 = some q.2.2 := by decide
  have h4 : ∀ q ∈ sh_by, q.1 ≠ 0 ∧ w_by.getD q.1 [] = q.2 := by decide
  have h5 : ∀ q ∈ sh_cs, q ≠ 0 ∧ (w_by.getD q []).getD 1 0 = 0 := by decide
  have cs : ∀ {α : Type} (a : α) (l : List α) (d : α) (i : Nat), i ≠ 0 → (a :: l).getD i d = l.getD (i - 1) d := fun a l d i hi => by
    cases i with
    | zero => exact absurd rfl hi
    | succ i => rfl
  refine ⟨fun q hq hp => ?_, fun q hq hp => ?_, fun q hq hp => ?_, fun q hq k hk => ?_, fun q hq => ?_⟩
  · obtain ⟨a, b, c⟩ := h1 q hq hp
    refine ⟨b, ?_⟩
    show (t0 :: w_tg).getD q.1 0 = q.2
    rw [cs _ _ _ _ a]; exact c
  · obtain ⟨a, c⟩ := h2 q hq hp
    show (L :: w_ln).getD q.1 0 = q.2
    rw [cs _ _ _ _ a]; exact c
  · obtain ⟨a, c⟩ := h3 q hq hp
    show w_hr r0 q.1 q.2.1 = some q.2.2
    unfold w_hr at c ⊢
    rw [if_neg a] at c ⊢; exact c
  · obtain ⟨a, c⟩ := h4 q hq
    show (if q.1 = 0 then xs k else (w_by.getD q.1 []).getD k 0) = q.2.getD k 0
    rw [if_neg a, c]
  · obtain ⟨a, c⟩ := h5 q hq
    show (if q = 0 then xs 1 else (w_by.getD q []).getD 1 0) = 0
    rw [if_neg a, c]
section AX126
variable {s : State} {b t0 L : Nat} {xs : Nat → Int32} {a0 p1 p2 : Nat} {sa sv : Nat → Nat} {t z : Nat} {r0 : Option Nat} {D : va_G} {cA : Nat → ClassId}
theorem wA_s {k : Nat} (hk : k < 11) : wA a0 p1 p2 sa sv t z (3 + 2 * k) = sa k := by
  unfold wA
  rw [if_neg (by omega), if_neg (by omega), if_neg (by omega), if_neg (by omega), if_pos (by omega), if_pos (by omega)]
  congr 1
  omega
theorem wA_v {k : Nat} (hk : k < 11) : wA a0 p1 p2 sa sv t z (4 + 2 * k) = sv k := by
  unfold wA
  rw [if_neg (by omega), if_neg (by omega), if_neg (by omega), if_neg (by omega), if_pos (by omega), if_neg (by omega)]
  congr 1
  omega
theorem wA_z {i : Nat} (hi : 26 ≤ i) : wA a0 p1 p2 sa sv t z i = z + (i - 26) := by
  unfold wA
  rw [if_neg (by omega), if_neg (by omega), if_neg (by omega), if_neg (by omega), if_neg (by omega)]
theorem w_kinds (i : Nat) (hi : i < 26) : i = 0 ∨ i = 1 ∨ i = 2 ∨ (∃ k, k < 11 ∧ i = 3 + 2 * k) ∨ (∃ k, k < 11 ∧ i = 4 + 2 * k) ∨ i = 25 := by
  by_cases h0 : i = 0
  · exact Or.inl h0
  by_cases h1 : i = 1
  · exact Or.inr (Or.inl h1)
  by_cases h2 : i = 2
  · exact Or.inr (Or.inr (Or.inl h2))
  by_cases h5 : i = 25
  · exact Or.inr (Or.inr (Or.inr (Or.inr (Or.inr h5))))
  by_cases h3 : i % 2 = 1
  · exact Or.inr (Or.inr (Or.inr (Or.inl ⟨(i - 3) / 2, by omega, by omega⟩)))
  · exact Or.inr (Or.inr (Or.inr (Or.inr (Or.inl ⟨(i - 4) / 2, by omega, by omega⟩))))
theorem Cs.lt {own : String} {idx n : Nat} {l : List Int32} {a v : Nat} (h : Cs own idx n l s a v) : a < s.heap.size := by
  obtain ⟨-, ⟨cell, h1, -⟩, -⟩ := h
  exact (Array.getElem?_eq_some_iff.mp h1).1
theorem WH.lt (H : WH s t0 L xs a0 p1 p2 sa sv) (ht : t < s.heap.size) (i : Nat) (hi : i < 26) : wA a0 p1 p2 sa sv t s.heap.size i < s.heap.size := by
  obtain ⟨h1, h2, h3, h4⟩ := H
  rcases w_kinds i hi with rfl | rfl | rfl | ⟨k, hk, rfl⟩ | ⟨k, hk, rfl⟩ | rfl
  · show a0 < _
    rcases h4 with ⟨-, -, h, -⟩ | ⟨-, h⟩
    · exact h.lt
    · rw [h]; exact (h1 11 (by decide)).lt
  · exact h2.lt
  · exact h3.lt
  · rw [wA_s hk]; exact (h1 k (by omega)).lt
  · rw [wA_v hk]; exact (h1 k (by omega)).2.2.2.2.lt
  · exact ht
theorem FT_ib : (FieldType.int) = .byte → False := fun h => by cases h
theorem WH.inj (hi : (Cond.instantiable "java/lang/String" 4).before #[Value.ref b] s = true) (H : WH s t0 L xs a0 p1 p2 sa sv) (ht : t < s.heap.size) (i j : Nat) (hi5 : i ≠ 25) (hj5 : j ≠ 25) (h : wA a0 p1 p2 sa sv t s.heap.size i = wA a0 p1 p2 sa sv t s.heap.size j) : i = j := by
  obtain ⟨h1, h2, h3, h4⟩ := H
  have lt : ∀ i, i < 26 → wA a0 p1 p2 sa sv t s.heap.size i < s.heap.size := WH.lt ⟨h1, h2, h3, h4⟩ ht
  obtain ⟨iv, is⟩ := wc_inj h1
  have pS : ∀ {q n : Nat} {ty : FieldType} {f : Nat → Int32}, Ro ty q n f s → ∀ k, k < 12 → q ≠ sa k := fun h k hk e => by
    rw [e] at h
    exact str_arr hi h (h1 k hk).2.1
  have pV : ∀ {q n : Nat} {f : Nat → Int32}, n < 2147483648 → Ro .int q n f s → ∀ k, k < 12 → q ≠ sv k := fun hn h k hk e => by
    rw [e] at h
    exact FT_ib (h.inj (h1 k hk).2.2.2.2 hn (txL_20 k hk)).1
  have n12 : p1 ≠ p2 := fun e => by
    rw [e] at h2
    exact absurd (h2.inj h3 (by decide) (by decide)).2.1 (by decide)
  have n01 : a0 ≠ p1 := by
    rcases h4 with ⟨-, -, -, h, -⟩ | ⟨-, h⟩
    · exact h
    · rw [h]; exact fun e => pS h2 11 (by decide) e.symm
  have n02 : a0 ≠ p2 := by
    rcases h4 with ⟨-, -, -, -, h⟩ | ⟨-, h⟩
    · exact h
    · rw [h]; exact fun e => pS h3 11 (by decide) e.symm
  have n0s : ∀ k, k < 11 → a0 ≠ sa k := fun k hk => by
    rcases h4 with ⟨-, -, h, -⟩ | ⟨-, h⟩
    · exact pS h k (by omega)
    · rw [h]; exact fun e => by have := is 11 k (by decide) (by omega) e; omega
  have n0v : ∀ k, k < 11 → a0 ≠ sv k := fun k hk => by
    rcases h4 with ⟨-, hL, h, -⟩ | ⟨-, h⟩
    · exact pV (by omega) h k (by omega)
    · rw [h]; exact fun e => pS (h1 k (by omega)).2.2.2.2 11 (by decide) e.symm
  have n1s : ∀ k, k < 11 → p1 ≠ sa k := fun k hk => pS h2 k (by omega)
  have n2s : ∀ k, k < 11 → p2 ≠ sa k := fun k hk => pS h3 k (by omega)
  have n1v : ∀ k, k < 11 → p1 ≠ sv k := fun k hk => pV (by decide) h2 k (by omega)
  have n2v : ∀ k, k < 11 → p2 ≠ sv k := fun k hk => pV (by decide) h3 k (by omega)
  have nsv : ∀ k j, k < 11 → j < 11 → sa k ≠ sv j := fun k j hk hj e => pS (h1 j (by omega)).2.2.2.2 k (by omega) e.symm
  by_cases i26 : i < 26
  · by_cases j26 : j < 26
    · rcases w_kinds i i26 with rfl | rfl | rfl | ⟨k, hk, rfl⟩ | ⟨k, hk, rfl⟩ | rfl <;> rcases w_kinds j j26 with rfl | rfl | rfl | ⟨k2, hk2, rfl⟩ | ⟨k2, hk2, rfl⟩ | rfl
      all_goals (try rw [wA_s hk] at h)
      all_goals (try rw [wA_v hk] at h)
      all_goals (try rw [wA_s hk2] at h)
      all_goals (try rw [wA_v hk2] at h)
      all_goals first
        | rfl
        | exact absurd rfl hi5
        | exact absurd rfl hj5
        | exact absurd h n01
        | exact absurd h.symm n01
        | exact absurd h n02
        | exact absurd h.symm n02
        | exact absurd h n12
        | exact absurd h.symm n12
        | exact absurd h (n0s k2 hk2)
        | exact absurd h.symm (n0s k hk)
        | exact absurd h (n0v k2 hk2)
        | exact absurd h.symm (n0v k hk)
        | exact absurd h (n1s k2 hk2)
        | exact absurd h.symm (n1s k hk)
        | exact absurd h (n1v k2 hk2)
        | exact absurd h.symm (n1v k hk)
        | exact absurd h (n2s k2 hk2)
        | exact absurd h.symm (n2s k hk)
        | exact absurd h (n2v k2 hk2)
        | exact absurd h.symm (n2v k hk)
        | exact absurd h (nsv k k2 hk hk2)
        | exact absurd h.symm (nsv k2 k hk2 hk)
        | (have := is k k2 (by omega) (by omega) h; omega)
        | (have := iv k k2 (by omega) (by omega) h; omega)
    · have := lt i i26
      rw [h, wA_z (by omega)] at this
      omega
  · by_cases j26 : j < 26
    · have := lt j j26
      rw [← h, wA_z (by omega)] at this
      omega
    · rw [wA_z (by omega), wA_z (by omega)] at h
      omega
theorem w_tgb (h0 : t0 = 200 ∨ t0 = 299) : ∀ i, i < 26 → 200 ≤ (t0 :: w_tg).getD i 0 ∧ (t0 :: w_tg).getD i 0 ≤ 300 := by
  rcases h0 with rfl | rfl <;> decide
theorem WH.gall (hi : (Cond.instantiable "java/lang/String" 4).before #[Value.ref b] s = true) (H : WH s t0 L xs a0 p1 p2 sa sv) (ht : t < s.heap.size) : ax_Gall (wG D cA (wA a0 p1 p2 sa sv t s.heap.size) s.heap.size (wM t0 L xs r0)) := by
  refine ⟨⟨fun i hi => wA_z hi, fun i hi2 => ⟨H.lt ht i hi2, ?_⟩⟩, rfl, fun i j k1 k2 h => H.inj hi ht i j k1 k2 h⟩
  exact w_tgb (H.2.2.2.imp (fun h => h.1) (fun h => h.1)) i hi2
theorem w_rel (hz : z = s.heap.size) {a : Nat → Nat} {M : ax_M} (hn : ax_n M = 26) : ax_Rel (wG D cA a z M) M s.heap := by
  refine ⟨fun o h1 h2 => ?_, ?_, ?_, fun o ho => ⟨rfl, rfl, rfl, rfl⟩⟩
  · have h1 : 26 ≤ o := h1
    omega
  · show 26 ≤ ax_n M
    omega
  · show s.heap.size = z + (ax_n M - 26)
    omega
theorem w_tg3 (k : Nat) (hk : k < 11) : (t0 :: w_tg).getD (3 + 2 * k) 0 = 300 := by
  have h : ∀ k, k < 11 → w_tg.getD (2 + 2 * k) 0 = 300 := by decide
  rw [show 3 + 2 * k = (2 + 2 * k) + 1 by omega]
  exact h k hk
theorem w_tg4 (k : Nat) (hk : k < 11) : (t0 :: w_tg).getD (4 + 2 * k) 0 = 202 := by
  have h : ∀ k, k < 11 → w_tg.getD (3 + 2 * k) 0 = 202 := by decide
  rw [show 4 + 2 * k = (3 + 2 * k) + 1 by omega]
  exact h k hk
theorem w_ln4 (k : Nat) (hk : k < 11) : (L :: w_ln).getD (4 + 2 * k) 0 = (txL.getD k []).length := by
  have h : ∀ k, k < 11 → w_ln.getD (3 + 2 * k) 0 = (txL.getD k []).length := by decide
  rw [show 4 + 2 * k = (3 + 2 * k) + 1 by omega]
  exact h k hk
theorem w_by4 (k : Nat) (hk : k < 11) : (fun j => if 4 + 2 * k = 0 then xs j else (w_by.getD (4 + 2 * k) []).getD j 0) = fun j => (txL.getD k []).getD j 0 := by
  have h : ∀ k, k < 11 → w_by.getD (4 + 2 * k) [] = txL.getD k [] := by decide
  funext j
  show (if 4 + 2 * k = 0 then xs j else (w_by.getD (4 + 2 * k) []).getD j 0) = (txL.getD k []).getD j 0
  rw [if_neg (by omega), h k hk]
theorem w_by0 : (fun j => if (0 : Nat) = 0 then xs j else (w_by.getD 0 []).getD j 0) = xs := by
  funext j
  exact if_pos rfl
theorem w_by1 : (fun j => if (1 : Nat) = 0 then xs j else (w_by.getD 1 []).getD j 0) = fun j => ([80, 82, 73, 10] : List Int32).getD j 0 := by
  funext j
  exact if_neg (by decide)
theorem w_by2 : (fun j => if (2 : Nat) = 0 then xs j else (w_by.getD 2 []).getD j 0) = fun j => ([6, 3, 52, 48, 53] : List Int32).getD j 0 := by
  funext j
  exact if_neg (by decide)
theorem w_by3 (k : Nat) (hk : k < 11) : (if 3 + 2 * k = 0 then xs 1 else (w_by.getD (3 + 2 * k) []).getD 1 0) = 0 := by
  have h : ∀ k, k < 11 → w_by.getD (3 + 2 * k) [] = [] := by decide
  rw [if_neg (by omega), h k hk]
  rfl
theorem w_hr3 (k : Nat) (hk : k < 11) : w_hr r0 (3 + 2 * k) 0 = some (4 + 2 * k) := by
  unfold w_hr
  rw [if_neg (by omega), if_pos ⟨by omega, by omega, by omega, rfl⟩]
  congr 1
  omega
theorem WH.kc1 (H : WH s t0 L xs a0 p1 p2 sa sv) (i : Nat) (hi : i < 26) : ax_kc1 (wG D cA (wA a0 p1 p2 sa sv t s.heap.size) s.heap.size (wM t0 L xs r0)) s s.heap i := by
  obtain ⟨h1, h2, h3, h4⟩ := H
  rcases w_kinds i hi with rfl | rfl | rfl | ⟨k, hk, rfl⟩ | ⟨k, hk, rfl⟩ | rfl
  · rcases h4 with ⟨rfl, -, h, -⟩ | ⟨rfl, -⟩
    · refine Or.inr (Or.inl ⟨(by show (200 : Nat) < 210; decide), ?_⟩)
      show ax_ro (ax_aty ((200 :: w_tg).getD 0 0 - 200)) (wA a0 p1 p2 sa sv t s.heap.size 0) ((L :: w_ln).getD 0 0) (fun j => if (0 : Nat) = 0 then xs j else (w_by.getD 0 []).getD j 0) s s.heap
      rw [show (200 :: w_tg).getD 0 0 = 200 from rfl, Nat.sub_self, show ax_aty 0 = .int from rfl, w_by0]
      exact h
    · exact Or.inr (Or.inr rfl)
  · refine Or.inr (Or.inl ⟨(by show (200 : Nat) < 210; decide), ?_⟩)
    show ax_ro (ax_aty ((t0 :: w_tg).getD 1 0 - 200)) (wA a0 p1 p2 sa sv t s.heap.size 1) ((L :: w_ln).getD 1 0) (fun j => if (1 : Nat) = 0 then xs j else (w_by.getD 1 []).getD j 0) s s.heap
    rw [show (t0 :: w_tg).getD 1 0 = 200 from rfl, Nat.sub_self, show ax_aty 0 = .int from rfl, w_by1]
    exact h2
  · refine Or.inr (Or.inl ⟨(by show (200 : Nat) < 210; decide), ?_⟩)
    show ax_ro (ax_aty ((t0 :: w_tg).getD 2 0 - 200)) (wA a0 p1 p2 sa sv t s.heap.size 2) ((L :: w_ln).getD 2 0) (fun j => if (2 : Nat) = 0 then xs j else (w_by.getD 2 []).getD j 0) s s.heap
    rw [show (t0 :: w_tg).getD 2 0 = 200 from rfl, Nat.sub_self, show ax_aty 0 = .int from rfl, w_by2]
    exact h3
  · obtain ⟨-, q1, q2, q3, q4⟩ := h1 k (by omega)
    refine Or.inl ⟨w_tg3 k hk, ?_, ?_, ?_⟩
    · show va_OF RJ0 "value" "[B" (va_rf ((w_hr r0 (3 + 2 * k) 0).map (wA a0 p1 p2 sa sv t s.heap.size))) (wA a0 p1 p2 sa sv t s.heap.size (3 + 2 * k)) (fun q => s.heap.size ≤ q) s s.heap
      rw [w_hr3 k hk, wA_s hk]
      show va_OF RJ0 "value" "[B" (.ref (wA a0 p1 p2 sa sv t s.heap.size (4 + 2 * k))) (sa k) (fun q => s.heap.size ≤ q) s s.heap
      rw [wA_v hk]
      exact q3
    · show va_OF RJ0 "coder" "B" (.int (if 3 + 2 * k = 0 then xs 1 else (w_by.getD (3 + 2 * k) []).getD 1 0)) (wA a0 p1 p2 sa sv t s.heap.size (3 + 2 * k)) (fun q => s.heap.size ≤ q) s s.heap
      rw [w_by3 k hk, wA_s hk]
      exact q2
    · show va_O RJ0 (wA a0 p1 p2 sa sv t s.heap.size (3 + 2 * k)) (fun q => s.heap.size ≤ q) s s.heap
      rw [wA_s hk]
      exact q1
  · obtain ⟨-, -, -, -, q4⟩ := h1 k (by omega)
    refine Or.inr (Or.inl ⟨?_, ?_⟩)
    · show (t0 :: w_tg).getD (4 + 2 * k) 0 < 210
      rw [w_tg4 k hk]; decide
    · show ax_ro (ax_aty ((t0 :: w_tg).getD (4 + 2 * k) 0 - 200)) (wA a0 p1 p2 sa sv t s.heap.size (4 + 2 * k)) ((L :: w_ln).getD (4 + 2 * k) 0) (fun j => if 4 + 2 * k = 0 then xs j else (w_by.getD (4 + 2 * k) []).getD j 0) s s.heap
      rw [w_tg4 k hk, wA_v hk, w_ln4 k hk, w_by4 k hk]
      exact q4
  · exact Or.inr (Or.inr rfl)
/-- the formatter of which nothing is asked -/
theorem w_fmt (hts : ∀ w ∈ lw_tbl, w.before #[Value.ref b] s = true) (hgv : (Jvm.Cond.and given_1 narrow_1).before #[Value.ref b] s = true) (hb : b < s.heap.size) : ∃ (t : Nat) (r0 : Option Nat), t < s.heap.size ∧ ∀ (a0 p1 p2 : Nat) (sa sv : Nat → Nat), va_Z "jdk/internal/util/Preconditions" "SIOOBE_FORMATTER" "Ljava/util/function/BiFunction;" (va_rf (r0.map (wA a0 p1 p2 sa sv t s.heap.size))) (fun q => s.heap.size ≤ q) s s.heap := by
  have hs := flat_of_before _ hgv
  have h1 : (Cond.laysStatic "jdk/internal/util/Preconditions" "SIOOBE_FORMATTER" "Ljava/util/function/BiFunction;").before #[Value.ref b] s = true := hts _ (by decide +kernel)
  have h2 : (Cond.initialized "jdk/internal/util/Preconditions").before #[Value.ref b] s = true := hts _ (by decide +kernel)
  have h3 : (Cond.isRef (.static "jdk/internal/util/Preconditions" "SIOOBE_FORMATTER" "Ljava/util/function/BiFunction;")).before #[Value.ref b] s = true := hs _ (by decide +kernel)
  rcases va_Zqof h1 h2 h3 (A := fun q => s.heap.size ≤ q) nA with h | ⟨t, h⟩
  · exact ⟨b, none, hb, fun _ _ _ _ _ => h⟩
  · by_cases ht : t < s.heap.size
    · exact ⟨t, some 25, ht, fun _ _ _ _ _ => h⟩
    · refine ⟨b, some (26 + (t - s.heap.size)), hb, fun _ _ _ _ _ => ?_⟩
      show va_Z _ _ _ (.ref (wA _ _ _ _ _ _ _ (26 + (t - s.heap.size)))) _ _ _
      rw [wA_z (by omega), show s.heap.size + (26 + (t - s.heap.size) - 26) = t by omega]
      exact h
end AX126
