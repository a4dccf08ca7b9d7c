/-! BOTH SIDES READ: the relation behind it -/
theorem Rr.sm {A : Nat → Nat → Bool} {N N2 : ax_M} (h : Rr N N2) (g : ∀ q k, A q k = true → bRd q k = true) : Sm A N N2 := by
  obtain ⟨h1, h2, h3, h4, h5, h6⟩ := h.1
  refine ⟨⟨by rw [h5]; exact Nat.le_refl _, fun q _ => by rw [h1, h2]; exact ⟨rfl, rfl⟩⟩, fun q k e => ⟨?_, by rw [h3]⟩⟩
  rcases e with e | e
  · refine h6 q k ?_
    rcases Nat.lt_or_ge q 54 with w | w
    · exact Or.inl w
    · rcases Nat.lt_or_ge 76 q with w2 | w2
      · exact Or.inr (Or.inl w2)
      · exfalso
        have im := e.1
        have : Im q = false := by
          have hq : q = 54 ∨ q = 55 ∨ q = 56 ∨ q = 57 ∨ q = 58 ∨ q = 59 ∨ q = 60 ∨ q = 61 ∨ q = 62 ∨ q = 63 ∨ q = 64 ∨ q = 65 ∨ q = 66 ∨ q = 67 ∨ q = 68 ∨ q = 69 ∨ q = 70 ∨ q = 71 ∨ q = 72 ∨ q = 73 ∨ q = 74 ∨ q = 75 ∨ q = 76 := by omega
          rcases hq with rfl | rfl | rfl | rfl | rfl | rfl | rfl | rfl | rfl | rfl | rfl | rfl | rfl | rfl | rfl | rfl | rfl | rfl | rfl | rfl | rfl | rfl | rfl <;> rfl
        rw [this] at im; exact absurd im (by decide)
  · exact h.2 q k (g q k e)
theorem bRd_o : ∀ q k, bO q k = true → bRd q k = true := fun q k w => by
  unfold bO at w
  split at w
  · have := Nat.eq_of_beq_eq_true w; subst this; rfl
  · rfl
  · exact absurd w (by decide)
theorem bRd_v : ∀ q k, bV q k = true → bRd q k = true := fun q k w => by
  unfold bV at w
  split at w
  · rw [Bool.and_eq_true] at w
    have w1 := Nat.le_of_ble_eq_true w.1
    have w2 := Nat.le_of_ble_eq_true w.2
    have : k = 47 ∨ k = 48 ∨ k = 49 ∨ k = 50 ∨ k = 51 ∨ k = 52 := by omega
    rcases this with rfl | rfl | rfl | rfl | rfl | rfl <;> rfl
  · exact absurd w (by decide)
theorem bRd_s : ∀ q k, bS q k = true → bRd q k = true := fun q k w => by
  unfold bS at w
  rw [Bool.and_eq_true] at w
  have w1 := Nat.le_of_ble_eq_true w.1
  have w2 := Nat.le_of_ble_eq_true w.2
  have : q = 63 ∨ q = 64 ∨ q = 65 ∨ q = 66 ∨ q = 67 ∨ q = 68 ∨ q = 69 ∨ q = 70 ∨ q = 71 ∨ q = 72 := by omega
  rcases this with rfl | rfl | rfl | rfl | rfl | rfl | rfl | rfl | rfl | rfl <;> rfl
theorem bRd_p : ∀ q k, bP q k = true → bRd q k = true := fun q k w => by
  unfold bP at w
  split at w
  · have := Nat.eq_of_beq_eq_true w; subst this; rfl
  · rfl
  · rfl
  · rfl
  · rfl
  · exact absurd w (by decide)
theorem bRd_b : ∀ q k, bB q k = true → bRd q k = true := fun q k w => by
  unfold bB at w
  split at w
  · have := Nat.eq_of_beq_eq_true w; subst this; rfl
  · rfl
  · exact absurd w (by decide)
theorem bRd_f : ∀ q k, bF q k = true → bRd q k = true := fun q k w => by
  unfold bF at w
  split at w
  · rw [Bool.and_eq_true] at w
    have w1 := Nat.le_of_ble_eq_true w.1
    have w2 := Nat.le_of_ble_eq_true w.2
    have : k = 25 ∨ k = 26 ∨ k = 27 ∨ k = 28 := by omega
    rcases this with rfl | rfl | rfl | rfl <;> rfl
  · rfl
  · exact absurd w (by decide)
theorem bRd_c : ∀ q k, bC q k = true → bRd q k = true := fun q k w => by
  unfold bC at w
  split at w
  · rw [Bool.or_eq_true] at w
    rcases w with w | w <;> (have := Nat.eq_of_beq_eq_true w; subst this; rfl)
  · exact absurd w (by decide)
theorem aRe_o : ∀ q k, aO q k = true → aRe q k = true := fun q k w => by
  unfold aO at w
  split at w
  · rfl
  · rfl
  · exact absurd w (by decide)
theorem aRe_v : ∀ q k, aV q k = true → aRe q k = true := fun q k w => by
  unfold aV at w
  split at w
  · rfl
  · rfl
  · exact absurd w (by decide)
theorem aRe_b : ∀ q k, aB q k = true → aRe q k = true := fun q k w => by
  unfold aB at w
  split at w
  · have := Nat.eq_of_beq_eq_true w; subst this; rfl
  · rfl
  · exact absurd w (by decide)
theorem aRe_f : ∀ q k, aF q k = true → aRe q k = true := fun q k w => by
  unfold aF at w
  have := Nat.eq_of_beq_eq_true w; subst this; rfl
theorem ET.mk {T : Tb} {z : Nat} {s N : ax_M} (h : CT T z s) (g : RTb T z N) : ET T s N := by
  obtain ⟨a, b, c, e, f, x⟩ := h
  obtain ⟨a2, b2, c2, e2, f2⟩ := g
  exact ⟨⟨a.1, b, b2, c⟩, ⟨z, a.2.2, a.2.1, e, c2⟩, fun i hi => (f i hi).2, fun i hi => ⟨(f i hi).1, (e2 i hi).2⟩, fun i hi => ⟨x i hi, f2 i hi⟩⟩
theorem Stg.cr {s : ax_M} {o : Nat} {l : List Int32} (h : Stg s o l) : Cr l := by
  obtain ⟨-, a, -, -, -, -, -, -, h7⟩ := h
  exact h7
theorem ET.ct {T : Tb} {s N : ax_M} (h : ET T s N) : ∃ z, CT T z s ∧ RTb T z N := by
  obtain ⟨⟨a1, a2, a3, a4⟩, ⟨z, z1, z2, z3, z4⟩, e, f, x⟩ := h
  refine ⟨z, ⟨⟨a1, z2, z1⟩, a2, a4, z3, fun i hi => ⟨(f i hi).1, e i hi⟩, fun i hi => (x i hi).1⟩, ⟨a1, z2, z1⟩, a3, z4, fun i hi => ⟨⟨(f i hi).1, ?_, ?_⟩, (f i hi).2⟩, fun i hi => (x i hi).2⟩
  · obtain ⟨fo, -, -, -, ⟨on, -, o2⟩, -⟩ := e i hi; exact o2.cr
  · obtain ⟨fo, -, -, -, -, ⟨ov, -, o2⟩, -⟩ := e i hi; exact o2.cr
section AX78
variable {N0 : ax_M} {e : Bool} {c : Nat} {T T2 : Tb} {P : List (List Int32 × Int32 × Int32)} {B : List Int32} {L z : Nat} {s s1 N N1 : ax_M}
/-- both have read a block -/
theorem Wf.read (h : Wf N0 e c T P B L s N) (h1 : SH s1) (g : Sm aRe s s1) (hR : Rr N N1) (hC : CT T2 z s1) (hT : RTb T2 z N1) : Wf N0 false c T2 P B L s1 N1 :=
  ⟨h1, hR.1.sh h.sN, h.rc.trans hR.1, h.o.sm (g.mono aRe_o) (hR.sm bRd_o), h.v.sm (g.mono aRe_v) (hR.sm bRd_v), h.x.sm (g.mono aRe_s) (hR.sm bRd_s), ET.mk hC hT, h.p.sm (g.mono aRe_p) (hR.sm bRd_p), h.b.sm (g.mono aRe_b) (hR.sm bRd_b), h.f.sm (g.mono aRe_f) (hR.sm bRd_f), fun w => absurd w (by decide)⟩
/-- the class's request changes nothing of the relation -/
theorem Wf.req (h : Wf N0 e c T P B L s N) (h1 : SH s1) (g : Sm aQ s s1) : Wf N0 e c T P B L s1 N := by
  have m : ∀ {A : Nat → Nat → Bool}, (∀ q k, A q k = true → aQ q k = true) → Sm A s s1 := fun w => g.mono w
  refine ⟨h1, h.sN, h.rc, h.o.sm (m ?_) (Sm.refl _ _), h.v.sm (m ?_) (Sm.refl _ _), h.x.sm (m ?_) (Sm.refl _ _), h.t.sm (m ?_) (Sm.refl _ _), h.p.sm (m ?_) (Sm.refl _ _), h.b.sm (m ?_) (Sm.refl _ _), h.f.sm (m ?_) (Sm.refl _ _), h.k.sm (m ?_) (Sm.refl _ _)⟩
  · intro q k w; unfold aO at w; split at w; rfl; rfl; exact absurd w (by decide)
  · intro q k w; unfold aV at w; split at w; rfl; rfl; exact absurd w (by decide)
  · intro q k w
    unfold aS at w; rw [Bool.and_eq_true] at w
    have w1 := Nat.le_of_ble_eq_true w.1
    have w2 := Nat.le_of_ble_eq_true w.2
    have : q = 50 ∨ q = 51 ∨ q = 52 ∨ q = 53 := by omega
    rcases this with rfl | rfl | rfl | rfl <;> rfl
  · intro q k w
    unfold aT at w; rw [Bool.or_eq_true] at w
    rcases w with w | w <;> (have := Nat.eq_of_beq_eq_true w; subst this; rfl)
  · intro q k w
    unfold aP at w; rw [Bool.or_eq_true] at w
    rcases w with w | w <;> (have := Nat.eq_of_beq_eq_true w; subst this; rfl)
  · intro q k w; unfold aB at w; split at w; rfl; rfl; exact absurd w (by decide)
  · intro q k w; unfold aF at w; have := Nat.eq_of_beq_eq_true w; subst this; rfl
  · intro q k w; unfold aC at w; split at w; rfl; exact absurd w (by decide)
/-! the bytes of the frame come to the block -/
def cB (s : ax_M) (a n : Nat) : List Int32 := (List.range n).map (fun k => ax_hi s 29 (4 + (a + k)))
theorem cB_len (s : ax_M) (a n : Nat) : (cB s a n).length = n := by unfold cB; rw [List.length_map, List.length_range]
theorem cB_get (s : ax_M) (a n : Nat) {j : Nat} (hj : j < n) : (cB s a n).getD j 0 = ax_hi s 29 (4 + (a + j)) := by
  rw [getD_get (by rw [cB_len]; exact hj)]
  unfold cB
  rw [List.getElem_map, List.getElem_range]
/-- the reference copies the frame's bytes k .. to its block from b on -/
def gCpy : Nat → Nat → Nat → ax_M → ax_M
  | 0, _, _, N => N
  | n + 1, b, k, N => gCpy n (b + 1) (k + 1) (ax_si (ax_si N 74 b (ax_hi N 73 (4 + k))) 54 34 (nI (b + 1)))
theorem gCpy_ne : ∀ (n b k : Nat) {N : ax_M} {o j : Nat}, o ≠ 74 → (o ≠ 54 ∨ j ≠ 34) → ax_hi (gCpy n b k N) o j = ax_hi N o j
  | 0, _, _, _, _, _, _, _ => rfl
  | n + 1, b, k, N, o, j, h1, h2 => by
    show ax_hi (gCpy n (b + 1) (k + 1) _) o j = _
    rw [gCpy_ne n (b + 1) (k + 1) h1 h2]
    rw [wm_h1, if_neg (by omega), wm_h1n (nbq h1)]
theorem gCpy_34 : ∀ (n b k : Nat) {N : ax_M}, ax_hi N 54 34 = nI b → ax_hi (gCpy n b k N) 54 34 = nI (b + n)
  | 0, b, _, _, h => h
  | n + 1, b, k, N, _ => by
    show ax_hi (gCpy n (b + 1) (k + 1) _) 54 34 = _
    rw [gCpy_34 n (b + 1) (k + 1) wm_h1s, show b + 1 + n = b + (n + 1) by omega]
theorem gCpy_74 : ∀ (n b k : Nat) {N : ax_M} {j : Nat}, ax_hi (gCpy n b k N) 74 j = if b ≤ j ∧ j < b + n then ax_hi N 73 (4 + (k + (j - b))) else ax_hi N 74 j
  | 0, b, k, N, j => by rw [if_neg (by omega)]; rfl
  | n + 1, b, k, N, j => by
    show ax_hi (gCpy n (b + 1) (k + 1) _) 74 j = _
    rw [gCpy_74 n (b + 1) (k + 1), wm_h1n rfl, wm_h1n rfl, wm_h1n (q := 74) rfl]
    by_cases w : j = b
    · subst w
      rw [if_neg (by omega), if_pos (by omega), wm_h1s, Nat.sub_self, Nat.add_zero]
    · rw [wm_h1k (nbq w)]
      by_cases v : b + 1 ≤ j ∧ j < b + 1 + n
      · rw [if_pos v, if_pos (by omega), show k + 1 + (j - (b + 1)) = k + (j - b) by omega]
      · rw [if_neg v, if_neg (by omega)]
theorem gCpy_rc : ∀ (n b k : Nat) {N N2 : ax_M}, Rc N N2 → Rc N (gCpy n b k N2)
  | 0, _, _, _, _, h => h
  | n + 1, b, k, N, N2, h => gCpy_rc n (b + 1) (k + 1) ((h.si rfl rfl).si rfl rfl)
theorem gCpy_sm {A : Nat → Nat → Bool} (h1 : ∀ k, A 74 k = false) (h2 : A 54 34 = false) : ∀ (n b k : Nat) {N N2 : ax_M}, Sm A N N2 → Sm A N (gCpy n b k N2)
  | 0, _, _, _, _, h => h
  | n + 1, b, k, N, N2, h => gCpy_sm h1 h2 n (b + 1) (k + 1) ((h.st (by rw [h1]; rfl)).st (by rw [h2]; rfl))
theorem fAdd_sm {A : Nat → Nat → Bool} (h1 : ∀ k, A 46 k = false) (h2 : A 45 4 = false) (h3 : A 45 0 = false) (h4 : A 45 8 = false) (b a n : Nat) : Sm A s (fAdd s b a n) := by
  have cp : ∀ (n k : Nat) {M : ax_M}, Sm A s M → Sm A s (fCpy b a n k M) := by
    intro n
    induction n with
    | zero => intro k M w; exact w
    | succ n ih => intro k M w; exact ih (k + 1) (w.st (by rw [h1]; rfl))
  unfold fAdd
  exact (((cp n 0 (Sm.refl _ _)).st (by rw [h2]; rfl)).st (by rw [h3]; rfl)).st (by rw [h4]; rfl)
theorem EB.add (h : EB B s N) (hF : EF L s N) {a n : Nat} (hn : B.length + n ≤ 100) (hL : a + n ≤ L) : EB (B ++ cB s a n) (fAdd s B.length a n) (gCpy n B.length a N) := by
  obtain ⟨b1, b2, b3, b4, b5⟩ := h
  have hL2 := hF.2.2.2.2.2.1
  refine ⟨by rw [List.length_append, cB_len]; exact hn, ?_, ?_, fun j hj => ⟨?_, ?_⟩, fun x hx => ?_⟩
  · unfold fAdd
    rw [wm_h1k rfl, wm_h1k rfl, wm_h1s, List.length_append, cB_len]
  · rw [gCpy_34 n B.length a b3, List.length_append, cB_len]
  · unfold fAdd
    rw [wm_h1n rfl, wm_h1n rfl, wm_h1n rfl, fCpy_46]
    rw [List.length_append, cB_len] at hj
    rcases Nat.lt_or_ge j B.length with w | w
    · rw [if_neg (by omega), (b4 j w).1, List.getD_eq_getElem?_getD, List.getD_eq_getElem?_getD, List.getElem?_append_left w]
    · rw [if_pos (by omega), ← cB_get s a n (j := j - B.length) (by omega), List.getD_eq_getElem?_getD, List.getD_eq_getElem?_getD, List.getElem?_append_right w]
  · rw [gCpy_74]
    rw [List.length_append, cB_len] at hj
    rcases Nat.lt_or_ge j B.length with w | w
    · rw [if_neg (by omega), (b4 j w).2, List.getD_eq_getElem?_getD, List.getD_eq_getElem?_getD, List.getElem?_append_left w]
    · rw [if_pos (by omega), hF.2.2.2.2.2.2.1 _ (by omega), ← cB_get s a n (j := j - B.length) (by omega), List.getD_eq_getElem?_getD, List.getD_eq_getElem?_getD, List.getElem?_append_right w]
  · rcases List.mem_append.mp hx with w | w
    · exact b5 x w
    · unfold cB at w
      obtain ⟨k, k1, k2⟩ := List.mem_map.mp w
      rw [List.mem_range] at k1
      rw [← k2]
      exact hF.2.2.2.2.2.2.2 _ (by omega)
theorem Wf.add (h : Wf N0 e c T P B L s N) {a n : Nat} (hn : B.length + n ≤ 100) (hL : a + n ≤ L) : Wf N0 false c T P (B ++ cB s a n) L (fAdd s B.length a n) (gCpy n B.length a N) := by
  have hS : SH (fAdd s B.length a n) := ((((fCpy_SH n 0 h.sh)).si (by decide)).si (by decide)).si (by decide)
  refine ⟨hS, (gCpy_rc n B.length a (Rc.refl N)).sh h.sN, gCpy_rc n B.length a h.rc, h.o.sm (fAdd_sm (fun _ => rfl) rfl rfl rfl _ _ _) (gCpy_sm (fun _ => rfl) rfl _ _ _ (Sm.refl _ _)), h.v.sm (fAdd_sm (fun _ => rfl) rfl rfl rfl _ _ _) (gCpy_sm (fun _ => rfl) rfl _ _ _ (Sm.refl _ _)), h.x.sm (fAdd_sm (fun _ => rfl) rfl rfl rfl _ _ _) (gCpy_sm (fun _ => rfl) rfl _ _ _ (Sm.refl _ _)), h.t.sm (fAdd_sm (fun _ => rfl) rfl rfl rfl _ _ _) (gCpy_sm (fun _ => rfl) rfl _ _ _ (Sm.refl _ _)), h.p.sm (fAdd_sm (fun _ => rfl) rfl rfl rfl _ _ _) (gCpy_sm (fun _ => rfl) rfl _ _ _ (Sm.refl _ _)), h.b.add h.f hn hL, h.f.sm (fAdd_sm (fun _ => rfl) rfl rfl rfl _ _ _) (gCpy_sm (fun _ => rfl) rfl _ _ _ (Sm.refl _ _)), fun w => absurd w (by decide)⟩
end AX78
