/-! BETWEEN TWO FRAMES: the relation while bytes come -/
/-- N2 is N but for the reference's places -/
def Rc0 (N N2 : ax_M) : Prop := ax_tg N2 = ax_tg N ∧ ax_ln N2 = ax_ln N ∧ ax_hr N2 = ax_hr N ∧ ax_hl N2 = ax_hl N ∧ ax_n N2 = ax_n N ∧ ∀ o k, o < 54 ∨ 76 < o → ax_hi N2 o k = ax_hi N o k
theorem Rc0.refl (N : ax_M) : Rc0 N N := ⟨rfl, rfl, rfl, rfl, rfl, fun _ _ _ => rfl⟩
theorem Rc0.trans {N N2 N3 : ax_M} (h : Rc0 N N2) (g : Rc0 N2 N3) : Rc0 N N3 :=
  ⟨g.1.trans h.1, g.2.1.trans h.2.1, g.2.2.1.trans h.2.2.1, g.2.2.2.1.trans h.2.2.2.1, g.2.2.2.2.1.trans h.2.2.2.2.1, fun o k e => (g.2.2.2.2.2 o k e).trans (h.2.2.2.2.2 o k e)⟩
theorem Rc.r0 {N N2 : ax_M} (h : Rc N N2) : Rc0 N N2 := ⟨h.1, h.2.1, h.2.2.1, h.2.2.2.1, h.2.2.2.2.1, fun o k e => h.2.2.2.2.2 o k (e.imp id Or.inl)⟩
theorem Rc0.si {N N2 : ax_M} (h : Rc0 N N2) {o k : Nat} {v : Int32} (h1 : Nat.ble 54 o = true) (h2 : Nat.ble o 76 = true) : Rc0 N (ax_si N2 o k v) := by
  refine h.trans ⟨rfl, rfl, rfl, rfl, rfl, fun q j e => ?_⟩
  have g1 := Nat.le_of_ble_eq_true h1
  have g2 := Nat.le_of_ble_eq_true h2
  rw [wm_h1, if_neg ?_]
  rintro ⟨rfl, rfl⟩
  omega
theorem Rc0.sh {N N2 : ax_M} (h : Rc0 N N2) (g : SH N) : SH N2 := by
  obtain ⟨h1, h2, h3, h4, h5, h6⟩ := h
  unfold SH at g ⊢
  rw [h1, h2, h3, h5]
  refine ⟨g.1, g.2.1, g.2.2.1, g.2.2.2.1, fun q hq k hk => ?_, fun q hq => ?_⟩
  · rw [h6 _ _ (Or.inl (Nat.lt_of_lt_of_le (sh_by_lt q hq) (by decide)))]; exact g.2.2.2.2.1 q hq k hk
  · rw [h6 _ _ (Or.inl (Nat.lt_of_lt_of_le (sh_cs_lt q hq) (by decide)))]; exact g.2.2.2.2.2 q hq
/-- the bytes of the class's frame are bytes -/
def FB (s : ax_M) : Prop := ∀ j, j < 204 → ∃ n, n < 256 ∧ ax_hi s 29 j = nI n
theorem FB.sm {s s2 : ax_M} (h : FB s) (g : Sm aF s s2) : FB s2 := fun j hj => by
  obtain ⟨n, a, b⟩ := h j hj
  exact ⟨n, a, (g.at rfl).trans b⟩
theorem FB.si {s : ax_M} (h : FB s) {q n : Nat} (hn : n < 256) : FB (ax_si s 29 q (nI n)) := fun j hj => by
  by_cases e : j = q
  · subst e; exact ⟨n, hn, wm_h1s⟩
  · obtain ⟨m, a, b⟩ := h j hj
    exact ⟨m, a, (wm_h1k (nbq e)).trans b⟩
/-- what holds at all times -/
def Rl (c : Nat) (T : Tb) (P : List (List Int32 × Int32 × Int32)) (B : List Int32) (s N : ax_M) : Prop := SH s ∧ SH N ∧ EO c s N ∧ EV s N ∧ ES s N ∧ ET T s N ∧ EP P s N ∧ EB B s N ∧ FB s ∧ c ≤ 906
/-- what holds while the connection is not away: p bytes of the preface, q bytes of a frame have come -/
def EH (p q : Nat) (s N : ax_M) : Prop := EC s N ∧ ax_hi s 45 0 = 0 ∧ (ax_hi s 27 7 = nI p ∧ ax_hi N 54 22 = nI p ∧ p ≤ 4) ∧ (ax_hi s 28 1 = nI q ∧ ax_hi N 54 23 = nI q) ∧ (∀ j, j < q → ax_hi N 73 j = ax_hi s 29 j) ∧ (q < 4 ∨ ∃ L, L ≤ 200 ∧ ax_hi s 29 0 = nI L ∧ q < 4 + L) ∧ (ax_hi s 27 8 = 0 ∧ ax_hi N 54 31 = 1 ∨ ax_hi s 27 8 = 1 ∧ ax_hi N 54 31 = 0)
def sFr (s : ax_M) (q : Nat) (b : Int32) : ax_M := ax_si (ax_si s 29 q b) 28 1 (nI (q + 1))
def gFr (N : ax_M) (q : Nat) (b x0 x1 x2 x3 : Int32) : ax_M := ax_si (ax_si (ax_si (ax_si (ax_si (ax_si (ax_si N 73 q b) 54 23 (nI (q + 1))) 54 28 x0) 54 25 x1) 54 26 x2) 54 27 x3) 54 23 0
theorem sFr_sm {A : Nat → Nat → Bool} {s : ax_M} {q : Nat} {b : Int32} (h1 : ∀ k, A 29 k = false) (h2 : A 28 1 = false) : Sm A s (sFr s q b) := by
  unfold sFr
  exact Sm.st (Sm.si (by rw [h1]; rfl)) (by rw [h2]; rfl)
theorem gFr_sm {A : Nat → Nat → Bool} {N : ax_M} {q : Nat} {b x0 x1 x2 x3 : Int32} (h1 : ∀ k, A 73 k = false) (h2 : A 54 23 = false) (h3 : A 54 25 = false) (h4 : A 54 26 = false) (h5 : A 54 27 = false) (h6 : A 54 28 = false) : Sm A N (gFr N q b x0 x1 x2 x3) := by
  unfold gFr
  exact ((((((Sm.si (by rw [h1]; rfl)).st (by rw [h2]; rfl)).st (by rw [h6]; rfl)).st (by rw [h3]; rfl)).st (by rw [h4]; rfl)).st (by rw [h5]; rfl)).st (by rw [h2]; rfl)
theorem gFr_rc (N : ax_M) (q : Nat) (b x0 x1 x2 x3 : Int32) : Rc0 N (gFr N q b x0 x1 x2 x3) := by
  unfold gFr
  exact (((((((Rc0.refl N).si rfl rfl).si rfl rfl).si rfl rfl).si rfl rfl).si rfl rfl).si rfl rfl).si rfl rfl
section AX87
variable {c q p L : Nat} {T : Tb} {P : List (List Int32 × Int32 × Int32)} {B : List Int32} {s N : ax_M}
theorem EH.by (g : EH p q s N) (b : Int32) {j : Nat} (hj : j < q + 1) : ax_hi (ax_si N 73 q b) 73 j = ax_hi (sFr s q b) 29 j := by
  unfold sFr
  rw [wm_h1n (q := 29) rfl]
  by_cases e : j = q
  · subst e; rw [wm_h1s, wm_h1s]
  · rw [wm_h1k (nbq e), wm_h1k (nbq e)]; exact g.2.2.2.2.1 j (by omega)
/-- a frame is whole -/
theorem Rl.wf (h : Rl c T P B s N) (g : EH p q s N) {n : Nat} (hn : n < 256) (hq : q + 1 = 4 + L) (hL : ax_hi (sFr s q (nI n)) 29 0 = nI L) (hL2 : L ≤ 200) : Wf (gFr N q (nI n) (ax_hi (sFr s q (nI n)) 29 0) (ax_hi (sFr s q (nI n)) 29 1) (ax_hi (sFr s q (nI n)) 29 2) (ax_hi (sFr s q (nI n)) 29 3)) true c T P B L (sFr s q (nI n)) (gFr N q (nI n) (ax_hi (sFr s q (nI n)) 29 0) (ax_hi (sFr s q (nI n)) 29 1) (ax_hi (sFr s q (nI n)) 29 2) (ax_hi (sFr s q (nI n)) 29 3)) := by
  obtain ⟨h1, h2, h3, h4, h5, h6, h7, h8, h9, h10⟩ := h
  have by_ := fun j hj => g.by (nI n) (j := j) hj
  have fb : FB (sFr s q (nI n)) := by
    unfold sFr
    exact (h9.si hn).sm (Sm.si rfl)
  have hs : SH (sFr s q (nI n)) := by unfold sFr; exact (h1.si (by decide)).si (by decide)
  generalize hx : sFr s q (nI n) = s1 at *
  have sm : ∀ {A : Nat → Nat → Bool}, (∀ k, A 29 k = false) → A 28 1 = false → Sm A s s1 := fun a b => by rw [← hx]; exact sFr_sm a b
  refine ⟨hs, (gFr_rc _ _ _ _ _ _ _).sh h2, Rc.refl _, h3.sm (sm (fun _ => rfl) rfl) (gFr_sm (fun _ => rfl) rfl rfl rfl rfl rfl), h4.sm (sm (fun _ => rfl) rfl) (gFr_sm (fun _ => rfl) rfl rfl rfl rfl rfl), h5.sm (sm (fun _ => rfl) rfl) (gFr_sm (fun _ => rfl) rfl rfl rfl rfl rfl), h6.sm (sm (fun _ => rfl) rfl) (gFr_sm (fun _ => rfl) rfl rfl rfl rfl rfl), h7.sm (sm (fun _ => rfl) rfl) (gFr_sm (fun _ => rfl) rfl rfl rfl rfl rfl), h8.sm (sm (fun _ => rfl) rfl) (gFr_sm (fun _ => rfl) rfl rfl rfl rfl rfl), ?_, fun _ => g.1.sm (sm (fun _ => rfl) rfl) (gFr_sm (fun _ => rfl) rfl rfl rfl rfl rfl)⟩
  refine ⟨?_, ?_, ?_, ?_, hL, hL2, fun j hj => ?_, fb⟩
  · unfold gFr; rw [wm_h1k rfl, wm_h1k rfl, wm_h1k rfl, wm_h1s]
  · unfold gFr; rw [wm_h1k rfl, wm_h1k rfl, wm_h1s]
  · unfold gFr; rw [wm_h1k rfl, wm_h1s]
  · unfold gFr; rw [wm_h1k rfl, wm_h1k rfl, wm_h1k rfl, wm_h1k rfl, wm_h1s]; exact hL
  · unfold gFr; rw [wm_h1n rfl, wm_h1n rfl, wm_h1n rfl, wm_h1n rfl, wm_h1n rfl, wm_h1n rfl]; exact by_ j (by omega)
theorem gFr_22 {b x0 x1 x2 x3 : Int32} {j : Nat} (h : rcX 54 j = true) (h2 : j ≠ 23) : ax_hi (gFr N q b x0 x1 x2 x3) 54 j = ax_hi N 54 j := by
  have : Sm (fun o k => rcX o k && !(Nat.beq k 23)) N (gFr N q b x0 x1 x2 x3) := gFr_sm (fun _ => rfl) rfl rfl rfl rfl rfl
  exact this.at (by rw [h, nbq h2]; rfl)
theorem gFr_23 {b x0 x1 x2 x3 : Int32} : ax_hi (gFr N q b x0 x1 x2 x3) 54 23 = 0 := by unfold gFr; exact wm_h1s
end AX87
/-! the parameters are the class's -/
theorem lx_ext {α : Type} {l l2 : List α} (d : α) (h : l.length = l2.length) (g : ∀ j, j < l.length → l.getD j d = l2.getD j d) : l = l2 := by
  apply List.ext_getElem h
  intro i h1 h2
  have := g i h1
  rw [List.getD_eq_getElem?_getD, List.getD_eq_getElem?_getD, List.getElem?_eq_getElem h1, List.getElem?_eq_getElem h2] at this
  exact this
section AX87b
variable {c c2 z z2 : Nat} {T T2 : Tb} {P P2 : List (List Int32 × Int32 × Int32)} {B B2 : List Int32} {s N N2 : ax_M}
theorem Fld.inj {o : Nat} {n v n2 v2 : List Int32} (h : Fld s o n v) (g : Fld s o n2 v2) : n = n2 ∧ v = v2 := by
  obtain ⟨-, -, ⟨on, a1, a2⟩, ⟨ov, b1, b2⟩, -⟩ := h
  obtain ⟨-, -, ⟨pn, c1, c2⟩, ⟨pv, e1, e2⟩, -⟩ := g
  rw [a1] at c1; injection c1 with c1; subst c1
  rw [b1] at e1; injection e1 with e1; subst e1
  exact ⟨a2.inj c2, b2.inj e2⟩
theorem CT.inj (h : CT T z s) (g : CT T2 z2 s) : T = T2 ∧ z = z2 := by
  obtain ⟨⟨a1, -, a3⟩, a4, -, a6, a7, -⟩ := h
  obtain ⟨⟨b1, -, b3⟩, b4, -, b6, b7, -⟩ := g
  have hl : T.length = T2.length := nI_inj (by omega) (by omega) (a4.symm.trans b4)
  refine ⟨lx_ext ([], []) hl (fun j hj => ?_), nI_inj (by omega) (by omega) (a6.symm.trans b6)⟩
  obtain ⟨-, f1, x1, x2⟩ := a7 j hj
  obtain ⟨-, f2, y1, y2⟩ := b7 j (by omega)
  rw [x1] at y1; injection y1 with y1; subst y1
  obtain ⟨w1, w2⟩ := x2.inj y2
  exact Prod.ext w1 w2
theorem ET.inj (h : ET T s N) (g : ET T2 s N2) : T = T2 := by
  obtain ⟨z, a, -⟩ := h.ct
  obtain ⟨z2, b, -⟩ := g.ct
  exact (a.inj b).1
theorem EP.inj (h : EP P s N) (g : EP P2 s N2) : P = P2 := by
  obtain ⟨a1, a2, -, a4, -⟩ := h
  obtain ⟨b1, b2, -, b4, -⟩ := g
  have hl : P.length = P2.length := nI_inj (by omega) (by omega) (a2.symm.trans b2)
  refine lx_ext ([], 0, 0) hl (fun j hj => ?_)
  obtain ⟨⟨po, t, x1, -, -, x4, x5, x6, x7⟩, -⟩ := a4 j hj
  obtain ⟨⟨po2, t2, y1, -, -, y4, y5, y6, y7⟩, -⟩ := b4 j (by omega)
  rw [x1] at y1; injection y1 with y1; subst y1
  rw [x4] at y4; injection y4 with y4; subst y4
  exact Prod.ext (x5.inj y5) (Prod.ext (x6.symm.trans y6) (x7.symm.trans y7))
theorem EB.inj (h : EB B s N) (g : EB B2 s N2) : B = B2 := by
  obtain ⟨a1, a2, -, a4, -⟩ := h
  obtain ⟨b1, b2, -, b4, -⟩ := g
  have hl : B.length = B2.length := nI_inj (by omega) (by omega) (a2.symm.trans b2)
  exact lx_ext 0 hl (fun j hj => (a4 j hj).1.symm.trans (b4 j (by omega)).1)
theorem Rl.inj (h : Rl c T P B s N) (g : Rl c2 T2 P2 B2 s N2) : c = c2 ∧ T = T2 ∧ P = P2 ∧ B = B2 := by
  obtain ⟨-, -, h3, -, -, h6, h7, h8, -, h10⟩ := h
  obtain ⟨-, -, g3, -, -, g6, g7, g8, -, g10⟩ := g
  exact ⟨nI_inj (by omega) (by omega) (h3.1.symm.trans g3.1), h6.inj g6, h7.inj g7, h8.inj g8⟩
end AX87b
