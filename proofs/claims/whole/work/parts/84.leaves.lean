/-! WHAT THE CLASS LEAVES while it looks at a frame -/
def Ax (A : Nat → Nat → Bool) : Prop := (A 33 1 = false ∧ ∀ k, A 34 k = false) ∧ (A 27 9 = false ∧ A 27 10 = false ∧ A 27 11 = false ∧ A 27 12 = false) ∧ (A 48 1 = false ∧ A 48 2 = false) ∧ ∀ j, A 50 j = false ∧ A 51 j = false ∧ A 52 j = false ∧ A 53 j = false
section AX84
variable {A : Nat → Nat → Bool} {s : ax_M} {c : Nat} {P : List (List Int32 × Int32 × Int32)} {F : Tb}
theorem Ax.say (h : Ax A) (c : Nat) (l : List Int32) : Sm A s (fSay s c l) := Sm.say (Sm.refl _ _) c l h.1.1 h.1.2
theorem Ax.row (h : Ax A) {k : Nat} (hk : k < 4) {j : Nat} {v : Int32} : Sm A s (ax_si s (50 + k) j v) := by
  obtain ⟨-, -, -, w⟩ := h
  obtain ⟨w0, w1, w2, w3⟩ := w j
  exact Sm.si (nR hk (by rw [w0]; rfl) (by rw [w1]; rfl) (by rw [w2]; rfl) (by rw [w3]; rfl))
theorem Ax.rowr (h : Ax A) {k : Nat} (hk : k < 4) {j : Nat} {v : Option Nat} : Sm A s (ax_sr s (50 + k) j v) := by
  obtain ⟨-, -, -, w⟩ := h
  obtain ⟨w0, w1, w2, w3⟩ := w j
  exact Sm.sr (nR hk (by rw [w0]; rfl) (by rw [w1]; rfl) (by rw [w2]; rfl) (by rw [w3]; rfl))
theorem Ax.s9 (h : Ax A) {v : Int32} : Sm A s (ax_si s 27 9 v) := Sm.si (by rw [h.2.1.1]; rfl)
theorem Ax.s10 (h : Ax A) {v : Int32} : Sm A s (ax_si s 27 10 v) := Sm.si (by rw [h.2.1.2.1]; rfl)
theorem Ax.s11 (h : Ax A) {v : Int32} : Sm A s (ax_si s 27 11 v) := Sm.si (by rw [h.2.1.2.2.1]; rfl)
theorem Ax.s12 (h : Ax A) {v : Int32} : Sm A s (ax_si s 27 12 v) := Sm.si (by rw [h.2.1.2.2.2]; rfl)
theorem Ax.t1 (h : Ax A) {v : Int32} : Sm A s (ax_si s 48 1 v) := Sm.si (by rw [h.2.2.1.1]; rfl)
theorem Ax.t2 (h : Ax A) {v : Int32} : Sm A s (ax_si s 48 2 v) := Sm.si (by rw [h.2.2.1.2]; rfl)
theorem Ax.away (h : Ax A) (c : Nat) (v : Int32) : Sm A s (fAway s c v) := by unfold fAway; exact h.s10.trans (h.say _ _)
theorem Ax.close (h : Ax A) (n : Int32) : Sm A s (fClose s n) := by
  unfold fClose
  split
  · rename_i o ho
    obtain ⟨k, hk, rfl, -⟩ := fFind_row ho
    exact h.row hk
  · exact Sm.refl _ _
theorem Ax.reset (h : Ax A) (c : Nat) (n v : Int32) : Sm A s (fReset s c n v) := by unfold fReset; exact (h.say _ _).trans (h.close _)
theorem Ax.ans (h : Ax A) {k : Nat} (hk : k < 4) (c : Nat) (P : List (List Int32 × Int32 × Int32)) : Sm A s (fAnsP s c k P) := by
  unfold fAnsP fAns
  split
  · exact (h.say _ _).trans (h.row hk)
  · exact ((h.say _ _).trans (h.row hk)).trans (h.row hk)
theorem Ax.clo (h : Ax A) {k : Nat} (hk : k < 4) (c : Nat) (P : List (List Int32 × Int32 × Int32)) : Sm A s (fClo s c k P) := by
  unfold fClo
  split
  · exact (h.row hk).trans (h.ans hk c P)
  · split
    · exact (h.row hk).trans (h.ans hk c P)
    · exact (h.row hk).trans (h.reset c _ _)
theorem Ax.dat (h : Ax A) : Sm A s (fDat s c P) := by
  unfold fDat
  split
  · exact h.away c _
  · split
    · split
      · exact h.away c _
      · split
        · refine (h.say c (wnL 0 (ax_hi s 29 0))).trans ?_
          unfold fDat2
          split
          · exact h.reset _ _ _
          · rename_i o ho
            obtain ⟨k, hk, rfl, -⟩ := fFind_row ho
            split
            · split
              · refine Sm.trans (h.row hk (j := 5) (v := ax_hi (fSay s c (wnL 0 (ax_hi s 29 0))) (50 + k) 5 + fCL (fSay s c (wnL 0 (ax_hi s 29 0))))) ?_
                unfold fDat3
                split
                · exact h.say _ _
                · rw [show 50 + k - 50 = k by omega]; exact h.clo hk _ P
              · exact h.reset _ _ _
            · exact h.reset _ _ _
        · exact h.away c _
    · exact h.away c _
theorem Ax.rst (h : Ax A) : Sm A s (fRst s c) := by
  unfold fRst
  split
  · split
    · exact h.away c _
    · split
      · exact h.close _
      · exact h.away c _
  · exact h.away c _
theorem Ax.win (h : Ax A) {k : Nat} (hk : k < 4) (v : Int32) : Sm A s (fWinS s v k) := by
  unfold fWinS
  split
  · exact Sm.refl _ _
  · exact h.row hk
theorem Ax.cw (h : Ax A) (v : Int32) : Sm A s (fCW s v) := by
  unfold fCW
  exact ((((h.win (by decide) v).trans (h.win (by decide) v)).trans (h.win (by decide) v)).trans (h.win (by decide) v)).trans h.t1
theorem Ax.setL (h : Ax A) : ∀ (n k : Nat) {s : ax_M}, Sm A s (fSetL c n k s)
  | 0, k, s => h.say _ _
  | n + 1, k, s => by
    unfold fSetL
    split
    · exact (h.cw _).trans (Ax.setL h n (k + 2))
    · split
      · split
        · exact h.away c _
        · exact h.s12.trans (Ax.setL h n (k + 2))
      · exact Ax.setL h n (k + 2)
theorem Ax.sett (h : Ax A) {L : Nat} : Sm A s (fSett s c L) := by
  unfold fSett
  split
  · split
    · split
      · exact h.setL _ _
      · exact h.away c _
    · split
      · exact Sm.refl _ _
      · exact h.away c _
  · exact h.away c _
theorem Ax.ping (h : Ax A) : Sm A s (fPing s c) := by
  unfold fPing
  split
  · split
    · split
      · exact h.say _ _
      · exact Sm.refl _ _
    · exact h.away c _
  · exact h.away c _
theorem Ax.dm (h : Ax A) : Sm A s (fDm s c) := by
  unfold fDm
  split
  · split
    · exact Sm.refl _ _
    · exact h.away c _
  · exact h.away c _
theorem Ax.wnd (h : Ax A) : Sm A s (fWnd s c) := by
  unfold fWnd
  split
  · split
    · split
      · unfold fWid
        split
        · exact h.away c _
        · split
          · exact h.s11
          · exact h.away c _
      · split
        · exact Sm.refl _ _
        · rename_i o ho
          obtain ⟨k, hk, rfl, -⟩ := fFind_row ho
          unfold fWidS
          split
          · exact h.reset c _ _
          · split
            · exact h.row hk
            · exact h.reset c _ _
    · exact h.away c _
  · exact h.away c _
theorem Ax.eo (h : Ax A) {k : Nat} (hk : k < 4) {he : Int32} : Sm A s (fEO s c k P F he) := by
  unfold fEO
  split
  · exact h.reset c _ _
  · split
    · exact h.reset c _ _
    · exact h.clo hk c P
theorem Ax.opn (h : Ax A) {k : Nat} (hk : k < 4) {n w : Int32} {p q : Nat} : Sm A s (fOpen s k n w p q) := by
  unfold fOpen
  exact (((((((((h.row hk).trans (h.row hk)).trans (h.row hk)).trans (h.row hk)).trans (h.row hk)).trans (h.row hk)).trans (h.row hk)).trans (h.row hk)).trans (h.rowr hk)).trans (h.rowr hk)
theorem Ax.send (h : Ax A) {k q : Nat} (hk : k < 4) : Sm A s (fSend s c (50 + k) q) := by
  have g : ∀ Z : ax_M, Sm A Z (fSd0 Z (50 + k) q) := fun Z => by
    unfold fSd0
    exact (((h.row hk).trans h.s11).trans (h.row hk)).trans h.s9
  unfold fSend
  refine Sm.trans (Sm.trans (h.say c [nI q, 0, lst s (50 + k) q, ax_hi s (50 + k) 1]) (h.say (c + 4) (List.replicate q (ax_hi s (50 + k) 4)))) ?_
  unfold fSd
  split
  · exact g _
  · exact (g _).trans (h.row hk)
theorem Ax.bod (h : Ax A) : ∀ (n c : Nat) {s : ax_M}, Sm A s (fBod n c s)
  | 0, c, s => Sm.refl _ _
  | n + 1, c, s => by
    unfold fBod
    split
    · exact Sm.refl _ _
    · split
      · exact Sm.refl _ _
      · rename_i o ho
        obtain ⟨k, hk, rfl⟩ := fNext_row ho
        exact (h.send hk).trans (Ax.bod h n _)
theorem Ax.op (h : Ax A) (hq : ∀ q k, A q k = true → aQ q k = true) {n he : Int32} {R : ax_M} (g : OpP s c P F n he R) : Sm A s R := by
  unfold OpP at g
  split at g
  · rw [g]; exact h.reset c _ _
  · obtain ⟨s1, -, g2, g3⟩ := g
    refine (g2.mono hq).trans ?_
    split at g3
    · rw [g3]; exact h.reset c _ _
    · obtain ⟨k, om, op, f1, -, -, -, f5⟩ := g3
      have hk := (fFree_k f1).1
      rw [f5]
      split
      · exact h.opn hk
      · exact (h.opn hk).trans (h.clo hk c P)
end AX84
/-- the reference's places, and how far the preface has come -/
def aM (o k : Nat) : Bool := (Nat.ble 54 o && Nat.ble o 77) || (Nat.beq o 27 && Nat.beq k 7)
def a9 (o k : Nat) : Bool := Nat.beq o 45 && Nat.beq k 0
theorem aM_x : Ax aM := ⟨⟨rfl, fun _ => rfl⟩, ⟨rfl, rfl, rfl, rfl⟩, ⟨rfl, rfl⟩, fun _ => ⟨rfl, rfl, rfl, rfl⟩⟩
theorem a9_x : Ax a9 := ⟨⟨rfl, fun _ => rfl⟩, ⟨rfl, rfl, rfl, rfl⟩, ⟨rfl, rfl⟩, fun _ => ⟨rfl, rfl, rfl, rfl⟩⟩
theorem aM_c {q k : Nat} (h : aM q k = true) : 54 ≤ q ∧ q ≤ 77 ∨ q = 27 ∧ k = 7 := by
  unfold aM at h
  simp only [Bool.or_eq_true, Bool.and_eq_true] at h
  rcases h with h | h
  · exact Or.inl ⟨Nat.le_of_ble_eq_true h.1, Nat.le_of_ble_eq_true h.2⟩
  · exact Or.inr ⟨Nat.eq_of_beq_eq_true h.1, Nat.eq_of_beq_eq_true h.2⟩
theorem a9_c {q k : Nat} (h : a9 q k = true) : q = 45 ∧ k = 0 := by
  unfold a9 at h
  simp only [Bool.and_eq_true] at h
  exact ⟨Nat.eq_of_beq_eq_true h.1, Nat.eq_of_beq_eq_true h.2⟩
theorem aM_q (q k : Nat) (h : aM q k = true) : aQ q k = true := by
  unfold aQ
  rcases aM_c h with h | h
  · rw [blt_t (show q < 78 by omega), nbq (show q ≠ 30 by omega)]; rfl
  · rw [h.1]; rfl
theorem a9_q (q k : Nat) (h : a9 q k = true) : aQ q k = true := by
  unfold aQ; rw [(a9_c h).1]; rfl
theorem aM_e (q k : Nat) (h : aM q k = true) : aRe q k = true := by
  unfold aRe aRd
  rcases aM_c h with h | h
  · rw [blt_t (show q < 78 by omega), nbq (show q ≠ 35 by omega), nbq (show q ≠ 37 by omega), nbq (show q ≠ 47 by omega), nbq (show q ≠ 45 by omega)]; rfl
  · rw [h.1, h.2]; rfl
