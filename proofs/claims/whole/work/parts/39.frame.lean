/-- a frame is whole: L bytes of content -/
def EF (L : Nat) (s N : ax_M) : Prop := ax_hi N 54 25 = ax_hi s 29 1 ∧ ax_hi N 54 26 = ax_hi s 29 2 ∧ ax_hi N 54 27 = ax_hi s 29 3 ∧ ax_hi N 54 28 = nI L ∧ ax_hi s 29 0 = nI L ∧ L ≤ 200 ∧ (∀ j, j < 4 + L → ax_hi N 73 j = ax_hi s 29 j) ∧ ∀ j, j < 204 → ∃ n, n < 256 ∧ ax_hi s 29 j = nI n
def aF (o _k : Nat) : Bool := Nat.beq o 29
def bF (o k : Nat) : Bool := match o with
  | 54 => Nat.ble 25 k && Nat.ble k 28
  | 73 => true
  | _ => false
theorem EF.sm {L : Nat} {s N s2 N2 : ax_M} (h : EF L s N) (g : Sm aF s s2) (g2 : Sm bF N N2) : EF L s2 N2 := by
  obtain ⟨h1, h2, h3, h4, h5, h6, h7, h8⟩ := h
  refine ⟨(g2.at rfl).trans (h1.trans (g.at rfl).symm), (g2.at rfl).trans (h2.trans (g.at rfl).symm), (g2.at rfl).trans (h3.trans (g.at rfl).symm), (g2.at rfl).trans h4, (g.at rfl).trans h5, h6, fun j hj => (g2.at rfl).trans ((h7 j hj).trans (g.at rfl).symm), fun j hj => ?_⟩
  obtain ⟨n, a, b⟩ := h8 j hj
  exact ⟨n, a, (g.at rfl).trans b⟩
/-- is a block coming -/
def EC (s N : ax_M) : Prop := ax_hi s 45 8 = 0 ∧ ax_hi N 54 32 = -1 ∨ (ax_hi s 45 8 = 1 ∧ ax_hi s 45 5 = 0) ∧ ax_hi N 54 33 = ax_hi s 45 7 ∧ ax_hi N 54 32 = ax_hi s 45 6 ∧ (ax_hi s 45 7 = 0 ∨ ax_hi s 45 7 = 1) ∧ ∃ n, 0 < n ∧ n < 256 ∧ ax_hi s 45 6 = nI n
def aC (o k : Nat) : Bool := match o with
  | 45 => Nat.beq k 5 || Nat.beq k 6 || Nat.beq k 7 || Nat.beq k 8
  | _ => false
def bC (o k : Nat) : Bool := match o with
  | 54 => Nat.beq k 32 || Nat.beq k 33
  | _ => false
theorem EC.sm {s N s2 N2 : ax_M} (h : EC s N) (g : Sm aC s s2) (g2 : Sm bC N N2) : EC s2 N2 := by
  rcases h with ⟨a, b⟩ | ⟨a, b, e, f, n, n1, n2, n3⟩
  · exact Or.inl ⟨(g.at rfl).trans a, (g2.at rfl).trans b⟩
  · exact Or.inr ⟨⟨(g.at rfl).trans a.1, (g.at rfl).trans a.2⟩, (g2.at rfl).trans (b.trans (g.at rfl).symm), (g2.at rfl).trans (e.trans (g.at rfl).symm), by rw [g.at (o := 45) (k := 7) rfl]; exact f, n, n1, n2, (g.at rfl).trans n3⟩
def EK (e : Bool) (s N : ax_M) : Prop := e = true → EC s N
theorem EK.sm {e : Bool} {s N s2 N2 : ax_M} (h : EK e s N) (g : Sm aC s s2) (g2 : Sm bC N N2) : EK e s2 N2 := fun z => (h z).sm g g2
/-- the reference's count of the preface, its count of bytes, whether its first frame is to come -/
def rcX (o k : Nat) : Bool := Nat.beq o 54 && (Nat.beq k 22 || Nat.beq k 23 || Nat.beq k 31)
/-- N2 is N but for the reference's own numbers -/
def Rc (N N2 : ax_M) : Prop := ax_tg N2 = ax_tg N ∧ ax_ln N2 = ax_ln N ∧ ax_hr N2 = ax_hr N ∧ ax_hl N2 = ax_hl N ∧ ax_n N2 = ax_n N ∧ ∀ o k, o < 54 ∨ 76 < o ∨ rcX o k = true → ax_hi N2 o k = ax_hi N o k
theorem Rc.refl (N : ax_M) : Rc N N := ⟨rfl, rfl, rfl, rfl, rfl, fun _ _ _ => rfl⟩
theorem Rc.trans {N N2 N3 : ax_M} (h : Rc N N2) (g : Rc N2 N3) : Rc N N3 :=
  ⟨g.1.trans h.1, g.2.1.trans h.2.1, g.2.2.1.trans h.2.2.1, g.2.2.2.1.trans h.2.2.2.1, g.2.2.2.2.1.trans h.2.2.2.2.1, fun o k e => (g.2.2.2.2.2 o k e).trans (h.2.2.2.2.2 o k e)⟩
theorem Rc.si {N N2 : ax_M} (h : Rc N N2) {o k : Nat} {v : Int32} (h1 : Nat.ble 54 o = true) (h2 : Nat.ble o 76 = true) (h3 : rcX o k = false := by rfl) : Rc N (ax_si N2 o k v) := by
  refine h.trans ⟨rfl, rfl, rfl, rfl, rfl, fun q j e => ?_⟩
  have g1 := Nat.le_of_ble_eq_true h1
  have g2 := Nat.le_of_ble_eq_true h2
  rw [wm_h1, if_neg ?_]
  rintro ⟨rfl, rfl⟩
  rcases e with e | e | e
  · omega
  · omega
  · rw [h3] at e; exact absurd e (by decide)
theorem Rc.sh {N N2 : ax_M} (h : Rc N N2) (g : SH N) : SH N2 := by
  obtain ⟨h1, h2, h3, h4, h5, h6⟩ := h
  unfold SH at g ⊢
  rw [h1, h2, h3, h5]
  refine ⟨g.1, g.2.1, g.2.2.1, g.2.2.2.1, fun q hq k hk => ?_, fun q hq => ?_⟩
  · rw [h6 _ _ (Or.inl (Nat.lt_of_lt_of_le (sh_by_lt q hq) (by decide)))]; exact g.2.2.2.2.1 q hq k hk
  · rw [h6 _ _ (Or.inl (Nat.lt_of_lt_of_le (sh_cs_lt q hq) (by decide)))]; exact g.2.2.2.2.2 q hq
/-- all that holds while a frame is looked at; N0: the memory before; e: what is known of a coming block -/
def Wf (N0 : ax_M) (e : Bool) (c : Nat) (T : List (List Int32 × List Int32)) (P : List (List Int32 × Int32 × Int32)) (B : List Int32) (L : Nat) (s N : ax_M) : Prop := SH s ∧ SH N ∧ Rc N0 N ∧ EO c s N ∧ EV s N ∧ ES s N ∧ ET T s N ∧ EP P s N ∧ EB B s N ∧ EF L s N ∧ EK e s N
section AX39
variable {N0 : ax_M} {e : Bool} {c : Nat} {T : List (List Int32 × List Int32)} {P : List (List Int32 × Int32 × Int32)} {B : List Int32} {L : Nat} {s N : ax_M}
theorem Wf.sh (h : Wf N0 e c T P B L s N) : SH s := h.1
theorem Wf.sN (h : Wf N0 e c T P B L s N) : SH N := h.2.1
theorem Wf.rc (h : Wf N0 e c T P B L s N) : Rc N0 N := h.2.2.1
theorem Wf.o (h : Wf N0 e c T P B L s N) : EO c s N := h.2.2.2.1
theorem Wf.v (h : Wf N0 e c T P B L s N) : EV s N := h.2.2.2.2.1
theorem Wf.x (h : Wf N0 e c T P B L s N) : ES s N := h.2.2.2.2.2.1
theorem Wf.t (h : Wf N0 e c T P B L s N) : ET T s N := h.2.2.2.2.2.2.1
theorem Wf.p (h : Wf N0 e c T P B L s N) : EP P s N := h.2.2.2.2.2.2.2.1
theorem Wf.b (h : Wf N0 e c T P B L s N) : EB B s N := h.2.2.2.2.2.2.2.2.1
theorem Wf.f (h : Wf N0 e c T P B L s N) : EF L s N := h.2.2.2.2.2.2.2.2.2.1
theorem Wf.k (h : Wf N0 e c T P B L s N) : EK e s N := h.2.2.2.2.2.2.2.2.2.2
theorem Wf.weak (h : Wf N0 e c T P B L s N) : Wf N0 false c T P B L s N := ⟨h.sh, h.sN, h.rc, h.o, h.v, h.x, h.t, h.p, h.b, h.f, fun z => absurd z (by decide)⟩
theorem Wf.full (h : Wf N0 e c T P B L s N) (g : EC s N) : Wf N0 true c T P B L s N := ⟨h.sh, h.sN, h.rc, h.o, h.v, h.x, h.t, h.p, h.b, h.f, fun _ => g⟩
end AX39
/-- the reference says these bytes -/
def gSay (N : ax_M) (c : Nat) : List Int32 → ax_M
  | [] => N
  | b :: l => gSay (ax_si (ax_si N 76 c (b &&& 255)) 54 53 (nI (c + 1))) (c + 1) l
theorem gSay_app (M : ax_M) (c : Nat) (l l2 : List Int32) : gSay M c (l ++ l2) = gSay (gSay M c l) (c + l.length) l2 := by
  induction l generalizing M c with
  | nil => rfl
  | cons b l ih => show gSay _ (c + 1) (l ++ l2) = _; rw [ih]; show _ = gSay (gSay _ (c + 1) l) (c + (l.length + 1)) l2; rw [show c + 1 + l.length = c + (l.length + 1) by omega]
theorem gSay_sm {A : Nat → Nat → Bool} {N N2 : ax_M} (g : Sm A N N2) (c : Nat) (l : List Int32) (h1 : A 54 53 = false) (h2 : ∀ k, A 76 k = false) : Sm A N (gSay N2 c l) := by
  induction l generalizing N2 c with
  | nil => exact g
  | cons b l ih => exact ih ((g.st (by rw [h2]; rfl)).st (by rw [h1]; rfl)) (c + 1)
theorem gSay_rc {N N2 : ax_M} (g : Rc N N2) (c : Nat) (l : List Int32) : Rc N (gSay N2 c l) := by
  induction l generalizing N2 c with
  | nil => exact g
  | cons b l ih => exact ih ((g.si rfl rfl).si rfl rfl) (c + 1)
theorem EO.say {c : Nat} {s N : ax_M} (h : EO c s N) (l : List Int32) : EO (c + l.length) (fSay s c l) (gSay N c l) := by
  induction l generalizing s N c with
  | nil => exact h
  | cons b l ih =>
    show EO (c + (l.length + 1)) (fSay _ (c + 1) l) (gSay _ (c + 1) l)
    rw [show c + (l.length + 1) = c + 1 + l.length by omega]
    refine ih ⟨wm_h1s, wm_h1s, fun j hj => ?_⟩
    rw [wm_h1n rfl, wm_h1n (q := 76) rfl]
    by_cases e : j = c
    · subst e; rw [wm_h1s, wm_h1s]
    · rw [wm_h1k (nbq e), wm_h1k (nbq e)]; exact h.2.2 j (by omega)
theorem Wf.say {N0 : ax_M} {e : Bool} {c : Nat} {T : List (List Int32 × List Int32)} {P : List (List Int32 × Int32 × Int32)} {B : List Int32} {L : Nat} {s N : ax_M} (h : Wf N0 e c T P B L s N) (l : List Int32) : Wf N0 e (c + l.length) T P B L (fSay s c l) (gSay N c l) :=
  ⟨fSay_SH h.sh c l, (gSay_rc (Rc.refl N) c l).sh h.sN, gSay_rc h.rc c l, h.o.say l, (h.v.sm (Sm.say (Sm.refl _ _) c l rfl (fun _ => rfl)) (gSay_sm (Sm.refl _ _) c l rfl (fun _ => rfl))), (h.x.sm (Sm.say (Sm.refl _ _) c l rfl (fun _ => rfl)) (gSay_sm (Sm.refl _ _) c l rfl (fun _ => rfl))), (h.t.sm (Sm.say (Sm.refl _ _) c l rfl (fun _ => rfl)) (gSay_sm (Sm.refl _ _) c l rfl (fun _ => rfl))), (h.p.sm (Sm.say (Sm.refl _ _) c l rfl (fun _ => rfl)) (gSay_sm (Sm.refl _ _) c l rfl (fun _ => rfl))), (h.b.sm (Sm.say (Sm.refl _ _) c l rfl (fun _ => rfl)) (gSay_sm (Sm.refl _ _) c l rfl (fun _ => rfl))), (h.f.sm (Sm.say (Sm.refl _ _) c l rfl (fun _ => rfl)) (gSay_sm (Sm.refl _ _) c l rfl (fun _ => rfl))), (h.k.sm (Sm.say (Sm.refl _ _) c l rfl (fun _ => rfl)) (gSay_sm (Sm.refl _ _) c l rfl (fun _ => rfl)))⟩
