/-! THE RELATION of the class's memory s and the reference's memory N, part by part -/
/-- places that never change once they are there -/
def Im (o : Nat) : Bool := Nat.blt o 26 || Nat.ble 78 o || (Nat.ble 36 o && Nat.ble o 44 && !(Nat.beq o 37))
/-- s2 is s, perhaps with new places, but for what lies outside of A (and outside of what never changes) -/
def Sm (A : Nat → Nat → Bool) (s s2 : ax_M) : Prop := (ax_n s ≤ ax_n s2 ∧ ∀ q, q < ax_n s → ax_tg s2 q = ax_tg s q ∧ ax_ln s2 q = ax_ln s q) ∧ ∀ q k, (Im q = true ∧ q < ax_n s ∨ A q k = true) → ax_hi s2 q k = ax_hi s q k ∧ ax_hr s2 q k = ax_hr s q k
theorem Sm.refl (A : Nat → Nat → Bool) (s : ax_M) : Sm A s s := ⟨⟨Nat.le_refl _, fun _ _ => ⟨rfl, rfl⟩⟩, fun _ _ _ => ⟨rfl, rfl⟩⟩
theorem Sm.trans {A : Nat → Nat → Bool} {s s2 s3 : ax_M} (h : Sm A s s2) (g : Sm A s2 s3) : Sm A s s3 := by
  refine ⟨⟨Nat.le_trans h.1.1 g.1.1, fun q hq => ?_⟩, fun o k e => ?_⟩
  · have h1 := h.1.2 q hq
    have g1 := g.1.2 q (Nat.lt_of_lt_of_le hq h.1.1)
    exact ⟨g1.1.trans h1.1, g1.2.trans h1.2⟩
  · have h1 := h.2 o k e
    have g1 := g.2 o k (e.imp (fun z => ⟨z.1, Nat.lt_of_lt_of_le z.2 h.1.1⟩) id)
    exact ⟨g1.1.trans h1.1, g1.2.trans h1.2⟩
theorem Sm.no {A : Nat → Nat → Bool} {n o k q j : Nat} (h : (Im o || A o k) = false) (e : Im q = true ∧ q < n ∨ A q j = true) : ¬ (q = o ∧ j = k) := by
  rintro ⟨rfl, rfl⟩
  rw [Bool.or_eq_false_iff] at h
  rcases e with e | e
  · rw [h.1] at e; exact absurd e.1 (by decide)
  · rw [h.2] at e; exact absurd e (by decide)
theorem Sm.si {A : Nat → Nat → Bool} {s : ax_M} {o k : Nat} {v : Int32} (h : (Im o || A o k) = false) : Sm A s (ax_si s o k v) := by
  refine ⟨⟨Nat.le_refl _, fun _ _ => ⟨rfl, rfl⟩⟩, fun q j e => ⟨?_, rfl⟩⟩
  rw [wm_h1, if_neg (Sm.no h e)]
theorem Sm.sr {A : Nat → Nat → Bool} {s : ax_M} {o k : Nat} {v : Option Nat} (h : (Im o || A o k) = false) : Sm A s (ax_sr s o k v) := by
  refine ⟨⟨Nat.le_refl _, fun _ _ => ⟨rfl, rfl⟩⟩, fun q j e => ⟨rfl, ?_⟩⟩
  rw [wm_r2, if_neg (Sm.no h e)]
theorem Sm.st {A : Nat → Nat → Bool} {s s2 : ax_M} {o k : Nat} {v : Int32} (g : Sm A s s2) (h : (Im o || A o k) = false) : Sm A s (ax_si s2 o k v) := g.trans (Sm.si h)
theorem Sm.new {A : Nat → Nat → Bool} {s : ax_M} {t len : Nat} (h : 78 ≤ ax_n s) (hA : ∀ q k, A q k = true → q < 78) : Sm A s (ax_new s t len) := by
  refine ⟨⟨Nat.le_succ _, fun q hq => ?_⟩, fun q j e => ?_⟩
  · have : q ≠ ax_n s := by omega
    simp only [ax_tg, ax_ln, ax_new, if_neg this]; exact ⟨trivial, trivial⟩
  · have : q ≠ ax_n s := by
      rcases e with e | e
      · omega
      · have := hA q j e; omega
    simp only [ax_hi, ax_hr, ax_new, if_neg this]; exact ⟨trivial, trivial⟩
theorem Sm.im {A : Nat → Nat → Bool} {s s2 : ax_M} (h : Sm A s s2) {o : Nat} (ho : Im o = true) (hn : o < ax_n s) (k : Nat) : ax_hi s2 o k = ax_hi s o k := (h.2 o k (Or.inl ⟨ho, hn⟩)).1
theorem Sm.imr {A : Nat → Nat → Bool} {s s2 : ax_M} (h : Sm A s s2) {o : Nat} (ho : Im o = true) (hn : o < ax_n s) (k : Nat) : ax_hr s2 o k = ax_hr s o k := (h.2 o k (Or.inl ⟨ho, hn⟩)).2
theorem Sm.at {A : Nat → Nat → Bool} {s s2 : ax_M} (h : Sm A s s2) {o k : Nat} (ho : A o k = true) : ax_hi s2 o k = ax_hi s o k := (h.2 o k (Or.inr ho)).1
theorem Sm.atr {A : Nat → Nat → Bool} {s s2 : ax_M} (h : Sm A s s2) {o k : Nat} (ho : A o k = true) : ax_hr s2 o k = ax_hr s o k := (h.2 o k (Or.inr ho)).2
theorem Sm.own {A : Nat → Nat → Bool} {s s2 : ax_M} (h : Sm A s s2) {o t : Nat} (g : ax_own s o t) : ax_own s2 o t :=
  ⟨Nat.lt_of_lt_of_le g.1 h.1.1, ((h.1.2 o g.1).1).trans g.2⟩
theorem Sm.ln {A : Nat → Nat → Bool} {s s2 : ax_M} (h : Sm A s s2) {o t : Nat} (g : ax_own s o t) : ax_ln s2 o = ax_ln s o := (h.1.2 o g.1).2
theorem Sm.say {A : Nat → Nat → Bool} {s s2 : ax_M} (g : Sm A s s2) (c : Nat) (l : List Int32) (h1 : A 33 1 = false) (h2 : ∀ k, A 34 k = false) : Sm A s (fSay s2 c l) := by
  refine g.trans ?_
  induction l generalizing s2 c with
  | nil => exact Sm.refl _ _
  | cons b l ih => exact (Sm.trans (Sm.si (by rw [h2]; rfl)) (Sm.si (by rw [h1]; rfl))).trans (ih (g.trans (Sm.trans (Sm.si (by rw [h2]; rfl)) (Sm.si (by rw [h1]; rfl)))) (c + 1))
/-- the string at o says l -/
def Stg (s : ax_M) (o : Nat) (l : List Int32) : Prop := (Im o = true ∧ o ≠ 25 ∧ l.length ≤ 20) ∧ ∃ a, Im a = true ∧ ((ax_own s o 0 ∨ ax_own s o 300) ∧ (ax_own s a 102 ∨ ax_own s a 202)) ∧ ax_hr s o 0 = some a ∧ ax_ln s a = l.length ∧ (∀ j, j < l.length → ax_hi s a j = l.getD j 0) ∧ ax_hi s o 1 = 0 ∧ ∀ x ∈ l, ∃ n, n < 128 ∧ x = nI n
theorem Stg.sm {A : Nat → Nat → Bool} {s s2 : ax_M} {o : Nat} {l : List Int32} (h : Stg s o l) (g : Sm A s s2) : Stg s2 o l := by
  obtain ⟨h0, a, h1, h2, h3, h4, h5, h6, h7⟩ := h
  have no : o < ax_n s := h2.1.elim (fun z => z.1) (fun z => z.1)
  have na : a < ax_n s := h2.2.elim (fun z => z.1) (fun z => z.1)
  exact ⟨h0, a, h1, ⟨h2.1.imp g.own g.own, h2.2.imp g.own g.own⟩, (g.imr h0.1 no 0).trans h3, ((g.1.2 a na).2).trans h4, fun j hj => (g.im h1 na j).trans (h5 j hj), (g.im h0.1 no 1).trans h6, h7⟩
/-- the field at o: name, value -/
def Fld (s : ax_M) (o : Nat) (n v : List Int32) : Prop := Im o = true ∧ ax_own s o 4 ∧ (∃ on, ax_hr s o 0 = some on ∧ Stg s on n) ∧ (∃ ov, ax_hr s o 1 = some ov ∧ Stg s ov v) ∧ ax_hi s o 2 = nI (2 + n.length + v.length)
theorem Fld.sm {A : Nat → Nat → Bool} {s s2 : ax_M} {o : Nat} {n v : List Int32} (h : Fld s o n v) (g : Sm A s s2) : Fld s2 o n v := by
  obtain ⟨h0, h1, ⟨on, h2, h3⟩, ⟨ov, h4, h5⟩, h6⟩ := h
  exact ⟨h0, g.own h1, ⟨on, (g.imr h0 h1.1 0).trans h2, h3.sm g⟩, ⟨ov, (g.imr h0 h1.1 1).trans h4, h5.sm g⟩, (g.im h0 h1.1 2).trans h6⟩
/-- the reference's array a says l from f on -/
def Txt (N : ax_M) (a f : Nat) (l : List Int32) : Prop := ∀ j, j < l.length → ax_hi N a (f + j) = l.getD j 0
/-- the reference's entry i -/
def Ent (N : ax_M) (i : Nat) (n v : List Int32) : Prop := n.length ≤ 20 ∧ v.length ≤ 20 ∧ ax_hi N 59 i = nI n.length ∧ ax_hi N 61 i = nI v.length ∧ Txt N 60 (20 * i) n ∧ Txt N 62 (20 * i) v
/-- what waits -/
def EO (c : Nat) (s N : ax_M) : Prop := ax_hi s 33 1 = nI c ∧ ax_hi N 54 53 = nI c ∧ ∀ j, j < c → ax_hi s 34 j = ax_hi N 76 j
def aO (o k : Nat) : Bool := match o with
  | 33 => Nat.beq k 1
  | 34 => true
  | _ => false
def bO (o k : Nat) : Bool := match o with
  | 54 => Nat.beq k 53
  | 76 => true
  | _ => false
theorem EO.sm {c : Nat} {s N s2 N2 : ax_M} (h : EO c s N) (g : Sm aO s s2) (g2 : Sm bO N N2) : EO c s2 N2 :=
  ⟨(g.at rfl).trans h.1, (g2.at rfl).trans h.2.1, fun j hj => (g.at (k := j) rfl).trans ((h.2.2 j hj).trans (g2.at (k := j) rfl).symm)⟩
/-- highest, away, window, first window, longest, last -/
def EV (s N : ax_M) : Prop := ax_hi N 54 47 = ax_hi s 48 2 ∧ ax_hi N 54 48 = ax_hi s 27 10 ∧ ax_hi N 54 50 = ax_hi s 27 11 ∧ ax_hi N 54 51 = ax_hi s 48 1 ∧ ax_hi N 54 52 = ax_hi s 27 12 ∧ ax_hi N 54 49 = ax_hi s 27 9 ∧ 16 ≤ ax_hi s 27 12 ∧ ∃ l, l < 256 ∧ ax_hi s 27 9 = nI l
def aV (o k : Nat) : Bool := match o with
  | 48 => Nat.beq k 1 || Nat.beq k 2
  | 27 => Nat.beq k 9 || Nat.beq k 10 || Nat.beq k 11 || Nat.beq k 12
  | _ => false
def bV (o k : Nat) : Bool := match o with
  | 54 => Nat.ble 47 k && Nat.ble k 52
  | _ => false
theorem EV.sm {s N s2 N2 : ax_M} (h : EV s N) (g : Sm aV s s2) (g2 : Sm bV N N2) : EV s2 N2 := by
  obtain ⟨h1, h2, h3, h4, h5, h6, h7, l, h8, h9⟩ := h
  exact ⟨(g2.at rfl).trans (h1.trans (g.at rfl).symm), (g2.at rfl).trans (h2.trans (g.at rfl).symm), (g2.at rfl).trans (h3.trans (g.at rfl).symm), (g2.at rfl).trans (h4.trans (g.at rfl).symm), (g2.at rfl).trans (h5.trans (g.at rfl).symm), (g2.at rfl).trans (h6.trans (g.at rfl).symm), by rw [g.at (o := 27) (k := 12) rfl]; exact h7, l, h8, (g.at rfl).trans h9⟩
def tGET : List Int32 := [71, 69, 84]
def tHEAD : List Int32 := [72, 69, 65, 68]
def mcode (m : List Int32) : Int32 := if m = tGET then 0 else if m = tHEAD then 1 else 2
/-- slot k is open on both sides -/
def SlO (s N : ax_M) (k : Nat) : Prop := (∃ n, 0 < n ∧ n < 256 ∧ ax_hi s (50 + k) 1 = nI n ∧ ax_hi N 63 k = nI n) ∧ ax_hi N 64 k = ax_hi s (50 + k) 2 ∧ ax_hi N 65 k = ax_hi s (50 + k) 5 ∧ ax_hi N 66 k = ax_hi s (50 + k) 7 ∧ ax_hi N 67 k = ax_hi s (50 + k) 3 ∧
  (0 < ax_hi s (50 + k) 3 → ax_hi N 68 k = ax_hi s (50 + k) 4) ∧ ax_hi N 69 k = ax_hi s (50 + k) 6 ∧ (ax_hi s (50 + k) 6 = 0 ∨ ax_hi s (50 + k) 6 = 1) ∧ (∃ t, t ≤ 60 ∧ ax_hi s (50 + k) 3 = nI t) ∧
  (∃ om m, ax_hr s (50 + k) 8 = some om ∧ Stg s om m ∧ ax_hi N 70 k = mcode m) ∧ ∃ op p, ax_hr s (50 + k) 9 = some op ∧ Stg s op p ∧ p.length ≤ 20 ∧ ax_hi N 71 k = nI p.length ∧ Txt N 72 (20 * k) p
def Slo (s N : ax_M) (k : Nat) : Prop := ax_hi s (50 + k) 0 = 0 ∧ ax_hi N 63 k = 0 ∨ ax_hi s (50 + k) 0 = 1 ∧ SlO s N k
/-- the slots; numbers of open ones differ -/
def ES (s N : ax_M) : Prop := (∀ k, k < 4 → Slo s N k) ∧ ∀ i j, i < 4 → j < 4 → i ≠ j → ax_hi s (50 + i) 0 = 1 → ax_hi s (50 + j) 0 = 1 → ax_hi s (50 + i) 1 ≠ ax_hi s (50 + j) 1
def aS (o _k : Nat) : Bool := Nat.ble 50 o && Nat.ble o 53
def bS (o _k : Nat) : Bool := Nat.ble 63 o && Nat.ble o 72
theorem aS_k {k j : Nat} (hk : k < 4) : aS (50 + k) j = true := by
  unfold aS; rw [Nat.ble_eq_true_of_le (by omega), Nat.ble_eq_true_of_le (by omega)]; rfl
theorem SlO.sm {s N s2 N2 : ax_M} {k : Nat} (hk : k < 4) (h : SlO s N k) (g : Sm aS s s2) (g2 : Sm bS N N2) : SlO s2 N2 k := by
  obtain ⟨⟨n, a1, a2, a3, a4⟩, h1, h2, h3, h4, h5, h6, h7, h8, ⟨om, m, b1, b2, b3⟩, op, p, c1, c2, c3, c4, c5⟩ := h
  have e : ∀ j, ax_hi s2 (50 + k) j = ax_hi s (50 + k) j := fun j => g.at (aS_k hk)
  refine ⟨⟨n, a1, a2, (e 1).trans a3, (g2.at rfl).trans a4⟩, (g2.at rfl).trans (h1.trans (e _).symm), (g2.at rfl).trans (h2.trans (e _).symm), (g2.at rfl).trans (h3.trans (e _).symm), (g2.at rfl).trans (h4.trans (e _).symm), ?_, (g2.at rfl).trans (h6.trans (e _).symm), by rw [e]; exact h7, by rw [e]; exact h8,
    ⟨om, m, (g.atr (aS_k hk)).trans b1, b2.sm g, (g2.at rfl).trans b3⟩, op, p, (g.atr (aS_k hk)).trans c1, c2.sm g, c3, (g2.at rfl).trans c4, fun j hj => (g2.at rfl).trans (c5 j hj)⟩
  rw [e, e]; exact fun z => (g2.at rfl).trans (h5 z)
theorem ES.sm {s N s2 N2 : ax_M} (h : ES s N) (g : Sm aS s s2) (g2 : Sm bS N N2) : ES s2 N2 := by
  refine ⟨fun k hk => ?_, fun i j hi hj => ?_⟩
  · have e : ∀ j, ax_hi s2 (50 + k) j = ax_hi s (50 + k) j := fun j => g.at (aS_k hk)
    rcases h.1 k hk with ⟨a, b⟩ | ⟨a, b⟩
    · exact Or.inl ⟨(e 0).trans a, (g2.at rfl).trans b⟩
    · exact Or.inr ⟨(e 0).trans a, b.sm hk g g2⟩
  · rw [g.at (aS_k hi), g.at (aS_k hj), g.at (aS_k hi), g.at (aS_k hj)]; exact h.2 i j hi hj
def tk : List (List Int32 × List Int32) → Nat
  | [] => 0
  | q :: T => 2 + q.1.length + q.2.length + tk T
/-- the entries that are always there -/
def fx : List (List Int32 × List Int32) := [([58, 109], tGET), ([58, 109], tHEAD), ([58, 112], [47]), ([104, 111, 115, 116], []), ([108, 101, 110, 103, 116, 104], []), ([58, 115], [50, 48, 48]), ([58, 115], [52, 48, 52])]
/-- the table -/
def ET (T : List (List Int32 × List Int32)) (s N : ax_M) : Prop := (T.length ≤ 8 ∧ ax_hi s 35 3 = nI T.length ∧ ax_hi N 54 6 = nI T.length ∧ ax_hi s 35 4 = nI (tk T)) ∧ (∃ z, z ≤ 24 ∧ tk T ≤ 24 ∧ ax_hi s 35 2 = nI z ∧ ax_hi N 54 7 = nI z) ∧
  (∀ i, i < T.length → ∃ fo, ax_hr s 37 i = some fo ∧ Fld s fo (T.getD i ([], [])).1 (T.getD i ([], [])).2) ∧ (∀ i, i < T.length → 0 < (T.getD i ([], [])).1.length ∧ Ent N (7 + i) (T.getD i ([], [])).1 (T.getD i ([], [])).2) ∧
  (∀ i, i < 7 → Fld s (38 + i) (fx.getD i ([], [])).1 (fx.getD i ([], [])).2 ∧ Ent N i (fx.getD i ([], [])).1 (fx.getD i ([], [])).2)
def aT (o _k : Nat) : Bool := Nat.beq o 35 || Nat.beq o 37
def bT (o k : Nat) : Bool := match o with
  | 54 => Nat.beq k 6 || Nat.beq k 7
  | 59 => Nat.blt k 16
  | 60 => Nat.blt k 320
  | 61 => Nat.blt k 16
  | 62 => Nat.blt k 320
  | _ => false
theorem blt_t {a b : Nat} (h : a < b) : Nat.blt a b = true := Nat.ble_eq_true_of_le h
theorem Ent.sm {N N2 : ax_M} {i : Nat} {n v : List Int32} (hi : i < 16) (h : Ent N i n v) (g2 : Sm bT N N2) : Ent N2 i n v :=
  ⟨h.1, h.2.1, (g2.at (o := 59) (blt_t hi)).trans h.2.2.1, (g2.at (o := 61) (blt_t hi)).trans h.2.2.2.1, fun j hj => (g2.at (o := 60) (blt_t (by have := h.1; omega))).trans (h.2.2.2.2.1 j hj), fun j hj => (g2.at (o := 62) (blt_t (by have := h.2.1; omega))).trans (h.2.2.2.2.2 j hj)⟩
theorem ET.sm {T : List (List Int32 × List Int32)} {s N s2 N2 : ax_M} (h : ET T s N) (g : Sm aT s s2) (g2 : Sm bT N N2) : ET T s2 N2 := by
  obtain ⟨⟨a0, a1, a2, a3⟩, ⟨z, b1, b2, b3, b4⟩, h1, h2, h3⟩ := h
  refine ⟨⟨a0, (g.at rfl).trans a1, (g2.at rfl).trans a2, (g.at rfl).trans a3⟩, ⟨z, b1, b2, (g.at rfl).trans b3, (g2.at rfl).trans b4⟩, fun i hi => ?_, fun i hi => ⟨(h2 i hi).1, (h2 i hi).2.sm (by omega) g2⟩, fun i hi => ⟨(h3 i hi).1.sm g, (h3 i hi).2.sm (by omega) g2⟩⟩
  obtain ⟨fo, c1, c2⟩ := h1 i hi
  exact ⟨fo, (g.atr (o := 37) rfl).trans c1, c2.sm g⟩
/-- page i of the site -/
def Pag (s N : ax_M) (i : Nat) (q : List Int32 × Int32 × Int32) : Prop := (∃ po t, ax_hr s 32 i = some po ∧ Im po = true ∧ ax_own s po 8 ∧ ax_hr s po 0 = some t ∧ Stg s t q.1 ∧ ax_hi s po 1 = q.2.1 ∧ ax_hi s po 2 = q.2.2) ∧
  q.1.length ≤ 8 ∧ ax_hi N 55 i = nI q.1.length ∧ Txt N 56 (8 * i) q.1 ∧ ax_hi N 57 i = q.2.1 ∧ ax_hi N 58 i = q.2.2 ∧ ∃ n, n ≤ 60 ∧ q.2.1 = nI n
def EP (P : List (List Int32 × Int32 × Int32)) (s N : ax_M) : Prop := P.length ≤ 8 ∧ ax_hi s 31 1 = nI P.length ∧ ax_hi N 54 1 = nI P.length ∧ (∀ i, i < P.length → Pag s N i (P.getD i ([], 0, 0))) ∧ ∀ i j, i < P.length → j < P.length → i ≠ j → (P.getD i ([], 0, 0)).1 ≠ (P.getD j ([], 0, 0)).1
def aP (o _k : Nat) : Bool := Nat.beq o 31 || Nat.beq o 32
def bP (o k : Nat) : Bool := match o with
  | 54 => Nat.beq k 1
  | 55 => true
  | 56 => true
  | 57 => true
  | 58 => true
  | _ => false
theorem EP.sm {P : List (List Int32 × Int32 × Int32)} {s N s2 N2 : ax_M} (h : EP P s N) (g : Sm aP s s2) (g2 : Sm bP N N2) : EP P s2 N2 := by
  obtain ⟨h1, h2, h3, h4, h5⟩ := h
  refine ⟨h1, (g.at rfl).trans h2, (g2.at rfl).trans h3, fun i hi => ?_, h5⟩
  obtain ⟨⟨po, t, a1, a2, a3, a4, a5, a6, a7⟩, b1, b2, b3, b4, b5, b6⟩ := h4 i hi
  exact ⟨⟨po, t, (g.atr (o := 32) rfl).trans a1, a2, g.own a3, (g.imr a2 a3.1 0).trans a4, a5.sm g, (g.im a2 a3.1 1).trans a6, (g.im a2 a3.1 2).trans a7⟩, b1, (g2.at rfl).trans b2, fun j hj => (g2.at rfl).trans (b3 j hj), (g2.at rfl).trans b4, (g2.at rfl).trans b5, b6⟩
/-- the block's bytes -/
def EB (B : List Int32) (s N : ax_M) : Prop := B.length ≤ 100 ∧ ax_hi s 45 4 = nI B.length ∧ ax_hi N 54 34 = nI B.length ∧ (∀ j, j < B.length → ax_hi s 46 j = B.getD j 0 ∧ ax_hi N 74 j = B.getD j 0) ∧ ∀ x ∈ B, ∃ n, n < 256 ∧ x = nI n
def aB (o k : Nat) : Bool := match o with
  | 45 => Nat.beq k 4
  | 46 => true
  | _ => false
def bB (o k : Nat) : Bool := match o with
  | 54 => Nat.beq k 34
  | 74 => true
  | _ => false
theorem EB.sm {B : List Int32} {s N s2 N2 : ax_M} (h : EB B s N) (g : Sm aB s s2) (g2 : Sm bB N N2) : EB B s2 N2 :=
  ⟨h.1, (g.at rfl).trans h.2.1, (g2.at rfl).trans h.2.2.1, fun j hj => ⟨(g.at rfl).trans (h.2.2.2.1 j hj).1, (g2.at rfl).trans (h.2.2.2.1 j hj).2⟩, h.2.2.2.2⟩
