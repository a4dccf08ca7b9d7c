/-! SINGLE NUMBERS on both sides -/
theorem EV.u47 {s N : ax_M} (h : EV s N) (v : Int32) : EV (ax_si s 48 2 v) (ax_si N 54 47 v) := by
  obtain ⟨h1, h2, h3, h4, h5, h6, h7, l, h8, h9⟩ := h
  exact ⟨by rw [wm_h1s, wm_h1s], by rw [wm_h1k rfl, wm_h1n rfl]; exact h2, by rw [wm_h1k rfl, wm_h1n rfl]; exact h3, by rw [wm_h1k rfl, wm_h1k rfl]; exact h4, by rw [wm_h1k rfl, wm_h1n rfl]; exact h5, by rw [wm_h1k rfl, wm_h1n rfl]; exact h6, by rw [wm_h1n rfl]; exact h7, l, h8, by rw [wm_h1n rfl]; exact h9⟩
theorem EV.u48 {s N : ax_M} (h : EV s N) (v : Int32) : EV (ax_si s 27 10 v) (ax_si N 54 48 v) := by
  obtain ⟨h1, h2, h3, h4, h5, h6, h7, l, h8, h9⟩ := h
  exact ⟨by rw [wm_h1k rfl, wm_h1n rfl]; exact h1, by rw [wm_h1s, wm_h1s], by rw [wm_h1k rfl, wm_h1k rfl]; exact h3, by rw [wm_h1k rfl, wm_h1n rfl]; exact h4, by rw [wm_h1k rfl, wm_h1k rfl]; exact h5, by rw [wm_h1k rfl, wm_h1k rfl]; exact h6, by rw [wm_h1k rfl]; exact h7, l, h8, by rw [wm_h1k rfl]; exact h9⟩
theorem EV.u50 {s N : ax_M} (h : EV s N) (v : Int32) : EV (ax_si s 27 11 v) (ax_si N 54 50 v) := by
  obtain ⟨h1, h2, h3, h4, h5, h6, h7, l, h8, h9⟩ := h
  exact ⟨by rw [wm_h1k rfl, wm_h1n rfl]; exact h1, by rw [wm_h1k rfl, wm_h1k rfl]; exact h2, by rw [wm_h1s, wm_h1s], by rw [wm_h1k rfl, wm_h1n rfl]; exact h4, by rw [wm_h1k rfl, wm_h1k rfl]; exact h5, by rw [wm_h1k rfl, wm_h1k rfl]; exact h6, by rw [wm_h1k rfl]; exact h7, l, h8, by rw [wm_h1k rfl]; exact h9⟩
theorem EV.u51 {s N : ax_M} (h : EV s N) (v : Int32) : EV (ax_si s 48 1 v) (ax_si N 54 51 v) := by
  obtain ⟨h1, h2, h3, h4, h5, h6, h7, l, h8, h9⟩ := h
  exact ⟨by rw [wm_h1k rfl, wm_h1k rfl]; exact h1, by rw [wm_h1k rfl, wm_h1n rfl]; exact h2, by rw [wm_h1k rfl, wm_h1n rfl]; exact h3, by rw [wm_h1s, wm_h1s], by rw [wm_h1k rfl, wm_h1n rfl]; exact h5, by rw [wm_h1k rfl, wm_h1n rfl]; exact h6, by rw [wm_h1n rfl]; exact h7, l, h8, by rw [wm_h1n rfl]; exact h9⟩
theorem EV.u52 {s N : ax_M} (h : EV s N) (v : Int32) (hv : 16 ≤ v) : EV (ax_si s 27 12 v) (ax_si N 54 52 v) := by
  obtain ⟨h1, h2, h3, h4, h5, h6, h7, l, h8, h9⟩ := h
  exact ⟨by rw [wm_h1k rfl, wm_h1n rfl]; exact h1, by rw [wm_h1k rfl, wm_h1k rfl]; exact h2, by rw [wm_h1k rfl, wm_h1k rfl]; exact h3, by rw [wm_h1k rfl, wm_h1n rfl]; exact h4, by rw [wm_h1s, wm_h1s], by rw [wm_h1k rfl, wm_h1k rfl]; exact h6, by rw [wm_h1s]; exact hv, l, h8, by rw [wm_h1k rfl]; exact h9⟩
theorem EV.u49 {s N : ax_M} (h : EV s N) (v : Int32) (hv : ∃ l, l < 256 ∧ v = nI l) : EV (ax_si s 27 9 v) (ax_si N 54 49 v) := by
  obtain ⟨h1, h2, h3, h4, h5, h6, h7, l, h8, h9⟩ := h
  exact ⟨by rw [wm_h1k rfl, wm_h1n rfl]; exact h1, by rw [wm_h1k rfl, wm_h1k rfl]; exact h2, by rw [wm_h1k rfl, wm_h1k rfl]; exact h3, by rw [wm_h1k rfl, wm_h1n rfl]; exact h4, by rw [wm_h1k rfl, wm_h1k rfl]; exact h5, by rw [wm_h1s, wm_h1s], by rw [wm_h1k rfl]; exact h7, by rw [wm_h1s]; exact hv⟩
section AX43a
variable {N0 : ax_M} {e : Bool} {c : Nat} {T : List (List Int32 × List Int32)} {P : List (List Int32 × Int32 × Int32)} {B : List Int32} {L : Nat} {s N : ax_M}
theorem Wf.u47 (h : Wf N0 e c T P B L s N) (v : Int32) : Wf N0 e c T P B L (ax_si s 48 2 v) (ax_si N 54 47 v) :=
  ⟨h.sh.si (by decide), (Rc.si (Rc.refl N) rfl rfl).sh h.sN, h.rc.si rfl rfl, (h.o.sm (Sm.si rfl) (Sm.si rfl)), (h.v.u47 v), (h.x.sm (Sm.si rfl) (Sm.si rfl)), (h.t.sm (Sm.si rfl) (Sm.si rfl)), (h.p.sm (Sm.si rfl) (Sm.si rfl)), (h.b.sm (Sm.si rfl) (Sm.si rfl)), (h.f.sm (Sm.si rfl) (Sm.si rfl)), (h.k.sm (Sm.si rfl) (Sm.si rfl))⟩
theorem Wf.u48 (h : Wf N0 e c T P B L s N) (v : Int32) : Wf N0 e c T P B L (ax_si s 27 10 v) (ax_si N 54 48 v) :=
  ⟨h.sh.si (by decide), (Rc.si (Rc.refl N) rfl rfl).sh h.sN, h.rc.si rfl rfl, (h.o.sm (Sm.si rfl) (Sm.si rfl)), (h.v.u48 v), (h.x.sm (Sm.si rfl) (Sm.si rfl)), (h.t.sm (Sm.si rfl) (Sm.si rfl)), (h.p.sm (Sm.si rfl) (Sm.si rfl)), (h.b.sm (Sm.si rfl) (Sm.si rfl)), (h.f.sm (Sm.si rfl) (Sm.si rfl)), (h.k.sm (Sm.si rfl) (Sm.si rfl))⟩
theorem Wf.u50 (h : Wf N0 e c T P B L s N) (v : Int32) : Wf N0 e c T P B L (ax_si s 27 11 v) (ax_si N 54 50 v) :=
  ⟨h.sh.si (by decide), (Rc.si (Rc.refl N) rfl rfl).sh h.sN, h.rc.si rfl rfl, (h.o.sm (Sm.si rfl) (Sm.si rfl)), (h.v.u50 v), (h.x.sm (Sm.si rfl) (Sm.si rfl)), (h.t.sm (Sm.si rfl) (Sm.si rfl)), (h.p.sm (Sm.si rfl) (Sm.si rfl)), (h.b.sm (Sm.si rfl) (Sm.si rfl)), (h.f.sm (Sm.si rfl) (Sm.si rfl)), (h.k.sm (Sm.si rfl) (Sm.si rfl))⟩
theorem Wf.u51 (h : Wf N0 e c T P B L s N) (v : Int32) : Wf N0 e c T P B L (ax_si s 48 1 v) (ax_si N 54 51 v) :=
  ⟨h.sh.si (by decide), (Rc.si (Rc.refl N) rfl rfl).sh h.sN, h.rc.si rfl rfl, (h.o.sm (Sm.si rfl) (Sm.si rfl)), (h.v.u51 v), (h.x.sm (Sm.si rfl) (Sm.si rfl)), (h.t.sm (Sm.si rfl) (Sm.si rfl)), (h.p.sm (Sm.si rfl) (Sm.si rfl)), (h.b.sm (Sm.si rfl) (Sm.si rfl)), (h.f.sm (Sm.si rfl) (Sm.si rfl)), (h.k.sm (Sm.si rfl) (Sm.si rfl))⟩
theorem Wf.u52 (h : Wf N0 e c T P B L s N) (v : Int32) (hv : 16 ≤ v) : Wf N0 e c T P B L (ax_si s 27 12 v) (ax_si N 54 52 v) :=
  ⟨h.sh.si (by decide), (Rc.si (Rc.refl N) rfl rfl).sh h.sN, h.rc.si rfl rfl, (h.o.sm (Sm.si rfl) (Sm.si rfl)), (h.v.u52 v hv), (h.x.sm (Sm.si rfl) (Sm.si rfl)), (h.t.sm (Sm.si rfl) (Sm.si rfl)), (h.p.sm (Sm.si rfl) (Sm.si rfl)), (h.b.sm (Sm.si rfl) (Sm.si rfl)), (h.f.sm (Sm.si rfl) (Sm.si rfl)), (h.k.sm (Sm.si rfl) (Sm.si rfl))⟩
theorem Wf.u49 (h : Wf N0 e c T P B L s N) (v : Int32) (hv : ∃ l, l < 256 ∧ v = nI l) : Wf N0 e c T P B L (ax_si s 27 9 v) (ax_si N 54 49 v) :=
  ⟨h.sh.si (by decide), (Rc.si (Rc.refl N) rfl rfl).sh h.sN, h.rc.si rfl rfl, (h.o.sm (Sm.si rfl) (Sm.si rfl)), (h.v.u49 v hv), (h.x.sm (Sm.si rfl) (Sm.si rfl)), (h.t.sm (Sm.si rfl) (Sm.si rfl)), (h.p.sm (Sm.si rfl) (Sm.si rfl)), (h.b.sm (Sm.si rfl) (Sm.si rfl)), (h.f.sm (Sm.si rfl) (Sm.si rfl)), (h.k.sm (Sm.si rfl) (Sm.si rfl))⟩
/-- slot q says the same in memories that agree on it -/
theorem SlO.ag {s2 N2 : ax_M} {q : Nat} (h : SlO s N q) (e1 : ∀ j, ax_hi s2 (50 + q) j = ax_hi s (50 + q) j) (e1r : ∀ j, ax_hr s2 (50 + q) j = ax_hr s (50 + q) j) (g : Sm (fun _ _ => false) s s2) (e2 : ∀ a, Nat.ble 63 a = true → Nat.ble a 71 = true → ax_hi N2 a q = ax_hi N a q) (e3 : ∀ j, j < 20 → ax_hi N2 72 (20 * q + j) = ax_hi N 72 (20 * q + j)) : SlO s2 N2 q := by
  obtain ⟨⟨n, a1, a2, a3, a4⟩, h1, h2, h3, h4, h5, h6, h7, h8, ⟨om, m, b1, b2, b3⟩, op, p, c1, c2, c3, c4, c5⟩ := h
  refine ⟨⟨n, a1, a2, (e1 1).trans a3, (e2 _ rfl rfl).trans a4⟩, (e2 _ rfl rfl).trans (h1.trans (e1 _).symm), (e2 _ rfl rfl).trans (h2.trans (e1 _).symm), (e2 _ rfl rfl).trans (h3.trans (e1 _).symm), (e2 _ rfl rfl).trans (h4.trans (e1 _).symm), ?_, (e2 _ rfl rfl).trans (h6.trans (e1 _).symm), by rw [e1]; exact h7, by rw [e1]; exact h8,
    ⟨om, m, (e1r 8).trans b1, b2.sm g, (e2 _ rfl rfl).trans b3⟩, op, p, (e1r 9).trans c1, c2.sm g, c3, (e2 _ rfl rfl).trans c4, fun j hj => (e3 j (by omega)).trans (c5 j hj)⟩
  rw [e1, e1]; exact fun z => (e2 _ rfl rfl).trans (h5 z)
/-- one field of slot k, and its number on the reference's side -/
theorem ES.up (h : ES s N) {k : Nat} (hk : k < 4) {j a : Nat} {v w : Int32} (h0 : Nat.beq 0 j = false) (h1 : Nat.beq 1 j = false) (ha : Nat.beq 63 a = false) (hb : Nat.beq 72 a = false) (hs : ax_hi s (50 + k) 0 = 1 → SlO s N k → SlO (ax_si s (50 + k) j v) (ax_si N a k w) k) : ES (ax_si s (50 + k) j v) (ax_si N a k w) := by
  have f0 : ∀ q, ax_hi (ax_si s (50 + k) j v) (50 + q) 0 = ax_hi s (50 + q) 0 := fun q => by
    by_cases e : q = k
    · subst e; exact wm_h1k h0
    · exact wm_h1n (nbq (by omega))
  have f1 : ∀ q, ax_hi (ax_si s (50 + k) j v) (50 + q) 1 = ax_hi s (50 + q) 1 := fun q => by
    by_cases e : q = k
    · subst e; exact wm_h1k h1
    · exact wm_h1n (nbq (by omega))
  refine ⟨fun q hq => ?_, fun i q hi hq hiq => by rw [f0, f0, f1, f1]; exact h.2 i q hi hq hiq⟩
  rcases h.1 q hq with ⟨a1, b1⟩ | ⟨a1, b1⟩
  · exact Or.inl ⟨(f0 q).trans a1, (wm_h1n ha).trans b1⟩
  · refine Or.inr ⟨(f0 q).trans a1, ?_⟩
    by_cases e : q = k
    · subst e; exact hs a1 b1
    · refine b1.ag (fun x => wm_h1n (nbq (by omega))) (fun _ => rfl) (Sm.si (nR (A := fun _ _ => false) (j := 0) hk rfl rfl rfl rfl)) (fun x _ _ => ?_) (fun x _ => wm_h1n hb)
      rw [wm_h1, if_neg (fun z => e z.2)]
/-- a closed slot of the reference may say what it likes -/
theorem ES.shutN (h : ES s N) {k : Nat} (hk : k < 4) (hc : ax_hi s (50 + k) 0 = 0) {a : Nat} {w : Int32} (ha : Nat.beq 63 a = false) (hb : Nat.beq 72 a = false) : ES s (ax_si N a k w) := by
  refine ⟨fun q hq => ?_, h.2⟩
  rcases h.1 q hq with ⟨a1, b1⟩ | ⟨a1, b1⟩
  · exact Or.inl ⟨a1, (wm_h1n ha).trans b1⟩
  · refine Or.inr ⟨a1, ?_⟩
    have e : q ≠ k := fun z => by subst z; rw [hc] at a1; exact absurd a1 (by decide)
    refine b1.ag (fun x => rfl) (fun _ => rfl) (Sm.refl _ _) (fun x _ _ => ?_) (fun x _ => wm_h1n hb)
    rw [wm_h1, if_neg (fun z => e z.2)]
theorem SlO.u64 {k : Nat} (hk : k < 4) (h : SlO s N k) (v : Int32) : SlO (ax_si s (50 + k) 2 v) (ax_si N 64 k v) k := by
  obtain ⟨⟨n, a1, a2, a3, a4⟩, h1, h2, h3, h4, h5, h6, h7, h8, ⟨om, m, b1, b2, b3⟩, op, p, c1, c2, c3, c4, c5⟩ := h
  have g : Sm (fun _ _ => false) s (ax_si s (50 + k) 2 v) := Sm.si (nR (A := fun _ _ => false) (j := 0) hk rfl rfl rfl rfl)
  refine ⟨⟨n, a1, a2, (wm_h1k rfl).trans a3, (wm_h1n rfl).trans a4⟩, by rw [wm_h1s, wm_h1s], (wm_h1n rfl).trans (h2.trans (wm_h1k rfl).symm), (wm_h1n rfl).trans (h3.trans (wm_h1k rfl).symm), (wm_h1n rfl).trans (h4.trans (wm_h1k rfl).symm), ?_, (wm_h1n rfl).trans (h6.trans (wm_h1k rfl).symm), by rw [wm_h1k rfl]; exact h7, by rw [wm_h1k rfl]; exact h8,
    ⟨om, m, b1, b2.sm g, (wm_h1n rfl).trans b3⟩, op, p, c1, c2.sm g, c3, (wm_h1n rfl).trans c4, fun j hj => (wm_h1n rfl).trans (c5 j hj)⟩
  rw [wm_h1k rfl, wm_h1k rfl]; exact fun z => (wm_h1n rfl).trans (h5 z)
theorem Wf.u64 (h : Wf N0 e c T P B L s N) {k : Nat} (hk : k < 4) (v : Int32) : Wf N0 e c T P B L (ax_si s (50 + k) 2 v) (ax_si N 64 k v) :=
  ⟨h.sh.si (by omega), (Rc.si (Rc.refl N) rfl rfl).sh h.sN, h.rc.si rfl rfl, (h.o.sm (Sm.si (nR hk rfl rfl rfl rfl)) (Sm.si rfl)), (h.v.sm (Sm.si (nR hk rfl rfl rfl rfl)) (Sm.si rfl)), (h.x.up hk rfl rfl rfl rfl (fun _ z => z.u64 hk v)), (h.t.sm (Sm.si (nR hk rfl rfl rfl rfl)) (Sm.si rfl)), (h.p.sm (Sm.si (nR hk rfl rfl rfl rfl)) (Sm.si rfl)), (h.b.sm (Sm.si (nR hk rfl rfl rfl rfl)) (Sm.si rfl)), (h.f.sm (Sm.si (nR hk rfl rfl rfl rfl)) (Sm.si rfl)), (h.k.sm (Sm.si (nR hk rfl rfl rfl rfl)) (Sm.si rfl))⟩
theorem SlO.u65 {k : Nat} (hk : k < 4) (h : SlO s N k) (v : Int32) : SlO (ax_si s (50 + k) 5 v) (ax_si N 65 k v) k := by
  obtain ⟨⟨n, a1, a2, a3, a4⟩, h1, h2, h3, h4, h5, h6, h7, h8, ⟨om, m, b1, b2, b3⟩, op, p, c1, c2, c3, c4, c5⟩ := h
  have g : Sm (fun _ _ => false) s (ax_si s (50 + k) 5 v) := Sm.si (nR (A := fun _ _ => false) (j := 0) hk rfl rfl rfl rfl)
  refine ⟨⟨n, a1, a2, (wm_h1k rfl).trans a3, (wm_h1n rfl).trans a4⟩, (wm_h1n rfl).trans (h1.trans (wm_h1k rfl).symm), by rw [wm_h1s, wm_h1s], (wm_h1n rfl).trans (h3.trans (wm_h1k rfl).symm), (wm_h1n rfl).trans (h4.trans (wm_h1k rfl).symm), ?_, (wm_h1n rfl).trans (h6.trans (wm_h1k rfl).symm), by rw [wm_h1k rfl]; exact h7, by rw [wm_h1k rfl]; exact h8,
    ⟨om, m, b1, b2.sm g, (wm_h1n rfl).trans b3⟩, op, p, c1, c2.sm g, c3, (wm_h1n rfl).trans c4, fun j hj => (wm_h1n rfl).trans (c5 j hj)⟩
  rw [wm_h1k rfl, wm_h1k rfl]; exact fun z => (wm_h1n rfl).trans (h5 z)
theorem Wf.u65 (h : Wf N0 e c T P B L s N) {k : Nat} (hk : k < 4) (v : Int32) : Wf N0 e c T P B L (ax_si s (50 + k) 5 v) (ax_si N 65 k v) :=
  ⟨h.sh.si (by omega), (Rc.si (Rc.refl N) rfl rfl).sh h.sN, h.rc.si rfl rfl, (h.o.sm (Sm.si (nR hk rfl rfl rfl rfl)) (Sm.si rfl)), (h.v.sm (Sm.si (nR hk rfl rfl rfl rfl)) (Sm.si rfl)), (h.x.up hk rfl rfl rfl rfl (fun _ z => z.u65 hk v)), (h.t.sm (Sm.si (nR hk rfl rfl rfl rfl)) (Sm.si rfl)), (h.p.sm (Sm.si (nR hk rfl rfl rfl rfl)) (Sm.si rfl)), (h.b.sm (Sm.si (nR hk rfl rfl rfl rfl)) (Sm.si rfl)), (h.f.sm (Sm.si (nR hk rfl rfl rfl rfl)) (Sm.si rfl)), (h.k.sm (Sm.si (nR hk rfl rfl rfl rfl)) (Sm.si rfl))⟩
end AX43a
