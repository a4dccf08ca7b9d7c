/-! PUMPING on the reference's side -/
theorem si_comm (M : ax_M) {o k o2 k2 : Nat} (h : Nat.beq o o2 = false ∨ Nat.beq k k2 = false) (v w : Int32) : ax_si (ax_si M o k v) o2 k2 w = ax_si (ax_si M o2 k2 w) o k v := by
  have hne : ¬ (o = o2 ∧ k = k2) := by
    rintro ⟨rfl, rfl⟩
    rcases h with z | z <;> exact absurd z (by rw [Nat.beq_refl]; decide)
  unfold ax_si
  have : ax_u (ax_u M.2.2.1 o k v) o2 k2 w = ax_u (ax_u M.2.2.1 o2 k2 w) o k v := by
    funext q j
    unfold ax_u
    by_cases a : q = o ∧ j = k
    · by_cases b : q = o2 ∧ j = k2
      · exact absurd ⟨a.1.symm.trans b.1, a.2.symm.trans b.2⟩ hne
      · rw [if_neg b, if_pos a, if_pos a]
    · rw [if_neg a, if_neg a]
  show (M.1, M.2.1, ax_u (ax_u M.2.2.1 o k v) o2 k2 w, M.2.2.2) = _
  rw [this]
theorem gSay_si (N : ax_M) {o k : Nat} (h1 : Nat.beq o 76 = false) (h2 : Nat.beq o 54 = false ∨ Nat.beq k 53 = false) (v : Int32) (c : Nat) (l : List Int32) : gSay (ax_si N o k v) c l = ax_si (gSay N c l) o k v := by
  induction l generalizing N c with
  | nil => rfl
  | cons b l ih =>
    show gSay (ax_si (ax_si (ax_si N o k v) 76 c (b &&& 255)) 54 53 (nI (c + 1))) (c + 1) l = ax_si (gSay (ax_si (ax_si N 76 c (b &&& 255)) 54 53 (nI (c + 1))) (c + 1) l) o k v
    rw [si_comm N (Or.inl h1), si_comm _ h2, ih]
section AX48
variable {N0 : ax_M} {e : Bool} {c : Nat} {T : List (List Int32 × List Int32)} {P : List (List Int32 × Int32 × Int32)} {B : List Int32} {L : Nat} {s N : ax_M}
theorem SlO.u67 {k : Nat} (hk : k < 4) (h : SlO s N k) (v : Int32) (hv : ∃ t, t ≤ 60 ∧ v = nI t) (hs : 0 < v → 0 < ax_hi s (50 + k) 3) : SlO (ax_si s (50 + k) 3 v) (ax_si N 67 k v) k := by
  obtain ⟨⟨n, a1, a2, a3, a4⟩, h1, h2, h3, h4, h5, h6, h7, h8, ⟨om, m, b1, b2, b3⟩, op, p, c1, c2, c3, c4, c5⟩ := h
  have g : Sm (fun _ _ => false) s (ax_si s (50 + k) 3 v) := Sm.si (nR (A := fun _ _ => false) (j := 0) hk rfl rfl rfl rfl)
  refine ⟨⟨n, a1, a2, (wm_h1k rfl).trans a3, (wm_h1n rfl).trans a4⟩, (wm_h1n rfl).trans (h1.trans (wm_h1k rfl).symm), (wm_h1n rfl).trans (h2.trans (wm_h1k rfl).symm), (wm_h1n rfl).trans (h3.trans (wm_h1k rfl).symm), by rw [wm_h1s, wm_h1s], ?_, (wm_h1n rfl).trans (h6.trans (wm_h1k rfl).symm), by rw [wm_h1k rfl]; exact h7, by rw [wm_h1s]; exact hv,
    ⟨om, m, b1, b2.sm g, (wm_h1n rfl).trans b3⟩, op, p, c1, c2.sm g, c3, (wm_h1n rfl).trans c4, fun j hj => (wm_h1n rfl).trans (c5 j hj)⟩
  rw [wm_h1s, wm_h1k rfl]; exact fun z => (wm_h1n rfl).trans (h5 (hs z))
theorem Wf.u67 (h : Wf N0 e c T P B L s N) {k : Nat} (hk : k < 4) (v : Int32) (hv : ∃ t, t ≤ 60 ∧ v = nI t) (hs : 0 < v → 0 < ax_hi s (50 + k) 3) : Wf N0 e c T P B L (ax_si s (50 + k) 3 v) (ax_si N 67 k v) :=
  ⟨h.sh.si (by omega), (Rc.si (Rc.refl N) rfl rfl).sh h.sN, h.rc.si rfl rfl, (h.o.sm (Sm.si (nR hk rfl rfl rfl rfl)) (Sm.si rfl)), (h.v.sm (Sm.si (nR hk rfl rfl rfl rfl)) (Sm.si rfl)), (h.x.up hk rfl rfl rfl rfl (fun _ z => z.u67 hk v hv hs)), (h.t.sm (Sm.si (nR hk rfl rfl rfl rfl)) (Sm.si rfl)), (h.p.sm (Sm.si (nR hk rfl rfl rfl rfl)) (Sm.si rfl)), (h.b.sm (Sm.si (nR hk rfl rfl rfl rfl)) (Sm.si rfl)), (h.f.sm (Sm.si (nR hk rfl rfl rfl rfl)) (Sm.si rfl)), (h.k.sm (Sm.si (nR hk rfl rfl rfl rfl)) (Sm.si rfl))⟩
theorem nI_min {x y : Nat} (hx : x < 2147483648) (hy : y < 2147483648) : (if nI x < nI y then nI x else nI y) = nI (min x y) := by
  by_cases z : x < y
  · rw [if_pos (nI_lt z hy), Nat.min_eq_left (by omega)]
  · rw [if_neg (nI_nlt (by omega) hx), Nat.min_eq_right (by omega)]
theorem rMin_nI {x y : Nat} (hx : x < 2147483648) (hy : y < 2147483648) : rMin (nI x) (nI y) = nI (min x y) := by
  unfold rMin
  by_cases z : y ≤ x
  · rw [if_pos (nI_le z hx), Nat.min_eq_right z]
  · rw [if_neg (nI_ge (by omega) hy), Nat.min_eq_left (by omega)]
theorem mn4_nI {a b z t : Nat} (ha : a < 2147483648) (hb : b < 2147483648) (hz : z < 2147483648) (ht : t < 2147483648) : mn4 (nI a) (nI b) (nI z) (nI t) = nI (min (min t z) (min b a)) := by
  unfold mn4
  rw [nI_min ht hz, nI_min hb ha, nI_min (by omega) (by omega)]
theorem nI_sub {a q : Nat} (h : q ≤ a) : nI a - nI q = nI (a - q) := by
  have e : nI a = nI (a - q) + nI q := by rw [nI_add]; congr 1; omega
  rw [e, Int32.add_sub_cancel]
theorem pos_nI {x : Int32} (h : ¬ x ≤ 0) : ∃ n, 0 < n ∧ n < 2147483648 ∧ x = nI n := by
  have h1 : ¬ x < 0 := fun z => h (Int32.le_of_lt z)
  obtain ⟨j, j1, j2⟩ := nI_of h1
  refine ⟨j, ?_, by simpa using j1, j2⟩
  rcases Nat.eq_zero_or_pos j with z | z
  · subst z; rw [j2] at h; exact absurd (by decide) h
  · exact z
/-- what a slot that can send has -/
theorem Wf.snd (h : Wf N0 e c T P B L s N) {k : Nat} (hk : k < 4) (hc : cs s k = true) (hw : ¬ ax_hi s 27 11 ≤ 0) : ∃ a b z t, (0 < a ∧ a < 2147483648 ∧ ax_hi s (50 + k) 2 = nI a) ∧ (0 < b ∧ b < 2147483648 ∧ ax_hi s 27 11 = nI b) ∧ (16 ≤ z ∧ z < 2147483648 ∧ ax_hi s 27 12 = nI z) ∧ (0 < t ∧ t ≤ 60 ∧ ax_hi s (50 + k) 3 = nI t) ∧ ax_hi s (50 + k) 0 = 1 ∧ SlO s N k := by
  have hs : ¬ ax_hi s (50 + k) 0 = 0 ∧ ¬ ax_hi s (50 + k) 3 ≤ 0 ∧ ¬ ax_hi s (50 + k) 2 ≤ 0 := by
    unfold cs at hc
    simp only [Bool.and_eq_true, Bool.not_eq_true', decide_eq_false_iff_not] at hc
    exact hc
  have hsl : ax_hi s (50 + k) 0 = 1 ∧ SlO s N k := by
    rcases h.x.1 k hk with y | y
    · exact absurd y.1 hs.1
    · exact y
  obtain ⟨a, a1, a2, a3⟩ := pos_nI hs.2.2
  obtain ⟨b, b1, b2, b3⟩ := pos_nI hw
  have h16 : (16 : Int32) ≤ ax_hi s 27 12 := h.v.2.2.2.2.2.2.1
  have hz : ¬ ax_hi s 27 12 ≤ 0 := fun y => absurd (Int32.le_trans h16 y) (by decide)
  obtain ⟨z, z1, z2, z3⟩ := pos_nI hz
  have z16 : 16 ≤ z := by
    rw [z3, show (16 : Int32) = nI 16 from rfl] at h16
    exact (nI_leI (by omega) (by omega)).mp h16
  obtain ⟨t, t1, t2⟩ := hsl.2.2.2.2.2.2.2.2.2.1
  have t0 : 0 < t := by
    rcases Nat.eq_zero_or_pos t with y | y
    · subst y; rw [t2] at hs; exact absurd (by decide) hs.2.1
    · exact y
  exact ⟨a, b, z, t, ⟨a1, a2, a3⟩, ⟨b1, b2, b3⟩, ⟨z16, z2, z3⟩, ⟨t0, t1, t2⟩, hsl.1, hsl.2⟩
def ph (s : ax_M) (k : Nat) : Nat := bif cs s k then (ax_hi s (50 + k) 3).toNatClampNeg + (ax_hi s (50 + k) 3).toNatClampNeg / 4 + 8 else 0
def Ph (s : ax_M) : Nat := ph s 0 + ph s 1 + ph s 2 + ph s 3
theorem fSd_hi (Z : ax_M) {k q : Nat} (hk : k < 4) (b : Int32) {x j : Nat} (h : x ≠ 27) (h2 : x ≠ 50 + k) : ax_hi (fSd Z (50 + k) q b) x j = ax_hi Z x j := by
  unfold fSd fSd0
  split
  · rw [wm_h1n (nbq h), wm_h1n (nbq h2), wm_h1n (nbq h), wm_h1n (nbq h2)]
  · rw [wm_h1n (nbq h2), wm_h1n (nbq h), wm_h1n (nbq h2), wm_h1n (nbq h), wm_h1n (nbq h2)]
theorem sayZ (s : ax_M) (c : Nat) (l l2 : List Int32) {x j : Nat} (h1 : x ≠ 33) (h2 : x ≠ 34) : ax_hi (fSay (fSay s c l) (c + 4) l2) x j = ax_hi s x j := by
  rw [fSay_hi _ _ _ h1 h2, fSay_hi _ _ _ h1 h2]
theorem ph_other {k q c : Nat} (hk : k < 4) {i : Nat} (hi : i < 4) (h : i ≠ k) : ph (fSend s c (50 + k) q) i = ph s i := by
  have e : ∀ j, ax_hi (fSend s c (50 + k) q) (50 + i) j = ax_hi s (50 + i) j := fun j => by
    unfold fSend
    rw [fSd_hi _ hk _ (by omega) (by omega), sayZ _ _ _ _ (by omega) (by omega)]
  unfold ph cs
  rw [e, e, e]
/-- one turn pays for itself, or empties the window -/
theorem pot {k a b z t q : Nat} (hk : k < 4) (ha : 0 < a ∧ a < 2147483648 ∧ ax_hi s (50 + k) 2 = nI a) (hb : 0 < b ∧ b < 2147483648 ∧ ax_hi s 27 11 = nI b) (hz : 16 ≤ z) (ht : 0 < t ∧ t ≤ 60 ∧ ax_hi s (50 + k) 3 = nI t) (hq : q = min (min t z) (min b a)) (hc : cs s k = true) :
    (ax_hi (fSend s c (50 + k) q) 27 11 ≤ 0 ∨ ph (fSend s c (50 + k) q) k + 4 + q ≤ ph s k) ∧ 4 + q ≤ ph s k ∧ 0 < q := by
  have p0 : ph s k = t + t / 4 + 8 := by
    unfold ph; rw [hc, ht.2.2, nI_clamp (by omega)]; rfl
  refine ⟨?_, by rw [p0]; omega, by omega⟩
  have eZ : ∀ x j, x ≠ 33 → x ≠ 34 → ax_hi (fSay (fSay s c [nI q, 0, lst s (50 + k) q, ax_hi s (50 + k) 1]) (c + 4) (List.replicate q (ax_hi s (50 + k) 4))) x j = ax_hi s x j := fun x j h1 h2 => sayZ _ _ _ _ h1 h2
  unfold fSend
  generalize fSay (fSay s c [nI q, 0, lst s (50 + k) q, ax_hi s (50 + k) 1]) (c + 4) (List.replicate q (ax_hi s (50 + k) 4)) = Z at eZ
  have w1 : ax_hi (fSd0 Z (50 + k) q) 27 11 = nI (b - q) := by
    unfold fSd0
    rw [wm_h1k rfl, wm_h1n (nbq (by omega)), wm_h1s, eZ _ _ (by omega) (by omega), hb.2.2, nI_sub (by omega)]
  have f2 : ax_hi (fSd0 Z (50 + k) q) (50 + k) 2 = nI (a - q) := by
    unfold fSd0
    rw [wm_h1n (nbq (by omega)), wm_h1k rfl, wm_h1n (nbq (by omega)), wm_h1s, eZ _ _ (by omega) (by omega), ha.2.2, nI_sub (by omega)]
  have f3 : ax_hi (fSd0 Z (50 + k) q) (50 + k) 3 = nI (t - q) := by
    unfold fSd0
    rw [wm_h1n (nbq (by omega)), wm_h1s, eZ _ _ (by omega) (by omega), ht.2.2, nI_sub (by omega)]
  unfold lst fSd
  by_cases hl : nI q = ax_hi s (50 + k) 3
  · rw [if_pos hl, if_neg t_10]
    right
    unfold ph cs
    rw [wm_h1s]
    have : q = t := nI_inj (by omega) (by omega) (hl.trans ht.2.2)
    have e0 : (bif (!decide ((0 : Int32) = 0) && (!decide (ax_hi (ax_si (fSd0 Z (50 + k) q) (50 + k) 0 0) (50 + k) 3 ≤ 0) && !decide (ax_hi (ax_si (fSd0 Z (50 + k) q) (50 + k) 0 0) (50 + k) 2 ≤ 0))) then (ax_hi (ax_si (fSd0 Z (50 + k) q) (50 + k) 0 0) (50 + k) 3).toNatClampNeg + (ax_hi (ax_si (fSd0 Z (50 + k) q) (50 + k) 0 0) (50 + k) 3).toNatClampNeg / 4 + 8 else 0) = 0 := rfl
    rw [e0]
    have p1 := p0
    unfold ph cs at p1
    rw [p1]; omega
  · rw [if_neg hl, if_pos rfl]
    have hqt : q ≠ t := fun y => hl (by rw [y]; exact ht.2.2.symm)
    by_cases hbq : b = q
    · left
      rw [w1, hbq, Nat.sub_self]; decide
    · right
      rw [p0]
      unfold ph cs
      rw [f2, f3]
      by_cases haq : a = q
      · rw [haq, Nat.sub_self, show (decide (nI 0 ≤ 0)) = true by decide]
        have e0 : ∀ x y : Bool, (x && (y && !true)) = false := fun x y => by cases x <;> cases y <;> rfl
        rw [e0]
        show 0 + 4 + q ≤ _
        omega
      · have : ∀ x : Bool, (bif x then (nI (t - q)).toNatClampNeg + (nI (t - q)).toNatClampNeg / 4 + 8 else 0) ≤ (t - q) + (t - q) / 4 + 8 := fun x => by
          cases x
          · exact Nat.zero_le _
          · rw [nI_clamp (by omega)]; exact Nat.le_refl _
        have h9 := this (!decide (ax_hi (fSd0 Z (50 + k) q) (50 + k) 0 = 0) && (!decide (nI (t - q) ≤ 0) && !decide (nI (a - q) ≤ 0)))
        omega
end AX48
