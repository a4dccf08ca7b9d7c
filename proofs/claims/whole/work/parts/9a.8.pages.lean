/-! a page is added on both sides -/
theorem gA_lt {α : Type} {l : List α} {q d : α} {i : Nat} (h : i < l.length) : (l ++ [q]).getD i d = l.getD i d := by
  rw [List.getD_eq_getElem?_getD, List.getD_eq_getElem?_getD, List.getElem?_append_left h]
theorem gA_eq {α : Type} {l : List α} {q d : α} : (l ++ [q]).getD l.length d = q := by
  rw [List.getD_eq_getElem?_getD, List.getElem?_append_right (Nat.le_refl _), Nat.sub_self]; rfl
def fRp (s : ax_M) (k po : Nat) : ax_M := ax_si (ax_sr s 32 k (some po)) 31 1 (nI (k + 1))
theorem fRp_sm {A : Nat → Nat → Bool} {s : ax_M} {k po : Nat} (h1 : ∀ k, A 32 k = false) (h2 : A 31 1 = false) : Sm A s (fRp s k po) := by
  unfold fRp
  exact Sm.st (Sm.sr (by rw [h1]; rfl)) (by rw [h2]; rfl)
/-- the reference's places that a page changes -/
def bPg (o k : Nat) : Bool := !(Nat.beq o 75) && !(Nat.ble 55 o && Nat.ble o 58) && !(Nat.beq o 54 && (Nat.beq k 0 || Nat.beq k 1))
theorem gPg_sm {N : ax_M} {k : Nat} {p : List Int32} {z b : Int32} : Sm bPg N (gPg N k p z b) := by
  unfold gPg
  refine Sm.st (Sm.st (Sm.st ?_ rfl) rfl) rfl
  exact ((((fWr_sm rfl (fun _ => rfl) p 0).trans (Sm.si rfl)).trans (Sm.si rfl))).trans (fWr_sm rfl (fun _ => rfl) p (8 * k))
theorem gPg_rc {N : ax_M} {k : Nat} {p : List Int32} {z b : Int32} : Rc0 N (gPg N k p z b) := by
  unfold gPg
  refine Rc0.si (Rc0.si (Rc0.si ?_ rfl rfl) rfl rfl) rfl rfl
  exact fWr_r0 (by decide) (by decide) p _ ((((fWr_r0 (by decide) (by decide) p 0 (Rc0.refl N)).si rfl rfl)).si rfl rfl)
section AX107
variable {c : Nat} {T : Tb} {P : List (List Int32 × Int32 × Int32)} {B : List Int32} {s N R N2 : ax_M} {p : List Int32} {z b : Int32} {so po : Nat}
theorem EP.add (h : EP P s N) (hSt : Stg s so p) (hp8 : p.length ≤ 8) (hpo : 78 ≤ po ∧ ax_own s po 8 ∧ ax_hr s po 0 = some so ∧ ax_hi s po 1 = z ∧ ax_hi s po 2 = b) (hf : pg P p = none) (h8 : P.length < 8) (hz : ∃ n, n ≤ 60 ∧ z = nI n) : EP (P ++ [(p, z, b)]) (fRp s P.length po) (gPg N P.length p z b) := by
  obtain ⟨h1, h2, h3, h4, h5⟩ := h
  obtain ⟨o1, o2, o3, o4, o5⟩ := hpo
  have sm : Sm (fun _ _ => false) s (fRp s P.length po) := fRp_sm (fun _ => rfl) rfl
  have hno := pI_none P.length 0 hf
  have len : (P ++ [(p, z, b)]).length = P.length + 1 := by rw [List.length_append]; rfl
  have r28 : ∀ i, i ≠ P.length → ax_hr (fRp s P.length po) 32 i = ax_hr s 32 i := fun i hi => by
    unfold fRp
    show ax_hr (ax_sr s 32 P.length (some po)) 32 i = _
    rw [wm_r2, if_neg (fun w => hi w.2)]
  refine ⟨by rw [len]; omega, by rw [len]; exact wm_h1s, by rw [len]; exact wm_h1s, fun i hi => ?_, fun i j hi hj hij => ?_⟩
  · rw [len] at hi
    by_cases e : i = P.length
    · subst e
      rw [gA_eq]
      refine ⟨⟨po, so, ?_, Im_ge o1, sm.own o2, (sm.imr (Im_ge o1) o2.1 0).trans o3, hSt.sm sm, (sm.im (Im_ge o1) o2.1 1).trans o4, (sm.im (Im_ge o1) o2.1 2).trans o5⟩, hp8, ?_, fun j hj => ?_, ?_, ?_, hz⟩
      · unfold fRp
        exact wm_r2s
      · unfold gPg
        rw [wm_h1n rfl, wm_h1n rfl, wm_h1n rfl, fWr_ne _ p (by decide), wm_h1s]
      · unfold gPg
        rw [wm_h1n rfl, wm_h1n rfl, wm_h1n rfl]
        exact fWr_at _ p hj
      · unfold gPg
        rw [wm_h1n rfl, wm_h1n rfl, wm_h1s]
      · unfold gPg
        rw [wm_h1n rfl, wm_h1s]
    · have hi' : i < P.length := by omega
      rw [gA_lt hi']
      obtain ⟨⟨po2, t, a1, a2, a3, a4, a5, a6, a7⟩, b1, b2, b3, b4, b5, b6⟩ := h4 i hi'
      refine ⟨⟨po2, t, (r28 i e).trans a1, a2, sm.own a3, (sm.imr a2 a3.1 0).trans a4, a5.sm sm, (sm.im a2 a3.1 1).trans a6, (sm.im a2 a3.1 2).trans a7⟩, b1, ?_, fun j hj => ?_, ?_, ?_, b6⟩
      · unfold gPg
        rw [wm_h1n rfl, wm_h1n rfl, wm_h1n rfl, fWr_ne _ p (by decide), wm_h1k (nbq e), wm_h1n rfl, fWr_ne _ p (by decide)]
        exact b2
      · unfold gPg
        rw [wm_h1n rfl, wm_h1n rfl, wm_h1n rfl, fWr_lt _ p (by omega), wm_h1n rfl, wm_h1n rfl, fWr_ne _ p (by decide)]
        exact b3 j hj
      · unfold gPg
        rw [wm_h1n rfl, wm_h1n rfl, wm_h1k (nbq e), fWr_ne _ p (by decide), wm_h1n rfl, wm_h1n rfl, fWr_ne _ p (by decide)]
        exact b4
      · unfold gPg
        rw [wm_h1n rfl, wm_h1k (nbq e), wm_h1n rfl, fWr_ne _ p (by decide), wm_h1n rfl, wm_h1n rfl, fWr_ne _ p (by decide)]
        exact b5
  · rw [len] at hi hj
    by_cases ei : i = P.length
    · have ej : j < P.length := by omega
      subst ei
      rw [gA_eq, gA_lt ej]
      exact fun w => hno j (Nat.zero_le _) (by omega) w.symm
    · by_cases ej : j = P.length
      · subst ej
        rw [gA_eq, gA_lt (show i < P.length by omega)]
        exact fun w => hno i (Nat.zero_le _) (by omega) w
      · rw [gA_lt (show i < P.length by omega), gA_lt (show j < P.length by omega)]
        exact h5 i j (by omega) (by omega) hij
/-- the class and the reference behind page, when it is taken -/
theorem RL.page {s1 : ax_M} (h : RL s1 s1) (hE : EP P s1 s1) (hSt : Stg s1 so p) (hp8 : p.length ≤ 8) (hpo : 78 ≤ po ∧ ax_own s1 po 8 ∧ ax_hr s1 po 0 = some so ∧ ax_hi s1 po 1 = z ∧ ax_hi s1 po 2 = b) (hf : pg P p = none) (h8 : P.length < 8) (hz : ∃ n, n ≤ 60 ∧ z = nI n) : RL (fRp s1 P.length po) (gPg (fRp s1 P.length po) P.length p z b) := by
  obtain ⟨c, T, P', B, h1, h2⟩ := h
  have : P' = P := h1.2.2.2.2.2.2.1.inj hE
  subst this
  have hR : SH (fRp s1 P'.length po) := by unfold fRp; exact (h1.1.sr (rf_28 _)).si (by decide)
  have sN : ∀ {A : Nat → Nat → Bool}, (∀ q k, A q k = true → bPg q k = true ∧ q ≠ 31 ∧ q ≠ 32) → Sm A s1 (gPg (fRp s1 P'.length po) P'.length p z b) := fun hA => by
    have a1 : Sm (fun q k => bPg q k && !(Nat.beq q 31) && !(Nat.beq q 32)) s1 (fRp s1 P'.length po) := fRp_sm (fun _ => rfl) rfl
    have a2 : Sm (fun q k => bPg q k && !(Nat.beq q 31) && !(Nat.beq q 32)) (fRp s1 P'.length po) (gPg (fRp s1 P'.length po) P'.length p z b) := gPg_sm.mono fun q k w => by simp only [Bool.and_eq_true] at w; exact w.1.1
    exact (a1.trans a2).mono fun q k w => by rw [(hA q k w).1, nbq (hA q k w).2.1, nbq (hA q k w).2.2]; rfl
  have hNs : SH (gPg (fRp s1 P'.length po) P'.length p z b) := gPg_rc.sh hR
  obtain ⟨g1, g2, g3, g4, g5, g6, g7, g8, g9, g10⟩ := h1
  have hE2 : EP P' s1 (fRp s1 P'.length po) := hE.sm (Sm.refl _ _) (fRp_sm (fun _ => rfl) rfl)
  refine ⟨c, T, P' ++ [(p, z, b)], B, ⟨hR, hNs, g3.sm (fRp_sm (fun _ => rfl) rfl) (sN fun q k w => ?_), g4.sm (fRp_sm (fun _ => rfl) rfl) (sN fun q k w => ?_), g5.sm (fRp_sm (fun _ => rfl) rfl) (sN fun q k w => ?_), g6.sm (fRp_sm (fun _ => rfl) rfl) (sN fun q k w => ?_), hE2.add hSt hp8 hpo hf h8 hz, g8.sm (fRp_sm (fun _ => rfl) rfl) (sN fun q k w => ?_), g9.sm (fRp_sm (fun _ => rfl) rfl), g10⟩, fun w => ?_⟩
  · unfold bO at w
    split at w
    · have := Nat.eq_of_beq_eq_true w; subst this; exact ⟨rfl, by decide, by decide⟩
    · exact ⟨rfl, by decide, by decide⟩
    · exact absurd w (by decide)
  · unfold bV at w
    split at w
    · rw [Bool.and_eq_true] at w
      have a1 := Nat.le_of_ble_eq_true w.1
      refine ⟨?_, by decide, by decide⟩
      unfold bPg
      rw [nbq (show k ≠ 0 by omega), nbq (show k ≠ 1 by omega)]; rfl
    · exact absurd w (by decide)
  · unfold bS at w
    rw [Bool.and_eq_true] at w
    have a1 := Nat.le_of_ble_eq_true w.1
    have a2 := Nat.le_of_ble_eq_true w.2
    refine ⟨?_, by omega, by omega⟩
    unfold bPg
    rw [nbq (show q ≠ 75 by omega), nbq (show q ≠ 54 by omega), show Nat.ble q 58 = false by rw [← Bool.not_eq_true]; intro w3; have := Nat.le_of_ble_eq_true w3; omega, Bool.and_false]; rfl
  · unfold bT at w
    split at w
    · rw [Bool.or_eq_true] at w
      rcases w with w | w <;> (have := Nat.eq_of_beq_eq_true w; subst this; exact ⟨rfl, by decide, by decide⟩)
    · exact ⟨rfl, by decide, by decide⟩
    · exact ⟨rfl, by decide, by decide⟩
    · exact ⟨rfl, by decide, by decide⟩
    · exact ⟨rfl, by decide, by decide⟩
    · exact absurd w (by decide)
  · unfold bB at w
    split at w
    · have := Nat.eq_of_beq_eq_true w; subst this; exact ⟨rfl, by decide, by decide⟩
    · exact ⟨rfl, by decide, by decide⟩
    · exact absurd w (by decide)
  · have f : ∀ {q j : Nat}, q ≠ 31 → ax_hi (fRp s1 P'.length po) q j = ax_hi s1 q j := fun a => by unfold fRp; rw [wm_h1n (nbq a)]; rfl
    have g : ∀ {q j : Nat}, bPg q j = true → q ≠ 31 → q ≠ 32 → ax_hi (gPg (fRp s1 P'.length po) P'.length p z b) q j = ax_hi s1 q j := fun {q j} a a2 a3 => (sN (A := fun q' j' => Nat.beq q' q && Nat.beq j' j) fun q' j' w => by
      rw [Bool.and_eq_true] at w
      have e1 := Nat.eq_of_beq_eq_true w.1
      have e2 := Nat.eq_of_beq_eq_true w.2
      subst e1 e2
      exact ⟨a, a2, a3⟩).at (by rw [Nat.beq_refl, Nat.beq_refl]; rfl)
    rw [f (by decide)] at w
    obtain ⟨p', q', e1, e2, e3, e4, e5, e6, e7⟩ := h2 w
    refine ⟨p', q', e1.sm (fRp_sm (fun _ => rfl) rfl) (sN fun q k w => ?_), (f (by decide)).trans e2, ⟨(f (by decide)).trans e3.1, (g rfl (by decide) (by decide)).trans e3.2.1, e3.2.2⟩, ⟨(f (by decide)).trans e4.1, (g rfl (by decide) (by decide)).trans e4.2⟩, fun j hj => ?_, ?_, ?_⟩
    · unfold bC at w
      split at w
      · rw [Bool.or_eq_true] at w
        rcases w with w | w <;> (have := Nat.eq_of_beq_eq_true w; subst this; exact ⟨rfl, by decide, by decide⟩)
      · exact absurd w (by decide)
    · rw [g rfl (by decide) (by decide), f (by decide)]; exact e5 j hj
    · rw [f (by decide)]; exact e6
    · rw [f (by decide), g rfl (by decide) (by decide)]; exact e7
/-- the reference's text of a path is no one's -/
theorem RL.n75 (h : RL s N) (l : List Int32) (v : Int32) : RL s (ax_si (fWr 75 0 l N) 54 0 v) := by
  refine RL.n0 ?_ v
  obtain ⟨c, T, P, B, h1, h2⟩ := h
  refine ⟨c, T, P, B, h1.sm h1.1 (fWr_SH (by decide) _ _ h1.2.1) h1.2.2.2.2.2.2.2.2.1 (Sm.refl _ _) (fWr_sm rfl (fun _ => rfl) l 0), fun w => ?_⟩
  obtain ⟨p, q, g1, g2, g3, g4, g5, g6, g7⟩ := h2 w
  have f : ∀ {q j : Nat}, q ≠ 75 → ax_hi (fWr 75 0 l N) q j = ax_hi N q j := fun a => fWr_ne _ l a
  exact ⟨p, q, g1.sm (Sm.refl _ _) (fWr_sm rfl (fun _ => rfl) l 0), g2, ⟨g3.1, (f (by decide)).trans g3.2.1, g3.2.2⟩, ⟨g4.1, (f (by decide)).trans g4.2⟩, fun j hj => (f (by decide)).trans (g5 j hj), g6, by rw [f (show 54 ≠ 75 by decide)]; exact g7⟩
end AX107
