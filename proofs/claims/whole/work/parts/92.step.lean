/-! a byte on both sides -/
/-- the reference's places -/
def aN (o _k : Nat) : Bool := Nat.ble 54 o && Nat.ble o 77
theorem aN_m (q k : Nat) (h : aN q k = true) : aM q k = true := by unfold aN at h; unfold aM; rw [h]; rfl
theorem aN_x : Ax aN := ⟨⟨rfl, fun _ => rfl⟩, ⟨rfl, rfl, rfl, rfl⟩, ⟨rfl, rfl⟩, fun _ => ⟨rfl, rfl, rfl, rfl⟩⟩
def StC (b : Int32) (s R : ax_M) : Prop := (¬ ax_hi s 27 10 = 0 → R = s) ∧ (ax_hi s 27 10 = 0 → ∃ N c T P B p q, Rl c T P B s N ∧ EH p q s N ∧ StD c T P B p q b s R)
section AX92
variable {c p q n k m : Nat} {T : Tb} {P : List (List Int32 × Int32 × Int32)} {B : List Int32} {s N R : ax_M} {b : Int32}
theorem fPre_sm {A : Nat → Nat → Bool} (hA : Ax A) (h7 : A 27 7 = false) : Sm A s (fPre s c b) := by
  unfold fPre
  split
  · exact Sm.si (by rw [h7]; rfl)
  · exact hA.away c _
theorem StD.sm (h : StD c T P B p q b s R) : Sm aN s R := by
  have f : Sm aN s (sFr s q b) := sFr_sm (fun _ => rfl) rfl
  unfold StD at h
  split at h
  · rw [h]; exact fPre_sm aN_x rfl
  · split at h
    · rw [h]; exact f
    · split at h
      · rw [h]; exact f.trans (aN_x.away c _)
      · split at h
        · rw [h]; exact f
        · obtain ⟨z, a, n, R1, -, -, hR, rfl⟩ := h
          exact (((f.trans (hR.sm.1.mono aN_m)).trans (fPmp_sm aN_x R1)).trans (Sm.si rfl)).trans (Sm.si rfl)
theorem StC.sm (h : StC b s R) : Sm aN s R := by
  by_cases aw : ax_hi s 27 10 = 0
  · obtain ⟨N, c, T, P, B, p, q, -, -, h3⟩ := h.2 aw
    exact h3.sm
  · rw [h.1 aw]; exact Sm.refl _ _
theorem st_c (d : Nat) (h : RL s N) (hn : n < 256) (hB : Bd k (m + 1) s) : ∃ k1 R, k1 ≤ k ∧ StC (nI n) s R ∧ ax_calls ax_P (d + 10) 13 (700 * k1) (9100 * k1) [.inr (.inl (some 27)), .inl (nI n)] s (.inl none) R ∧ Bd (k - k1) m R := by
  obtain ⟨c, T, P, B, h1, h2⟩ := h
  by_cases aw : ax_hi s 27 10 = 0
  rotate_left
  · exact ⟨0, s, Nat.zero_le _, ⟨fun _ => rfl, fun w => absurd w aw⟩, c_rc_away d h1.1 aw _, Or.inl aw⟩
  · obtain ⟨p, q, g⟩ := h2 aw
    have h33 := h1.2.2.1.1
    have hc6 : c ≤ 906 := h1.2.2.2.2.2.2.2.2.2
    have h7 := g.2.2.1.1
    have p4 := g.2.2.1.2.2
    have h30 := g.2.2.2.1.1
    have hq := g.q_lt
    have fa : ∀ {Z : ax_M} {v : Int32} {k' m' : Nat}, v ≠ 0 → Bd k' m' (fAway Z c v) := fun {Z v k' m'} hv => Or.inl (fun w => hv ((fAway_v Z c v).symm.trans w))
    rcases hB with w | ⟨rfl, ⟨c', c3, c33⟩, m4⟩ | ⟨rfl, w7, q', q4, w30⟩
    · exact absurd aw w
    · have : c' = c := nI_inj (by omega) (by omega) (c33.symm.trans h33)
      subst this
      by_cases hp : p < 4
      · refine ⟨0, fPre s c' (nI n), by omega, ⟨fun w => absurd aw w, fun _ => ⟨N, c', T, P, B, p, q, h1, g, by unfold StD; rw [if_pos hp]⟩⟩, c_rc_pre d h1.1 h33 (by omega) aw hp h7 _, ?_⟩
        unfold fPre
        split
        · exact Or.inr (Or.inl ⟨rfl, ⟨c', c3, (wm_h1n rfl).trans h33⟩, by omega⟩)
        · exact fa (by decide)
      · have : p = 4 := by omega
        subst this
        by_cases fe : ax_hi (sFr s q (nI n)) 29 0 = nI (q + 1 - 4) ∧ 4 ≤ q + 1
        · obtain ⟨o, R, ⟨r1, r2⟩, r3⟩ := c_rc_4 d (k1 := 1) h1 g aw hn (fun _ _ => ⟨rfl, c3⟩)
          subst r1
          refine ⟨1, R, by omega, ⟨fun w => absurd aw w, fun _ => ⟨N, c', T, P, B, 4, q, h1, g, r2⟩⟩, r3, ?_⟩
          unfold StD at r2
          have Lc : (ax_hi (sFr s q (nI n)) 29 0).toNatClampNeg = q + 1 - 4 := by rw [fe.1]; exact nI_clamp (by omega)
          rw [if_neg (by decide), if_neg (by omega), Lc] at r2
          split at r2
          · rw [r2]; exact fa (by decide)
          · split at r2
            · omega
            · obtain ⟨z, a, n', R1, -, -, hR, rfl⟩ := r2
              by_cases aw2 : ax_hi (ax_si (ax_si (fPmp R1) 27 8 1) 28 1 0) 27 10 = 0
              · refine Or.inr (Or.inr ⟨rfl, ?_, 0, by omega, wm_h1s⟩)
                rw [wm_h1n rfl, wm_h1k rfl, (fPmp_sm aM_x R1).at rfl, hR.sm.1.at rfl]
                unfold sFr; rw [wm_h1n rfl, wm_h1n rfl]; exact h7
              · exact Or.inl aw2
        · obtain ⟨o, R, ⟨r1, r2⟩, r3⟩ := c_rc_4 d (k1 := 0) h1 g aw hn (fun w1 w2 => absurd ⟨w1, w2⟩ fe)
          subst r1
          refine ⟨0, R, by omega, ⟨fun w => absurd aw w, fun _ => ⟨N, c', T, P, B, 4, q, h1, g, r2⟩⟩, r3, ?_⟩
          have f33 : ax_hi (sFr s q (nI n)) 33 1 = nI c' := by unfold sFr; rw [wm_h1n rfl, wm_h1n rfl]; exact h33
          have same : Bd (1 - 0) m (sFr s q (nI n)) := Or.inr (Or.inl ⟨rfl, ⟨c', c3, f33⟩, by omega⟩)
          obtain ⟨L, L1, L2, L3⟩ := EH.len h1 g hn
          have Lc : (ax_hi (sFr s q (nI n)) 29 0).toNatClampNeg = L := by rw [L2]; exact nI_clamp (by omega)
          unfold StD at r2
          rw [if_neg (by decide), Lc] at r2
          split at r2
          · rw [r2]; exact same
          · split at r2
            · rw [r2]; exact fa (by decide)
            · split at r2
              · rw [r2]; exact same
              · refine absurd ⟨?_, by omega⟩ fe
                rw [L2]; congr 1; omega
    · have : p = 4 := nI_inj (by omega) (by omega) (h7.symm.trans w7)
      subst this
      have : q' = q := nI_inj (by omega) (by omega) (w30.symm.trans h30)
      subst this
      obtain ⟨o, R, ⟨r1, r2⟩, r3⟩ := c_rc_4 d (k1 := 0) h1 g aw hn (fun w1 w2 => by omega)
      subst r1
      refine ⟨0, R, by omega, ⟨fun w => absurd aw w, fun _ => ⟨N, c, T, P, B, 4, q', h1, g, r2⟩⟩, r3, ?_⟩
      unfold StD at r2
      rw [if_neg (by decide), if_pos (by omega)] at r2
      rw [r2]
      exact Or.inr (Or.inr ⟨rfl, by unfold sFr; rw [wm_h1n rfl, wm_h1n rfl]; exact h7, q' + 1, by omega, sFr_30⟩)
theorem st_r (d : Nat) (h : RL s N) (hn : n < 256) (hB : Bd k (m + 1) s) (hS : StC (nI n) s R) (aw : ax_hi s 27 10 = 0) : ∃ N2, Rc0 N N2 ∧ RL R N2 ∧ ax_calls ax_P (d + 11) 164 0 0 [.inr (.inl (some 54)), .inl (nI n)] N (.inl none) N2 := by
  obtain ⟨c, T, P, B, h1, h2⟩ := h
  obtain ⟨p, q, g⟩ := h2 aw
  obtain ⟨N', c', T', P', B', p', q', h1', g', hD⟩ := hS.2 aw
  obtain ⟨rfl, rfl, rfl, rfl⟩ := h1.inj h1'
  have : p' = p := nI_inj (by have := g'.2.2.1.2.2; omega) (by have := g.2.2.1.2.2; omega) (g'.2.2.1.1.symm.trans g.2.2.1.1)
  subst this
  have : q' = q := nI_inj (by have := g'.q_lt; omega) (by have := g.q_lt; omega) (g'.2.2.2.1.1.symm.trans g.2.2.2.1.1)
  subst this
  have hc6 : c ≤ 906 := h1.2.2.2.2.2.2.2.2.2
  have p4 := g.2.2.1.2.2
  have hr : p' < 4 ∨ 4 ≤ q' + 1 → c ≤ 300 := fun w => by
    rcases hB with x | ⟨-, ⟨c2, c3, c33⟩, -⟩ | ⟨-, w7, q2, q4, w30⟩
    · exact absurd aw x
    · have : c2 = c := nI_inj (by omega) (by omega) (c33.symm.trans h1.2.2.1.1)
      omega
    · have e1 : p' = 4 := nI_inj (by omega) (by omega) (g.2.2.1.1.symm.trans w7)
      have e2 : q2 = q' := nI_inj (by omega) (by have := g.q_lt; omega) (w30.symm.trans g.2.2.2.1.1)
      omega
  by_cases hp : p' < 4
  · unfold StD at hD
    rw [if_pos hp] at hD
    subst hD
    obtain ⟨o, N2, ⟨r1, r2, r3⟩, r4⟩ := r_tk_pre d h1 g hp (hr (Or.inl hp)) (nI n)
    subst r1
    exact ⟨N2, r2, r3, r4⟩
  · have : p' = 4 := by omega
    subst this
    obtain ⟨o, N2, ⟨r1, r2, r3⟩, r4⟩ := r_tk_4 d h1 g aw hn (fun w => hr (Or.inr w)) hD
    subst r1
    exact ⟨N2, r2, r3, r4⟩
theorem RL.sh (h : RL s N) : SH s ∧ SH N := by
  obtain ⟨c, T, P, B, h1, -⟩ := h
  exact ⟨h1.1, h1.2.1⟩
theorem RL.e48 (h : RL s N) : ax_hi N 54 48 = ax_hi s 27 10 := by
  obtain ⟨c, T, P, B, h1, -⟩ := h
  exact h1.2.2.2.1.2.1
/-- the class takes these bytes -/
def ChC (d : Nat) : List Int32 → Nat → ax_M → ax_M → Prop
  | [], _, s, R => R = s
  | b :: l, k, s, R => SH s ∧ ∃ k1 R1, k1 ≤ k ∧ ax_calls ax_P d 13 (700 * k1) (9100 * k1) [.inr (.inl (some 27)), .inl b] s (.inl none) R1 ∧ ChC d l (k - k1) R1 R
/-- the reference takes them -/
def ChR (d : Nat) : List Int32 → ax_M → ax_M → Prop
  | [], N, N2 => N2 = N
  | b :: l, N, N2 => SH N ∧ ∃ N1, (ax_hi N 54 48 = 0 ∧ ax_calls ax_P d 164 0 0 [.inr (.inl (some 54)), .inl b] N (.inl none) N1 ∨ ¬ ax_hi N 54 48 = 0 ∧ N1 = N) ∧ ChR d l N1 N2
theorem ch_all (d e : Nat) : ∀ (l : List Int32) {k : Nat} {s N : ax_M}, RL s N → (∀ x ∈ l, ∃ n, n < 256 ∧ x = nI n) → Bd k l.length s → ∃ R, ChC (d + 10) l k s R ∧ Sm aN s R ∧ ∀ N', RL s N' → ∃ N2, ChR (e + 11) l N' N2 ∧ RL R N2 ∧ Rc0 N' N2
  | [], k, s, N, h, _, _ => ⟨s, rfl, Sm.refl _ _, fun N' h' => ⟨N', rfl, h', Rc0.refl _⟩⟩
  | x :: l, k, s, N, h, hx, hB => by
    obtain ⟨n, hn, rfl⟩ := hx x (List.mem_cons_self ..)
    have hB' : Bd k (l.length + 1) s := hB
    obtain ⟨k1, R1, k1k, hS, hcall, hB1⟩ := st_c d h hn hB'
    have one : ∀ N', RL s N' → ∃ N1, (ax_hi N' 54 48 = 0 ∧ ax_calls ax_P (e + 11) 164 0 0 [.inr (.inl (some 54)), .inl (nI n)] N' (.inl none) N1 ∨ ¬ ax_hi N' 54 48 = 0 ∧ N1 = N') ∧ RL R1 N1 ∧ Rc0 N' N1 := fun N' h' => by
      rw [h'.e48]
      by_cases aw : ax_hi s 27 10 = 0
      · obtain ⟨N1, a1, a2, a3⟩ := st_r e h' hn hB' hS aw
        exact ⟨N1, Or.inl ⟨aw, a3⟩, a2, a1⟩
      · refine ⟨N', Or.inr ⟨aw, rfl⟩, ?_, Rc0.refl _⟩
        rw [hS.1 aw]; exact h'
    obtain ⟨N1, -, hR1, -⟩ := one N h
    obtain ⟨R, c1, c2, c3⟩ := ch_all d e l hR1 (fun x hx' => hx x (List.mem_cons_of_mem _ hx')) hB1
    refine ⟨R, ⟨h.sh.1, k1, R1, k1k, hcall, c1⟩, hS.sm.trans c2, fun N' h' => ?_⟩
    obtain ⟨N1', o1, o2, o3⟩ := one N' h'
    obtain ⟨N2, e1, e2, e3⟩ := c3 N1' o2
    exact ⟨N2, ⟨h'.sh.2, N1', o1, e1⟩, e2, o3.trans e3⟩
end AX92
