/-! MEMORY AS A LIST OF WHAT WAS DONE, the last first: 0 new (tag, length), 1 a number, 2 a reference -/
abbrev UO : Type := Nat × Nat × Nat × Int32 × Option Nat
def stU (u : UO) (M : ax_M) : ax_M := match u with
  | (0, t, n, _, _) => ax_new M t n
  | (1, o, k, v, _) => ax_si M o k v
  | (_, o, k, _, r) => ax_sr M o k r
def memU : List UO → ax_M → ax_M
  | [], M => M
  | u :: us, M => stU u (memU us M)
def cntU : List UO → Nat
  | [] => 26
  | (0, _, _, _, _) :: us => cntU us + 1
  | _ :: us => cntU us
def tgU : List UO → Nat → Option Nat
  | [], _ => none
  | (0, t, _, _, _) :: us, q => bif Nat.beq q (cntU us) then some t else tgU us q
  | _ :: us, q => tgU us q
def lnU : List UO → Nat → Option Nat
  | [], _ => none
  | (0, _, n, _, _) :: us, q => bif Nat.beq q (cntU us) then some n else lnU us q
  | _ :: us, q => lnU us q
def hrU : List UO → Nat → Nat → Option (Option Nat)
  | [], _, _ => none
  | (0, _, _, _, _) :: us, q, j => bif Nat.beq q (cntU us) then some none else hrU us q j
  | (1, _, _, _, _) :: us, q, j => hrU us q j
  | (_, o, k, _, r) :: us, q, j => bif Nat.beq q o && Nat.beq j k then some r else hrU us q j
def hiU : List UO → Nat → Nat → Option Int32
  | [], _, _ => none
  | (0, _, _, _, _) :: us, q, j => bif Nat.beq q (cntU us) then some 0 else hiU us q j
  | (1, o, k, v, _) :: us, q, j => bif Nat.beq q o && Nat.beq j k then some v else hiU us q j
  | _ :: us, q, j => hiU us q j
section AX116
variable {M0 : ax_M}
theorem bq_eq {a b : Nat} : Nat.beq a b = true ↔ a = b := ⟨Nat.eq_of_beq_eq_true, fun h => by rw [h]; exact Nat.beq_refl _⟩
theorem mem_n (h : ax_n M0 = 26) : ∀ us, ax_n (memU us M0) = cntU us
  | [] => h
  | (0, t, n, _, _) :: us => by show ax_n (memU us M0) + 1 = cntU us + 1; rw [mem_n h us]
  | (1, _, _, _, _) :: us => mem_n h us
  | (n + 2, _, _, _, _) :: us => mem_n h us
theorem mem_tg (h : ax_n M0 = 26) : ∀ us q, ax_tg (memU us M0) q = (tgU us q).getD (ax_tg M0 q)
  | [], q => rfl
  | (0, t, n, _, _) :: us, q => by
    show (if q = ax_n (memU us M0) then t else ax_tg (memU us M0) q) = (bif Nat.beq q (cntU us) then some t else tgU us q).getD _
    rw [mem_n h us, mem_tg h us q]
    by_cases e : q = cntU us
    · rw [if_pos e, bq_eq.mpr e]; rfl
    · rw [if_neg e, nbq e]; rfl
  | (1, _, _, _, _) :: us, q => mem_tg h us q
  | (n + 2, _, _, _, _) :: us, q => mem_tg h us q
theorem mem_ln (h : ax_n M0 = 26) : ∀ us q, ax_ln (memU us M0) q = (lnU us q).getD (ax_ln M0 q)
  | [], q => rfl
  | (0, t, n, _, _) :: us, q => by
    show (if q = ax_n (memU us M0) then n else ax_ln (memU us M0) q) = (bif Nat.beq q (cntU us) then some n else lnU us q).getD _
    rw [mem_n h us, mem_ln h us q]
    by_cases e : q = cntU us
    · rw [if_pos e, bq_eq.mpr e]; rfl
    · rw [if_neg e, nbq e]; rfl
  | (1, _, _, _, _) :: us, q => mem_ln h us q
  | (n + 2, _, _, _, _) :: us, q => mem_ln h us q
theorem mem_hr (h : ax_n M0 = 26) : ∀ us q j, ax_hr (memU us M0) q j = (hrU us q j).getD (ax_hr M0 q j)
  | [], q, j => rfl
  | (0, t, n, _, _) :: us, q, j => by
    show (if q = ax_n (memU us M0) then none else ax_hr (memU us M0) q j) = (bif Nat.beq q (cntU us) then some none else hrU us q j).getD _
    rw [mem_n h us, mem_hr h us q j]
    by_cases e : q = cntU us
    · rw [if_pos e, bq_eq.mpr e]; rfl
    · rw [if_neg e, nbq e]; rfl
  | (1, _, _, _, _) :: us, q, j => mem_hr h us q j
  | (n + 2, o, k, _, r) :: us, q, j => by
    show (if q = o ∧ j = k then r else ax_hr (memU us M0) q j) = (bif Nat.beq q o && Nat.beq j k then some r else hrU us q j).getD _
    rw [mem_hr h us q j]
    by_cases e : q = o ∧ j = k
    · rw [if_pos e, bq_eq.mpr e.1, bq_eq.mpr e.2]; rfl
    · rw [if_neg e, show (Nat.beq q o && Nat.beq j k) = false by rw [← Bool.not_eq_true, Bool.and_eq_true, bq_eq, bq_eq]; exact e]; rfl
theorem mem_hi (h : ax_n M0 = 26) : ∀ us q j, ax_hi (memU us M0) q j = (hiU us q j).getD (ax_hi M0 q j)
  | [], q, j => rfl
  | (0, t, n, _, _) :: us, q, j => by
    show (if q = ax_n (memU us M0) then 0 else ax_hi (memU us M0) q j) = (bif Nat.beq q (cntU us) then some 0 else hiU us q j).getD _
    rw [mem_n h us, mem_hi h us q j]
    by_cases e : q = cntU us
    · rw [if_pos e, bq_eq.mpr e]; rfl
    · rw [if_neg e, nbq e]; rfl
  | (1, o, k, v, _) :: us, q, j => by
    show (if q = o ∧ j = k then v else ax_hi (memU us M0) q j) = (bif Nat.beq q o && Nat.beq j k then some v else hiU us q j).getD _
    rw [mem_hi h us q j]
    by_cases e : q = o ∧ j = k
    · rw [if_pos e, bq_eq.mpr e.1, bq_eq.mpr e.2]; rfl
    · rw [if_neg e, show (Nat.beq q o && Nat.beq j k) = false by rw [← Bool.not_eq_true, Bool.and_eq_true, bq_eq, bq_eq]; exact e]; rfl
  | (n + 2, _, _, _, _) :: us, q, j => mem_hi h us q j
theorem mem_own (h : ax_n M0 = 26) {us : List UO} {q t : Nat} (e : (Nat.blt q (cntU us) && decide (tgU us q = some t)) = true) : ax_own (memU us M0) q t := by
  rw [Bool.and_eq_true, decide_eq_true_eq] at e
  refine ⟨?_, by rw [mem_tg h, e.2]; rfl⟩
  rw [mem_n h]
  exact Nat.le_of_ble_eq_true e.1
theorem mem_len (h : ax_n M0 = 26) {us : List UO} {q t : Nat} (e : lnU us q = some t) : ax_ln (memU us M0) q = t := by rw [mem_ln h, e]; rfl
theorem mem_ref (h : ax_n M0 = 26) {us : List UO} {q j : Nat} {t : Option Nat} (e : hrU us q j = some t) : ax_hr (memU us M0) q j = t := by rw [mem_hr h, e]; rfl
theorem mem_val (h : ax_n M0 = 26) {us : List UO} {q j : Nat} {t : Int32} (e : hiU us q j = some t) : ax_hi (memU us M0) q j = t := by rw [mem_hi h, e]; rfl
/-- nothing was written at q since it was made -/
def nwU : List UO → Nat → Bool
  | [], _ => false
  | (0, _, _, _, _) :: us, q => Nat.beq q (cntU us) || nwU us q
  | (1, o, _, _, _) :: us, q => !(Nat.beq q o) && nwU us q
  | _ :: us, q => nwU us q
theorem nwU_hi : ∀ (us : List UO) (q j : Nat), nwU us q = true → hiU us q j = some 0
  | [], _, _, h => absurd h (by simp [nwU])
  | (0, _, _, _, _) :: us, q, j, h => by
    show (bif Nat.beq q (cntU us) then some 0 else hiU us q j) = _
    cases e : Nat.beq q (cntU us) with
    | true => rfl
    | false =>
      have h2 : (Nat.beq q (cntU us) || nwU us q) = true := h
      rw [e, Bool.false_or] at h2
      exact nwU_hi us q j h2
  | (1, o, k, v, _) :: us, q, j, h => by
    have h2 : (!(Nat.beq q o) && nwU us q) = true := h
    rw [Bool.and_eq_true, Bool.not_eq_true'] at h2
    show (bif Nat.beq q o && Nat.beq j k then some v else hiU us q j) = _
    rw [h2.1]
    exact nwU_hi us q j h2.2
  | (n + 2, _, _, _, _) :: us, q, j, h => nwU_hi us q j h
/-- the places below 26 are as they were -/
def ge26 (us : List UO) : Bool := us.all fun u => Nat.beq u.1 0 || Nat.ble 26 u.2.1
theorem cnt26 : ∀ us : List UO, 26 ≤ cntU us
  | [] => Nat.le_refl _
  | (0, _, _, _, _) :: us => Nat.le_succ_of_le (cnt26 us)
  | (1, _, _, _, _) :: us => cnt26 us
  | (n + 2, _, _, _, _) :: us => cnt26 us
theorem ge26_none : ∀ (us : List UO), ge26 us = true → ∀ q j, q < 26 → tgU us q = none ∧ lnU us q = none ∧ hrU us q j = none ∧ hiU us q j = none
  | [], _, _, _, _ => ⟨rfl, rfl, rfl, rfl⟩
  | (0, t, n, v, r) :: us, h, q, j, hq => by
    have h2 : ge26 us = true := by unfold ge26 at h ⊢; rw [List.all_cons, Bool.and_eq_true] at h; exact h.2
    obtain ⟨a, b, c, d⟩ := ge26_none us h2 q j hq
    have e : Nat.beq q (cntU us) = false := nbq (by have := cnt26 us; omega)
    refine ⟨?_, ?_, ?_, ?_⟩
    · show (bif Nat.beq q (cntU us) then some t else tgU us q) = none; rw [e]; exact a
    · show (bif Nat.beq q (cntU us) then some n else lnU us q) = none; rw [e]; exact b
    · show (bif Nat.beq q (cntU us) then some none else hrU us q j) = none; rw [e]; exact c
    · show (bif Nat.beq q (cntU us) then some 0 else hiU us q j) = none; rw [e]; exact d
  | (1, o, k, v, r) :: us, h, q, j, hq => by
    have h2 := h
    unfold ge26 at h2
    rw [List.all_cons, Bool.and_eq_true] at h2
    obtain ⟨a, b, c, d⟩ := ge26_none us h2.2 q j hq
    have ho : 26 ≤ o := by
      have h3 := h2.1
      rw [Bool.or_eq_true] at h3
      rcases h3 with h3 | h3
      · exact absurd (show (1 : Nat) = 0 from Nat.eq_of_beq_eq_true h3) (by decide)
      · exact Nat.le_of_ble_eq_true h3
    refine ⟨a, b, c, ?_⟩
    show (bif Nat.beq q o && Nat.beq j k then some v else hiU us q j) = none
    rw [nbq (show q ≠ o by omega)]; exact d
  | (n + 2, o, k, v, r) :: us, h, q, j, hq => by
    have h2 := h
    unfold ge26 at h2
    rw [List.all_cons, Bool.and_eq_true] at h2
    obtain ⟨a, b, c, d⟩ := ge26_none us h2.2 q j hq
    have ho : 26 ≤ o := by
      have h3 := h2.1
      rw [Bool.or_eq_true] at h3
      rcases h3 with h3 | h3
      · have := Nat.eq_of_beq_eq_true h3; omega
      · exact Nat.le_of_ble_eq_true h3
    refine ⟨a, b, ?_, d⟩
    show (bif Nat.beq q o && Nat.beq j k then some r else hrU us q j) = none
    rw [nbq (show q ≠ o by omega)]; exact c
def pK (q : Nat) : Bool := Nat.blt q 26
/-- a shape of what was made, out of the constants' and a list that is decided -/
theorem mem_shp (h : ax_n M0 = 26) (hK : Shp pK M0) {us : List UO} (hg : ge26 us = true) {p : Nat → Bool} (h1 : ∀ q ∈ sh_tg, (Nat.blt q.1 26 || !(p q.1) || (Nat.blt q.1 (cntU us) && decide (tgU us q.1 = some q.2))) = true) (h2 : ∀ q ∈ sh_ln, (Nat.blt q.1 26 || !(p q.1) || decide (lnU us q.1 = some q.2)) = true) (h3 : ∀ q ∈ sh_rf, (Nat.blt q.1 26 || !(p q.1) || decide (hrU us q.1 q.2.1 = some (some q.2.2))) = true) : Shp p (memU us M0) := by
  have none := ge26_none us hg
  refine ⟨fun q hq hp => ?_, fun q hq hp => ?_, fun q hq hp => ?_, fun q hq k hk => ?_, fun q hq => ?_⟩
  · have w := h1 q hq
    rw [hp, Bool.not_true, Bool.or_false, Bool.or_eq_true] at w
    rcases w with w | w
    · have a := hK.1 q hq w
      have : q.1 < 26 := Nat.le_of_ble_eq_true w
      refine ⟨by rw [mem_n h]; have := cnt26 us; omega, ?_⟩
      rw [mem_tg h, (none q.1 0 this).1]; exact a.2
    · exact mem_own h w
  · have w := h2 q hq
    rw [hp, Bool.not_true, Bool.or_false, Bool.or_eq_true, decide_eq_true_eq] at w
    rcases w with w | w
    · have : q.1 < 26 := Nat.le_of_ble_eq_true w
      rw [mem_ln h, (none q.1 0 this).2.1]; exact hK.2.1 q hq w
    · exact mem_len h w
  · have w := h3 q hq
    rw [hp, Bool.not_true, Bool.or_false, Bool.or_eq_true, decide_eq_true_eq] at w
    rcases w with w | w
    · have : q.1 < 26 := Nat.le_of_ble_eq_true w
      rw [mem_hr h, (none q.1 q.2.1 this).2.2.1]; exact hK.2.2.1 q hq w
    · exact mem_ref h w
  · rw [mem_hi h, (none q.1 k (sh_by_lt q hq)).2.2.2]; exact hK.2.2.2.1 q hq k hk
  · rw [mem_hi h, (none q 1 (sh_cs_lt q hq)).2.2.2]; exact hK.2.2.2.2 q hq
end AX116
