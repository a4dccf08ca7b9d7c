/-! each call of the law -/
theorem RL.sl {A B : ax_M} (h : RL A B) (o k : Nat) (v : Int64) : RL (ax_sl A o k v) (ax_sl B o k v) := h
theorem fWr_sl (o a k : Nat) (v : Int64) : ∀ (l : List Int32) (i : Nat) (M : ax_M), fWr o i l (ax_sl M a k v) = ax_sl (fWr o i l M) a k v
  | [], _, _ => rfl
  | x :: l, i, M => fWr_sl o a k v l (i + 1) (ax_si M o i x)
theorem gPg_sl (M : ax_M) (a k n : Nat) (v : Int64) (p : List Int32) (z b : Int32) : gPg (ax_sl M a k v) n p z b = ax_sl (gPg M n p z b) a k v := by
  unfold gPg
  rw [fWr_sl]
  show ax_si (ax_si (ax_si (fWr 56 (8 * n) p (ax_sl (ax_si (ax_si (fWr 75 0 p M) 54 0 0) 55 n (nI p.length)) a k v)) 57 n z) 58 n b) 54 1 (nI (n + 1)) = _
  rw [fWr_sl]
  rfl
theorem hl_sl (M : ax_M) (v : Int64) : ax_hl (ax_sl M 77 0 v) 77 0 = v := by
  show ax_u M.2.2.2.2.1 77 0 v 77 0 = v
  unfold ax_u
  simp
theorem sl_bl (M : ax_M) (v : Int64) : Bl (ax_n M) M (ax_sl M 77 0 v) := ⟨Nat.le_refl _, Nat.le_refl _, fun _ _ => ⟨⟨rfl, rfl⟩, fun _ => ⟨rfl, rfl⟩⟩⟩
section AX112
variable {l : Launch} {G : ax_G} {sp L : Nat} {M R N2 : ax_M} {x y z w b : Int32}
theorem rc_26 (h : SH M) : ax_rc M 13 (some (.inr (.inl (some 26)))) := ⟨(so_26 h).1, Or.inl (so_26 h).2⟩
theorem Inv.n0 (h : Inv sp L M) (v : Int32) : Inv sp L (ax_si M 54 0 v) ∧ Kp M (ax_si M 54 0 v) := by
  have g : Rc0 M (ax_si M 54 0 v) := (Rc0.refl M).si rfl rfl
  exact ⟨h.nx ((h.1.n0 v).one g) g.kp, g.kp⟩
theorem Inv.bl (h : Inv sp L M) (g : Bl (ax_n M) M R) : Inv sp L R ∧ Kp M R := ⟨h.nx (h.1.bl g) (g.kp h.sh.1), g.kp h.sh.1⟩
theorem op_waiting (h : Inv sp L M) : OpA l G sp L 103 167 [] M := by
  obtain ⟨c, T, P, B, h1, -⟩ := h.1
  obtain ⟨i1, i2⟩ := h.n0 0
  have e : ax_hi M 54 53 = ax_hi M 33 1 := h1.2.2.1.2.1.trans h1.2.2.1.1.symm
  refine ⟨ax_hi M 33 1, M, _, 0, 0, by omega, by omega, lC_c (by decide) (c_waiting 18 h.sh), h.sh, Kp.refl _, lC_c (by decide) ?_, i1, i2⟩
  rw [← e]; exact r_waiting 19 h.sh
theorem op_away (h : Inv sp L M) : OpA l G sp L 106 170 [] M := by
  obtain ⟨i1, i2⟩ := h.n0 0
  refine ⟨ax_hi M 27 10, M, _, 0, 0, by omega, by omega, lC_c (by decide) (c_away_ 19 h.sh), h.sh, Kp.refl _, lC_c (by decide) ?_, i1, i2⟩
  rw [← h.1.e48]; exact r_away_ 19 h.sh
theorem op_about (h : Inv sp L M) (x : Int32) : OpA l G sp L 107 171 [.inl x] M := by
  obtain ⟨c, T, P, B, h1, -⟩ := h.1
  obtain ⟨i1, i2⟩ := h.n0 0
  rcases i32_c x 7 (by decide) with w | ⟨t, t7, rfl⟩
  · exact ⟨-1, M, _, 0, 0, by omega, by omega, lC_c (by decide) (c_about_no 18 M w), h.sh, Kp.refl _, lC_c (by decide) (r_about_no 17 h.sh w), i1, i2⟩
  · exact ⟨vAb M t, M, _, 0, 0, by omega, by omega, lC_c (by decide) (c_about 18 h.sh t7), h.sh, Kp.refl _, lC_c (by decide) (r_about 17 h1 t7), i1, i2⟩
theorem op_restart (h : Inv sp L M) : OpV l G sp L 102 166 [] M := by
  have hR : SH (fBegin M) := fSay_SH (fBegin1_SH h.sh) 0 _
  have sm : Sm aN M (fBegin M) := (fBegin_sm M).mono fun q k w => by unfold aBg; rw [w]; simp
  have r1 : RL M (ax_si (fBegin M) 54 0 0) := (h.1.nx hR sm).n0 0
  have r2 := r1.begin
  have g : Rc0 (fBegin M) (gBegin (ax_si (fBegin M) 54 0 0)) := ((Rc0.refl _).si rfl rfl).trans (gBegin_rc _)
  have k1 := sm.kp h.sh.1
  exact ⟨fBegin M, _, 0, 0, by omega, by omega, lC_c (by decide) (c_restart 16 h.sh), hR, k1, lC_c (by decide) (r_restart 16 hR), h.nx (r2.one g) (k1.trans g.kp), k1.trans g.kp⟩
theorem op_take (h : Inv sp L M) (x : Int32) : OpV l G sp L 105 169 [.inl x] M := by
  obtain ⟨c, T, P, B, h1, -⟩ := h.1
  have hc := h1.2.2.1.1
  have hc6 : c ≤ 906 := h1.2.2.2.2.2.2.2.2.2
  have hk := tkN_le x c
  have hR : SH (fTk M c (tkN x c)) := by unfold fTk; exact (cp_SH h.sh).si (by decide)
  have sm : Sm aN M (fTk M c (tkN x c)) := fTk_sm rfl (fun _ => rfl)
  have r1 : RL M (fTk M c (tkN x c)) := h.1.nx hR sm
  have e53 : ax_hi (fTk M c (tkN x c)) 54 53 = nI c := (sm.at rfl).trans h1.2.2.1.2.1
  obtain ⟨o, N2, hq, hcall⟩ := r_take 19 hR e53 (by omega) x
  have ho : o = .inl none := hq.1
  subst ho
  have r2 := r1.take hc hk (by omega) hq
  have g : Rc0 (fTk M c (tkN x c)) N2 := hq.2.2.1
  have k1 := sm.kp h.sh.1
  exact ⟨_, N2, 0, 0, by omega, by omega, lC_c (by decide) (c_take 18 h.sh hc (by omega) x), hR, k1, lC_c (by decide) hcall, h.nx (r2.one g) (k1.trans g.kp), k1.trans g.kp⟩
theorem op_feed (h : Inv sp L M) (x y : Int32) : OpA l G sp L 101 165 [.inl x, .inl y] M := by
  obtain ⟨c, T, P, B, h1, h2⟩ := h.1
  have hc := h1.2.2.1.1
  have hc6 : c ≤ 906 := h1.2.2.2.2.2.2.2.2.2
  have no : ¬ (1 ≤ y ∧ y ≤ 4 ∧ ax_hi M 33 1 ≤ 300) → OpA l G sp L 101 165 [.inl x, .inl y] M := fun w => by
    obtain ⟨i1, i2⟩ := h.n0 0
    refine ⟨0, M, _, 0, 0, by omega, by omega, lC_c (by decide) (c_feed_no 18 h.sh w), h.sh, Kp.refl _, lC_c (by decide) (r_feed_no 18 h.sh ?_), i1, i2⟩
    rw [h1.2.2.1.2.1, ← hc]; exact w
  by_cases w : 1 ≤ y ∧ y ≤ 4 ∧ ax_hi M 33 1 ≤ 300
  rotate_left
  · exact no w
  · obtain ⟨w1, w2, w3⟩ := w
    rcases i32_c y 4 (by decide) with q | ⟨m, m4, rfl⟩
    · rw [Int32.le_iff_toInt_le, toI1] at w1
      rw [Int32.le_iff_toInt_le, show (4 : Int32).toInt = 4 by decide] at w2
      omega
    · have m1 : 1 ≤ m := by
        rw [Int32.le_iff_toInt_le, toI1, nI_int (by omega)] at w1
        omega
      have c3 : c ≤ 300 := by
        rw [hc, Int32.le_iff_toInt_le, nI_int (by omega), show (300 : Int32).toInt = 300 by decide] at w3
        omega
      obtain ⟨R, r1, r2, r3⟩ := ch_all 9 8 (fl x m) (k := 1) h.1 (fl_by x m) (Or.inr (Or.inl ⟨rfl, ⟨c, c3, hc⟩, by rw [fl_len]; exact m4⟩))
      obtain ⟨_, -, v2, -⟩ := r3 M h.1
      have hR : SH R := v2.sh.1
      have r4 : RL M (ax_si R 54 0 0) := (h.1.nx hR r2).n0 0
      obtain ⟨N2, a1, a2, a3⟩ := r3 _ r4
      have g : Rc0 R N2 := ((Rc0.refl _).si rfl rfl).trans a3
      have e53 : ax_hi R 54 53 = nI c := (r2.at rfl).trans h1.2.2.1.2.1
      have k1 := r2.kp h.sh.1
      exact ⟨1, R, N2, 700, 9100, by omega, by omega, lC_c (by decide) (c_feed 18 h.sh hc c3 ⟨m1, m4⟩ r1), hR, k1, lC_c (by decide) (r_feed 18 hR e53 c3 ⟨m1, m4⟩ a1), h.nx (a2.one g) (k1.trans g.kp), k1.trans g.kp⟩
theorem op_out (hl : l.stackTraces = false) (hG : ax_Gall G) (h : Inv sp L M) (x : Int32) : OpH l G sp L 301 168 [.inl x] M := by
  obtain ⟨c, T, P, B, h1, -⟩ := h.1
  have hc := h1.2.2.1.1
  have hc6 : c ≤ 906 := h1.2.2.2.2.2.2.2.2.2
  have no : ¬ (0 ≤ x ∧ x < nI c) → OpH l G sp L 301 168 [.inl x] M := fun w => by
    have g : Bl (ax_n M) M (ax_new M 400 0) := (Bl.refl (Nat.le_refl _)).new
    obtain ⟨j1, j2⟩ := h.bl g
    obtain ⟨i1, i2⟩ := j1.n0 1
    have e53 : ax_hi (ax_new M 400 0) 54 53 = nI c := (g.hi (by have := h.sh.1; omega) 53).trans h1.2.2.1.2.1
    exact ⟨1, 0, ax_new M 400 0, _, 1, 6, by omega, by omega, lC_h (by decide) rfl (hx_out_2 hl hG (d := 13) x (rc_26 h.sh) (c_out_no 17 h.sh (by rw [hc]; exact w))), j1.sh, j2, lC_c (by decide) (r_out_no 18 j1.sh e53 (by omega) w), i1, j2.trans i2, wm_h1s, fun q => absurd q t_10⟩
  by_cases w : 0 ≤ x ∧ x < nI c
  rotate_left
  · exact no w
  · have hx : x = nI x.toInt.toNat := by
      have w1 := w.1
      have w2 := w.2
      rw [Int32.le_iff_toInt_le, toI0] at w1
      rw [Int32.lt_iff_toInt_lt, nI_int (by omega)] at w2
      apply Int32.toInt_inj.mp
      rw [nI_int (by omega)]; omega
    have hk : x.toInt.toNat < c := by
      have w2 := w.2
      rw [Int32.lt_iff_toInt_lt, nI_int (by omega)] at w2
      have w1 := w.1
      rw [Int32.le_iff_toInt_le, toI0] at w1
      omega
    rw [hx]
    generalize x.toInt.toNat = k at hk
    have g := sl_bl M (ax_hi M 34 k).toInt64
    obtain ⟨j1, j2⟩ := h.bl g
    obtain ⟨i1, i2⟩ := j1.n0 0
    have e : ax_hi M 76 k = ax_hi M 34 k := (h1.2.2.1.2.2 k hk).symm
    have hr := r_out 18 j1.sh (show ax_hi (ax_sl M 77 0 (ax_hi M 34 k).toInt64) 54 53 = nI c from h1.2.2.1.2.1) (by omega) hk
    rw [show ax_hi (ax_sl M 77 0 (ax_hi M 34 k).toInt64) 76 k = ax_hi M 34 k from e] at hr
    exact ⟨0, ax_hi M 34 k, _, _, 0, 0, by omega, by omega, lC_h (by decide) rfl (hr_out hG (d := 19) h.sh h.sh (c_out 17 h.sh hc (by omega) hk)), j1.sh, j2, lC_c (by decide) hr, i1, j2.trans i2, wm_h1s, fun _ => hl_sl M _⟩
theorem op_stream (hl : l.stackTraces = false) (hG : ax_Gall G) (h : Inv sp L M) (x y : Int32) : OpH l G sp L 302 172 [.inl x, .inl y] M := by
  have no : fFind M x = none ∨ y.toInt < 0 ∨ 3 < y.toInt → OpH l G sp L 302 172 [.inl x, .inl y] M := fun w => by
    have g : Bl (ax_n M) M (ax_new M 400 0) := (Bl.refl (Nat.le_refl _)).new
    obtain ⟨j1, j2⟩ := h.bl g
    obtain ⟨i1, i2⟩ := j1.n0 1
    obtain ⟨c, T, P, B, h1, -⟩ := j1.1
    have ff : fFind (ax_new M 400 0) x = fFind M x := fFind_c (fun k j hk => g.hi (by have := h.sh.1; omega) j) x
    exact ⟨1, 0, ax_new M 400 0, _, 1, 6, by omega, by omega, lC_h (by decide) rfl (hx_stream_2 hl hG (d := 13) x y (rc_26 h.sh) (c_stream_no 17 h.sh w)), j1.sh, j2, lC_c (by decide) (r_stream_no 18 h1 (by rw [ff]; exact w)), i1, j2.trans i2, wm_h1s, fun q => absurd q t_10⟩
  cases hf : fFind M x with
  | none => exact no (Or.inl hf)
  | some o =>
    rcases i32_c y 3 (by decide) with w | ⟨t, t3, rfl⟩
    · exact no (Or.inr w)
    · obtain ⟨k, hk, rfl, -⟩ := fFind_row hf
      have g := sl_bl M (vSt M (50 + k) t).toInt64
      obtain ⟨j1, j2⟩ := h.bl g
      obtain ⟨i1, i2⟩ := j1.n0 0
      obtain ⟨c, T, P, B, h1, -⟩ := j1.1
      have hr := r_stream 18 h1 (show fFind (ax_sl M 77 0 (vSt M (50 + k) t).toInt64) x = some (50 + k) from hf) hk t3
      exact ⟨0, vSt M (50 + k) t, _, _, 0, 0, by omega, by omega, lC_h (by decide) rfl (hr_stream hG (d := 19) h.sh h.sh (c_stream 17 h.sh hf hk t3)), j1.sh, j2, lC_c (by decide) hr, i1, j2.trans i2, wm_h1s, fun _ => hl_sl M _⟩
theorem op_entry (hl : l.stackTraces = false) (hG : ax_Gall G) (h : Inv sp L M) (x y w : Int32) : OpH l G sp L 303 173 [.inl x, .inl y, .inl w] M := by
  obtain ⟨c, T, P, B, h1, -⟩ := h.1
  obtain ⟨zz, z1, z2⟩ := h1.2.2.2.2.2.1.ct
  obtain ⟨o, R, hE, hcall⟩ := c_entry 14 h.sh z1 x y w
  unfold EnC at hE
  cases hv : enV T x y w with
  | none =>
    rw [hv] at hE
    obtain ⟨rfl, rfl⟩ := hE
    have g : Bl (ax_n M) M (ax_new M 400 0) := (Bl.refl (Nat.le_refl _)).new
    obtain ⟨j1, j2⟩ := h.bl g
    obtain ⟨i1, i2⟩ := j1.n0 1
    obtain ⟨c', T', P', B', h1', -⟩ := j1.1
    obtain ⟨z', y1, y2⟩ := h1'.2.2.2.2.2.1.ct
    have eT : T' = T := by
      have q1 := z1.sm (g.sm h.sh.1 (A := aT) (fun q k w => by unfold aT at w; rw [Bool.or_eq_true] at w; rcases w with w | w <;> (have := Nat.eq_of_beq_eq_true w; omega))) (fun _ => rfl) (fun _ => rfl)
      exact (y1.inj q1).1
    subst eT
    obtain ⟨o2, N2, hE2, hcall2⟩ := r_entry 18 j1.sh y2 x y w
    unfold EnR at hE2
    rw [hv] at hE2
    obtain ⟨rfl, rfl⟩ := hE2
    exact ⟨1, 0, ax_new M 400 0, _, 1, 6, by omega, by omega, lC_h (by decide) rfl (hx_entry_2 hl hG (d := 13) x y w (rc_26 h.sh) hcall), j1.sh, j2, lC_c (by decide) hcall2, i1, j2.trans i2, wm_h1s, fun q => absurd q t_10⟩
  | some v =>
    rw [hv] at hE
    obtain ⟨rfl, rfl⟩ := hE
    have g := sl_bl R v.toInt64
    obtain ⟨j1, j2⟩ := h.bl g
    obtain ⟨i1, i2⟩ := j1.n0 0
    obtain ⟨o2, N2, hE2, hcall2⟩ := r_entry 18 j1.sh (show RTb T zz (ax_sl R 77 0 v.toInt64) from z2) x y w
    unfold EnR at hE2
    rw [hv] at hE2
    obtain ⟨rfl, rfl⟩ := hE2
    exact ⟨0, v, _, _, 1, 6, by omega, by omega, lC_h (by decide) rfl (hr_entry hG (d := 19) h.sh h.sh hcall), j1.sh, j2, lC_c (by decide) hcall2, i1, j2.trans i2, wm_h1s, fun _ => hl_sl R _⟩
theorem op_page (hl : l.stackTraces = false) (hG : ax_Gall G) (h : Inv sp L M) (x y z b : Int32) : OpH l G sp L 300 122 [.inl x, .inl y, .inl z, .inl b] M := by
  obtain ⟨c, T, P, B, h1, -⟩ := h.1
  have hEP := h1.2.2.2.2.2.2.1
  have h78 := h.sh.1
  obtain ⟨o, R, hC, hcall⟩ := c_page 11 h.sh hEP x y z b
  have bad : ∀ {k : Nat} {kk : Int32}, o = .inr k → kk ≠ 0 → Bl (ax_n M) M R → (ax_calls ax_P 19 100 5 46 [.inr (.inl (some 26)), .inl x, .inl y, .inl z, .inl b] M (.inr k) R → lawC l G 20 300 5 46 [.inr (.inl (some 26)), .inl x, .inl y, .inl z, .inl b, .inr (.inl (some 77))] M (.inl (some (.inl kk))) R) → (∀ N2 : ax_M, ∀ o2, PgR P x y z b R o2 N2 → o2 = .inl (some (.inl 0)) ∧ Inv sp L N2 ∧ Kp R N2 ∧ ax_hi N2 54 0 = kk) → OpH l G sp L 300 122 [.inl x, .inl y, .inl z, .inl b] M := fun {k kk} ho hk g hx hr => by
    subst ho
    obtain ⟨j1, j2⟩ := h.bl g
    have E2 : EP P R R := hEP.sm (g.sm h78 fun q k w => by unfold aP at w; rw [Bool.or_eq_true] at w; rcases w with w | w <;> (have := Nat.eq_of_beq_eq_true w; omega)) (g.sm h78 fun q k w => by unfold bP at w; split at w <;> first | omega | exact absurd w (by decide))
    obtain ⟨o2, N2, hE2, hcall2⟩ := r_page 15 j1.sh E2 x y z b
    obtain ⟨e1, e2, e3, e4⟩ := hr N2 o2 hE2
    subst e1
    exact ⟨kk, 0, R, N2, 5, 46, by omega, by omega, hx hcall, j1.sh, j2, lC_c (by decide) hcall2, e2, j2.trans e3, e4, fun q => absurd q hk⟩
  have inv75 : Bl (ax_n M) M R → ∀ (p : List Int32) (v : Int32), Inv sp L (ax_si (fWr 75 0 p R) 54 0 v) ∧ Kp R (ax_si (fWr 75 0 p R) 54 0 v) := fun g p v => by
    obtain ⟨j1, j2⟩ := h.bl g
    have rc : Rc0 R (ax_si (fWr 75 0 p R) 54 0 v) := (fWr_r0 (by decide) (by decide) p 0 (Rc0.refl R)).si rfl rfl
    exact ⟨j1.nx ((j1.1.n75 p v).one rc) rc.kp, rc.kp⟩
  cases ok : okPg x y z b with
  | false =>
    obtain ⟨ho, g⟩ := hC.1 ok
    refine bad ho t_10 g (fun hc => lC_h (by decide) rfl (hx_page_0 hl hG (d := 13) x y z b (rc_26 h.sh) hc)) (fun N2 o2 hE2 => ?_)
    obtain ⟨e1, e2⟩ := hE2.1 ok
    obtain ⟨j1, j2⟩ := h.bl g
    obtain ⟨i1, i2⟩ := j1.n0 1
    rw [e2]
    exact ⟨e1, i1, i2, wm_h1s⟩
  | true =>
    have hC := hC.2 ok
    cases hf : pg P (pth x y) with
    | some i =>
      obtain ⟨ho, g⟩ := hC.1 i hf
      refine bad ho t_10 g (fun hc => lC_h (by decide) rfl (hx_page_0 hl hG (d := 13) x y z b (rc_26 h.sh) hc)) (fun N2 o2 hE2 => ?_)
      obtain ⟨e1, e2⟩ := (hE2.2 ok).1 i hf
      obtain ⟨i1, i2⟩ := inv75 g (pth x y) 1
      rw [e2]
      exact ⟨e1, i1, i2, wm_h1s⟩
    | none =>
      have hC := hC.2 hf
      by_cases p8 : P.length = 8
      · obtain ⟨ho, g⟩ := hC.1 p8
        refine bad (kk := 2) ho (by decide) g (fun hc => lC_h (by decide) rfl (hx_page_1 hl hG (d := 13) x y z b (rc_26 h.sh) hc)) (fun N2 o2 hE2 => ?_)
        obtain ⟨e1, e2⟩ := ((hE2.2 ok).2 hf).1 p8
        obtain ⟨i1, i2⟩ := inv75 g (pth x y) 2
        rw [e2]
        exact ⟨e1, i1, i2, wm_h1s⟩
      · obtain ⟨ho, s1, so, po, g, hSt, hpo, hR⟩ := hC.2 p8
        subst ho
        have hR : R = fRp s1 P.length po := hR
        subst hR
        have hP8 := hEP.1
        have hs1 : SH s1 := g.sh h78 h.sh
        have hRs : SH (fRp s1 P.length po) := by unfold fRp; exact (hs1.sr (rf_28 _)).si (by decide)
        obtain ⟨j1, j2⟩ := h.bl g
        have E1 : EP P s1 s1 := hEP.sm (g.sm h78 fun q k w => by unfold aP at w; rw [Bool.or_eq_true] at w; rcases w with w | w <;> (have := Nat.eq_of_beq_eq_true w; omega)) (g.sm h78 fun q k w => by unfold bP at w; split at w <;> first | omega | exact absurd w (by decide))
        have hz : ∃ n, n ≤ 60 ∧ z = nI n := by
          unfold okPg at ok
          simp only [Bool.and_eq_true, decide_eq_true_eq] at ok
          have q := ok.1.2
          rw [rOut_v] at q
          split at q
          · rename_i q2
            rw [toI0, show (60 : Int32).toInt = 60 by decide] at q2
            refine ⟨z.toInt.toNat, by omega, ?_⟩
            apply Int32.toInt_inj.mp
            rw [nI_int (by omega)]; omega
          · exact absurd q t_10
        have p9 : (pth x y).length ≤ 8 := by
          unfold okPg isP at ok
          simp only [Bool.and_eq_true] at ok
          have q : ltN y < 4 := Nat.le_of_ble_eq_true ok.1.1.1.2
          have := ltN_le x
          rw [pth_len]; omega
        -- the helper writes the answer down
        have r1 := RL.page j1.1 E1 hSt p9 hpo hf (by omega) hz
        have bs := sl_bl (fRp s1 P.length po) (nI P.length).toInt64
        have Rsl : SH (ax_sl (fRp s1 P.length po) 77 0 (nI P.length).toInt64) := hRs
        have E3 : EP P s1 (ax_sl (fRp s1 P.length po) 77 0 (nI P.length).toInt64) := E1.sm (Sm.refl _ _) ((fRp_sm (fun _ => rfl) rfl).trans (bs.sm hRs.1 fun q k w => by unfold bP at w; split at w <;> first | omega | exact absurd w (by decide)))
        obtain ⟨o2, N2, hE2, hcall2⟩ := r_page 15 Rsl E3 x y z b
        obtain ⟨e1, e2⟩ := ((hE2.2 ok).2 hf).2 p8
        subst e1
        have rc : Rc0 (ax_sl (fRp s1 P.length po) 77 0 (nI P.length).toInt64) N2 := by rw [e2]; exact gPg_rc
        have r2 : RL (ax_sl (fRp s1 P.length po) 77 0 (nI P.length).toInt64) N2 := by rw [e2, gPg_sl]; exact r1.sl _ _ _
        have kR : Kp M (fRp s1 P.length po) := j2.trans ((fRp_sm (A := aN) (fun _ => rfl) rfl).kp hs1.1)
        have kS : Kp M (ax_sl (fRp s1 P.length po) 77 0 (nI P.length).toInt64) := kR.trans (bs.kp hRs.1)
        refine ⟨0, nI P.length, _, N2, 5, 46, by omega, by omega, lC_h (by decide) rfl (hr_page hG (d := 19) h.sh hRs hcall), Rsl, kS, lC_c (by decide) hcall2, h.nx (r2.one rc) (kS.trans rc.kp), kS.trans rc.kp, ?_, fun _ => ?_⟩
        · rw [e2]
          unfold gPg
          rw [wm_h1k rfl, wm_h1n rfl, wm_h1n rfl, fWr_ne _ _ (by decide), wm_h1n rfl, wm_h1s]
        · rw [rc.2.2.2.1]; exact hl_sl _ _
end AX112
