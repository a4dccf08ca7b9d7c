/-! a byte of a frame: the reference -/
section AX91
variable {c p q n L z a b : Nat} {T : Tb} {P : List (List Int32 × Int32 × Int32)} {B : List Int32} {s N N2 R R1 : ax_M}
theorem fPmp_10 (R : ax_M) : ax_hi (fPmp R) 27 10 = ax_hi R 27 10 := by
  unfold fPmp
  split
  · have : ∀ (n c : Nat) {s : ax_M}, ax_hi (fBod n c s) 27 10 = ax_hi s 27 10 := by
      intro n
      induction n with
      | zero => intro c s; rfl
      | succ n ih =>
        intro c s
        unfold fBod
        split
        · rfl
        · split
          · rfl
          · rename_i o ho
            obtain ⟨j, hj, rfl⟩ := fNext_row ho
            rw [ih]
            have e0 : ∀ (Z : ax_M) (q : Nat), ax_hi (fSd0 Z (50 + j) q) 27 10 = ax_hi Z 27 10 := fun Z q => by
              unfold fSd0
              rw [wm_h1k rfl, wm_h1n (nbq (by omega)), wm_h1k rfl, wm_h1n (nbq (by omega))]
            unfold fSend fSd
            split
            · rw [e0, fSay_hi _ _ _ (by decide) (by decide), fSay_hi _ _ _ (by decide) (by decide)]
            · rw [wm_h1n (nbq (by omega)), e0, fSay_hi _ _ _ (by decide) (by decide), fSay_hi _ _ _ (by decide) (by decide)]
    exact this _ _
  · rfl
theorem fPmp_sm {A : Nat → Nat → Bool} (hA : Ax A) (R : ax_M) : Sm A R (fPmp R) := by
  unfold fPmp
  split
  · exact hA.bod _ _
  · exact Sm.refl _ _
/-- behind a frame -/
theorem WhP.rl {N1 : ax_M} {o : ax_O} (h : WhP N1 P L R1 o N2) (hR : LfC s c P T z L B a b R1) (h9 : ax_hi s 45 0 = 0) (h7 : ax_hi s 27 7 = nI 4) (h22 : ax_hi N1 54 22 = nI 4) (h23 : ax_hi N1 54 23 = 0) : o = .inl none ∧ Rc0 N1 N2 ∧ RL (ax_si (ax_si (fPmp R1) 27 8 1) 28 1 0) N2 := by
  obtain ⟨ho, N3, c3, T3, B3, e3, hN, W, hc3, hE⟩ := h
  have r3 : Rc0 N1 N3 := by
    rcases hN with rfl | rfl
    · exact Rc0.refl _
    · exact (Rc0.refl _).si rfl rfl
  have f22 : ax_hi N3 54 22 = nI 4 := by
    rcases hN with rfl | rfl
    · exact h22
    · rw [wm_h1k rfl]; exact h22
  have f23 : ax_hi N3 54 23 = 0 := by
    rcases hN with rfl | rfl
    · exact h23
    · rw [wm_h1k rfl]; exact h23
  have hfb : FB (fPmp R1) := W.f.2.2.2.2.2.2.2
  have r1 : Rl c3 T3 P B3 (fPmp R1) N2 := ⟨W.sh, W.sN, W.o, W.v, W.x, W.t, W.p, W.b, hfb, by omega⟩
  have hs2 : SH (ax_si (ax_si (fPmp R1) 27 8 1) 28 1 0) := (W.sh.si (by decide)).si (by decide)
  refine ⟨ho, r3.trans W.rc.r0, c3, T3, P, B3, r1.sm hs2 W.sN (hfb.sm (Sm.st (Sm.si rfl) rfl)) (Sm.st (Sm.si rfl) rfl) (Sm.refl _ _), fun w => ⟨4, 0, ?_⟩⟩
  rw [wm_h1n rfl, wm_h1k rfl, fPmp_10] at w
  obtain ⟨he, hN3⟩ := hE w
  subst he
  obtain ⟨sm1, sm2⟩ := hR.sm
  have W6 := W.rc.2.2.2.2.2
  refine ⟨(W.k rfl).sm (Sm.st (Sm.si rfl) rfl) (Sm.refl _ _), ?_, ⟨?_, ?_, by omega⟩, ⟨wm_h1s, ?_⟩, fun j hj => absurd hj (Nat.not_lt_zero _), Or.inl (by omega), Or.inr ⟨?_, ?_⟩⟩
  · rw [wm_h1n rfl, wm_h1n rfl, (fPmp_sm a9_x R1).at rfl]; exact sm2 h9
  · rw [wm_h1n rfl, wm_h1k rfl, (fPmp_sm aM_x R1).at rfl, sm1.at rfl]; exact h7
  · rw [W6 54 22 (Or.inr (Or.inr rfl))]; exact f22
  · rw [W6 54 23 (Or.inr (Or.inr rfl))]; exact f23
  · rw [wm_h1n rfl, wm_h1s]
  · rw [W6 54 31 (Or.inr (Or.inr rfl)), hN3, wm_h1s]
theorem r_tk_4 (d : Nat) (h : Rl c T P B s N) (g : EH 4 q s N) (aw : ax_hi s 27 10 = 0) (hn : n < 256) (hr : 4 ≤ q + 1 → c ≤ 300) (hS : StD c T P B 4 q (nI n) s R) : ∃ o N2, TkP R N o N2 ∧ ax_calls ax_P (d + 11) 164 0 0 [.inr (.inl (some 54)), .inl (nI n)] N o N2 := by
  refine ax_callEx (T := pt_X12_take1) (cod := pr_X12_take1) rfl (by simp [ax_c1]) (Nat.le_of_ble_eq_true rfl) ?_
  show ax_Ev _ pr_X12_take1 _ _ bl_X12_take1_0 _ _ _ _ _
  have hs := h.1
  have hN := h.2.1
  have e22 : ax_hi N 54 22 = 4 := g.2.2.1.2.1
  have e23 := g.2.2.2.1.2
  have e44 : (4 : Int32) ≤ 4 := by decide
  have hq := g.q_lt
  obtain ⟨L, L1, L2, L3⟩ := EH.len h g hn
  have Lc : (ax_hi (sFr s q (nI n)) 29 0).toNatClampNeg = L := by rw [L2]; exact nI_clamp (by omega)
  have i1 : vp_in (nI q) 204 := vp_in_nI hq (by decide)
  have c1 : (nI q).toNatClampNeg = q := nI_clamp (by omega)
  have s1 : nI q + 1 = nI (q + 1) := nI_1 q
  have n1 : narrow (ax_ty 14 23) (.int (nI (q + 1))) = .int (nI (q + 1)) := rfl
  have n2 : fits (ax_ty 14 23) (.int (nI (q + 1))) = true := rfl
  have hN1 := hN.si (o := 73) (k := q) (v := nI n) (by decide)
  have hN2 := hN1.si (o := 54) (k := 23) (v := nI (q + 1)) (by decide)
  have f23 : ax_hi (ax_si N 73 q (nI n)) 54 23 = nI q := (wm_h1n rfl).trans e23
  have r1 := h.fr (q := q) hn
  have rc1 : Rc0 N (ax_si (ax_si N 73 q (nI n)) 54 23 (nI (q + 1))) := ((Rc0.refl N).si rfl rfl).si rfl rfl
  have g1 := fun H => g.fr (nI n) (L := L) H
  unfold StD at hS
  rw [if_neg (by decide), Lc] at hS
  by_cases q4 : q + 1 < 4
  · rw [if_pos q4] at hS
    have w1 : ¬ (4 : Int32) ≤ nI (q + 1) := nI_ge (b := 4) q4 (by omega)
    simp only [bl_X12_take1_0, at_X12_take1_0, bl_X12_take1_42, at_X12_take1_42, so_54 hN, so_73 hN, sr_54_24 hN, sl_73 hN, so_54 hN1, so_73 hN1, sr_54_24 hN1, sl_73 hN1, so_54 hN2, e22, e23, f23, e44, i1, c1, s1, n1, n2, wm_h1s, w1, if_true, if_false, we_iconst_m1, we_iconst_0, we_iconst_1, we_iconst_2, we_iconst_3, we_iconst_4, we_iconst_5, we_bipush_m100, we_bipush_m10, we_bipush_m9, we_bipush_6, we_bipush_7, we_bipush_8, we_bipush_9, we_bipush_10, we_bipush_15, we_bipush_16, we_bipush_17, we_bipush_20, we_bipush_24, we_bipush_31, we_bipush_32, we_bipush_33, we_bipush_40, we_bipush_45, we_bipush_47, we_bipush_48, we_bipush_50, we_bipush_52, we_bipush_53, we_bipush_57, we_bipush_58, we_bipush_60, we_bipush_63, we_bipush_64, we_bipush_65, we_bipush_68, we_bipush_69, we_bipush_71, we_bipush_72, we_bipush_73, we_bipush_80, we_bipush_82, we_bipush_84, we_bipush_97, we_bipush_100, we_bipush_101, we_bipush_103, we_bipush_104, we_bipush_105, we_bipush_107, we_bipush_108, we_bipush_109, we_bipush_110, we_bipush_111, we_bipush_112, we_bipush_115, we_bipush_116, we_bipush_117, we_bipush_122, we_bipush_126, we_bipush_127, we_sipush_128, we_sipush_129, we_sipush_134, we_sipush_135, we_sipush_200, we_sipush_204, we_sipush_255, we_sipush_256, we_sipush_300, we_sipush_320, we_sipush_340, we_sipush_1000, we_sipush_1024, we_sipush_1200, we_sipush_30000, we_ldci, we_ldcs, we_ldcsw, we_aconst_null, we_iload_0, we_aload_0, we_istore_0, we_astore_0, we_iload_1, we_aload_1, we_istore_1, we_astore_1, we_iload_2, we_aload_2, we_istore_2, we_astore_2, we_iload_3, we_aload_3, we_istore_3, we_astore_3, we_iload, we_aload, we_istore, we_astore, we_iinc1, we_iinc_m8, we_iinc_m1, we_iinc_2, we_iinc_5, we_iadd, we_isub, we_imul, we_iand, we_ior, we_ishl, we_ishr, we_iushr, we_idiv, we_irem, we_ineg, we_i2c, we_i2b, we_i2l, we_lcmp, we_dupi, we_popi, we_dupr, we_popr, we_dup2, we_goto, we_if_eq, we_if_ne, we_if_lt, we_if_ge, we_if_gt, we_if_le, we_icmp_eq, we_icmp_ne, we_icmp_lt, we_icmp_ge, we_icmp_gt, we_icmp_le, we_ifnull_n, we_ifnull_s, we_ifnonnull_n, we_ifnonnull_s, we_getf, we_getfr, we_getsv, we_getsc, we_putfr, we_putf, we_getst0, we_getst1, we_getst2, we_iald, we_iald2, we_cald, we_bald, we_bald2, we_zald, we_aald4, we_aald8, we_aald11, we_iast, we_cast, we_zast, we_bast, we_aast4, we_aast8, we_aast11, we_alen, we_iret, we_aret, we_vret, wl_i1, wl_i2, wl_r1, wl_r2, wl_st, wl_rm0, wl_rm1, Nat.beq, cond_true, cond_false, ax_lvA, Nat.zero_add, Nat.reduceAdd, we_alen_100, we_alen_101, we_alen_102, we_alen_200, we_alen_202, we_alen_114, we_alen_118, we_alen_121]
    have : TkP R N (.inl none) (ax_si (ax_si N 73 q (nI n)) 54 23 (nI (q + 1))) := by
      rw [hS]
      exact ⟨rfl, rc1, c, T, P, B, r1, fun _ => ⟨4, q + 1, g1 (Or.inl q4)⟩⟩
    first | exact this | exact ⟨trivial, this⟩ | exact ⟨rfl, this⟩
  · rw [if_neg q4] at hS
    have w1 : (4 : Int32) ≤ nI (q + 1) := nI_le (a := 4) (by omega) (by omega)
    have c300 := hr (by omega)
    have by_ := fun j hj => g.by (nI n) (j := j) hj
    have y0 : ax_hi (ax_si (ax_si N 73 q (nI n)) 54 23 (nI (q + 1))) 73 0 = nI L := by rw [wm_h1n rfl, by_ 0 (by omega), L2]
    have m1 : narrow (ax_ty 14 28) (.int (nI L)) = .int (nI L) := rfl
    have m2 : fits (ax_ty 14 28) (.int (nI L)) = true := rfl
    have hN3 := hN2.si (o := 54) (k := 28) (v := nI L) (by decide)
    have v0 : vp_in 0 204 := vp_0
    have c0 : (0 : Int32).toNatClampNeg = 0 := rfl
    have rc2 : Rc0 N (ax_si (ax_si (ax_si N 73 q (nI n)) 54 23 (nI (q + 1))) 54 28 (nI L)) := rc1.si rfl rfl
    have r2 : Rl c T P B (sFr s q (nI n)) (ax_si (ax_si (ax_si N 73 q (nI n)) 54 23 (nI (q + 1))) 54 28 (nI L)) := r1.sm r1.1 hN3 r1.2.2.2.2.2.2.2.2.1 (Sm.refl _ _) (Sm.si rfl)
    by_cases big : L ≤ 200
    rotate_left
    · rw [if_pos (by omega)] at hS
      have w2 : ¬ nI L ≤ 200 := nI_ge (a := 200) (by omega) (by omega)
      simp only [bl_X12_take1_0, at_X12_take1_0, bl_X12_take1_42, at_X12_take1_42, bl_X12_take1_71, at_X12_take1_71, so_54 hN, so_73 hN, sr_54_24 hN, sl_73 hN, so_54 hN1, so_73 hN1, sr_54_24 hN1, sl_73 hN1, so_54 hN2, so_73 hN2, sr_54_24 hN2, sl_73 hN2, so_54 hN3, so_73 hN3, sr_54_24 hN3, sl_73 hN3, e22, e23, f23, e44, i1, c1, s1, n1, n2, wm_h1s, w1, y0, v0, c0, m1, m2, w2, if_true, if_false, we_iconst_m1, we_iconst_0, we_iconst_1, we_iconst_2, we_iconst_3, we_iconst_4, we_iconst_5, we_bipush_m100, we_bipush_m10, we_bipush_m9, we_bipush_6, we_bipush_7, we_bipush_8, we_bipush_9, we_bipush_10, we_bipush_15, we_bipush_16, we_bipush_17, we_bipush_20, we_bipush_24, we_bipush_31, we_bipush_32, we_bipush_33, we_bipush_40, we_bipush_45, we_bipush_47, we_bipush_48, we_bipush_50, we_bipush_52, we_bipush_53, we_bipush_57, we_bipush_58, we_bipush_60, we_bipush_63, we_bipush_64, we_bipush_65, we_bipush_68, we_bipush_69, we_bipush_71, we_bipush_72, we_bipush_73, we_bipush_80, we_bipush_82, we_bipush_84, we_bipush_97, we_bipush_100, we_bipush_101, we_bipush_103, we_bipush_104, we_bipush_105, we_bipush_107, we_bipush_108, we_bipush_109, we_bipush_110, we_bipush_111, we_bipush_112, we_bipush_115, we_bipush_116, we_bipush_117, we_bipush_122, we_bipush_126, we_bipush_127, we_sipush_128, we_sipush_129, we_sipush_134, we_sipush_135, we_sipush_200, we_sipush_204, we_sipush_255, we_sipush_256, we_sipush_300, we_sipush_320, we_sipush_340, we_sipush_1000, we_sipush_1024, we_sipush_1200, we_sipush_30000, we_ldci, we_ldcs, we_ldcsw, we_aconst_null, we_iload_0, we_aload_0, we_istore_0, we_astore_0, we_iload_1, we_aload_1, we_istore_1, we_astore_1, we_iload_2, we_aload_2, we_istore_2, we_astore_2, we_iload_3, we_aload_3, we_istore_3, we_astore_3, we_iload, we_aload, we_istore, we_astore, we_iinc1, we_iinc_m8, we_iinc_m1, we_iinc_2, we_iinc_5, we_iadd, we_isub, we_imul, we_iand, we_ior, we_ishl, we_ishr, we_iushr, we_idiv, we_irem, we_ineg, we_i2c, we_i2b, we_i2l, we_lcmp, we_dupi, we_popi, we_dupr, we_popr, we_dup2, we_goto, we_if_eq, we_if_ne, we_if_lt, we_if_ge, we_if_gt, we_if_le, we_icmp_eq, we_icmp_ne, we_icmp_lt, we_icmp_ge, we_icmp_gt, we_icmp_le, we_ifnull_n, we_ifnull_s, we_ifnonnull_n, we_ifnonnull_s, we_getf, we_getfr, we_getsv, we_getsc, we_putfr, we_putf, we_getst0, we_getst1, we_getst2, we_iald, we_iald2, we_cald, we_bald, we_bald2, we_zald, we_aald4, we_aald8, we_aald11, we_iast, we_cast, we_zast, we_bast, we_aast4, we_aast8, we_aast11, we_alen, we_iret, we_aret, we_vret, wl_i1, wl_i2, wl_r1, wl_r2, wl_st, wl_rm0, wl_rm1, Nat.beq, cond_true, cond_false, ax_lvA, Nat.zero_add, Nat.reduceAdd, we_alen_100, we_alen_101, we_alen_102, we_alen_200, we_alen_202, we_alen_114, we_alen_118, we_alen_121]
      refine ax_gv0 (r_goAway (d + 7) hN3 r2.2.2.1.2.1 (by omega) 6) (so_54 hN3) (by decide) rfl rfl (Nat.le_of_ble_eq_true rfl) ?_
      simp only [bl_X12_take1_152, at_X12_take1_152, we_iconst_m1, we_iconst_0, we_iconst_1, we_iconst_2, we_iconst_3, we_iconst_4, we_iconst_5, we_bipush_m100, we_bipush_m10, we_bipush_m9, we_bipush_6, we_bipush_7, we_bipush_8, we_bipush_9, we_bipush_10, we_bipush_15, we_bipush_16, we_bipush_17, we_bipush_20, we_bipush_24, we_bipush_31, we_bipush_32, we_bipush_33, we_bipush_40, we_bipush_45, we_bipush_47, we_bipush_48, we_bipush_50, we_bipush_52, we_bipush_53, we_bipush_57, we_bipush_58, we_bipush_60, we_bipush_63, we_bipush_64, we_bipush_65, we_bipush_68, we_bipush_69, we_bipush_71, we_bipush_72, we_bipush_73, we_bipush_80, we_bipush_82, we_bipush_84, we_bipush_97, we_bipush_100, we_bipush_101, we_bipush_103, we_bipush_104, we_bipush_105, we_bipush_107, we_bipush_108, we_bipush_109, we_bipush_110, we_bipush_111, we_bipush_112, we_bipush_115, we_bipush_116, we_bipush_117, we_bipush_122, we_bipush_126, we_bipush_127, we_sipush_128, we_sipush_129, we_sipush_134, we_sipush_135, we_sipush_200, we_sipush_204, we_sipush_255, we_sipush_256, we_sipush_300, we_sipush_320, we_sipush_340, we_sipush_1000, we_sipush_1024, we_sipush_1200, we_sipush_30000, we_ldci, we_ldcs, we_ldcsw, we_aconst_null, we_iload_0, we_aload_0, we_istore_0, we_astore_0, we_iload_1, we_aload_1, we_istore_1, we_astore_1, we_iload_2, we_aload_2, we_istore_2, we_astore_2, we_iload_3, we_aload_3, we_istore_3, we_astore_3, we_iload, we_aload, we_istore, we_astore, we_iinc1, we_iinc_m8, we_iinc_m1, we_iinc_2, we_iinc_5, we_iadd, we_isub, we_imul, we_iand, we_ior, we_ishl, we_ishr, we_iushr, we_idiv, we_irem, we_ineg, we_i2c, we_i2b, we_i2l, we_lcmp, we_dupi, we_popi, we_dupr, we_popr, we_dup2, we_goto, we_if_eq, we_if_ne, we_if_lt, we_if_ge, we_if_gt, we_if_le, we_icmp_eq, we_icmp_ne, we_icmp_lt, we_icmp_ge, we_icmp_gt, we_icmp_le, we_ifnull_n, we_ifnull_s, we_ifnonnull_n, we_ifnonnull_s, we_getf, we_getfr, we_getsv, we_getsc, we_putfr, we_putf, we_getst0, we_getst1, we_getst2, we_iald, we_iald2, we_cald, we_bald, we_bald2, we_zald, we_aald4, we_aald8, we_aald11, we_iast, we_cast, we_zast, we_bast, we_aast4, we_aast8, we_aast11, we_alen, we_iret, we_aret, we_vret, wl_i1, wl_i2, wl_r1, wl_r2, wl_st, wl_rm0, wl_rm1, Nat.beq, cond_true, cond_false, ax_lvA, Nat.zero_add, Nat.reduceAdd, we_alen_100, we_alen_101, we_alen_102, we_alen_200, we_alen_202, we_alen_114, we_alen_118, we_alen_121]
      have : TkP R N (.inl none) (gAway (ax_si (ax_si (ax_si N 73 q (nI n)) 54 23 (nI (q + 1))) 54 28 (nI L)) c 6) := by
        rw [hS]
        exact ⟨rfl, rc2.trans (gAway_rc _ _ _), c + 6, T, P, B, r2.away (by omega) 6, fun w => absurd ((fAway_v _ c 6).symm.trans w) (by decide)⟩
      first | exact this | exact ⟨trivial, this⟩ | exact ⟨rfl, this⟩
    · rw [if_neg (by omega)] at hS
      have w2 : nI L ≤ 200 := nI_le (b := 200) big (by decide)
      have k4 : (4 : Int32) + nI L = nI (4 + L) := nI_add 4 L
      have g23 : ax_hi (ax_si (ax_si (ax_si N 73 q (nI n)) 54 23 (nI (q + 1))) 54 28 (nI L)) 54 23 = nI (q + 1) := (wm_h1k rfl).trans wm_h1s
      by_cases wh : q + 1 < 4 + L
      · rw [if_pos wh] at hS
        have w3 : ¬ nI (q + 1) = nI (4 + L) := fun w => by have := nI_inj (by omega) (by omega) w; omega
        simp only [bl_X12_take1_0, at_X12_take1_0, bl_X12_take1_42, at_X12_take1_42, bl_X12_take1_71, at_X12_take1_71, bl_X12_take1_100, at_X12_take1_100, bl_X12_take1_152, at_X12_take1_152, so_54 hN, so_73 hN, sr_54_24 hN, sl_73 hN, so_54 hN1, so_73 hN1, sr_54_24 hN1, sl_73 hN1, so_54 hN2, so_73 hN2, sr_54_24 hN2, sl_73 hN2, so_54 hN3, so_73 hN3, sr_54_24 hN3, sl_73 hN3, e22, e23, f23, g23, e44, i1, c1, s1, n1, n2, wm_h1s, w1, y0, v0, c0, m1, m2, w2, k4, w3, if_true, if_false, we_iconst_m1, we_iconst_0, we_iconst_1, we_iconst_2, we_iconst_3, we_iconst_4, we_iconst_5, we_bipush_m100, we_bipush_m10, we_bipush_m9, we_bipush_6, we_bipush_7, we_bipush_8, we_bipush_9, we_bipush_10, we_bipush_15, we_bipush_16, we_bipush_17, we_bipush_20, we_bipush_24, we_bipush_31, we_bipush_32, we_bipush_33, we_bipush_40, we_bipush_45, we_bipush_47, we_bipush_48, we_bipush_50, we_bipush_52, we_bipush_53, we_bipush_57, we_bipush_58, we_bipush_60, we_bipush_63, we_bipush_64, we_bipush_65, we_bipush_68, we_bipush_69, we_bipush_71, we_bipush_72, we_bipush_73, we_bipush_80, we_bipush_82, we_bipush_84, we_bipush_97, we_bipush_100, we_bipush_101, we_bipush_103, we_bipush_104, we_bipush_105, we_bipush_107, we_bipush_108, we_bipush_109, we_bipush_110, we_bipush_111, we_bipush_112, we_bipush_115, we_bipush_116, we_bipush_117, we_bipush_122, we_bipush_126, we_bipush_127, we_sipush_128, we_sipush_129, we_sipush_134, we_sipush_135, we_sipush_200, we_sipush_204, we_sipush_255, we_sipush_256, we_sipush_300, we_sipush_320, we_sipush_340, we_sipush_1000, we_sipush_1024, we_sipush_1200, we_sipush_30000, we_ldci, we_ldcs, we_ldcsw, we_aconst_null, we_iload_0, we_aload_0, we_istore_0, we_astore_0, we_iload_1, we_aload_1, we_istore_1, we_astore_1, we_iload_2, we_aload_2, we_istore_2, we_astore_2, we_iload_3, we_aload_3, we_istore_3, we_astore_3, we_iload, we_aload, we_istore, we_astore, we_iinc1, we_iinc_m8, we_iinc_m1, we_iinc_2, we_iinc_5, we_iadd, we_isub, we_imul, we_iand, we_ior, we_ishl, we_ishr, we_iushr, we_idiv, we_irem, we_ineg, we_i2c, we_i2b, we_i2l, we_lcmp, we_dupi, we_popi, we_dupr, we_popr, we_dup2, we_goto, we_if_eq, we_if_ne, we_if_lt, we_if_ge, we_if_gt, we_if_le, we_icmp_eq, we_icmp_ne, we_icmp_lt, we_icmp_ge, we_icmp_gt, we_icmp_le, we_ifnull_n, we_ifnull_s, we_ifnonnull_n, we_ifnonnull_s, we_getf, we_getfr, we_getsv, we_getsc, we_putfr, we_putf, we_getst0, we_getst1, we_getst2, we_iald, we_iald2, we_cald, we_bald, we_bald2, we_zald, we_aald4, we_aald8, we_aald11, we_iast, we_cast, we_zast, we_bast, we_aast4, we_aast8, we_aast11, we_alen, we_iret, we_aret, we_vret, wl_i1, wl_i2, wl_r1, wl_r2, wl_st, wl_rm0, wl_rm1, Nat.beq, cond_true, cond_false, ax_lvA, Nat.zero_add, Nat.reduceAdd, we_alen_100, we_alen_101, we_alen_102, we_alen_200, we_alen_202, we_alen_114, we_alen_118, we_alen_121]
        have : TkP R N (.inl none) (ax_si (ax_si (ax_si N 73 q (nI n)) 54 23 (nI (q + 1))) 54 28 (nI L)) := by
          rw [hS]
          exact ⟨rfl, rc2, c, T, P, B, r2, fun _ => ⟨4, q + 1, (g1 (Or.inr ⟨big, L2, wh⟩)).n28 _⟩⟩
        first | exact this | exact ⟨trivial, this⟩ | exact ⟨rfl, this⟩
      · rw [if_neg wh] at hS
        have k4' : (4 : Int32) + nI L = nI (q + 1) := by rw [k4]; congr 1; omega
        obtain ⟨z, a, b, R1, hz1, hp, hR, rfl⟩ := hS
        have W := h.wf g hn (L := L) (by omega) L2 big
        have hF := g.2.2.2.2.2.2
        have x1 : ∀ {M : ax_M}, ax_hi M 73 1 = ax_hi (ax_si N 73 q (nI n)) 73 1 → ax_hi M 73 1 = ax_hi (sFr s q (nI n)) 29 1 := fun w => w.trans (by_ 1 (by omega))
        have y1 := by_ 1 (by omega)
        have y2 := by_ 2 (by omega)
        have y3 := by_ 3 (by omega)
        have v1 : vp_in 1 204 := vp_1
        have v2 : vp_in 2 204 := vp_2
        have v3 : vp_in 3 204 := vp_3
        have d1 : (1 : Int32).toNatClampNeg = 1 := rfl
        have d2 : (2 : Int32).toNatClampNeg = 2 := rfl
        have d3 : (3 : Int32).toNatClampNeg = 3 := rfl
        rw [L2] at W
        have z22 : ax_hi (gFr N q (nI n) (nI L) (ax_hi (sFr s q (nI n)) 29 1) (ax_hi (sFr s q (nI n)) 29 2) (ax_hi (sFr s q (nI n)) 29 3)) 54 22 = nI 4 := (gFr_22 rfl (by decide)).trans e22
        have z23 : ax_hi (gFr N q (nI n) (nI L) (ax_hi (sFr s q (nI n)) 29 1) (ax_hi (sFr s q (nI n)) 29 2) (ax_hi (sFr s q (nI n)) 29 3)) 54 23 = 0 := gFr_23
        have f31 : ax_hi (gFr N q (nI n) (nI L) (ax_hi (sFr s q (nI n)) 29 1) (ax_hi (sFr s q (nI n)) 29 2) (ax_hi (sFr s q (nI n)) 29 3)) 54 31 = ax_hi N 54 31 := gFr_22 rfl (by decide)
        have zrc := gFr_rc N q (nI n) (nI L) (ax_hi (sFr s q (nI n)) 29 1) (ax_hi (sFr s q (nI n)) 29 2) (ax_hi (sFr s q (nI n)) 29 3)
        have f8 : ax_hi (sFr s q (nI n)) 27 8 = ax_hi s 27 8 := by unfold sFr; rw [wm_h1n rfl, wm_h1n rfl]
        have f7 : ax_hi (sFr s q (nI n)) 27 7 = nI 4 := by unfold sFr; rw [wm_h1n rfl, wm_h1n rfl]; exact g.2.2.1.1
        have f9 : ax_hi (sFr s q (nI n)) 45 0 = 0 := by unfold sFr; rw [wm_h1n rfl, wm_h1n rfl]; exact g.2.1
        rw [← f31, ← f8] at hF
        obtain ⟨z', hz1', hz2⟩ := W.t.ct
        obtain ⟨-, rfl⟩ := hz1.inj hz1'
        obtain ⟨_, N4, hWh, hcall⟩ := r_whole d W hz1 hz2 hF hp c300 hR
        obtain ⟨rfl, q1, q2⟩ := hWh.rl hR f9 f7 z22 z23
        have hNg := W.sN
        unfold gFr at hcall hNg
        generalize ax_hi (sFr s q (nI n)) 29 1 = X1 at *
        generalize ax_hi (sFr s q (nI n)) 29 2 = X2 at *
        generalize ax_hi (sFr s q (nI n)) 29 3 = X3 at *
        have k1 : narrow (ax_ty 14 25) (.int X1) = .int X1 := rfl
        have k2 : fits (ax_ty 14 25) (.int X1) = true := rfl
        have k3 : narrow (ax_ty 14 26) (.int X2) = .int X2 := rfl
        have k5 : fits (ax_ty 14 26) (.int X2) = true := rfl
        have k6 : narrow (ax_ty 14 27) (.int X3) = .int X3 := rfl
        have k7 : fits (ax_ty 14 27) (.int X3) = true := rfl
        have k8 : narrow (ax_ty 14 23) (.int 0) = .int 0 := rfl
        have k9 : fits (ax_ty 14 23) (.int 0) = true := rfl
        have hN4 := hN3.si (o := 54) (k := 25) (v := X1) (by decide)
        have hN5 := hN4.si (o := 54) (k := 26) (v := X2) (by decide)
        have hN6 := hN5.si (o := 54) (k := 27) (v := X3) (by decide)
        have u1 : ax_hi (ax_si (ax_si (ax_si N 73 q (nI n)) 54 23 (nI (q + 1))) 54 28 (nI L)) 73 1 = X1 := by rw [wm_h1n rfl, wm_h1n rfl]; exact y1
        have u2 : ax_hi (ax_si (ax_si (ax_si (ax_si N 73 q (nI n)) 54 23 (nI (q + 1))) 54 28 (nI L)) 54 25 X1) 73 2 = X2 := by rw [wm_h1n rfl, wm_h1n rfl, wm_h1n rfl]; exact y2
        have u3 : ax_hi (ax_si (ax_si (ax_si (ax_si (ax_si N 73 q (nI n)) 54 23 (nI (q + 1))) 54 28 (nI L)) 54 25 X1) 54 26 X2) 73 3 = X3 := by rw [wm_h1n rfl, wm_h1n rfl, wm_h1n rfl, wm_h1n rfl]; exact y3
        simp only [bl_X12_take1_0, at_X12_take1_0, bl_X12_take1_42, at_X12_take1_42, bl_X12_take1_71, at_X12_take1_71, bl_X12_take1_100, at_X12_take1_100, so_54 hN, so_73 hN, sr_54_24 hN, sl_73 hN, so_54 hN1, so_73 hN1, sr_54_24 hN1, sl_73 hN1, so_54 hN2, so_73 hN2, sr_54_24 hN2, sl_73 hN2, so_54 hN3, so_73 hN3, sr_54_24 hN3, sl_73 hN3, so_54 hN4, so_73 hN4, sr_54_24 hN4, sl_73 hN4, so_54 hN5, so_73 hN5, sr_54_24 hN5, sl_73 hN5, so_54 hN6, e22, e23, f23, g23, e44, i1, c1, s1, n1, n2, wm_h1s, w1, y0, v0, c0, m1, m2, w2, k4', v1, v2, v3, d1, d2, d3, u1, u2, u3, k1, k2, k3, k5, k6, k7, k8, k9, if_true, if_false, we_iconst_m1, we_iconst_0, we_iconst_1, we_iconst_2, we_iconst_3, we_iconst_4, we_iconst_5, we_bipush_m100, we_bipush_m10, we_bipush_m9, we_bipush_6, we_bipush_7, we_bipush_8, we_bipush_9, we_bipush_10, we_bipush_15, we_bipush_16, we_bipush_17, we_bipush_20, we_bipush_24, we_bipush_31, we_bipush_32, we_bipush_33, we_bipush_40, we_bipush_45, we_bipush_47, we_bipush_48, we_bipush_50, we_bipush_52, we_bipush_53, we_bipush_57, we_bipush_58, we_bipush_60, we_bipush_63, we_bipush_64, we_bipush_65, we_bipush_68, we_bipush_69, we_bipush_71, we_bipush_72, we_bipush_73, we_bipush_80, we_bipush_82, we_bipush_84, we_bipush_97, we_bipush_100, we_bipush_101, we_bipush_103, we_bipush_104, we_bipush_105, we_bipush_107, we_bipush_108, we_bipush_109, we_bipush_110, we_bipush_111, we_bipush_112, we_bipush_115, we_bipush_116, we_bipush_117, we_bipush_122, we_bipush_126, we_bipush_127, we_sipush_128, we_sipush_129, we_sipush_134, we_sipush_135, we_sipush_200, we_sipush_204, we_sipush_255, we_sipush_256, we_sipush_300, we_sipush_320, we_sipush_340, we_sipush_1000, we_sipush_1024, we_sipush_1200, we_sipush_30000, we_ldci, we_ldcs, we_ldcsw, we_aconst_null, we_iload_0, we_aload_0, we_istore_0, we_astore_0, we_iload_1, we_aload_1, we_istore_1, we_astore_1, we_iload_2, we_aload_2, we_istore_2, we_astore_2, we_iload_3, we_aload_3, we_istore_3, we_astore_3, we_iload, we_aload, we_istore, we_astore, we_iinc1, we_iinc_m8, we_iinc_m1, we_iinc_2, we_iinc_5, we_iadd, we_isub, we_imul, we_iand, we_ior, we_ishl, we_ishr, we_iushr, we_idiv, we_irem, we_ineg, we_i2c, we_i2b, we_i2l, we_lcmp, we_dupi, we_popi, we_dupr, we_popr, we_dup2, we_goto, we_if_eq, we_if_ne, we_if_lt, we_if_ge, we_if_gt, we_if_le, we_icmp_eq, we_icmp_ne, we_icmp_lt, we_icmp_ge, we_icmp_gt, we_icmp_le, we_ifnull_n, we_ifnull_s, we_ifnonnull_n, we_ifnonnull_s, we_getf, we_getfr, we_getsv, we_getsc, we_putfr, we_putf, we_getst0, we_getst1, we_getst2, we_iald, we_iald2, we_cald, we_bald, we_bald2, we_zald, we_aald4, we_aald8, we_aald11, we_iast, we_cast, we_zast, we_bast, we_aast4, we_aast8, we_aast11, we_alen, we_iret, we_aret, we_vret, wl_i1, wl_i2, wl_r1, wl_r2, wl_st, wl_rm0, wl_rm1, Nat.beq, cond_true, cond_false, ax_lvA, Nat.zero_add, Nat.reduceAdd, we_alen_100, we_alen_101, we_alen_102, we_alen_200, we_alen_202, we_alen_114, we_alen_118, we_alen_121]
        refine ax_gv0 hcall (so_54 hNg) (by decide) rfl rfl (Nat.le_of_ble_eq_true rfl) ?_
        simp only [bl_X12_take1_152, at_X12_take1_152, we_iconst_m1, we_iconst_0, we_iconst_1, we_iconst_2, we_iconst_3, we_iconst_4, we_iconst_5, we_bipush_m100, we_bipush_m10, we_bipush_m9, we_bipush_6, we_bipush_7, we_bipush_8, we_bipush_9, we_bipush_10, we_bipush_15, we_bipush_16, we_bipush_17, we_bipush_20, we_bipush_24, we_bipush_31, we_bipush_32, we_bipush_33, we_bipush_40, we_bipush_45, we_bipush_47, we_bipush_48, we_bipush_50, we_bipush_52, we_bipush_53, we_bipush_57, we_bipush_58, we_bipush_60, we_bipush_63, we_bipush_64, we_bipush_65, we_bipush_68, we_bipush_69, we_bipush_71, we_bipush_72, we_bipush_73, we_bipush_80, we_bipush_82, we_bipush_84, we_bipush_97, we_bipush_100, we_bipush_101, we_bipush_103, we_bipush_104, we_bipush_105, we_bipush_107, we_bipush_108, we_bipush_109, we_bipush_110, we_bipush_111, we_bipush_112, we_bipush_115, we_bipush_116, we_bipush_117, we_bipush_122, we_bipush_126, we_bipush_127, we_sipush_128, we_sipush_129, we_sipush_134, we_sipush_135, we_sipush_200, we_sipush_204, we_sipush_255, we_sipush_256, we_sipush_300, we_sipush_320, we_sipush_340, we_sipush_1000, we_sipush_1024, we_sipush_1200, we_sipush_30000, we_ldci, we_ldcs, we_ldcsw, we_aconst_null, we_iload_0, we_aload_0, we_istore_0, we_astore_0, we_iload_1, we_aload_1, we_istore_1, we_astore_1, we_iload_2, we_aload_2, we_istore_2, we_astore_2, we_iload_3, we_aload_3, we_istore_3, we_astore_3, we_iload, we_aload, we_istore, we_astore, we_iinc1, we_iinc_m8, we_iinc_m1, we_iinc_2, we_iinc_5, we_iadd, we_isub, we_imul, we_iand, we_ior, we_ishl, we_ishr, we_iushr, we_idiv, we_irem, we_ineg, we_i2c, we_i2b, we_i2l, we_lcmp, we_dupi, we_popi, we_dupr, we_popr, we_dup2, we_goto, we_if_eq, we_if_ne, we_if_lt, we_if_ge, we_if_gt, we_if_le, we_icmp_eq, we_icmp_ne, we_icmp_lt, we_icmp_ge, we_icmp_gt, we_icmp_le, we_ifnull_n, we_ifnull_s, we_ifnonnull_n, we_ifnonnull_s, we_getf, we_getfr, we_getsv, we_getsc, we_putfr, we_putf, we_getst0, we_getst1, we_getst2, we_iald, we_iald2, we_cald, we_bald, we_bald2, we_zald, we_aald4, we_aald8, we_aald11, we_iast, we_cast, we_zast, we_bast, we_aast4, we_aast8, we_aast11, we_alen, we_iret, we_aret, we_vret, wl_i1, wl_i2, wl_r1, wl_r2, wl_st, wl_rm0, wl_rm1, Nat.beq, cond_true, cond_false, ax_lvA, Nat.zero_add, Nat.reduceAdd, we_alen_100, we_alen_101, we_alen_102, we_alen_200, we_alen_202, we_alen_114, we_alen_118, we_alen_121]
        have : TkP (ax_si (ax_si (fPmp R1) 27 8 1) 28 1 0) N (.inl none) N4 := ⟨rfl, zrc.trans q1, q2⟩
        first | exact this | exact ⟨trivial, this⟩ | exact ⟨rfl, this⟩
end AX91
