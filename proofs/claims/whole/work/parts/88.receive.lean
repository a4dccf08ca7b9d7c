/-! receive(): the class -/
theorem fAway_v (s : ax_M) (c : Nat) (v : Int32) : ax_hi (fAway s c v) 27 10 = v := by
  unfold fAway
  rw [fSay_hi _ _ _ (by decide) (by decide), wm_h1s]
/-- M2: what lies behind lookAtFrame; a block may be over, then endBlock goes on to what X says -/
def Fn (d : Nat) (M2 : ax_M) (X : ax_M → Prop) : Prop := ¬ (ax_hi M2 27 10 = 0 ∧ ¬ ax_hi M2 45 0 = 0) ∧ X M2 ∨ (ax_hi M2 27 10 = 0 ∧ ¬ ax_hi M2 45 0 = 0) ∧ SH M2 ∧ ∃ R, X R ∧ ax_calls ax_P (d + 9) 20 700 9100 [.inr (.inl (some 27))] M2 (.inl none) R
section AX88
variable {N0 : ax_M} {e : Bool} {c : Nat} {T : Tb} {P : List (List Int32 × Int32 × Int32)} {B : List Int32} {L z a n m : Nat} {s N R : ax_M}
theorem Fn.away (d : Nat) {v : Int32} (hv : v ≠ 0) {X : ax_M → Prop} (h : X (fAway s c v)) : Fn d (fAway s c v) X := Or.inl ⟨fun w => hv ((fAway_v s c v).symm.trans w.1), h⟩
theorem mo_end (d : Nat) (h : Wf N0 e c T P B L s N) (hz1 : CT T z s) (h5 : ax_hi s 45 5 = 0) (h6 : ax_hi s 45 6 = nI m) (hm : 0 < m ∧ m < 256) (h10 : ax_hi s 27 10 = 0) (hL : a + n ≤ L) (hr : c + 9 < 1024) : Fn d (fATB s c B.length a n) (MoC s c P B T z a n) := by
  unfold fATB
  by_cases big : B.length + n ≤ 100
  rotate_left
  · rw [if_neg big]
    refine Fn.away d (by decide) ?_
    unfold MoC
    rw [if_neg big]
  · rw [if_pos big]
    have W := h.add big hL
    have f10 : ax_hi (fAdd s B.length a n) 27 10 = 0 := ((fAdd_sm (A := aV) (fun _ => rfl) rfl rfl rfl _ _ _).at rfl).trans h10
    have f9 : ax_hi (fAdd s B.length a n) 45 0 = o01 s 4 := by unfold fAdd; rw [wm_h1k rfl, wm_h1s]
    by_cases o4 : o01 s 4 = 0
    · refine Or.inl ⟨fun w => w.2 (f9.trans o4), ?_⟩
      unfold MoC
      rw [if_pos big, if_pos o4]
    · refine Or.inr ⟨⟨f10, fun w => o4 (f9.symm.trans w)⟩, W.sh, ?_⟩
      obtain ⟨o, R, g1, g2⟩ := c_endBlock d W.sh W.b.c (hz1.sm (A := aT) (fAdd_sm (fun _ => rfl) rfl rfl rfl _ _ _) (fun _ => rfl) (fun _ => rfl)) ((fAdd_45 (by decide) (by decide) (by decide)).trans h5) W.o.1 W.p W.x hr hm ((fAdd_45 (by decide) (by decide) (by decide)).trans h6)
      have : o = .inl none := g1.1
      subst this
      exact ⟨R, by unfold MoC; rw [if_pos big, if_neg o4]; exact ⟨_, g1⟩, g2⟩
theorem Fn.im {d : Nat} {M2 : ax_M} {X Y : ax_M → Prop} (h : Fn d M2 X) (g : ∀ R, X R → Y R) : Fn d M2 Y := by
  rcases h with ⟨a, b⟩ | ⟨a, b, R, r1, r2⟩
  · exact Or.inl ⟨a, g _ b⟩
  · exact Or.inr ⟨a, b, R, g _ r1, r2⟩
theorem hd_end (d : Nat) (h : Wf N0 e c T P B L s N) (hz1 : CT T z s) (h10 : ax_hi s 27 10 = 0) (hn : Pn9 s L a n) (hr : c + 9 < 1024) : Fn d (fHd s c a n) (HdC s c P T z a n) := by
  obtain ⟨m, hm, e3, -⟩ := h.num
  unfold fHd HdC
  by_cases a1 : ax_hi s 29 3 - ax_hi s 29 3 / 2 * 2 = 0
  · rw [if_pos a1]
    exact Fn.away d (by decide) (by rw [if_pos a1])
  · rw [if_neg a1]
    by_cases a2 : fPad s = true ∧ ax_hi s 29 0 ≤ ax_hi s 29 4
    · rw [if_pos a2]
      exact Fn.away d (by decide) (by rw [if_neg a1, if_pos a2])
    · rw [if_neg a2]
      have hm0 : 0 < m := by
        rcases Nat.eq_zero_or_pos m with w | w
        · rw [e3, w] at a1; exact absurd (by decide) a1
        · exact w
      have key : Fn d (fHd2 s c a n) (MoC (fStart s) c P [] T z a n) := by
        unfold fHd2
        exact mo_end (B := []) (m := m) d h.start (hz1.sm (A := aT) (fStart_sm rfl rfl rfl rfl rfl rfl) (fun _ => rfl) (fun _ => rfl)) (fStart_5 s) ((fStart_6 s).trans e3) ⟨hm0, hm⟩ (((fStart_sm (A := aV) rfl rfl rfl rfl rfl rfl).at rfl).trans h10) (hn a2).2.2 hr
      by_cases a3 : ax_hi s 48 2 < ax_hi s 29 3
      · rw [if_pos a3]
        exact key.im (fun R w => by rw [if_neg a1, if_neg a2, if_pos a3]; exact w)
      · rw [if_neg a3]
        cases hf : fFind s (ax_hi s 29 3) with
        | none => exact Fn.away d (by decide) (by rw [if_neg a1, if_neg a2, if_neg a3])
        | some o =>
          dsimp only
          by_cases a4 : ax_hi s o 6 = 0
          · rw [if_pos a4]
            exact key.im (fun R w => by rw [if_neg a1, if_neg a2, if_neg a3, if_pos a4]; exact w)
          · rw [if_neg a4]
            exact Fn.away d (by decide) (by rw [if_neg a1, if_neg a2, if_neg a3, if_neg a4])
theorem lf_end (d : Nat) (h : Wf N0 true c T P B L s N) (hz1 : CT T z s) (h10 : ax_hi s 27 10 = 0) (h9 : ax_hi s 45 0 = 0) (hn : Pn9 s L a n) (hr : c + 9 < 1024) : Fn d (fLF s c P L B.length a n) (LfC s c P T z L B a n) := by
  unfold fLF
  by_cases oo : fOO s = 0
  rotate_left
  · rw [if_neg oo]
    exact Fn.away d (by decide) (by unfold LfC; rw [if_neg oo])
  · rw [if_pos oo]
    by_cases t1 : (ax_hi s 29 1).toNatClampNeg = 1
    · rw [t1]
      exact (hd_end d h hz1 h10 hn hr).im (fun R w => by unfold LfC; rw [if_pos oo, if_pos t1]; exact w)
    · by_cases t9 : (ax_hi s 29 1).toNatClampNeg = 9
      · rw [t9]
        obtain ⟨t, ht, t2⟩ := h.f.2.2.2.2.2.2.2 1 (by decide)
        have tt : t = 9 := by rw [t2, nI_clamp (by omega)] at t9; exact t9
        subst tt
        have t2' : ax_hi s 29 1 = 9 := t2
        have hp : fPad s = false := fPad_t (t := 9) (by omega) t2
        have oo2 : fOO2 s = 0 := by
          unfold fOO at oo
          by_cases f : ax_hi s 27 8 = 0
          · rw [if_pos f, t2', if_neg (by decide)] at oo; exact absurd oo t_10
          · rw [if_neg f] at oo; exact oo
        unfold fOO2 at oo2
        rw [t2', if_pos rfl, if_pos rfl] at oo2
        rcases h.k rfl with ⟨k8, k32⟩ | ⟨⟨k8, k5⟩, k33, k32, k7, q, q0, q1, q2⟩
        · rw [if_pos k8] at oo2; exact absurd oo2 t_10
        · exact (mo_end d h hz1 k5 q2 ⟨q0, q1⟩ h10 (hn (fun w => by rw [hp] at w; exact absurd w.1 (by decide))).2.2 hr).im (fun R w => by unfold LfC; rw [if_pos oo, if_neg t1, if_pos t9]; exact w)
      · have hR : LfC s c P T z L B a n (fTy s c P L B.length a n (ax_hi s 29 1).toNatClampNeg) := by unfold LfC; rw [if_pos oo, if_neg t1, if_neg t9]
        exact Or.inl ⟨fun w => w.2 (hR.sm.2 h9), hR⟩
theorem fBod_SH : ∀ (n : Nat) {c : Nat} {M : ax_M}, SH M → SH (fBod n c M)
  | 0, c, M, h => h
  | n + 1, c, M, h => by
    unfold fBod
    split
    · exact h
    · split
      · exact h
      · rename_i o ho
        obtain ⟨j, hj, rfl⟩ := fNext_row ho
        exact fBod_SH n (fSend_SH h c (by omega) _)
theorem rc_tail (d : Nat) {Q : ax_O → ax_M → Prop} {rc rs : Nat} (W : Wf N0 e c T P B L R N) (hc : c + 332 ≤ 900) (hQ : Q (.inl none) (ax_si (ax_si (fPmp R) 27 8 1) 28 1 0)) {lv : ax_L} (hl : ax_le [(0, .inr (.inl (some 27)))] lv) : ax_Ev (ax_calls ax_P (d + 4)) pr_X1_receive Q pt_X1_receive.1.2.2.2 bl_X1_receive_86 lv [] R rc rs := by
  refine ax_Ev_wk hl ?_
  have hR := W.sh
  have hcc : (ax_hi R 33 1).toNatClampNeg = c := by rw [W.o.1]; exact nI_clamp (by omega)
  have key : SH (fPmp R) → ∀ lv2, ax_le [(0, .inr (.inl (some 27)))] lv2 → ax_Ev (ax_calls ax_P (d + 4)) pr_X1_receive Q pt_X1_receive.1.2.2.2 bl_X1_receive_97 lv2 [] (fPmp R) rc rs := fun hS lv2 hl2 => by
    refine ax_Ev_wk hl2 ?_
    generalize fPmp R = R2 at hS hQ
    have hS2 := hS.si (o := 27) (k := 8) (v := 1) (by decide)
    have n1 : narrow (ax_ty 3 8) (.int 1) = .int 1 := rfl
    have n2 : fits (ax_ty 3 8) (.int 1) = true := rfl
    simp only [bl_X1_receive_97, so_27 hS, sr_27_1 hS, so_27 hS2, sr_27_1 hS2, n1, n2, we_iconst_m1, we_iconst_0, we_iconst_1, we_iconst_2, we_iconst_3, we_iconst_4, we_iconst_5, we_bipush_m100, we_bipush_m10, we_bipush_m9, we_bipush_6, we_bipush_7, we_bipush_8, we_bipush_9, we_bipush_10, we_bipush_15, we_bipush_16, we_bipush_17, we_bipush_20, we_bipush_24, we_bipush_31, we_bipush_32, we_bipush_33, we_bipush_40, we_bipush_45, we_bipush_47, we_bipush_48, we_bipush_50, we_bipush_52, we_bipush_53, we_bipush_57, we_bipush_58, we_bipush_60, we_bipush_63, we_bipush_64, we_bipush_65, we_bipush_68, we_bipush_69, we_bipush_71, we_bipush_72, we_bipush_73, we_bipush_80, we_bipush_82, we_bipush_84, we_bipush_97, we_bipush_100, we_bipush_101, we_bipush_103, we_bipush_104, we_bipush_105, we_bipush_107, we_bipush_108, we_bipush_109, we_bipush_110, we_bipush_111, we_bipush_112, we_bipush_115, we_bipush_116, we_bipush_117, we_bipush_122, we_bipush_126, we_bipush_127, we_sipush_128, we_sipush_129, we_sipush_134, we_sipush_135, we_sipush_200, we_sipush_204, we_sipush_255, we_sipush_256, we_sipush_300, we_sipush_320, we_sipush_340, we_sipush_1000, we_sipush_1024, we_sipush_1200, we_sipush_30000, we_ldci, we_ldcs, we_ldcsw, we_aconst_null, we_iload_0, we_aload_0, we_istore_0, we_astore_0, we_iload_1, we_aload_1, we_istore_1, we_astore_1, we_iload_2, we_aload_2, we_istore_2, we_astore_2, we_iload_3, we_aload_3, we_istore_3, we_astore_3, we_iload, we_aload, we_istore, we_astore, we_iinc1, we_iinc_m8, we_iinc_m1, we_iinc_2, we_iinc_5, we_iadd, we_isub, we_imul, we_iand, we_ior, we_ishl, we_ishr, we_iushr, we_idiv, we_irem, we_ineg, we_i2c, we_i2b, we_i2l, we_lcmp, we_dupi, we_popi, we_dupr, we_popr, we_dup2, we_goto, we_if_eq, we_if_ne, we_if_lt, we_if_ge, we_if_gt, we_if_le, we_icmp_eq, we_icmp_ne, we_icmp_lt, we_icmp_ge, we_icmp_gt, we_icmp_le, we_ifnull_n, we_ifnull_s, we_ifnonnull_n, we_ifnonnull_s, we_getf, we_getfr, we_getsv, we_getsc, we_putfr, we_putf, we_getst0, we_getst1, we_getst2, we_iald, we_iald2, we_cald, we_bald, we_bald2, we_zald, we_aald4, we_aald8, we_aald11, we_iast, we_cast, we_zast, we_bast, we_aast4, we_aast8, we_aast11, we_alen, we_iret, we_aret, we_vret, wl_i1, wl_i2, wl_r1, wl_r2, wl_st, wl_rm0, wl_rm1, Nat.beq, cond_true, cond_false, ax_lvA, Nat.zero_add, Nat.reduceAdd, we_alen_100, we_alen_101, we_alen_102, we_alen_200, we_alen_202, we_alen_114, we_alen_118, we_alen_121]
    refine ax_gv0 (c_X3_clear (d + 3) hS2) (so_28 hS2) (by decide) rfl rfl (Nat.le_of_ble_eq_true rfl) ?_
    simp only [we_iconst_m1, we_iconst_0, we_iconst_1, we_iconst_2, we_iconst_3, we_iconst_4, we_iconst_5, we_bipush_m100, we_bipush_m10, we_bipush_m9, we_bipush_6, we_bipush_7, we_bipush_8, we_bipush_9, we_bipush_10, we_bipush_15, we_bipush_16, we_bipush_17, we_bipush_20, we_bipush_24, we_bipush_31, we_bipush_32, we_bipush_33, we_bipush_40, we_bipush_45, we_bipush_47, we_bipush_48, we_bipush_50, we_bipush_52, we_bipush_53, we_bipush_57, we_bipush_58, we_bipush_60, we_bipush_63, we_bipush_64, we_bipush_65, we_bipush_68, we_bipush_69, we_bipush_71, we_bipush_72, we_bipush_73, we_bipush_80, we_bipush_82, we_bipush_84, we_bipush_97, we_bipush_100, we_bipush_101, we_bipush_103, we_bipush_104, we_bipush_105, we_bipush_107, we_bipush_108, we_bipush_109, we_bipush_110, we_bipush_111, we_bipush_112, we_bipush_115, we_bipush_116, we_bipush_117, we_bipush_122, we_bipush_126, we_bipush_127, we_sipush_128, we_sipush_129, we_sipush_134, we_sipush_135, we_sipush_200, we_sipush_204, we_sipush_255, we_sipush_256, we_sipush_300, we_sipush_320, we_sipush_340, we_sipush_1000, we_sipush_1024, we_sipush_1200, we_sipush_30000, we_ldci, we_ldcs, we_ldcsw, we_aconst_null, we_iload_0, we_aload_0, we_istore_0, we_astore_0, we_iload_1, we_aload_1, we_istore_1, we_astore_1, we_iload_2, we_aload_2, we_istore_2, we_astore_2, we_iload_3, we_aload_3, we_istore_3, we_astore_3, we_iload, we_aload, we_istore, we_astore, we_iinc1, we_iinc_m8, we_iinc_m1, we_iinc_2, we_iinc_5, we_iadd, we_isub, we_imul, we_iand, we_ior, we_ishl, we_ishr, we_iushr, we_idiv, we_irem, we_ineg, we_i2c, we_i2b, we_i2l, we_lcmp, we_dupi, we_popi, we_dupr, we_popr, we_dup2, we_goto, we_if_eq, we_if_ne, we_if_lt, we_if_ge, we_if_gt, we_if_le, we_icmp_eq, we_icmp_ne, we_icmp_lt, we_icmp_ge, we_icmp_gt, we_icmp_le, we_ifnull_n, we_ifnull_s, we_ifnonnull_n, we_ifnonnull_s, we_getf, we_getfr, we_getsv, we_getsc, we_putfr, we_putf, we_getst0, we_getst1, we_getst2, we_iald, we_iald2, we_cald, we_bald, we_bald2, we_zald, we_aald4, we_aald8, we_aald11, we_iast, we_cast, we_zast, we_bast, we_aast4, we_aast8, we_aast11, we_alen, we_iret, we_aret, we_vret, wl_i1, wl_i2, wl_r1, wl_r2, wl_st, wl_rm0, wl_rm1, Nat.beq, cond_true, cond_false, ax_lvA, Nat.zero_add, Nat.reduceAdd, we_alen_100, we_alen_101, we_alen_102, we_alen_200, we_alen_202, we_alen_114, we_alen_118, we_alen_121]
    first | exact hQ | exact ⟨trivial, hQ⟩ | exact ⟨rfl, hQ⟩
  by_cases aw : ax_hi R 27 10 = 0
  · have hp : fPmp R = fBod 1000 c R := by unfold fPmp; rw [if_pos aw, hcc]
    have ok := ok_all 1000 W (by omega) (Or.inl (by have := Ph_b W.x; omega))
    simp only [bl_X1_receive_86, so_27 hR, aw, if_true, we_iconst_m1, we_iconst_0, we_iconst_1, we_iconst_2, we_iconst_3, we_iconst_4, we_iconst_5, we_bipush_m100, we_bipush_m10, we_bipush_m9, we_bipush_6, we_bipush_7, we_bipush_8, we_bipush_9, we_bipush_10, we_bipush_15, we_bipush_16, we_bipush_17, we_bipush_20, we_bipush_24, we_bipush_31, we_bipush_32, we_bipush_33, we_bipush_40, we_bipush_45, we_bipush_47, we_bipush_48, we_bipush_50, we_bipush_52, we_bipush_53, we_bipush_57, we_bipush_58, we_bipush_60, we_bipush_63, we_bipush_64, we_bipush_65, we_bipush_68, we_bipush_69, we_bipush_71, we_bipush_72, we_bipush_73, we_bipush_80, we_bipush_82, we_bipush_84, we_bipush_97, we_bipush_100, we_bipush_101, we_bipush_103, we_bipush_104, we_bipush_105, we_bipush_107, we_bipush_108, we_bipush_109, we_bipush_110, we_bipush_111, we_bipush_112, we_bipush_115, we_bipush_116, we_bipush_117, we_bipush_122, we_bipush_126, we_bipush_127, we_sipush_128, we_sipush_129, we_sipush_134, we_sipush_135, we_sipush_200, we_sipush_204, we_sipush_255, we_sipush_256, we_sipush_300, we_sipush_320, we_sipush_340, we_sipush_1000, we_sipush_1024, we_sipush_1200, we_sipush_30000, we_ldci, we_ldcs, we_ldcsw, we_aconst_null, we_iload_0, we_aload_0, we_istore_0, we_astore_0, we_iload_1, we_aload_1, we_istore_1, we_astore_1, we_iload_2, we_aload_2, we_istore_2, we_astore_2, we_iload_3, we_aload_3, we_istore_3, we_astore_3, we_iload, we_aload, we_istore, we_astore, we_iinc1, we_iinc_m8, we_iinc_m1, we_iinc_2, we_iinc_5, we_iadd, we_isub, we_imul, we_iand, we_ior, we_ishl, we_ishr, we_iushr, we_idiv, we_irem, we_ineg, we_i2c, we_i2b, we_i2l, we_lcmp, we_dupi, we_popi, we_dupr, we_popr, we_dup2, we_goto, we_if_eq, we_if_ne, we_if_lt, we_if_ge, we_if_gt, we_if_le, we_icmp_eq, we_icmp_ne, we_icmp_lt, we_icmp_ge, we_icmp_gt, we_icmp_le, we_ifnull_n, we_ifnull_s, we_ifnonnull_n, we_ifnonnull_s, we_getf, we_getfr, we_getsv, we_getsc, we_putfr, we_putf, we_getst0, we_getst1, we_getst2, we_iald, we_iald2, we_cald, we_bald, we_bald2, we_zald, we_aald4, we_aald8, we_aald11, we_iast, we_cast, we_zast, we_bast, we_aast4, we_aast8, we_aast11, we_alen, we_iret, we_aret, we_vret, wl_i1, wl_i2, wl_r1, wl_r2, wl_st, wl_rm0, wl_rm1, Nat.beq, cond_true, cond_false, ax_lvA, Nat.zero_add, Nat.reduceAdd, we_alen_100, we_alen_101, we_alen_102, we_alen_200, we_alen_202, we_alen_114, we_alen_118, we_alen_121]
    refine ax_gv0 (c_X1_sendBodies d hR W.o.1 ok) (so_27 hR) (by decide) rfl rfl (Nat.le_of_ble_eq_true rfl) ?_
    rw [← hp]
    try simp only [at_X1_receive_97, we_iconst_m1, we_iconst_0, we_iconst_1, we_iconst_2, we_iconst_3, we_iconst_4, we_iconst_5, we_bipush_m100, we_bipush_m10, we_bipush_m9, we_bipush_6, we_bipush_7, we_bipush_8, we_bipush_9, we_bipush_10, we_bipush_15, we_bipush_16, we_bipush_17, we_bipush_20, we_bipush_24, we_bipush_31, we_bipush_32, we_bipush_33, we_bipush_40, we_bipush_45, we_bipush_47, we_bipush_48, we_bipush_50, we_bipush_52, we_bipush_53, we_bipush_57, we_bipush_58, we_bipush_60, we_bipush_63, we_bipush_64, we_bipush_65, we_bipush_68, we_bipush_69, we_bipush_71, we_bipush_72, we_bipush_73, we_bipush_80, we_bipush_82, we_bipush_84, we_bipush_97, we_bipush_100, we_bipush_101, we_bipush_103, we_bipush_104, we_bipush_105, we_bipush_107, we_bipush_108, we_bipush_109, we_bipush_110, we_bipush_111, we_bipush_112, we_bipush_115, we_bipush_116, we_bipush_117, we_bipush_122, we_bipush_126, we_bipush_127, we_sipush_128, we_sipush_129, we_sipush_134, we_sipush_135, we_sipush_200, we_sipush_204, we_sipush_255, we_sipush_256, we_sipush_300, we_sipush_320, we_sipush_340, we_sipush_1000, we_sipush_1024, we_sipush_1200, we_sipush_30000, we_ldci, we_ldcs, we_ldcsw, we_aconst_null, we_iload_0, we_aload_0, we_istore_0, we_astore_0, we_iload_1, we_aload_1, we_istore_1, we_astore_1, we_iload_2, we_aload_2, we_istore_2, we_astore_2, we_iload_3, we_aload_3, we_istore_3, we_astore_3, we_iload, we_aload, we_istore, we_astore, we_iinc1, we_iinc_m8, we_iinc_m1, we_iinc_2, we_iinc_5, we_iadd, we_isub, we_imul, we_iand, we_ior, we_ishl, we_ishr, we_iushr, we_idiv, we_irem, we_ineg, we_i2c, we_i2b, we_i2l, we_lcmp, we_dupi, we_popi, we_dupr, we_popr, we_dup2, we_goto, we_if_eq, we_if_ne, we_if_lt, we_if_ge, we_if_gt, we_if_le, we_icmp_eq, we_icmp_ne, we_icmp_lt, we_icmp_ge, we_icmp_gt, we_icmp_le, we_ifnull_n, we_ifnull_s, we_ifnonnull_n, we_ifnonnull_s, we_getf, we_getfr, we_getsv, we_getsc, we_putfr, we_putf, we_getst0, we_getst1, we_getst2, we_iald, we_iald2, we_cald, we_bald, we_bald2, we_zald, we_aald4, we_aald8, we_aald11, we_iast, we_cast, we_zast, we_bast, we_aast4, we_aast8, we_aast11, we_alen, we_iret, we_aret, we_vret, wl_i1, wl_i2, wl_r1, wl_r2, wl_st, wl_rm0, wl_rm1, Nat.beq, cond_true, cond_false, ax_lvA, Nat.zero_add, Nat.reduceAdd, we_alen_100, we_alen_101, we_alen_102, we_alen_200, we_alen_202, we_alen_114, we_alen_118, we_alen_121]
    exact key (by rw [hp]; exact fBod_SH 1000 hR) _ (ax_le_cons rfl (ax_le_nil _))
  · have hp : fPmp R = R := by unfold fPmp; rw [if_neg aw]
    have k2 := key (by rw [hp]; exact hR)
    rw [hp] at k2
    simp only [bl_X1_receive_86, so_27 hR, aw, if_false, at_X1_receive_97, we_iconst_m1, we_iconst_0, we_iconst_1, we_iconst_2, we_iconst_3, we_iconst_4, we_iconst_5, we_bipush_m100, we_bipush_m10, we_bipush_m9, we_bipush_6, we_bipush_7, we_bipush_8, we_bipush_9, we_bipush_10, we_bipush_15, we_bipush_16, we_bipush_17, we_bipush_20, we_bipush_24, we_bipush_31, we_bipush_32, we_bipush_33, we_bipush_40, we_bipush_45, we_bipush_47, we_bipush_48, we_bipush_50, we_bipush_52, we_bipush_53, we_bipush_57, we_bipush_58, we_bipush_60, we_bipush_63, we_bipush_64, we_bipush_65, we_bipush_68, we_bipush_69, we_bipush_71, we_bipush_72, we_bipush_73, we_bipush_80, we_bipush_82, we_bipush_84, we_bipush_97, we_bipush_100, we_bipush_101, we_bipush_103, we_bipush_104, we_bipush_105, we_bipush_107, we_bipush_108, we_bipush_109, we_bipush_110, we_bipush_111, we_bipush_112, we_bipush_115, we_bipush_116, we_bipush_117, we_bipush_122, we_bipush_126, we_bipush_127, we_sipush_128, we_sipush_129, we_sipush_134, we_sipush_135, we_sipush_200, we_sipush_204, we_sipush_255, we_sipush_256, we_sipush_300, we_sipush_320, we_sipush_340, we_sipush_1000, we_sipush_1024, we_sipush_1200, we_sipush_30000, we_ldci, we_ldcs, we_ldcsw, we_aconst_null, we_iload_0, we_aload_0, we_istore_0, we_astore_0, we_iload_1, we_aload_1, we_istore_1, we_astore_1, we_iload_2, we_aload_2, we_istore_2, we_astore_2, we_iload_3, we_aload_3, we_istore_3, we_astore_3, we_iload, we_aload, we_istore, we_astore, we_iinc1, we_iinc_m8, we_iinc_m1, we_iinc_2, we_iinc_5, we_iadd, we_isub, we_imul, we_iand, we_ior, we_ishl, we_ishr, we_iushr, we_idiv, we_irem, we_ineg, we_i2c, we_i2b, we_i2l, we_lcmp, we_dupi, we_popi, we_dupr, we_popr, we_dup2, we_goto, we_if_eq, we_if_ne, we_if_lt, we_if_ge, we_if_gt, we_if_le, we_icmp_eq, we_icmp_ne, we_icmp_lt, we_icmp_ge, we_icmp_gt, we_icmp_le, we_ifnull_n, we_ifnull_s, we_ifnonnull_n, we_ifnonnull_s, we_getf, we_getfr, we_getsv, we_getsc, we_putfr, we_putf, we_getst0, we_getst1, we_getst2, we_iald, we_iald2, we_cald, we_bald, we_bald2, we_zald, we_aald4, we_aald8, we_aald11, we_iast, we_cast, we_zast, we_bast, we_aast4, we_aast8, we_aast11, we_alen, we_iret, we_aret, we_vret, wl_i1, wl_i2, wl_r1, wl_r2, wl_st, wl_rm0, wl_rm1, Nat.beq, cond_true, cond_false, ax_lvA, Nat.zero_add, Nat.reduceAdd, we_alen_100, we_alen_101, we_alen_102, we_alen_200, we_alen_202, we_alen_114, we_alen_118, we_alen_121]
    exact k2 _ (ax_le_cons rfl (ax_le_nil _))
end AX88
