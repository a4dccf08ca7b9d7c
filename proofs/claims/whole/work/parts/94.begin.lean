/-! begin(), restart(): both -/
section AX94
variable {c p q : Nat} {T : Tb} {P : List (List Int32 × Int32 × Int32)} {B : List Int32} {s N s2 N2 R : ax_M}
/-- the reference side goes on -/
theorem Rl.nx (h : Rl c T P B s N) (hN : SH N2) (g : Sm aN N N2) : Rl c T P B s N2 := by
  refine h.sm h.1 hN h.2.2.2.2.2.2.2.2.1 (Sm.refl _ _) (g.mono fun q k w => ?_)
  unfold bZ bO bV bS bT bP bB at w
  unfold aN
  by_cases h1 : 54 ≤ q ∧ q ≤ 77
  · rw [Nat.ble_eq_true_of_le h1.1, Nat.ble_eq_true_of_le h1.2]; rfl
  · exfalso
    have e : ∀ n, 54 ≤ n → n ≤ 77 → Nat.beq q n = false := fun n a b => nbq (by omega)
    rw [show (Nat.ble 63 q && Nat.ble q 72) = false by
      rcases Nat.lt_or_ge q 63 with w2 | w2
      · rw [show Nat.ble 63 q = false by rw [← Bool.not_eq_true]; intro w3; have := Nat.le_of_ble_eq_true w3; omega]; rfl
      · rw [show Nat.ble q 72 = false by rw [← Bool.not_eq_true]; intro w3; have := Nat.le_of_ble_eq_true w3; omega, Bool.and_false]] at w
    split at w <;> first | omega | (split at w <;> first | omega | (split at w <;> first | omega | (split at w <;> first | omega | (split at w <;> first | omega | simp at w))))
theorem EH.nx (h : EH p q s N) (g : Sm aN N N2) : EH p q s N2 := by
  obtain ⟨g1, g2, g3, g4, g5, g6, g7⟩ := h
  refine ⟨g1.sm (Sm.refl _ _) (g.mono fun q k w => ?_), g2, ⟨g3.1, (g.at rfl).trans g3.2.1, g3.2.2⟩, ⟨g4.1, (g.at rfl).trans g4.2⟩, fun j hj => (g.at rfl).trans (g5 j hj), g6, by rw [g.at (o := 54) (k := 31) rfl]; exact g7⟩
  unfold bC at w
  split at w
  · rfl
  · exact absurd w (by decide)
theorem RL.nx (h : RL s N) (hN : SH N2) (g : Sm aN N N2) : RL s N2 := by
  obtain ⟨c, T, P, B, h1, h2⟩ := h
  exact ⟨c, T, P, B, h1.nx hN g, fun w => by obtain ⟨p, q, e⟩ := h2 w; exact ⟨p, q, e.nx g⟩⟩
/-- the class side goes on, where only the reference's places changed -/
theorem Rc0.sm (g : Rc0 N N2) {A : Nat → Nat → Bool} (hA : ∀ o k, A o k = true → o < 54) : Sm A N N2 := by
  obtain ⟨h1, h2, h3, h4, h5, h6⟩ := g
  refine ⟨⟨by rw [h5]; exact Nat.le_refl _, fun q _ => ⟨by rw [h1], by rw [h2]⟩⟩, fun q k e => ⟨h6 q k ?_, by rw [h3]⟩⟩
  rcases e with ⟨e, -⟩ | e
  · unfold Im at e
    simp only [Bool.or_eq_true, Bool.and_eq_true] at e
    rcases e with (e | e) | e
    · have : q < 26 := Nat.le_of_ble_eq_true e; omega
    · have := Nat.le_of_ble_eq_true e; omega
    · have := Nat.le_of_ble_eq_true e.1.2; omega
  · exact Or.inl (hA q k e)
theorem aZ_lt (o k : Nat) (h : aZ o k = true) : o < 54 := by
  rcases Nat.lt_or_ge o 54 with w | w
  · exact w
  · exfalso
    unfold aZ aO aV aS aT aP aB at h
    rw [show Nat.ble o 53 = false by rw [← Bool.not_eq_true]; intro w3; have := Nat.le_of_ble_eq_true w3; omega, nbq (show o ≠ 35 by omega), nbq (show o ≠ 37 by omega), nbq (show o ≠ 31 by omega), nbq (show o ≠ 32 by omega)] at h
    split at h <;> first | omega | (split at h <;> first | omega | (split at h <;> first | omega | simp at h))
theorem RL.cx (h : RL s N) (g : Rc0 s s2) : RL s2 N := by
  obtain ⟨c, T, P, B, h1, h2⟩ := h
  have hs2 := g.sh h1.1
  have g6 := g.2.2.2.2.2
  refine ⟨c, T, P, B, h1.sm hs2 h1.2.1 (h1.2.2.2.2.2.2.2.2.1.sm (g.sm fun o k w => by unfold aF at w; have := Nat.eq_of_beq_eq_true w; omega)) (g.sm aZ_lt) (Sm.refl _ _), fun w => ?_⟩
  rw [g6 27 10 (by omega)] at w
  obtain ⟨p, q, e1, e2, e3, e4, e5, e6, e7⟩ := h2 w
  refine ⟨p, q, e1.sm (g.sm fun o k w => by unfold aC at w; split at w; omega; exact absurd w (by decide)) (Sm.refl _ _), (g6 45 0 (by omega)).trans e2, ⟨(g6 27 7 (by omega)).trans e3.1, e3.2⟩, ⟨(g6 28 1 (by omega)).trans e4.1, e4.2⟩, fun j hj => (e5 j hj).trans (g6 29 j (by omega)).symm, ?_, ?_⟩
  · rw [g6 29 0 (by omega)]; exact e6
  · rw [g6 27 8 (by omega)]; exact e7
/-- one memory again -/
theorem RL.one (h : RL R N2) (g : Rc0 R N2) : RL N2 N2 := h.cx g
/-- a number of the reference that no one sees -/
theorem RL.n0 (h : RL s N) (v : Int32) : RL s (ax_si N 54 0 v) := by
  obtain ⟨c, T, P, B, h1, h2⟩ := h
  refine ⟨c, T, P, B, h1.sm h1.1 (h1.2.1.si (by decide)) h1.2.2.2.2.2.2.2.2.1 (Sm.refl _ _) (Sm.si rfl), fun w => ?_⟩
  obtain ⟨p, q, g1, g2, g3, g4, g5, g6, g7⟩ := h2 w
  exact ⟨p, q, g1.sm (Sm.refl _ _) (Sm.si rfl), g2, ⟨g3.1, (wm_h1k rfl).trans g3.2.1, g3.2.2⟩, ⟨g4.1, (wm_h1k rfl).trans g4.2⟩, fun j hj => (wm_h1n rfl).trans (g5 j hj), g6, by rw [wm_h1k rfl]; exact g7⟩
/-- the reference begins -/
def gBg0 (N : ax_M) : ax_M := ax_si (ax_si (ax_si (ax_si N 63 0 0) 63 1 0) 63 2 0) 63 3 0
def gBg1 (N : ax_M) : ax_M := ax_si (ax_si (ax_si (ax_si (ax_si (ax_si (ax_si (ax_si (ax_si (ax_si (ax_si (ax_si (ax_si (ax_si (gBg0 N) 54 6 0) 54 7 24) 54 22 0) 54 23 0) 54 31 1) 54 32 (-1)) 54 34 0) 54 47 0) 54 48 0) 54 49 0) 54 50 100) 54 51 40) 54 52 64) 54 53 0
def gBegin (N : ax_M) : ax_M := gSay (gBg1 N) 0 [2, 4, 0, 0, 3, 4]
theorem gBegin_rc (N : ax_M) : Rc0 N (gBegin N) := by
  have h : Rc0 N (gBg1 N) := by
    unfold gBg1 gBg0
    repeat (refine Rc0.si ?_ rfl rfl)
    exact Rc0.refl N
  unfold gBegin
  exact h.trans (gSay_rc (Rc.refl _) 0 _).r0
theorem bg_it {C : ax_C} {Q : ax_O → ax_M → Prop} {rt : Option FieldType} (hN : SH N) {k : Nat} (hk : k < 4) (next : ∀ lv2, ax_le [(1, .inl (nI (k + 1))), (0, .inr (.inl (some 54)))] lv2 → ax_Ev C pr_X12_begin Q rt bl_X12_begin_2 lv2 [] (ax_si N 63 k 0) 0 0) {lv : ax_L} (hl : ax_le [(1, .inl (nI k)), (0, .inr (.inl (some 54)))] lv) : ax_Ev C pr_X12_begin Q rt bl_X12_begin_2 lv [] N 0 0 := by
  refine ax_Ev_wk hl ?_
  have w : ¬ (4 : Int32) ≤ nI k := nI_ge (b := 4) hk (by omega)
  have i1 : vp_in (nI k) 4 := vp_in_nI hk (by decide)
  have c1 : (nI k).toNatClampNeg = k := nI_clamp (by omega)
  have s1 : nI k + 1 = nI (k + 1) := nI_1 k
  conv => unfold bl_X12_begin_2
  simp only [so_54 hN, so_63 hN, sr_54_12 hN, sl_63 hN, w, i1, c1, s1, at_X12_begin_2, if_false, we_iconst_m1, we_iconst_0, we_iconst_1, we_iconst_2, we_iconst_3, we_iconst_4, we_iconst_5, we_bipush_m100, we_bipush_m10, we_bipush_m9, we_bipush_6, we_bipush_7, we_bipush_8, we_bipush_9, we_bipush_10, we_bipush_15, we_bipush_16, we_bipush_17, we_bipush_20, we_bipush_24, we_bipush_31, we_bipush_32, we_bipush_33, we_bipush_40, we_bipush_45, we_bipush_47, we_bipush_48, we_bipush_50, we_bipush_52, we_bipush_53, we_bipush_57, we_bipush_58, we_bipush_60, we_bipush_63, we_bipush_64, we_bipush_65, we_bipush_68, we_bipush_69, we_bipush_71, we_bipush_72, we_bipush_73, we_bipush_80, we_bipush_82, we_bipush_84, we_bipush_97, we_bipush_100, we_bipush_101, we_bipush_103, we_bipush_104, we_bipush_105, we_bipush_107, we_bipush_108, we_bipush_109, we_bipush_110, we_bipush_111, we_bipush_112, we_bipush_115, we_bipush_116, we_bipush_117, we_bipush_122, we_bipush_126, we_bipush_127, we_sipush_128, we_sipush_129, we_sipush_134, we_sipush_135, we_sipush_200, we_sipush_204, we_sipush_255, we_sipush_256, we_sipush_300, we_sipush_320, we_sipush_340, we_sipush_1000, we_sipush_1024, we_sipush_1200, we_sipush_30000, we_ldci, we_ldcs, we_ldcsw, we_aconst_null, we_iload_0, we_aload_0, we_istore_0, we_astore_0, we_iload_1, we_aload_1, we_istore_1, we_astore_1, we_iload_2, we_aload_2, we_istore_2, we_astore_2, we_iload_3, we_aload_3, we_istore_3, we_astore_3, we_iload, we_aload, we_istore, we_astore, we_iinc1, we_iinc_m8, we_iinc_m1, we_iinc_2, we_iinc_5, we_iadd, we_isub, we_imul, we_iand, we_ior, we_ishl, we_ishr, we_iushr, we_idiv, we_irem, we_ineg, we_i2c, we_i2b, we_i2l, we_lcmp, we_dupi, we_popi, we_dupr, we_popr, we_dup2, we_goto, we_if_eq, we_if_ne, we_if_lt, we_if_ge, we_if_gt, we_if_le, we_icmp_eq, we_icmp_ne, we_icmp_lt, we_icmp_ge, we_icmp_gt, we_icmp_le, we_ifnull_n, we_ifnull_s, we_ifnonnull_n, we_ifnonnull_s, we_getf, we_getfr, we_getsv, we_getsc, we_putfr, we_putf, we_getst0, we_getst1, we_getst2, we_iald, we_iald2, we_cald, we_bald, we_bald2, we_zald, we_aald4, we_aald8, we_aald11, we_iast, we_cast, we_zast, we_bast, we_aast4, we_aast8, we_aast11, we_alen, we_iret, we_aret, we_vret, wl_i1, wl_i2, wl_r1, wl_r2, wl_st, wl_rm0, wl_rm1, Nat.beq, cond_true, cond_false, ax_lvA, Nat.zero_add, Nat.reduceAdd, we_alen_100, we_alen_101, we_alen_102, we_alen_200, we_alen_202, we_alen_114, we_alen_118, we_alen_121]
  exact next _ (ax_le_cons rfl (ax_le_cons rfl (ax_le_nil _)))
theorem r_begin (d : Nat) (hN : SH N) : ax_calls ax_P (d + 3) 115 0 0 [.inr (.inl (some 54))] N (.inl none) (gBegin N) := by
  refine ax_callOf (T := pt_X12_begin) (cod := pr_X12_begin) rfl (by simp [ax_c1]) (Nat.le_of_ble_eq_true rfl) ?_
  show ax_Ev _ pr_X12_begin _ _ bl_X12_begin_0 _ _ _ _ _
  simp only [bl_X12_begin_0, at_X12_begin_2, we_iconst_m1, we_iconst_0, we_iconst_1, we_iconst_2, we_iconst_3, we_iconst_4, we_iconst_5, we_bipush_m100, we_bipush_m10, we_bipush_m9, we_bipush_6, we_bipush_7, we_bipush_8, we_bipush_9, we_bipush_10, we_bipush_15, we_bipush_16, we_bipush_17, we_bipush_20, we_bipush_24, we_bipush_31, we_bipush_32, we_bipush_33, we_bipush_40, we_bipush_45, we_bipush_47, we_bipush_48, we_bipush_50, we_bipush_52, we_bipush_53, we_bipush_57, we_bipush_58, we_bipush_60, we_bipush_63, we_bipush_64, we_bipush_65, we_bipush_68, we_bipush_69, we_bipush_71, we_bipush_72, we_bipush_73, we_bipush_80, we_bipush_82, we_bipush_84, we_bipush_97, we_bipush_100, we_bipush_101, we_bipush_103, we_bipush_104, we_bipush_105, we_bipush_107, we_bipush_108, we_bipush_109, we_bipush_110, we_bipush_111, we_bipush_112, we_bipush_115, we_bipush_116, we_bipush_117, we_bipush_122, we_bipush_126, we_bipush_127, we_sipush_128, we_sipush_129, we_sipush_134, we_sipush_135, we_sipush_200, we_sipush_204, we_sipush_255, we_sipush_256, we_sipush_300, we_sipush_320, we_sipush_340, we_sipush_1000, we_sipush_1024, we_sipush_1200, we_sipush_30000, we_ldci, we_ldcs, we_ldcsw, we_aconst_null, we_iload_0, we_aload_0, we_istore_0, we_astore_0, we_iload_1, we_aload_1, we_istore_1, we_astore_1, we_iload_2, we_aload_2, we_istore_2, we_astore_2, we_iload_3, we_aload_3, we_istore_3, we_astore_3, we_iload, we_aload, we_istore, we_astore, we_iinc1, we_iinc_m8, we_iinc_m1, we_iinc_2, we_iinc_5, we_iadd, we_isub, we_imul, we_iand, we_ior, we_ishl, we_ishr, we_iushr, we_idiv, we_irem, we_ineg, we_i2c, we_i2b, we_i2l, we_lcmp, we_dupi, we_popi, we_dupr, we_popr, we_dup2, we_goto, we_if_eq, we_if_ne, we_if_lt, we_if_ge, we_if_gt, we_if_le, we_icmp_eq, we_icmp_ne, we_icmp_lt, we_icmp_ge, we_icmp_gt, we_icmp_le, we_ifnull_n, we_ifnull_s, we_ifnonnull_n, we_ifnonnull_s, we_getf, we_getfr, we_getsv, we_getsc, we_putfr, we_putf, we_getst0, we_getst1, we_getst2, we_iald, we_iald2, we_cald, we_bald, we_bald2, we_zald, we_aald4, we_aald8, we_aald11, we_iast, we_cast, we_zast, we_bast, we_aast4, we_aast8, we_aast11, we_alen, we_iret, we_aret, we_vret, wl_i1, wl_i2, wl_r1, wl_r2, wl_st, wl_rm0, wl_rm1, Nat.beq, cond_true, cond_false, ax_lvA, Nat.zero_add, Nat.reduceAdd, we_alen_100, we_alen_101, we_alen_102, we_alen_200, we_alen_202, we_alen_114, we_alen_118, we_alen_121]
  have h1 := hN.si (o := 63) (k := 0) (v := 0) (by decide)
  have h2 := h1.si (o := 63) (k := 1) (v := 0) (by decide)
  have h3 := h2.si (o := 63) (k := 2) (v := 0) (by decide)
  have h4 : SH (gBg0 N) := h3.si (o := 63) (k := 3) (v := 0) (by decide)
  refine bg_it hN (k := 0) (by decide) (fun lv1 l1 => bg_it h1 (k := 1) (by decide) (fun lv2 l2 => bg_it h2 (k := 2) (by decide) (fun lv3 l3 => bg_it h3 (k := 3) (by decide) (fun lv4 l4 => ?_) l3) l2) l1) (ax_le_cons rfl (ax_le_cons rfl (ax_le_nil _)))
  rw [show ax_si (ax_si (ax_si (ax_si N 63 0 0) 63 1 0) 63 2 0) 63 3 0 = gBg0 N from rfl]
  refine ax_Ev_wk l4 ?_
  have w : (4 : Int32) ≤ nI (3 + 1) := by decide
  have g5 : SH (gBg1 N) := by
    unfold gBg1
    repeat (refine SH.si ?_ (by decide))
    exact hN
  have e6 : ax_si (ax_si (ax_si (ax_si (ax_si (ax_si (ax_si (ax_si (ax_si (ax_si (ax_si (ax_si (ax_si (ax_si (gBg0 N) 54 6 0) 54 7 24) 54 22 0) 54 23 0) 54 31 1) 54 32 (-1)) 54 34 0) 54 47 0) 54 48 0) 54 49 0) 54 50 100) 54 51 40) 54 52 64) 54 53 0 = gBg1 N := rfl
  have k6 : ax_hi (gBg1 N) 54 53 = nI 0 := by unfold gBg1; exact wm_h1s
  have n6 : narrow (ax_ty 14 6) (.int 0) = .int 0 := rfl
  have m6 : fits (ax_ty 14 6) (.int 0) = true := rfl
  have n7 : narrow (ax_ty 14 7) (.int 24) = .int 24 := rfl
  have m7 : fits (ax_ty 14 7) (.int 24) = true := rfl
  have n22 : narrow (ax_ty 14 22) (.int 0) = .int 0 := rfl
  have m22 : fits (ax_ty 14 22) (.int 0) = true := rfl
  have n23 : narrow (ax_ty 14 23) (.int 0) = .int 0 := rfl
  have m23 : fits (ax_ty 14 23) (.int 0) = true := rfl
  have n31 : narrow (ax_ty 14 31) (.int 1) = .int 1 := rfl
  have m31 : fits (ax_ty 14 31) (.int 1) = true := rfl
  have n32 : narrow (ax_ty 14 32) (.int (-1)) = .int (-1) := rfl
  have m32 : fits (ax_ty 14 32) (.int (-1)) = true := rfl
  have n34 : narrow (ax_ty 14 34) (.int 0) = .int 0 := rfl
  have m34 : fits (ax_ty 14 34) (.int 0) = true := rfl
  have n47 : narrow (ax_ty 14 47) (.int 0) = .int 0 := rfl
  have m47 : fits (ax_ty 14 47) (.int 0) = true := rfl
  have n48 : narrow (ax_ty 14 48) (.int 0) = .int 0 := rfl
  have m48 : fits (ax_ty 14 48) (.int 0) = true := rfl
  have n49 : narrow (ax_ty 14 49) (.int 0) = .int 0 := rfl
  have m49 : fits (ax_ty 14 49) (.int 0) = true := rfl
  have n50 : narrow (ax_ty 14 50) (.int 100) = .int 100 := rfl
  have m50 : fits (ax_ty 14 50) (.int 100) = true := rfl
  have n51 : narrow (ax_ty 14 51) (.int 40) = .int 40 := rfl
  have m51 : fits (ax_ty 14 51) (.int 40) = true := rfl
  have n52 : narrow (ax_ty 14 52) (.int 64) = .int 64 := rfl
  have m52 : fits (ax_ty 14 52) (.int 64) = true := rfl
  have n53 : narrow (ax_ty 14 53) (.int 0) = .int 0 := rfl
  have m53 : fits (ax_ty 14 53) (.int 0) = true := rfl
  conv => unfold bl_X12_begin_2
  simp only [w, bl_X12_begin_20, at_X12_begin_20, so_54 h4, n6, m6, n7, m7, n22, m22, n23, m23, n31, m31, n32, m32, n34, m34, n47, m47, n48, m48, n49, m49, n50, m50, n51, m51, n52, m52, n53, m53, if_true, we_iconst_m1, we_iconst_0, we_iconst_1, we_iconst_2, we_iconst_3, we_iconst_4, we_iconst_5, we_bipush_m100, we_bipush_m10, we_bipush_m9, we_bipush_6, we_bipush_7, we_bipush_8, we_bipush_9, we_bipush_10, we_bipush_15, we_bipush_16, we_bipush_17, we_bipush_20, we_bipush_24, we_bipush_31, we_bipush_32, we_bipush_33, we_bipush_40, we_bipush_45, we_bipush_47, we_bipush_48, we_bipush_50, we_bipush_52, we_bipush_53, we_bipush_57, we_bipush_58, we_bipush_60, we_bipush_63, we_bipush_64, we_bipush_65, we_bipush_68, we_bipush_69, we_bipush_71, we_bipush_72, we_bipush_73, we_bipush_80, we_bipush_82, we_bipush_84, we_bipush_97, we_bipush_100, we_bipush_101, we_bipush_103, we_bipush_104, we_bipush_105, we_bipush_107, we_bipush_108, we_bipush_109, we_bipush_110, we_bipush_111, we_bipush_112, we_bipush_115, we_bipush_116, we_bipush_117, we_bipush_122, we_bipush_126, we_bipush_127, we_sipush_128, we_sipush_129, we_sipush_134, we_sipush_135, we_sipush_200, we_sipush_204, we_sipush_255, we_sipush_256, we_sipush_300, we_sipush_320, we_sipush_340, we_sipush_1000, we_sipush_1024, we_sipush_1200, we_sipush_30000, we_ldci, we_ldcs, we_ldcsw, we_aconst_null, we_iload_0, we_aload_0, we_istore_0, we_astore_0, we_iload_1, we_aload_1, we_istore_1, we_astore_1, we_iload_2, we_aload_2, we_istore_2, we_astore_2, we_iload_3, we_aload_3, we_istore_3, we_astore_3, we_iload, we_aload, we_istore, we_astore, we_iinc1, we_iinc_m8, we_iinc_m1, we_iinc_2, we_iinc_5, we_iadd, we_isub, we_imul, we_iand, we_ior, we_ishl, we_ishr, we_iushr, we_idiv, we_irem, we_ineg, we_i2c, we_i2b, we_i2l, we_lcmp, we_dupi, we_popi, we_dupr, we_popr, we_dup2, we_goto, we_if_eq, we_if_ne, we_if_lt, we_if_ge, we_if_gt, we_if_le, we_icmp_eq, we_icmp_ne, we_icmp_lt, we_icmp_ge, we_icmp_gt, we_icmp_le, we_ifnull_n, we_ifnull_s, we_ifnonnull_n, we_ifnonnull_s, we_getf, we_getfr, we_getsv, we_getsc, we_putfr, we_putf, we_getst0, we_getst1, we_getst2, we_iald, we_iald2, we_cald, we_bald, we_bald2, we_zald, we_aald4, we_aald8, we_aald11, we_iast, we_cast, we_zast, we_bast, we_aast4, we_aast8, we_aast11, we_alen, we_iret, we_aret, we_vret, wl_i1, wl_i2, wl_r1, wl_r2, wl_st, wl_rm0, wl_rm1, Nat.beq, cond_true, cond_false, ax_lvA, Nat.zero_add, Nat.reduceAdd, we_alen_100, we_alen_101, we_alen_102, we_alen_200, we_alen_202, we_alen_114, we_alen_118, we_alen_121, wm_o1, wm_o2, wm_t1, wm_t2, wm_l1, wm_l2, wm_n1, wm_n2, wm_r1, wm_h2]
  rw [e6]
  refine ax_gv0 (r_head d g5 k6 (by decide) 2 4 0 0) (so_54 g5) (by decide) rfl rfl (Nat.le_of_ble_eq_true rfl) ?_
  have g7 := gSay_SH g5 0 [2, 4, 0, 0]
  try simp only [we_iconst_m1, we_iconst_0, we_iconst_1, we_iconst_2, we_iconst_3, we_iconst_4, we_iconst_5, we_bipush_m100, we_bipush_m10, we_bipush_m9, we_bipush_6, we_bipush_7, we_bipush_8, we_bipush_9, we_bipush_10, we_bipush_15, we_bipush_16, we_bipush_17, we_bipush_20, we_bipush_24, we_bipush_31, we_bipush_32, we_bipush_33, we_bipush_40, we_bipush_45, we_bipush_47, we_bipush_48, we_bipush_50, we_bipush_52, we_bipush_53, we_bipush_57, we_bipush_58, we_bipush_60, we_bipush_63, we_bipush_64, we_bipush_65, we_bipush_68, we_bipush_69, we_bipush_71, we_bipush_72, we_bipush_73, we_bipush_80, we_bipush_82, we_bipush_84, we_bipush_97, we_bipush_100, we_bipush_101, we_bipush_103, we_bipush_104, we_bipush_105, we_bipush_107, we_bipush_108, we_bipush_109, we_bipush_110, we_bipush_111, we_bipush_112, we_bipush_115, we_bipush_116, we_bipush_117, we_bipush_122, we_bipush_126, we_bipush_127, we_sipush_128, we_sipush_129, we_sipush_134, we_sipush_135, we_sipush_200, we_sipush_204, we_sipush_255, we_sipush_256, we_sipush_300, we_sipush_320, we_sipush_340, we_sipush_1000, we_sipush_1024, we_sipush_1200, we_sipush_30000, we_ldci, we_ldcs, we_ldcsw, we_aconst_null, we_iload_0, we_aload_0, we_istore_0, we_astore_0, we_iload_1, we_aload_1, we_istore_1, we_astore_1, we_iload_2, we_aload_2, we_istore_2, we_astore_2, we_iload_3, we_aload_3, we_istore_3, we_astore_3, we_iload, we_aload, we_istore, we_astore, we_iinc1, we_iinc_m8, we_iinc_m1, we_iinc_2, we_iinc_5, we_iadd, we_isub, we_imul, we_iand, we_ior, we_ishl, we_ishr, we_iushr, we_idiv, we_irem, we_ineg, we_i2c, we_i2b, we_i2l, we_lcmp, we_dupi, we_popi, we_dupr, we_popr, we_dup2, we_goto, we_if_eq, we_if_ne, we_if_lt, we_if_ge, we_if_gt, we_if_le, we_icmp_eq, we_icmp_ne, we_icmp_lt, we_icmp_ge, we_icmp_gt, we_icmp_le, we_ifnull_n, we_ifnull_s, we_ifnonnull_n, we_ifnonnull_s, we_getf, we_getfr, we_getsv, we_getsc, we_putfr, we_putf, we_getst0, we_getst1, we_getst2, we_iald, we_iald2, we_cald, we_bald, we_bald2, we_zald, we_aald4, we_aald8, we_aald11, we_iast, we_cast, we_zast, we_bast, we_aast4, we_aast8, we_aast11, we_alen, we_iret, we_aret, we_vret, wl_i1, wl_i2, wl_r1, wl_r2, wl_st, wl_rm0, wl_rm1, Nat.beq, cond_true, cond_false, ax_lvA, Nat.zero_add, Nat.reduceAdd, we_alen_100, we_alen_101, we_alen_102, we_alen_200, we_alen_202, we_alen_114, we_alen_118, we_alen_121]
  refine ax_gv0 (r_say (d + 1) g7 (gSay_c k6 _) (by decide) 3) (so_54 g7) (by decide) rfl rfl (Nat.le_of_ble_eq_true rfl) ?_
  rw [gSay_e1]
  have g8 := gSay_SH g5 0 [2, 4, 0, 0, 3]
  try simp only [we_iconst_m1, we_iconst_0, we_iconst_1, we_iconst_2, we_iconst_3, we_iconst_4, we_iconst_5, we_bipush_m100, we_bipush_m10, we_bipush_m9, we_bipush_6, we_bipush_7, we_bipush_8, we_bipush_9, we_bipush_10, we_bipush_15, we_bipush_16, we_bipush_17, we_bipush_20, we_bipush_24, we_bipush_31, we_bipush_32, we_bipush_33, we_bipush_40, we_bipush_45, we_bipush_47, we_bipush_48, we_bipush_50, we_bipush_52, we_bipush_53, we_bipush_57, we_bipush_58, we_bipush_60, we_bipush_63, we_bipush_64, we_bipush_65, we_bipush_68, we_bipush_69, we_bipush_71, we_bipush_72, we_bipush_73, we_bipush_80, we_bipush_82, we_bipush_84, we_bipush_97, we_bipush_100, we_bipush_101, we_bipush_103, we_bipush_104, we_bipush_105, we_bipush_107, we_bipush_108, we_bipush_109, we_bipush_110, we_bipush_111, we_bipush_112, we_bipush_115, we_bipush_116, we_bipush_117, we_bipush_122, we_bipush_126, we_bipush_127, we_sipush_128, we_sipush_129, we_sipush_134, we_sipush_135, we_sipush_200, we_sipush_204, we_sipush_255, we_sipush_256, we_sipush_300, we_sipush_320, we_sipush_340, we_sipush_1000, we_sipush_1024, we_sipush_1200, we_sipush_30000, we_ldci, we_ldcs, we_ldcsw, we_aconst_null, we_iload_0, we_aload_0, we_istore_0, we_astore_0, we_iload_1, we_aload_1, we_istore_1, we_astore_1, we_iload_2, we_aload_2, we_istore_2, we_astore_2, we_iload_3, we_aload_3, we_istore_3, we_astore_3, we_iload, we_aload, we_istore, we_astore, we_iinc1, we_iinc_m8, we_iinc_m1, we_iinc_2, we_iinc_5, we_iadd, we_isub, we_imul, we_iand, we_ior, we_ishl, we_ishr, we_iushr, we_idiv, we_irem, we_ineg, we_i2c, we_i2b, we_i2l, we_lcmp, we_dupi, we_popi, we_dupr, we_popr, we_dup2, we_goto, we_if_eq, we_if_ne, we_if_lt, we_if_ge, we_if_gt, we_if_le, we_icmp_eq, we_icmp_ne, we_icmp_lt, we_icmp_ge, we_icmp_gt, we_icmp_le, we_ifnull_n, we_ifnull_s, we_ifnonnull_n, we_ifnonnull_s, we_getf, we_getfr, we_getsv, we_getsc, we_putfr, we_putf, we_getst0, we_getst1, we_getst2, we_iald, we_iald2, we_cald, we_bald, we_bald2, we_zald, we_aald4, we_aald8, we_aald11, we_iast, we_cast, we_zast, we_bast, we_aast4, we_aast8, we_aast11, we_alen, we_iret, we_aret, we_vret, wl_i1, wl_i2, wl_r1, wl_r2, wl_st, wl_rm0, wl_rm1, Nat.beq, cond_true, cond_false, ax_lvA, Nat.zero_add, Nat.reduceAdd, we_alen_100, we_alen_101, we_alen_102, we_alen_200, we_alen_202, we_alen_114, we_alen_118, we_alen_121]
  refine ax_gv0 (r_say (d + 1) g8 (gSay_c k6 _) (by decide) 4) (so_54 g8) (by decide) rfl rfl (Nat.le_of_ble_eq_true rfl) ?_
  rw [show gSay (gSay (gBg1 N) 0 [2, 4, 0, 0, 3]) (0 + ([2, 4, 0, 0, 3] : List Int32).length) [4] = gBegin N from (gSay_app _ _ _ _).symm]
  simp only [we_iconst_m1, we_iconst_0, we_iconst_1, we_iconst_2, we_iconst_3, we_iconst_4, we_iconst_5, we_bipush_m100, we_bipush_m10, we_bipush_m9, we_bipush_6, we_bipush_7, we_bipush_8, we_bipush_9, we_bipush_10, we_bipush_15, we_bipush_16, we_bipush_17, we_bipush_20, we_bipush_24, we_bipush_31, we_bipush_32, we_bipush_33, we_bipush_40, we_bipush_45, we_bipush_47, we_bipush_48, we_bipush_50, we_bipush_52, we_bipush_53, we_bipush_57, we_bipush_58, we_bipush_60, we_bipush_63, we_bipush_64, we_bipush_65, we_bipush_68, we_bipush_69, we_bipush_71, we_bipush_72, we_bipush_73, we_bipush_80, we_bipush_82, we_bipush_84, we_bipush_97, we_bipush_100, we_bipush_101, we_bipush_103, we_bipush_104, we_bipush_105, we_bipush_107, we_bipush_108, we_bipush_109, we_bipush_110, we_bipush_111, we_bipush_112, we_bipush_115, we_bipush_116, we_bipush_117, we_bipush_122, we_bipush_126, we_bipush_127, we_sipush_128, we_sipush_129, we_sipush_134, we_sipush_135, we_sipush_200, we_sipush_204, we_sipush_255, we_sipush_256, we_sipush_300, we_sipush_320, we_sipush_340, we_sipush_1000, we_sipush_1024, we_sipush_1200, we_sipush_30000, we_ldci, we_ldcs, we_ldcsw, we_aconst_null, we_iload_0, we_aload_0, we_istore_0, we_astore_0, we_iload_1, we_aload_1, we_istore_1, we_astore_1, we_iload_2, we_aload_2, we_istore_2, we_astore_2, we_iload_3, we_aload_3, we_istore_3, we_astore_3, we_iload, we_aload, we_istore, we_astore, we_iinc1, we_iinc_m8, we_iinc_m1, we_iinc_2, we_iinc_5, we_iadd, we_isub, we_imul, we_iand, we_ior, we_ishl, we_ishr, we_iushr, we_idiv, we_irem, we_ineg, we_i2c, we_i2b, we_i2l, we_lcmp, we_dupi, we_popi, we_dupr, we_popr, we_dup2, we_goto, we_if_eq, we_if_ne, we_if_lt, we_if_ge, we_if_gt, we_if_le, we_icmp_eq, we_icmp_ne, we_icmp_lt, we_icmp_ge, we_icmp_gt, we_icmp_le, we_ifnull_n, we_ifnull_s, we_ifnonnull_n, we_ifnonnull_s, we_getf, we_getfr, we_getsv, we_getsc, we_putfr, we_putf, we_getst0, we_getst1, we_getst2, we_iald, we_iald2, we_cald, we_bald, we_bald2, we_zald, we_aald4, we_aald8, we_aald11, we_iast, we_cast, we_zast, we_bast, we_aast4, we_aast8, we_aast11, we_alen, we_iret, we_aret, we_vret, wl_i1, wl_i2, wl_r1, wl_r2, wl_st, wl_rm0, wl_rm1, Nat.beq, cond_true, cond_false, ax_lvA, Nat.zero_add, Nat.reduceAdd, we_alen_100, we_alen_101, we_alen_102, we_alen_200, we_alen_202, we_alen_114, we_alen_118, we_alen_121]
  first | exact trivial | exact ⟨trivial, trivial⟩ | exact ⟨trivial, rfl⟩ | exact ⟨rfl, trivial⟩ | exact ⟨rfl, rfl⟩
/-- what the class's begin leaves -/
def aBg (o k : Nat) : Bool := Nat.beq o 31 || Nat.beq o 32 || Nat.beq o 29 || aN o k
theorem fBegin_sm (s : ax_M) : Sm aBg s (fBegin s) := by
  unfold fBegin fBegin1 fBegin0 fClear fBClear fTClear
  refine Sm.say ?_ _ _ rfl (fun _ => rfl)
  repeat (refine Sm.st ?_ rfl)
  exact Sm.refl _ _
def bBg (o k : Nat) : Bool := match o with
  | 54 => Nat.beq k 1
  | 55 => true
  | 56 => true
  | 57 => true
  | 58 => true
  | 59 => true
  | 60 => true
  | 61 => true
  | 62 => true
  | _ => false
theorem gBegin_sm (N : ax_M) : Sm bBg N (gBegin N) := by
  have h : Sm bBg N (gBg1 N) := by
    unfold gBg1 gBg0
    repeat (refine Sm.st ?_ rfl)
    exact Sm.refl _ _
  unfold gBegin
  exact h.trans (gSay_sm (Sm.refl _ _) 0 _ rfl (fun _ => rfl))
theorem fBegin_hi {o k : Nat} (h1 : o ≠ 33) (h2 : o ≠ 34) : ax_hi (fBegin s) o k = ax_hi (fBegin1 s) o k := by unfold fBegin; exact fSay_hi _ _ _ h1 h2
theorem gBegin_hi {o k : Nat} (h : (Nat.beq o 54 && Nat.beq k 53) = false) (h2 : o ≠ 76) : ax_hi (gBegin N) o k = ax_hi (gBg1 N) o k := by
  unfold gBegin
  have : Sm (fun a b => !(Nat.beq a 54 && Nat.beq b 53) && !(Nat.beq a 76)) (gBg1 N) (gSay (gBg1 N) 0 [2, 4, 0, 0, 3, 4]) := gSay_sm (Sm.refl _ _) 0 _ rfl (fun _ => rfl)
  exact this.at (by rw [h, nbq h2]; rfl)
theorem begin_rl (hs : SH s) (hN : SH N) (hP : EP P s N) (hF : FB s) (hx : ∀ i, i < 7 → Fld s (38 + i) (fx.getD i ([], [])).1 (fx.getD i ([], [])).2 ∧ Ent N i (fx.getD i ([], [])).1 (fx.getD i ([], [])).2) : RL (fBegin s) (gBegin N) := by
  have sm := fBegin_sm s
  have gm := gBegin_sm N
  have hs2 : SH (fBegin s) := fSay_SH (fBegin1_SH hs) 0 _
  have hN2 : SH (gBegin N) := (gBegin_rc N).sh hN
  refine ⟨6, [], P, [], ⟨hs2, hN2, ?_, ?_, ⟨fun k hk => ?_, fun i j hi hj hij a => ?_⟩, ?_, ?_, ?_, ?_, by omega⟩, fun _ => ⟨0, 0, ?_⟩⟩
  · exact (EO.say (c := 0) (l := [2, 4, 0, 0, 3, 4]) ⟨fBegin1_c s, (by unfold gBg1; exact wm_h1s), fun j hj => absurd hj (Nat.not_lt_zero _)⟩)
  · have f : ∀ {k : Nat}, ax_hi (fBegin s) 27 k = ax_hi (fBegin1 s) 27 k := fBegin_hi (by decide) (by decide)
    have f2 : ∀ {k : Nat}, ax_hi (fBegin s) 48 k = ax_hi (fBegin1 s) 48 k := fBegin_hi (by decide) (by decide)
    have g : ∀ {k : Nat}, k ≠ 53 → ax_hi (gBegin N) 54 k = ax_hi (gBg1 N) 54 k := fun hk => gBegin_hi (by rw [nbq hk]; rfl) (by decide)
    refine ⟨?_, ?_, ?_, ?_, ?_, ?_, ?_, 0, by omega, ?_⟩
    · rw [g (by decide), f2]; simp [gBg1, fBegin1, fBegin0, fClear, wm_h1]
    · rw [g (by decide), f]; simp [gBg1, fBegin1, fBegin0, fClear, wm_h1]
    · rw [g (by decide), f]; simp [gBg1, fBegin1, fBegin0, fClear, wm_h1]
    · rw [g (by decide), f2]; simp [gBg1, fBegin1, fBegin0, fClear, wm_h1]
    · rw [g (by decide), f]; simp [gBg1, fBegin1, fBegin0, fClear, wm_h1]
    · rw [g (by decide), f]; simp [gBg1, fBegin1, fBegin0, fClear, wm_h1]
    · rw [f]; simp [fBegin1, wm_h1]
    · rw [f]; simp [fBegin1, wm_h1]; rfl
  · left
    have : k = 0 ∨ k = 1 ∨ k = 2 ∨ k = 3 := by omega
    rw [fBegin_hi (by omega) (by omega), gBegin_hi rfl (by decide)]
    rcases this with rfl | rfl | rfl | rfl <;> (constructor <;> simp [gBg1, gBg0, fBegin1, fBegin0, fClear, wm_h1])
  · exfalso
    have : i = 0 ∨ i = 1 ∨ i = 2 ∨ i = 3 := by omega
    rw [fBegin_hi (by omega) (by omega)] at a
    rcases this with rfl | rfl | rfl | rfl <;> (simp [fBegin1, fBegin0, fClear, wm_h1] at a)
  · refine ⟨⟨by simp, ?_, ?_, ?_⟩, ⟨24, by omega, by decide, ?_, ?_⟩, fun i hi => absurd hi (by simp), fun i hi => absurd hi (by simp), fun i hi => ⟨(hx i hi).1.sm sm, ?_⟩⟩
    · rw [fBegin_hi (by decide) (by decide)]; simp [fBegin1, fBegin0, fClear, fBClear, fTClear, wm_h1]; rfl
    · rw [gBegin_hi rfl (by decide)]; simp [gBg1, wm_h1]; rfl
    · rw [fBegin_hi (by decide) (by decide)]; simp [fBegin1, fBegin0, fClear, fBClear, fTClear, wm_h1]; rfl
    · rw [fBegin_hi (by decide) (by decide)]; simp [fBegin1, fBegin0, fClear, fBClear, fTClear, wm_h1]; rfl
    · rw [gBegin_hi rfl (by decide)]; simp [gBg1, wm_h1]; rfl
    · obtain ⟨a, b, e1, e2, e3, e4⟩ := (hx i hi).2
      exact ⟨a, b, (gm.at rfl).trans e1, (gm.at rfl).trans e2, fun j hj => (gm.at rfl).trans (e3 j hj), fun j hj => (gm.at rfl).trans (e4 j hj)⟩
  · refine hP.sm (sm.mono fun q k w => ?_) (gm.mono fun q k w => ?_)
    · unfold aP at w; unfold aBg; rw [w]; rfl
    · unfold bP at w
      split at w
      · exact w
      · rfl
      · rfl
      · rfl
      · rfl
      · exact absurd w (by decide)
  · refine ⟨by simp, ?_, ?_, fun j hj => absurd hj (by simp), fun x hx => absurd hx (by simp)⟩
    · rw [fBegin_hi (by decide) (by decide)]; simp [fBegin1, fBegin0, fClear, fBClear, wm_h1]; rfl
    · rw [gBegin_hi rfl (by decide)]; simp [gBg1, wm_h1]; rfl
  · exact hF.sm (sm.mono fun q k w => by unfold aF at w; unfold aBg; rw [w]; simp)
  · refine ⟨Or.inl ⟨?_, ?_⟩, ?_, ⟨?_, ?_, by omega⟩, ⟨?_, ?_⟩, fun j hj => absurd hj (by omega), Or.inl (by omega), Or.inl ⟨?_, ?_⟩⟩
    · rw [fBegin_hi (by decide) (by decide)]; simp [fBegin1, fBegin0, fClear, fBClear, wm_h1]
    · rw [gBegin_hi rfl (by decide)]; simp [gBg1, wm_h1]
    · rw [fBegin_hi (by decide) (by decide)]; simp [fBegin1, fBegin0, fClear, fBClear, wm_h1]
    · rw [fBegin_hi (by decide) (by decide)]; simp [fBegin1, wm_h1]; rfl
    · rw [gBegin_hi rfl (by decide)]; simp [gBg1, wm_h1]; rfl
    · rw [fBegin_hi (by decide) (by decide)]; simp [fBegin1, fBegin0, fClear, fBClear, fTClear, wm_h1]; rfl
    · rw [gBegin_hi rfl (by decide)]; simp [gBg1, wm_h1]; rfl
    · rw [fBegin_hi (by decide) (by decide)]; simp [fBegin1, wm_h1]
    · rw [gBegin_hi rfl (by decide)]; simp [gBg1, wm_h1]
theorem RL.begin (h : RL s N) : RL (fBegin s) (gBegin N) := by
  obtain ⟨c, T, P, B, h1, -⟩ := h
  exact begin_rl h1.1 h1.2.1 h1.2.2.2.2.2.2.1 h1.2.2.2.2.2.2.2.2.1 h1.2.2.2.2.2.1.2.2.2.2
theorem c_restart (d : Nat) (hs : SH s) : ax_calls ax_P (d + 4) 102 0 0 [.inr (.inl (some 26))] s (.inl none) (fBegin s) := by
  refine ax_callOf (T := pt_X11_restart) (cod := pr_X11_restart) rfl (by simp [ax_c1]) (Nat.le_of_ble_eq_true rfl) ?_
  show ax_Ev _ pr_X11_restart _ _ bl_X11_restart_0 _ _ _ _ _
  simp only [bl_X11_restart_0, so_26 hs, sr_26_0 hs, we_iconst_m1, we_iconst_0, we_iconst_1, we_iconst_2, we_iconst_3, we_iconst_4, we_iconst_5, we_bipush_m100, we_bipush_m10, we_bipush_m9, we_bipush_6, we_bipush_7, we_bipush_8, we_bipush_9, we_bipush_10, we_bipush_15, we_bipush_16, we_bipush_17, we_bipush_20, we_bipush_24, we_bipush_31, we_bipush_32, we_bipush_33, we_bipush_40, we_bipush_45, we_bipush_47, we_bipush_48, we_bipush_50, we_bipush_52, we_bipush_53, we_bipush_57, we_bipush_58, we_bipush_60, we_bipush_63, we_bipush_64, we_bipush_65, we_bipush_68, we_bipush_69, we_bipush_71, we_bipush_72, we_bipush_73, we_bipush_80, we_bipush_82, we_bipush_84, we_bipush_97, we_bipush_100, we_bipush_101, we_bipush_103, we_bipush_104, we_bipush_105, we_bipush_107, we_bipush_108, we_bipush_109, we_bipush_110, we_bipush_111, we_bipush_112, we_bipush_115, we_bipush_116, we_bipush_117, we_bipush_122, we_bipush_126, we_bipush_127, we_sipush_128, we_sipush_129, we_sipush_134, we_sipush_135, we_sipush_200, we_sipush_204, we_sipush_255, we_sipush_256, we_sipush_300, we_sipush_320, we_sipush_340, we_sipush_1000, we_sipush_1024, we_sipush_1200, we_sipush_30000, we_ldci, we_ldcs, we_ldcsw, we_aconst_null, we_iload_0, we_aload_0, we_istore_0, we_astore_0, we_iload_1, we_aload_1, we_istore_1, we_astore_1, we_iload_2, we_aload_2, we_istore_2, we_astore_2, we_iload_3, we_aload_3, we_istore_3, we_astore_3, we_iload, we_aload, we_istore, we_astore, we_iinc1, we_iinc_m8, we_iinc_m1, we_iinc_2, we_iinc_5, we_iadd, we_isub, we_imul, we_iand, we_ior, we_ishl, we_ishr, we_iushr, we_idiv, we_irem, we_ineg, we_i2c, we_i2b, we_i2l, we_lcmp, we_dupi, we_popi, we_dupr, we_popr, we_dup2, we_goto, we_if_eq, we_if_ne, we_if_lt, we_if_ge, we_if_gt, we_if_le, we_icmp_eq, we_icmp_ne, we_icmp_lt, we_icmp_ge, we_icmp_gt, we_icmp_le, we_ifnull_n, we_ifnull_s, we_ifnonnull_n, we_ifnonnull_s, we_getf, we_getfr, we_getsv, we_getsc, we_putfr, we_putf, we_getst0, we_getst1, we_getst2, we_iald, we_iald2, we_cald, we_bald, we_bald2, we_zald, we_aald4, we_aald8, we_aald11, we_iast, we_cast, we_zast, we_bast, we_aast4, we_aast8, we_aast11, we_alen, we_iret, we_aret, we_vret, wl_i1, wl_i2, wl_r1, wl_r2, wl_st, wl_rm0, wl_rm1, Nat.beq, cond_true, cond_false, ax_lvA, Nat.zero_add, Nat.reduceAdd, we_alen_100, we_alen_101, we_alen_102, we_alen_200, we_alen_202, we_alen_114, we_alen_118, we_alen_121]
  refine ax_gv0 (c_X1_begin d hs) (so_27 hs) (by decide) rfl rfl (Nat.le_of_ble_eq_true rfl) ?_
  simp only [we_iconst_m1, we_iconst_0, we_iconst_1, we_iconst_2, we_iconst_3, we_iconst_4, we_iconst_5, we_bipush_m100, we_bipush_m10, we_bipush_m9, we_bipush_6, we_bipush_7, we_bipush_8, we_bipush_9, we_bipush_10, we_bipush_15, we_bipush_16, we_bipush_17, we_bipush_20, we_bipush_24, we_bipush_31, we_bipush_32, we_bipush_33, we_bipush_40, we_bipush_45, we_bipush_47, we_bipush_48, we_bipush_50, we_bipush_52, we_bipush_53, we_bipush_57, we_bipush_58, we_bipush_60, we_bipush_63, we_bipush_64, we_bipush_65, we_bipush_68, we_bipush_69, we_bipush_71, we_bipush_72, we_bipush_73, we_bipush_80, we_bipush_82, we_bipush_84, we_bipush_97, we_bipush_100, we_bipush_101, we_bipush_103, we_bipush_104, we_bipush_105, we_bipush_107, we_bipush_108, we_bipush_109, we_bipush_110, we_bipush_111, we_bipush_112, we_bipush_115, we_bipush_116, we_bipush_117, we_bipush_122, we_bipush_126, we_bipush_127, we_sipush_128, we_sipush_129, we_sipush_134, we_sipush_135, we_sipush_200, we_sipush_204, we_sipush_255, we_sipush_256, we_sipush_300, we_sipush_320, we_sipush_340, we_sipush_1000, we_sipush_1024, we_sipush_1200, we_sipush_30000, we_ldci, we_ldcs, we_ldcsw, we_aconst_null, we_iload_0, we_aload_0, we_istore_0, we_astore_0, we_iload_1, we_aload_1, we_istore_1, we_astore_1, we_iload_2, we_aload_2, we_istore_2, we_astore_2, we_iload_3, we_aload_3, we_istore_3, we_astore_3, we_iload, we_aload, we_istore, we_astore, we_iinc1, we_iinc_m8, we_iinc_m1, we_iinc_2, we_iinc_5, we_iadd, we_isub, we_imul, we_iand, we_ior, we_ishl, we_ishr, we_iushr, we_idiv, we_irem, we_ineg, we_i2c, we_i2b, we_i2l, we_lcmp, we_dupi, we_popi, we_dupr, we_popr, we_dup2, we_goto, we_if_eq, we_if_ne, we_if_lt, we_if_ge, we_if_gt, we_if_le, we_icmp_eq, we_icmp_ne, we_icmp_lt, we_icmp_ge, we_icmp_gt, we_icmp_le, we_ifnull_n, we_ifnull_s, we_ifnonnull_n, we_ifnonnull_s, we_getf, we_getfr, we_getsv, we_getsc, we_putfr, we_putf, we_getst0, we_getst1, we_getst2, we_iald, we_iald2, we_cald, we_bald, we_bald2, we_zald, we_aald4, we_aald8, we_aald11, we_iast, we_cast, we_zast, we_bast, we_aast4, we_aast8, we_aast11, we_alen, we_iret, we_aret, we_vret, wl_i1, wl_i2, wl_r1, wl_r2, wl_st, wl_rm0, wl_rm1, Nat.beq, cond_true, cond_false, ax_lvA, Nat.zero_add, Nat.reduceAdd, we_alen_100, we_alen_101, we_alen_102, we_alen_200, we_alen_202, we_alen_114, we_alen_118, we_alen_121]
  first | exact trivial | exact ⟨trivial, trivial⟩ | exact ⟨trivial, rfl⟩ | exact ⟨rfl, trivial⟩ | exact ⟨rfl, rfl⟩
theorem r_restart (d : Nat) (hN : SH N) : ax_calls ax_P (d + 4) 166 0 0 [.inr (.inl (some 54))] N (.inl none) (gBegin (ax_si N 54 0 0)) := by
  refine ax_callOf (T := pt_X12_restart) (cod := pr_X12_restart) rfl (by simp [ax_c1]) (Nat.le_of_ble_eq_true rfl) ?_
  show ax_Ev _ pr_X12_restart _ _ bl_X12_restart_0 _ _ _ _ _
  have hN1 := hN.si (o := 54) (k := 0) (v := 0) (by decide)
  have n1 : narrow (ax_ty 14 0) (.int 0) = .int 0 := rfl
  have n2 : fits (ax_ty 14 0) (.int 0) = true := rfl
  simp only [bl_X12_restart_0, so_54 hN, n1, n2, we_iconst_m1, we_iconst_0, we_iconst_1, we_iconst_2, we_iconst_3, we_iconst_4, we_iconst_5, we_bipush_m100, we_bipush_m10, we_bipush_m9, we_bipush_6, we_bipush_7, we_bipush_8, we_bipush_9, we_bipush_10, we_bipush_15, we_bipush_16, we_bipush_17, we_bipush_20, we_bipush_24, we_bipush_31, we_bipush_32, we_bipush_33, we_bipush_40, we_bipush_45, we_bipush_47, we_bipush_48, we_bipush_50, we_bipush_52, we_bipush_53, we_bipush_57, we_bipush_58, we_bipush_60, we_bipush_63, we_bipush_64, we_bipush_65, we_bipush_68, we_bipush_69, we_bipush_71, we_bipush_72, we_bipush_73, we_bipush_80, we_bipush_82, we_bipush_84, we_bipush_97, we_bipush_100, we_bipush_101, we_bipush_103, we_bipush_104, we_bipush_105, we_bipush_107, we_bipush_108, we_bipush_109, we_bipush_110, we_bipush_111, we_bipush_112, we_bipush_115, we_bipush_116, we_bipush_117, we_bipush_122, we_bipush_126, we_bipush_127, we_sipush_128, we_sipush_129, we_sipush_134, we_sipush_135, we_sipush_200, we_sipush_204, we_sipush_255, we_sipush_256, we_sipush_300, we_sipush_320, we_sipush_340, we_sipush_1000, we_sipush_1024, we_sipush_1200, we_sipush_30000, we_ldci, we_ldcs, we_ldcsw, we_aconst_null, we_iload_0, we_aload_0, we_istore_0, we_astore_0, we_iload_1, we_aload_1, we_istore_1, we_astore_1, we_iload_2, we_aload_2, we_istore_2, we_astore_2, we_iload_3, we_aload_3, we_istore_3, we_astore_3, we_iload, we_aload, we_istore, we_astore, we_iinc1, we_iinc_m8, we_iinc_m1, we_iinc_2, we_iinc_5, we_iadd, we_isub, we_imul, we_iand, we_ior, we_ishl, we_ishr, we_iushr, we_idiv, we_irem, we_ineg, we_i2c, we_i2b, we_i2l, we_lcmp, we_dupi, we_popi, we_dupr, we_popr, we_dup2, we_goto, we_if_eq, we_if_ne, we_if_lt, we_if_ge, we_if_gt, we_if_le, we_icmp_eq, we_icmp_ne, we_icmp_lt, we_icmp_ge, we_icmp_gt, we_icmp_le, we_ifnull_n, we_ifnull_s, we_ifnonnull_n, we_ifnonnull_s, we_getf, we_getfr, we_getsv, we_getsc, we_putfr, we_putf, we_getst0, we_getst1, we_getst2, we_iald, we_iald2, we_cald, we_bald, we_bald2, we_zald, we_aald4, we_aald8, we_aald11, we_iast, we_cast, we_zast, we_bast, we_aast4, we_aast8, we_aast11, we_alen, we_iret, we_aret, we_vret, wl_i1, wl_i2, wl_r1, wl_r2, wl_st, wl_rm0, wl_rm1, Nat.beq, cond_true, cond_false, ax_lvA, Nat.zero_add, Nat.reduceAdd, we_alen_100, we_alen_101, we_alen_102, we_alen_200, we_alen_202, we_alen_114, we_alen_118, we_alen_121]
  refine ax_gv0 (r_begin d hN1) (so_54 hN1) (by decide) rfl rfl (Nat.le_of_ble_eq_true rfl) ?_
  simp only [we_iconst_m1, we_iconst_0, we_iconst_1, we_iconst_2, we_iconst_3, we_iconst_4, we_iconst_5, we_bipush_m100, we_bipush_m10, we_bipush_m9, we_bipush_6, we_bipush_7, we_bipush_8, we_bipush_9, we_bipush_10, we_bipush_15, we_bipush_16, we_bipush_17, we_bipush_20, we_bipush_24, we_bipush_31, we_bipush_32, we_bipush_33, we_bipush_40, we_bipush_45, we_bipush_47, we_bipush_48, we_bipush_50, we_bipush_52, we_bipush_53, we_bipush_57, we_bipush_58, we_bipush_60, we_bipush_63, we_bipush_64, we_bipush_65, we_bipush_68, we_bipush_69, we_bipush_71, we_bipush_72, we_bipush_73, we_bipush_80, we_bipush_82, we_bipush_84, we_bipush_97, we_bipush_100, we_bipush_101, we_bipush_103, we_bipush_104, we_bipush_105, we_bipush_107, we_bipush_108, we_bipush_109, we_bipush_110, we_bipush_111, we_bipush_112, we_bipush_115, we_bipush_116, we_bipush_117, we_bipush_122, we_bipush_126, we_bipush_127, we_sipush_128, we_sipush_129, we_sipush_134, we_sipush_135, we_sipush_200, we_sipush_204, we_sipush_255, we_sipush_256, we_sipush_300, we_sipush_320, we_sipush_340, we_sipush_1000, we_sipush_1024, we_sipush_1200, we_sipush_30000, we_ldci, we_ldcs, we_ldcsw, we_aconst_null, we_iload_0, we_aload_0, we_istore_0, we_astore_0, we_iload_1, we_aload_1, we_istore_1, we_astore_1, we_iload_2, we_aload_2, we_istore_2, we_astore_2, we_iload_3, we_aload_3, we_istore_3, we_astore_3, we_iload, we_aload, we_istore, we_astore, we_iinc1, we_iinc_m8, we_iinc_m1, we_iinc_2, we_iinc_5, we_iadd, we_isub, we_imul, we_iand, we_ior, we_ishl, we_ishr, we_iushr, we_idiv, we_irem, we_ineg, we_i2c, we_i2b, we_i2l, we_lcmp, we_dupi, we_popi, we_dupr, we_popr, we_dup2, we_goto, we_if_eq, we_if_ne, we_if_lt, we_if_ge, we_if_gt, we_if_le, we_icmp_eq, we_icmp_ne, we_icmp_lt, we_icmp_ge, we_icmp_gt, we_icmp_le, we_ifnull_n, we_ifnull_s, we_ifnonnull_n, we_ifnonnull_s, we_getf, we_getfr, we_getsv, we_getsc, we_putfr, we_putf, we_getst0, we_getst1, we_getst2, we_iald, we_iald2, we_cald, we_bald, we_bald2, we_zald, we_aald4, we_aald8, we_aald11, we_iast, we_cast, we_zast, we_bast, we_aast4, we_aast8, we_aast11, we_alen, we_iret, we_aret, we_vret, wl_i1, wl_i2, wl_r1, wl_r2, wl_st, wl_rm0, wl_rm1, Nat.beq, cond_true, cond_false, ax_lvA, Nat.zero_add, Nat.reduceAdd, we_alen_100, we_alen_101, we_alen_102, we_alen_200, we_alen_202, we_alen_114, we_alen_118, we_alen_121]
  first | exact trivial | exact ⟨trivial, trivial⟩ | exact ⟨trivial, rfl⟩ | exact ⟨rfl, trivial⟩ | exact ⟨rfl, rfl⟩
end AX94
