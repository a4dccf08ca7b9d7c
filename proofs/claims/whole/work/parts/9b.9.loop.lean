/-! THE LAW's LOOP -/
theorem nI_p5 {n : Nat} (h : n < 2147483648) : (nI n - 5).toInt = (n : Int) - 5 := by
  by_cases z : 5 ≤ n
  · rw [show (5 : Int32) = nI 5 from rfl, nI_sub z, nI_int (by omega)]; omega
  · have : n = 0 ∨ n = 1 ∨ n = 2 ∨ n = 3 ∨ n = 4 := by omega
    rcases this with rfl | rfl | rfl | rfl | rfl <;> decide
theorem a15 (y : Int32) : ∃ n, n < 16 ∧ y &&& 15 = nI n := by
  refine ⟨(y.toBitVec &&& 15#32).toNat, ?_, ?_⟩
  · rw [BitVec.toNat_and]
    exact Nat.lt_of_le_of_lt Nat.and_le_right (by decide)
  · unfold nI
    apply Int32.toBitVec_inj.mp
    rw [Int32.toBitVec_and]
    apply BitVec.eq_of_toNat_eq
    rw [show (Int32.ofNat (y.toBitVec &&& 15#32).toNat).toBitVec = BitVec.ofNat 32 (y.toBitVec &&& 15#32).toNat from rfl, BitVec.toNat_ofNat]
    rw [Nat.mod_eq_of_lt (BitVec.isLt _)]
    rfl
section AX114
variable {l : Launch} {G : ax_G} {sp L : Nat} {Q : ax_O → ax_M → Prop}
theorem law_loop (hl : l.stackTraces = false) (hG : ax_Gall G) (hL : L ≤ 2560) (hQ : ∀ M', Q (.inl (some (.inl 1))) M') : ∀ (m i : Nat) {M : ax_M} {rc rs : Nat} {lv : ax_L}, Inv sp L M → i + 5 * m ≤ L → L < i + 5 * m + 5 → 700 * m ≤ rc → 9100 * m ≤ rs → ax_le (lvL sp i) lv → ax_Ev (lawC l G 20) pr_L_law Q (some .boolean) bl_L_law_23 lv [] M rc rs
  | 0, i, M, rc, rs, lv, hI, h1, h2, _, _, hlv => by
    refine ax_Ev_wk hlv ?_
    unfold lvL
    have o0 := hI.2.1
    have l0 := hI.2.2.1
    have w : Int32.ofNat L - 5 < nI i := by
      rw [Int32.lt_iff_toInt_lt, show Int32.ofNat L = nI L from rfl, nI_p5 (by omega), nI_int (by omega)]; omega
    simp only [bl_L_law_23, we_alen_200 o0, l0, w, bl_L_law_516, at_L_law_516, if_true, we_iconst_m1, we_iconst_0, we_iconst_1, we_iconst_2, we_iconst_3, we_iconst_4, we_iconst_5, we_bipush_m100, we_bipush_m10, we_bipush_m9, we_bipush_6, we_bipush_7, we_bipush_8, we_bipush_9, we_bipush_10, we_bipush_15, we_bipush_16, we_bipush_17, we_bipush_20, we_bipush_24, we_bipush_31, we_bipush_32, we_bipush_33, we_bipush_40, we_bipush_45, we_bipush_47, we_bipush_48, we_bipush_50, we_bipush_52, we_bipush_53, we_bipush_57, we_bipush_58, we_bipush_60, we_bipush_63, we_bipush_64, we_bipush_65, we_bipush_68, we_bipush_69, we_bipush_71, we_bipush_72, we_bipush_73, we_bipush_80, we_bipush_82, we_bipush_84, we_bipush_97, we_bipush_100, we_bipush_101, we_bipush_103, we_bipush_104, we_bipush_105, we_bipush_107, we_bipush_108, we_bipush_109, we_bipush_110, we_bipush_111, we_bipush_112, we_bipush_115, we_bipush_116, we_bipush_117, we_bipush_122, we_bipush_126, we_bipush_127, we_sipush_128, we_sipush_129, we_sipush_134, we_sipush_135, we_sipush_200, we_sipush_204, we_sipush_255, we_sipush_256, we_sipush_300, we_sipush_320, we_sipush_340, we_sipush_1000, we_sipush_1024, we_sipush_1200, we_sipush_30000, we_ldci, we_ldcs, we_ldcsw, we_aconst_null, we_iload_0, we_aload_0, we_istore_0, we_astore_0, we_iload_1, we_aload_1, we_istore_1, we_astore_1, we_iload_2, we_aload_2, we_istore_2, we_astore_2, we_iload_3, we_aload_3, we_istore_3, we_astore_3, we_iload, we_aload, we_istore, we_astore, we_iinc1, we_iinc_m8, we_iinc_m1, we_iinc_2, we_iinc_5, we_iadd, we_isub, we_imul, we_iand, we_ior, we_ishl, we_ishr, we_iushr, we_idiv, we_irem, we_ineg, we_i2c, we_i2b, we_i2l, we_lcmp, we_dupi, we_popi, we_dupr, we_popr, we_dup2, we_goto, we_if_eq, we_if_ne, we_if_lt, we_if_ge, we_if_gt, we_if_le, we_icmp_eq, we_icmp_ne, we_icmp_lt, we_icmp_ge, we_icmp_gt, we_icmp_le, we_ifnull_n, we_ifnull_s, we_ifnonnull_n, we_ifnonnull_s, we_getf, we_getfr, we_getsv, we_getsc, we_putfr, we_putf, we_getst0, we_getst1, we_getst2, we_iald, we_iald2, we_cald, we_bald, we_bald2, we_zald, we_aald4, we_aald8, we_aald11, we_iast, we_cast, we_zast, we_bast, we_aast4, we_aast8, we_aast11, we_alen, we_iret, we_aret, we_vret, wl_i1, wl_i2, wl_r1, wl_r2, wl_st, wl_rm0, wl_rm1, Nat.beq, cond_true, cond_false, ax_lvA, Nat.zero_add, Nat.reduceAdd, we_alen_100, we_alen_101, we_alen_102, we_alen_200, we_alen_202, we_alen_114, we_alen_118, we_alen_121]
    exact ⟨⟨.boolean, rfl, by decide⟩, hQ _⟩
  | m + 1, i, M, rc, rs, lv, hI, h1, h2, hc, hsl, hlv => by
    have hlv' := hlv
    refine ax_Ev_wk hlv ?_
    unfold lvL
    have o0 := hI.2.1
    have l0 := hI.2.2.1
    have w : ¬ Int32.ofNat L - 5 < nI i := by
      rw [Int32.lt_iff_toInt_lt, show Int32.ofNat L = nI L from rfl, nI_p5 (by omega), nI_int (by omega)]; omega
    have v0 : vp_in (nI i) L := vp_in_nI (by omega) (by omega)
    have c0 : (nI i).toNatClampNeg = i := nI_clamp (by omega)
    have nxt : ∀ N2 lv2 rc2 rs2, Inv sp L N2 → rc - 700 ≤ rc2 → rs - 9100 ≤ rs2 → ax_le (lvL sp i) lv2 → ax_Ev (lawC l G 20) pr_L_law Q (some .boolean) bl_L_law_510 lv2 [] N2 rc2 rs2 := fun N2 lv2 rc2 rs2 iN a1 a2 a3 => by
      refine ax_Ev_wk a3 ?_
      unfold lvL
      have q5 : nI i + 5 = nI (i + 5) := nI_add i 5
      simp only [bl_L_law_510, q5, at_L_law_23, we_iconst_m1, we_iconst_0, we_iconst_1, we_iconst_2, we_iconst_3, we_iconst_4, we_iconst_5, we_bipush_m100, we_bipush_m10, we_bipush_m9, we_bipush_6, we_bipush_7, we_bipush_8, we_bipush_9, we_bipush_10, we_bipush_15, we_bipush_16, we_bipush_17, we_bipush_20, we_bipush_24, we_bipush_31, we_bipush_32, we_bipush_33, we_bipush_40, we_bipush_45, we_bipush_47, we_bipush_48, we_bipush_50, we_bipush_52, we_bipush_53, we_bipush_57, we_bipush_58, we_bipush_60, we_bipush_63, we_bipush_64, we_bipush_65, we_bipush_68, we_bipush_69, we_bipush_71, we_bipush_72, we_bipush_73, we_bipush_80, we_bipush_82, we_bipush_84, we_bipush_97, we_bipush_100, we_bipush_101, we_bipush_103, we_bipush_104, we_bipush_105, we_bipush_107, we_bipush_108, we_bipush_109, we_bipush_110, we_bipush_111, we_bipush_112, we_bipush_115, we_bipush_116, we_bipush_117, we_bipush_122, we_bipush_126, we_bipush_127, we_sipush_128, we_sipush_129, we_sipush_134, we_sipush_135, we_sipush_200, we_sipush_204, we_sipush_255, we_sipush_256, we_sipush_300, we_sipush_320, we_sipush_340, we_sipush_1000, we_sipush_1024, we_sipush_1200, we_sipush_30000, we_ldci, we_ldcs, we_ldcsw, we_aconst_null, we_iload_0, we_aload_0, we_istore_0, we_astore_0, we_iload_1, we_aload_1, we_istore_1, we_astore_1, we_iload_2, we_aload_2, we_istore_2, we_astore_2, we_iload_3, we_aload_3, we_istore_3, we_astore_3, we_iload, we_aload, we_istore, we_astore, we_iinc1, we_iinc_m8, we_iinc_m1, we_iinc_2, we_iinc_5, we_iadd, we_isub, we_imul, we_iand, we_ior, we_ishl, we_ishr, we_iushr, we_idiv, we_irem, we_ineg, we_i2c, we_i2b, we_i2l, we_lcmp, we_dupi, we_popi, we_dupr, we_popr, we_dup2, we_goto, we_if_eq, we_if_ne, we_if_lt, we_if_ge, we_if_gt, we_if_le, we_icmp_eq, we_icmp_ne, we_icmp_lt, we_icmp_ge, we_icmp_gt, we_icmp_le, we_ifnull_n, we_ifnull_s, we_ifnonnull_n, we_ifnonnull_s, we_getf, we_getfr, we_getsv, we_getsc, we_putfr, we_putf, we_getst0, we_getst1, we_getst2, we_iald, we_iald2, we_cald, we_bald, we_bald2, we_zald, we_aald4, we_aald8, we_aald11, we_iast, we_cast, we_zast, we_bast, we_aast4, we_aast8, we_aast11, we_alen, we_iret, we_aret, we_vret, wl_i1, wl_i2, wl_r1, wl_r2, wl_st, wl_rm0, wl_rm1, Nat.beq, cond_true, cond_false, ax_lvA, Nat.zero_add, Nat.reduceAdd, we_alen_100, we_alen_101, we_alen_102, we_alen_200, we_alen_202, we_alen_114, we_alen_118, we_alen_121]
      exact law_loop hl hG hL hQ m (i + 5) iN (by omega) (by omega) (by omega) (by omega) (ax_le_cons rfl (ax_le_cons rfl (ax_le_cons rfl (ax_le_cons rfl (ax_le_cons rfl (ax_le_nil _))))))
    obtain ⟨t, t16, ht⟩ := a15 (ax_hi M sp i)
    simp only [bl_L_law_23, we_alen_200 o0, o0, l0, w, v0, c0, ht, if_false, we_iconst_m1, we_iconst_0, we_iconst_1, we_iconst_2, we_iconst_3, we_iconst_4, we_iconst_5, we_bipush_m100, we_bipush_m10, we_bipush_m9, we_bipush_6, we_bipush_7, we_bipush_8, we_bipush_9, we_bipush_10, we_bipush_15, we_bipush_16, we_bipush_17, we_bipush_20, we_bipush_24, we_bipush_31, we_bipush_32, we_bipush_33, we_bipush_40, we_bipush_45, we_bipush_47, we_bipush_48, we_bipush_50, we_bipush_52, we_bipush_53, we_bipush_57, we_bipush_58, we_bipush_60, we_bipush_63, we_bipush_64, we_bipush_65, we_bipush_68, we_bipush_69, we_bipush_71, we_bipush_72, we_bipush_73, we_bipush_80, we_bipush_82, we_bipush_84, we_bipush_97, we_bipush_100, we_bipush_101, we_bipush_103, we_bipush_104, we_bipush_105, we_bipush_107, we_bipush_108, we_bipush_109, we_bipush_110, we_bipush_111, we_bipush_112, we_bipush_115, we_bipush_116, we_bipush_117, we_bipush_122, we_bipush_126, we_bipush_127, we_sipush_128, we_sipush_129, we_sipush_134, we_sipush_135, we_sipush_200, we_sipush_204, we_sipush_255, we_sipush_256, we_sipush_300, we_sipush_320, we_sipush_340, we_sipush_1000, we_sipush_1024, we_sipush_1200, we_sipush_30000, we_ldci, we_ldcs, we_ldcsw, we_aconst_null, we_iload_0, we_aload_0, we_istore_0, we_astore_0, we_iload_1, we_aload_1, we_istore_1, we_astore_1, we_iload_2, we_aload_2, we_istore_2, we_astore_2, we_iload_3, we_aload_3, we_istore_3, we_astore_3, we_iload, we_aload, we_istore, we_astore, we_iinc1, we_iinc_m8, we_iinc_m1, we_iinc_2, we_iinc_5, we_iadd, we_isub, we_imul, we_iand, we_ior, we_ishl, we_ishr, we_iushr, we_idiv, we_irem, we_ineg, we_i2c, we_i2b, we_i2l, we_lcmp, we_dupi, we_popi, we_dupr, we_popr, we_dup2, we_goto, we_if_eq, we_if_ne, we_if_lt, we_if_ge, we_if_gt, we_if_le, we_icmp_eq, we_icmp_ne, we_icmp_lt, we_icmp_ge, we_icmp_gt, we_icmp_le, we_ifnull_n, we_ifnull_s, we_ifnonnull_n, we_ifnonnull_s, we_getf, we_getfr, we_getsv, we_getsc, we_putfr, we_putf, we_getst0, we_getst1, we_getst2, we_iald, we_iald2, we_cald, we_bald, we_bald2, we_zald, we_aald4, we_aald8, we_aald11, we_iast, we_cast, we_zast, we_bast, we_aast4, we_aast8, we_aast11, we_alen, we_iret, we_aret, we_vret, wl_i1, wl_i2, wl_r1, wl_r2, wl_st, wl_rm0, wl_rm1, Nat.beq, cond_true, cond_false, ax_lvA, Nat.zero_add, Nat.reduceAdd, we_alen_100, we_alen_101, we_alen_102, we_alen_200, we_alen_202, we_alen_114, we_alen_118, we_alen_121]
    have lv0 : ax_le (lvL sp i) [(4, .inl (nI i)), (3, .inr (.inl (some 77))), (2, .inr (.inl (some 54))), (1, .inr (.inl (some 26))), (0, .inr (.inl (some sp)))] := ax_le_cons rfl (ax_le_cons rfl (ax_le_cons rfl (ax_le_cons rfl (ax_le_cons rfl (ax_le_nil _)))))
    have : t = 0 ∨ t = 1 ∨ t = 2 ∨ t = 3 ∨ t = 4 ∨ t = 5 ∨ t = 6 ∨ t = 7 ∨ t = 8 ∨ t = 9 ∨ 9 < t := by omega
    rcases this with rfl | rfl | rfl | rfl | rfl | rfl | rfl | rfl | rfl | rfl | big
    · rw [we_sw (t := 92) (by decide), at_L_law_92]
      exact lw_92 hI (by omega) hL (by omega) (by omega) nxt hl hG lv0
    · rw [we_sw (t := 184) (by decide), at_L_law_184]
      exact lw_184 hI (by omega) hL (by omega) (by omega) nxt lv0
    · rw [we_sw (t := 221) (by decide), at_L_law_221]
      exact lw_221 hI (by omega) hL (by omega) (by omega) nxt lv0
    · rw [we_sw (t := 232) (by decide), at_L_law_232]
      exact lw_232 hI (by omega) hL (by omega) (by omega) nxt lv0
    · rw [we_sw (t := 245) (by decide), at_L_law_245]
      exact lw_245 hI (by omega) hL (by omega) (by omega) nxt hl hG lv0
    · rw [we_sw (t := 301) (by decide), at_L_law_301]
      exact lw_301 hI (by omega) hL (by omega) (by omega) nxt lv0
    · rw [we_sw (t := 324) (by decide), at_L_law_324]
      exact lw_324 hI (by omega) hL (by omega) (by omega) nxt lv0
    · rw [we_sw (t := 337) (by decide), at_L_law_337]
      exact lw_337 hI (by omega) hL (by omega) (by omega) nxt lv0
    · rw [we_sw (t := 362) (by decide), at_L_law_362]
      exact lw_362 hI (by omega) hL (by omega) (by omega) nxt hl hG lv0
    · rw [we_sw (t := 430) (by decide), at_L_law_430]
      exact lw_430 hI (by omega) hL (by omega) (by omega) nxt hl hG lv0
    · have hsw : swt 39 471 0 9 #[53, 145, 182, 193, 206, 262, 285, 298, 323, 391] (nI t) = some 510 := sw_o (Or.inr (by rw [nI_int (by omega)]; omega)) (by decide) (by decide)
      rw [we_sw hsw, at_L_law_510]
      exact nxt M _ rc rs hI (by omega) (by omega) lv0
end AX114
