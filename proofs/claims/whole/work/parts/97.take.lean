/-! take: the reference; what is taken on both sides -/
def TkI (N : ax_M) (k i : Nat) (M : ax_M) : Prop := SH M ∧ Rc0 N M ∧ (∀ q j, q ≠ 76 → ax_hi M q j = ax_hi N q j) ∧ (∀ j, j < i - k → ax_hi M 76 j = ax_hi N 76 (k + j)) ∧ ∀ j, i - k ≤ j → ax_hi M 76 j = ax_hi N 76 j
def aW (o k : Nat) : Bool := !(Nat.beq o 76) && !(Nat.beq o 54 && (Nat.beq k 0 || Nat.beq k 53))
def TqP (N : ax_M) (c k : Nat) (o : ax_O) (N2 : ax_M) : Prop := o = .inl none ∧ SH N2 ∧ Rc0 N N2 ∧ (∀ q j, aW q j = true → ax_hi N2 q j = ax_hi N q j) ∧ ax_hi N2 54 53 = nI (c - k) ∧ ∀ j, j < c - k → ax_hi N2 76 j = ax_hi N 76 (k + j)
section AX97
variable {c k : Nat} {T : Tb} {P : List (List Int32 × Int32 × Int32)} {B : List Int32} {s N R N2 : ax_M} {x y : Int32}
theorem tk_loop {C : ax_C} {Q : ax_O → ax_M → Prop} {rt : Option FieldType} {rc rs : Nat} (hc : ax_hi N 54 53 = nI c) (hr : c ≤ 1024) (next : ∀ M lv2, TkI N k c M → ax_le [(2, .inl (nI k)), (0, .inr (.inl (some 54)))] lv2 → ax_Ev C pr_X12_take Q rt bl_X12_take_60 lv2 [] M rc rs) : ∀ (r i : Nat) {M : ax_M} {lv : ax_L}, c - i = r → k ≤ i → i ≤ c → TkI N k i M → ax_le [(3, .inl (nI i)), (2, .inl (nI k)), (0, .inr (.inl (some 54)))] lv → ax_Ev C pr_X12_take Q rt bl_X12_take_32 lv [] M rc rs
  | 0, i, M, lv, h, hk, hi, hI, hl => by
    refine ax_Ev_wk hl ?_
    have : i = c := by omega
    subst this
    have hM := hI.1
    have e1 : ax_hi M 54 53 = nI i := (hI.2.2.1 54 53 (by decide)).trans hc
    have w : nI i ≤ nI i := Int32.le_refl _
    conv => unfold bl_X12_take_32
    simp only [so_54 hM, e1, w, at_X12_take_60, if_true, we_iconst_m1, we_iconst_0, we_iconst_1, we_iconst_2, we_iconst_3, we_iconst_4, we_iconst_5, we_bipush_m100, we_bipush_m10, we_bipush_m9, we_bipush_6, we_bipush_7, we_bipush_8, we_bipush_9, we_bipush_10, we_bipush_15, we_bipush_16, we_bipush_17, we_bipush_20, we_bipush_24, we_bipush_31, we_bipush_32, we_bipush_33, we_bipush_40, we_bipush_45, we_bipush_47, we_bipush_48, we_bipush_50, we_bipush_52, we_bipush_53, we_bipush_57, we_bipush_58, we_bipush_60, we_bipush_63, we_bipush_64, we_bipush_65, we_bipush_68, we_bipush_69, we_bipush_71, we_bipush_72, we_bipush_73, we_bipush_80, we_bipush_82, we_bipush_84, we_bipush_97, we_bipush_100, we_bipush_101, we_bipush_103, we_bipush_104, we_bipush_105, we_bipush_107, we_bipush_108, we_bipush_109, we_bipush_110, we_bipush_111, we_bipush_112, we_bipush_115, we_bipush_116, we_bipush_117, we_bipush_122, we_bipush_126, we_bipush_127, we_sipush_128, we_sipush_129, we_sipush_134, we_sipush_135, we_sipush_200, we_sipush_204, we_sipush_255, we_sipush_256, we_sipush_300, we_sipush_320, we_sipush_340, we_sipush_1000, we_sipush_1024, we_sipush_1200, we_sipush_30000, we_ldci, we_ldcs, we_ldcsw, we_aconst_null, we_iload_0, we_aload_0, we_istore_0, we_astore_0, we_iload_1, we_aload_1, we_istore_1, we_astore_1, we_iload_2, we_aload_2, we_istore_2, we_astore_2, we_iload_3, we_aload_3, we_istore_3, we_astore_3, we_iload, we_aload, we_istore, we_astore, we_iinc1, we_iinc_m8, we_iinc_m1, we_iinc_2, we_iinc_5, we_iadd, we_isub, we_imul, we_iand, we_ior, we_ishl, we_ishr, we_iushr, we_idiv, we_irem, we_ineg, we_i2c, we_i2b, we_i2l, we_lcmp, we_dupi, we_popi, we_dupr, we_popr, we_dup2, we_goto, we_if_eq, we_if_ne, we_if_lt, we_if_ge, we_if_gt, we_if_le, we_icmp_eq, we_icmp_ne, we_icmp_lt, we_icmp_ge, we_icmp_gt, we_icmp_le, we_ifnull_n, we_ifnull_s, we_ifnonnull_n, we_ifnonnull_s, we_getf, we_getfr, we_getsv, we_getsc, we_putfr, we_putf, we_getst0, we_getst1, we_getst2, we_iald, we_iald2, we_cald, we_bald, we_bald2, we_zald, we_aald4, we_aald8, we_aald11, we_iast, we_cast, we_zast, we_bast, we_aast4, we_aast8, we_aast11, we_alen, we_iret, we_aret, we_vret, wl_i1, wl_i2, wl_r1, wl_r2, wl_st, wl_rm0, wl_rm1, Nat.beq, cond_true, cond_false, ax_lvA, Nat.zero_add, Nat.reduceAdd, we_alen_100, we_alen_101, we_alen_102, we_alen_200, we_alen_202, we_alen_114, we_alen_118, we_alen_121]
    exact next M _ hI (ax_le_cons rfl (ax_le_cons rfl (ax_le_nil _)))
  | r + 1, i, M, lv, h, hk, hi, hI, hl => by
    refine ax_Ev_wk hl ?_
    have hM := hI.1
    have e1 : ax_hi M 54 53 = nI c := (hI.2.2.1 54 53 (by decide)).trans hc
    have w : ¬ nI c ≤ nI i := nI_ge (by omega) (by omega)
    have sb : nI i - nI k = nI (i - k) := nI_sub hk
    have i1 : vp_in (nI (i - k)) 1200 := vp_in_nI (by omega) (by decide)
    have i2 : vp_in (nI i) 1200 := vp_in_nI (by omega) (by decide)
    have c1 : (nI (i - k)).toNatClampNeg = i - k := nI_clamp (by omega)
    have c2 : (nI i).toNatClampNeg = i := nI_clamp (by omega)
    have s1 : nI i + 1 = nI (i + 1) := nI_1 i
    have e2 : ax_hi M 76 i = ax_hi N 76 i := hI.2.2.2.2 i (by omega)
    conv => unfold bl_X12_take_32
    simp only [so_54 hM, sr_54_54 hM, so_76 hM, sl_76 hM, e1, w, sb, i1, i2, c1, c2, s1, e2, at_X12_take_32, if_false, we_iconst_m1, we_iconst_0, we_iconst_1, we_iconst_2, we_iconst_3, we_iconst_4, we_iconst_5, we_bipush_m100, we_bipush_m10, we_bipush_m9, we_bipush_6, we_bipush_7, we_bipush_8, we_bipush_9, we_bipush_10, we_bipush_15, we_bipush_16, we_bipush_17, we_bipush_20, we_bipush_24, we_bipush_31, we_bipush_32, we_bipush_33, we_bipush_40, we_bipush_45, we_bipush_47, we_bipush_48, we_bipush_50, we_bipush_52, we_bipush_53, we_bipush_57, we_bipush_58, we_bipush_60, we_bipush_63, we_bipush_64, we_bipush_65, we_bipush_68, we_bipush_69, we_bipush_71, we_bipush_72, we_bipush_73, we_bipush_80, we_bipush_82, we_bipush_84, we_bipush_97, we_bipush_100, we_bipush_101, we_bipush_103, we_bipush_104, we_bipush_105, we_bipush_107, we_bipush_108, we_bipush_109, we_bipush_110, we_bipush_111, we_bipush_112, we_bipush_115, we_bipush_116, we_bipush_117, we_bipush_122, we_bipush_126, we_bipush_127, we_sipush_128, we_sipush_129, we_sipush_134, we_sipush_135, we_sipush_200, we_sipush_204, we_sipush_255, we_sipush_256, we_sipush_300, we_sipush_320, we_sipush_340, we_sipush_1000, we_sipush_1024, we_sipush_1200, we_sipush_30000, we_ldci, we_ldcs, we_ldcsw, we_aconst_null, we_iload_0, we_aload_0, we_istore_0, we_astore_0, we_iload_1, we_aload_1, we_istore_1, we_astore_1, we_iload_2, we_aload_2, we_istore_2, we_astore_2, we_iload_3, we_aload_3, we_istore_3, we_astore_3, we_iload, we_aload, we_istore, we_astore, we_iinc1, we_iinc_m8, we_iinc_m1, we_iinc_2, we_iinc_5, we_iadd, we_isub, we_imul, we_iand, we_ior, we_ishl, we_ishr, we_iushr, we_idiv, we_irem, we_ineg, we_i2c, we_i2b, we_i2l, we_lcmp, we_dupi, we_popi, we_dupr, we_popr, we_dup2, we_goto, we_if_eq, we_if_ne, we_if_lt, we_if_ge, we_if_gt, we_if_le, we_icmp_eq, we_icmp_ne, we_icmp_lt, we_icmp_ge, we_icmp_gt, we_icmp_le, we_ifnull_n, we_ifnull_s, we_ifnonnull_n, we_ifnonnull_s, we_getf, we_getfr, we_getsv, we_getsc, we_putfr, we_putf, we_getst0, we_getst1, we_getst2, we_iald, we_iald2, we_cald, we_bald, we_bald2, we_zald, we_aald4, we_aald8, we_aald11, we_iast, we_cast, we_zast, we_bast, we_aast4, we_aast8, we_aast11, we_alen, we_iret, we_aret, we_vret, wl_i1, wl_i2, wl_r1, wl_r2, wl_st, wl_rm0, wl_rm1, Nat.beq, cond_true, cond_false, ax_lvA, Nat.zero_add, Nat.reduceAdd, we_alen_100, we_alen_101, we_alen_102, we_alen_200, we_alen_202, we_alen_114, we_alen_118, we_alen_121]
    refine tk_loop hc hr next r (i + 1) (by omega) (by omega) (by omega) ⟨hM.si (by decide), hI.2.1.si rfl rfl, fun q j hq => (wm_h1n (nbq hq)).trans (hI.2.2.1 q j hq), fun j hj => ?_, fun j hj => ?_⟩ (ax_le_cons rfl (ax_le_cons rfl (ax_le_cons rfl (ax_le_nil _))))
    · by_cases e : j = i - k
      · subst e; rw [wm_h1s]; congr 1; omega
      · rw [wm_h1k (nbq e)]; exact hI.2.2.2.1 j (by omega)
    · rw [wm_h1k (nbq (by omega))]; exact hI.2.2.2.2 j (by omega)
theorem r_take (d : Nat) (hN : SH N) (hc : ax_hi N 54 53 = nI c) (hr : c ≤ 1024) (x : Int32) : ∃ o N2, TqP N c (tkN x c) o N2 ∧ ax_calls ax_P (d + 1) 169 0 0 [.inr (.inl (some 54)), .inl x] N o N2 := by
  refine ax_callEx (T := pt_X12_take) (cod := pr_X12_take) rfl (by simp [ax_c1]) (Nat.le_of_ble_eq_true rfl) ?_
  show ax_Ev _ pr_X12_take _ _ bl_X12_take_0 _ _ _ _ _
  have hk := tkN_le x c
  have hv := tkN_v x hr
  generalize tkN x c = k at *
  have hN1 := hN.si (o := 54) (k := 0) (v := 0) (by decide)
  have n1 : narrow (ax_ty 14 0) (.int 0) = .int 0 := rfl
  have n2 : fits (ax_ty 14 0) (.int 0) = true := rfl
  have hc1 : ax_hi (ax_si N 54 0 0) 54 53 = nI c := (wm_h1k rfl).trans hc
  have key : ∀ lv2, ax_le [(3, .inl (nI k)), (2, .inl (nI k)), (0, .inr (.inl (some 54)))] lv2 → ax_Ev (ax_calls ax_P d) pr_X12_take (TqP N c k) pt_X12_take.1.2.2.2 bl_X12_take_32 lv2 [] (ax_si N 54 0 0) 0 0 := fun lv2 hl2 => by
    refine tk_loop hc1 hr (fun M lv3 hI hl3 => ?_) (c - k) k rfl (Nat.le_refl _) hk ⟨hN1, Rc0.refl _, fun _ _ _ => rfl, fun j hj => by omega, fun _ _ => rfl⟩ hl2
    refine ax_Ev_wk hl3 ?_
    have hM := hI.1
    have e1 : ax_hi M 54 53 = nI c := (hI.2.2.1 54 53 (by decide)).trans hc1
    have sb : nI c - nI k = nI (c - k) := nI_sub hk
    have m1 : narrow (ax_ty 14 53) (.int (nI (c - k))) = .int (nI (c - k)) := rfl
    have m2 : fits (ax_ty 14 53) (.int (nI (c - k))) = true := rfl
    simp only [bl_X12_take_60, so_54 hM, e1, sb, m1, m2, we_iconst_m1, we_iconst_0, we_iconst_1, we_iconst_2, we_iconst_3, we_iconst_4, we_iconst_5, we_bipush_m100, we_bipush_m10, we_bipush_m9, we_bipush_6, we_bipush_7, we_bipush_8, we_bipush_9, we_bipush_10, we_bipush_15, we_bipush_16, we_bipush_17, we_bipush_20, we_bipush_24, we_bipush_31, we_bipush_32, we_bipush_33, we_bipush_40, we_bipush_45, we_bipush_47, we_bipush_48, we_bipush_50, we_bipush_52, we_bipush_53, we_bipush_57, we_bipush_58, we_bipush_60, we_bipush_63, we_bipush_64, we_bipush_65, we_bipush_68, we_bipush_69, we_bipush_71, we_bipush_72, we_bipush_73, we_bipush_80, we_bipush_82, we_bipush_84, we_bipush_97, we_bipush_100, we_bipush_101, we_bipush_103, we_bipush_104, we_bipush_105, we_bipush_107, we_bipush_108, we_bipush_109, we_bipush_110, we_bipush_111, we_bipush_112, we_bipush_115, we_bipush_116, we_bipush_117, we_bipush_122, we_bipush_126, we_bipush_127, we_sipush_128, we_sipush_129, we_sipush_134, we_sipush_135, we_sipush_200, we_sipush_204, we_sipush_255, we_sipush_256, we_sipush_300, we_sipush_320, we_sipush_340, we_sipush_1000, we_sipush_1024, we_sipush_1200, we_sipush_30000, we_ldci, we_ldcs, we_ldcsw, we_aconst_null, we_iload_0, we_aload_0, we_istore_0, we_astore_0, we_iload_1, we_aload_1, we_istore_1, we_astore_1, we_iload_2, we_aload_2, we_istore_2, we_astore_2, we_iload_3, we_aload_3, we_istore_3, we_astore_3, we_iload, we_aload, we_istore, we_astore, we_iinc1, we_iinc_m8, we_iinc_m1, we_iinc_2, we_iinc_5, we_iadd, we_isub, we_imul, we_iand, we_ior, we_ishl, we_ishr, we_iushr, we_idiv, we_irem, we_ineg, we_i2c, we_i2b, we_i2l, we_lcmp, we_dupi, we_popi, we_dupr, we_popr, we_dup2, we_goto, we_if_eq, we_if_ne, we_if_lt, we_if_ge, we_if_gt, we_if_le, we_icmp_eq, we_icmp_ne, we_icmp_lt, we_icmp_ge, we_icmp_gt, we_icmp_le, we_ifnull_n, we_ifnull_s, we_ifnonnull_n, we_ifnonnull_s, we_getf, we_getfr, we_getsv, we_getsc, we_putfr, we_putf, we_getst0, we_getst1, we_getst2, we_iald, we_iald2, we_cald, we_bald, we_bald2, we_zald, we_aald4, we_aald8, we_aald11, we_iast, we_cast, we_zast, we_bast, we_aast4, we_aast8, we_aast11, we_alen, we_iret, we_aret, we_vret, wl_i1, wl_i2, wl_r1, wl_r2, wl_st, wl_rm0, wl_rm1, Nat.beq, cond_true, cond_false, ax_lvA, Nat.zero_add, Nat.reduceAdd, we_alen_100, we_alen_101, we_alen_102, we_alen_200, we_alen_202, we_alen_114, we_alen_118, we_alen_121]
    have : TqP N c k (.inl none) (ax_si M 54 53 (nI (c - k))) := by
      refine ⟨rfl, hM.si (by decide), (((Rc0.refl N).si (o := 54) (k := 0) (v := 0) rfl rfl).trans hI.2.1).si rfl rfl, fun q j hq => ?_, wm_h1s, fun j hj => ?_⟩
      · unfold aW at hq
        simp only [Bool.and_eq_true, Bool.not_eq_true'] at hq
        have q76 : q ≠ 76 := fun w => by rw [w] at hq; exact absurd hq.1 (by decide)
        rw [wm_h1, if_neg, hI.2.2.1 q j q76, wm_h1, if_neg]
        · rintro ⟨rfl, rfl⟩; exact absurd hq.2 (by decide)
        · rintro ⟨rfl, rfl⟩; exact absurd hq.2 (by decide)
      · rw [wm_h1n rfl, hI.2.2.2.1 j hj, wm_h1n rfl]
    first | exact this | exact ⟨trivial, this⟩ | exact ⟨rfl, this⟩
  rcases hv with ⟨a, rfl⟩ | ⟨a, b, rfl⟩ | ⟨a, b, rfl⟩
  · have a' : ¬ 0 ≤ x := Int32.not_le.mpr a
    simp only [bl_X12_take_0, at_X12_take_0, bl_X12_take_29, at_X12_take_29, so_54 hN, n1, n2, a', at_X12_take_32, if_false, we_iconst_m1, we_iconst_0, we_iconst_1, we_iconst_2, we_iconst_3, we_iconst_4, we_iconst_5, we_bipush_m100, we_bipush_m10, we_bipush_m9, we_bipush_6, we_bipush_7, we_bipush_8, we_bipush_9, we_bipush_10, we_bipush_15, we_bipush_16, we_bipush_17, we_bipush_20, we_bipush_24, we_bipush_31, we_bipush_32, we_bipush_33, we_bipush_40, we_bipush_45, we_bipush_47, we_bipush_48, we_bipush_50, we_bipush_52, we_bipush_53, we_bipush_57, we_bipush_58, we_bipush_60, we_bipush_63, we_bipush_64, we_bipush_65, we_bipush_68, we_bipush_69, we_bipush_71, we_bipush_72, we_bipush_73, we_bipush_80, we_bipush_82, we_bipush_84, we_bipush_97, we_bipush_100, we_bipush_101, we_bipush_103, we_bipush_104, we_bipush_105, we_bipush_107, we_bipush_108, we_bipush_109, we_bipush_110, we_bipush_111, we_bipush_112, we_bipush_115, we_bipush_116, we_bipush_117, we_bipush_122, we_bipush_126, we_bipush_127, we_sipush_128, we_sipush_129, we_sipush_134, we_sipush_135, we_sipush_200, we_sipush_204, we_sipush_255, we_sipush_256, we_sipush_300, we_sipush_320, we_sipush_340, we_sipush_1000, we_sipush_1024, we_sipush_1200, we_sipush_30000, we_ldci, we_ldcs, we_ldcsw, we_aconst_null, we_iload_0, we_aload_0, we_istore_0, we_astore_0, we_iload_1, we_aload_1, we_istore_1, we_astore_1, we_iload_2, we_aload_2, we_istore_2, we_astore_2, we_iload_3, we_aload_3, we_istore_3, we_astore_3, we_iload, we_aload, we_istore, we_astore, we_iinc1, we_iinc_m8, we_iinc_m1, we_iinc_2, we_iinc_5, we_iadd, we_isub, we_imul, we_iand, we_ior, we_ishl, we_ishr, we_iushr, we_idiv, we_irem, we_ineg, we_i2c, we_i2b, we_i2l, we_lcmp, we_dupi, we_popi, we_dupr, we_popr, we_dup2, we_goto, we_if_eq, we_if_ne, we_if_lt, we_if_ge, we_if_gt, we_if_le, we_icmp_eq, we_icmp_ne, we_icmp_lt, we_icmp_ge, we_icmp_gt, we_icmp_le, we_ifnull_n, we_ifnull_s, we_ifnonnull_n, we_ifnonnull_s, we_getf, we_getfr, we_getsv, we_getsc, we_putfr, we_putf, we_getst0, we_getst1, we_getst2, we_iald, we_iald2, we_cald, we_bald, we_bald2, we_zald, we_aald4, we_aald8, we_aald11, we_iast, we_cast, we_zast, we_bast, we_aast4, we_aast8, we_aast11, we_alen, we_iret, we_aret, we_vret, wl_i1, wl_i2, wl_r1, wl_r2, wl_st, wl_rm0, wl_rm1, Nat.beq, cond_true, cond_false, ax_lvA, Nat.zero_add, Nat.reduceAdd, we_alen_100, we_alen_101, we_alen_102, we_alen_200, we_alen_202, we_alen_114, we_alen_118, we_alen_121]
    exact key _ (ax_le_cons rfl (ax_le_cons rfl (ax_le_cons rfl (ax_le_nil _))))
  · have a' : 0 ≤ nI k := Int32.not_lt.mp a
    have b' : nI k ≤ nI c := Int32.not_lt.mp b
    simp only [bl_X12_take_0, at_X12_take_0, bl_X12_take_13, at_X12_take_13, bl_X12_take_28, at_X12_take_28, bl_X12_take_29, at_X12_take_29, so_54 hN, so_54 hN1, n1, n2, a', b', hc1, at_X12_take_32, if_true, we_iconst_m1, we_iconst_0, we_iconst_1, we_iconst_2, we_iconst_3, we_iconst_4, we_iconst_5, we_bipush_m100, we_bipush_m10, we_bipush_m9, we_bipush_6, we_bipush_7, we_bipush_8, we_bipush_9, we_bipush_10, we_bipush_15, we_bipush_16, we_bipush_17, we_bipush_20, we_bipush_24, we_bipush_31, we_bipush_32, we_bipush_33, we_bipush_40, we_bipush_45, we_bipush_47, we_bipush_48, we_bipush_50, we_bipush_52, we_bipush_53, we_bipush_57, we_bipush_58, we_bipush_60, we_bipush_63, we_bipush_64, we_bipush_65, we_bipush_68, we_bipush_69, we_bipush_71, we_bipush_72, we_bipush_73, we_bipush_80, we_bipush_82, we_bipush_84, we_bipush_97, we_bipush_100, we_bipush_101, we_bipush_103, we_bipush_104, we_bipush_105, we_bipush_107, we_bipush_108, we_bipush_109, we_bipush_110, we_bipush_111, we_bipush_112, we_bipush_115, we_bipush_116, we_bipush_117, we_bipush_122, we_bipush_126, we_bipush_127, we_sipush_128, we_sipush_129, we_sipush_134, we_sipush_135, we_sipush_200, we_sipush_204, we_sipush_255, we_sipush_256, we_sipush_300, we_sipush_320, we_sipush_340, we_sipush_1000, we_sipush_1024, we_sipush_1200, we_sipush_30000, we_ldci, we_ldcs, we_ldcsw, we_aconst_null, we_iload_0, we_aload_0, we_istore_0, we_astore_0, we_iload_1, we_aload_1, we_istore_1, we_astore_1, we_iload_2, we_aload_2, we_istore_2, we_astore_2, we_iload_3, we_aload_3, we_istore_3, we_astore_3, we_iload, we_aload, we_istore, we_astore, we_iinc1, we_iinc_m8, we_iinc_m1, we_iinc_2, we_iinc_5, we_iadd, we_isub, we_imul, we_iand, we_ior, we_ishl, we_ishr, we_iushr, we_idiv, we_irem, we_ineg, we_i2c, we_i2b, we_i2l, we_lcmp, we_dupi, we_popi, we_dupr, we_popr, we_dup2, we_goto, we_if_eq, we_if_ne, we_if_lt, we_if_ge, we_if_gt, we_if_le, we_icmp_eq, we_icmp_ne, we_icmp_lt, we_icmp_ge, we_icmp_gt, we_icmp_le, we_ifnull_n, we_ifnull_s, we_ifnonnull_n, we_ifnonnull_s, we_getf, we_getfr, we_getsv, we_getsc, we_putfr, we_putf, we_getst0, we_getst1, we_getst2, we_iald, we_iald2, we_cald, we_bald, we_bald2, we_zald, we_aald4, we_aald8, we_aald11, we_iast, we_cast, we_zast, we_bast, we_aast4, we_aast8, we_aast11, we_alen, we_iret, we_aret, we_vret, wl_i1, wl_i2, wl_r1, wl_r2, wl_st, wl_rm0, wl_rm1, Nat.beq, cond_true, cond_false, ax_lvA, Nat.zero_add, Nat.reduceAdd, we_alen_100, we_alen_101, we_alen_102, we_alen_200, we_alen_202, we_alen_114, we_alen_118, we_alen_121]
    exact key _ (ax_le_cons rfl (ax_le_cons rfl (ax_le_cons rfl (ax_le_nil _))))
  · have a' : 0 ≤ x := Int32.not_lt.mp a
    have b' : ¬ x ≤ nI k := Int32.not_le.mpr b
    simp only [bl_X12_take_0, at_X12_take_0, bl_X12_take_13, at_X12_take_13, bl_X12_take_29, at_X12_take_29, so_54 hN, so_54 hN1, n1, n2, a', b', hc1, at_X12_take_32, if_true, if_false, we_iconst_m1, we_iconst_0, we_iconst_1, we_iconst_2, we_iconst_3, we_iconst_4, we_iconst_5, we_bipush_m100, we_bipush_m10, we_bipush_m9, we_bipush_6, we_bipush_7, we_bipush_8, we_bipush_9, we_bipush_10, we_bipush_15, we_bipush_16, we_bipush_17, we_bipush_20, we_bipush_24, we_bipush_31, we_bipush_32, we_bipush_33, we_bipush_40, we_bipush_45, we_bipush_47, we_bipush_48, we_bipush_50, we_bipush_52, we_bipush_53, we_bipush_57, we_bipush_58, we_bipush_60, we_bipush_63, we_bipush_64, we_bipush_65, we_bipush_68, we_bipush_69, we_bipush_71, we_bipush_72, we_bipush_73, we_bipush_80, we_bipush_82, we_bipush_84, we_bipush_97, we_bipush_100, we_bipush_101, we_bipush_103, we_bipush_104, we_bipush_105, we_bipush_107, we_bipush_108, we_bipush_109, we_bipush_110, we_bipush_111, we_bipush_112, we_bipush_115, we_bipush_116, we_bipush_117, we_bipush_122, we_bipush_126, we_bipush_127, we_sipush_128, we_sipush_129, we_sipush_134, we_sipush_135, we_sipush_200, we_sipush_204, we_sipush_255, we_sipush_256, we_sipush_300, we_sipush_320, we_sipush_340, we_sipush_1000, we_sipush_1024, we_sipush_1200, we_sipush_30000, we_ldci, we_ldcs, we_ldcsw, we_aconst_null, we_iload_0, we_aload_0, we_istore_0, we_astore_0, we_iload_1, we_aload_1, we_istore_1, we_astore_1, we_iload_2, we_aload_2, we_istore_2, we_astore_2, we_iload_3, we_aload_3, we_istore_3, we_astore_3, we_iload, we_aload, we_istore, we_astore, we_iinc1, we_iinc_m8, we_iinc_m1, we_iinc_2, we_iinc_5, we_iadd, we_isub, we_imul, we_iand, we_ior, we_ishl, we_ishr, we_iushr, we_idiv, we_irem, we_ineg, we_i2c, we_i2b, we_i2l, we_lcmp, we_dupi, we_popi, we_dupr, we_popr, we_dup2, we_goto, we_if_eq, we_if_ne, we_if_lt, we_if_ge, we_if_gt, we_if_le, we_icmp_eq, we_icmp_ne, we_icmp_lt, we_icmp_ge, we_icmp_gt, we_icmp_le, we_ifnull_n, we_ifnull_s, we_ifnonnull_n, we_ifnonnull_s, we_getf, we_getfr, we_getsv, we_getsc, we_putfr, we_putf, we_getst0, we_getst1, we_getst2, we_iald, we_iald2, we_cald, we_bald, we_bald2, we_zald, we_aald4, we_aald8, we_aald11, we_iast, we_cast, we_zast, we_bast, we_aast4, we_aast8, we_aast11, we_alen, we_iret, we_aret, we_vret, wl_i1, wl_i2, wl_r1, wl_r2, wl_st, wl_rm0, wl_rm1, Nat.beq, cond_true, cond_false, ax_lvA, Nat.zero_add, Nat.reduceAdd, we_alen_100, we_alen_101, we_alen_102, we_alen_200, we_alen_202, we_alen_114, we_alen_118, we_alen_121]
    exact key _ (ax_le_cons rfl (ax_le_cons rfl (ax_le_cons rfl (ax_le_nil _))))
theorem fTk_sm {A : Nat → Nat → Bool} (h1 : A 33 1 = false) (h2 : ∀ k, A 34 k = false) : Sm A s (fTk s c k) := by
  refine ⟨⟨Nat.le_refl _, fun q _ => ⟨rfl, rfl⟩⟩, fun q j e => ⟨?_, rfl⟩⟩
  unfold fTk
  have : ¬ (q = 33 ∧ j = 1) := by
    rintro ⟨rfl, rfl⟩
    rcases e with e | e
    · exact absurd e.1 (by decide)
    · rw [h1] at e; exact absurd e (by decide)
  rw [wm_h1, if_neg this, cp_hi]
  rintro rfl
  rcases e with e | e
  · exact absurd e.1 (by decide)
  · rw [h2] at e; exact absurd e (by decide)
theorem RL.take {o : ax_O} (h : RL s N) (hc : ax_hi s 33 1 = nI c) (hk : k ≤ c) (hr : c ≤ 1024) (hq : TqP N c k o N2) : RL (fTk s c k) N2 := by
  obtain ⟨c', T, P, B, h1, h2⟩ := h
  obtain ⟨-, hN2, hrc, hW, h53, h76⟩ := hq
  have : c' = c := nI_inj (by have := h1.2.2.2.2.2.2.2.2.2; omega) (by omega) (h1.2.2.1.1.symm.trans hc)
  subst this
  have smN : ∀ {A : Nat → Nat → Bool}, (∀ q j, A q j = true → aW q j = true) → Sm A N N2 := fun hA => by
    refine ⟨⟨by rw [hrc.2.2.2.2.1]; exact Nat.le_refl _, fun q _ => ⟨by rw [hrc.1], by rw [hrc.2.1]⟩⟩, fun q j e => ⟨hW q j ?_, by rw [hrc.2.2.1]⟩⟩
    rcases e with ⟨e, -⟩ | e
    · unfold aW
      rw [nbq (show q ≠ 76 by rintro rfl; exact absurd e (by decide)), nbq (show q ≠ 54 by rintro rfl; exact absurd e (by decide))]; rfl
    · exact hA q j e
  have w54 : ∀ {j : Nat}, j ≠ 0 → j ≠ 53 → ax_hi N2 54 j = ax_hi N 54 j := fun a b => hW 54 _ (by unfold aW; rw [nbq a, nbq b]; rfl)
  have wo : ∀ {q j : Nat}, q ≠ 76 → q ≠ 54 → ax_hi N2 q j = ax_hi N q j := fun a b => hW _ _ (by unfold aW; rw [nbq a, nbq b]; rfl)
  obtain ⟨g1, g2, g3, g4, g5, g6, g7, g8, g9, g10⟩ := h1
  refine ⟨c' - k, T, P, B, ⟨?_, hN2, ⟨?_, h53, fun j hj => ?_⟩, g4.sm (fTk_sm rfl (fun _ => rfl)) (smN fun q j w => ?_), g5.sm (fTk_sm rfl (fun _ => rfl)) (smN fun q j w => ?_), g6.sm (fTk_sm rfl (fun _ => rfl)) (smN fun q j w => ?_), g7.sm (fTk_sm rfl (fun _ => rfl)) (smN fun q j w => ?_), g8.sm (fTk_sm rfl (fun _ => rfl)) (smN fun q j w => ?_), g9.sm (fTk_sm rfl (fun _ => rfl)), by omega⟩, fun w => ?_⟩
  · unfold fTk; exact (cp_SH g1).si (by decide)
  · unfold fTk; exact wm_h1s
  · rw [h76 j hj]
    unfold fTk
    rw [wm_h1n rfl, cp_34 hj]
    exact g3.2.2 _ (by omega)
  · unfold bV at w
    split at w
    · unfold aW
      rw [Bool.and_eq_true] at w
      have a1 := Nat.le_of_ble_eq_true w.1
      have a2 := Nat.le_of_ble_eq_true w.2
      rw [nbq (show j ≠ 0 by omega), nbq (show j ≠ 53 by omega)]; rfl
    · exact absurd w (by decide)
  · unfold bS at w
    rw [Bool.and_eq_true] at w
    have a1 := Nat.le_of_ble_eq_true w.1
    have a2 := Nat.le_of_ble_eq_true w.2
    unfold aW
    rw [nbq (show q ≠ 76 by omega), nbq (show q ≠ 54 by omega)]; rfl
  · unfold bT at w
    split at w
    · rw [Bool.or_eq_true] at w
      rcases w with w | w <;> (have := Nat.eq_of_beq_eq_true w; subst this; rfl)
    · rfl
    · rfl
    · rfl
    · rfl
    · exact absurd w (by decide)
  · unfold bP at w
    split at w
    · have := Nat.eq_of_beq_eq_true w; subst this; rfl
    · rfl
    · rfl
    · rfl
    · rfl
    · exact absurd w (by decide)
  · unfold bB at w
    split at w
    · have := Nat.eq_of_beq_eq_true w; subst this; rfl
    · rfl
    · exact absurd w (by decide)
  · have f : ∀ {q j : Nat}, q ≠ 33 → q ≠ 34 → ax_hi (fTk s c' k) q j = ax_hi s q j := fun a b => by unfold fTk; rw [wm_h1n (nbq a), cp_hi b]
    rw [f (by decide) (by decide)] at w
    obtain ⟨p, q, e1, e2, e3, e4, e5, e6, e7⟩ := h2 w
    refine ⟨p, q, e1.sm (fTk_sm rfl (fun _ => rfl)) (smN fun q j w => ?_), (f (by decide) (by decide)).trans e2, ⟨(f (by decide) (by decide)).trans e3.1, (w54 (by decide) (by decide)).trans e3.2.1, e3.2.2⟩, ⟨(f (by decide) (by decide)).trans e4.1, (w54 (by decide) (by decide)).trans e4.2⟩, fun j hj => ?_, ?_, ?_⟩
    · unfold bC at w
      split at w
      · rw [Bool.or_eq_true] at w
        rcases w with w | w <;> (have := Nat.eq_of_beq_eq_true w; subst this; rfl)
      · exact absurd w (by decide)
    · rw [wo (by decide) (by decide), f (by decide) (by decide)]; exact e5 j hj
    · rw [f (by decide) (by decide)]; exact e6
    · rw [f (by decide) (by decide), w54 (by decide) (by decide)]; exact e7
end AX97
