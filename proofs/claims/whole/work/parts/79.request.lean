/-! request(): the reference -/
def t20 (N : ax_M) : List Int32 := (List.range 20).map (fun j => vp_nar .char (ax_hi N 75 j))
theorem t20_len (N : ax_M) : (t20 N).length = 20 := by unfold t20; rw [List.length_map, List.length_range]
theorem t20_get (N : ax_M) {j : Nat} (hj : j < 20) : (t20 N).getD j 0 = vp_nar .char (ax_hi N 75 j) := by
  rw [getD_get (by rw [t20_len]; exact hj)]
  unfold t20
  rw [List.getElem_map, List.getElem_range]
section AX79
variable {N0 : ax_M} {c : Nat} {T : Tb} {P : List (List Int32 × Int32 × Int32)} {B : List Int32} {L : Nat} {s N : ax_M}
theorem cpw_loop {C : ax_C} {Q : ax_O → ax_M → Prop} {rt : Option FieldType} {k : Nat} (hk : k < 4) {N1 : ax_M} {R : ax_M} : ∀ (r : List Int32) (j : Nat) {N : ax_M} {lv : ax_L}, (t20 N1).drop j = r → j ≤ 20 → SH N → (∀ i, ax_hi N 75 i = ax_hi N1 75 i) → R = fWr 72 (20 * k + j) r N → ax_le [(2, .inl (nI j)), (1, .inl (nI k)), (0, .inr (.inl (some 54)))] lv →
    (∀ lv2, ax_le [(1, .inl (nI k)), (0, .inr (.inl (some 54)))] lv2 → ax_Ev C pr_X12_request Q rt bl_X12_request_163 lv2 [] R 0 0) → ax_Ev C pr_X12_request Q rt bl_X12_request_134 lv [] N 0 0
  | [], j, N, lv, hd, hj, h, h75, hR, hle, hn => by
    refine ax_Ev_wk hle ?_
    have hk2 : 20 ≤ j := by
      have := congrArg List.length hd
      rw [List.length_drop, t20_len] at this
      simp at this; omega
    have a1 : (20 : Int32) ≤ nI j := nI_le (a := 20) hk2 (by omega)
    conv => unfold bl_X12_request_134
    simp only [a1, at_X12_request_163, if_true, we_iconst_m1, we_iconst_0, we_iconst_1, we_iconst_2, we_iconst_3, we_iconst_4, we_iconst_5, we_bipush_m100, we_bipush_m10, we_bipush_m9, we_bipush_6, we_bipush_7, we_bipush_8, we_bipush_9, we_bipush_10, we_bipush_15, we_bipush_16, we_bipush_17, we_bipush_20, we_bipush_24, we_bipush_31, we_bipush_32, we_bipush_33, we_bipush_40, we_bipush_45, we_bipush_47, we_bipush_48, we_bipush_50, we_bipush_52, we_bipush_53, we_bipush_57, we_bipush_58, we_bipush_60, we_bipush_63, we_bipush_64, we_bipush_65, we_bipush_68, we_bipush_69, we_bipush_71, we_bipush_72, we_bipush_73, we_bipush_80, we_bipush_82, we_bipush_84, we_bipush_97, we_bipush_100, we_bipush_101, we_bipush_103, we_bipush_104, we_bipush_105, we_bipush_107, we_bipush_108, we_bipush_109, we_bipush_110, we_bipush_111, we_bipush_112, we_bipush_115, we_bipush_116, we_bipush_117, we_bipush_122, we_bipush_126, we_bipush_127, we_sipush_128, we_sipush_129, we_sipush_134, we_sipush_135, we_sipush_200, we_sipush_204, we_sipush_255, we_sipush_256, we_sipush_300, we_sipush_320, we_sipush_340, we_sipush_1000, we_sipush_1024, we_sipush_1200, we_sipush_30000, we_ldci, we_ldcs, we_ldcsw, we_aconst_null, we_iload_0, we_aload_0, we_istore_0, we_astore_0, we_iload_1, we_aload_1, we_istore_1, we_astore_1, we_iload_2, we_aload_2, we_istore_2, we_astore_2, we_iload_3, we_aload_3, we_istore_3, we_astore_3, we_iload, we_aload, we_istore, we_astore, we_iinc1, we_iinc_m8, we_iinc_m1, we_iinc_2, we_iinc_5, we_iadd, we_isub, we_imul, we_iand, we_ior, we_ishl, we_ishr, we_iushr, we_idiv, we_irem, we_ineg, we_i2c, we_i2b, we_i2l, we_lcmp, we_dupi, we_popi, we_dupr, we_popr, we_dup2, we_goto, we_if_eq, we_if_ne, we_if_lt, we_if_ge, we_if_gt, we_if_le, we_icmp_eq, we_icmp_ne, we_icmp_lt, we_icmp_ge, we_icmp_gt, we_icmp_le, we_ifnull_n, we_ifnull_s, we_ifnonnull_n, we_ifnonnull_s, we_getf, we_getfr, we_getsv, we_getsc, we_putfr, we_putf, we_getst0, we_getst1, we_getst2, we_iald, we_iald2, we_cald, we_bald, we_bald2, we_zald, we_aald4, we_aald8, we_aald11, we_iast, we_cast, we_zast, we_bast, we_aast4, we_aast8, we_aast11, we_alen, we_iret, we_aret, we_vret, wl_i1, wl_i2, wl_r1, wl_r2, wl_st, wl_rm0, wl_rm1, Nat.beq, cond_true, cond_false, ax_lvA, Nat.zero_add, Nat.reduceAdd, we_alen_100, we_alen_101, we_alen_102, we_alen_200, we_alen_202, we_alen_114, we_alen_118, we_alen_121]
    rw [hR] at hn
    exact hn _ (ax_le_cons rfl (ax_le_cons rfl (ax_le_nil _)))
  | x :: r, j, N, lv, hd, hj, h, h75, hR, hle, hn => by
    refine ax_Ev_wk hle ?_
    obtain ⟨d1, d2, d3⟩ := drop_get hd
    rw [t20_len] at d1
    rw [t20_get N1 d1] at d2
    have a1 : ¬ (20 : Int32) ≤ nI j := nI_ge (b := 20) d1 (by decide)
    have k1 : nI j + 1 = nI (j + 1) := nI_1 j
    have m1 := m20_t k (by omega)
    have p1 : nI (20 * k) + nI j = nI (20 * k + j) := nI_add _ _
    have i1 : vp_in (nI (20 * k + j)) 80 := vp_in_nI (by omega) (by decide)
    have c1 : (nI (20 * k + j)).toNatClampNeg = 20 * k + j := nI_clamp (by omega)
    have i2 : vp_in (nI j) 20 := vp_in_nI d1 (by decide)
    have c2 : (nI j).toNatClampNeg = j := nI_clamp (by omega)
    have v1 : vp_nar .char (ax_hi N 75 j) = x := by rw [h75 j]; exact d2
    conv => unfold bl_X12_request_134
    simp only [so_54 h, so_72 h, so_75 h, sr_54_21 h, sr_54_46 h, sl_72 h, sl_75 h, a1, k1, m1, p1, i1, c1, i2, c2, v1, at_X12_request_134, if_false, we_iconst_m1, we_iconst_0, we_iconst_1, we_iconst_2, we_iconst_3, we_iconst_4, we_iconst_5, we_bipush_m100, we_bipush_m10, we_bipush_m9, we_bipush_6, we_bipush_7, we_bipush_8, we_bipush_9, we_bipush_10, we_bipush_15, we_bipush_16, we_bipush_17, we_bipush_20, we_bipush_24, we_bipush_31, we_bipush_32, we_bipush_33, we_bipush_40, we_bipush_45, we_bipush_47, we_bipush_48, we_bipush_50, we_bipush_52, we_bipush_53, we_bipush_57, we_bipush_58, we_bipush_60, we_bipush_63, we_bipush_64, we_bipush_65, we_bipush_68, we_bipush_69, we_bipush_71, we_bipush_72, we_bipush_73, we_bipush_80, we_bipush_82, we_bipush_84, we_bipush_97, we_bipush_100, we_bipush_101, we_bipush_103, we_bipush_104, we_bipush_105, we_bipush_107, we_bipush_108, we_bipush_109, we_bipush_110, we_bipush_111, we_bipush_112, we_bipush_115, we_bipush_116, we_bipush_117, we_bipush_122, we_bipush_126, we_bipush_127, we_sipush_128, we_sipush_129, we_sipush_134, we_sipush_135, we_sipush_200, we_sipush_204, we_sipush_255, we_sipush_256, we_sipush_300, we_sipush_320, we_sipush_340, we_sipush_1000, we_sipush_1024, we_sipush_1200, we_sipush_30000, we_ldci, we_ldcs, we_ldcsw, we_aconst_null, we_iload_0, we_aload_0, we_istore_0, we_astore_0, we_iload_1, we_aload_1, we_istore_1, we_astore_1, we_iload_2, we_aload_2, we_istore_2, we_astore_2, we_iload_3, we_aload_3, we_istore_3, we_astore_3, we_iload, we_aload, we_istore, we_astore, we_iinc1, we_iinc_m8, we_iinc_m1, we_iinc_2, we_iinc_5, we_iadd, we_isub, we_imul, we_iand, we_ior, we_ishl, we_ishr, we_iushr, we_idiv, we_irem, we_ineg, we_i2c, we_i2b, we_i2l, we_lcmp, we_dupi, we_popi, we_dupr, we_popr, we_dup2, we_goto, we_if_eq, we_if_ne, we_if_lt, we_if_ge, we_if_gt, we_if_le, we_icmp_eq, we_icmp_ne, we_icmp_lt, we_icmp_ge, we_icmp_gt, we_icmp_le, we_ifnull_n, we_ifnull_s, we_ifnonnull_n, we_ifnonnull_s, we_getf, we_getfr, we_getsv, we_getsc, we_putfr, we_putf, we_getst0, we_getst1, we_getst2, we_iald, we_iald2, we_cald, we_bald, we_bald2, we_zald, we_aald4, we_aald8, we_aald11, we_iast, we_cast, we_zast, we_bast, we_aast4, we_aast8, we_aast11, we_alen, we_iret, we_aret, we_vret, wl_i1, wl_i2, wl_r1, wl_r2, wl_st, wl_rm0, wl_rm1, Nat.beq, cond_true, cond_false, ax_lvA, Nat.zero_add, Nat.reduceAdd, we_alen_100, we_alen_101, we_alen_102, we_alen_200, we_alen_202, we_alen_114, we_alen_118, we_alen_121]
    exact cpw_loop hk r (j + 1) d3 (by omega) (h.si (by decide)) (fun i => (wm_h1n rfl).trans (h75 i)) hR (ax_le_cons rfl (ax_le_cons rfl (ax_le_cons rfl (ax_le_nil _)))) hn
theorem free_loop {C : ax_C} {Q : ax_O → ax_M → Prop} {rt : Option FieldType} (h : SH N) {k : Nat} (hk : k < 4) (hf : ax_hi N 63 k ≤ 0) (hb : ∀ i, i < k → ¬ ax_hi N 63 i ≤ 0) (hn : ∀ lv2, ax_le [(1, .inl (nI k)), (0, .inr (.inl (some 54)))] lv2 → ax_Ev C pr_X12_request Q rt bl_X12_request_61 lv2 [] N 0 0) : ∀ (m j : Nat) {lv : ax_L}, j + m = k → ax_le [(1, .inl (nI j)), (0, .inr (.inl (some 54)))] lv → ax_Ev C pr_X12_request Q rt bl_X12_request_46 lv [] N 0 0
  | 0, j, lv, hj, hle => by
    refine ax_Ev_wk hle ?_
    have : j = k := by omega
    subst this
    obtain ⟨k1, k2, k3⟩ := sC_cl hk
    conv => unfold bl_X12_request_46
    simp only [so_54 h, so_63 h, sr_54_12 h, sl_63 h, k1, k3, hf, at_X12_request_61, if_true, we_iconst_m1, we_iconst_0, we_iconst_1, we_iconst_2, we_iconst_3, we_iconst_4, we_iconst_5, we_bipush_m100, we_bipush_m10, we_bipush_m9, we_bipush_6, we_bipush_7, we_bipush_8, we_bipush_9, we_bipush_10, we_bipush_15, we_bipush_16, we_bipush_17, we_bipush_20, we_bipush_24, we_bipush_31, we_bipush_32, we_bipush_33, we_bipush_40, we_bipush_45, we_bipush_47, we_bipush_48, we_bipush_50, we_bipush_52, we_bipush_53, we_bipush_57, we_bipush_58, we_bipush_60, we_bipush_63, we_bipush_64, we_bipush_65, we_bipush_68, we_bipush_69, we_bipush_71, we_bipush_72, we_bipush_73, we_bipush_80, we_bipush_82, we_bipush_84, we_bipush_97, we_bipush_100, we_bipush_101, we_bipush_103, we_bipush_104, we_bipush_105, we_bipush_107, we_bipush_108, we_bipush_109, we_bipush_110, we_bipush_111, we_bipush_112, we_bipush_115, we_bipush_116, we_bipush_117, we_bipush_122, we_bipush_126, we_bipush_127, we_sipush_128, we_sipush_129, we_sipush_134, we_sipush_135, we_sipush_200, we_sipush_204, we_sipush_255, we_sipush_256, we_sipush_300, we_sipush_320, we_sipush_340, we_sipush_1000, we_sipush_1024, we_sipush_1200, we_sipush_30000, we_ldci, we_ldcs, we_ldcsw, we_aconst_null, we_iload_0, we_aload_0, we_istore_0, we_astore_0, we_iload_1, we_aload_1, we_istore_1, we_astore_1, we_iload_2, we_aload_2, we_istore_2, we_astore_2, we_iload_3, we_aload_3, we_istore_3, we_astore_3, we_iload, we_aload, we_istore, we_astore, we_iinc1, we_iinc_m8, we_iinc_m1, we_iinc_2, we_iinc_5, we_iadd, we_isub, we_imul, we_iand, we_ior, we_ishl, we_ishr, we_iushr, we_idiv, we_irem, we_ineg, we_i2c, we_i2b, we_i2l, we_lcmp, we_dupi, we_popi, we_dupr, we_popr, we_dup2, we_goto, we_if_eq, we_if_ne, we_if_lt, we_if_ge, we_if_gt, we_if_le, we_icmp_eq, we_icmp_ne, we_icmp_lt, we_icmp_ge, we_icmp_gt, we_icmp_le, we_ifnull_n, we_ifnull_s, we_ifnonnull_n, we_ifnonnull_s, we_getf, we_getfr, we_getsv, we_getsc, we_putfr, we_putf, we_getst0, we_getst1, we_getst2, we_iald, we_iald2, we_cald, we_bald, we_bald2, we_zald, we_aald4, we_aald8, we_aald11, we_iast, we_cast, we_zast, we_bast, we_aast4, we_aast8, we_aast11, we_alen, we_iret, we_aret, we_vret, wl_i1, wl_i2, wl_r1, wl_r2, wl_st, wl_rm0, wl_rm1, Nat.beq, cond_true, cond_false, ax_lvA, Nat.zero_add, Nat.reduceAdd, we_alen_100, we_alen_101, we_alen_102, we_alen_200, we_alen_202, we_alen_114, we_alen_118, we_alen_121]
    exact hn _ (ax_le_cons rfl (ax_le_cons rfl (ax_le_nil _)))
  | m + 1, j, lv, hj, hle => by
    refine ax_Ev_wk hle ?_
    obtain ⟨k1, k2, k3⟩ := sC_cl (k := j) (by omega)
    have h1 : nI j + 1 = nI (j + 1) := nI_1 j
    conv => unfold bl_X12_request_46
    simp only [so_54 h, so_63 h, sr_54_12 h, sl_63 h, k1, k3, hb j (by omega), h1, at_X12_request_46, if_false, we_iconst_m1, we_iconst_0, we_iconst_1, we_iconst_2, we_iconst_3, we_iconst_4, we_iconst_5, we_bipush_m100, we_bipush_m10, we_bipush_m9, we_bipush_6, we_bipush_7, we_bipush_8, we_bipush_9, we_bipush_10, we_bipush_15, we_bipush_16, we_bipush_17, we_bipush_20, we_bipush_24, we_bipush_31, we_bipush_32, we_bipush_33, we_bipush_40, we_bipush_45, we_bipush_47, we_bipush_48, we_bipush_50, we_bipush_52, we_bipush_53, we_bipush_57, we_bipush_58, we_bipush_60, we_bipush_63, we_bipush_64, we_bipush_65, we_bipush_68, we_bipush_69, we_bipush_71, we_bipush_72, we_bipush_73, we_bipush_80, we_bipush_82, we_bipush_84, we_bipush_97, we_bipush_100, we_bipush_101, we_bipush_103, we_bipush_104, we_bipush_105, we_bipush_107, we_bipush_108, we_bipush_109, we_bipush_110, we_bipush_111, we_bipush_112, we_bipush_115, we_bipush_116, we_bipush_117, we_bipush_122, we_bipush_126, we_bipush_127, we_sipush_128, we_sipush_129, we_sipush_134, we_sipush_135, we_sipush_200, we_sipush_204, we_sipush_255, we_sipush_256, we_sipush_300, we_sipush_320, we_sipush_340, we_sipush_1000, we_sipush_1024, we_sipush_1200, we_sipush_30000, we_ldci, we_ldcs, we_ldcsw, we_aconst_null, we_iload_0, we_aload_0, we_istore_0, we_astore_0, we_iload_1, we_aload_1, we_istore_1, we_astore_1, we_iload_2, we_aload_2, we_istore_2, we_astore_2, we_iload_3, we_aload_3, we_istore_3, we_astore_3, we_iload, we_aload, we_istore, we_astore, we_iinc1, we_iinc_m8, we_iinc_m1, we_iinc_2, we_iinc_5, we_iadd, we_isub, we_imul, we_iand, we_ior, we_ishl, we_ishr, we_iushr, we_idiv, we_irem, we_ineg, we_i2c, we_i2b, we_i2l, we_lcmp, we_dupi, we_popi, we_dupr, we_popr, we_dup2, we_goto, we_if_eq, we_if_ne, we_if_lt, we_if_ge, we_if_gt, we_if_le, we_icmp_eq, we_icmp_ne, we_icmp_lt, we_icmp_ge, we_icmp_gt, we_icmp_le, we_ifnull_n, we_ifnull_s, we_ifnonnull_n, we_ifnonnull_s, we_getf, we_getfr, we_getsv, we_getsc, we_putfr, we_putf, we_getst0, we_getst1, we_getst2, we_iald, we_iald2, we_cald, we_bald, we_bald2, we_zald, we_aald4, we_aald8, we_aald11, we_iast, we_cast, we_zast, we_bast, we_aast4, we_aast8, we_aast11, we_alen, we_iret, we_aret, we_vret, wl_i1, wl_i2, wl_r1, wl_r2, wl_st, wl_rm0, wl_rm1, Nat.beq, cond_true, cond_false, ax_lvA, Nat.zero_add, Nat.reduceAdd, we_alen_100, we_alen_101, we_alen_102, we_alen_200, we_alen_202, we_alen_114, we_alen_118, we_alen_121]
    exact free_loop h hk hf hb hn m (j + 1) (by omega) (ax_le_cons rfl (ax_le_cons rfl (ax_le_nil _)))
theorem gOpn_sm {A : Nat → Nat → Bool} {k : Nat} {n w l mc pl : Int32} {t : List Int32} (h : ∀ o j, (Nat.ble 63 o && Nat.ble o 72) = true → A o j = false) : Sm A N (gOpn N k n w l mc pl t) := by
  refine ⟨⟨?_, fun q hq => ?_⟩, fun q j e => ⟨?_, ?_⟩⟩
  · unfold gOpn; rw [(fWr_tg _ _ _ _).2.2.2]; exact Nat.le_refl _
  · unfold gOpn; rw [(fWr_tg _ _ _ _).1, (fWr_tg _ _ _ _).2.1]; exact ⟨rfl, rfl⟩
  · have hq : (Nat.ble 63 q && Nat.ble q 72) = false := by
      cases hb : (Nat.ble 63 q && Nat.ble q 72) with
      | false => rfl
      | true =>
        rcases e with e | e
        · exfalso
          have im := e.1
          rw [Bool.and_eq_true] at hb
          have b1 := Nat.le_of_ble_eq_true hb.1
          have b2 := Nat.le_of_ble_eq_true hb.2
          have : q = 63 ∨ q = 64 ∨ q = 65 ∨ q = 66 ∨ q = 67 ∨ q = 68 ∨ q = 69 ∨ q = 70 ∨ q = 71 ∨ q = 72 := by omega
          rcases this with rfl | rfl | rfl | rfl | rfl | rfl | rfl | rfl | rfl | rfl <;> exact absurd im (by decide)
        · rw [h q j hb] at e; exact absurd e (by decide)
    have hq72 : q ≠ 72 := fun w => by rw [w] at hq; exact absurd hq (by decide)
    have hq71 : (Nat.ble 63 q && Nat.ble q 71) = false := by
      cases hb : (Nat.ble 63 q && Nat.ble q 71) with
      | false => rfl
      | true =>
        rw [Bool.and_eq_true] at hb
        have b2 := Nat.le_of_ble_eq_true hb.2
        rw [hb.1, Nat.ble_eq_true_of_le (show q ≤ 72 by omega)] at hq
        exact absurd hq (by decide)
    unfold gOpn; rw [fWr_ne _ _ hq72, gOp0_ne hq71]
  · unfold gOpn; rw [(fWr_tg _ _ _ _).2.2.1]; rfl
theorem fWr_rc {N2 : ax_M} {o : Nat} (h1 : Nat.ble 54 o = true) (h2 : Nat.ble o 76 = true) (h3 : Nat.beq o 54 = false) (h : Rc N N2) : ∀ (k : Nat) (l : List Int32), Rc N (fWr o k l N2) := fun k l => by
  induction l generalizing k N2 with
  | nil => exact h
  | cons x l ih => exact ih (h.si h1 h2 (by unfold rcX; rw [h3]; rfl)) (k + 1)
theorem gOpn_rc {k : Nat} {n w l mc pl : Int32} {t : List Int32} : Rc N (gOpn N k n w l mc pl t) := by
  unfold gOpn gOp0
  exact fWr_rc rfl rfl rfl ((((((((Rc.si (Rc.refl N) rfl rfl).si rfl rfl).si rfl rfl).si rfl rfl).si rfl rfl).si rfl rfl).si rfl rfl).si rfl rfl) _ _
theorem b63 {A : Nat → Nat → Bool} (h : ∀ j, A 63 j = false ∧ A 64 j = false ∧ A 65 j = false ∧ A 66 j = false ∧ A 67 j = false ∧ A 68 j = false ∧ A 69 j = false ∧ A 70 j = false ∧ A 71 j = false ∧ A 72 j = false) : ∀ o j, (Nat.ble 63 o && Nat.ble o 72) = true → A o j = false := fun o j hb => by
  rw [Bool.and_eq_true] at hb
  have b1 := Nat.le_of_ble_eq_true hb.1
  have b2 := Nat.le_of_ble_eq_true hb.2
  obtain ⟨h0, h1, h2, h3, h4, h5, h6, h7, h8, h9⟩ := h j
  have : o = 63 ∨ o = 64 ∨ o = 65 ∨ o = 66 ∨ o = 67 ∨ o = 68 ∨ o = 69 ∨ o = 70 ∨ o = 71 ∨ o = 72 := by omega
  rcases this with rfl | rfl | rfl | rfl | rfl | rfl | rfl | rfl | rfl | rfl <;> assumption
theorem Wf.opn {e : Bool} (h : Wf N0 e c T P B L s N) {k : Nat} (hk : k < 4) (hcl : ax_hi s (50 + k) 0 = 0) {m : Nat} (hm : 0 < m ∧ m < 256) (hno : fFind s (nI m) = none) {w : Int32} {om op : Nat} {tm tp t : List Int32} (h1 : Stg s om tm) (h2 : Stg s op tp) (ht : t.length = 20) (htp : ∀ j, j < tp.length → t.getD j 0 = tp.getD j 0) :
    Wf N0 e c T P B L (fOpen s k (nI m) w om op) (gOpn N k (nI m) w (ax_hi s 30 2) (mcode tm) (nI tp.length) t) :=
  ⟨fOpen_SH h.sh hk _ _ _ _, gOpn_rc.sh h.sN, h.rc.trans gOpn_rc, h.o.sm (fOpen_sm hk (fun _ => rfl) (fun _ => rfl) (fun _ => rfl) (fun _ => rfl)) (gOpn_sm (b63 (fun _ => ⟨rfl, rfl, rfl, rfl, rfl, rfl, rfl, rfl, rfl, rfl⟩))), h.v.sm (fOpen_sm hk (fun _ => rfl) (fun _ => rfl) (fun _ => rfl) (fun _ => rfl)) (gOpn_sm (b63 (fun _ => ⟨rfl, rfl, rfl, rfl, rfl, rfl, rfl, rfl, rfl, rfl⟩))), h.x.opn hk hcl hm (no_find h.x hno) h1 h2 ht htp,
    h.t.sm (fOpen_sm hk (fun _ => rfl) (fun _ => rfl) (fun _ => rfl) (fun _ => rfl)) (gOpn_sm (b63 (fun _ => ⟨rfl, rfl, rfl, rfl, rfl, rfl, rfl, rfl, rfl, rfl⟩))), h.p.sm (fOpen_sm hk (fun _ => rfl) (fun _ => rfl) (fun _ => rfl) (fun _ => rfl)) (gOpn_sm (b63 (fun _ => ⟨rfl, rfl, rfl, rfl, rfl, rfl, rfl, rfl, rfl, rfl⟩))), h.b.sm (fOpen_sm hk (fun _ => rfl) (fun _ => rfl) (fun _ => rfl) (fun _ => rfl)) (gOpn_sm (b63 (fun _ => ⟨rfl, rfl, rfl, rfl, rfl, rfl, rfl, rfl, rfl, rfl⟩))), h.f.sm (fOpen_sm hk (fun _ => rfl) (fun _ => rfl) (fun _ => rfl) (fun _ => rfl)) (gOpn_sm (b63 (fun _ => ⟨rfl, rfl, rfl, rfl, rfl, rfl, rfl, rfl, rfl, rfl⟩))), h.k.sm (fOpen_sm hk (fun _ => rfl) (fun _ => rfl) (fun _ => rfl) (fun _ => rfl)) (gOpn_sm (b63 (fun _ => ⟨rfl, rfl, rfl, rfl, rfl, rfl, rfl, rfl, rfl, rfl⟩)))⟩
theorem fFree_c {s s2 : ax_M} (h : ∀ k, k < 4 → ax_hi s2 (50 + k) 0 = ax_hi s (50 + k) 0) : fFree s2 = fFree s := by
  unfold fFree
  rw [show ax_hi s2 50 0 = ax_hi s 50 0 from h 0 (by decide), show ax_hi s2 51 0 = ax_hi s 51 0 from h 1 (by decide), show ax_hi s2 52 0 = ax_hi s 52 0 from h 2 (by decide), show ax_hi s2 53 0 = ax_hi s 53 0 from h 3 (by decide)]
theorem fFree_b {k : Nat} (h : fFree s = some k) : ∀ i, i < k → ¬ ax_hi s (50 + i) 0 = 0 := by
  unfold fFree at h
  intro i hi
  split at h
  · injection h with h; omega
  · rename_i a0
    split at h
    · injection h with h
      have : i = 0 := by omega
      subst this; exact a0
    · rename_i a1
      split at h
      · injection h with h
        have : i = 0 ∨ i = 1 := by omega
        rcases this with rfl | rfl
        · exact a0
        · exact a1
      · rename_i a2
        split at h
        · injection h with h
          have : i = 0 ∨ i = 1 ∨ i = 2 := by omega
          rcases this with rfl | rfl | rfl
          · exact a0
          · exact a1
          · exact a2
        · cases h
end AX79
