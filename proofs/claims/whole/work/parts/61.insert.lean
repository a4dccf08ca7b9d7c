/-! READING A BLOCK: the class -/
def insT (z : Nat) (T : Tb) (q : List Int32 × List Int32) : Tb := if z < tq q then evict (tq q) z T else q :: evict (tq q) z T
theorem evT_le {r z : Nat} (h : r ≤ z) : ∀ (n : Nat) (T : Tb), T.length ≤ n → tk (evT r z n T) + r ≤ z
  | 0, T, hn => by
    have : T = [] := List.length_eq_zero_iff.mp (by omega)
    subst this; show 0 + r ≤ z; omega
  | n + 1, T, hn => by
    unfold evT
    split
    · rename_i z; subst z; show 0 + r ≤ _; omega
    · split
      · assumption
      · exact evT_le h n T.dropLast (by rw [List.length_dropLast]; omega)
theorem evict_le {r z : Nat} (h : r ≤ z) (T : Tb) : tk (evict r z T) + r ≤ z := evT_le h _ T (Nat.le_refl _)
theorem tk_ge : ∀ (T : Tb), (∀ i, i < T.length → 0 < (en T i).1.length) → 3 * T.length ≤ tk T
  | [], _ => Nat.le_refl _
  | q :: T, h => by
    have h0 := h 0 (by simp)
    have := tk_ge T (fun i hi => h (i + 1) (by simpa using hi))
    show 3 * (T.length + 1) ≤ 2 + q.1.length + q.2.length + tk T
    have h1 : 0 < q.1.length := h0
    omega
/-- entries k, k - 1 .. 1 become what k - 1 .. 0 were -/
def fSh : Nat → ax_M → ax_M
  | 0, M => M
  | k + 1, M => fSh k (ax_sr M 37 (k + 1) (ax_hr M 37 k))
theorem fSh_hi : ∀ (k : Nat) (M : ax_M), ax_hi (fSh k M) = ax_hi M ∧ ax_tg (fSh k M) = ax_tg M ∧ ax_ln (fSh k M) = ax_ln M ∧ ax_n (fSh k M) = ax_n M
  | 0, M => ⟨rfl, rfl, rfl, rfl⟩
  | k + 1, M => fSh_hi k _
theorem fSh_ne : ∀ (k : Nat) {M : ax_M} {q j : Nat}, q ≠ 37 → ax_hr (fSh k M) q j = ax_hr M q j
  | 0, _, _, _, _ => rfl
  | k + 1, M, q, j, h => (fSh_ne k h).trans (wm_r2n (nbq h))
theorem fSh_gt : ∀ (k : Nat) {M : ax_M} {j : Nat}, k < j → ax_hr (fSh k M) 37 j = ax_hr M 37 j
  | 0, _, _, _ => rfl
  | k + 1, M, j, h => (fSh_gt k (by omega)).trans (by rw [wm_r2, if_neg (by omega)])
theorem fSh_at : ∀ (k : Nat) {M : ax_M} {j : Nat}, j < k → ax_hr (fSh k M) 37 (j + 1) = ax_hr M 37 j
  | 0, _, _, h => by omega
  | k + 1, M, j, h => by
    show ax_hr (fSh k _) 37 (j + 1) = _
    rcases Nat.lt_or_ge j k with z | z
    · rw [fSh_at k z, wm_r2, if_neg (by omega)]
    · have : j = k := by omega
      subst this
      rw [fSh_gt j (by omega), wm_r2s]
theorem SH.srn {M : ax_M} (h : SH M) {o k : Nat} {v : Option Nat} (ho : ∀ q ∈ sh_rf, q.1 ≠ o) : SH (ax_sr M o k v) := h.sr (List.all_eq_true.mpr (fun q hq => by simp [ho q hq]))
theorem no_37 : ∀ q ∈ sh_rf, q.1 ≠ 37 := by decide
theorem no_47 : ∀ q ∈ sh_rf, q.1 ≠ 47 := by decide
theorem fSh_SH : ∀ (k : Nat) {M : ax_M}, SH M → SH (fSh k M)
  | 0, _, h => h
  | k + 1, M, h => fSh_SH k (h.srn no_37)
section AX61
variable {M : ax_M} {T : Tb} {z : Nat}
theorem sh_loop {C : ax_C} {Q : ax_O → ax_M → Prop} {rt : Option FieldType} {fo : Nat} : ∀ (k : Nat) {M : ax_M} {lv : ax_L}, SH M → k ≤ 7 → (∀ i, i < k → ∃ f, ax_hr M 37 i = some f ∧ ax_own M f 4) → ax_le [(2, .inl (nI k)), (0, .inr (.inl (some 35))), (1, .inr (.inl (some fo)))] lv →
    (∀ lv2, ax_le [(0, .inr (.inl (some 35))), (1, .inr (.inl (some fo)))] lv2 → ax_Ev C pr_X4_insert Q rt bl_X4_insert_63 lv2 [] (fSh k M) 0 0) → ax_Ev C pr_X4_insert Q rt bl_X4_insert_39 lv [] M 0 0
  | 0, M, lv, h, hk, hf, hle, hn => by
    refine ax_Ev_wk hle ?_
    have a1 : nI 0 ≤ 0 := by decide
    conv => unfold bl_X4_insert_39
    simp only [a1, at_X4_insert_63, if_true, we_iconst_m1, we_iconst_0, we_iconst_1, we_iconst_2, we_iconst_3, we_iconst_4, we_iconst_5, we_bipush_m100, we_bipush_m10, we_bipush_m9, we_bipush_6, we_bipush_7, we_bipush_8, we_bipush_9, we_bipush_10, we_bipush_15, we_bipush_16, we_bipush_17, we_bipush_20, we_bipush_24, we_bipush_31, we_bipush_32, we_bipush_33, we_bipush_40, we_bipush_45, we_bipush_47, we_bipush_48, we_bipush_50, we_bipush_52, we_bipush_53, we_bipush_57, we_bipush_58, we_bipush_60, we_bipush_63, we_bipush_64, we_bipush_65, we_bipush_68, we_bipush_69, we_bipush_71, we_bipush_72, we_bipush_73, we_bipush_80, we_bipush_82, we_bipush_84, we_bipush_97, we_bipush_100, we_bipush_101, we_bipush_103, we_bipush_104, we_bipush_105, we_bipush_107, we_bipush_108, we_bipush_109, we_bipush_110, we_bipush_111, we_bipush_112, we_bipush_115, we_bipush_116, we_bipush_117, we_bipush_122, we_bipush_126, we_bipush_127, we_sipush_128, we_sipush_129, we_sipush_134, we_sipush_135, we_sipush_200, we_sipush_204, we_sipush_255, we_sipush_256, we_sipush_300, we_sipush_320, we_sipush_340, we_sipush_1000, we_sipush_1024, we_sipush_1200, we_sipush_30000, we_ldci, we_ldcs, we_ldcsw, we_aconst_null, we_iload_0, we_aload_0, we_istore_0, we_astore_0, we_iload_1, we_aload_1, we_istore_1, we_astore_1, we_iload_2, we_aload_2, we_istore_2, we_astore_2, we_iload_3, we_aload_3, we_istore_3, we_astore_3, we_iload, we_aload, we_istore, we_astore, we_iinc1, we_iinc_m8, we_iinc_m1, we_iinc_2, we_iinc_5, we_iadd, we_isub, we_imul, we_iand, we_ior, we_ishl, we_ishr, we_iushr, we_idiv, we_irem, we_ineg, we_i2c, we_i2b, we_i2l, we_lcmp, we_dupi, we_popi, we_dupr, we_popr, we_dup2, we_goto, we_if_eq, we_if_ne, we_if_lt, we_if_ge, we_if_gt, we_if_le, we_icmp_eq, we_icmp_ne, we_icmp_lt, we_icmp_ge, we_icmp_gt, we_icmp_le, we_ifnull_n, we_ifnull_s, we_ifnonnull_n, we_ifnonnull_s, we_getf, we_getfr, we_getsv, we_getsc, we_putfr, we_putf, we_getst0, we_getst1, we_getst2, we_iald, we_iald2, we_cald, we_bald, we_bald2, we_zald, we_aald4, we_aald8, we_aald11, we_iast, we_cast, we_zast, we_bast, we_aast4, we_aast8, we_aast11, we_alen, we_iret, we_aret, we_vret, wl_i1, wl_i2, wl_r1, wl_r2, wl_st, wl_rm0, wl_rm1, Nat.beq, cond_true, cond_false, ax_lvA, Nat.zero_add, Nat.reduceAdd, we_alen_100, we_alen_101, we_alen_102, we_alen_200, we_alen_202, we_alen_114, we_alen_118, we_alen_121]
    exact hn _ (ax_le_cons rfl (ax_le_cons rfl (ax_le_nil _)))
  | k + 1, M, lv, h, hk, hf, hle, hn => by
    refine ax_Ev_wk hle ?_
    obtain ⟨f, f1, f2⟩ := hf k (by omega)
    have a1 : ¬ nI (k + 1) ≤ 0 := nI_nle (by omega) (by omega)
    have s1 : nI (k + 1) - 1 = nI k := nI_pred k
    have s2 : nI (k + 1) + -1 = nI k := by rw [← nI_pred k, Int32.sub_eq_add_neg]
    have i1 : vp_in (nI k) 8 := vp_in_nI (by omega) (by decide)
    have i2 : vp_in (nI (k + 1)) 8 := vp_in_nI (by omega) (by decide)
    have c1 : (nI k).toNatClampNeg = k := nI_clamp (by omega)
    have c2 : (nI (k + 1)).toNatClampNeg = k + 1 := nI_clamp (by omega)
    have hn' : ∀ lv2, ax_le [(0, .inr (.inl (some 35))), (1, .inr (.inl (some fo)))] lv2 → ax_Ev C pr_X4_insert Q rt bl_X4_insert_63 lv2 [] (fSh k (ax_sr M 37 (k + 1) (some f))) 0 0 := by
      rw [← f1]; exact hn
    conv => unfold bl_X4_insert_39
    simp only [so_35 h, so_37 h, sr_35_1 h, sl_37 h, a1, s1, s2, i1, i2, c1, c2, f1, f2, at_X4_insert_39, if_false, we_iconst_m1, we_iconst_0, we_iconst_1, we_iconst_2, we_iconst_3, we_iconst_4, we_iconst_5, we_bipush_m100, we_bipush_m10, we_bipush_m9, we_bipush_6, we_bipush_7, we_bipush_8, we_bipush_9, we_bipush_10, we_bipush_15, we_bipush_16, we_bipush_17, we_bipush_20, we_bipush_24, we_bipush_31, we_bipush_32, we_bipush_33, we_bipush_40, we_bipush_45, we_bipush_47, we_bipush_48, we_bipush_50, we_bipush_52, we_bipush_53, we_bipush_57, we_bipush_58, we_bipush_60, we_bipush_63, we_bipush_64, we_bipush_65, we_bipush_68, we_bipush_69, we_bipush_71, we_bipush_72, we_bipush_73, we_bipush_80, we_bipush_82, we_bipush_84, we_bipush_97, we_bipush_100, we_bipush_101, we_bipush_103, we_bipush_104, we_bipush_105, we_bipush_107, we_bipush_108, we_bipush_109, we_bipush_110, we_bipush_111, we_bipush_112, we_bipush_115, we_bipush_116, we_bipush_117, we_bipush_122, we_bipush_126, we_bipush_127, we_sipush_128, we_sipush_129, we_sipush_134, we_sipush_135, we_sipush_200, we_sipush_204, we_sipush_255, we_sipush_256, we_sipush_300, we_sipush_320, we_sipush_340, we_sipush_1000, we_sipush_1024, we_sipush_1200, we_sipush_30000, we_ldci, we_ldcs, we_ldcsw, we_aconst_null, we_iload_0, we_aload_0, we_istore_0, we_astore_0, we_iload_1, we_aload_1, we_istore_1, we_astore_1, we_iload_2, we_aload_2, we_istore_2, we_astore_2, we_iload_3, we_aload_3, we_istore_3, we_astore_3, we_iload, we_aload, we_istore, we_astore, we_iinc1, we_iinc_m8, we_iinc_m1, we_iinc_2, we_iinc_5, we_iadd, we_isub, we_imul, we_iand, we_ior, we_ishl, we_ishr, we_iushr, we_idiv, we_irem, we_ineg, we_i2c, we_i2b, we_i2l, we_lcmp, we_dupi, we_popi, we_dupr, we_popr, we_dup2, we_goto, we_if_eq, we_if_ne, we_if_lt, we_if_ge, we_if_gt, we_if_le, we_icmp_eq, we_icmp_ne, we_icmp_lt, we_icmp_ge, we_icmp_gt, we_icmp_le, we_ifnull_n, we_ifnull_s, we_ifnonnull_n, we_ifnonnull_s, we_getf, we_getfr, we_getsv, we_getsc, we_putfr, we_putf, we_getst0, we_getst1, we_getst2, we_iald, we_iald2, we_cald, we_bald, we_bald2, we_zald, we_aald4, we_aald8, we_aald11, we_iast, we_cast, we_zast, we_bast, we_aast4, we_aast8, we_aast11, we_alen, we_iret, we_aret, we_vret, wl_i1, wl_i2, wl_r1, wl_r2, wl_st, wl_rm0, wl_rm1, Nat.beq, cond_true, cond_false, ax_lvA, Nat.zero_add, Nat.reduceAdd, we_alen_100, we_alen_101, we_alen_102, we_alen_200, we_alen_202, we_alen_114, we_alen_118, we_alen_121]
    refine sh_loop k (h.srn no_37) (by omega) (fun i hi => ?_) (ax_le_cons rfl (ax_le_cons rfl (ax_le_cons rfl (ax_le_nil _)))) hn'
    obtain ⟨g, g1, g2⟩ := hf i (by omega)
    exact ⟨g, by rw [wm_r2, if_neg (by omega)]; exact g1, g2⟩
theorem c_insert (d : Nat) (h : SH M) (hT : CT T z M) {fo : Nat} {q : List Int32 × List Int32} (hF : Fld M fo q.1 q.2) (hq : 0 < q.1.length) (hq2 : tq q < 100) : ∃ o M2, TB (insT z T q) z M o M2 ∧ ax_calls ax_P (d + 2) 62 0 0 [.inr (.inl (some 35)), .inr (.inl (some fo))] M o M2 := by
  refine ax_callEx (T := pt_X4_insert) (cod := pr_X4_insert) rfl (by simp [ax_c1]) (Nat.le_of_ble_eq_true rfl) ?_
  show ax_Ev _ pr_X4_insert _ _ bl_X4_insert_0 _ _ _ _ _
  have hz := hT.1.2.2
  have ft : ax_hi M fo 2 = nI (tq q) := hF.2.2.2.2
  simp only [bl_X4_insert_0, so_35 h, hT.2.2.2.1, hF.2.1, ft, we_iconst_m1, we_iconst_0, we_iconst_1, we_iconst_2, we_iconst_3, we_iconst_4, we_iconst_5, we_bipush_m100, we_bipush_m10, we_bipush_m9, we_bipush_6, we_bipush_7, we_bipush_8, we_bipush_9, we_bipush_10, we_bipush_15, we_bipush_16, we_bipush_17, we_bipush_20, we_bipush_24, we_bipush_31, we_bipush_32, we_bipush_33, we_bipush_40, we_bipush_45, we_bipush_47, we_bipush_48, we_bipush_50, we_bipush_52, we_bipush_53, we_bipush_57, we_bipush_58, we_bipush_60, we_bipush_63, we_bipush_64, we_bipush_65, we_bipush_68, we_bipush_69, we_bipush_71, we_bipush_72, we_bipush_73, we_bipush_80, we_bipush_82, we_bipush_84, we_bipush_97, we_bipush_100, we_bipush_101, we_bipush_103, we_bipush_104, we_bipush_105, we_bipush_107, we_bipush_108, we_bipush_109, we_bipush_110, we_bipush_111, we_bipush_112, we_bipush_115, we_bipush_116, we_bipush_117, we_bipush_122, we_bipush_126, we_bipush_127, we_sipush_128, we_sipush_129, we_sipush_134, we_sipush_135, we_sipush_200, we_sipush_204, we_sipush_255, we_sipush_256, we_sipush_300, we_sipush_320, we_sipush_340, we_sipush_1000, we_sipush_1024, we_sipush_1200, we_sipush_30000, we_ldci, we_ldcs, we_ldcsw, we_aconst_null, we_iload_0, we_aload_0, we_istore_0, we_astore_0, we_iload_1, we_aload_1, we_istore_1, we_astore_1, we_iload_2, we_aload_2, we_istore_2, we_astore_2, we_iload_3, we_aload_3, we_istore_3, we_astore_3, we_iload, we_aload, we_istore, we_astore, we_iinc1, we_iinc_m8, we_iinc_m1, we_iinc_2, we_iinc_5, we_iadd, we_isub, we_imul, we_iand, we_ior, we_ishl, we_ishr, we_iushr, we_idiv, we_irem, we_ineg, we_i2c, we_i2b, we_i2l, we_lcmp, we_dupi, we_popi, we_dupr, we_popr, we_dup2, we_goto, we_if_eq, we_if_ne, we_if_lt, we_if_ge, we_if_gt, we_if_le, we_icmp_eq, we_icmp_ne, we_icmp_lt, we_icmp_ge, we_icmp_gt, we_icmp_le, we_ifnull_n, we_ifnull_s, we_ifnonnull_n, we_ifnonnull_s, we_getf, we_getfr, we_getsv, we_getsc, we_putfr, we_putf, we_getst0, we_getst1, we_getst2, we_iald, we_iald2, we_cald, we_bald, we_bald2, we_zald, we_aald4, we_aald8, we_aald11, we_iast, we_cast, we_zast, we_bast, we_aast4, we_aast8, we_aast11, we_alen, we_iret, we_aret, we_vret, wl_i1, wl_i2, wl_r1, wl_r2, wl_st, wl_rm0, wl_rm1, Nat.beq, cond_true, cond_false, ax_lvA, Nat.zero_add, Nat.reduceAdd, we_alen_100, we_alen_101, we_alen_102, we_alen_200, we_alen_202, we_alen_114, we_alen_118, we_alen_121]
  obtain ⟨_, M1, ⟨rfl, g1, g2, g3⟩, hcall⟩ := c_dropOldest d h hT (r := tq q) hq2
  refine ax_gv0 hcall (so_35 h) (by decide) rfl rfl (Nat.le_of_ble_eq_true rfl) ?_
  have hF1 := hF.sm g2
  have ft1 : ax_hi M1 fo 2 = nI (tq q) := hF1.2.2.2.2
  unfold insT
  by_cases y : z < tq q
  · rw [if_pos y]
    have y1 : nI z < nI (tq q) := nI_lt y (by omega)
    simp only [so_35 g1, hF1.2.1, ft1, g3.2.2.2.1, y1, bl_X4_insert_33, at_X4_insert_33, if_true, we_iconst_m1, we_iconst_0, we_iconst_1, we_iconst_2, we_iconst_3, we_iconst_4, we_iconst_5, we_bipush_m100, we_bipush_m10, we_bipush_m9, we_bipush_6, we_bipush_7, we_bipush_8, we_bipush_9, we_bipush_10, we_bipush_15, we_bipush_16, we_bipush_17, we_bipush_20, we_bipush_24, we_bipush_31, we_bipush_32, we_bipush_33, we_bipush_40, we_bipush_45, we_bipush_47, we_bipush_48, we_bipush_50, we_bipush_52, we_bipush_53, we_bipush_57, we_bipush_58, we_bipush_60, we_bipush_63, we_bipush_64, we_bipush_65, we_bipush_68, we_bipush_69, we_bipush_71, we_bipush_72, we_bipush_73, we_bipush_80, we_bipush_82, we_bipush_84, we_bipush_97, we_bipush_100, we_bipush_101, we_bipush_103, we_bipush_104, we_bipush_105, we_bipush_107, we_bipush_108, we_bipush_109, we_bipush_110, we_bipush_111, we_bipush_112, we_bipush_115, we_bipush_116, we_bipush_117, we_bipush_122, we_bipush_126, we_bipush_127, we_sipush_128, we_sipush_129, we_sipush_134, we_sipush_135, we_sipush_200, we_sipush_204, we_sipush_255, we_sipush_256, we_sipush_300, we_sipush_320, we_sipush_340, we_sipush_1000, we_sipush_1024, we_sipush_1200, we_sipush_30000, we_ldci, we_ldcs, we_ldcsw, we_aconst_null, we_iload_0, we_aload_0, we_istore_0, we_astore_0, we_iload_1, we_aload_1, we_istore_1, we_astore_1, we_iload_2, we_aload_2, we_istore_2, we_astore_2, we_iload_3, we_aload_3, we_istore_3, we_astore_3, we_iload, we_aload, we_istore, we_astore, we_iinc1, we_iinc_m8, we_iinc_m1, we_iinc_2, we_iinc_5, we_iadd, we_isub, we_imul, we_iand, we_ior, we_ishl, we_ishr, we_iushr, we_idiv, we_irem, we_ineg, we_i2c, we_i2b, we_i2l, we_lcmp, we_dupi, we_popi, we_dupr, we_popr, we_dup2, we_goto, we_if_eq, we_if_ne, we_if_lt, we_if_ge, we_if_gt, we_if_le, we_icmp_eq, we_icmp_ne, we_icmp_lt, we_icmp_ge, we_icmp_gt, we_icmp_le, we_ifnull_n, we_ifnull_s, we_ifnonnull_n, we_ifnonnull_s, we_getf, we_getfr, we_getsv, we_getsc, we_putfr, we_putf, we_getst0, we_getst1, we_getst2, we_iald, we_iald2, we_cald, we_bald, we_bald2, we_zald, we_aald4, we_aald8, we_aald11, we_iast, we_cast, we_zast, we_bast, we_aast4, we_aast8, we_aast11, we_alen, we_iret, we_aret, we_vret, wl_i1, wl_i2, wl_r1, wl_r2, wl_st, wl_rm0, wl_rm1, Nat.beq, cond_true, cond_false, ax_lvA, Nat.zero_add, Nat.reduceAdd, we_alen_100, we_alen_101, we_alen_102, we_alen_200, we_alen_202, we_alen_114, we_alen_118, we_alen_121]
    have hR : TB (evict (tq q) z T) z M (.inl none) M1 := ⟨rfl, g1, g2, g3⟩
    first | exact hR | exact ⟨trivial, hR⟩ | exact ⟨rfl, hR⟩
  · rw [if_neg y]
    have y1 : ¬ nI z < nI (tq q) := nI_nlt (by omega) (by omega)
    have hev := evict_le (show tq q ≤ z by omega) T
    generalize evict (tq q) z T = T1 at g3 hev ⊢
    have hk := tk_ge T1 (fun i hi => (g3.2.2.2.2.1 i hi).1)
    have hq3 : 3 ≤ tq q := by unfold tq; omega
    have hl7 : T1.length ≤ 7 := by omega
    have z8 : nI T1.length < 8 := nI_lt (b := 8) (by omega) (by decide)
    obtain ⟨a, b, c, dd, ee, f⟩ := g3
    simp only [so_35 g1, hF1.2.1, ft1, dd, y1, b, z8, bl_X4_insert_34, at_X4_insert_34, if_true, if_false, we_iconst_m1, we_iconst_0, we_iconst_1, we_iconst_2, we_iconst_3, we_iconst_4, we_iconst_5, we_bipush_m100, we_bipush_m10, we_bipush_m9, we_bipush_6, we_bipush_7, we_bipush_8, we_bipush_9, we_bipush_10, we_bipush_15, we_bipush_16, we_bipush_17, we_bipush_20, we_bipush_24, we_bipush_31, we_bipush_32, we_bipush_33, we_bipush_40, we_bipush_45, we_bipush_47, we_bipush_48, we_bipush_50, we_bipush_52, we_bipush_53, we_bipush_57, we_bipush_58, we_bipush_60, we_bipush_63, we_bipush_64, we_bipush_65, we_bipush_68, we_bipush_69, we_bipush_71, we_bipush_72, we_bipush_73, we_bipush_80, we_bipush_82, we_bipush_84, we_bipush_97, we_bipush_100, we_bipush_101, we_bipush_103, we_bipush_104, we_bipush_105, we_bipush_107, we_bipush_108, we_bipush_109, we_bipush_110, we_bipush_111, we_bipush_112, we_bipush_115, we_bipush_116, we_bipush_117, we_bipush_122, we_bipush_126, we_bipush_127, we_sipush_128, we_sipush_129, we_sipush_134, we_sipush_135, we_sipush_200, we_sipush_204, we_sipush_255, we_sipush_256, we_sipush_300, we_sipush_320, we_sipush_340, we_sipush_1000, we_sipush_1024, we_sipush_1200, we_sipush_30000, we_ldci, we_ldcs, we_ldcsw, we_aconst_null, we_iload_0, we_aload_0, we_istore_0, we_astore_0, we_iload_1, we_aload_1, we_istore_1, we_astore_1, we_iload_2, we_aload_2, we_istore_2, we_astore_2, we_iload_3, we_aload_3, we_istore_3, we_astore_3, we_iload, we_aload, we_istore, we_astore, we_iinc1, we_iinc_m8, we_iinc_m1, we_iinc_2, we_iinc_5, we_iadd, we_isub, we_imul, we_iand, we_ior, we_ishl, we_ishr, we_iushr, we_idiv, we_irem, we_ineg, we_i2c, we_i2b, we_i2l, we_lcmp, we_dupi, we_popi, we_dupr, we_popr, we_dup2, we_goto, we_if_eq, we_if_ne, we_if_lt, we_if_ge, we_if_gt, we_if_le, we_icmp_eq, we_icmp_ne, we_icmp_lt, we_icmp_ge, we_icmp_gt, we_icmp_le, we_ifnull_n, we_ifnull_s, we_ifnonnull_n, we_ifnonnull_s, we_getf, we_getfr, we_getsv, we_getsc, we_putfr, we_putf, we_getst0, we_getst1, we_getst2, we_iald, we_iald2, we_cald, we_bald, we_bald2, we_zald, we_aald4, we_aald8, we_aald11, we_iast, we_cast, we_zast, we_bast, we_aast4, we_aast8, we_aast11, we_alen, we_iret, we_aret, we_vret, wl_i1, wl_i2, wl_r1, wl_r2, wl_st, wl_rm0, wl_rm1, Nat.beq, cond_true, cond_false, ax_lvA, Nat.zero_add, Nat.reduceAdd, we_alen_100, we_alen_101, we_alen_102, we_alen_200, we_alen_202, we_alen_114, we_alen_118, we_alen_121]
    refine sh_loop T1.length g1 hl7 (fun i hi => ?_) (ax_le_cons rfl (ax_le_cons rfl (ax_le_cons rfl (ax_le_nil _)))) (fun lv2 hl2 => ?_)
    · obtain ⟨-, fo2, e1, e2⟩ := ee i hi
      exact ⟨fo2, e1, e2.2.1⟩
    · refine ax_Ev_wk hl2 ?_
      obtain ⟨s1, s2, s3, s4⟩ := fSh_hi T1.length M1
      have g4 := fSh_SH T1.length g1
      have sm1 : Sm aTb M1 (fSh T1.length M1) := by
        refine ⟨⟨by rw [s4]; exact Nat.le_refl _, fun q hq => by rw [s2, s3]; exact ⟨rfl, rfl⟩⟩, fun q k e => ⟨by rw [s1], fSh_ne _ ?_⟩⟩
        rintro rfl
        rcases e with e | e
        · exact absurd e.1 (by decide)
        · exact absurd (show (false : Bool) = true from e) (by decide)
      have of : ax_own (fSh T1.length M1) fo 4 := sm1.own hF1.2.1
      have at1 : ∀ j, j < T1.length → ax_hr (fSh T1.length M1) 37 (j + 1) = ax_hr M1 37 j := fun j hj => fSh_at _ hj
      have b4 : ax_hi (fSh T1.length M1) 35 3 = nI T1.length := by rw [s1]; exact b
      have c4 : ax_hi (fSh T1.length M1) 35 4 = nI (tk T1) := by rw [s1]; exact c
      have d4 : ax_hi (fSh T1.length M1) 35 2 = nI z := by rw [s1]; exact dd
      have ft4 : ax_hi (fSh T1.length M1) fo 2 = nI (tq q) := by rw [s1]; exact ft1
      have hfix : ∀ i, i < 7 → Fld (fSh T1.length M1) (38 + i) (en fx i).1 (en fx i).2 := fun i hi => (f i hi).sm sm1
      have hF4 := hF1.sm sm1
      have hen : ∀ i, i < T1.length → 0 < (en T1 i).1.length ∧ ∃ fo, ax_hr (fSh T1.length M1) 37 (i + 1) = some fo ∧ Fld (fSh T1.length M1) fo (en T1 i).1 (en T1 i).2 := fun i hi => by
        obtain ⟨e0, fo2, e1, e2⟩ := ee i hi
        exact ⟨e0, fo2, (at1 i hi).trans e1, e2.sm sm1⟩
      have sm2 : Sm aTb M (fSh T1.length M1) := g2.trans sm1
      generalize fSh T1.length M1 = Z at g4 sm2 of b4 c4 d4 ft4 hfix hF4 hen ⊢
      have v0 : vp_in 0 8 := by unfold vp_in; decide
      have k1 : nI T1.length + 1 = nI (T1.length + 1) := nI_1 _
      have k2 : nI (tk T1) + nI (tq q) = nI (tk T1 + tq q) := nI_add _ _
      have n1 : ∀ x : Int32, narrow (ax_ty 6 3) (.int x) = .int x := fun _ => rfl
      have n2 : ∀ x : Int32, fits (ax_ty 6 3) (.int x) = true := fun _ => rfl
      have n3 : ∀ x : Int32, narrow (ax_ty 6 4) (.int x) = .int x := fun _ => rfl
      have n4 : ∀ x : Int32, fits (ax_ty 6 4) (.int x) = true := fun _ => rfl
      have b5 : ax_hi (ax_sr Z 37 0 (some fo)) 35 3 = nI T1.length := b4
      have c5 : ∀ x, ax_hi (ax_si (ax_sr Z 37 0 (some fo)) 35 3 x) 35 4 = nI (tk T1) := fun x => (wm_h1k rfl).trans c4
      have ft5 : ∀ x, ax_hi (ax_si (ax_sr Z 37 0 (some fo)) 35 3 x) fo 2 = nI (tq q) := fun x => by
        have : fo ≠ 35 := fun w => by have := hF.1; rw [w] at this; exact absurd this (by decide)
        exact (wm_h1n (nbq this)).trans ft4
      simp only [bl_X4_insert_63, so_35 g4, so_37 g4, sr_35_1 g4, sl_37 g4, of, v0, cl_0, b4, b5, c5, ft5, k1, k2, n1, n2, n3, n4, wm_o2, we_iconst_m1, we_iconst_0, we_iconst_1, we_iconst_2, we_iconst_3, we_iconst_4, we_iconst_5, we_bipush_m100, we_bipush_m10, we_bipush_m9, we_bipush_6, we_bipush_7, we_bipush_8, we_bipush_9, we_bipush_10, we_bipush_15, we_bipush_16, we_bipush_17, we_bipush_20, we_bipush_24, we_bipush_31, we_bipush_32, we_bipush_33, we_bipush_40, we_bipush_45, we_bipush_47, we_bipush_48, we_bipush_50, we_bipush_52, we_bipush_53, we_bipush_57, we_bipush_58, we_bipush_60, we_bipush_63, we_bipush_64, we_bipush_65, we_bipush_68, we_bipush_69, we_bipush_71, we_bipush_72, we_bipush_73, we_bipush_80, we_bipush_82, we_bipush_84, we_bipush_97, we_bipush_100, we_bipush_101, we_bipush_103, we_bipush_104, we_bipush_105, we_bipush_107, we_bipush_108, we_bipush_109, we_bipush_110, we_bipush_111, we_bipush_112, we_bipush_115, we_bipush_116, we_bipush_117, we_bipush_122, we_bipush_126, we_bipush_127, we_sipush_128, we_sipush_129, we_sipush_134, we_sipush_135, we_sipush_200, we_sipush_204, we_sipush_255, we_sipush_256, we_sipush_300, we_sipush_320, we_sipush_340, we_sipush_1000, we_sipush_1024, we_sipush_1200, we_sipush_30000, we_ldci, we_ldcs, we_ldcsw, we_aconst_null, we_iload_0, we_aload_0, we_istore_0, we_astore_0, we_iload_1, we_aload_1, we_istore_1, we_astore_1, we_iload_2, we_aload_2, we_istore_2, we_astore_2, we_iload_3, we_aload_3, we_istore_3, we_astore_3, we_iload, we_aload, we_istore, we_astore, we_iinc1, we_iinc_m8, we_iinc_m1, we_iinc_2, we_iinc_5, we_iadd, we_isub, we_imul, we_iand, we_ior, we_ishl, we_ishr, we_iushr, we_idiv, we_irem, we_ineg, we_i2c, we_i2b, we_i2l, we_lcmp, we_dupi, we_popi, we_dupr, we_popr, we_dup2, we_goto, we_if_eq, we_if_ne, we_if_lt, we_if_ge, we_if_gt, we_if_le, we_icmp_eq, we_icmp_ne, we_icmp_lt, we_icmp_ge, we_icmp_gt, we_icmp_le, we_ifnull_n, we_ifnull_s, we_ifnonnull_n, we_ifnonnull_s, we_getf, we_getfr, we_getsv, we_getsc, we_putfr, we_putf, we_getst0, we_getst1, we_getst2, we_iald, we_iald2, we_cald, we_bald, we_bald2, we_zald, we_aald4, we_aald8, we_aald11, we_iast, we_cast, we_zast, we_bast, we_aast4, we_aast8, we_aast11, we_alen, we_iret, we_aret, we_vret, wl_i1, wl_i2, wl_r1, wl_r2, wl_st, wl_rm0, wl_rm1, Nat.beq, cond_true, cond_false, ax_lvA, Nat.zero_add, Nat.reduceAdd, we_alen_100, we_alen_101, we_alen_102, we_alen_200, we_alen_202, we_alen_114, we_alen_118, we_alen_121, wm_o1, wm_o2, wm_t1, wm_t2, wm_l1, wm_l2, wm_n1, wm_n2, wm_r1, wm_h2]
      have sg : ∀ (A : Nat → Nat → Bool), A 37 0 = false → A 35 3 = false → A 35 4 = false → Sm A Z (ax_si (ax_si (ax_sr Z 37 0 (some fo)) 35 3 (nI (T1.length + 1))) 35 4 (nI (tk T1 + tq q))) := fun A a1 a2 a3 => ((Sm.sr (by rw [a1]; rfl)).st (by rw [a2]; rfl)).st (by rw [a3]; rfl)
      have sX := sg (fun _ _ => false) rfl rfl rfl
      have hR : TB (q :: T1) z M (.inl none) (ax_si (ax_si (ax_sr Z 37 0 (some fo)) 35 3 (nI (T1.length + 1))) 35 4 (nI (tk T1 + tq q))) := by
        refine ⟨rfl, ((g4.srn no_37).si (by decide)).si (by decide), sm2.trans (sg _ rfl rfl rfl), ⟨by rw [List.length_cons]; omega, by show tq q + tk T1 ≤ 24; omega, hz⟩, (wm_h1k rfl).trans wm_h1s, ?_, (wm_h1k rfl).trans ((wm_h1k rfl).trans d4), fun i hi => ?_, fun i hi => (hfix i hi).sm sX⟩
        · rw [wm_h1s]; show nI (tk T1 + tq q) = nI (tq q + tk T1); rw [Nat.add_comm]
        · cases i with
          | zero => exact ⟨hq, fo, wm_r2s, hF4.sm sX⟩
          | succ i =>
            obtain ⟨e0, fo2, e1, e2⟩ := hen i (by rw [List.length_cons] at hi; omega)
            refine ⟨e0, fo2, ?_, e2.sm sX⟩
            show ax_hr (ax_sr Z 37 0 (some fo)) 37 (i + 1) = some fo2
            rw [wm_r2, if_neg (by omega)]; exact e1
      first | exact hR | exact ⟨trivial, hR⟩ | exact ⟨rfl, hR⟩
end AX61
