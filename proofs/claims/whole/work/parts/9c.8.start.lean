/-! THE START: the relation holds when both are made -/
section AX122
variable {M0 : ax_M}
theorem sh_start (h : ax_n M0 = 26) (hK : Shp pK M0) : SH (memU r11 M0) := by
  have g : Shp (fun _ => true) (memU r11 M0) := mem_shp h hK (by decide +kernel) (by decide +kernel) (by decide +kernel) (by decide +kernel)
  exact ⟨by rw [mem_n h]; decide +kernel, fun q hq => (g.1 q hq rfl).2, fun q hq => g.2.1 q hq rfl, fun q hq => g.2.2.1 q hq rfl, g.2.2.2.1, g.2.2.2.2⟩
theorem fx_start_0 (h : ax_n M0 = 26) (hK : Shp pK M0) : Fld (memU r11 M0) 38 [58, 109] [71, 69, 84] ∧ Ent (memU r11 M0) 0 [58, 109] [71, 69, 84] := by
  have hs := sh_start h hK
  refine ⟨⟨rfl, so_38 hs, ⟨3, sr_38_0 hs, st_3 hs⟩, ⟨5, sr_38_1 hs, st_5 hs⟩, (mem_val h (us := r11) (q := 38) (j := 2) (t := nI 7) (by decide +kernel))⟩, by decide, by decide, (mem_val h (us := r11) (q := 59) (j := 0) (t := nI 2) (by decide +kernel)), (mem_val h (us := r11) (q := 61) (j := 0) (t := nI 3) (by decide +kernel)), fun j hj => mem_val h ?_, fun j hj => mem_val h ?_⟩
  · have : ∀ j, j < 2 → hiU r11 60 (20 * 0 + j) = some (([58, 109] : List Int32).getD j 0) := by decide +kernel
    exact this j hj
  · have : ∀ j, j < 3 → hiU r11 62 (20 * 0 + j) = some (([71, 69, 84] : List Int32).getD j 0) := by decide +kernel
    exact this j hj
theorem fx_start_1 (h : ax_n M0 = 26) (hK : Shp pK M0) : Fld (memU r11 M0) 39 [58, 109] [72, 69, 65, 68] ∧ Ent (memU r11 M0) 1 [58, 109] [72, 69, 65, 68] := by
  have hs := sh_start h hK
  refine ⟨⟨rfl, so_39 hs, ⟨3, sr_39_0 hs, st_3 hs⟩, ⟨7, sr_39_1 hs, st_7 hs⟩, (mem_val h (us := r11) (q := 39) (j := 2) (t := nI 8) (by decide +kernel))⟩, by decide, by decide, (mem_val h (us := r11) (q := 59) (j := 1) (t := nI 2) (by decide +kernel)), (mem_val h (us := r11) (q := 61) (j := 1) (t := nI 4) (by decide +kernel)), fun j hj => mem_val h ?_, fun j hj => mem_val h ?_⟩
  · have : ∀ j, j < 2 → hiU r11 60 (20 * 1 + j) = some (([58, 109] : List Int32).getD j 0) := by decide +kernel
    exact this j hj
  · have : ∀ j, j < 4 → hiU r11 62 (20 * 1 + j) = some (([72, 69, 65, 68] : List Int32).getD j 0) := by decide +kernel
    exact this j hj
theorem fx_start_2 (h : ax_n M0 = 26) (hK : Shp pK M0) : Fld (memU r11 M0) 40 [58, 112] [47] ∧ Ent (memU r11 M0) 2 [58, 112] [47] := by
  have hs := sh_start h hK
  refine ⟨⟨rfl, so_40 hs, ⟨9, sr_40_0 hs, st_9 hs⟩, ⟨11, sr_40_1 hs, st_11 hs⟩, (mem_val h (us := r11) (q := 40) (j := 2) (t := nI 5) (by decide +kernel))⟩, by decide, by decide, (mem_val h (us := r11) (q := 59) (j := 2) (t := nI 2) (by decide +kernel)), (mem_val h (us := r11) (q := 61) (j := 2) (t := nI 1) (by decide +kernel)), fun j hj => mem_val h ?_, fun j hj => mem_val h ?_⟩
  · have : ∀ j, j < 2 → hiU r11 60 (20 * 2 + j) = some (([58, 112] : List Int32).getD j 0) := by decide +kernel
    exact this j hj
  · have : ∀ j, j < 1 → hiU r11 62 (20 * 2 + j) = some (([47] : List Int32).getD j 0) := by decide +kernel
    exact this j hj
theorem fx_start_3 (h : ax_n M0 = 26) (hK : Shp pK M0) : Fld (memU r11 M0) 41 [104, 111, 115, 116] [] ∧ Ent (memU r11 M0) 3 [104, 111, 115, 116] [] := by
  have hs := sh_start h hK
  refine ⟨⟨rfl, so_41 hs, ⟨13, sr_41_0 hs, st_13 hs⟩, ⟨15, sr_41_1 hs, st_15 hs⟩, (mem_val h (us := r11) (q := 41) (j := 2) (t := nI 6) (by decide +kernel))⟩, by decide, by decide, (mem_val h (us := r11) (q := 59) (j := 3) (t := nI 4) (by decide +kernel)), (mem_val h (us := r11) (q := 61) (j := 3) (t := nI 0) (by decide +kernel)), fun j hj => mem_val h ?_, fun j hj => mem_val h ?_⟩
  · have : ∀ j, j < 4 → hiU r11 60 (20 * 3 + j) = some (([104, 111, 115, 116] : List Int32).getD j 0) := by decide +kernel
    exact this j hj
  · have : ∀ j, j < 0 → hiU r11 62 (20 * 3 + j) = some (([] : List Int32).getD j 0) := by decide +kernel
    exact this j hj
theorem fx_start_4 (h : ax_n M0 = 26) (hK : Shp pK M0) : Fld (memU r11 M0) 42 [108, 101, 110, 103, 116, 104] [] ∧ Ent (memU r11 M0) 4 [108, 101, 110, 103, 116, 104] [] := by
  have hs := sh_start h hK
  refine ⟨⟨rfl, so_42 hs, ⟨17, sr_42_0 hs, st_17 hs⟩, ⟨15, sr_42_1 hs, st_15 hs⟩, (mem_val h (us := r11) (q := 42) (j := 2) (t := nI 8) (by decide +kernel))⟩, by decide, by decide, (mem_val h (us := r11) (q := 59) (j := 4) (t := nI 6) (by decide +kernel)), (mem_val h (us := r11) (q := 61) (j := 4) (t := nI 0) (by decide +kernel)), fun j hj => mem_val h ?_, fun j hj => mem_val h ?_⟩
  · have : ∀ j, j < 6 → hiU r11 60 (20 * 4 + j) = some (([108, 101, 110, 103, 116, 104] : List Int32).getD j 0) := by decide +kernel
    exact this j hj
  · have : ∀ j, j < 0 → hiU r11 62 (20 * 4 + j) = some (([] : List Int32).getD j 0) := by decide +kernel
    exact this j hj
theorem fx_start_5 (h : ax_n M0 = 26) (hK : Shp pK M0) : Fld (memU r11 M0) 43 [58, 115] [50, 48, 48] ∧ Ent (memU r11 M0) 5 [58, 115] [50, 48, 48] := by
  have hs := sh_start h hK
  refine ⟨⟨rfl, so_43 hs, ⟨19, sr_43_0 hs, st_19 hs⟩, ⟨21, sr_43_1 hs, st_21 hs⟩, (mem_val h (us := r11) (q := 43) (j := 2) (t := nI 7) (by decide +kernel))⟩, by decide, by decide, (mem_val h (us := r11) (q := 59) (j := 5) (t := nI 2) (by decide +kernel)), (mem_val h (us := r11) (q := 61) (j := 5) (t := nI 3) (by decide +kernel)), fun j hj => mem_val h ?_, fun j hj => mem_val h ?_⟩
  · have : ∀ j, j < 2 → hiU r11 60 (20 * 5 + j) = some (([58, 115] : List Int32).getD j 0) := by decide +kernel
    exact this j hj
  · have : ∀ j, j < 3 → hiU r11 62 (20 * 5 + j) = some (([50, 48, 48] : List Int32).getD j 0) := by decide +kernel
    exact this j hj
theorem fx_start_6 (h : ax_n M0 = 26) (hK : Shp pK M0) : Fld (memU r11 M0) 44 [58, 115] [52, 48, 52] ∧ Ent (memU r11 M0) 6 [58, 115] [52, 48, 52] := by
  have hs := sh_start h hK
  refine ⟨⟨rfl, so_44 hs, ⟨19, sr_44_0 hs, st_19 hs⟩, ⟨23, sr_44_1 hs, st_23 hs⟩, (mem_val h (us := r11) (q := 44) (j := 2) (t := nI 7) (by decide +kernel))⟩, by decide, by decide, (mem_val h (us := r11) (q := 59) (j := 6) (t := nI 2) (by decide +kernel)), (mem_val h (us := r11) (q := 61) (j := 6) (t := nI 3) (by decide +kernel)), fun j hj => mem_val h ?_, fun j hj => mem_val h ?_⟩
  · have : ∀ j, j < 2 → hiU r11 60 (20 * 6 + j) = some (([58, 115] : List Int32).getD j 0) := by decide +kernel
    exact this j hj
  · have : ∀ j, j < 3 → hiU r11 62 (20 * 6 + j) = some (([52, 48, 52] : List Int32).getD j 0) := by decide +kernel
    exact this j hj
theorem rl_start (h : ax_n M0 = 26) (hK : Shp pK M0) : RL (memU r11 M0) (memU r11 M0) := by
  have hs := sh_start h hK
  refine ⟨6, [], [], [], ⟨hs, hs, ⟨(mem_val h (us := r11) (q := 33) (j := 1) (t := nI 6) (by decide +kernel)), (mem_val h (us := r11) (q := 54) (j := 53) (t := nI 6) (by decide +kernel)), fun j hj => ?_⟩, ⟨((mem_val h (us := r11) (q := 54) (j := 47) (t := 0) (by decide +kernel)).trans (mem_val h (us := r11) (q := 48) (j := 2) (t := 0) (by decide +kernel)).symm), ((mem_val h (us := r11) (q := 54) (j := 48) (t := 0) (by decide +kernel)).trans (mem_val h (us := r11) (q := 27) (j := 10) (t := 0) (by decide +kernel)).symm), ((mem_val h (us := r11) (q := 54) (j := 50) (t := 100) (by decide +kernel)).trans (mem_val h (us := r11) (q := 27) (j := 11) (t := 100) (by decide +kernel)).symm), ((mem_val h (us := r11) (q := 54) (j := 51) (t := 40) (by decide +kernel)).trans (mem_val h (us := r11) (q := 48) (j := 1) (t := 40) (by decide +kernel)).symm), ((mem_val h (us := r11) (q := 54) (j := 52) (t := 64) (by decide +kernel)).trans (mem_val h (us := r11) (q := 27) (j := 12) (t := 64) (by decide +kernel)).symm), ((mem_val h (us := r11) (q := 54) (j := 49) (t := 0) (by decide +kernel)).trans (mem_val h (us := r11) (q := 27) (j := 9) (t := 0) (by decide +kernel)).symm), ?_, 0, by omega, (mem_val h (us := r11) (q := 27) (j := 9) (t := nI 0) (by decide +kernel))⟩, ⟨fun k hk => ?_, fun i j hi hj _ a => ?_⟩, ⟨⟨by simp, (mem_val h (us := r11) (q := 35) (j := 3) (t := nI 0) (by decide +kernel)), (mem_val h (us := r11) (q := 54) (j := 6) (t := nI 0) (by decide +kernel)), (mem_val h (us := r11) (q := 35) (j := 4) (t := nI 0) (by decide +kernel))⟩, ⟨24, by omega, by decide, (mem_val h (us := r11) (q := 35) (j := 2) (t := nI 24) (by decide +kernel)), (mem_val h (us := r11) (q := 54) (j := 7) (t := nI 24) (by decide +kernel))⟩, fun i hi => absurd hi (by simp), fun i hi => absurd hi (by simp), fun i hi => ?_⟩, ⟨by simp, (mem_val h (us := r11) (q := 31) (j := 1) (t := nI 0) (by decide +kernel)), (mem_val h (us := r11) (q := 54) (j := 1) (t := nI 0) (by decide +kernel)), fun i hi => absurd hi (by simp), fun i j hi => absurd hi (by simp)⟩, ⟨by simp, (mem_val h (us := r11) (q := 45) (j := 4) (t := nI 0) (by decide +kernel)), (mem_val h (us := r11) (q := 54) (j := 34) (t := nI 0) (by decide +kernel)), fun j hj => absurd hj (by simp), fun x hx => absurd hx (by simp)⟩, fun j hj => ⟨0, by omega, mem_val h (nwU_hi r11 29 j (by decide +kernel))⟩, by omega⟩, fun _ => ⟨0, 0, Or.inl ⟨(mem_val h (us := r11) (q := 45) (j := 8) (t := 0) (by decide +kernel)), (mem_val h (us := r11) (q := 54) (j := 32) (t := (-1)) (by decide +kernel))⟩, (mem_val h (us := r11) (q := 45) (j := 0) (t := 0) (by decide +kernel)), ⟨(mem_val h (us := r11) (q := 27) (j := 7) (t := nI 0) (by decide +kernel)), (mem_val h (us := r11) (q := 54) (j := 22) (t := nI 0) (by decide +kernel)), by omega⟩, ⟨(mem_val h (us := r11) (q := 28) (j := 1) (t := nI 0) (by decide +kernel)), (mem_val h (us := r11) (q := 54) (j := 23) (t := nI 0) (by decide +kernel))⟩, fun j hj => absurd hj (by omega), Or.inl (by omega), Or.inl ⟨(mem_val h (us := r11) (q := 27) (j := 8) (t := 0) (by decide +kernel)), (mem_val h (us := r11) (q := 54) (j := 31) (t := 1) (by decide +kernel))⟩⟩⟩
  · have : ∀ j, j < 6 → hiU r11 34 j = hiU r11 76 j ∧ (hiU r11 34 j).isSome = true := by decide +kernel
    obtain ⟨a, b⟩ := this j hj
    obtain ⟨v, hv⟩ := Option.isSome_iff_exists.mp b
    exact (mem_val h hv).trans (mem_val h (a.symm.trans hv)).symm
  · rw [(mem_val h (us := r11) (q := 27) (j := 12) (t := 64) (by decide +kernel))]; decide
  · left
    have : ∀ k, k < 4 → hiU r11 (50 + k) 0 = some 0 ∧ hiU r11 63 k = some 0 := by decide +kernel
    obtain ⟨a, b⟩ := this k hk
    exact ⟨mem_val h a, mem_val h b⟩
  · exfalso
    have : ∀ k, k < 4 → hiU r11 (50 + k) 0 = some 0 := by decide +kernel
    rw [mem_val h (this i hi)] at a
    exact absurd a (by decide)
  · have : i = 0 ∨ i = 1 ∨ i = 2 ∨ i = 3 ∨ i = 4 ∨ i = 5 ∨ i = 6 := by omega
    rcases this with rfl | rfl | rfl | rfl | rfl | rfl | rfl
    · exact fx_start_0 h hK
    · exact fx_start_1 h hK
    · exact fx_start_2 h hK
    · exact fx_start_3 h hK
    · exact fx_start_4 h hK
    · exact fx_start_5 h hK
    · exact fx_start_6 h hK
theorem inv_start {sp L : Nat} (hsp : sp < 26) (h : ax_n M0 = 26) (hK : Shp pK M0) (h0 : ax_own M0 sp 200) (hL : ax_ln M0 sp = L) : Inv sp L (memU r11 M0) := by
  have n0 := ge26_none r11 (by decide +kernel) sp 0 hsp
  refine ⟨rl_start h hK, ⟨?_, ?_⟩, ?_, hsp⟩
  · rw [mem_n h]; exact Nat.lt_of_lt_of_le hsp (by decide +kernel)
  · rw [mem_tg h, n0.1]; exact h0.2
  · rw [mem_ln h, n0.2.1]; exact hL
/-- all of the law -/
theorem law_all {l : Launch} {G : ax_G} {sp L : Nat} {Q : ax_O → ax_M → Prop} (hl : l.stackTraces = false) (hG : ax_Gall G) (hsp : sp < 26) (hL : L ≤ 2560) (hQ : ∀ M', Q (.inl (some (.inl 1))) M') (h : ax_n M0 = 26) (hK : Shp pK M0) (h0 : ax_own M0 sp 200) (hl0 : ax_ln M0 sp = L) : ax_Ev (lawC l G 20) pr_L_law Q (some .boolean) pr_L_law [(0, .inr (.inl (some sp)))] [] M0 657988 7122139 := by
  show ax_Ev _ pr_L_law _ _ bl_L_law_0 _ _ _ _ _
  have call1 : lawC l G 20 99 27 1556 [.inr (.inl (some 26))] (memU u1 M0) (.inl none) (memU u37 M0) := lC_c (by decide) (c_X11_init 14 h hK)
  have call2 : lawC l G 20 110 22 2442 [.inr (.inl (some 54))] (memU r0 M0) (.inl none) (memU r10 M0) := lC_c (by decide) (c_X12_init 16 h hK)
  have e1 : (1 : Int32) = nI 1 := rfl
  have n37 : ax_n (memU u37 M0) = 54 := (mem_n h u37).trans rfl
  have n10 : ax_n (memU r10 M0) = 77 := (mem_n h r10).trans rfl
  simp only [bl_L_law_0, we_new (rc := 657988) (rs := 7122139) (b := 1) (by decide) (by decide), h, Nat.reduceSub, we_iconst_m1, we_iconst_0, we_iconst_1, we_iconst_2, we_iconst_3, we_iconst_4, we_iconst_5, we_bipush_m100, we_bipush_m10, we_bipush_m9, we_bipush_6, we_bipush_7, we_bipush_8, we_bipush_9, we_bipush_10, we_bipush_15, we_bipush_16, we_bipush_17, we_bipush_20, we_bipush_24, we_bipush_31, we_bipush_32, we_bipush_33, we_bipush_40, we_bipush_45, we_bipush_47, we_bipush_48, we_bipush_50, we_bipush_52, we_bipush_53, we_bipush_57, we_bipush_58, we_bipush_60, we_bipush_63, we_bipush_64, we_bipush_65, we_bipush_68, we_bipush_69, we_bipush_71, we_bipush_72, we_bipush_73, we_bipush_80, we_bipush_82, we_bipush_84, we_bipush_97, we_bipush_100, we_bipush_101, we_bipush_103, we_bipush_104, we_bipush_105, we_bipush_107, we_bipush_108, we_bipush_109, we_bipush_110, we_bipush_111, we_bipush_112, we_bipush_115, we_bipush_116, we_bipush_117, we_bipush_122, we_bipush_126, we_bipush_127, we_sipush_128, we_sipush_129, we_sipush_134, we_sipush_135, we_sipush_200, we_sipush_204, we_sipush_255, we_sipush_256, we_sipush_300, we_sipush_320, we_sipush_340, we_sipush_1000, we_sipush_1024, we_sipush_1200, we_sipush_30000, we_ldci, we_ldcs, we_ldcsw, we_aconst_null, we_iload_0, we_aload_0, we_istore_0, we_astore_0, we_iload_1, we_aload_1, we_istore_1, we_astore_1, we_iload_2, we_aload_2, we_istore_2, we_astore_2, we_iload_3, we_aload_3, we_istore_3, we_astore_3, we_iload, we_aload, we_istore, we_astore, we_iinc1, we_iinc_m8, we_iinc_m1, we_iinc_2, we_iinc_5, we_iadd, we_isub, we_imul, we_iand, we_ior, we_ishl, we_ishr, we_iushr, we_idiv, we_irem, we_ineg, we_i2c, we_i2b, we_i2l, we_lcmp, we_dupi, we_popi, we_dupr, we_popr, we_dup2, we_goto, we_if_eq, we_if_ne, we_if_lt, we_if_ge, we_if_gt, we_if_le, we_icmp_eq, we_icmp_ne, we_icmp_lt, we_icmp_ge, we_icmp_gt, we_icmp_le, we_ifnull_n, we_ifnull_s, we_ifnonnull_n, we_ifnonnull_s, we_getf, we_getfr, we_getsv, we_getsc, we_putfr, we_putf, we_getst0, we_getst1, we_getst2, we_iald, we_iald2, we_cald, we_bald, we_bald2, we_zald, we_aald4, we_aald8, we_aald11, we_iast, we_cast, we_zast, we_bast, we_aast4, we_aast8, we_aast11, we_alen, we_iret, we_aret, we_vret, wl_i1, wl_i2, wl_r1, wl_r2, wl_st, wl_rm0, wl_rm1, Nat.beq, cond_true, cond_false, ax_lvA, Nat.zero_add, Nat.reduceAdd, we_alen_100, we_alen_101, we_alen_102, we_alen_200, we_alen_202, we_alen_114, we_alen_118, we_alen_121]
  refine ax_gi (M := memU u1 M0) call1 (by decide) rfl rfl (Nat.le_of_ble_eq_true rfl) (by decide) (by decide) ?_
  simp only [we_new (rc := 657987 - 27) (rs := 7122138 - 1556) (b := 55) (by decide) (by decide), n37, we_iconst_m1, we_iconst_0, we_iconst_1, we_iconst_2, we_iconst_3, we_iconst_4, we_iconst_5, we_bipush_m100, we_bipush_m10, we_bipush_m9, we_bipush_6, we_bipush_7, we_bipush_8, we_bipush_9, we_bipush_10, we_bipush_15, we_bipush_16, we_bipush_17, we_bipush_20, we_bipush_24, we_bipush_31, we_bipush_32, we_bipush_33, we_bipush_40, we_bipush_45, we_bipush_47, we_bipush_48, we_bipush_50, we_bipush_52, we_bipush_53, we_bipush_57, we_bipush_58, we_bipush_60, we_bipush_63, we_bipush_64, we_bipush_65, we_bipush_68, we_bipush_69, we_bipush_71, we_bipush_72, we_bipush_73, we_bipush_80, we_bipush_82, we_bipush_84, we_bipush_97, we_bipush_100, we_bipush_101, we_bipush_103, we_bipush_104, we_bipush_105, we_bipush_107, we_bipush_108, we_bipush_109, we_bipush_110, we_bipush_111, we_bipush_112, we_bipush_115, we_bipush_116, we_bipush_117, we_bipush_122, we_bipush_126, we_bipush_127, we_sipush_128, we_sipush_129, we_sipush_134, we_sipush_135, we_sipush_200, we_sipush_204, we_sipush_255, we_sipush_256, we_sipush_300, we_sipush_320, we_sipush_340, we_sipush_1000, we_sipush_1024, we_sipush_1200, we_sipush_30000, we_ldci, we_ldcs, we_ldcsw, we_aconst_null, we_iload_0, we_aload_0, we_istore_0, we_astore_0, we_iload_1, we_aload_1, we_istore_1, we_astore_1, we_iload_2, we_aload_2, we_istore_2, we_astore_2, we_iload_3, we_aload_3, we_istore_3, we_astore_3, we_iload, we_aload, we_istore, we_astore, we_iinc1, we_iinc_m8, we_iinc_m1, we_iinc_2, we_iinc_5, we_iadd, we_isub, we_imul, we_iand, we_ior, we_ishl, we_ishr, we_iushr, we_idiv, we_irem, we_ineg, we_i2c, we_i2b, we_i2l, we_lcmp, we_dupi, we_popi, we_dupr, we_popr, we_dup2, we_goto, we_if_eq, we_if_ne, we_if_lt, we_if_ge, we_if_gt, we_if_le, we_icmp_eq, we_icmp_ne, we_icmp_lt, we_icmp_ge, we_icmp_gt, we_icmp_le, we_ifnull_n, we_ifnull_s, we_ifnonnull_n, we_ifnonnull_s, we_getf, we_getfr, we_getsv, we_getsc, we_putfr, we_putf, we_getst0, we_getst1, we_getst2, we_iald, we_iald2, we_cald, we_bald, we_bald2, we_zald, we_aald4, we_aald8, we_aald11, we_iast, we_cast, we_zast, we_bast, we_aast4, we_aast8, we_aast11, we_alen, we_iret, we_aret, we_vret, wl_i1, wl_i2, wl_r1, wl_r2, wl_st, wl_rm0, wl_rm1, Nat.beq, cond_true, cond_false, ax_lvA, Nat.zero_add, Nat.reduceAdd, we_alen_100, we_alen_101, we_alen_102, we_alen_200, we_alen_202, we_alen_114, we_alen_118, we_alen_121]
  refine ax_gi (M := memU r0 M0) call2 (by decide) rfl rfl (Nat.le_of_ble_eq_true rfl) (by decide) (by decide) ?_
  simp only [e1, we_newarr (n := 1) (rc := 657987 - 27 - 1 - 22) (rs := 7122138 - 1556 - 55 - 2442) (by decide) (by decide) (by decide), n10, we_iconst_m1, we_iconst_0, we_iconst_1, we_iconst_2, we_iconst_3, we_iconst_4, we_iconst_5, we_bipush_m100, we_bipush_m10, we_bipush_m9, we_bipush_6, we_bipush_7, we_bipush_8, we_bipush_9, we_bipush_10, we_bipush_15, we_bipush_16, we_bipush_17, we_bipush_20, we_bipush_24, we_bipush_31, we_bipush_32, we_bipush_33, we_bipush_40, we_bipush_45, we_bipush_47, we_bipush_48, we_bipush_50, we_bipush_52, we_bipush_53, we_bipush_57, we_bipush_58, we_bipush_60, we_bipush_63, we_bipush_64, we_bipush_65, we_bipush_68, we_bipush_69, we_bipush_71, we_bipush_72, we_bipush_73, we_bipush_80, we_bipush_82, we_bipush_84, we_bipush_97, we_bipush_100, we_bipush_101, we_bipush_103, we_bipush_104, we_bipush_105, we_bipush_107, we_bipush_108, we_bipush_109, we_bipush_110, we_bipush_111, we_bipush_112, we_bipush_115, we_bipush_116, we_bipush_117, we_bipush_122, we_bipush_126, we_bipush_127, we_sipush_128, we_sipush_129, we_sipush_134, we_sipush_135, we_sipush_200, we_sipush_204, we_sipush_255, we_sipush_256, we_sipush_300, we_sipush_320, we_sipush_340, we_sipush_1000, we_sipush_1024, we_sipush_1200, we_sipush_30000, we_ldci, we_ldcs, we_ldcsw, we_aconst_null, we_iload_0, we_aload_0, we_istore_0, we_astore_0, we_iload_1, we_aload_1, we_istore_1, we_astore_1, we_iload_2, we_aload_2, we_istore_2, we_astore_2, we_iload_3, we_aload_3, we_istore_3, we_astore_3, we_iload, we_aload, we_istore, we_astore, we_iinc1, we_iinc_m8, we_iinc_m1, we_iinc_2, we_iinc_5, we_iadd, we_isub, we_imul, we_iand, we_ior, we_ishl, we_ishr, we_iushr, we_idiv, we_irem, we_ineg, we_i2c, we_i2b, we_i2l, we_lcmp, we_dupi, we_popi, we_dupr, we_popr, we_dup2, we_goto, we_if_eq, we_if_ne, we_if_lt, we_if_ge, we_if_gt, we_if_le, we_icmp_eq, we_icmp_ne, we_icmp_lt, we_icmp_ge, we_icmp_gt, we_icmp_le, we_ifnull_n, we_ifnull_s, we_ifnonnull_n, we_ifnonnull_s, we_getf, we_getfr, we_getsv, we_getsc, we_putfr, we_putf, we_getst0, we_getst1, we_getst2, we_iald, we_iald2, we_cald, we_bald, we_bald2, we_zald, we_aald4, we_aald8, we_aald11, we_iast, we_cast, we_zast, we_bast, we_aast4, we_aast8, we_aast11, we_alen, we_iret, we_aret, we_vret, wl_i1, wl_i2, wl_r1, wl_r2, wl_st, wl_rm0, wl_rm1, Nat.beq, cond_true, cond_false, ax_lvA, Nat.zero_add, Nat.reduceAdd, we_alen_100, we_alen_101, we_alen_102, we_alen_200, we_alen_202, we_alen_114, we_alen_118, we_alen_121]
  show ax_Ev _ pr_L_law _ _ bl_L_law_23 _ _ (memU r11 M0) _ _
  exact law_loop hl hG hL hQ (L / 5) 0 (inv_start hsp h hK h0 hl0) (by omega) (by omega) (by omega) (by omega) (ax_le_cons rfl (ax_le_cons rfl (ax_le_cons rfl (ax_le_cons rfl (ax_le_cons rfl (ax_le_nil _))))))
end AX122
