/-! judge: the reference -/
def mO : Option (List Int32) → Int32
  | none => -1
  | some t => mcode t
def pO (t : Option (List Int32)) (N : ax_M) : Prop := match t with
  | none => ax_hi N 54 43 = 0
  | some t => ax_hi N 54 43 = 1 ∧ ax_hi N 54 45 = nI t.length ∧ Txt N 75 0 t ∧ t.length ≤ 20
def JG (r : Option Js) (N : ax_M) : Prop := match r with
  | none => ax_hi N 54 39 = 1
  | some j => ax_hi N 54 39 = 0 ∧ ax_hi N 54 41 = (if j.1 = true then 1 else 0) ∧ ax_hi N 54 42 = mO j.2.1 ∧ ax_hi N 54 44 = j.2.2.2 ∧ pO j.2.2.1 N
/-- what the reference knows of the fields F -/
def JR (F : Tb) (N : ax_M) : Prop := ((ax_hi N 54 39 = 0 ∨ ax_hi N 54 39 = 1) ∧ (ax_hi N 54 41 = 0 ∨ ax_hi N 54 41 = 1) ∧ (ax_hi N 54 43 = 0 ∨ ax_hi N 54 43 = 1)) ∧ ax_hi N 54 40 = (if anyC F = true then 1 else 0) ∧ JG (jAll F jIn) N
theorem jAll_app (q : List Int32 × List Int32) : ∀ (F : Tb) (j : Js), jAll (F ++ [q]) j = match jAll F j with
    | none => none
    | some j2 => jStep q j2
  | [], j => by
    show (match jStep q j with
      | none => none
      | some j2 => jAll [] j2) = jStep q j
    cases jStep q j <;> rfl
  | p :: F, j => by
    show (match jStep p j with
      | none => none
      | some j2 => jAll (F ++ [q]) j2) = match (match jStep p j with
        | none => none
        | some j2 => jAll F j2) with
      | none => none
      | some j2 => jStep q j2
    cases h : jStep p j with
    | none => rfl
    | some j2 => exact jAll_app q F j2
theorem anyC_app (F : Tb) (q : List Int32 × List Int32) : anyC (F ++ [q]) = (anyC F || decide (q.1.getD 0 0 = 58)) := by
  unfold anyC; rw [List.any_append, List.any_cons, List.any_nil, Bool.or_false]
theorem mc_ne (t : List Int32) : ¬ mcode t = -1 := by
  unfold mcode
  split
  · decide
  · split <;> decide
theorem let_eq (x : Int32) : rLet x = if isLt x = true then 1 else 0 := by
  unfold rLet isLt
  by_cases a : x < 97
  · rw [if_pos a, show decide (x < 97) = true from decide_eq_true a]; rfl
  · rw [if_neg a, show decide (x < 97) = false from decide_eq_false a]
    by_cases b : x ≤ 122
    · rw [if_neg (Int32.not_lt.mpr b), show decide (x ≤ 122) = true from decide_eq_true b]; rfl
    · rw [if_pos (Int32.not_le.mp b), show decide (x ≤ 122) = false from decide_eq_false b]; rfl
section AX75
variable {N : ax_M} {q : List Int32 × List Int32} {F : Tb}
theorem ll_loop {d : Nat} {Q : ax_O → ax_M → Prop} {rt : Option FieldType} {N0 : ax_M} : ∀ (r : List Int32) (k : Nat) {N : ax_M} {lv : ax_L}, q.1.drop k = r → k ≤ q.1.length → SH N → Ent N 16 q.1 q.2 → Pj N0 N → (ax_hi N 54 39 = 0 ∨ ax_hi N 54 39 = 1) → (∀ j, j ≠ 39 → ax_hi N 54 j = ax_hi N0 54 j) → (∀ k, ax_hi N 75 k = ax_hi N0 75 k) →
    (∀ N2 lv2, ax_le [(0, .inr (.inl (some 54)))] lv2 → SH N2 → Pj N0 N2 → ax_hi N2 54 39 = (if ax_hi N 54 39 = 0 ∧ r.all isLt = true then 0 else 1) → (∀ j, j ≠ 39 → ax_hi N2 54 j = ax_hi N0 54 j) → (∀ k, ax_hi N2 75 k = ax_hi N0 75 k) → ax_Ev (ax_calls ax_P (d + 1)) pr_X12_judge Q rt bl_X12_judge_232 lv2 [] N2 0 0) → ax_le [(3, .inl (nI k)), (0, .inr (.inl (some 54)))] lv → ax_Ev (ax_calls ax_P (d + 1)) pr_X12_judge Q rt bl_X12_judge_183 lv [] N 0 0
  | [], k, N, lv, hd, hk, h, hE, hP, hb, ho, h5, hf, hle => by
    refine ax_Ev_wk hle ?_
    obtain ⟨a1, a2⟩ := v16
    have hl := hE.1
    have hk2 : q.1.length ≤ k := by
      have := congrArg List.length hd
      rw [List.length_drop] at this
      simp at this; omega
    have z : nI q.1.length ≤ nI k := nI_le (by omega) (by omega)
    conv => unfold bl_X12_judge_183
    simp only [so_54 h, so_59 h, sr_54_8 h, sl_59 h, a1, a2, hE.2.2.1, z, at_X12_judge_232, if_true, we_iconst_m1, we_iconst_0, we_iconst_1, we_iconst_2, we_iconst_3, we_iconst_4, we_iconst_5, we_bipush_m100, we_bipush_m10, we_bipush_m9, we_bipush_6, we_bipush_7, we_bipush_8, we_bipush_9, we_bipush_10, we_bipush_15, we_bipush_16, we_bipush_17, we_bipush_20, we_bipush_24, we_bipush_31, we_bipush_32, we_bipush_33, we_bipush_40, we_bipush_45, we_bipush_47, we_bipush_48, we_bipush_50, we_bipush_52, we_bipush_53, we_bipush_57, we_bipush_58, we_bipush_60, we_bipush_63, we_bipush_64, we_bipush_65, we_bipush_68, we_bipush_69, we_bipush_71, we_bipush_72, we_bipush_73, we_bipush_80, we_bipush_82, we_bipush_84, we_bipush_97, we_bipush_100, we_bipush_101, we_bipush_103, we_bipush_104, we_bipush_105, we_bipush_107, we_bipush_108, we_bipush_109, we_bipush_110, we_bipush_111, we_bipush_112, we_bipush_115, we_bipush_116, we_bipush_117, we_bipush_122, we_bipush_126, we_bipush_127, we_sipush_128, we_sipush_129, we_sipush_134, we_sipush_135, we_sipush_200, we_sipush_204, we_sipush_255, we_sipush_256, we_sipush_300, we_sipush_320, we_sipush_340, we_sipush_1000, we_sipush_1024, we_sipush_1200, we_sipush_30000, we_ldci, we_ldcs, we_ldcsw, we_aconst_null, we_iload_0, we_aload_0, we_istore_0, we_astore_0, we_iload_1, we_aload_1, we_istore_1, we_astore_1, we_iload_2, we_aload_2, we_istore_2, we_astore_2, we_iload_3, we_aload_3, we_istore_3, we_astore_3, we_iload, we_aload, we_istore, we_astore, we_iinc1, we_iinc_m8, we_iinc_m1, we_iinc_2, we_iinc_5, we_iadd, we_isub, we_imul, we_iand, we_ior, we_ishl, we_ishr, we_iushr, we_idiv, we_irem, we_ineg, we_i2c, we_i2b, we_i2l, we_lcmp, we_dupi, we_popi, we_dupr, we_popr, we_dup2, we_goto, we_if_eq, we_if_ne, we_if_lt, we_if_ge, we_if_gt, we_if_le, we_icmp_eq, we_icmp_ne, we_icmp_lt, we_icmp_ge, we_icmp_gt, we_icmp_le, we_ifnull_n, we_ifnull_s, we_ifnonnull_n, we_ifnonnull_s, we_getf, we_getfr, we_getsv, we_getsc, we_putfr, we_putf, we_getst0, we_getst1, we_getst2, we_iald, we_iald2, we_cald, we_bald, we_bald2, we_zald, we_aald4, we_aald8, we_aald11, we_iast, we_cast, we_zast, we_bast, we_aast4, we_aast8, we_aast11, we_alen, we_iret, we_aret, we_vret, wl_i1, wl_i2, wl_r1, wl_r2, wl_st, wl_rm0, wl_rm1, Nat.beq, cond_true, cond_false, ax_lvA, Nat.zero_add, Nat.reduceAdd, we_alen_100, we_alen_101, we_alen_102, we_alen_200, we_alen_202, we_alen_114, we_alen_118, we_alen_121]
    refine hf N _ (ax_le_cons rfl (ax_le_nil _)) h hP ?_ ho h5
    rcases hb with b | b
    · rw [if_pos ⟨b, rfl⟩]; exact b
    · rw [if_neg (fun w => by rw [b] at w; exact absurd w.1 t_10)]; exact b
  | x :: r, k, N, lv, hd, hk, h, hE, hP, hb, ho, h5, hf, hle => by
    refine ax_Ev_wk hle ?_
    obtain ⟨a1, a2⟩ := v16
    have hl := hE.1
    obtain ⟨d1, d2, d3⟩ := drop_get hd
    have z : ¬ nI q.1.length ≤ nI k := nI_ge d1 (by omega)
    have k1 : nI k + 1 = nI (k + 1) := nI_1 k
    have p1 : 320 + nI k = nI (320 + k) := nI_add 320 _
    have i1 : vp_in (nI (320 + k)) 340 := vp_in_nI (by omega) (by decide)
    have c1 : (nI (320 + k)).toNatClampNeg = 320 + k := nI_clamp (by omega)
    have n1 : narrow (ax_ty 14 39) (.int 1) = .int 1 := rfl
    have n2 : fits (ax_ty 14 39) (.int 1) = true := rfl
    have n3 : narrow (ax_ty 14 39) (.int 0) = .int 0 := rfl
    have n4 : fits (ax_ty 14 39) (.int 0) = true := rfl
    have v0 : ax_hi N 60 (320 + k) = x := (hE.2.2.2.2.1 k d1).trans d2
    have next : ∀ (b2 : Int32) (lv2 : ax_L), (b2 = 0 ∨ b2 = 1) → (b2 = if ax_hi N 54 39 = 0 ∧ isLt x = true then 0 else 1) → ax_le [(3, .inl (nI (k + 1))), (0, .inr (.inl (some 54)))] lv2 → ax_Ev (ax_calls ax_P (d + 1)) pr_X12_judge Q rt bl_X12_judge_183 lv2 [] (ax_si N 54 39 b2) 0 0 := fun b2 lv2 hb2 he hl2 => by
      refine ll_loop r (k + 1) d3 (by omega) (h.si (by decide)) hE.n54 (hP.si (by decide) (by decide)) (by rw [wm_h1s]; exact hb2) (fun j hj => (wm_h1k (nbq hj)).trans (ho j hj)) (fun k => (wm_h1n rfl).trans (h5 k)) (fun N2 lv3 w1 w2 w3 w4 w5 w6 => hf N2 lv3 w1 w2 w3 ?_ w5 w6) hl2
      rw [w4, wm_h1s, List.all_cons, he]
      by_cases y : ax_hi N 54 39 = 0
      · cases hx : isLt x with
        | true =>
          rw [show (if ax_hi N 54 39 = 0 ∧ true = true then (0 : Int32) else 1) = 0 from if_pos ⟨y, rfl⟩, Bool.true_and]
          by_cases yr : r.all isLt = true
          · rw [if_pos ⟨rfl, yr⟩, if_pos ⟨y, yr⟩]
          · rw [if_neg (fun w => yr w.2), if_neg (fun w => yr w.2)]
        | false => rw [if_neg (show ¬ (ax_hi N 54 39 = 0 ∧ false = true) from fun w => absurd w.2 (by decide)), Bool.false_and, if_neg (fun w => absurd w.1 t_10), if_neg (fun w => absurd w.2 (by decide))]
      · rw [if_neg (show ¬ (ax_hi N 54 39 = 0 ∧ isLt x = true) from fun w => y w.1), if_neg (fun w => absurd w.1 t_10), if_neg (fun w => y w.1)]
    conv => unfold bl_X12_judge_183
    rcases hb with b | b
    · simp only [so_54 h, so_59 h, so_60 h, sr_54_8 h, sr_54_9 h, sl_59 h, sl_60 h, a1, a2, hE.2.2.1, z, b, p1, i1, c1, v0, if_true, if_false, we_iconst_m1, we_iconst_0, we_iconst_1, we_iconst_2, we_iconst_3, we_iconst_4, we_iconst_5, we_bipush_m100, we_bipush_m10, we_bipush_m9, we_bipush_6, we_bipush_7, we_bipush_8, we_bipush_9, we_bipush_10, we_bipush_15, we_bipush_16, we_bipush_17, we_bipush_20, we_bipush_24, we_bipush_31, we_bipush_32, we_bipush_33, we_bipush_40, we_bipush_45, we_bipush_47, we_bipush_48, we_bipush_50, we_bipush_52, we_bipush_53, we_bipush_57, we_bipush_58, we_bipush_60, we_bipush_63, we_bipush_64, we_bipush_65, we_bipush_68, we_bipush_69, we_bipush_71, we_bipush_72, we_bipush_73, we_bipush_80, we_bipush_82, we_bipush_84, we_bipush_97, we_bipush_100, we_bipush_101, we_bipush_103, we_bipush_104, we_bipush_105, we_bipush_107, we_bipush_108, we_bipush_109, we_bipush_110, we_bipush_111, we_bipush_112, we_bipush_115, we_bipush_116, we_bipush_117, we_bipush_122, we_bipush_126, we_bipush_127, we_sipush_128, we_sipush_129, we_sipush_134, we_sipush_135, we_sipush_200, we_sipush_204, we_sipush_255, we_sipush_256, we_sipush_300, we_sipush_320, we_sipush_340, we_sipush_1000, we_sipush_1024, we_sipush_1200, we_sipush_30000, we_ldci, we_ldcs, we_ldcsw, we_aconst_null, we_iload_0, we_aload_0, we_istore_0, we_astore_0, we_iload_1, we_aload_1, we_istore_1, we_astore_1, we_iload_2, we_aload_2, we_istore_2, we_astore_2, we_iload_3, we_aload_3, we_istore_3, we_astore_3, we_iload, we_aload, we_istore, we_astore, we_iinc1, we_iinc_m8, we_iinc_m1, we_iinc_2, we_iinc_5, we_iadd, we_isub, we_imul, we_iand, we_ior, we_ishl, we_ishr, we_iushr, we_idiv, we_irem, we_ineg, we_i2c, we_i2b, we_i2l, we_lcmp, we_dupi, we_popi, we_dupr, we_popr, we_dup2, we_goto, we_if_eq, we_if_ne, we_if_lt, we_if_ge, we_if_gt, we_if_le, we_icmp_eq, we_icmp_ne, we_icmp_lt, we_icmp_ge, we_icmp_gt, we_icmp_le, we_ifnull_n, we_ifnull_s, we_ifnonnull_n, we_ifnonnull_s, we_getf, we_getfr, we_getsv, we_getsc, we_putfr, we_putf, we_getst0, we_getst1, we_getst2, we_iald, we_iald2, we_cald, we_bald, we_bald2, we_zald, we_aald4, we_aald8, we_aald11, we_iast, we_cast, we_zast, we_bast, we_aast4, we_aast8, we_aast11, we_alen, we_iret, we_aret, we_vret, wl_i1, wl_i2, wl_r1, wl_r2, wl_st, wl_rm0, wl_rm1, Nat.beq, cond_true, cond_false, ax_lvA, Nat.zero_add, Nat.reduceAdd, we_alen_100, we_alen_101, we_alen_102, we_alen_200, we_alen_202, we_alen_114, we_alen_118, we_alen_121]
      refine ax_gt1 (r_isLetter d N x) (by decide) rfl rfl (Nat.le_of_ble_eq_true rfl) ?_
      rw [let_eq]
      cases hx : isLt x with
      | true =>
        simp only [t_10, so_54 h, n3, n4, k1, bl_X12_judge_222, at_X12_judge_222, bl_X12_judge_223, at_X12_judge_223, at_X12_judge_183, if_true, if_false, we_iconst_m1, we_iconst_0, we_iconst_1, we_iconst_2, we_iconst_3, we_iconst_4, we_iconst_5, we_bipush_m100, we_bipush_m10, we_bipush_m9, we_bipush_6, we_bipush_7, we_bipush_8, we_bipush_9, we_bipush_10, we_bipush_15, we_bipush_16, we_bipush_17, we_bipush_20, we_bipush_24, we_bipush_31, we_bipush_32, we_bipush_33, we_bipush_40, we_bipush_45, we_bipush_47, we_bipush_48, we_bipush_50, we_bipush_52, we_bipush_53, we_bipush_57, we_bipush_58, we_bipush_60, we_bipush_63, we_bipush_64, we_bipush_65, we_bipush_68, we_bipush_69, we_bipush_71, we_bipush_72, we_bipush_73, we_bipush_80, we_bipush_82, we_bipush_84, we_bipush_97, we_bipush_100, we_bipush_101, we_bipush_103, we_bipush_104, we_bipush_105, we_bipush_107, we_bipush_108, we_bipush_109, we_bipush_110, we_bipush_111, we_bipush_112, we_bipush_115, we_bipush_116, we_bipush_117, we_bipush_122, we_bipush_126, we_bipush_127, we_sipush_128, we_sipush_129, we_sipush_134, we_sipush_135, we_sipush_200, we_sipush_204, we_sipush_255, we_sipush_256, we_sipush_300, we_sipush_320, we_sipush_340, we_sipush_1000, we_sipush_1024, we_sipush_1200, we_sipush_30000, we_ldci, we_ldcs, we_ldcsw, we_aconst_null, we_iload_0, we_aload_0, we_istore_0, we_astore_0, we_iload_1, we_aload_1, we_istore_1, we_astore_1, we_iload_2, we_aload_2, we_istore_2, we_astore_2, we_iload_3, we_aload_3, we_istore_3, we_astore_3, we_iload, we_aload, we_istore, we_astore, we_iinc1, we_iinc_m8, we_iinc_m1, we_iinc_2, we_iinc_5, we_iadd, we_isub, we_imul, we_iand, we_ior, we_ishl, we_ishr, we_iushr, we_idiv, we_irem, we_ineg, we_i2c, we_i2b, we_i2l, we_lcmp, we_dupi, we_popi, we_dupr, we_popr, we_dup2, we_goto, we_if_eq, we_if_ne, we_if_lt, we_if_ge, we_if_gt, we_if_le, we_icmp_eq, we_icmp_ne, we_icmp_lt, we_icmp_ge, we_icmp_gt, we_icmp_le, we_ifnull_n, we_ifnull_s, we_ifnonnull_n, we_ifnonnull_s, we_getf, we_getfr, we_getsv, we_getsc, we_putfr, we_putf, we_getst0, we_getst1, we_getst2, we_iald, we_iald2, we_cald, we_bald, we_bald2, we_zald, we_aald4, we_aald8, we_aald11, we_iast, we_cast, we_zast, we_bast, we_aast4, we_aast8, we_aast11, we_alen, we_iret, we_aret, we_vret, wl_i1, wl_i2, wl_r1, wl_r2, wl_st, wl_rm0, wl_rm1, Nat.beq, cond_true, cond_false, ax_lvA, Nat.zero_add, Nat.reduceAdd, we_alen_100, we_alen_101, we_alen_102, we_alen_200, we_alen_202, we_alen_114, we_alen_118, we_alen_121]
        exact next 0 _ (Or.inl rfl) (by rw [if_pos ⟨b, hx⟩]) (ax_le_cons rfl (ax_le_cons rfl (ax_le_nil _)))
      | false =>
        simp only [Bool.false_eq_true, so_54 h, n1, n2, k1, bl_X12_judge_218, at_X12_judge_218, bl_X12_judge_223, at_X12_judge_223, at_X12_judge_183, if_true, if_false, we_iconst_m1, we_iconst_0, we_iconst_1, we_iconst_2, we_iconst_3, we_iconst_4, we_iconst_5, we_bipush_m100, we_bipush_m10, we_bipush_m9, we_bipush_6, we_bipush_7, we_bipush_8, we_bipush_9, we_bipush_10, we_bipush_15, we_bipush_16, we_bipush_17, we_bipush_20, we_bipush_24, we_bipush_31, we_bipush_32, we_bipush_33, we_bipush_40, we_bipush_45, we_bipush_47, we_bipush_48, we_bipush_50, we_bipush_52, we_bipush_53, we_bipush_57, we_bipush_58, we_bipush_60, we_bipush_63, we_bipush_64, we_bipush_65, we_bipush_68, we_bipush_69, we_bipush_71, we_bipush_72, we_bipush_73, we_bipush_80, we_bipush_82, we_bipush_84, we_bipush_97, we_bipush_100, we_bipush_101, we_bipush_103, we_bipush_104, we_bipush_105, we_bipush_107, we_bipush_108, we_bipush_109, we_bipush_110, we_bipush_111, we_bipush_112, we_bipush_115, we_bipush_116, we_bipush_117, we_bipush_122, we_bipush_126, we_bipush_127, we_sipush_128, we_sipush_129, we_sipush_134, we_sipush_135, we_sipush_200, we_sipush_204, we_sipush_255, we_sipush_256, we_sipush_300, we_sipush_320, we_sipush_340, we_sipush_1000, we_sipush_1024, we_sipush_1200, we_sipush_30000, we_ldci, we_ldcs, we_ldcsw, we_aconst_null, we_iload_0, we_aload_0, we_istore_0, we_astore_0, we_iload_1, we_aload_1, we_istore_1, we_astore_1, we_iload_2, we_aload_2, we_istore_2, we_astore_2, we_iload_3, we_aload_3, we_istore_3, we_astore_3, we_iload, we_aload, we_istore, we_astore, we_iinc1, we_iinc_m8, we_iinc_m1, we_iinc_2, we_iinc_5, we_iadd, we_isub, we_imul, we_iand, we_ior, we_ishl, we_ishr, we_iushr, we_idiv, we_irem, we_ineg, we_i2c, we_i2b, we_i2l, we_lcmp, we_dupi, we_popi, we_dupr, we_popr, we_dup2, we_goto, we_if_eq, we_if_ne, we_if_lt, we_if_ge, we_if_gt, we_if_le, we_icmp_eq, we_icmp_ne, we_icmp_lt, we_icmp_ge, we_icmp_gt, we_icmp_le, we_ifnull_n, we_ifnull_s, we_ifnonnull_n, we_ifnonnull_s, we_getf, we_getfr, we_getsv, we_getsc, we_putfr, we_putf, we_getst0, we_getst1, we_getst2, we_iald, we_iald2, we_cald, we_bald, we_bald2, we_zald, we_aald4, we_aald8, we_aald11, we_iast, we_cast, we_zast, we_bast, we_aast4, we_aast8, we_aast11, we_alen, we_iret, we_aret, we_vret, wl_i1, wl_i2, wl_r1, wl_r2, wl_st, wl_rm0, wl_rm1, Nat.beq, cond_true, cond_false, ax_lvA, Nat.zero_add, Nat.reduceAdd, we_alen_100, we_alen_101, we_alen_102, we_alen_200, we_alen_202, we_alen_114, we_alen_118, we_alen_121]
        exact next 1 _ (Or.inr rfl) (by rw [if_neg (fun w => by rw [hx] at w; exact absurd w.2 (by decide))]) (ax_le_cons rfl (ax_le_cons rfl (ax_le_nil _)))
    · simp only [so_54 h, so_59 h, sr_54_8 h, sl_59 h, a1, a2, hE.2.2.1, z, b, t_10, n1, n2, k1, bl_X12_judge_218, at_X12_judge_218, bl_X12_judge_223, at_X12_judge_223, at_X12_judge_183, if_false, we_iconst_m1, we_iconst_0, we_iconst_1, we_iconst_2, we_iconst_3, we_iconst_4, we_iconst_5, we_bipush_m100, we_bipush_m10, we_bipush_m9, we_bipush_6, we_bipush_7, we_bipush_8, we_bipush_9, we_bipush_10, we_bipush_15, we_bipush_16, we_bipush_17, we_bipush_20, we_bipush_24, we_bipush_31, we_bipush_32, we_bipush_33, we_bipush_40, we_bipush_45, we_bipush_47, we_bipush_48, we_bipush_50, we_bipush_52, we_bipush_53, we_bipush_57, we_bipush_58, we_bipush_60, we_bipush_63, we_bipush_64, we_bipush_65, we_bipush_68, we_bipush_69, we_bipush_71, we_bipush_72, we_bipush_73, we_bipush_80, we_bipush_82, we_bipush_84, we_bipush_97, we_bipush_100, we_bipush_101, we_bipush_103, we_bipush_104, we_bipush_105, we_bipush_107, we_bipush_108, we_bipush_109, we_bipush_110, we_bipush_111, we_bipush_112, we_bipush_115, we_bipush_116, we_bipush_117, we_bipush_122, we_bipush_126, we_bipush_127, we_sipush_128, we_sipush_129, we_sipush_134, we_sipush_135, we_sipush_200, we_sipush_204, we_sipush_255, we_sipush_256, we_sipush_300, we_sipush_320, we_sipush_340, we_sipush_1000, we_sipush_1024, we_sipush_1200, we_sipush_30000, we_ldci, we_ldcs, we_ldcsw, we_aconst_null, we_iload_0, we_aload_0, we_istore_0, we_astore_0, we_iload_1, we_aload_1, we_istore_1, we_astore_1, we_iload_2, we_aload_2, we_istore_2, we_astore_2, we_iload_3, we_aload_3, we_istore_3, we_astore_3, we_iload, we_aload, we_istore, we_astore, we_iinc1, we_iinc_m8, we_iinc_m1, we_iinc_2, we_iinc_5, we_iadd, we_isub, we_imul, we_iand, we_ior, we_ishl, we_ishr, we_iushr, we_idiv, we_irem, we_ineg, we_i2c, we_i2b, we_i2l, we_lcmp, we_dupi, we_popi, we_dupr, we_popr, we_dup2, we_goto, we_if_eq, we_if_ne, we_if_lt, we_if_ge, we_if_gt, we_if_le, we_icmp_eq, we_icmp_ne, we_icmp_lt, we_icmp_ge, we_icmp_gt, we_icmp_le, we_ifnull_n, we_ifnull_s, we_ifnonnull_n, we_ifnonnull_s, we_getf, we_getfr, we_getsv, we_getsc, we_putfr, we_putf, we_getst0, we_getst1, we_getst2, we_iald, we_iald2, we_cald, we_bald, we_bald2, we_zald, we_aald4, we_aald8, we_aald11, we_iast, we_cast, we_zast, we_bast, we_aast4, we_aast8, we_aast11, we_alen, we_iret, we_aret, we_vret, wl_i1, wl_i2, wl_r1, wl_r2, wl_st, wl_rm0, wl_rm1, Nat.beq, cond_true, cond_false, ax_lvA, Nat.zero_add, Nat.reduceAdd, we_alen_100, we_alen_101, we_alen_102, we_alen_200, we_alen_202, we_alen_114, we_alen_118, we_alen_121]
      exact next 1 _ (Or.inr rfl) (by rw [if_neg (fun w => by rw [b] at w; exact absurd w.1 t_10)]) (ax_le_cons rfl (ax_le_cons rfl (ax_le_nil _)))
theorem pt_loop {C : ax_C} {Q : ax_O → ax_M → Prop} {rt : Option FieldType} (hC : Cr q.2) {N0 : ax_M} : ∀ (m k : Nat) {N : ax_M} {lv : ax_L}, k + m = 20 → SH N → Ent N 16 q.1 q.2 → Pj N0 N → (∀ j, ax_hi N 54 j = ax_hi N0 54 j) → (∀ j, j < q.2.length → j < k → ax_hi N 75 j = q.2.getD j 0) →
    (∀ N2 lv2, SH N2 → Pj N0 N2 → (∀ j, ax_hi N2 54 j = ax_hi N0 54 j) → Txt N2 75 0 q.2 → ax_Ev C pr_X12_judge Q rt bl_X12_judge_173 lv2 [] N2 0 0) → ax_le [(3, .inl (nI k)), (0, .inr (.inl (some 54)))] lv → ax_Ev C pr_X12_judge Q rt bl_X12_judge_145 lv [] N 0 0
  | 0, k, N, lv, hk, h, hE, hP, ho, h1, hf, hle => by
    refine ax_Ev_wk hle ?_
    have a1 : (20 : Int32) ≤ nI k := nI_le (a := 20) (by omega) (by omega)
    have hl := hE.2.1
    conv => unfold bl_X12_judge_145
    simp only [a1, at_X12_judge_173, if_true, we_iconst_m1, we_iconst_0, we_iconst_1, we_iconst_2, we_iconst_3, we_iconst_4, we_iconst_5, we_bipush_m100, we_bipush_m10, we_bipush_m9, we_bipush_6, we_bipush_7, we_bipush_8, we_bipush_9, we_bipush_10, we_bipush_15, we_bipush_16, we_bipush_17, we_bipush_20, we_bipush_24, we_bipush_31, we_bipush_32, we_bipush_33, we_bipush_40, we_bipush_45, we_bipush_47, we_bipush_48, we_bipush_50, we_bipush_52, we_bipush_53, we_bipush_57, we_bipush_58, we_bipush_60, we_bipush_63, we_bipush_64, we_bipush_65, we_bipush_68, we_bipush_69, we_bipush_71, we_bipush_72, we_bipush_73, we_bipush_80, we_bipush_82, we_bipush_84, we_bipush_97, we_bipush_100, we_bipush_101, we_bipush_103, we_bipush_104, we_bipush_105, we_bipush_107, we_bipush_108, we_bipush_109, we_bipush_110, we_bipush_111, we_bipush_112, we_bipush_115, we_bipush_116, we_bipush_117, we_bipush_122, we_bipush_126, we_bipush_127, we_sipush_128, we_sipush_129, we_sipush_134, we_sipush_135, we_sipush_200, we_sipush_204, we_sipush_255, we_sipush_256, we_sipush_300, we_sipush_320, we_sipush_340, we_sipush_1000, we_sipush_1024, we_sipush_1200, we_sipush_30000, we_ldci, we_ldcs, we_ldcsw, we_aconst_null, we_iload_0, we_aload_0, we_istore_0, we_astore_0, we_iload_1, we_aload_1, we_istore_1, we_astore_1, we_iload_2, we_aload_2, we_istore_2, we_astore_2, we_iload_3, we_aload_3, we_istore_3, we_astore_3, we_iload, we_aload, we_istore, we_astore, we_iinc1, we_iinc_m8, we_iinc_m1, we_iinc_2, we_iinc_5, we_iadd, we_isub, we_imul, we_iand, we_ior, we_ishl, we_ishr, we_iushr, we_idiv, we_irem, we_ineg, we_i2c, we_i2b, we_i2l, we_lcmp, we_dupi, we_popi, we_dupr, we_popr, we_dup2, we_goto, we_if_eq, we_if_ne, we_if_lt, we_if_ge, we_if_gt, we_if_le, we_icmp_eq, we_icmp_ne, we_icmp_lt, we_icmp_ge, we_icmp_gt, we_icmp_le, we_ifnull_n, we_ifnull_s, we_ifnonnull_n, we_ifnonnull_s, we_getf, we_getfr, we_getsv, we_getsc, we_putfr, we_putf, we_getst0, we_getst1, we_getst2, we_iald, we_iald2, we_cald, we_bald, we_bald2, we_zald, we_aald4, we_aald8, we_aald11, we_iast, we_cast, we_zast, we_bast, we_aast4, we_aast8, we_aast11, we_alen, we_iret, we_aret, we_vret, wl_i1, wl_i2, wl_r1, wl_r2, wl_st, wl_rm0, wl_rm1, Nat.beq, cond_true, cond_false, ax_lvA, Nat.zero_add, Nat.reduceAdd, we_alen_100, we_alen_101, we_alen_102, we_alen_200, we_alen_202, we_alen_114, we_alen_118, we_alen_121]
    exact hf N _ h hP ho (fun j hj => by rw [Nat.zero_add]; exact h1 j hj (by omega))
  | m + 1, k, N, lv, hk, h, hE, hP, ho, h1, hf, hle => by
    refine ax_Ev_wk hle ?_
    have a1 : ¬ (20 : Int32) ≤ nI k := nI_ge (b := 20) (by omega) (by decide)
    have k1 : nI k + 1 = nI (k + 1) := nI_1 k
    have p1 : 320 + nI k = nI (320 + k) := nI_add 320 _
    have i1 : vp_in (nI (320 + k)) 340 := vp_in_nI (by omega) (by decide)
    have c1 : (nI (320 + k)).toNatClampNeg = 320 + k := nI_clamp (by omega)
    have i2 : vp_in (nI k) 20 := vp_in_nI (by omega) (by decide)
    have c2 : (nI k).toNatClampNeg = k := nI_clamp (by omega)
    conv => unfold bl_X12_judge_145
    simp only [so_54 h, so_62 h, so_75 h, sr_54_11 h, sr_54_46 h, sl_62 h, sl_75 h, a1, k1, p1, i1, c1, i2, c2, at_X12_judge_145, if_false, we_iconst_m1, we_iconst_0, we_iconst_1, we_iconst_2, we_iconst_3, we_iconst_4, we_iconst_5, we_bipush_m100, we_bipush_m10, we_bipush_m9, we_bipush_6, we_bipush_7, we_bipush_8, we_bipush_9, we_bipush_10, we_bipush_15, we_bipush_16, we_bipush_17, we_bipush_20, we_bipush_24, we_bipush_31, we_bipush_32, we_bipush_33, we_bipush_40, we_bipush_45, we_bipush_47, we_bipush_48, we_bipush_50, we_bipush_52, we_bipush_53, we_bipush_57, we_bipush_58, we_bipush_60, we_bipush_63, we_bipush_64, we_bipush_65, we_bipush_68, we_bipush_69, we_bipush_71, we_bipush_72, we_bipush_73, we_bipush_80, we_bipush_82, we_bipush_84, we_bipush_97, we_bipush_100, we_bipush_101, we_bipush_103, we_bipush_104, we_bipush_105, we_bipush_107, we_bipush_108, we_bipush_109, we_bipush_110, we_bipush_111, we_bipush_112, we_bipush_115, we_bipush_116, we_bipush_117, we_bipush_122, we_bipush_126, we_bipush_127, we_sipush_128, we_sipush_129, we_sipush_134, we_sipush_135, we_sipush_200, we_sipush_204, we_sipush_255, we_sipush_256, we_sipush_300, we_sipush_320, we_sipush_340, we_sipush_1000, we_sipush_1024, we_sipush_1200, we_sipush_30000, we_ldci, we_ldcs, we_ldcsw, we_aconst_null, we_iload_0, we_aload_0, we_istore_0, we_astore_0, we_iload_1, we_aload_1, we_istore_1, we_astore_1, we_iload_2, we_aload_2, we_istore_2, we_astore_2, we_iload_3, we_aload_3, we_istore_3, we_astore_3, we_iload, we_aload, we_istore, we_astore, we_iinc1, we_iinc_m8, we_iinc_m1, we_iinc_2, we_iinc_5, we_iadd, we_isub, we_imul, we_iand, we_ior, we_ishl, we_ishr, we_iushr, we_idiv, we_irem, we_ineg, we_i2c, we_i2b, we_i2l, we_lcmp, we_dupi, we_popi, we_dupr, we_popr, we_dup2, we_goto, we_if_eq, we_if_ne, we_if_lt, we_if_ge, we_if_gt, we_if_le, we_icmp_eq, we_icmp_ne, we_icmp_lt, we_icmp_ge, we_icmp_gt, we_icmp_le, we_ifnull_n, we_ifnull_s, we_ifnonnull_n, we_ifnonnull_s, we_getf, we_getfr, we_getsv, we_getsc, we_putfr, we_putf, we_getst0, we_getst1, we_getst2, we_iald, we_iald2, we_cald, we_bald, we_bald2, we_zald, we_aald4, we_aald8, we_aald11, we_iast, we_cast, we_zast, we_bast, we_aast4, we_aast8, we_aast11, we_alen, we_iret, we_aret, we_vret, wl_i1, wl_i2, wl_r1, wl_r2, wl_st, wl_rm0, wl_rm1, Nat.beq, cond_true, cond_false, ax_lvA, Nat.zero_add, Nat.reduceAdd, we_alen_100, we_alen_101, we_alen_102, we_alen_200, we_alen_202, we_alen_114, we_alen_118, we_alen_121]
    refine pt_loop hC m (k + 1) (by omega) (h.si (by decide)) ((Pj.refl N).s75.ent hE) hP.s75 (fun j => (wm_h1n rfl).trans (ho j)) (fun j hj hjk => ?_) hf (ax_le_cons rfl (ax_le_cons rfl (ax_le_nil _)))
    by_cases w : j = k
    · subst w
      rw [wm_h1s, hE.2.2.2.2.2 j hj]
      obtain ⟨y, y1, y2⟩ := hC _ (getD_in hj)
      rw [y2]; exact nar_c y1
    · rw [wm_h1k (nbq w)]; exact h1 j hj (by omega)
def JuP (F : Tb) (q : List Int32 × List Int32) (N : ax_M) (o : ax_O) (N2 : ax_M) : Prop := o = .inl none ∧ SH N2 ∧ Pj N N2 ∧ JR (F ++ [q]) N2
end AX75
