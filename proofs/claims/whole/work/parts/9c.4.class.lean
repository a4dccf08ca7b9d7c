/-! THE CLASS's CONSTRUCTORS -/
def u1 : List UO := (0, 13, 0, 0, none) :: []
def u2 : List UO := (0, 3, 0, 0, none) :: u1
def u3 : List UO := (0, 5, 0, 0, none) :: u2
def u4 : List UO := (2, 28, 0, 0, some 29) :: (0, 100, 204, 0, none) :: u3
def u5 : List UO := (2, 27, 1, 0, some 28) :: u4
def u6 : List UO := (0, 9, 0, 0, none) :: u5
def u7 : List UO := (2, 27, 2, 0, some 30) :: u6
def u8 : List UO := (0, 10, 0, 0, none) :: u7
def u9 : List UO := (2, 31, 0, 0, some 32) :: (0, 118, 8, 0, none) :: u8
def u10 : List UO := (2, 27, 0, 0, some 31) :: u9
def u11 : List UO := (0, 7, 0, 0, none) :: u10
def u12 : List UO := (2, 33, 0, 0, some 34) :: (0, 100, 1024, 0, none) :: u11
def u13 : List UO := (2, 27, 3, 0, some 33) :: u12
def u14 : List UO := (0, 6, 0, 0, none) :: u13
def u15 : List UO := (2, 35, 0, 0, some 36) :: (0, 114, 7, 0, none) :: u14
def u16 : List UO := (2, 35, 1, 0, some 37) :: (0, 114, 8, 0, none) :: u15
def v0 : List UO := (0, 4, 0, 0, none) :: u16
def w0 : List UO := (1, 38, 2, 7, none) :: (2, 38, 1, 0, some 5) :: (2, 38, 0, 0, some 3) :: v0
def x0 : List UO := (2, 36, 0, 0, some 38) :: w0
def v1 : List UO := (0, 4, 0, 0, none) :: x0
def w1 : List UO := (1, 39, 2, 8, none) :: (2, 39, 1, 0, some 7) :: (2, 39, 0, 0, some 3) :: v1
def x1 : List UO := (2, 36, 1, 0, some 39) :: w1
def v2 : List UO := (0, 4, 0, 0, none) :: x1
def w2 : List UO := (1, 40, 2, 5, none) :: (2, 40, 1, 0, some 11) :: (2, 40, 0, 0, some 9) :: v2
def x2 : List UO := (2, 36, 2, 0, some 40) :: w2
def v3 : List UO := (0, 4, 0, 0, none) :: x2
def w3 : List UO := (1, 41, 2, 6, none) :: (2, 41, 1, 0, some 15) :: (2, 41, 0, 0, some 13) :: v3
def x3 : List UO := (2, 36, 3, 0, some 41) :: w3
def v4 : List UO := (0, 4, 0, 0, none) :: x3
def w4 : List UO := (1, 42, 2, 8, none) :: (2, 42, 1, 0, some 15) :: (2, 42, 0, 0, some 17) :: v4
def x4 : List UO := (2, 36, 4, 0, some 42) :: w4
def v5 : List UO := (0, 4, 0, 0, none) :: x4
def w5 : List UO := (1, 43, 2, 7, none) :: (2, 43, 1, 0, some 21) :: (2, 43, 0, 0, some 19) :: v5
def x5 : List UO := (2, 36, 5, 0, some 43) :: w5
def v6 : List UO := (0, 4, 0, 0, none) :: x5
def w6 : List UO := (1, 44, 2, 7, none) :: (2, 44, 1, 0, some 23) :: (2, 44, 0, 0, some 19) :: v6
def x6 : List UO := (2, 36, 6, 0, some 44) :: w6
def u24 : List UO := (2, 27, 4, 0, some 35) :: x6
def u25 : List UO := (0, 2, 0, 0, none) :: u24
def u26 : List UO := (2, 45, 2, 0, some 47) :: (0, 114, 100, 0, none) :: (2, 45, 1, 0, some 46) :: (0, 100, 100, 0, none) :: u25
def u27 : List UO := (2, 27, 5, 0, some 45) :: u26
def u28 : List UO := (0, 12, 0, 0, none) :: u27
def u29 : List UO := (2, 48, 0, 0, some 49) :: (0, 121, 4, 0, none) :: u28
def y0 : List UO := (0, 11, 0, 0, none) :: u29
def z0 : List UO := (2, 50, 9, 0, some 15) :: (2, 50, 8, 0, some 15) :: (1, 50, 7, -1, none) :: y0
def q0 : List UO := (2, 49, 0, 0, some 50) :: z0
def y1 : List UO := (0, 11, 0, 0, none) :: q0
def z1 : List UO := (2, 51, 9, 0, some 15) :: (2, 51, 8, 0, some 15) :: (1, 51, 7, -1, none) :: y1
def q1 : List UO := (2, 49, 1, 0, some 51) :: z1
def y2 : List UO := (0, 11, 0, 0, none) :: q1
def z2 : List UO := (2, 52, 9, 0, some 15) :: (2, 52, 8, 0, some 15) :: (1, 52, 7, -1, none) :: y2
def q2 : List UO := (2, 49, 2, 0, some 52) :: z2
def y3 : List UO := (0, 11, 0, 0, none) :: q2
def z3 : List UO := (2, 53, 9, 0, some 15) :: (2, 53, 8, 0, some 15) :: (1, 53, 7, -1, none) :: y3
def q3 : List UO := (2, 49, 3, 0, some 53) :: z3
def u34 : List UO := (2, 27, 6, 0, some 48) :: q3
def u35 : List UO := u34
def u36 : List UO := (1, 33, 1, nI 6, none) :: (1, 34, 5, 4 &&& 255, none) :: (1, 33, 1, nI 5, none) :: (1, 34, 4, 3 &&& 255, none) :: (1, 33, 1, nI 4, none) :: (1, 34, 3, 0 &&& 255, none) :: (1, 33, 1, nI 3, none) :: (1, 34, 2, 0 &&& 255, none) :: (1, 33, 1, nI 2, none) :: (1, 34, 1, 4 &&& 255, none) :: (1, 33, 1, nI 1, none) :: (1, 34, 0, 2 &&& 255, none) :: (1, 27, 12, 64, none) :: (1, 27, 11, 100, none) :: (1, 27, 10, 0, none) :: (1, 27, 9, 0, none) :: (1, 27, 8, 0, none) :: (1, 27, 7, 0, none) :: (1, 53, 0, 0, none) :: (1, 52, 0, 0, none) :: (1, 51, 0, 0, none) :: (1, 50, 0, 0, none) :: (1, 48, 2, 0, none) :: (1, 48, 1, 40, none) :: (1, 45, 0, 0, none) :: (1, 45, 8, 0, none) :: (1, 45, 5, 0, none) :: (1, 45, 4, 0, none) :: (1, 35, 4, 0, none) :: (1, 35, 3, 0, none) :: (1, 35, 2, 24, none) :: (1, 33, 1, 0, none) :: (1, 28, 1, 0, none) :: u35
def u37 : List UO := (2, 26, 0, 0, some 27) :: u36
section AX118
variable {M0 : ax_M}
theorem begin_u (M0 : ax_M) : fBegin (memU u35 M0) = memU u36 M0 := rfl
theorem kst {M : ax_M} (h : Shp pK M) {o a : Nat} {l : List Int32} (h1 : (o, 300) ∈ sh_tg) (h2 : (a, 202) ∈ sh_tg) (h3 : (o, 0, a) ∈ sh_rf) (h4 : (a, l.length) ∈ sh_ln) (h5 : (a, l) ∈ sh_by) (h6 : o ∈ sh_cs) (h7 : pK o = true ∧ pK a = true) (h8 : Im o = true ∧ o ≠ 25 ∧ l.length ≤ 20) (h9 : Im a = true) (h10 : ∀ x ∈ l, ∃ n, n < 128 ∧ x = nI n) : Stg M o l :=
  ⟨h8, a, h9, ⟨Or.inr (h.own h1 h7.1), Or.inr (h.own h2 h7.2)⟩, h.2.2.1 (o, 0, a) h3 h7.1, h.2.1 (a, l.length) h4 h7.2, fun j hj => h.2.2.2.1 (a, l) h5 j hj, h.2.2.2.2 o h6, h10⟩
theorem kst_3 {M : ax_M} (h : Shp pK M) : Stg M 3 [58, 109] := kst h (a := 4) (by decide) (by decide) (by decide) (by decide) (by decide) (by decide) (by decide) (by decide) (by decide) (chs (l := [58, 109]) (by decide))
theorem kst_5 {M : ax_M} (h : Shp pK M) : Stg M 5 [71, 69, 84] := kst h (a := 6) (by decide) (by decide) (by decide) (by decide) (by decide) (by decide) (by decide) (by decide) (by decide) (chs (l := [71, 69, 84]) (by decide))
theorem kst_7 {M : ax_M} (h : Shp pK M) : Stg M 7 [72, 69, 65, 68] := kst h (a := 8) (by decide) (by decide) (by decide) (by decide) (by decide) (by decide) (by decide) (by decide) (by decide) (chs (l := [72, 69, 65, 68]) (by decide))
theorem kst_9 {M : ax_M} (h : Shp pK M) : Stg M 9 [58, 112] := kst h (a := 10) (by decide) (by decide) (by decide) (by decide) (by decide) (by decide) (by decide) (by decide) (by decide) (chs (l := [58, 112]) (by decide))
theorem kst_11 {M : ax_M} (h : Shp pK M) : Stg M 11 [47] := kst h (a := 12) (by decide) (by decide) (by decide) (by decide) (by decide) (by decide) (by decide) (by decide) (by decide) (chs (l := [47]) (by decide))
theorem kst_13 {M : ax_M} (h : Shp pK M) : Stg M 13 [104, 111, 115, 116] := kst h (a := 14) (by decide) (by decide) (by decide) (by decide) (by decide) (by decide) (by decide) (by decide) (by decide) (chs (l := [104, 111, 115, 116]) (by decide))
theorem kst_15 {M : ax_M} (h : Shp pK M) : Stg M 15 [] := kst h (a := 16) (by decide) (by decide) (by decide) (by decide) (by decide) (by decide) (by decide) (by decide) (by decide) (chs (l := []) (by decide))
theorem kst_17 {M : ax_M} (h : Shp pK M) : Stg M 17 [108, 101, 110, 103, 116, 104] := kst h (a := 18) (by decide) (by decide) (by decide) (by decide) (by decide) (by decide) (by decide) (by decide) (by decide) (chs (l := [108, 101, 110, 103, 116, 104]) (by decide))
theorem kst_19 {M : ax_M} (h : Shp pK M) : Stg M 19 [58, 115] := kst h (a := 20) (by decide) (by decide) (by decide) (by decide) (by decide) (by decide) (by decide) (by decide) (by decide) (chs (l := [58, 115]) (by decide))
theorem kst_21 {M : ax_M} (h : Shp pK M) : Stg M 21 [50, 48, 48] := kst h (a := 22) (by decide) (by decide) (by decide) (by decide) (by decide) (by decide) (by decide) (by decide) (by decide) (chs (l := [50, 48, 48]) (by decide))
theorem kst_23 {M : ax_M} (h : Shp pK M) : Stg M 23 [52, 48, 52] := kst h (a := 24) (by decide) (by decide) (by decide) (by decide) (by decide) (by decide) (by decide) (by decide) (by decide) (chs (l := [52, 48, 52]) (by decide))
theorem pK_mem (h : ax_n M0 = 26) (hK : Shp pK M0) {us : List UO} (hg : ge26 us = true) : Shp pK (memU us M0) := by
  have none := ge26_none us hg
  refine ⟨fun q hq hp => ?_, fun q hq hp => ?_, fun q hq hp => ?_, fun q hq k hk => ?_, fun q hq => ?_⟩
  · have : q.1 < 26 := Nat.le_of_ble_eq_true hp
    refine ⟨by rw [mem_n h]; have := cnt26 us; omega, ?_⟩
    rw [mem_tg h, (none q.1 0 this).1]; exact (hK.1 q hq hp).2
  · have : q.1 < 26 := Nat.le_of_ble_eq_true hp
    rw [mem_ln h, (none q.1 0 this).2.1]; exact hK.2.1 q hq hp
  · have : q.1 < 26 := Nat.le_of_ble_eq_true hp
    rw [mem_hr h, (none q.1 q.2.1 this).2.2.1]; exact hK.2.2.1 q hq hp
  · rw [mem_hi h, (none q.1 k (sh_by_lt q hq)).2.2.2]; exact hK.2.2.2.1 q hq k hk
  · rw [mem_hi h, (none q 1 (sh_cs_lt q hq)).2.2.2]; exact hK.2.2.2.2 q hq
theorem c_X10_init (d : Nat) (h : ax_n M0 = 26) : ax_calls ax_P (d + 2) 88 5 44 [.inr (.inl (some 48))] (memU u28 M0) (.inl none) (memU q3 M0) := by
  refine ax_callOf (T := pt_X10_init) (cod := pr_X10_init) rfl (by simp [ax_c1]) (Nat.le_of_ble_eq_true rfl) ?_
  show ax_Ev _ pr_X10_init _ _ bl_X10_init_0 _ _ _ _ _
  have hw : (([] : List ax_V).map ax_w).sum ≤ 8 := by decide
  have e4 : (4 : Int32) = nI 4 := rfl
  have o48 := (mem_own h (us := u28) (q := 48) (t := 12) (by decide))
  have o48' := own_nw (a := 121) (n := 4) o48
  have n28 : ax_n (memU u28 M0) = 49 := (mem_n h u28).trans rfl
  have turn : ∀ (k : Nat) (A Bm Dm : List UO) (rc rs : Nat) (lv : ax_L), k < 4 → 1 ≤ rc → 10 ≤ rs → ax_own (memU A M0) 48 12 → ax_hr (memU A M0) 48 0 = some 49 → ax_n (memU A M0) = 50 + k → ax_own (memU Bm M0) 48 12 → ax_own (memU Bm M0) 49 121 → ax_ln (memU Bm M0) 49 = 4 → ax_own (memU Bm M0) (50 + k) 11 → k9 (ax_new (memU A M0) 11 0) (50 + k) = memU Bm M0 → ax_sr (memU Bm M0) 49 k (some (50 + k)) = memU Dm M0 → (∀ lv2, ax_le [(1, .inl (nI (k + 1))), (0, .inr (.inl (some 48)))] lv2 → ax_Ev (ax_calls ax_P (d + 1)) pr_X10_init (fun o' M' => o' = .inl none ∧ M' = memU q3 M0) pt_X10_init.1.2.2.2 bl_X10_init_14 lv2 [] (memU Dm M0) (rc - 1) (rs - 10)) → ax_le [(1, .inl (nI k)), (0, .inr (.inl (some 48)))] lv → ax_Ev (ax_calls ax_P (d + 1)) pr_X10_init (fun o' M' => o' = .inl none ∧ M' = memU q3 M0) pt_X10_init.1.2.2.2 bl_X10_init_14 lv [] (memU A M0) rc rs := fun k A Bm Dm rc rs lv hk hrc hrs a1 a2 a3 b1 b2 b3 b4 e1 e2 next hl => by
    refine ax_Ev_wk hl ?_
    have w : ¬ (4 : Int32) ≤ nI k := nI_ge (b := 4) hk (by omega)
    have i1 : vp_in (nI k) 4 := vp_in_nI hk (by decide)
    have c1 : (nI k).toNatClampNeg = k := nI_clamp (by omega)
    have s1 : nI k + 1 = nI (k + 1) := nI_1 k
    have on : ax_own (ax_new (memU A M0) 11 0) (50 + k) 11 := by rw [← a3]; exact nw_own _ _ _
    conv => unfold bl_X10_init_14
    simp only [w, a1, a2, we_new hrc hrs, a3, if_false, we_iconst_m1, we_iconst_0, we_iconst_1, we_iconst_2, we_iconst_3, we_iconst_4, we_iconst_5, we_bipush_m100, we_bipush_m10, we_bipush_m9, we_bipush_6, we_bipush_7, we_bipush_8, we_bipush_9, we_bipush_10, we_bipush_15, we_bipush_16, we_bipush_17, we_bipush_20, we_bipush_24, we_bipush_31, we_bipush_32, we_bipush_33, we_bipush_40, we_bipush_45, we_bipush_47, we_bipush_48, we_bipush_50, we_bipush_52, we_bipush_53, we_bipush_57, we_bipush_58, we_bipush_60, we_bipush_63, we_bipush_64, we_bipush_65, we_bipush_68, we_bipush_69, we_bipush_71, we_bipush_72, we_bipush_73, we_bipush_80, we_bipush_82, we_bipush_84, we_bipush_97, we_bipush_100, we_bipush_101, we_bipush_103, we_bipush_104, we_bipush_105, we_bipush_107, we_bipush_108, we_bipush_109, we_bipush_110, we_bipush_111, we_bipush_112, we_bipush_115, we_bipush_116, we_bipush_117, we_bipush_122, we_bipush_126, we_bipush_127, we_sipush_128, we_sipush_129, we_sipush_134, we_sipush_135, we_sipush_200, we_sipush_204, we_sipush_255, we_sipush_256, we_sipush_300, we_sipush_320, we_sipush_340, we_sipush_1000, we_sipush_1024, we_sipush_1200, we_sipush_30000, we_ldci, we_ldcs, we_ldcsw, we_aconst_null, we_iload_0, we_aload_0, we_istore_0, we_astore_0, we_iload_1, we_aload_1, we_istore_1, we_astore_1, we_iload_2, we_aload_2, we_istore_2, we_astore_2, we_iload_3, we_aload_3, we_istore_3, we_astore_3, we_iload, we_aload, we_istore, we_astore, we_iinc1, we_iinc_m8, we_iinc_m1, we_iinc_2, we_iinc_5, we_iadd, we_isub, we_imul, we_iand, we_ior, we_ishl, we_ishr, we_iushr, we_idiv, we_irem, we_ineg, we_i2c, we_i2b, we_i2l, we_lcmp, we_dupi, we_popi, we_dupr, we_popr, we_dup2, we_goto, we_if_eq, we_if_ne, we_if_lt, we_if_ge, we_if_gt, we_if_le, we_icmp_eq, we_icmp_ne, we_icmp_lt, we_icmp_ge, we_icmp_gt, we_icmp_le, we_ifnull_n, we_ifnull_s, we_ifnonnull_n, we_ifnonnull_s, we_getf, we_getfr, we_getsv, we_getsc, we_putfr, we_putf, we_getst0, we_getst1, we_getst2, we_iald, we_iald2, we_cald, we_bald, we_bald2, we_zald, we_aald4, we_aald8, we_aald11, we_iast, we_cast, we_zast, we_bast, we_aast4, we_aast8, we_aast11, we_alen, we_iret, we_aret, we_vret, wl_i1, wl_i2, wl_r1, wl_r2, wl_st, wl_rm0, wl_rm1, Nat.beq, cond_true, cond_false, ax_lvA, Nat.zero_add, Nat.reduceAdd, we_alen_100, we_alen_101, we_alen_102, we_alen_200, we_alen_202, we_alen_114, we_alen_118, we_alen_121]
    refine ax_gi (c_X9_init d on) (by decide) rfl rfl (Nat.le_of_ble_eq_true rfl) (Nat.zero_le _) (Nat.zero_le _) ?_
    rw [e1, Nat.sub_zero, Nat.sub_zero]
    simp only [b2, b3, b4, i1, c1, s1, at_X10_init_14, we_iconst_m1, we_iconst_0, we_iconst_1, we_iconst_2, we_iconst_3, we_iconst_4, we_iconst_5, we_bipush_m100, we_bipush_m10, we_bipush_m9, we_bipush_6, we_bipush_7, we_bipush_8, we_bipush_9, we_bipush_10, we_bipush_15, we_bipush_16, we_bipush_17, we_bipush_20, we_bipush_24, we_bipush_31, we_bipush_32, we_bipush_33, we_bipush_40, we_bipush_45, we_bipush_47, we_bipush_48, we_bipush_50, we_bipush_52, we_bipush_53, we_bipush_57, we_bipush_58, we_bipush_60, we_bipush_63, we_bipush_64, we_bipush_65, we_bipush_68, we_bipush_69, we_bipush_71, we_bipush_72, we_bipush_73, we_bipush_80, we_bipush_82, we_bipush_84, we_bipush_97, we_bipush_100, we_bipush_101, we_bipush_103, we_bipush_104, we_bipush_105, we_bipush_107, we_bipush_108, we_bipush_109, we_bipush_110, we_bipush_111, we_bipush_112, we_bipush_115, we_bipush_116, we_bipush_117, we_bipush_122, we_bipush_126, we_bipush_127, we_sipush_128, we_sipush_129, we_sipush_134, we_sipush_135, we_sipush_200, we_sipush_204, we_sipush_255, we_sipush_256, we_sipush_300, we_sipush_320, we_sipush_340, we_sipush_1000, we_sipush_1024, we_sipush_1200, we_sipush_30000, we_ldci, we_ldcs, we_ldcsw, we_aconst_null, we_iload_0, we_aload_0, we_istore_0, we_astore_0, we_iload_1, we_aload_1, we_istore_1, we_astore_1, we_iload_2, we_aload_2, we_istore_2, we_astore_2, we_iload_3, we_aload_3, we_istore_3, we_astore_3, we_iload, we_aload, we_istore, we_astore, we_iinc1, we_iinc_m8, we_iinc_m1, we_iinc_2, we_iinc_5, we_iadd, we_isub, we_imul, we_iand, we_ior, we_ishl, we_ishr, we_iushr, we_idiv, we_irem, we_ineg, we_i2c, we_i2b, we_i2l, we_lcmp, we_dupi, we_popi, we_dupr, we_popr, we_dup2, we_goto, we_if_eq, we_if_ne, we_if_lt, we_if_ge, we_if_gt, we_if_le, we_icmp_eq, we_icmp_ne, we_icmp_lt, we_icmp_ge, we_icmp_gt, we_icmp_le, we_ifnull_n, we_ifnull_s, we_ifnonnull_n, we_ifnonnull_s, we_getf, we_getfr, we_getsv, we_getsc, we_putfr, we_putf, we_getst0, we_getst1, we_getst2, we_iald, we_iald2, we_cald, we_bald, we_bald2, we_zald, we_aald4, we_aald8, we_aald11, we_iast, we_cast, we_zast, we_bast, we_aast4, we_aast8, we_aast11, we_alen, we_iret, we_aret, we_vret, wl_i1, wl_i2, wl_r1, wl_r2, wl_st, wl_rm0, wl_rm1, Nat.beq, cond_true, cond_false, ax_lvA, Nat.zero_add, Nat.reduceAdd, we_alen_100, we_alen_101, we_alen_102, we_alen_200, we_alen_202, we_alen_114, we_alen_118, we_alen_121]
    rw [e2]
    exact next _ (ax_le_cons rfl (ax_le_cons rfl (ax_le_nil _)))
  simp only [bl_X10_init_0, we_obj hw, e4, we_anew (n := 4) (rc := 5) (rs := 44) (by omega) (by omega) (by omega), n28, o48', at_X10_init_14, we_iconst_m1, we_iconst_0, we_iconst_1, we_iconst_2, we_iconst_3, we_iconst_4, we_iconst_5, we_bipush_m100, we_bipush_m10, we_bipush_m9, we_bipush_6, we_bipush_7, we_bipush_8, we_bipush_9, we_bipush_10, we_bipush_15, we_bipush_16, we_bipush_17, we_bipush_20, we_bipush_24, we_bipush_31, we_bipush_32, we_bipush_33, we_bipush_40, we_bipush_45, we_bipush_47, we_bipush_48, we_bipush_50, we_bipush_52, we_bipush_53, we_bipush_57, we_bipush_58, we_bipush_60, we_bipush_63, we_bipush_64, we_bipush_65, we_bipush_68, we_bipush_69, we_bipush_71, we_bipush_72, we_bipush_73, we_bipush_80, we_bipush_82, we_bipush_84, we_bipush_97, we_bipush_100, we_bipush_101, we_bipush_103, we_bipush_104, we_bipush_105, we_bipush_107, we_bipush_108, we_bipush_109, we_bipush_110, we_bipush_111, we_bipush_112, we_bipush_115, we_bipush_116, we_bipush_117, we_bipush_122, we_bipush_126, we_bipush_127, we_sipush_128, we_sipush_129, we_sipush_134, we_sipush_135, we_sipush_200, we_sipush_204, we_sipush_255, we_sipush_256, we_sipush_300, we_sipush_320, we_sipush_340, we_sipush_1000, we_sipush_1024, we_sipush_1200, we_sipush_30000, we_ldci, we_ldcs, we_ldcsw, we_aconst_null, we_iload_0, we_aload_0, we_istore_0, we_astore_0, we_iload_1, we_aload_1, we_istore_1, we_astore_1, we_iload_2, we_aload_2, we_istore_2, we_astore_2, we_iload_3, we_aload_3, we_istore_3, we_astore_3, we_iload, we_aload, we_istore, we_astore, we_iinc1, we_iinc_m8, we_iinc_m1, we_iinc_2, we_iinc_5, we_iadd, we_isub, we_imul, we_iand, we_ior, we_ishl, we_ishr, we_iushr, we_idiv, we_irem, we_ineg, we_i2c, we_i2b, we_i2l, we_lcmp, we_dupi, we_popi, we_dupr, we_popr, we_dup2, we_goto, we_if_eq, we_if_ne, we_if_lt, we_if_ge, we_if_gt, we_if_le, we_icmp_eq, we_icmp_ne, we_icmp_lt, we_icmp_ge, we_icmp_gt, we_icmp_le, we_ifnull_n, we_ifnull_s, we_ifnonnull_n, we_ifnonnull_s, we_getf, we_getfr, we_getsv, we_getsc, we_putfr, we_putf, we_getst0, we_getst1, we_getst2, we_iald, we_iald2, we_cald, we_bald, we_bald2, we_zald, we_aald4, we_aald8, we_aald11, we_iast, we_cast, we_zast, we_bast, we_aast4, we_aast8, we_aast11, we_alen, we_iret, we_aret, we_vret, wl_i1, wl_i2, wl_r1, wl_r2, wl_st, wl_rm0, wl_rm1, Nat.beq, cond_true, cond_false, ax_lvA, Nat.zero_add, Nat.reduceAdd, we_alen_100, we_alen_101, we_alen_102, we_alen_200, we_alen_202, we_alen_114, we_alen_118, we_alen_121]
  show ax_Ev _ pr_X10_init _ _ bl_X10_init_14 _ _ (memU u29 M0) _ _
  refine turn 0 u29 z0 q0 4 40 _ (by decide) (by decide) (by decide) (mem_own h (us := u29) (q := 48) (t := 12) (by decide)) (mem_ref h (by decide)) ((mem_n h u29).trans rfl) (mem_own h (us := z0) (q := 48) (t := 12) (by decide)) (mem_own h (us := z0) (q := 49) (t := 121) (by decide)) (mem_len h (by decide)) (mem_own h (us := z0) (q := 50) (t := 11) (by decide)) rfl rfl (fun lv1 l1 => ?_) (ax_le_cons rfl (ax_le_cons rfl (ax_le_nil _)))
  refine turn 1 q0 z1 q1 (4 - 1) (40 - 10) _ (by decide) (by decide) (by decide) (mem_own h (us := q0) (q := 48) (t := 12) (by decide)) (mem_ref h (by decide)) ((mem_n h q0).trans rfl) (mem_own h (us := z1) (q := 48) (t := 12) (by decide)) (mem_own h (us := z1) (q := 49) (t := 121) (by decide)) (mem_len h (by decide)) (mem_own h (us := z1) (q := 51) (t := 11) (by decide)) rfl rfl (fun lv2 l2 => ?_) l1
  refine turn 2 q1 z2 q2 (3 - 1) (30 - 10) _ (by decide) (by decide) (by decide) (mem_own h (us := q1) (q := 48) (t := 12) (by decide)) (mem_ref h (by decide)) ((mem_n h q1).trans rfl) (mem_own h (us := z2) (q := 48) (t := 12) (by decide)) (mem_own h (us := z2) (q := 49) (t := 121) (by decide)) (mem_len h (by decide)) (mem_own h (us := z2) (q := 52) (t := 11) (by decide)) rfl rfl (fun lv3 l3 => ?_) l2
  refine turn 3 q2 z3 q3 (2 - 1) (20 - 10) _ (by decide) (by decide) (by decide) (mem_own h (us := q2) (q := 48) (t := 12) (by decide)) (mem_ref h (by decide)) ((mem_n h q2).trans rfl) (mem_own h (us := z3) (q := 48) (t := 12) (by decide)) (mem_own h (us := z3) (q := 49) (t := 121) (by decide)) (mem_len h (by decide)) (mem_own h (us := z3) (q := 53) (t := 11) (by decide)) rfl rfl (fun lv4 l4 => ?_) l3
  refine ax_Ev_wk l4 ?_
  have w : (4 : Int32) ≤ nI (3 + 1) := by decide
  conv => unfold bl_X10_init_14
  simp only [w, bl_X10_init_38, at_X10_init_38, if_true, we_iconst_m1, we_iconst_0, we_iconst_1, we_iconst_2, we_iconst_3, we_iconst_4, we_iconst_5, we_bipush_m100, we_bipush_m10, we_bipush_m9, we_bipush_6, we_bipush_7, we_bipush_8, we_bipush_9, we_bipush_10, we_bipush_15, we_bipush_16, we_bipush_17, we_bipush_20, we_bipush_24, we_bipush_31, we_bipush_32, we_bipush_33, we_bipush_40, we_bipush_45, we_bipush_47, we_bipush_48, we_bipush_50, we_bipush_52, we_bipush_53, we_bipush_57, we_bipush_58, we_bipush_60, we_bipush_63, we_bipush_64, we_bipush_65, we_bipush_68, we_bipush_69, we_bipush_71, we_bipush_72, we_bipush_73, we_bipush_80, we_bipush_82, we_bipush_84, we_bipush_97, we_bipush_100, we_bipush_101, we_bipush_103, we_bipush_104, we_bipush_105, we_bipush_107, we_bipush_108, we_bipush_109, we_bipush_110, we_bipush_111, we_bipush_112, we_bipush_115, we_bipush_116, we_bipush_117, we_bipush_122, we_bipush_126, we_bipush_127, we_sipush_128, we_sipush_129, we_sipush_134, we_sipush_135, we_sipush_200, we_sipush_204, we_sipush_255, we_sipush_256, we_sipush_300, we_sipush_320, we_sipush_340, we_sipush_1000, we_sipush_1024, we_sipush_1200, we_sipush_30000, we_ldci, we_ldcs, we_ldcsw, we_aconst_null, we_iload_0, we_aload_0, we_istore_0, we_astore_0, we_iload_1, we_aload_1, we_istore_1, we_astore_1, we_iload_2, we_aload_2, we_istore_2, we_astore_2, we_iload_3, we_aload_3, we_istore_3, we_astore_3, we_iload, we_aload, we_istore, we_astore, we_iinc1, we_iinc_m8, we_iinc_m1, we_iinc_2, we_iinc_5, we_iadd, we_isub, we_imul, we_iand, we_ior, we_ishl, we_ishr, we_iushr, we_idiv, we_irem, we_ineg, we_i2c, we_i2b, we_i2l, we_lcmp, we_dupi, we_popi, we_dupr, we_popr, we_dup2, we_goto, we_if_eq, we_if_ne, we_if_lt, we_if_ge, we_if_gt, we_if_le, we_icmp_eq, we_icmp_ne, we_icmp_lt, we_icmp_ge, we_icmp_gt, we_icmp_le, we_ifnull_n, we_ifnull_s, we_ifnonnull_n, we_ifnonnull_s, we_getf, we_getfr, we_getsv, we_getsc, we_putfr, we_putf, we_getst0, we_getst1, we_getst2, we_iald, we_iald2, we_cald, we_bald, we_bald2, we_zald, we_aald4, we_aald8, we_aald11, we_iast, we_cast, we_zast, we_bast, we_aast4, we_aast8, we_aast11, we_alen, we_iret, we_aret, we_vret, wl_i1, wl_i2, wl_r1, wl_r2, wl_st, wl_rm0, wl_rm1, Nat.beq, cond_true, cond_false, ax_lvA, Nat.zero_add, Nat.reduceAdd, we_alen_100, we_alen_101, we_alen_102, we_alen_200, we_alen_202, we_alen_114, we_alen_118, we_alen_121]
  first | exact trivial | exact ⟨trivial, trivial⟩ | exact ⟨trivial, rfl⟩ | exact ⟨rfl, trivial⟩ | exact ⟨rfl, rfl⟩
end AX118
