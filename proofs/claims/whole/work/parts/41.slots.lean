/-! WHAT THE RELATION SAYS of slots, flags and numbers -/
theorem nI_inj {a b : Nat} (ha : a < 2147483648) (hb : b < 2147483648) (h : nI a = nI b) : a = b := by
  have h1 := nI_clamp ha
  have h2 := nI_clamp hb
  rw [h] at h1; omega
theorem mt_rel {s N : ax_M} (h : ES s N) {m k : Nat} (hm : m < 256) (hk : k < 4) : mt s (nI m) k = true ↔ 0 < m ∧ ax_hi N 63 k = nI m := by
  unfold mt
  rcases h.1 k hk with ⟨a, b⟩ | ⟨a, ⟨n, n1, n2, n3, n4⟩, -⟩
  · rw [a, b]
    constructor
    · intro z; exact absurd z (by simp)
    · rintro ⟨z1, z2⟩
      have := nI_inj (a := 0) (b := m) (by omega) (by omega) (nI_0.trans z2)
      omega
  · rw [a, n3, n4]
    constructor
    · intro z
      have e : nI n = nI m := by simpa using z
      have := nI_inj (by omega) (by omega) e
      exact ⟨by omega, e⟩
    · rintro ⟨z1, z2⟩
      simp [z2]
theorem mt_two {s N : ax_M} (h : ES s N) {n : Int32} {i j : Nat} (hi : i < 4) (hj : j < 4) (hij : i ≠ j) (h1 : mt s n i = true) (h2 : mt s n j = true) : False := by
  obtain ⟨a1, a2⟩ := mt_t h1
  obtain ⟨b1, b2⟩ := mt_t h2
  refine h.2 i j hi hj hij ?_ ?_ (a2.trans b2.symm)
  · rcases h.1 i hi with z | z
    · exact absurd z.1 a1
    · exact z.1
  · rcases h.1 j hj with z | z
    · exact absurd z.1 b1
    · exact z.1
/-- the reference's slot of what the class found -/
def sC : Option Nat → Int32
  | none => -1
  | some o => nI (o - 50)
theorem sl1_rel {s N : ax_M} (h : ES s N) {m k : Nat} (hm : m < 256) (hk : k < 4) (f : Int32) : sl1 N (nI m) f k = bif mt s (nI m) k then nI k else f := by
  unfold sl1
  cases hb : mt s (nI m) k with
  | true =>
    obtain ⟨h1, h2⟩ := (mt_rel h hm hk).mp hb
    have a : ¬ nI m ≤ 0 := by rw [← nI_0]; exact nI_ge h1 (by omega)
    rw [if_neg a, if_pos h2]; rfl
  | false =>
    by_cases a : nI m ≤ 0
    · rw [if_pos a]; rfl
    · rw [if_neg a]
      by_cases e : ax_hi N 63 k = nI m
      · exfalso
        have h0 : 0 < m := by
          rcases Nat.eq_zero_or_pos m with z | z
          · subst z; rw [nI_0] at a; exact absurd (by decide) a
          · exact z
        rw [(mt_rel h hm hk).mpr ⟨h0, e⟩] at hb; exact absurd hb (by decide)
      · rw [if_neg e]; rfl
theorem slot_rel {s N : ax_M} (h : ES s N) {m : Nat} (hm : m < 256) : rSlot N (nI m) = sC (fFind s (nI m)) := by
  unfold rSlot fFind
  rw [sl1_rel h hm (k := 0) (by decide), sl1_rel h hm (k := 1) (by decide), sl1_rel h hm (k := 2) (by decide), sl1_rel h hm (k := 3) (by decide)]
  cases b0 : mt s (nI m) 0 <;> cases b1 : mt s (nI m) 1 <;> cases b2 : mt s (nI m) 2 <;> cases b3 : mt s (nI m) 3 <;>
    first
    | rfl
    | exact (mt_two h (by decide) (by decide) (by decide) b0 b1).elim
    | exact (mt_two h (by decide) (by decide) (by decide) b0 b2).elim
    | exact (mt_two h (by decide) (by decide) (by decide) b0 b3).elim
    | exact (mt_two h (by decide) (by decide) (by decide) b1 b2).elim
    | exact (mt_two h (by decide) (by decide) (by decide) b1 b3).elim
    | exact (mt_two h (by decide) (by decide) (by decide) b2 b3).elim
theorem oR_rel {s N : ax_M} (h : ES s N) {k : Nat} (hk : k < 4) : oR N k = oB s k := by
  unfold oR oB
  rcases h.1 k hk with ⟨a, b⟩ | ⟨a, ⟨n, n1, n2, n3, n4⟩, -⟩
  · rw [a, b]; rfl
  · rw [a, n4, if_neg (show ¬ nI n ≤ 0 by rw [← nI_0]; exact nI_ge n1 (by omega))]; rfl
theorem idle_rel {s N : ax_M} (h : EV s N) {m : Nat} (hm : m < 256) : rIdle N (nI m) = fIdle s (nI m) := by
  unfold rIdle fIdle
  rw [h.1]
  by_cases e : m = 0
  · subst e; rw [nI_0, if_pos (show (0 : Int32) ≤ 0 by decide), if_pos (rfl : (0 : Int32) = 0)]
  · rw [if_neg (show ¬ nI m ≤ 0 by rw [← nI_0]; exact nI_ge (by omega) (by omega)), if_neg (show ¬ nI m = 0 from fun z => e (nI_inj (by omega) (by omega) (z.trans nI_0.symm)))]
set_option maxRecDepth 20000 in
theorem flag_t : ∀ b, b < 256 → ∀ f ∈ [(1 : Int32), 4, 8], (nI b &&& f ≤ 0 ↔ nI b &&& f = 0) := by decide
theorem has_rel {s N : ax_M} {L : Nat} (h : EF L s N) {f : Int32} (hf : f ∈ [(1 : Int32), 4, 8]) : rHas N f = if ax_hi s 29 2 &&& f = 0 then 0 else 1 := by
  unfold rHas
  obtain ⟨b, b1, b2⟩ := h.2.2.2.2.2.2.2 2 (by decide)
  rw [h.2.1, b2]
  by_cases e : nI b &&& f = 0
  · rw [if_pos e, if_pos ((flag_t b b1 f hf).mpr e)]
  · rw [if_neg e, if_neg (fun z => e ((flag_t b b1 f hf).mp z))]
/-- what closes a number on the reference's side -/
def rEnd (N : ax_M) (n : Int32) : ax_M := if rSlot N n = -1 then N else ax_si N 63 (rSlot N n).toNatClampNeg 0
theorem sC_cl {k : Nat} (hk : k < 4) : (nI k).toNatClampNeg = k ∧ ¬ nI k = -1 ∧ vp_in (nI k) 4 := by
  match k, hk with
  | 0, _ => exact ⟨by decide, by decide, by unfold vp_in; decide⟩
  | 1, _ => exact ⟨by decide, by decide, by unfold vp_in; decide⟩
  | 2, _ => exact ⟨by decide, by decide, by unfold vp_in; decide⟩
  | 3, _ => exact ⟨by decide, by decide, by unfold vp_in; decide⟩
theorem sl1_v (N : ax_M) (n f : Int32) (k : Nat) : sl1 N n f k = f ∨ sl1 N n f k = nI k := by
  unfold sl1; split
  · exact Or.inl rfl
  · split
    · exact Or.inr rfl
    · exact Or.inl rfl
theorem rSlot_v (N : ax_M) (n : Int32) : rSlot N n = -1 ∨ ∃ k, k < 4 ∧ rSlot N n = nI k := by
  unfold rSlot
  rcases sl1_v N n (sl1 N n (sl1 N n (sl1 N n (-1) 0) 1) 2) 3 with h | h
  · rw [h]
    rcases sl1_v N n (sl1 N n (sl1 N n (-1) 0) 1) 2 with h | h
    · rw [h]
      rcases sl1_v N n (sl1 N n (-1) 0) 1 with h | h
      · rw [h]
        rcases sl1_v N n (-1) 0 with h | h
        · exact Or.inl h
        · exact Or.inr ⟨0, by decide, h⟩
      · exact Or.inr ⟨1, by decide, h⟩
    · exact Or.inr ⟨2, by decide, h⟩
  · exact Or.inr ⟨3, by decide, h⟩
theorem r_end (d : Nat) {N : ax_M} (h : SH N) (n : Int32) : ax_calls ax_P (d + 2) 128 0 0 [.inr (.inl (some 54)), .inl n] N (.inl none) (rEnd N n) := by
  refine ax_callOf (T := pt_X12_end) (cod := pr_X12_end) rfl (by simp [ax_c1]) (Nat.le_of_ble_eq_true rfl) ?_
  show ax_Ev _ pr_X12_end _ _ bl_X12_end_0 _ _ _ _ _
  simp only [bl_X12_end_0, we_iconst_m1, we_iconst_0, we_iconst_1, we_iconst_2, we_iconst_3, we_iconst_4, we_iconst_5, we_bipush_m100, we_bipush_m10, we_bipush_m9, we_bipush_6, we_bipush_7, we_bipush_8, we_bipush_9, we_bipush_10, we_bipush_15, we_bipush_16, we_bipush_17, we_bipush_20, we_bipush_24, we_bipush_31, we_bipush_32, we_bipush_33, we_bipush_40, we_bipush_45, we_bipush_47, we_bipush_48, we_bipush_50, we_bipush_52, we_bipush_53, we_bipush_57, we_bipush_58, we_bipush_60, we_bipush_63, we_bipush_64, we_bipush_65, we_bipush_68, we_bipush_69, we_bipush_71, we_bipush_72, we_bipush_73, we_bipush_80, we_bipush_82, we_bipush_84, we_bipush_97, we_bipush_100, we_bipush_101, we_bipush_103, we_bipush_104, we_bipush_105, we_bipush_107, we_bipush_108, we_bipush_109, we_bipush_110, we_bipush_111, we_bipush_112, we_bipush_115, we_bipush_116, we_bipush_117, we_bipush_122, we_bipush_126, we_bipush_127, we_sipush_128, we_sipush_129, we_sipush_134, we_sipush_135, we_sipush_200, we_sipush_204, we_sipush_255, we_sipush_256, we_sipush_300, we_sipush_320, we_sipush_340, we_sipush_1000, we_sipush_1024, we_sipush_1200, we_sipush_30000, we_ldci, we_ldcs, we_ldcsw, we_aconst_null, we_iload_0, we_aload_0, we_istore_0, we_astore_0, we_iload_1, we_aload_1, we_istore_1, we_astore_1, we_iload_2, we_aload_2, we_istore_2, we_astore_2, we_iload_3, we_aload_3, we_istore_3, we_astore_3, we_iload, we_aload, we_istore, we_astore, we_iinc1, we_iinc_m8, we_iinc_m1, we_iinc_2, we_iinc_5, we_iadd, we_isub, we_imul, we_iand, we_ior, we_ishl, we_ishr, we_iushr, we_idiv, we_irem, we_ineg, we_i2c, we_i2b, we_i2l, we_lcmp, we_dupi, we_popi, we_dupr, we_popr, we_dup2, we_goto, we_if_eq, we_if_ne, we_if_lt, we_if_ge, we_if_gt, we_if_le, we_icmp_eq, we_icmp_ne, we_icmp_lt, we_icmp_ge, we_icmp_gt, we_icmp_le, we_ifnull_n, we_ifnull_s, we_ifnonnull_n, we_ifnonnull_s, we_getf, we_getfr, we_getsv, we_getsc, we_putfr, we_putf, we_getst0, we_getst1, we_getst2, we_iald, we_iald2, we_cald, we_bald, we_bald2, we_zald, we_aald4, we_aald8, we_aald11, we_iast, we_cast, we_zast, we_bast, we_aast4, we_aast8, we_aast11, we_alen, we_iret, we_aret, we_vret, wl_i1, wl_i2, wl_r1, wl_r2, wl_st, wl_rm0, wl_rm1, Nat.beq, cond_true, cond_false, ax_lvA, Nat.zero_add, Nat.reduceAdd, we_alen_100, we_alen_101, we_alen_102, we_alen_200, we_alen_202, we_alen_114, we_alen_118, we_alen_121]
  refine ax_gv1 (r_slotOf d h n) (so_54 h) (by decide) rfl rfl (Nat.le_of_ble_eq_true rfl) ?_
  unfold rEnd
  rcases rSlot_v N n with e | ⟨k, hk, e⟩
  · simp only [e, if_true, bl_X12_end_18, at_X12_end_18, we_iconst_m1, we_iconst_0, we_iconst_1, we_iconst_2, we_iconst_3, we_iconst_4, we_iconst_5, we_bipush_m100, we_bipush_m10, we_bipush_m9, we_bipush_6, we_bipush_7, we_bipush_8, we_bipush_9, we_bipush_10, we_bipush_15, we_bipush_16, we_bipush_17, we_bipush_20, we_bipush_24, we_bipush_31, we_bipush_32, we_bipush_33, we_bipush_40, we_bipush_45, we_bipush_47, we_bipush_48, we_bipush_50, we_bipush_52, we_bipush_53, we_bipush_57, we_bipush_58, we_bipush_60, we_bipush_63, we_bipush_64, we_bipush_65, we_bipush_68, we_bipush_69, we_bipush_71, we_bipush_72, we_bipush_73, we_bipush_80, we_bipush_82, we_bipush_84, we_bipush_97, we_bipush_100, we_bipush_101, we_bipush_103, we_bipush_104, we_bipush_105, we_bipush_107, we_bipush_108, we_bipush_109, we_bipush_110, we_bipush_111, we_bipush_112, we_bipush_115, we_bipush_116, we_bipush_117, we_bipush_122, we_bipush_126, we_bipush_127, we_sipush_128, we_sipush_129, we_sipush_134, we_sipush_135, we_sipush_200, we_sipush_204, we_sipush_255, we_sipush_256, we_sipush_300, we_sipush_320, we_sipush_340, we_sipush_1000, we_sipush_1024, we_sipush_1200, we_sipush_30000, we_ldci, we_ldcs, we_ldcsw, we_aconst_null, we_iload_0, we_aload_0, we_istore_0, we_astore_0, we_iload_1, we_aload_1, we_istore_1, we_astore_1, we_iload_2, we_aload_2, we_istore_2, we_astore_2, we_iload_3, we_aload_3, we_istore_3, we_astore_3, we_iload, we_aload, we_istore, we_astore, we_iinc1, we_iinc_m8, we_iinc_m1, we_iinc_2, we_iinc_5, we_iadd, we_isub, we_imul, we_iand, we_ior, we_ishl, we_ishr, we_iushr, we_idiv, we_irem, we_ineg, we_i2c, we_i2b, we_i2l, we_lcmp, we_dupi, we_popi, we_dupr, we_popr, we_dup2, we_goto, we_if_eq, we_if_ne, we_if_lt, we_if_ge, we_if_gt, we_if_le, we_icmp_eq, we_icmp_ne, we_icmp_lt, we_icmp_ge, we_icmp_gt, we_icmp_le, we_ifnull_n, we_ifnull_s, we_ifnonnull_n, we_ifnonnull_s, we_getf, we_getfr, we_getsv, we_getsc, we_putfr, we_putf, we_getst0, we_getst1, we_getst2, we_iald, we_iald2, we_cald, we_bald, we_bald2, we_zald, we_aald4, we_aald8, we_aald11, we_iast, we_cast, we_zast, we_bast, we_aast4, we_aast8, we_aast11, we_alen, we_iret, we_aret, we_vret, wl_i1, wl_i2, wl_r1, wl_r2, wl_st, wl_rm0, wl_rm1, Nat.beq, cond_true, cond_false, ax_lvA, Nat.zero_add, Nat.reduceAdd, we_alen_100, we_alen_101, we_alen_102, we_alen_200, we_alen_202, we_alen_114, we_alen_118, we_alen_121]
    first | exact trivial | exact ⟨trivial, trivial⟩ | exact ⟨trivial, rfl⟩ | exact ⟨rfl, trivial⟩ | exact ⟨rfl, rfl⟩
  · obtain ⟨k1, k2, k3⟩ := sC_cl hk
    simp only [e, k1, k2, k3, if_false, bl_X12_end_18, at_X12_end_18, so_54 h, so_63 h, sr_54_12 h, sl_63 h, we_iconst_m1, we_iconst_0, we_iconst_1, we_iconst_2, we_iconst_3, we_iconst_4, we_iconst_5, we_bipush_m100, we_bipush_m10, we_bipush_m9, we_bipush_6, we_bipush_7, we_bipush_8, we_bipush_9, we_bipush_10, we_bipush_15, we_bipush_16, we_bipush_17, we_bipush_20, we_bipush_24, we_bipush_31, we_bipush_32, we_bipush_33, we_bipush_40, we_bipush_45, we_bipush_47, we_bipush_48, we_bipush_50, we_bipush_52, we_bipush_53, we_bipush_57, we_bipush_58, we_bipush_60, we_bipush_63, we_bipush_64, we_bipush_65, we_bipush_68, we_bipush_69, we_bipush_71, we_bipush_72, we_bipush_73, we_bipush_80, we_bipush_82, we_bipush_84, we_bipush_97, we_bipush_100, we_bipush_101, we_bipush_103, we_bipush_104, we_bipush_105, we_bipush_107, we_bipush_108, we_bipush_109, we_bipush_110, we_bipush_111, we_bipush_112, we_bipush_115, we_bipush_116, we_bipush_117, we_bipush_122, we_bipush_126, we_bipush_127, we_sipush_128, we_sipush_129, we_sipush_134, we_sipush_135, we_sipush_200, we_sipush_204, we_sipush_255, we_sipush_256, we_sipush_300, we_sipush_320, we_sipush_340, we_sipush_1000, we_sipush_1024, we_sipush_1200, we_sipush_30000, we_ldci, we_ldcs, we_ldcsw, we_aconst_null, we_iload_0, we_aload_0, we_istore_0, we_astore_0, we_iload_1, we_aload_1, we_istore_1, we_astore_1, we_iload_2, we_aload_2, we_istore_2, we_astore_2, we_iload_3, we_aload_3, we_istore_3, we_astore_3, we_iload, we_aload, we_istore, we_astore, we_iinc1, we_iinc_m8, we_iinc_m1, we_iinc_2, we_iinc_5, we_iadd, we_isub, we_imul, we_iand, we_ior, we_ishl, we_ishr, we_iushr, we_idiv, we_irem, we_ineg, we_i2c, we_i2b, we_i2l, we_lcmp, we_dupi, we_popi, we_dupr, we_popr, we_dup2, we_goto, we_if_eq, we_if_ne, we_if_lt, we_if_ge, we_if_gt, we_if_le, we_icmp_eq, we_icmp_ne, we_icmp_lt, we_icmp_ge, we_icmp_gt, we_icmp_le, we_ifnull_n, we_ifnull_s, we_ifnonnull_n, we_ifnonnull_s, we_getf, we_getfr, we_getsv, we_getsc, we_putfr, we_putf, we_getst0, we_getst1, we_getst2, we_iald, we_iald2, we_cald, we_bald, we_bald2, we_zald, we_aald4, we_aald8, we_aald11, we_iast, we_cast, we_zast, we_bast, we_aast4, we_aast8, we_aast11, we_alen, we_iret, we_aret, we_vret, wl_i1, wl_i2, wl_r1, wl_r2, wl_st, wl_rm0, wl_rm1, Nat.beq, cond_true, cond_false, ax_lvA, Nat.zero_add, Nat.reduceAdd, we_alen_100, we_alen_101, we_alen_102, we_alen_200, we_alen_202, we_alen_114, we_alen_118, we_alen_121]
    first | exact trivial | exact ⟨trivial, trivial⟩ | exact ⟨trivial, rfl⟩ | exact ⟨rfl, trivial⟩ | exact ⟨rfl, rfl⟩
/-- row k is none of the other parts' places -/
theorem nR {A : Nat → Nat → Bool} {k j : Nat} (hk : k < 4) (h0 : (Im 50 || A 50 j) = false) (h1 : (Im 51 || A 51 j) = false) (h2 : (Im 52 || A 52 j) = false) (h3 : (Im 53 || A 53 j) = false) : (Im (50 + k) || A (50 + k) j) = false := by
  match k, hk with
  | 0, _ => exact h0
  | 1, _ => exact h1
  | 2, _ => exact h2
  | 3, _ => exact h3
section AX41
variable {N0 : ax_M} {e : Bool} {c : Nat} {T : List (List Int32 × List Int32)} {P : List (List Int32 × Int32 × Int32)} {B : List Int32} {L : Nat} {s N : ax_M}
theorem ES.shut (h : ES s N) {k : Nat} (hk : k < 4) : ES (ax_si s (50 + k) 0 0) (ax_si N 63 k 0) := by
  refine ⟨fun j hj => ?_, fun i j hi hj hij => ?_⟩
  · by_cases e : j = k
    · subst e; exact Or.inl ⟨wm_h1s, wm_h1s⟩
    · have e1 : ∀ q, ax_hi (ax_si s (50 + k) 0 0) (50 + j) q = ax_hi s (50 + j) q := fun q => wm_h1n (nbq (by omega))
      have e2 : ax_hi (ax_si N 63 k 0) 63 j = ax_hi N 63 j := wm_h1k (nbq e)
      rcases h.1 j hj with ⟨a, b⟩ | ⟨a, ⟨n, n1, n2, n3, n4⟩, b1, b2, b3, b4, b5, b6, b7, b8, ⟨om, m, c1, c2, c3⟩, op, p, d1, d2, d3, d4, d5⟩
      · exact Or.inl ⟨(e1 0).trans a, e2.trans b⟩
      · have g : Sm (fun _ _ => false) s (ax_si s (50 + k) 0 0) := Sm.si (nR (A := fun _ _ => false) (j := 0) hk rfl rfl rfl rfl)
        refine Or.inr ⟨(e1 0).trans a, ⟨n, n1, n2, (e1 1).trans n3, e2.trans n4⟩, (wm_h1n rfl).trans (b1.trans (e1 _).symm), (wm_h1n rfl).trans (b2.trans (e1 _).symm), (wm_h1n rfl).trans (b3.trans (e1 _).symm), (wm_h1n rfl).trans (b4.trans (e1 _).symm), ?_, (wm_h1n rfl).trans (b6.trans (e1 _).symm), by rw [e1]; exact b7, by rw [e1]; exact b8,
          ⟨om, m, c1, c2.sm g, (wm_h1n rfl).trans c3⟩, op, p, d1, d2.sm g, d3, (wm_h1n rfl).trans d4, fun q hq => (wm_h1n rfl).trans (d5 q hq)⟩
        rw [e1, e1]; exact fun z => (wm_h1n rfl).trans (b5 z)
  · have o : ∀ q, ax_hi (ax_si s (50 + k) 0 0) (50 + q) 0 = 1 → ax_hi s (50 + q) 0 = 1 := fun q z => by
      by_cases e : q = k
      · subst e; rw [wm_h1s] at z; exact absurd z (by decide)
      · rw [wm_h1n (nbq (by omega))] at z; exact z
    have n : ∀ q, ax_hi (ax_si s (50 + k) 0 0) (50 + q) 1 = ax_hi s (50 + q) 1 := fun q => by
      by_cases e : q = k
      · subst e; exact wm_h1k rfl
      · exact wm_h1n (nbq (by omega))
    rw [n, n]
    exact fun z1 z2 => h.2 i j hi hj hij (o i z1) (o j z2)
theorem Wf.shut (h : Wf N0 e c T P B L s N) {k : Nat} (hk : k < 4) : Wf N0 e c T P B L (ax_si s (50 + k) 0 0) (ax_si N 63 k 0) :=
  ⟨h.sh.si (by omega), (Rc.si (Rc.refl N) rfl rfl).sh h.sN, h.rc.si rfl rfl, (h.o.sm (Sm.si (nR hk rfl rfl rfl rfl)) (Sm.si rfl)), (h.v.sm (Sm.si (nR hk rfl rfl rfl rfl)) (Sm.si rfl)), (h.x.shut hk), (h.t.sm (Sm.si (nR hk rfl rfl rfl rfl)) (Sm.si rfl)), (h.p.sm (Sm.si (nR hk rfl rfl rfl rfl)) (Sm.si rfl)), (h.b.sm (Sm.si (nR hk rfl rfl rfl rfl)) (Sm.si rfl)), (h.f.sm (Sm.si (nR hk rfl rfl rfl rfl)) (Sm.si rfl)), (h.k.sm (Sm.si (nR hk rfl rfl rfl rfl)) (Sm.si rfl))⟩
theorem Wf.close (h : Wf N0 e c T P B L s N) {m : Nat} (hm : m < 256) : Wf N0 e c T P B L (fClose s (nI m)) (rEnd N (nI m)) := by
  unfold fClose rEnd
  rw [slot_rel h.x hm]
  rcases e9 : fFind s (nI m) with _ | o
  · exact h
  · obtain ⟨k, hk, rfl, -⟩ := fFind_row e9
    show Wf N0 e c T P B L (ax_si s (50 + k) 0 0) (if nI (50 + k - 50) = -1 then N else ax_si N 63 (nI (50 + k - 50)).toNatClampNeg 0)
    rw [show 50 + k - 50 = k by omega, if_neg (sC_cl hk).2.1, (sC_cl hk).1]
    exact h.shut hk
end AX41
