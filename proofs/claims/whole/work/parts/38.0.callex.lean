/-- an instruction ends with an outcome, or uses what comes behind it once -/
theorem ax_q1 {C : ax_C} {Q : ax_O → ax_M → Prop} {rt : Option FieldType} {nx : ax_K} {jm : Nat → ax_K} {pc a b c : Nat} {lv : ax_L} {st : List ax_V} {M : ax_M} {rc rs : Nat} {ins : Instr} (h : ax_ins C Q rt nx jm pc a b c lv st M rc rs ins) :
    (∃ o M2, Q o M2 ∧ ∀ (Q2 : ax_O → ax_M → Prop) (nx2 : ax_K) (jm2 : Nat → ax_K), Q2 o M2 → ax_ins C Q2 rt nx2 jm2 pc a b c lv st M rc rs ins) ∨
    (∃ lv2 st2 M2 rc2 rs2, nx lv2 st2 M2 rc2 rs2 ∧ ∀ (Q2 : ax_O → ax_M → Prop) (nx2 : ax_K) (jm2 : Nat → ax_K), nx2 lv2 st2 M2 rc2 rs2 → ax_ins C Q2 rt nx2 jm2 pc a b c lv st M rc rs ins) ∨
    (∃ t lv2 st2 M2 rc2 rs2, jm t lv2 st2 M2 rc2 rs2 ∧ ∀ (Q2 : ax_O → ax_M → Prop) (nx2 : ax_K) (jm2 : Nat → ax_K), jm2 t lv2 st2 M2 rc2 rs2 → ax_ins C Q2 rt nx2 jm2 pc a b c lv st M rc rs ins) := by
  cases ins with
  | bipush i => exact Or.inr (Or.inl ⟨_, _, _, _, _, h, fun _ _ _ z => z⟩)
  | sipush i => exact Or.inr (Or.inl ⟨_, _, _, _, _, h, fun _ _ _ z => z⟩)
  | iconst i => exact Or.inr (Or.inl ⟨_, _, _, _, _, h, fun _ _ _ z => z⟩)
  | aconst_null => exact Or.inr (Or.inl ⟨_, _, _, _, _, h, fun _ _ _ z => z⟩)
  | iload_n k =>
    have h8 : ax_ldi lv k.val fun x => nx lv (.inl x :: st) M rc rs := h
    unfold ax_ldi at h8
    split at h8
    · rename_i x hx
      exact Or.inr (Or.inl ⟨_, _, _, _, _, h8, fun _ _ _ z => by show ax_ldi lv k.val _; unfold ax_ldi; rw [hx]; exact z⟩)
    · exact h8.elim
  | iload k =>
    have h8 : ax_ldi lv k fun x => nx lv (.inl x :: st) M rc rs := h
    unfold ax_ldi at h8
    split at h8
    · rename_i x hx
      exact Or.inr (Or.inl ⟨_, _, _, _, _, h8, fun _ _ _ z => by show ax_ldi lv k _; unfold ax_ldi; rw [hx]; exact z⟩)
    · exact h8.elim
  | aload_n k =>
    have h8 : ax_ldr lv k.val fun x => nx lv (.inr (.inl x) :: st) M rc rs := h
    unfold ax_ldr at h8
    split at h8
    · rename_i x hx
      exact Or.inr (Or.inl ⟨_, _, _, _, _, h8, fun _ _ _ z => by show ax_ldr lv k.val _; unfold ax_ldr; rw [hx]; exact z⟩)
    · exact h8.elim
  | aload k =>
    have h8 : ax_ldr lv k fun x => nx lv (.inr (.inl x) :: st) M rc rs := h
    unfold ax_ldr at h8
    split at h8
    · rename_i x hx
      exact Or.inr (Or.inl ⟨_, _, _, _, _, h8, fun _ _ _ z => by show ax_ldr lv k _; unfold ax_ldr; rw [hx]; exact z⟩)
    · exact h8.elim
  | iinc k i =>
    have h8 : ax_ldi lv k fun x => nx (ax_st lv k (.inl (x + Int32.ofInt i))) st M rc rs := h
    unfold ax_ldi at h8
    split at h8
    · rename_i x hx
      exact Or.inr (Or.inl ⟨_, _, _, _, _, h8, fun _ _ _ z => by show ax_ldi lv k _; unfold ax_ldi; rw [hx]; exact z⟩)
    · exact h8.elim
  | istore_n k =>
    obtain ⟨x, st, rfl, h1⟩ := ax_1i_inv h
    exact Or.inr (Or.inl ⟨_, _, _, _, _, h1, fun _ _ _ z => z⟩)
  | istore k =>
    obtain ⟨x, st, rfl, h1⟩ := ax_1i_inv h
    exact Or.inr (Or.inl ⟨_, _, _, _, _, h1, fun _ _ _ z => z⟩)
  | astore_n k =>
    obtain ⟨x, st, rfl, h1⟩ := ax_1r_inv h
    exact Or.inr (Or.inl ⟨_, _, _, _, _, h1, fun _ _ _ z => z⟩)
  | astore k =>
    obtain ⟨x, st, rfl, h1⟩ := ax_1r_inv h
    exact Or.inr (Or.inl ⟨_, _, _, _, _, h1, fun _ _ _ z => z⟩)
  | iadd =>
    obtain ⟨x, y, st, rfl, h1⟩ := ax_2i_inv h
    exact Or.inr (Or.inl ⟨_, _, _, _, _, h1, fun _ _ _ z => z⟩)
  | isub =>
    obtain ⟨x, y, st, rfl, h1⟩ := ax_2i_inv h
    exact Or.inr (Or.inl ⟨_, _, _, _, _, h1, fun _ _ _ z => z⟩)
  | imul =>
    obtain ⟨x, y, st, rfl, h1⟩ := ax_2i_inv h
    exact Or.inr (Or.inl ⟨_, _, _, _, _, h1, fun _ _ _ z => z⟩)
  | iand =>
    obtain ⟨x, y, st, rfl, h1⟩ := ax_2i_inv h
    exact Or.inr (Or.inl ⟨_, _, _, _, _, h1, fun _ _ _ z => z⟩)
  | ior =>
    obtain ⟨x, y, st, rfl, h1⟩ := ax_2i_inv h
    exact Or.inr (Or.inl ⟨_, _, _, _, _, h1, fun _ _ _ z => z⟩)
  | ishl =>
    obtain ⟨x, y, st, rfl, h1⟩ := ax_2i_inv h
    exact Or.inr (Or.inl ⟨_, _, _, _, _, h1, fun _ _ _ z => z⟩)
  | ishr =>
    obtain ⟨x, y, st, rfl, h1⟩ := ax_2i_inv h
    exact Or.inr (Or.inl ⟨_, _, _, _, _, h1, fun _ _ _ z => z⟩)
  | iushr =>
    obtain ⟨x, y, st, rfl, h1⟩ := ax_2i_inv h
    exact Or.inr (Or.inl ⟨_, _, _, _, _, h1, fun _ _ _ z => z⟩)
  | idiv =>
    obtain ⟨x, y, st, rfl, h0, h1⟩ := ax_2i_inv h
    exact Or.inr (Or.inl ⟨_, _, _, _, _, h1, fun _ _ _ z => ⟨h0, z⟩⟩)
  | irem =>
    obtain ⟨x, y, st, rfl, h0, h1⟩ := ax_2i_inv h
    exact Or.inr (Or.inl ⟨_, _, _, _, _, h1, fun _ _ _ z => ⟨h0, z⟩⟩)
  | ineg =>
    obtain ⟨x, st, rfl, h1⟩ := ax_1i_inv h
    exact Or.inr (Or.inl ⟨_, _, _, _, _, h1, fun _ _ _ z => z⟩)
  | i2c =>
    obtain ⟨x, st, rfl, h1⟩ := ax_1i_inv h
    exact Or.inr (Or.inl ⟨_, _, _, _, _, h1, fun _ _ _ z => z⟩)
  | i2b =>
    obtain ⟨x, st, rfl, h1⟩ := ax_1i_inv h
    exact Or.inr (Or.inl ⟨_, _, _, _, _, h1, fun _ _ _ z => z⟩)
  | i2l =>
    obtain ⟨x, st, rfl, h1⟩ := ax_1i_inv h
    exact Or.inr (Or.inl ⟨_, _, _, _, _, h1, fun _ _ _ z => z⟩)
  | lcmp =>
    obtain ⟨x, y, st, rfl, h1⟩ := ax_2l_inv h
    exact Or.inr (Or.inl ⟨_, _, _, _, _, h1, fun _ _ _ z => z⟩)
  | dup =>
    obtain ⟨v, st, rfl, h0, h1⟩ := ax_1c_inv h
    exact Or.inr (Or.inl ⟨_, _, _, _, _, h1, fun _ _ _ z => ⟨h0, z⟩⟩)
  | pop =>
    obtain ⟨v, st, rfl, h0, h1⟩ := ax_1c_inv h
    exact Or.inr (Or.inl ⟨_, _, _, _, _, h1, fun _ _ _ z => ⟨h0, z⟩⟩)
  | dup2 =>
    obtain ⟨x, y, st, rfl, h0, h2, h1⟩ := ax_2c_inv h
    exact Or.inr (Or.inl ⟨_, _, _, _, _, h1, fun _ _ _ z => ⟨h0, h2, z⟩⟩)
  | dup_x1 =>
    obtain ⟨x, y, st, rfl, h0, h2, h1⟩ := ax_2c_inv h
    exact Or.inr (Or.inl ⟨_, _, _, _, _, h1, fun _ _ _ z => ⟨h0, h2, z⟩⟩)
  | goto off => exact Or.inr (Or.inr ⟨_, _, _, _, _, _, h, fun _ _ _ z => z⟩)
  | ifCond cnd off => cases cnd with
   | eq =>
    obtain ⟨x, st, rfl, h1⟩ := ax_1i_inv h
    by_cases hc : x = 0
    · rw [if_pos hc] at h1
      exact Or.inr (Or.inr ⟨_, _, _, _, _, _, h1, fun _ _ _ z => by show ite _ _ _; rw [if_pos hc]; exact z⟩)
    · rw [if_neg hc] at h1
      exact Or.inr (Or.inl ⟨_, _, _, _, _, h1, fun _ _ _ z => by show ite _ _ _; rw [if_neg hc]; exact z⟩)
   | ne =>
    obtain ⟨x, st, rfl, h1⟩ := ax_1i_inv h
    by_cases hc : x = 0
    · rw [if_pos hc] at h1
      exact Or.inr (Or.inl ⟨_, _, _, _, _, h1, fun _ _ _ z => by show ite _ _ _; rw [if_pos hc]; exact z⟩)
    · rw [if_neg hc] at h1
      exact Or.inr (Or.inr ⟨_, _, _, _, _, _, h1, fun _ _ _ z => by show ite _ _ _; rw [if_neg hc]; exact z⟩)
   | lt =>
    obtain ⟨x, st, rfl, h1⟩ := ax_1i_inv h
    by_cases hc : x < 0
    · rw [if_pos hc] at h1
      exact Or.inr (Or.inr ⟨_, _, _, _, _, _, h1, fun _ _ _ z => by show ite _ _ _; rw [if_pos hc]; exact z⟩)
    · rw [if_neg hc] at h1
      exact Or.inr (Or.inl ⟨_, _, _, _, _, h1, fun _ _ _ z => by show ite _ _ _; rw [if_neg hc]; exact z⟩)
   | ge =>
    obtain ⟨x, st, rfl, h1⟩ := ax_1i_inv h
    by_cases hc : 0 ≤ x
    · rw [if_pos hc] at h1
      exact Or.inr (Or.inr ⟨_, _, _, _, _, _, h1, fun _ _ _ z => by show ite _ _ _; rw [if_pos hc]; exact z⟩)
    · rw [if_neg hc] at h1
      exact Or.inr (Or.inl ⟨_, _, _, _, _, h1, fun _ _ _ z => by show ite _ _ _; rw [if_neg hc]; exact z⟩)
   | gt =>
    obtain ⟨x, st, rfl, h1⟩ := ax_1i_inv h
    by_cases hc : 0 < x
    · rw [if_pos hc] at h1
      exact Or.inr (Or.inr ⟨_, _, _, _, _, _, h1, fun _ _ _ z => by show ite _ _ _; rw [if_pos hc]; exact z⟩)
    · rw [if_neg hc] at h1
      exact Or.inr (Or.inl ⟨_, _, _, _, _, h1, fun _ _ _ z => by show ite _ _ _; rw [if_neg hc]; exact z⟩)
   | le =>
    obtain ⟨x, st, rfl, h1⟩ := ax_1i_inv h
    by_cases hc : x ≤ 0
    · rw [if_pos hc] at h1
      exact Or.inr (Or.inr ⟨_, _, _, _, _, _, h1, fun _ _ _ z => by show ite _ _ _; rw [if_pos hc]; exact z⟩)
    · rw [if_neg hc] at h1
      exact Or.inr (Or.inl ⟨_, _, _, _, _, h1, fun _ _ _ z => by show ite _ _ _; rw [if_neg hc]; exact z⟩)
  | if_icmp cnd off => cases cnd with
   | eq =>
    obtain ⟨x, y, st, rfl, h1⟩ := ax_2i_inv h
    by_cases hc : x = y
    · rw [if_pos hc] at h1
      exact Or.inr (Or.inr ⟨_, _, _, _, _, _, h1, fun _ _ _ z => by show ite _ _ _; rw [if_pos hc]; exact z⟩)
    · rw [if_neg hc] at h1
      exact Or.inr (Or.inl ⟨_, _, _, _, _, h1, fun _ _ _ z => by show ite _ _ _; rw [if_neg hc]; exact z⟩)
   | ne =>
    obtain ⟨x, y, st, rfl, h1⟩ := ax_2i_inv h
    by_cases hc : x = y
    · rw [if_pos hc] at h1
      exact Or.inr (Or.inl ⟨_, _, _, _, _, h1, fun _ _ _ z => by show ite _ _ _; rw [if_pos hc]; exact z⟩)
    · rw [if_neg hc] at h1
      exact Or.inr (Or.inr ⟨_, _, _, _, _, _, h1, fun _ _ _ z => by show ite _ _ _; rw [if_neg hc]; exact z⟩)
   | lt =>
    obtain ⟨x, y, st, rfl, h1⟩ := ax_2i_inv h
    by_cases hc : x < y
    · rw [if_pos hc] at h1
      exact Or.inr (Or.inr ⟨_, _, _, _, _, _, h1, fun _ _ _ z => by show ite _ _ _; rw [if_pos hc]; exact z⟩)
    · rw [if_neg hc] at h1
      exact Or.inr (Or.inl ⟨_, _, _, _, _, h1, fun _ _ _ z => by show ite _ _ _; rw [if_neg hc]; exact z⟩)
   | ge =>
    obtain ⟨x, y, st, rfl, h1⟩ := ax_2i_inv h
    by_cases hc : y ≤ x
    · rw [if_pos hc] at h1
      exact Or.inr (Or.inr ⟨_, _, _, _, _, _, h1, fun _ _ _ z => by show ite _ _ _; rw [if_pos hc]; exact z⟩)
    · rw [if_neg hc] at h1
      exact Or.inr (Or.inl ⟨_, _, _, _, _, h1, fun _ _ _ z => by show ite _ _ _; rw [if_neg hc]; exact z⟩)
   | gt =>
    obtain ⟨x, y, st, rfl, h1⟩ := ax_2i_inv h
    by_cases hc : y < x
    · rw [if_pos hc] at h1
      exact Or.inr (Or.inr ⟨_, _, _, _, _, _, h1, fun _ _ _ z => by show ite _ _ _; rw [if_pos hc]; exact z⟩)
    · rw [if_neg hc] at h1
      exact Or.inr (Or.inl ⟨_, _, _, _, _, h1, fun _ _ _ z => by show ite _ _ _; rw [if_neg hc]; exact z⟩)
   | le =>
    obtain ⟨x, y, st, rfl, h1⟩ := ax_2i_inv h
    by_cases hc : x ≤ y
    · rw [if_pos hc] at h1
      exact Or.inr (Or.inr ⟨_, _, _, _, _, _, h1, fun _ _ _ z => by show ite _ _ _; rw [if_pos hc]; exact z⟩)
    · rw [if_neg hc] at h1
      exact Or.inr (Or.inl ⟨_, _, _, _, _, h1, fun _ _ _ z => by show ite _ _ _; rw [if_neg hc]; exact z⟩)
  | if_acmp cnd off => cases cnd with
   | ne =>
    obtain ⟨x, y, st, rfl, n1, n2, h1⟩ := ax_2r_inv h
    by_cases hc : x = y
    · rw [if_pos hc] at h1
      exact Or.inr (Or.inl ⟨_, _, _, _, _, h1, fun _ _ _ z => ⟨n1, n2, by rw [if_pos hc]; exact z⟩⟩)
    · rw [if_neg hc] at h1
      exact Or.inr (Or.inr ⟨_, _, _, _, _, _, h1, fun _ _ _ z => ⟨n1, n2, by rw [if_neg hc]; exact z⟩⟩)
   | _ => exact (show False from h).elim
  | ifnull off =>
    obtain ⟨x, st, rfl, h1⟩ := ax_1r_inv h
    by_cases hc : x = none
    · rw [if_pos hc] at h1
      exact Or.inr (Or.inr ⟨_, _, _, _, _, _, h1, fun _ _ _ z => by show ite _ _ _; rw [if_pos hc]; exact z⟩)
    · rw [if_neg hc] at h1
      exact Or.inr (Or.inl ⟨_, _, _, _, _, h1, fun _ _ _ z => by show ite _ _ _; rw [if_neg hc]; exact z⟩)
  | ifnonnull off =>
    obtain ⟨x, st, rfl, h1⟩ := ax_1r_inv h
    by_cases hc : x = none
    · rw [if_pos hc] at h1
      exact Or.inr (Or.inl ⟨_, _, _, _, _, h1, fun _ _ _ z => by show ite _ _ _; rw [if_pos hc]; exact z⟩)
    · rw [if_neg hc] at h1
      exact Or.inr (Or.inr ⟨_, _, _, _, _, _, h1, fun _ _ _ z => by show ite _ _ _; rw [if_neg hc]; exact z⟩)
  | tableswitch dflt lo hi offs =>
    obtain ⟨x, st, rfl, h1⟩ := ax_1i_inv h
    by_cases hc : x.toInt < lo ∨ hi < x.toInt
    · rw [if_pos hc] at h1
      exact Or.inr (Or.inr ⟨_, _, _, _, _, _, h1.2, fun _ _ _ z => by show ite _ _ _; rw [if_pos hc]; exact ⟨h1.1, z⟩⟩)
    · rw [if_neg hc] at h1
      cases ho : offs[(x.toInt - lo).toNat]? with
      | none => rw [ho] at h1; exact h1.elim
      | some off =>
        rw [ho] at h1
        exact Or.inr (Or.inr ⟨_, _, _, _, _, _, h1.2, fun _ _ _ z => by show ite _ _ _; rw [if_neg hc, ho]; exact ⟨h1.1, z⟩⟩)
  | getfield idx =>
    obtain ⟨o, st, rfl, h0, h1⟩ := ax_1o_inv h
    exact Or.inr (Or.inl ⟨_, _, _, _, _, h1, fun _ _ _ z => ⟨h0, z⟩⟩)
  | putfield idx =>
    by_cases hc : c = 1
    · have h9 : ax_rO st fun o r st => ax_own M o a ∧ nx lv st (ax_sr M o b r) rc rs := by have h8 := h; unfold ax_ins at h8; rw [if_pos hc] at h8; exact h8
      obtain ⟨o, r, st, rfl, h0, h1⟩ := ax_rO_inv h9
      exact Or.inr (Or.inl ⟨_, _, _, _, _, h1, fun _ _ _ z => by unfold ax_ins; rw [if_pos hc]; exact ⟨h0, z⟩⟩)
    · have h9 : ax_iO st fun o x st => ax_own M o a ∧ narrow (ax_ty a b) (.int x) = .int x ∧ fits (ax_ty a b) (.int x) = true ∧ nx lv st (ax_si M o b x) rc rs := by have h8 := h; unfold ax_ins at h8; rw [if_neg hc] at h8; exact h8
      obtain ⟨o, x, st, rfl, h0, hn, hf, h1⟩ := ax_iO_inv h9
      exact Or.inr (Or.inl ⟨_, _, _, _, _, h1, fun _ _ _ z => by unfold ax_ins; rw [if_neg hc]; exact ⟨h0, hn, hf, z⟩⟩)
  | new idx =>
    by_cases hc : c = 9
    · unfold ax_ins at h
      rw [if_pos hc] at h
      exact Or.inl ⟨_, _, h.2.2.2, fun _ _ _ z => by unfold ax_ins; rw [if_pos hc]; exact ⟨h.1, h.2.1, h.2.2.1, z⟩⟩
    · unfold ax_ins at h
      rw [if_neg hc] at h
      exact Or.inr (Or.inl ⟨_, _, _, _, _, h.2.2, fun _ _ _ z => by unfold ax_ins; rw [if_neg hc]; exact ⟨h.1, h.2.1, z⟩⟩)
  | ldc idx =>
    by_cases hc : c = 0
    · unfold ax_ins at h; rw [if_pos hc] at h
      exact Or.inr (Or.inl ⟨_, _, _, _, _, h, fun _ _ _ z => by unfold ax_ins; rw [if_pos hc]; exact z⟩)
    · unfold ax_ins at h; rw [if_neg hc] at h
      exact Or.inr (Or.inl ⟨_, _, _, _, _, h, fun _ _ _ z => by unfold ax_ins; rw [if_neg hc]; exact z⟩)
  | ldc_w idx =>
    by_cases hc : c = 0
    · unfold ax_ins at h; rw [if_pos hc] at h
      exact Or.inr (Or.inl ⟨_, _, _, _, _, h, fun _ _ _ z => by unfold ax_ins; rw [if_pos hc]; exact z⟩)
    · unfold ax_ins at h; rw [if_neg hc] at h
      exact Or.inr (Or.inl ⟨_, _, _, _, _, h, fun _ _ _ z => by unfold ax_ins; rw [if_neg hc]; exact z⟩)
  | getstatic idx =>
    have h8 : (if c = 0 then nx lv (.inl (Int32.ofNat a) :: st) M rc rs else if c = 1 then nx lv (.inr (.inl (some b)) :: st) M rc rs else nx lv (.inr (.inl (ax_hr M 0 0)) :: st) M rc rs) := h
    have back : ∀ (Q2 : ax_O → ax_M → Prop) (nx2 : ax_K) (jm2 : Nat → ax_K), (if c = 0 then nx2 lv (.inl (Int32.ofNat a) :: st) M rc rs else if c = 1 then nx2 lv (.inr (.inl (some b)) :: st) M rc rs else nx2 lv (.inr (.inl (ax_hr M 0 0)) :: st) M rc rs) → ax_ins C Q2 rt nx2 jm2 pc a b c lv st M rc rs (.getstatic idx) := fun _ _ _ z => z
    by_cases hc : c = 0
    · rw [if_pos hc] at h8
      exact Or.inr (Or.inl ⟨_, _, _, _, _, h8, fun Q2 nx2 jm2 z => back Q2 nx2 jm2 (by rw [if_pos hc]; exact z)⟩)
    · by_cases hc1 : c = 1
      · rw [if_neg hc, if_pos hc1] at h8
        exact Or.inr (Or.inl ⟨_, _, _, _, _, h8, fun Q2 nx2 jm2 z => back Q2 nx2 jm2 (by rw [if_neg hc, if_pos hc1]; exact z)⟩)
      · rw [if_neg hc, if_neg hc1] at h8
        exact Or.inr (Or.inl ⟨_, _, _, _, _, h8, fun Q2 nx2 jm2 z => back Q2 nx2 jm2 (by rw [if_neg hc, if_neg hc1]; exact z)⟩)
  | arraylength =>
    obtain ⟨o, st, rfl, g1, g2, g3, h1⟩ := ax_1o_inv h
    exact Or.inr (Or.inl ⟨_, _, _, _, _, h1, fun _ _ _ z => ⟨g1, g2, g3, z⟩⟩)
  | iaload =>
    obtain ⟨o, i, st, rfl, g1, g2, h1⟩ := ax_io_inv h
    exact Or.inr (Or.inl ⟨_, _, _, _, _, h1, fun _ _ _ z => ⟨g1, g2, z⟩⟩)
  | caload =>
    obtain ⟨o, i, st, rfl, g1, g2, h1⟩ := ax_io_inv h
    exact Or.inr (Or.inl ⟨_, _, _, _, _, h1, fun _ _ _ z => ⟨g1, g2, z⟩⟩)
  | baload =>
    obtain ⟨o, i, st, rfl, g1, g2, h1⟩ := ax_io_inv h
    exact Or.inr (Or.inl ⟨_, _, _, _, _, h1, fun _ _ _ z => ⟨g1, g2, z⟩⟩)
  | laload =>
    obtain ⟨o, i, st, rfl, g1, g2, h1⟩ := ax_io_inv h
    exact Or.inr (Or.inl ⟨_, _, _, _, _, h1, fun _ _ _ z => ⟨g1, g2, z⟩⟩)
  | aaload =>
    obtain ⟨o, i, st, rfl, g1, g2, h1⟩ := ax_io_inv h
    exact Or.inr (Or.inl ⟨_, _, _, _, _, h1, fun _ _ _ z => ⟨g1, g2, z⟩⟩)
  | iastore =>
    obtain ⟨o, i, x, st, rfl, g1, g2, h1⟩ := ax_iio_inv h
    exact Or.inr (Or.inl ⟨_, _, _, _, _, h1, fun _ _ _ z => ⟨g1, g2, z⟩⟩)
  | castore =>
    obtain ⟨o, i, x, st, rfl, g1, g2, h1⟩ := ax_iio_inv h
    exact Or.inr (Or.inl ⟨_, _, _, _, _, h1, fun _ _ _ z => ⟨g1, g2, z⟩⟩)
  | lastore =>
    obtain ⟨o, i, x, st, rfl, g1, g2, h1⟩ := ax_lio_inv h
    exact Or.inr (Or.inl ⟨_, _, _, _, _, h1, fun _ _ _ z => ⟨g1, g2, z⟩⟩)
  | aastore =>
    obtain ⟨o, i, x, st, rfl, g1, g2, h1⟩ := ax_rio_inv h
    exact Or.inr (Or.inl ⟨_, _, _, _, _, h1, fun _ _ _ z => ⟨g1, g2, z⟩⟩)
  | bastore =>
    obtain ⟨o, i, x, st, rfl, g1, h1⟩ := ax_iio_inv h
    by_cases hc : c = 1
    · rw [if_pos hc] at h1
      exact Or.inr (Or.inl ⟨_, _, _, _, _, h1.2, fun _ _ _ z => ⟨g1, by rw [if_pos hc]; exact ⟨h1.1, z⟩⟩⟩)
    · rw [if_neg hc] at h1
      exact Or.inr (Or.inl ⟨_, _, _, _, _, h1.2, fun _ _ _ z => ⟨g1, by rw [if_neg hc]; exact ⟨h1.1, z⟩⟩⟩)
  | newarray t =>
    obtain ⟨x, st, rfl, g1, g2, g3, g4, h1⟩ := ax_1i_inv h
    exact Or.inr (Or.inl ⟨_, _, _, _, _, h1, fun _ _ _ z => ⟨g1, g2, g3, g4, z⟩⟩)
  | anewarray idx =>
    obtain ⟨x, st, rfl, g1, g2, g3, g4, h1⟩ := ax_1i_inv h
    exact Or.inr (Or.inl ⟨_, _, _, _, _, h1, fun _ _ _ z => ⟨g1, g2, g3, g4, z⟩⟩)
  | instanceof idx => exact Or.inr (Or.inl ⟨_, _, _, _, _, h.2, fun _ _ _ z => ⟨h.1, z⟩⟩)
  | checkcast idx => exact Or.inr (Or.inl ⟨_, _, _, _, _, h.2, fun _ _ _ z => ⟨h.1, z⟩⟩)
  | ireturn =>
    obtain ⟨x, st, rfl, h0, h1, h2⟩ := ax_1i_inv h
    exact Or.inl ⟨_, _, h2, fun _ _ _ z => ⟨h0, h1, z⟩⟩
  | areturn =>
    obtain ⟨x, st, rfl, h0, h1⟩ := ax_1r_inv h
    exact Or.inl ⟨_, _, h1, fun _ _ _ z => ⟨h0, z⟩⟩
  | return_ => exact Or.inl ⟨_, _, h.2, fun _ _ _ z => ⟨h.1, z⟩⟩
  | invokestatic idx =>
    by_cases h6 : c = 6
    · unfold ax_ins at h; rw [if_pos h6] at h
      obtain ⟨x, y, st, rfl, g1, h1⟩ := ax_2i_inv h
      exact Or.inr (Or.inl ⟨_, _, _, _, _, h1, fun _ _ _ z => by unfold ax_ins; rw [if_pos h6]; exact ⟨g1, z⟩⟩)
    by_cases h7 : c = 7
    · unfold ax_ins at h; rw [if_neg h6, if_pos h7] at h
      obtain ⟨x, y, st, rfl, g1, h1⟩ := ax_2i_inv h
      exact Or.inr (Or.inl ⟨_, _, _, _, _, h1, fun _ _ _ z => by unfold ax_ins; rw [if_neg h6, if_pos h7]; exact ⟨g1, z⟩⟩)
    by_cases h8 : c = 8
    · unfold ax_ins at h; rw [if_neg h6, if_neg h7, if_pos h8] at h
      obtain ⟨n, dp, o2, sp, o, st, rfl, k1, k2, k3, k4, k5, k6, k7, k8, k9, k10, h1⟩ := ax_cpy_inv h
      exact Or.inr (Or.inl ⟨_, _, _, _, _, h1, fun _ _ _ z => by unfold ax_ins; rw [if_neg h6, if_neg h7, if_pos h8]; exact ⟨k1, k2, k3, k4, k5, k6, k7, k8, k9, k10, z⟩⟩)
    unfold ax_ins at h; rw [if_neg h6, if_neg h7, if_neg h8] at h
    obtain ⟨g1, g2, c1, s1, o, M2, g3, g4, g5, h1⟩ := h
    exact Or.inr (Or.inl ⟨_, _, _, _, _, h1, fun _ _ _ z => by unfold ax_ins; rw [if_neg h6, if_neg h7, if_neg h8]; exact ⟨g1, g2, c1, s1, o, M2, g3, g4, g5, z⟩⟩)
  | invokevirtual idx =>
    obtain ⟨g0, g1, g2, c1, s1, o, M2, g3, g4, g5, h1⟩ := h
    exact Or.inr (Or.inl ⟨_, _, _, _, _, h1, fun _ _ _ z => ⟨g0, g1, g2, c1, s1, o, M2, g3, g4, g5, z⟩⟩)
  | invokespecial idx =>
    by_cases h5 : c = 5
    · unfold ax_ins at h; rw [if_pos h5] at h
      obtain ⟨o, st, rfl, g1, h1⟩ := ax_1o_inv h
      exact Or.inr (Or.inl ⟨_, _, _, _, _, h1, fun _ _ _ z => by unfold ax_ins; rw [if_pos h5]; exact ⟨g1, z⟩⟩)
    · by_cases h11 : c = 11
      · unfold ax_ins at h; rw [if_neg h5, if_pos h11] at h
        obtain ⟨g0, g1, g2, c1, s1, o, M2, g3, g4, g5, h1⟩ := h
        exact Or.inr (Or.inl ⟨_, _, _, _, _, h1, fun _ _ _ z => by unfold ax_ins; rw [if_neg h5, if_pos h11]; exact ⟨g0, g1, g2, c1, s1, o, M2, g3, g4, g5, z⟩⟩)
      · unfold ax_ins at h; rw [if_neg h5, if_neg h11] at h
        obtain ⟨g0, g1, g2, c1, s1, o, M2, g3, g4, g5, h1⟩ := h
        exact Or.inr (Or.inl ⟨_, _, _, _, _, h1, fun _ _ _ z => by unfold ax_ins; rw [if_neg h5, if_neg h11]; exact ⟨g0, g1, g2, c1, s1, o, M2, g3, g4, g5, z⟩⟩)
  | _ => exact (show False from h).elim
theorem ax_qx {C : ax_C} {cod : List ax_R} {Q : ax_O → ax_M → Prop} {rt : Option FieldType} : ∀ (k : Nat) {code : List ax_R} {lv : ax_L} {st : List ax_V} {M : ax_M} {rc rs : Nat}, ax_wp C cod Q rt k code lv st M rc rs → ∃ o M2, Q o M2 ∧ ∀ (Q2 : ax_O → ax_M → Prop), Q2 o M2 → ax_wp C cod Q2 rt k code lv st M rc rs
  | 0, _, _, _, _, _, _, h => h.elim
  | _ + 1, [], _, _, _, _, _, h => h.elim
  | k + 1, r :: rest, lv, st, M, rc, rs, h => by
    have h2 : (if r.2.2.2.2.1 = 99 then False else ax_ins C Q rt (ax_wp C cod Q rt k rest) (fun t => ax_wp C cod Q rt k (ax_at cod t)) r.1 r.2.2.1 r.2.2.2.1 r.2.2.2.2.1 lv st M rc rs r.2.1) := h
    by_cases hc : r.2.2.2.2.1 = 99
    · rw [if_pos hc] at h2; exact h2.elim
    rw [if_neg hc] at h2
    have back : ∀ (Q2 : ax_O → ax_M → Prop), ax_ins C Q2 rt (ax_wp C cod Q2 rt k rest) (fun t => ax_wp C cod Q2 rt k (ax_at cod t)) r.1 r.2.2.1 r.2.2.2.1 r.2.2.2.2.1 lv st M rc rs r.2.1 → ax_wp C cod Q2 rt (k + 1) (r :: rest) lv st M rc rs := fun Q2 z => by
      show (if r.2.2.2.2.1 = 99 then False else ax_ins C Q2 rt (ax_wp C cod Q2 rt k rest) (fun t => ax_wp C cod Q2 rt k (ax_at cod t)) r.1 r.2.2.1 r.2.2.2.1 r.2.2.2.2.1 lv st M rc rs r.2.1)
      rw [if_neg hc]; exact z
    rcases ax_q1 h2 with ⟨o, M2, h3, h4⟩ | ⟨_, _, _, _, _, h3, h4⟩ | ⟨_, _, _, _, _, _, h3, h4⟩
    · exact ⟨o, M2, h3, fun Q2 z => back Q2 (h4 _ _ _ z)⟩
    · obtain ⟨o, M2, h5, h6⟩ := ax_qx k h3
      exact ⟨o, M2, h5, fun Q2 z => back Q2 (h4 _ _ _ (h6 Q2 z))⟩
    · obtain ⟨o, M2, h5, h6⟩ := ax_qx k h3
      exact ⟨o, M2, h5, fun Q2 z => back Q2 (h4 _ _ _ (h6 Q2 z))⟩
/-- a call out of its body, whatever is known of its end -/
theorem ax_callEx {j c s d : Nat} {avs : List ax_V} {M : ax_M} {Q : ax_O → ax_M → Prop} {T : ax_T} {cod : List ax_R} (hP : ax_P j = some (T, cod)) (hav : ∀ v ∈ avs, ax_c1 v = true) (hlen : avs.length ≤ T.1.2.2.1)
    (h : ax_Ev (ax_calls ax_P d) cod Q T.1.2.2.2 cod (ax_lvA 0 avs) [] M c s) : ∃ o M2, Q o M2 ∧ ax_calls ax_P (d + 1) j c s avs M o M2 := by
  obtain ⟨k, h⟩ := h
  obtain ⟨o, M2, h1, h2⟩ := ax_qx k h
  exact ⟨o, M2, h1, T, cod, k, hP, hav, hlen, h2 _ ⟨rfl, rfl⟩⟩
