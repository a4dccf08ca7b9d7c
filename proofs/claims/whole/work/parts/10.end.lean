section AX10
variable {p : Program} {l : Launch} {e : Env} {R : Room} {s : State} {m : MethodId} {args : Array Value} {below : List Frame} {meth : Method} {c : Code} {Qf : State → Prop} {G : ax_G} {own : String} {cc : ByteArray} {nL : Nat}
variable {C : ax_C} {Q : ax_O → ax_M → Prop} {rt : Option FieldType} {nx : ax_K} {jm : Nat → ax_K} {pc a b c0 : Nat} {lv : ax_L} {st : List ax_V} {M : ax_M} {rc rs : Nat} {H : Heap} {locs : List Loc} {cells slots : Nat} {ls : Array Slot}
variable {d : Nat} {mt : Nat → Option ax_D} {D : ax_D}
/-- a private constructor of a nest mate -/
theorem sx_cn {idx : Nat} (cx : ax_Cx G p R s m args meth c own cc nL) (hd : decode cc pc = .ok (.invokespecial idx, 3)) (hC : ax_Snd l G mt d C) (hD : mt a = some D) (hdk : ax_dok D (b - 1)) (hb : 0 < b) (hc5 : c0 ≠ 5) (hc11 : c0 ≠ 11) (hini : D.1.name = "<init>" ∧ D.2.2.2 = none) (hin : Cond.instanceMethod D.1 ∈ ax_ws) (hl : (own, idx, D.1) ∈ ax_nl) (hRf : d + 1 ≤ R.frames) (hRl : 40 * (d + 1) ≤ R.locals)
    (kn : ax_Ko G p l e R s m args below meth c nL Qf (pc + 3) nx) (h : ax_ins C Q rt nx jm pc a b c0 lv st M rc rs (.invokespecial idx)) (hs : ax_SR G s R nL lv M rc rs H locs cells slots ls) : W p l e R s m args below meth c H locs cells slots Qf (F0 m pc ls (st.map (ax_tr G))) := by
  have h9 : (∃ o, st[b - 1]? = some (.inr (.inl (some o)))) ∧ ax_cl1 C nx a b lv st M rc rs := by
    have h8 := h; unfold ax_ins at h8; rw [if_neg hc5, if_neg hc11] at h8; exact h8
  obtain ⟨⟨q, hq⟩, hn, hw, c1, s1, o, M2, k1, k2, hcall, h1⟩ := h9
  obtain ⟨As, e1, e2, e3⟩ := ax_args hn hb hq
  rw [e1] at hcall
  have hM := hC _ _ _ _ _ _ _ hcall D hD
  have hlk := cx.2.2.2.2.2.2.2.1.2.2.2.2.2.2 _ hl
  have hcb : va_CN R s args own idx D.1 "PageServer" D.2.1 D.2.2.1 none (ax_mws D) (ax_rm d c1 s1) c1 s1 (b - 1) := by
    rw [← hini.2]
    exact va_cnB (b - 1) cx.2.2.2.2.1 (ax_goodIn hdk.1) rfl rfl rfl hlk (cx.2.2.2.2.1 _ hdk.2.1) hdk.2.2.1 ⟨hRf, by have := hdk.2.2.2; show 8 + (D.2.2.1 + 11) + 40 * d ≤ R.locals; omega⟩
  refine ax_back (g := F0 m pc ls (st.map (ax_tr G))) (st2 := st.drop b) (qa := (Value.ref (ax_ad G q) :: As.map (ax_tr G)).toArray) cx hs k1 k2 rfl (va_runIN (b := ax_ad G q) (As := As.map (ax_tr G)) ⟨cx.1, cx.2.1, cx.2.2.1, cx.2.2.2.1, cx.2.2.2.2.1⟩ hM ⟨hcb, hini.1, cx.2.2.2.2.1 _ hin⟩ ⟨ax_blind, ax_preOf cx hs _⟩ rfl ?_ (ax_lsz cx hs) ?_ ?_ hd ⟨by have := hs.2.2.2.2.1; omega, by have := hs.2.2.2.2.2; omega⟩) kn h1
  · simp; omega
  · show st.map (ax_tr G) = _
    conv => lhs; rw [e3]
    simp [ax_tr, va_rf]
  · show 2 * 0 + _ ≤ 8
    rw [ax_sumw]; omega
/-- a method of the superclass, by 'super' -/
theorem sx_su {idx : Nat} (cx : ax_Cx G p R s m args meth c own cc nL) (hd : decode cc pc = .ok (.invokespecial idx, 3)) (hC : ax_Snd l G mt d C) (hD : mt a = some D) (hdk : ax_dok D (b - 1)) (hb : 0 < b) (hc11 : c0 = 11) (hno : D.1.name ≠ "<init>") (hin : Cond.instanceMethod D.1 ∈ ax_ws) (hl : Cond.methodLink own idx D.1 ∈ ax_ws) (hsm : Cond.sameMethod D.1.cls D.1.cls D.1.name D.1.desc ∈ ax_ws) (hsup : Cond.superclass own D.1.cls ∈ ax_ws) (hRf : d + 1 ≤ R.frames) (hRl : 40 * (d + 1) ≤ R.locals)
    (kn : ax_Ko G p l e R s m args below meth c nL Qf (pc + 3) nx) (h : ax_ins C Q rt nx jm pc a b c0 lv st M rc rs (.invokespecial idx)) (hs : ax_SR G s R nL lv M rc rs H locs cells slots ls) : W p l e R s m args below meth c H locs cells slots Qf (F0 m pc ls (st.map (ax_tr G))) := by
  have h9 : ax_rc M 1 (st[b - 1]?) ∧ ax_cl1 C nx a b lv st M rc rs := by
    have hc5 : c0 ≠ 5 := by omega
    have h8 := h; unfold ax_ins at h8; rw [if_neg hc5, if_pos hc11] at h8; exact h8
  obtain ⟨hrc, hn, hw, c1, s1, o, M2, k1, k2, hcall, h1⟩ := h9
  obtain ⟨q, hq⟩ : ∃ q, st[b - 1]? = some (.inr (.inl (some q))) := by
    unfold ax_rc at hrc
    split at hrc
    · rename_i q hq; exact ⟨q, hq⟩
    · exact hrc.elim
  rw [hq] at hrc
  obtain ⟨As, e1, e2, e3⟩ := ax_args hn hb hq
  rw [e1] at hcall
  have hM := hC _ _ _ _ _ _ _ hcall D hD
  have hG : GoodIn ax_ws (va_wsSU own idx D.1 (ax_mws D)) := by
    intro w hw
    unfold va_wsSU at hw
    simp only [List.mem_append, List.mem_cons, List.not_mem_nil, or_false] at hw
    rcases hw with (rfl | rfl | rfl | rfl | rfl) | hw
    · exact ⟨hl, ax_good _ hl⟩
    · exact ⟨hsm, ax_good _ hsm⟩
    · exact ⟨hsup, ax_good _ hsup⟩
    · exact ⟨hin, ax_good _ hin⟩
    · exact ⟨hdk.2.1, ax_good _ hdk.2.1⟩
    · exact ax_goodIn hdk.1 w hw
  have hcw : va_CS R s args own idx D.1 D.2.1 D.2.2.1 D.2.2.2 (ax_mws D) (ax_rm d c1 s1) c1 s1 (b - 1) := va_cwSU (b - 1) cx.2.2.2.2.1 hG rfl rfl rfl ⟨hno, hdk.2.2.1.2.2⟩ ⟨hRf, by have := hdk.2.2.2; show 8 + (D.2.2.1 + 11) + 40 * d ≤ R.locals; omega⟩
  refine ax_back (g := F0 m pc ls (st.map (ax_tr G))) (st2 := st.drop b) (qa := (Value.ref (ax_ad G q) :: As.map (ax_tr G)).toArray) cx hs k1 k2 rfl (va_runSU (C := ax_nm 1) (b := ax_ad G q) (As := As.map (ax_tr G)) (cx.2.2.2.2.2.2.1.1 1 _ rfl).2 ⟨cx.1, cx.2.1, cx.2.2.1, cx.2.2.2.1, cx.2.2.2.2.1⟩ hM hcw ⟨ax_blind, ax_recv cx hs (by omega) hrc, ax_preOf cx hs _⟩ rfl ?_ (ax_lsz cx hs) ?_ ?_ hd ⟨by have := hs.2.2.2.2.1; omega, by have := hs.2.2.2.2.2; omega⟩) kn h1
  · simp; omega
  · show st.map (ax_tr G) = _
    conv => lhs; rw [e3]
    simp [ax_tr, va_rf]
  · show 2 * 0 + _ ≤ 8
    rw [ax_sumw]; omega
/-- a method that overrides the one that the link names -/
theorem sx_co {idx m0 : Nat} {x : MethodName} {b0 : ByteArray} {r0 : Option FieldType} (cx : ax_Cx G p R s m args meth c own cc nL) (hd : decode cc pc = .ok (.invokevirtual idx, 3)) (hC : ax_Snd l G mt d C) (hD : mt a = some D) (hdk : ax_dok D (b - 1)) (hb : 0 < b) (hc15 : c0 < 15) (hin : Cond.instanceMethod D.1 ∈ ax_ws) (hl : Cond.methodLink own idx x ∈ ax_ws) (hsm : Cond.sameMethod x.cls x.cls x.name x.desc ∈ ax_ws) (hix : Cond.instanceMethod x ∈ ax_ws) (hse : Cond.selects (ax_nm c0) x D.1 ∈ ax_ws) (hcx : Cond.code x b0 m0 r0 ∈ ax_ws) (hxd : x.cls ≠ "java/lang/invoke/MethodHandle" ∧ x.cls ≠ "java/lang/invoke/VarHandle" ∧ (parseMethodDescriptor x.desc).map (fun d => d.parameters.length) = some (b - 1)) (hRf : d + 1 ≤ R.frames) (hRl : 40 * (d + 1) ≤ R.locals)
    (kn : ax_Ko G p l e R s m args below meth c nL Qf (pc + 3) nx) (h : ax_ins C Q rt nx jm pc a b c0 lv st M rc rs (.invokevirtual idx)) (hs : ax_SR G s R nL lv M rc rs H locs cells slots ls) : W p l e R s m args below meth c H locs cells slots Qf (F0 m pc ls (st.map (ax_tr G))) := by
  obtain ⟨hrc, hn, hw, c1, s1, o, M2, k1, k2, hcall, h1⟩ := h
  obtain ⟨q, hq⟩ : ∃ q, st[b - 1]? = some (.inr (.inl (some q))) := by
    unfold ax_rc at hrc
    split at hrc
    · rename_i q hq; exact ⟨q, hq⟩
    · exact hrc.elim
  rw [hq] at hrc
  obtain ⟨As, e1, e2, e3⟩ := ax_args hn hb hq
  rw [e1] at hcall
  have hM := hC _ _ _ _ _ _ _ hcall D hD
  have hG : GoodIn ax_ws (va_wsO own idx (ax_nm c0) x.cls x D.1 (ax_mws D)) := by
    intro w hw
    unfold va_wsO at hw
    simp only [List.mem_append, List.mem_cons, List.not_mem_nil, or_false] at hw
    rcases hw with (rfl | rfl | rfl | rfl | rfl | rfl) | hw
    · exact ⟨hl, ax_good _ hl⟩
    · exact ⟨hsm, ax_good _ hsm⟩
    · exact ⟨hix, ax_good _ hix⟩
    · exact ⟨hse, ax_good _ hse⟩
    · exact ⟨hin, ax_good _ hin⟩
    · exact ⟨hdk.2.1, ax_good _ hdk.2.1⟩
    · exact ax_goodIn hdk.1 w hw
  have hcw : va_CU R s args own (ax_nm c0) x.cls idx x D.1 D.2.1 D.2.2.1 D.2.2.2 (ax_mws D) (ax_rm d c1 s1) c1 s1 (b - 1) := va_cwO (b - 1) cx.2.2.2.2.1 hG rfl rfl rfl hcx hxd ⟨hRf, by have := hdk.2.2.2; show 8 + (D.2.2.1 + 11) + 40 * d ≤ R.locals; omega⟩
  refine ax_back (g := F0 m pc ls (st.map (ax_tr G))) (st2 := st.drop b) (qa := (Value.ref (ax_ad G q) :: As.map (ax_tr G)).toArray) cx hs k1 k2 rfl (va_runU (C := ax_nm c0) (b := ax_ad G q) (As := As.map (ax_tr G)) ⟨cx.1, cx.2.1, cx.2.2.1, cx.2.2.2.1, cx.2.2.2.2.1⟩ hM hcw ⟨ax_blind, ax_recv cx hs hc15 hrc, ax_preOf cx hs _⟩ rfl ?_ (ax_lsz cx hs) ?_ ?_ hd ⟨by have := hs.2.2.2.2.1; omega, by have := hs.2.2.2.2.2; omega⟩) kn h1
  · simp; omega
  · show st.map (ax_tr G) = _
    conv => lhs; rw [e3]
    simp [ax_tr, va_rf]
  · show 2 * 0 + _ ≤ 8
    rw [ax_sumw]; omega
theorem sx_max {idx : Nat} (cx : ax_Cx G p R s m args meth c own cc nL) (hd : decode cc pc = .ok (.invokestatic idx, 3)) (hc6 : c0 = 6) (hl : Cond.methodLink own idx Lib.Math.max.name ∈ ax_ws) (hst : Cond.static Lib.Math.max.name ∈ ax_ws) (hi : Cond.initialized "java/lang/Math" ∈ ax_ws) (hco : Cond.code Lib.Math.max.name Lib.Math.max.code 2 (some .int) ∈ ax_ws) (hRf : 1 ≤ R.frames) (hRl : 40 ≤ R.locals)
    (kn : ax_Ko G p l e R s m args below meth c nL Qf (pc + 3) nx) (h : ax_ins C Q rt nx jm pc a b c0 lv st M rc rs (.invokestatic idx)) (hs : ax_SR G s R nL lv M rc rs H locs cells slots ls) : W p l e R s m args below meth c H locs cells slots Qf (F0 m pc ls (st.map (ax_tr G))) := by
  subst hc6
  obtain ⟨x, y, st, rfl, hw, h1⟩ := ax_2i_inv h
  have hcat := ax_sumw (G := G) (st2 := st)
  exact va_mmax cx.1 cx.2.1 (by rw [cx.2.2.1]; exact hs.1.1.symm) cx.2.2.2.1 (cx.2.2.2.2.1 _ hl) (cx.2.2.2.2.1 _ hst) (cx.2.2.2.2.1 _ hi) (cx.2.2.2.2.1 _ hco) hRf (by omega) (by have := hs.2.2.2.2.1; omega) (by have := hs.2.2.2.2.2; omega) hd (kn _ _ _ _ _ _ _ _ _ _ h1 hs)
theorem sx_min {idx : Nat} (cx : ax_Cx G p R s m args meth c own cc nL) (hd : decode cc pc = .ok (.invokestatic idx, 3)) (hc6 : c0 = 7) (hl : Cond.methodLink own idx Lib.Math.min.name ∈ ax_ws) (hst : Cond.static Lib.Math.min.name ∈ ax_ws) (hi : Cond.initialized "java/lang/Math" ∈ ax_ws) (hco : Cond.code Lib.Math.min.name Lib.Math.min.code 2 (some .int) ∈ ax_ws) (hRf : 1 ≤ R.frames) (hRl : 40 ≤ R.locals)
    (kn : ax_Ko G p l e R s m args below meth c nL Qf (pc + 3) nx) (h : ax_ins C Q rt nx jm pc a b c0 lv st M rc rs (.invokestatic idx)) (hs : ax_SR G s R nL lv M rc rs H locs cells slots ls) : W p l e R s m args below meth c H locs cells slots Qf (F0 m pc ls (st.map (ax_tr G))) := by
  subst hc6
  obtain ⟨x, y, st, rfl, hw, h1⟩ := ax_2i_inv h
  have hcat := ax_sumw (G := G) (st2 := st)
  exact va_mmin cx.1 cx.2.1 (by rw [cx.2.2.1]; exact hs.1.1.symm) cx.2.2.2.1 (cx.2.2.2.2.1 _ hl) (cx.2.2.2.2.1 _ hst) (cx.2.2.2.2.1 _ hi) (cx.2.2.2.2.1 _ hco) hRf (by omega) (by have := hs.2.2.2.2.1; omega) (by have := hs.2.2.2.2.2; omega) hd (kn _ _ _ _ _ _ _ _ _ _ h1 hs)
theorem sx_acmpne {off : Int} (cx : ax_Cx G p R s m args meth c own cc nL) (hd : decode cc pc = .ok (.if_acmp .ne off, 3)) (ht : (pc : Int) + off = (a : Int))
    (kn : ax_Ko G p l e R s m args below meth c nL Qf (pc + 3) nx) (kj : ∀ t, ax_Ko G p l e R s m args below meth c nL Qf t (jm t)) (h : ax_ins C Q rt nx jm pc a b c0 lv st M rc rs (.if_acmp .ne off)) (hs : ax_SR G s R nL lv M rc rs H locs cells slots ls) : W p l e R s m args below meth c H locs cells slots Qf (F0 m pc ls (st.map (ax_tr G))) := by
  obtain ⟨x, y, st, rfl, n1, n2, h1⟩ := ax_2r_inv h
  refine lv_acmp_ne (rx := x.map (ax_ad G)) (ry := y.map (ax_ad G)) cx.1 cx.2.1 hd ht (fun hc => kj a _ _ _ _ _ _ _ _ _ _ ?_ hs) (fun hc => kn _ _ _ _ _ _ _ _ _ _ ?_ hs)
  · rw [if_neg (fun e => hc (by rw [e]))] at h1; exact h1
  · rw [if_pos ?_] at h1
    · exact h1
    · cases x <;> cases y <;> simp at hc n1 n2 ⊢
      exact cx.2.2.2.2.2.2.2.2.2.2.2 _ _ n1 n2 hc
/-- the end of a method that returns -/
theorem sx_ireturn {mc ms : Nat} {o2 : Option ax_V} {M2 : ax_M} (cx : ax_Cx G p R s m args meth c own cc nL) (hd : decode cc pc = .ok (.ireturn, 1)) (hrt : meth.sig.returnType = rt) (hQ : ∀ o M, Q o M → o = .inl o2 ∧ M = M2) (hc1 : R.cells = mc) (hs1 : R.slots = ms)
    (h : ax_ins C Q rt nx jm pc a b c0 lv st M rc rs .ireturn) (hs : ax_SR G s R nL lv M rc rs H locs cells slots ls) : W p l e R s m args below meth c H locs cells slots (MQ below (ax_Post G o2 M2) args s mc ms (ax_Fr G)) (F0 m pc ls (st.map (ax_tr G))) := by
  obtain ⟨x, st, rfl, rfl, ⟨ty, k1, k2⟩, k3⟩ := ax_1i_inv h
  obtain ⟨e1, e2⟩ := hQ _ _ k3
  have hlk := cx.2.2.2.2.2.2.2.2.2.1
  refine W.widen (k := mc) (n := ms) (by have := hs.2.2.2.2.1; omega) (by have := hs.2.2.2.2.2; omega) ?_
  refine W.zret cx.1 cx.2.1 (hrt.trans k1) k2 (fun t ht hW => ⟨by cases e1; rfl, by rw [ht, ← e2]; exact hs.2.2.1, hs.2.2.2.1.F ht⟩) hs.2.2.2.1.2.2 hd hlk
theorem sx_areturn {mc ms : Nat} {o2 : Option ax_V} {M2 : ax_M} (cx : ax_Cx G p R s m args meth c own cc nL) (hd : decode cc pc = .ok (.areturn, 1)) (hrt : meth.sig.returnType = rt) (hr2 : ∃ ty, rt = some ty ∧ ax_isR ty = true) (hQ : ∀ o M, Q o M → o = .inl o2 ∧ M = M2) (hc1 : R.cells = mc) (hs1 : R.slots = ms)
    (h : ax_ins C Q rt nx jm pc a b c0 lv st M rc rs .areturn) (hs : ax_SR G s R nL lv M rc rs H locs cells slots ls) : W p l e R s m args below meth c H locs cells slots (MQ below (ax_Post G o2 M2) args s mc ms (ax_Fr G)) (F0 m pc ls (st.map (ax_tr G))) := by
  obtain ⟨x, st, rfl, rfl, k3⟩ := ax_1r_inv h
  obtain ⟨e1, e2⟩ := hQ _ _ k3
  obtain ⟨ty, k1, k2⟩ := hr2
  have hlk := cx.2.2.2.2.2.2.2.2.2.1
  refine W.widen (k := mc) (n := ms) (by have := hs.2.2.2.2.1; omega) (by have := hs.2.2.2.2.2; omega) ?_
  refine W.aret cx.1 cx.2.1 (hrt.trans k1) ?_ ?_ (fun t ht hW => ⟨by cases e1; rfl, by rw [ht, ← e2]; exact hs.2.2.1, hs.2.2.2.1.F ht⟩) hs.2.2.2.1.2.2 hd hlk
  · cases ty <;> first | exact absurd k2 (by decide) | exact Or.inl ⟨_, rfl⟩ | exact Or.inr ⟨_, rfl⟩
  · cases x with
    | none => exact Or.inl rfl
    | some q => exact Or.inr ⟨_, rfl⟩
theorem sx_return {mc ms : Nat} {o2 : Option ax_V} {M2 : ax_M} (cx : ax_Cx G p R s m args meth c own cc nL) (hd : decode cc pc = .ok (.return_, 1)) (hrt : meth.sig.returnType = rt) (hr2 : rt = none) (hQ : ∀ o M, Q o M → o = .inl o2 ∧ M = M2) (hc1 : R.cells = mc) (hs1 : R.slots = ms)
    (h : ax_ins C Q rt nx jm pc a b c0 lv st M rc rs .return_) (hs : ax_SR G s R nL lv M rc rs H locs cells slots ls) : W p l e R s m args below meth c H locs cells slots (MQ below (ax_Post G o2 M2) args s mc ms (ax_Fr G)) (F0 m pc ls (st.map (ax_tr G))) := by
  obtain ⟨rfl, k3⟩ := h
  obtain ⟨e1, e2⟩ := hQ _ _ k3
  have hlk := cx.2.2.2.2.2.2.2.2.2.1
  refine W.widen (k := mc) (n := ms) (by have := hs.2.2.2.2.1; omega) (by have := hs.2.2.2.2.2; omega) ?_
  exact W.vret cx.1 cx.2.1 (hrt.trans hr2) (fun t ht hW => ⟨by cases e1; rfl, by rw [ht, ← e2]; exact hs.2.2.1, hs.2.2.2.1.F ht⟩) hs.2.2.2.1.2.2 hd hlk
end AX10
