/-! CALLS: methods are numbers; what a method's row must have among the words -/
abbrev ax_D : Type := MethodName × ByteArray × Nat × Option FieldType
def ax_code (D : ax_D) : Cond := Cond.code D.1 D.2.1 D.2.2.1 D.2.2.2
def ax_mws (D : ax_D) : List Cond := Cond.code D.1 D.2.1 D.2.2.1 D.2.2.2 :: ax_ws
def ax_rm (d c s : Nat) : Room := { frames := d, cells := c, slots := s, locals := 40 * d }
def ax_dok (D : ax_D) (n : Nat) : Prop := ax_code D ∈ ax_ws ∧ Cond.initialized D.1.cls ∈ ax_ws ∧ (D.1.cls ≠ "java/lang/invoke/MethodHandle" ∧ D.1.cls ≠ "java/lang/invoke/VarHandle" ∧ (parseMethodDescriptor D.1.desc).map (fun d => d.parameters.length) = some n) ∧ D.2.2.1 ≤ 21
def ax_Pre (G : ax_G) (avs : List ax_V) (M : ax_M) : Array Value → State → Prop := va_Pc (avs.map (ax_tr G)) (fun U => ax_Rel G M U.heap ∧ va_K G.1 ax_cl (ax_tys G) U ∧ ax_Kc G U U.heap ∧ ax_gz G ≤ U.heap.size)
def ax_Post (G : ax_G) (o : Option ax_V) (M : ax_M) : Array Value → State → Outcome → State → Prop := fun _ st oc t => oc = .returned (o.map (ax_tr G)) ∧ ax_Rel G M t.heap ∧ va_F (ax_Fr G) st t
def ax_Met (l : Launch) (G : ax_G) (d : Nat) (D : ax_D) (c s : Nat) (avs : List ax_V) (M : ax_M) (o : Option ax_V) (M2 : ax_M) : Prop := Met l D.1 (ax_mws D) (ax_rm d c s) (ax_Pre G avs M) (ax_Post G o M2) c s (ax_Fr G)
/-- a table of methods, and calls whose ends are the machine's -/
def ax_Snd (l : Launch) (G : ax_G) (mt : Nat → Option ax_D) (d : Nat) (C : ax_C) : Prop := ∀ (j c s : Nat) (avs : List ax_V) (M : ax_M) (o : Option ax_V) (M2 : ax_M), C j c s avs M (.inl o) M2 → ∀ D, mt j = some D → ax_Met l G d D c s avs M o M2
theorem ax_good : ∀ w ∈ ax_ws, (w.onTables && w.keeps) = true ∨ ∃ ty, w = .arrayClass ty := fun w h => good_of_word (List.mem_filter.mp h).2
theorem ax_goodIn {D : ax_D} (h : ax_code D ∈ ax_ws) : GoodIn ax_ws (ax_mws D) := fun w hw => by
  rcases List.mem_cons.mp hw with e | hw
  · rw [e]; exact ⟨h, ax_good _ h⟩
  · exact ⟨hw, ax_good _ hw⟩
theorem ax_blind {G : ax_G} {avs : List ax_V} {M : ax_M} : FrameBlind (ax_Pre G avs M) := fun a U g mk q => by
  obtain ⟨q0, q1, q2, q3, q4⟩ := q
  have hW : U.WarmedH (U.calling g mk a).vm := State.WarmedH.refl U
  exact ⟨q0, q1, va_K.moved (u := U) (U := U.calling g mk a) (Vm.Alike.refl U.vm) q2, ax_Kc.warm (s := U) (U := U.calling g mk a) hW q3, q4⟩
section AX8
variable {p : Program} {l : Launch} {e : Env} {R : Room} {s : State} {m : MethodId} {args : Array Value} {below : List Frame} {meth : Method} {c : Code} {Qf : State → Prop} {G : ax_G} {own : String} {cc : ByteArray} {nL : Nat}
variable {C : ax_C} {Q : ax_O → ax_M → Prop} {rt : Option FieldType} {nx : ax_K} {jm : Nat → ax_K} {pc a b c0 : Nat} {lv : ax_L} {st : List ax_V} {M : ax_M} {rc rs : Nat} {H : Heap} {locs : List Loc} {cells slots : Nat} {ls : Array Slot}
variable {d : Nat} {mt : Nat → Option ax_D} {D : ax_D}
theorem ax_preOf (cx : ax_Cx G p R s m args meth c own cc nL) (hs : ax_SR G s R nL lv M rc rs H locs cells slots ls) (avs : List ax_V) : ∀ U : State, U.heap = H → s.WarmedH U.vm → ax_Pre G avs M (avs.map (ax_tr G)).toArray U := by
  intro U hU hW
  have hz : ax_gz G ≤ H.size := by have := hs.2.2.2.1.1; have := cx.2.2.2.2.2.2.2.2.1; omega
  refine ⟨rfl, by rw [hU]; exact hs.2.2.1, va_K.moved hW.alike cx.2.2.2.2.2.2.1, ?_, by rw [hU]; exact hz⟩
  rw [hU]
  exact (cx.2.2.2.2.2.2.2.1.kept cx.2.2.2.2.2.1 cx.2.2.2.2.2.2.2.2.1 hs.2.2.2.1.2.1).warm hW
/-- behind a call -/
theorem ax_back {c1 s1 : Nat} {o : Option ax_V} {M2 : ax_M} {st2 : List ax_V} {qa : Array Value} {g : JFrame} (cx : ax_Cx G p R s m args meth c own cc nL) (hs : ax_SR G s R nL lv M rc rs H locs cells slots ls) (hc : c1 ≤ rc) (hcs : s1 ≤ rs) (hgl : g = F0 m pc ls g.stack)
    (hr : va_Run p l e R s m args below meth c H locs cells slots c1 s1 g (st2.map (ax_tr G)) (ax_Post G o M2 qa) (ax_Fr G)) (kn : ax_Ko G p l e R s m args below meth c nL Qf (pc + 3) nx) (h1 : nx lv (o.toList ++ st2) M2 (rc - c1) (rs - s1)) : W p l e R s m args below meth c H locs cells slots Qf g := by
  intro T hT X
  obtain ⟨v, st₀, t, T', L, h0, X', hL, e1, e2, ⟨hv, hR2, hF⟩, st⟩ := hr T hT X
  cases hv
  obtain ⟨hz, hk⟩ := hF
  rw [h0] at hz hk
  have hS := hs.2.2.2.1
  have hs2 : ax_SR G s R nL lv M2 (rc - c1) (rs - s1) T'.heap (locs ++ L) (cells + c1) (slots + s1) ls := by
    refine ⟨hs.1, hs.2.1, by rw [e1]; exact hR2, ⟨Nat.le_trans hS.1 (by rw [e1]; exact hz), fun q g1 g2 => by rw [e1, hk q (Nat.lt_of_lt_of_le g1 hS.1) g2]; exact hS.2.1 q g1 g2, fun q hq => ?_⟩, by have := hs.2.2.2.2.1; omega, by have := hs.2.2.2.2.2; omega⟩
    rcases List.mem_append.mp hq with h | h
    · exact hS.2.2 q h
    · exact hL q h
  obtain ⟨t2, a1, b1⟩ := kn _ _ _ _ _ _ _ _ _ _ h1 hs2 T' rfl X'
  refine ⟨t2, st t2 ?_, b1⟩
  rw [hgl]
  have e9 : (o.toList ++ st2).map (ax_tr G) = (o.map (ax_tr G)).toList ++ st2.map (ax_tr G) := by cases o <;> simp
  rw [e9] at a1
  exact a1
theorem ax_sumw {st2 : List ax_V} : ((st2.map (ax_tr G)).map fun v => v.category).sum = (st2.map ax_w).sum := by
  rw [List.map_map]
  congr 1
  apply List.map_congr_left
  intro v _
  match v with
  | .inl x => rfl
  | .inr (.inl none) => rfl
  | .inr (.inl (some a)) => rfl
  | .inr (.inr x) => rfl
theorem ax_cb {idx n : Nat} {c1 s1 : Nat} (cx : ax_Cx G p R s m args meth c own cc nL) (hdk : ax_dok D n) (hl : Cond.methodLink own idx D.1 ∈ ax_ws) (hRf : d + 1 ≤ R.frames) (hRl : 40 * (d + 1) ≤ R.locals) : CallB R s args own idx D.1 D.2.1 D.2.2.1 D.2.2.2 (ax_mws D) (ax_rm d c1 s1) c1 s1 n :=
  callB_of n cx.2.2.2.2.1 (ax_goodIn hdk.1) rfl rfl rfl (cx.2.2.2.2.1 _ hdk.2.1) (cx.2.2.2.2.1 _ hl) hdk.2.2.1 ⟨hRf, by have := hdk.2.2.2; show 8 + (D.2.2.1 + 11) + 40 * d ≤ R.locals; omega⟩
theorem ax_lsz (cx : ax_Cx G p R s m args meth c own cc nL) (hs : ax_SR G s R nL lv M rc rs H locs cells slots ls) : ls.size = nL := hs.1.1
theorem sx_cs {idx : Nat} (cx : ax_Cx G p R s m args meth c own cc nL) (hd : decode cc pc = .ok (.invokestatic idx, 3)) (hC : ax_Snd l G mt d C) (hD : mt a = some D) (hdk : ax_dok D b) (hst : Cond.static D.1 ∈ ax_ws) (hl : Cond.methodLink own idx D.1 ∈ ax_ws) (hRf : d + 1 ≤ R.frames) (hRl : 40 * (d + 1) ≤ R.locals) (hc0 : c0 ≠ 6 ∧ c0 ≠ 7 ∧ c0 ≠ 8)
    (kn : ax_Ko G p l e R s m args below meth c nL Qf (pc + 3) nx) (h : ax_ins C Q rt nx jm pc a b c0 lv st M rc rs (.invokestatic idx)) (hs : ax_SR G s R nL lv M rc rs H locs cells slots ls) : W p l e R s m args below meth c H locs cells slots Qf (F0 m pc ls (st.map (ax_tr G))) := by
  have h9 : ax_cl1 C nx a b lv st M rc rs := by
    have h8 := h; unfold ax_ins at h8; rw [if_neg hc0.1, if_neg hc0.2.1, if_neg hc0.2.2] at h8; exact h8
  obtain ⟨hn, hw, c1, s1, o, M2, k1, k2, hcall, h1⟩ := h9
  have hM := hC _ _ _ _ _ _ _ hcall D hD
  refine ax_back (g := F0 m pc ls (st.map (ax_tr G))) (st2 := st.drop b) (qa := (((st.take b).reverse).map (ax_tr G)).toArray) cx hs k1 k2 rfl (va_runS (As := ((st.take b).reverse).map (ax_tr G)) ⟨cx.1, cx.2.1, cx.2.2.1, cx.2.2.2.1, cx.2.2.2.2.1⟩ hM ⟨ax_cb cx hdk hl hRf hRl, cx.2.2.2.2.1 _ hst⟩ ⟨ax_blind, ax_preOf cx hs _⟩ rfl ?_ (ax_lsz cx hs) ?_ ?_ hd ⟨by have := hs.2.2.2.2.1; omega, by have := hs.2.2.2.2.2; omega⟩) kn h1
  · simp; omega
  · show st.map (ax_tr G) = _
    rw [← List.map_reverse, List.reverse_reverse, ← List.map_append, List.take_append_drop]
  · show 2 * 0 + _ ≤ 8
    rw [ax_sumw]; omega
/-- the receiver and the other arguments -/
theorem ax_args {o n : Nat} (hn : n ≤ st.length) (h0 : 0 < n) (h : st[n - 1]? = some (.inr (.inl (some o)))) : ∃ As : List ax_V, (st.take n).reverse = .inr (.inl (some o)) :: As ∧ As.length = n - 1 ∧ st = As.reverse ++ .inr (.inl (some o)) :: st.drop n := by
  have e1 : st.take n = st.take (n - 1) ++ [.inr (.inl (some o))] := by
    obtain ⟨k, rfl⟩ : ∃ k, n = k + 1 := ⟨n - 1, by omega⟩
    rw [Nat.add_sub_cancel] at h ⊢
    rw [List.take_add_one, h]
    rfl
  refine ⟨(st.take (n - 1)).reverse, by rw [e1]; simp, by simp; omega, ?_⟩
  rw [List.reverse_reverse]
  conv => lhs; rw [← List.take_append_drop n st, e1]
  simp
theorem sx_cv {idx : Nat} (cx : ax_Cx G p R s m args meth c own cc nL) (hd : decode cc pc = .ok (.invokevirtual idx, 3)) (hC : ax_Snd l G mt d C) (hD : mt a = some D) (hdk : ax_dok D (b - 1)) (hb : 0 < b) (hc15 : c0 < 15) (hin : Cond.instanceMethod D.1 ∈ ax_ws) (hse : Cond.selects (ax_nm c0) D.1 D.1 ∈ ax_ws) (hl : Cond.methodLink own idx D.1 ∈ ax_ws) (hRf : d + 1 ≤ R.frames) (hRl : 40 * (d + 1) ≤ R.locals)
    (kn : ax_Ko G p l e R s m args below meth c nL Qf (pc + 3) nx) (h : ax_ins C Q rt nx jm pc a b c0 lv st M rc rs (.invokevirtual idx)) (hs : ax_SR G s R nL lv M rc rs H locs cells slots ls) : W p l e R s m args below meth c H locs cells slots Qf (F0 m pc ls (st.map (ax_tr G))) := by
  obtain ⟨hrc, hn, hw, c1, s1, o, M2, k1, k2, hcall, h1⟩ := h
  obtain ⟨q, hq⟩ : ∃ q, st[b - 1]? = some (.inr (.inl (some q))) := by
    unfold ax_rc at hrc
    split at hrc
    · rename_i q hq; exact ⟨q, hq⟩
    · exact hrc.elim
  rw [hq] at hrc
  obtain ⟨As, e1, e2, e3⟩ := ax_args hn hb hq
  rw [e1] at hcall
  have hM := hC _ _ _ _ _ _ _ hcall D hD
  refine ax_back (g := F0 m pc ls (st.map (ax_tr G))) (st2 := st.drop b) (qa := (Value.ref (ax_ad G q) :: As.map (ax_tr G)).toArray) cx hs k1 k2 rfl (va_runV (C := ax_nm c0) (b := ax_ad G q) (As := As.map (ax_tr G)) ⟨cx.1, cx.2.1, cx.2.2.1, cx.2.2.2.1, cx.2.2.2.2.1⟩ hM ⟨ax_cb cx hdk hl hRf hRl, cx.2.2.2.2.1 _ hin, cx.2.2.2.2.1 _ hse⟩ ⟨ax_blind, ax_recv cx hs hc15 hrc, ax_preOf cx hs _⟩ rfl ?_ (ax_lsz cx hs) ?_ ?_ hd ⟨by have := hs.2.2.2.2.1; omega, by have := hs.2.2.2.2.2; omega⟩) kn h1
  · simp; omega
  · show st.map (ax_tr G) = _
    conv => lhs; rw [e3]
    simp [ax_tr, va_rf]
  · show 2 * 0 + _ ≤ 8
    rw [ax_sumw]; omega
theorem sx_ci {idx : Nat} (cx : ax_Cx G p R s m args meth c own cc nL) (hd : decode cc pc = .ok (.invokespecial idx, 3)) (hC : ax_Snd l G mt d C) (hD : mt a = some D) (hdk : ax_dok D (b - 1)) (hb : 0 < b) (hc5 : c0 ≠ 5) (hc11 : c0 ≠ 11) (hini : D.1.name = "<init>" ∧ D.2.2.2 = none) (hin : Cond.instanceMethod D.1 ∈ ax_ws) (hl : Cond.methodLink own idx D.1 ∈ ax_ws) (hRf : d + 1 ≤ R.frames) (hRl : 40 * (d + 1) ≤ R.locals)
    (kn : ax_Ko G p l e R s m args below meth c nL Qf (pc + 3) nx) (h : ax_ins C Q rt nx jm pc a b c0 lv st M rc rs (.invokespecial idx)) (hs : ax_SR G s R nL lv M rc rs H locs cells slots ls) : W p l e R s m args below meth c H locs cells slots Qf (F0 m pc ls (st.map (ax_tr G))) := by
  have h9 : (∃ o, st[b - 1]? = some (.inr (.inl (some o)))) ∧ ax_cl1 C nx a b lv st M rc rs := by
    have h8 := h; unfold ax_ins at h8; rw [if_neg hc5, if_neg hc11] at h8; exact h8
  obtain ⟨⟨q, hq⟩, hn, hw, c1, s1, o, M2, k1, k2, hcall, h1⟩ := h9
  obtain ⟨As, e1, e2, e3⟩ := ax_args hn hb hq
  rw [e1] at hcall
  have hM := hC _ _ _ _ _ _ _ hcall D hD
  have hcb : CallB R s args own idx D.1 D.2.1 D.2.2.1 none (ax_mws D) (ax_rm d c1 s1) c1 s1 (b - 1) := by rw [← hini.2]; exact ax_cb cx hdk hl hRf hRl
  refine ax_back (g := F0 m pc ls (st.map (ax_tr G))) (st2 := st.drop b) (qa := (Value.ref (ax_ad G q) :: As.map (ax_tr G)).toArray) cx hs k1 k2 rfl (va_runI (b := ax_ad G q) (As := As.map (ax_tr G)) ⟨cx.1, cx.2.1, cx.2.2.1, cx.2.2.2.1, cx.2.2.2.2.1⟩ hM ⟨hcb, hini.1, cx.2.2.2.2.1 _ hin⟩ ⟨ax_blind, ax_preOf cx hs _⟩ rfl ?_ (ax_lsz cx hs) ?_ ?_ hd ⟨by have := hs.2.2.2.2.1; omega, by have := hs.2.2.2.2.2; omega⟩) kn h1
  · simp; omega
  · show st.map (ax_tr G) = _
    conv => lhs; rw [e3]
    simp [ax_tr, va_rf]
  · show 2 * 0 + _ ≤ 8
    rw [ax_sumw]; omega
theorem sx_oi {idx : Nat} (cx : ax_Cx G p R s m args meth c own cc nL) (hd : decode cc pc = .ok (.invokespecial idx, 3)) (hc5 : c0 = 5) (hl : Cond.methodLink own idx objectInit ∈ ax_ws) (hin : Cond.instanceMethod objectInit ∈ ax_ws) (hco : Cond.code objectInit ⟨#[0xb1]⟩ 1 none ∈ ax_ws) (hRf : 1 ≤ R.frames) (hRl : 40 ≤ R.locals)
    (kn : ax_Ko G p l e R s m args below meth c nL Qf (pc + 3) nx) (h : ax_ins C Q rt nx jm pc a b c0 lv st M rc rs (.invokespecial idx)) (hs : ax_SR G s R nL lv M rc rs H locs cells slots ls) : W p l e R s m args below meth c H locs cells slots Qf (F0 m pc ls (st.map (ax_tr G))) := by
  subst hc5
  obtain ⟨o, st, rfl, hw, h1⟩ := ax_1o_inv h
  have hcat := ax_sumw (G := G) (st2 := st)
  exact W.objInit cx.1 cx.2.1 cx.2.2.2.1 (cx.2.2.2.2.1 _ hl) (cx.2.2.2.2.1 _ hin) (cx.2.2.2.2.1 _ hco) rfl (by rw [cx.2.2.1]; exact hs.1.1) rfl hd hRf (by show 2 * 0 + _ + 12 ≤ _; omega) (kn _ _ _ _ _ _ _ _ _ _ h1 hs)
end AX8
