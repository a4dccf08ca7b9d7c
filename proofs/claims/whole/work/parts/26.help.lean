/-! THE LAW's HELPERS: a call whose callee throws, caught here -/
theorem ax_blindX {G : ax_G} {avs : List ax_V} {M : ax_M} : FrameBlind (ax_PreX G avs M) := fun a U g mk q => ⟨ax_blind a U g mk q.1, ax_Kx.warm (s := U) (U := U.calling g mk a) (State.WarmedH.refl U) q.2⟩
section AX26
variable {p : Program} {l : Launch} {e : Env} {R : Room} {s : State} {m : MethodId} {args : Array Value} {below : List Frame} {meth : Method} {c : Code} {Qf : State → Prop} {G : ax_G} {own : String} {cc : ByteArray} {nL : Nat}
variable {C : ax_C} {Q : ax_O → ax_M → Prop} {rt : Option FieldType} {nx : ax_K} {jm : Nat → ax_K} {pc a b c0 : Nat} {lv : ax_L} {st : List ax_V} {M : ax_M} {rc rs : Nat} {H : Heap} {locs : List Loc} {cells slots : Nat} {ls : Array Slot}
variable {d : Nat} {D : ax_D}
theorem ax_preXOf (cx : ax_Cx G p R s m args meth c own cc nL) (hX : ax_Kx G s s.heap) (hs : ax_SR G s R nL lv M rc rs H locs cells slots ls) (avs : List ax_V) : ∀ U : State, U.heap = H → s.WarmedH U.vm → ax_PreX G avs M (avs.map (ax_tr G)).toArray U := by
  intro U hU hW
  refine ⟨ax_preOf cx hs avs U hU hW, ?_⟩
  rw [hU]
  exact (hX.kept hs.2.2.2.1.2.1).warm hW
theorem sx_cvX {idx c1 s1 E : Nat} {M2 : ax_M} {avs st2 : List ax_V} {name : String} (cx : ax_Cx G p R s m args meth c own cc nL) (hX : ax_Kx G s s.heap) (hd : decode cc pc = .ok (.invokevirtual idx, 3)) (hM : ax_MetX l G d D c1 s1 avs M E M2) (hdk : ax_dok D (avs.length - 1)) (hc15 : c0 < 15) (hin : Cond.instanceMethod D.1 ∈ ax_ws) (hse : Cond.selects (ax_nm c0) D.1 D.1 ∈ ax_ws) (hl : Cond.methodLink own idx D.1 ∈ ax_ws) (hRf : d + 1 ≤ R.frames) (hRl : 40 * (d + 1) ≤ R.locals)
    (hst : st = avs.reverse ++ st2) (hrc : ax_rc M c0 avs.head?) (hw : (st2.map ax_w).sum ≤ 8) (k1 : c1 ≤ rc) (k2 : s1 ≤ rs)
    (pre : List ExceptionTableEntry) (x : ExceptionTableEntry) (suf : List ExceptionTableEntry) (hsplit : c.exceptionTable.toList = pre ++ x :: suf)
    (hpass : ∀ z ∈ pre, covers z pc = true ∧ z.catchType ≠ 0 ∧ ∃ nm : String, (Cond.classLink own z.catchType nm).before args s = true ∧ va_Nc (ax_en E) nm s) (hx : covers x pc = true) (h0 : x.catchType ≠ 0)
    (hlink : (Cond.classLink own x.catchType name).before args s = true) (hcast : (Cond.castable (ax_en E) name).before args s = true)
    (kk : ∀ (q : Nat) (H1 : Heap) (locs1 : List Loc), ax_SR G s R nL lv M2 (rc - c1) (rs - s1) H1 locs1 (cells + c1) (slots + s1) ls → W p l e R s m args below meth c H1 locs1 (cells + c1) (slots + s1) Qf (F0 m x.handlerPc ls [.ref q]))
    (hs : ax_SR G s R nL lv M rc rs H locs cells slots ls) : W p l e R s m args below meth c H locs cells slots Qf (F0 m pc ls (st.map (ax_tr G))) := by
  match avs, hrc with
  | .inr (.inl (some q0)) :: As, hrc =>
  have hrun := vx_runV (g := F0 m pc ls (st.map (ax_tr G))) (C := ax_nm c0) (b := ax_ad G q0) (As := As.map (ax_tr G)) (rest := st2.map (ax_tr G)) (cells := cells) (slots := slots) (locs := locs) (below := below) (meth := meth) (e := e) (p := p) (l := l) (H := H) (own := own) (Ts := ax_ws) (nL := nL) (cc := cc) (R := R) (s := s) (args := args) (m := m) (c := c) (n := As.length) ⟨cx.1, cx.2.1, cx.2.2.1, cx.2.2.2.1, cx.2.2.2.2.1⟩ hM ⟨ax_cb cx hdk hl hRf hRl, cx.2.2.2.2.1 _ hin, cx.2.2.2.2.1 _ hse⟩ ⟨ax_blindX, ax_recv cx hs hc15 hrc, ax_preXOf cx hX hs _⟩ rfl (by simp) (ax_lsz cx hs) (by
      show st.map (ax_tr G) = _
      rw [hst]
      simp [ax_tr, va_rf]) (by show 2 * 0 + _ ≤ 8; rw [ax_sumw]; omega) hd ⟨by have := hs.2.2.2.2.1; omega, by have := hs.2.2.2.2.2; omega⟩
  intro T hT X
  rcases hrun T hT X with ⟨v, st₀, t, T', L, -, -, -, -, -, hF, -⟩ | ⟨q, st₀, t, T', L, E2, ce, g0, X', hL, e1, e2, ⟨rfl, hR2, hz, hk⟩, hce, hcv, hcl, hsteps⟩
  · exact hF.elim
  · rw [g0] at hz hk
    have hS := hs.2.2.2.1
    have hs2 : ax_SR G s R nL lv M2 (rc - c1) (rs - s1) T'.heap (locs ++ L) (cells + c1) (slots + s1) ls := by
      refine ⟨hs.1, hs.2.1, by rw [e1]; exact hR2, ⟨Nat.le_trans hS.1 (by rw [e1]; exact hz), fun a9 b1 b2 => by rw [e1, hk a9 (Nat.lt_of_lt_of_le b1 hS.1) b2]; exact hS.2.1 a9 b1 b2, fun a9 ha9 => ?_⟩, by have := hs.2.2.2.2.1; omega, by have := hs.2.2.2.2.2; omega⟩
      rcases List.mem_append.mp ha9 with h | h
      · exact hS.2.2 a9 h
      · exact hL a9 h
    have hc := ax_catch (rest := st2.map (ax_tr G)) (ls := ls) (pc := pc) (Qf := Qf) (e := e) (p := p) (l := l) (R := R) (below := below) (meth := meth) (H := T'.heap) (locs := locs ++ L) (cells := cells + c1) (slots := slots + s1) cx.2.2.2.1 pre x suf hsplit hpass hx h0 hlink hcast (by rw [e1]; exact hce) hcv hcl (kk q T'.heap (locs ++ L) hs2)
    obtain ⟨t2, a1, b1⟩ := hc T' rfl X'
    exact ⟨t2, hsteps.trans a1, b1⟩
end AX26
/-- a method with a table of its own, that returns -/
theorem ax_ofWH {l : Launch} {y : MethodName} {ws ws' : List Cond} {rm : Room} {Pc : Array Value → State → Prop} {Qc : Array Value → State → Outcome → State → Prop} {mc ms : Nat} {free : Addr → Prop} {cc : ByteArray} {maxL : Nat} {ret : Option FieldType} {hh : List (Nat × Nat × Nat × Nat)}
    (hy : plainName y.cls = true) (hw : ws = Cond.codeWith y cc maxL ret hh :: ws')
    (body : ∀ p e s m args below meth c s₁, BodyLoose p l y (headSpec ws rm) cc maxL ret e s m args below meth c s₁ → c.maxLocals = maxL → Pc args s →
      W p l e (headSpec ws rm).room s m args below meth c s.heap [] 0 0 (MQ below Qc args s mc ms free) (entryFrame m args maxL)) : Met l y ws rm Pc Qc mc ms free := by
  refine MetFree.of_bodyS (code := cc) (maxLocals := maxL) (ret := ret) hy ?_ ?_
  · intro args s m h hn
    obtain ⟨m9, meth, c, hn9, h1, h2, h3, h4, -, h5, h6, -⟩ := Cond.codeWith_spec (atoms_spec (ws := ws) h _ (by rw [hw]; exact List.mem_cons_self))
    cases hn.symm.trans hn9
    exact ⟨meth, c, h1, h2, h3, h4, h5, h6⟩
  · intro p e s m args below meth c s₁ B hml hP _
    have hh0 : s₁.heap = s.heap := by rw [B.state]; rfl
    obtain ⟨t, a1, o, b1, b2, b3⟩ := body p e s m args below meth c s₁ B hml hP s₁ hh0 (Stand.of_body B)
    exact ⟨t, o, a1, b1, b2, ⟨b3.1, b3.2⟩⟩
