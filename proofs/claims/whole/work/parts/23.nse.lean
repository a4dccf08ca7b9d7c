def ax_nat (own : String) (ic : Nat) (X Y : String) (ix : Nat) (bx : ByteArray) (names : List String) : List Cond := Bundle.throwableAtoms ++ (Bundle.throwableSAtoms ++ (Bundle.passSAtoms X Y ix bx ++ (Bundle.chainSAtoms Y names ++ ax_oa own ic X)))
section AX23A
variable {p : Program} {l : Launch} {e : Env} {R : Room} {s : State} {m : MethodId} {args : Array Value} {below : List Frame} {meth : Method} {c : Code} {H : Heap} {locs : List Loc} {cells slots : Nat} {Q : State → Prop}
variable {mc ms : Nat} {free : Addr → Prop} {A0 A1 : Nat → Prop} {H0 : Heap} {a : Array Value} {ls : Array Slot} {st0 rest : List Value}
variable {Qc : Array Value → State → Outcome → State → Prop} {XC : String → State → State → Prop}
theorem ax_throwN {cc : ByteArray} {pc : Nat} (hexec : p.tables.exec = Jvm.exec) (hb : c.code = cc) (hl : l.stackTraces = false) {own cls text YS : String} {names : List String} {ik is ic ix mc ms sa : Nat} {bx : ByteArray} {A : Nat → Prop}
    (hown : s.vm.findClass own = some m.cls) (hcls : Bundle.fit cls = true) (hY : Bundle.fit YS = true) (b0 : decode bx 0 = .ok (.aload_n 0, 1)) (b1 : decode bx 1 = .ok (.aload_n 1, 1)) (b2 : decode bx 2 = .ok (.invokespecial ix, 3)) (b5 : decode bx 5 = .ok (.return_, 1)) (hnames : ∀ n ∈ names, Bundle.fit n = true)
    (hk : (Cond.classLink own ik cls).before args s = true) (hini : (Cond.initialized cls).before args s = true) (hstr : vk_R own is text sa s) (hat : ∀ w ∈ (ax_nat own ic cls YS ix bx names).filter vx_no, w.before args s = true)
    (hgood : ∀ w ∈ Cond.classLink own ik cls :: Cond.initialized cls :: (ax_nat own ic cls YS ix bx names).filter vx_no, vx_ot w = true)
    (hU : vx_Zq Bundle.tN "UNASSIGNED_STACK" Bundle.steD A s s.heap) (hN : vx_Zq Bundle.tN "SUPPRESSED_SENTINEL" Bundle.listD A s s.heap) (hS : va_S A s.heap H locs) (hsize : ls.size = c.maxLocals)
    (d0 : decode cc pc = .ok (.new ik, 3)) (d3 : decode cc (pc + 3) = .ok (.dup, 1)) (d4 : decode cc (pc + 4) = .ok (.ldc is, 2)) (d6 : decode cc (pc + 6) = .ok (.invokespecial ic, 3)) (d9 : decode cc (pc + 9) = .ok (.athrow, 1))
    (hout : ∀ x ∈ c.exceptionTable.toList, covers x (pc + 9) = false)
    (hRframes : names.length + 4 < R.frames) (hRlocals : (rest.map fun v => v.category).sum + (13 * (names.length + 2) + 43) ≤ R.locals) (hRcells : cells + 1 ≤ R.cells) (hRslots : slots + 6 ≤ R.slots) (hlocks : meth.locks = false)
    (hx : ∀ t : State, s.vm.Alike t.vm → t.heap.size = H.size + 1 → (∀ q : Nat, q < H.size → t.heap[q]? = H[q]?) → XC cls s t)
    (hf : ∀ z ∈ locs, free z.base) (hc : cells + 1 ≤ mc) (hs : slots + 6 ≤ ms) :
    W p l e R s m args below meth c H locs cells slots (vx_MQ below Qc XC args s mc ms free) (F0 m pc ls rest) := by
  intro T hT X
  have htr : e.platform.stackTraces = false := (show e.platform.stackTraces = l.stackTraces by rw [X.admits.platform]).trans hl
  have Y := vx_rebase X (R' := { frames := R.frames, locals := R.locals, cells := 1, slots := 6 }) (Nat.le_refl _) (Nat.le_refl _) hRcells hRslots
  obtain ⟨s', hA⟩ : ∃ z, z = (T.setVm s.vm).setFrames (.invoking m args :: below) := ⟨_, rfl⟩
  rw [← hA] at Y
  have hvm : s'.vm = s.vm := by rw [hA]; rfl
  have hhp : s'.heap = H := by rw [hA]; exact hT
  have hW0 : s.WarmedH s'.vm := by rw [hvm]; exact State.WarmedH.refl s
  have hat' : ∀ w ∈ (ax_nat own ic cls YS ix bx names).filter vx_no, w.before args s' = true := fun w hw => vx_ot_at hW0 hvm.symm (hgood w (List.mem_cons_of_mem _ (List.mem_cons_of_mem _ hw))) (hat w hw)
  have hk' : (Cond.classLink own ik cls).before args s' = true := vx_ot_at hW0 hvm.symm (hgood _ List.mem_cons_self) hk
  have hini' : (Cond.initialized cls).before args s' = true := vx_ot_at hW0 hvm.symm (hgood _ (List.mem_cons_of_mem _ List.mem_cons_self)) hini
  have hU' : vx_Zq Bundle.tN "UNASSIGNED_STACK" Bundle.steD A s' s'.heap := by rw [hhp]; exact vx_Zq.moved hW0.alike (hU.kept hS.2.1)
  have hN' : vx_Zq Bundle.tN "SUPPRESSED_SENTINEL" Bundle.listD A s' s'.heap := by rw [hhp]; exact vx_Zq.moved hW0.alike (hN.kept hS.2.1)
  have h : ∀ w ∈ ax_nat own ic cls YS ix bx names, w.before args s' = true := vx_own hat' (vx_isRefq hU'.1) (vx_isRefq hN'.1) hU'.2.word hN'.2.word
  have hown' : s'.vm.findClass own = some m.cls := by rw [hvm]; exact hown
  have hins : (Cond.instantiable cls 6).before args s' = true := h _ (by simp [ax_nat, ax_oa])
  obtain ⟨vm₁, cX, kX, hfX, hkX, -, -, X₁, st1⟩ := Y.newCold hexec (own := own) (C := cls) (index := ik) (n := 6) hown' hk' hins hini'
    (g := F0 m pc ls rest) rfl (by rw [hb]; exact d0) (Nat.le_refl _) (Nat.le_refl _)
  generalize hT1 : (T.setVm vm₁).pushCell { cls := cX, slots := kX.instanceTypes.map defaultValue, vm := .none } = T1 at X₁ st1
  have hcat : (Value.ref T.heap.size).category = 1 := rfl
  have hcellA : T1.heap[T.heap.size]? = some (freshCell cX kX) := by rw [← hT1]; exact State.heap_pushCell_size _ _
  have d3' : decode c.code (pc + 3) = .ok (.dup, 1) := by rw [hb]; exact d3
  have d4' : decode c.code (pc + 4) = .ok (.ldc is, 2) := by rw [hb]; exact d4
  have hstr' : vk_R own is text sa s' := vk_R.warm hW0 hstr
  obtain ⟨U, hsteps, hrun, hend, hW, hsame, ce, hce, hOv, hOc⟩ := ax_ctorN X₁ hexec htr (own := own) (cls := cls) (Y := YS) (names := names) (ic := ic) (ix := ix) (bx := bx) hown' hcls hY hnames b0 b1 b2 b5
    (fun w hw => h w (by simp [ax_nat, hw])) (fun w hw => h w (by simp [ax_nat, hw])) (fun w hw => h w (by simp [ax_nat, hw])) (fun w hw => h w (by simp [ax_nat, hw])) (fun w hw => h w (by simp [ax_nat, hw])) (fun x hx => nomatch hx) hfX hkX hcellA (by rw [hhp, hT]; exact Nat.le_refl _) (msg := .ref sa) rfl
    (g := { method := m, pc := pc + 6, locals := ls, stack := .ref sa :: .ref T.heap.size :: .ref T.heap.size :: rest, locked := none }) rfl hsize rfl rfl (rest := rest) rfl
    (by rw [hb]; exact d6) (by rw [hb]; exact d9) hout hRframes (by simp only [List.map_cons, List.sum_cons, hcat]; show 2 * 0 + _ + _ ≤ _; omega) hlocks
  obtain ⟨f1, f2⟩ := vx_frame hsame
  rw [hhp] at f1 f2
  have hz9 : U.heap.size = H.size + 1 := by
    have g1 : U.heap.size ≤ s'.heap.size + (0 + 1) := hsame.2.2.1
    have g2 : T.heap.size < U.heap.size := (Array.getElem?_eq_some_iff.mp hce).1
    rw [hhp] at g1
    rw [hT] at g2
    omega
  have hWs : s.WarmedH U.vm := State.WarmedH.trans hW0 hW
  have hcl : s.vm.findClass cls = some ce.cls := by
    have h9 := hOc
    rw [hvm] at h9
    exact h9
  have hall : s.sameButNew ({ U with vm := s.vm } : State) locs mc ms := by
    subst hA
    obtain ⟨e1, e2⟩ := hsame
    rw [State.setFrames_setFrames] at e1
    have h2 : (T.setVm s.vm).sameButNew ({ U with vm := s.vm } : State) [] (0 + 1) (0 + 6) := ⟨e1, e2⟩
    have h3 := X.same.trans h2
    rw [List.append_nil] at h3
    exact h3.mono hc hs
  refine ⟨U, ?_, .threw T.heap.size, hrun, hend, Or.inr ⟨T.heap.size, rfl, cls, ce, locs, hx U hWs.alike hz9 (fun q hq => f2 q hq (fun z hz => nomatch hz)), hce, hOv, hcl, hWs, hall, hf⟩⟩
  refine st1 _ ?_
  show Steps p.tables e below (T1.setTop { method := m, pc := pc + 3, locals := ls, stack := .ref T.heap.size :: rest, locked := none }) _
  jvm_step X₁.here [X₁.here.top, hexec, d3', Value.category]
  exact X₁.ldcString hexec (own := own) (text := text) (index := is) (a := sa) hown' hstr'.1 hstr'.2
    (g := { method := m, pc := pc + 4, locals := ls, stack := .ref T.heap.size :: .ref T.heap.size :: rest, locked := none }) rfl d4' _ hsteps
end AX23A
def ax_n13 : ByteArray := ⟨#[0x2a, 0x2b, 0xb7, 0x00, 0x0d, 0xb1]⟩
abbrev ax_nw : List Cond := (ax_nat "PageServer" 79 (ax_en 2) "java/lang/RuntimeException" 13 ax_n13 ["java/lang/Exception"]).filter vx_no
set_option maxRecDepth 20000 in
theorem xn_good : ∀ w ∈ ax_nw.filter goodWord, w ∈ ax_ws := fun w hw => List.mem_filter.mpr ⟨List.mem_append_left _ ((show ∀ w ∈ ax_nw.filter goodWord, w ∈ lw_tbl by decide +kernel) w hw), (List.mem_filter.mp hw).2⟩
theorem xn_bad : ∀ w ∈ ax_nw.filter (fun w => !goodWord w), w ∈ ax_xw ++ ax_xc := by decide +kernel
theorem xn_ot : ∀ w ∈ ax_nw, vx_ot w = true := by decide +kernel
def ax_thN (own : String) (cc : ByteArray) (r : ax_R) : Prop := ∃ (idx is : Nat) (text : String), r.2.1 = .new idx ∧ r.2.2.1 = 2 ∧ decode cc r.1 = .ok (.new idx, 3) ∧ decode cc (r.1 + 3) = .ok (.dup, 1) ∧ decode cc (r.1 + 4) = .ok (.ldc is, 2) ∧ decode cc (r.1 + 6) = .ok (.invokespecial 79, 3) ∧ decode cc (r.1 + 9) = .ok (.athrow, 1) ∧
  Cond.classLink own idx (ax_en 2) ∈ ax_ws ∧ Cond.initialized (ax_en 2) ∈ ax_ws ∧ (own, is, text) ∈ ax_sx
section AX23
variable {p : Program} {l : Launch} {e : Env} {R : Room} {s : State} {m : MethodId} {args : Array Value} {below : List Frame} {meth : Method} {c : Code} {Qf : State → Prop} {G : ax_G} {own : String} {cc : ByteArray} {nL : Nat}
variable {C : ax_C} {Q : ax_O → ax_M → Prop} {rt : Option FieldType} {nx : ax_K} {jm : Nat → ax_K} {pc a b c0 : Nat} {lv : ax_L} {st : List ax_V} {M : ax_M} {rc rs : Nat} {H : Heap} {locs : List Loc} {cells slots : Nat} {ls : Array Slot}
theorem sx_throwN {mc ms dd : Nat} {r : ax_R} {Qc : Array Value → State → Outcome → State → Prop} (cx : ax_Cx G p R s m args meth c "PageServer" cc nL) (hX : ax_Kx G s s.heap) (hl : l.stackTraces = false) (hr : ax_thN "PageServer" cc r) (htab : ∀ x ∈ c.exceptionTable.toList, False) (hRf : dd + 6 ≤ R.frames) (hRl : 40 * (dd + 6) ≤ R.locals)
    (hw : (st.map ax_w).sum ≤ 8) (k1 : 1 ≤ rc) (k2 : 6 ≤ rs) (hc1 : R.cells = mc) (hs1 : R.slots = ms) (hs : ax_SR G s R nL lv M rc rs H locs cells slots ls) : W p l e R s m args below meth c H locs cells slots (vx_MQ below Qc (ax_XC G r.2.2.1 (ax_new M 400 0)) args s mc ms (ax_Fr G)) (F0 m r.1 ls (st.map (ax_tr G))) := by
  obtain ⟨idx, is, text, -, e2, d0, d3, d4, d6, d9, q1, q2, q3⟩ := hr
  obtain ⟨sa, hsa⟩ := cx.2.2.2.2.2.2.2.1.2.2.1 _ q3
  have hcat := ax_sumw (G := G) (st2 := st)
  have hS := hs.2.2.2.1
  rw [e2]
  refine ax_throwN (A := ax_Fr G) cx.1 cx.2.1 hl cx.2.2.2.1 (cls := ax_en 2) (YS := "java/lang/RuntimeException") (names := ["java/lang/Exception"]) (ix := 13) (bx := ax_n13) (ic := 79) (by decide +kernel) (by decide +kernel) (by decide +kernel) (by decide +kernel) (by decide +kernel) (by decide +kernel) (by decide +kernel) (cx.2.2.2.2.1 _ q1) (cx.2.2.2.2.1 _ q2) hsa
    (vx_hat (B := ax_xw ++ ax_xc) (fun w hw => cx.2.2.2.2.1 _ (xn_good w hw)) xn_bad (fun w hw => va_Nw.use (by
      simp only [ax_xw, ax_xc, List.cons_append, List.nil_append, List.mem_cons, List.not_mem_nil, or_false] at hw
      rcases hw with rfl | rfl | rfl | rfl | rfl | rfl <;> rfl) (hX.2.2.1 w hw))) (fun w hw => by
      rcases List.mem_cons.mp hw with rfl | hw
      · rfl
      · rcases List.mem_cons.mp hw with rfl | hw
        · rfl
        · exact xn_ot w hw) hX.1 hX.2.1 hS (hs.1.1.trans cx.2.2.1.symm) d0 d3 d4 d6 d9 (fun x hx => (htab x hx).elim) (by show 1 + 4 < R.frames; omega) (by show _ + (13 * (1 + 2) + 43) ≤ _; omega)
    (by have := hs.2.2.2.2.1; omega) (by have := hs.2.2.2.2.2; omega) cx.2.2.2.2.2.2.2.2.2.1 (fun t _ hz hq => ⟨rfl, hs.2.2.1.push cx.2.2.2.2.2.1 hz hq (Or.inr (Or.inr ax_new_tg)), ?_, ?_⟩) hS.2.2 (by have := hs.2.2.2.2.1; omega) (by have := hs.2.2.2.2.2; omega)
  · have := hS.1; omega
  · intro q g1 g2
    rw [hq q (by have := hS.1; omega)]
    exact hS.2.1 q g1 g2
end AX23

set_option maxRecDepth 20000 in
theorem th_X11_out : ∀ r ∈ pr_X11_out, r.2.2.2.2.1 = 9 → ax_thN pt_X11_out.1.1.cls pt_X11_out.1.2.1 r := by
  intro r hr h9
  have hm : r ∈ pr_X11_out.filter (fun r => r.2.2.2.2.1 == 9) := List.mem_filter.mpr ⟨hr, by simpa using h9⟩
  have e : pr_X11_out.filter (fun r => r.2.2.2.2.1 == 9) = [(18, .new 75, 2, 0, 9, 1250)] := rfl
  rw [e] at hm
  simp only [List.mem_cons, List.not_mem_nil, or_false] at hm
  rcases hm with rfl
  · exact ⟨75, 77, "no such byte waits", rfl, rfl, by decide +kernel, by decide +kernel, by decide +kernel, by decide +kernel, by decide +kernel, ax_in1_mem (d := 1250) (by decide +kernel), ax_in1_mem (d := 111) (by decide +kernel), by decide +kernel⟩
set_option maxRecDepth 20000 in
theorem th_X11_stream : ∀ r ∈ pr_X11_stream, r.2.2.2.2.1 = 9 → ax_thN pt_X11_stream.1.1.cls pt_X11_stream.1.2.1 r := by
  intro r hr h9
  have hm : r ∈ pr_X11_stream.filter (fun r => r.2.2.2.2.1 == 9) := List.mem_filter.mpr ⟨hr, by simpa using h9⟩
  have e : pr_X11_stream.filter (fun r => r.2.2.2.2.1 == 9) = [(16, .new 75, 2, 0, 9, 1250), (84, .new 75, 2, 0, 9, 1250)] := rfl
  rw [e] at hm
  simp only [List.mem_cons, List.not_mem_nil, or_false] at hm
  rcases hm with rfl | rfl
  · exact ⟨75, 133, "the stream is not open", rfl, rfl, by decide +kernel, by decide +kernel, by decide +kernel, by decide +kernel, by decide +kernel, ax_in1_mem (d := 1250) (by decide +kernel), ax_in1_mem (d := 111) (by decide +kernel), by decide +kernel⟩
  · exact ⟨75, 148, "nothing of this number is told", rfl, rfl, by decide +kernel, by decide +kernel, by decide +kernel, by decide +kernel, by decide +kernel, ax_in1_mem (d := 1250) (by decide +kernel), ax_in1_mem (d := 111) (by decide +kernel), by decide +kernel⟩
set_option maxRecDepth 20000 in
theorem th_X11_entry : ∀ r ∈ pr_X11_entry, r.2.2.2.2.1 = 9 → ax_thN pt_X11_entry.1.1.cls pt_X11_entry.1.2.1 r := by
  intro r hr h9
  have hm : r ∈ pr_X11_entry.filter (fun r => r.2.2.2.2.1 == 9) := List.mem_filter.mpr ⟨hr, by simpa using h9⟩
  have e : pr_X11_entry.filter (fun r => r.2.2.2.2.1 == 9) = [(27, .new 75, 2, 0, 9, 1250), (69, .new 75, 2, 0, 9, 1250)] := rfl
  rw [e] at hm
  simp only [List.mem_cons, List.not_mem_nil, or_false] at hm
  rcases hm with rfl | rfl
  · exact ⟨75, 153, "no such entry or part", rfl, rfl, by decide +kernel, by decide +kernel, by decide +kernel, by decide +kernel, by decide +kernel, ax_in1_mem (d := 1250) (by decide +kernel), ax_in1_mem (d := 111) (by decide +kernel), by decide +kernel⟩
  · exact ⟨75, 169, "no such character", rfl, rfl, by decide +kernel, by decide +kernel, by decide +kernel, by decide +kernel, by decide +kernel, ax_in1_mem (d := 1250) (by decide +kernel), ax_in1_mem (d := 111) (by decide +kernel), by decide +kernel⟩
