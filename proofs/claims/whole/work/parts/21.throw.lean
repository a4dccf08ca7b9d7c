section AX21A
variable {p : Program} {l : Launch} {e : Env} {R : Room} {s : State} {m : MethodId} {args : Array Value} {below : List Frame} {meth : Method} {c : Code} {H : Heap} {locs : List Loc} {cells slots : Nat} {Q : State → Prop}
variable {mc ms : Nat} {free : Addr → Prop} {A0 A1 : Nat → Prop} {H0 : Heap} {a : Array Value} {ls : Array Slot} {st0 rest : List Value}
variable {Qc : Array Value → State → Outcome → State → Prop} {XC : String → State → State → Prop}
theorem ax_throwS {cc : ByteArray} {pc : Nat} (hexec : p.tables.exec = Jvm.exec) (hb : c.code = cc) (hl : l.stackTraces = false) {own cls text : String} {names : List String} {ik is ic mc ms sa : Nat} {A : Nat → Prop}
    (hown : s.vm.findClass own = some m.cls) (hcls : Bundle.fit cls = true) (hnames : ∀ n ∈ names, Bundle.fit n = true)
    (hk : (Cond.classLink own ik cls).before args s = true) (hini : (Cond.initialized cls).before args s = true) (hstr : vk_R own is text sa s) (hat : ∀ w ∈ vx_atS own ic cls names, w.before args s = true)
    (hgood : ∀ w ∈ Cond.classLink own ik cls :: Cond.initialized cls :: vx_atS own ic cls names, vx_ot w = true)
    (hU : vx_Zq Bundle.tN "UNASSIGNED_STACK" Bundle.steD A s s.heap) (hN : vx_Zq Bundle.tN "SUPPRESSED_SENTINEL" Bundle.listD A s s.heap) (hS : va_S A s.heap H locs) (hsize : ls.size = c.maxLocals)
    (d0 : decode cc pc = .ok (.new ik, 3)) (d3 : decode cc (pc + 3) = .ok (.dup, 1)) (d4 : decode cc (pc + 4) = .ok (.ldc is, 2)) (d6 : decode cc (pc + 6) = .ok (.invokespecial ic, 3)) (d9 : decode cc (pc + 9) = .ok (.athrow, 1))
    (hout : ∀ x ∈ c.exceptionTable.toList, covers x (pc + 9) = false)
    (hRframes : names.length + 3 < R.frames) (hRlocals : (rest.map fun v => v.category).sum + (13 * (names.length + 1) + 43) ≤ R.locals) (hRcells : cells + 1 ≤ R.cells) (hRslots : slots + 6 ≤ R.slots) (hlocks : meth.locks = false)
    (hx : ∀ t : State, s.vm.Alike t.vm → t.heap.size = H.size + 1 → (∀ q : Nat, q < H.size → t.heap[q]? = H[q]?) → XC cls s t)
    (hf : ∀ z ∈ locs, free z.base) (hc : cells + 1 ≤ mc) (hs : slots + 6 ≤ ms) :
    W p l e R s m args below meth c H locs cells slots (vx_MQ below Qc XC args s mc ms free) (F0 m pc ls rest) := by
  intro T hT X
  have htr : e.platform.stackTraces = false := (show e.platform.stackTraces = l.stackTraces by rw [X.admits.platform]).trans hl
  have Y := vx_rebase X (R' := { frames := R.frames, locals := R.locals, cells := 1, slots := 6 }) (Nat.le_refl _) (Nat.le_refl _) hRcells hRslots
  obtain ⟨s', hA⟩ : ∃ z, z = (T.setVm s.vm).setFrames (.invoking m args :: below) := ⟨_, rfl⟩
  rw [← hA] at Y
  have hvm : s'.vm = s.vm := by rw [hA]; rfl
  have hhp : s'.heap = H := by rw [hA]; exact hT
  have hW0 : s.WarmedH s'.vm := by rw [hvm]; exact State.WarmedH.refl s
  have hat' : ∀ w ∈ vx_atS own ic cls names, w.before args s' = true := fun w hw => vx_ot_at hW0 hvm.symm (hgood w (List.mem_cons_of_mem _ (List.mem_cons_of_mem _ hw))) (hat w hw)
  have hk' : (Cond.classLink own ik cls).before args s' = true := vx_ot_at hW0 hvm.symm (hgood _ List.mem_cons_self) hk
  have hini' : (Cond.initialized cls).before args s' = true := vx_ot_at hW0 hvm.symm (hgood _ (List.mem_cons_of_mem _ List.mem_cons_self)) hini
  have hU' : vx_Zq Bundle.tN "UNASSIGNED_STACK" Bundle.steD A s' s'.heap := by rw [hhp]; exact vx_Zq.moved hW0.alike (hU.kept hS.2.1)
  have hN' : vx_Zq Bundle.tN "SUPPRESSED_SENTINEL" Bundle.listD A s' s'.heap := by rw [hhp]; exact vx_Zq.moved hW0.alike (hN.kept hS.2.1)
  have h : ∀ w ∈ Bundle.ownAtoms own ic cls names, w.before args s' = true := vx_own hat' (vx_isRefq hU'.1) (vx_isRefq hN'.1) hU'.2.word hN'.2.word
  have hown' : s'.vm.findClass own = some m.cls := by rw [hvm]; exact hown
  have hins : (Cond.instantiable cls 6).before args s' = true := h _ (by simp [Bundle.ownAtoms])
  obtain ⟨vm₁, cX, kX, hfX, hkX, -, -, X₁, st1⟩ := Y.newCold hexec (own := own) (C := cls) (index := ik) (n := 6) hown' hk' hins hini'
    (g := F0 m pc ls rest) rfl (by rw [hb]; exact d0) (Nat.le_refl _) (Nat.le_refl _)
  generalize hT1 : (T.setVm vm₁).pushCell { cls := cX, slots := kX.instanceTypes.map defaultValue, vm := .none } = T1 at X₁ st1
  have hcat : (Value.ref T.heap.size).category = 1 := rfl
  have hcellA : T1.heap[T.heap.size]? = some (freshCell cX kX) := by rw [← hT1]; exact State.heap_pushCell_size _ _
  have d3' : decode c.code (pc + 3) = .ok (.dup, 1) := by rw [hb]; exact d3
  have d4' : decode c.code (pc + 4) = .ok (.ldc is, 2) := by rw [hb]; exact d4
  have hstr' : vk_R own is text sa s' := vk_R.warm hW0 hstr
  obtain ⟨U, hsteps, hrun, hend, hW, hsame, ce, hce, hO⟩ := X₁.ctorThrowS hexec htr (own := own) (cls := cls) (names := names) (ic := ic) hown' hcls hnames h (fun x hx => nomatch hx) hfX hkX hcellA (by rw [hhp, hT]; exact Nat.le_refl _) (msg := .ref sa) rfl
    (g := { method := m, pc := pc + 6, locals := ls, stack := .ref sa :: .ref T.heap.size :: .ref T.heap.size :: rest, locked := none }) rfl hsize rfl rfl (rest := rest) rfl
    (by rw [hb]; exact d6) (by rw [hb]; exact d9) hout hRframes (by simp only [List.map_cons, List.sum_cons, hcat]; omega) hlocks
  obtain ⟨f1, f2⟩ := vx_frame hsame
  rw [hhp] at f1 f2
  have hz9 : U.heap.size = H.size + 1 := by
    have g1 : U.heap.size ≤ s'.heap.size + (0 + 1) := hsame.2.2.1
    have g2 : T.heap.size < U.heap.size := (Array.getElem?_eq_some_iff.mp hce).1
    rw [hhp] at g1
    rw [hT] at g2
    omega
  have hWs : s.WarmedH U.vm := State.WarmedH.trans hW0 hW
  have hcl : s.vm.findClass cls = some ce.cls := by
    have h9 := hO.cls
    rw [hvm] at h9
    exact h9
  have hall : s.sameButNew ({ U with vm := s.vm } : State) locs mc ms := by
    subst hA
    obtain ⟨e1, e2⟩ := hsame
    rw [State.setFrames_setFrames] at e1
    have h2 : (T.setVm s.vm).sameButNew ({ U with vm := s.vm } : State) [] (0 + 1) (0 + 6) := ⟨e1, e2⟩
    have h3 := X.same.trans h2
    rw [List.append_nil] at h3
    exact h3.mono hc hs
  refine ⟨U, ?_, .threw T.heap.size, hrun, hend, Or.inr ⟨T.heap.size, rfl, cls, ce, locs, hx U hWs.alike hz9 (fun q hq => f2 q hq (fun z hz => nomatch hz)), hce, hO.vm, hcl, hWs, hall, hf⟩⟩
  refine st1 _ ?_
  show Steps p.tables e below (T1.setTop { method := m, pc := pc + 3, locals := ls, stack := .ref T.heap.size :: rest, locked := none }) _
  jvm_step X₁.here [X₁.here.top, hexec, d3', Value.category]
  exact X₁.ldcString hexec (own := own) (text := text) (index := is) (a := sa) hown' hstr'.1 hstr'.2
    (g := { method := m, pc := pc + 4, locals := ls, stack := .ref T.heap.size :: .ref T.heap.size :: rest, locked := none }) rfl d4' _ hsteps
end AX21A
def ax_en (a : Nat) : String := match a with
  | 0 => "java/lang/IllegalArgumentException"
  | 1 => "java/lang/IllegalStateException"
  | _ => "java/util/NoSuchElementException"
def ax_sup : List String := ["java/lang/RuntimeException", "java/lang/Exception"]
def ax_xw : List Cond := [.declares (Bundle.initS "java/lang/RuntimeException"), .declares (Bundle.initS "java/lang/Exception"), .declares (Bundle.initS Bundle.tN)]
def ax_xc : List Cond := [.castable (ax_en 0) (ax_en 0), .castable (ax_en 1) (ax_en 1), .castable (ax_en 2) (ax_en 2)]
/-- what a throw wants to know beside the rest -/
def ax_Kx (G : ax_G) (U : State) (H : Heap) : Prop := vx_Zq Bundle.tN "UNASSIGNED_STACK" Bundle.steD (ax_Fr G) U H ∧ vx_Zq Bundle.tN "SUPPRESSED_SENTINEL" Bundle.listD (ax_Fr G) U H ∧ (∀ w ∈ ax_xw ++ ax_xc, va_Nw w U) ∧ va_Nc (ax_en 1) (ax_en 0) U
theorem ax_Kx.warm {G : ax_G} {s U : State} {H : Heap} (hW : s.WarmedH U.vm) (h : ax_Kx G s H) : ax_Kx G U H := by
  obtain ⟨h1, h2, h3, h4⟩ := h
  refine ⟨vx_Zq.moved hW.alike h1, vx_Zq.moved hW.alike h2, fun w hw => ?_, va_Nc.moved hW.alike h4⟩
  have h9 := h3 w hw
  simp only [ax_xw, ax_xc, List.cons_append, List.nil_append, List.mem_cons, List.not_mem_nil, or_false] at hw
  rcases hw with rfl | rfl | rfl | rfl | rfl | rfl
  · exact va_Nw.warmD hW h9
  · exact va_Nw.warmD hW h9
  · exact va_Nw.warmD hW h9
  · exact va_Nw.warmC hW h9
  · exact va_Nw.warmC hW h9
  · exact va_Nw.warmC hW h9
theorem ax_Kx.kept {G : ax_G} {U : State} {H H1 : Heap} (h : ax_Kx G U H) (hq : ∀ a : Nat, a < H.size → ¬ ax_Fr G a → H1[a]? = H[a]?) : ax_Kx G U H1 := ⟨h.1.kept hq, h.2.1.kept hq, h.2.2⟩
/-- a row 'throw new E("text")' is as the bytes and the words have it -/
def ax_thP (own : String) (cc : ByteArray) (r : ax_R) : Prop := ∃ (idx is ic : Nat) (text : String), r.2.1 = .new idx ∧ decode cc r.1 = .ok (.new idx, 3) ∧ decode cc (r.1 + 3) = .ok (.dup, 1) ∧ decode cc (r.1 + 4) = .ok (.ldc is, 2) ∧ decode cc (r.1 + 6) = .ok (.invokespecial ic, 3) ∧ decode cc (r.1 + 9) = .ok (.athrow, 1) ∧
  Cond.classLink own idx (ax_en r.2.2.1) ∈ ax_ws ∧ Cond.initialized (ax_en r.2.2.1) ∈ ax_ws ∧ (own, is, text) ∈ ax_sx ∧ (∀ w ∈ (vx_atS own ic (ax_en r.2.2.1) ax_sup).filter goodWord, w ∈ ax_ws) ∧ (∀ w ∈ (vx_atS own ic (ax_en r.2.2.1) ax_sup).filter (fun w => !goodWord w), w ∈ ax_xw ++ ax_xc) ∧
  (∀ w ∈ Cond.classLink own idx (ax_en r.2.2.1) :: Cond.initialized (ax_en r.2.2.1) :: vx_atS own ic (ax_en r.2.2.1) ax_sup, vx_ot w = true) ∧ Bundle.fit (ax_en r.2.2.1) = true
def ax_XC (G : ax_G) (a : Nat) (M2 : ax_M) : String → State → State → Prop := fun E st t => E = ax_en a ∧ ax_Rel G M2 t.heap ∧ va_F (ax_Fr G) st t
def ax_PreX (G : ax_G) (avs : List ax_V) (M : ax_M) : Array Value → State → Prop := fun a U => ax_Pre G avs M a U ∧ ax_Kx G U U.heap
def ax_MetX (l : Launch) (G : ax_G) (d : Nat) (D : ax_D) (c s : Nat) (avs : List ax_V) (M : ax_M) (a : Nat) (M2 : ax_M) : Prop := vx_Met l D.1 (ax_mws D) (ax_rm d c s) (ax_PreX G avs M) (fun _ _ _ _ => False) (ax_XC G a M2) c s (ax_Fr G)
section AX21
variable {p : Program} {l : Launch} {e : Env} {R : Room} {s : State} {m : MethodId} {args : Array Value} {below : List Frame} {meth : Method} {c : Code} {Qf : State → Prop} {G : ax_G} {own : String} {cc : ByteArray} {nL : Nat}
variable {C : ax_C} {Q : ax_O → ax_M → Prop} {rt : Option FieldType} {nx : ax_K} {jm : Nat → ax_K} {pc a b c0 : Nat} {lv : ax_L} {st : List ax_V} {M : ax_M} {rc rs : Nat} {H : Heap} {locs : List Loc} {cells slots : Nat} {ls : Array Slot}
theorem sx_throw {mc ms dd : Nat} {r : ax_R} {Qc : Array Value → State → Outcome → State → Prop} (cx : ax_Cx G p R s m args meth c own cc nL) (hX : ax_Kx G s s.heap) (hl : l.stackTraces = false) (hr : ax_thP own cc r) (htab : ∀ x ∈ c.exceptionTable.toList, False) (hRf : dd + 6 ≤ R.frames) (hRl : 40 * (dd + 6) ≤ R.locals)
    (hw : (st.map ax_w).sum ≤ 8) (k1 : 1 ≤ rc) (k2 : 6 ≤ rs) (hc1 : R.cells = mc) (hs1 : R.slots = ms) (hs : ax_SR G s R nL lv M rc rs H locs cells slots ls) : W p l e R s m args below meth c H locs cells slots (vx_MQ below Qc (ax_XC G r.2.2.1 (ax_new M 400 0)) args s mc ms (ax_Fr G)) (F0 m r.1 ls (st.map (ax_tr G))) := by
  obtain ⟨idx, is, ic, text, -, d0, d3, d4, d6, d9, q1, q2, q3, q4, q5, q6, q7⟩ := hr
  obtain ⟨sa, hsa⟩ := cx.2.2.2.2.2.2.2.1.2.2.1 _ q3
  have hcat := ax_sumw (G := G) (st2 := st)
  have hS := hs.2.2.2.1
  refine ax_throwS (A := ax_Fr G) cx.1 cx.2.1 hl cx.2.2.2.1 q7 (names := ax_sup) (by decide +kernel) (cx.2.2.2.2.1 _ q1) (cx.2.2.2.2.1 _ q2) hsa
    (vx_hat (B := ax_xw ++ ax_xc) (fun w hw => cx.2.2.2.2.1 _ (q4 w hw)) q5 (fun w hw => va_Nw.use (by
      simp only [ax_xw, ax_xc, List.cons_append, List.nil_append, List.mem_cons, List.not_mem_nil, or_false] at hw
      rcases hw with rfl | rfl | rfl | rfl | rfl | rfl <;> rfl) (hX.2.2.1 w hw))) q6 hX.1 hX.2.1 hS (hs.1.1.trans cx.2.2.1.symm) d0 d3 d4 d6 d9 (fun x hx => (htab x hx).elim) (by show 2 + 3 < R.frames; omega) (by show _ + (13 * (2 + 1) + 43) ≤ _; omega)
    (by have := hs.2.2.2.2.1; omega) (by have := hs.2.2.2.2.2; omega) cx.2.2.2.2.2.2.2.2.2.1 (fun t _ hz hq => ⟨rfl, hs.2.2.1.push cx.2.2.2.2.2.1 hz hq (Or.inr (Or.inr ax_new_tg)), ?_, ?_⟩) hS.2.2 (by have := hs.2.2.2.2.1; omega) (by have := hs.2.2.2.2.2; omega)
  · have := hS.1; omega
  · intro q g1 g2
    rw [hq q (by have := hS.1; omega)]
    exact hS.2.1 q g1 g2
end AX21
theorem ax_metX {l : Launch} (hl : l.stackTraces = false) {G : ax_G} (hG : ax_Gall G) {mt : Nat → Option ax_T} {d : Nat} {C : ax_C} (hC : ax_Snd l G (fun j => (mt j).map (fun T => T.1)) (d + 5) C) {T : ax_T} {cod : List ax_R} (hok : ax_mok mt T cod = true) (hth : ∀ r ∈ cod, r.2.2.2.2.1 = 9 → ax_thP T.1.1.cls T.1.2.1 r) {c0 s0 k a : Nat} {avs : List ax_V} {M M2 : ax_M}
    (hav : ∀ v ∈ avs, ax_c1 v = true) (hlen : avs.length ≤ T.1.2.2.1) (h : ax_wp C cod (fun o' M' => o' = .inr a ∧ M' = M2) T.1.2.2.2 k cod (ax_lvA 0 avs) [] M c0 s0) : ax_MetX l G (d + 6) T.1 c0 s0 avs M a M2 := by
  simp only [ax_mok, Bool.and_eq_true, beq_iff_eq] at hok
  obtain ⟨hpl, hcod, hz⟩ := hok
  refine vx_ofW (cc := T.1.2.1) (maxL := T.1.2.2.1) (ret := T.1.2.2.2) hpl rfl ?_
  intro p e s m args below meth c s₁ B hml htab hv
  obtain ⟨⟨rfl, hR, hK, hKc, hgz⟩, hKx⟩ := hv
  have hts := atoms_spec (ws := ax_mws T.1) B.pre
  have hown : s.vm.findClass T.1.1.cls = some m.cls := findClass_of_methodNamed B.named
  have hnm : meth.name = T.1.1.name := (name_of_methodNamed B.named B.method).1
  have cx : ax_Cx G p (headSpec (ax_mws T.1) (ax_rm (d + 6) c0 s0)).room s m (avs.map (ax_tr G)).toArray meth c T.1.1.cls T.1.2.1 T.1.2.2.1 :=
    ⟨B.exec, B.bytes, hml, hown, fun w hw => hts w (List.mem_cons_of_mem _ hw), hG.1, hK, hKc, hgz, B.notSynchronized, hG.2.1, hG.2.2⟩
  have hl2 := lv_entry (avs.map (ax_tr G)) (n := T.1.2.2.1) (by rw [ax_slLen avs hav]; exact hlen)
  rw [lg_entry_eq]
  generalize (lg_sl (avs.map (ax_tr G)) ++ List.replicate (T.1.2.2.1 - (lg_sl (avs.map (ax_tr G))).length) Slot.unset).toArray = ls at hl2 ⊢
  rw [ax_lvA_eq avs 0 hav] at hl2
  have hE : ax_HE G p l e (headSpec (ax_mws T.1) (ax_rm (d + 6) c0 s0)).room s m (avs.map (ax_tr G)).toArray below meth c T.1.2.1 T.1.2.2.1 (fun o' M' => o' = .inr a ∧ M' = M2) T.1.2.2.2 (vx_MQ below (fun _ _ _ _ => False) (ax_XC G a M2) (avs.map (ax_tr G)).toArray s c0 s0 (ax_Fr G)) := by
    intro C nx jm pc a b c1 lv st M rc rs H locs cells slots ls ins hi hd ha hr h hs
    rcases hi with rfl | rfl | rfl
    · obtain ⟨_, _, _, _, _, q⟩ := ax_1i_inv h
      exact absurd q.1 (fun z => by cases z)
    · obtain ⟨_, _, _, _, q⟩ := ax_1r_inv h
      exact absurd q.1 (fun z => by cases z)
    · exact absurd h.2.1 (fun z => by cases z)
  have hT : ax_HT G p l e (headSpec (ax_mws T.1) (ax_rm (d + 6) c0 s0)).room s m (avs.map (ax_tr G)).toArray below meth c T.1.2.2.1 (fun o' M' => o' = .inr a ∧ M' = M2) (vx_MQ below (fun _ _ _ _ => False) (ax_XC G a M2) (avs.map (ax_tr G)).toArray s c0 s0 (ax_Fr G)) cod := by
    intro r idx lv st M rc rs H locs cells slots ls hm _ h9 k1 k2 hw hq hs
    obtain ⟨e1, e2⟩ := hq
    have e1 : r.2.2.1 = a := by cases e1; rfl
    have := sx_throw (dd := d) (Qc := fun _ _ _ _ => False) (below := below) (e := e) cx hKx hl (hth r hm h9) htab (Nat.le_refl _) (Nat.le_refl _) hw k1 k2 rfl rfl hs
    rw [e1, e2] at this
    exact this
  cases cod with
  | nil => cases hz
  | cons r rest =>
    have hz : r.1 = 0 := by simpa using hz
    have hgo := ax_sound cx hC (Nat.le_refl _) (Nat.le_refl _) (fun z => by rw [hnm]; simpa using z) hE hT hcod k r rest hcod (fun x hx => hx)
    rw [hz] at hgo
    exact hgo (ax_lvA 0 avs) [] M c0 s0 s.heap [] 0 0 ls h ⟨hl2, ax_lvA_c1 avs 0 hav, hR, va_S.rf, by show 0 + c0 ≤ c0; omega, by show 0 + s0 ≤ s0; omega⟩
set_option maxRecDepth 20000 in
theorem xg_0_26 : ∀ w ∈ (vx_atS "PageServer" 26 (ax_en 0) ax_sup).filter goodWord, w ∈ ax_ws := fun w hw => List.mem_filter.mpr ⟨List.mem_append_left _ ((show ∀ w ∈ (vx_atS "PageServer" 26 (ax_en 0) ax_sup).filter goodWord, w ∈ lw_tbl by decide +kernel) w hw), (List.mem_filter.mp hw).2⟩
set_option maxRecDepth 20000 in
theorem xg_1_53 : ∀ w ∈ (vx_atS "PageServer" 53 (ax_en 1) ax_sup).filter goodWord, w ∈ ax_ws := fun w hw => List.mem_filter.mpr ⟨List.mem_append_left _ ((show ∀ w ∈ (vx_atS "PageServer" 53 (ax_en 1) ax_sup).filter goodWord, w ∈ lw_tbl by decide +kernel) w hw), (List.mem_filter.mp hw).2⟩
set_option maxRecDepth 20000 in
theorem th_X11_page : ∀ r ∈ pr_X11_page, r.2.2.2.2.1 = 9 → ax_thP pt_X11_page.1.1.cls pt_X11_page.1.2.1 r := by
  intro r hr h9
  have hm : r ∈ pr_X11_page.filter (fun r => r.2.2.2.2.1 == 9) := List.mem_filter.mpr ⟨hr, by simpa using h9⟩
  have e : pr_X11_page.filter (fun r => r.2.2.2.2.1 == 9) = [(8, .new 22, 0, 0, 9, 934), (41, .new 22, 0, 0, 9, 934), (73, .new 22, 0, 0, 9, 934), (96, .new 49, 1, 0, 9, 1203)] := rfl
  rw [e] at hm
  simp only [List.mem_cons, List.not_mem_nil, or_false] at hm
  rcases hm with rfl | rfl | rfl | rfl
  · exact ⟨22, 24, 26, "no path", rfl, by decide +kernel, by decide +kernel, by decide +kernel, by decide +kernel, by decide +kernel, ax_in1_mem (d := 934) (by decide +kernel), ax_in1_mem (d := 98) (by decide +kernel), by decide +kernel, xg_0_26, by decide +kernel, by decide +kernel, by decide +kernel⟩
  · exact ⟨22, 29, 26, "no body", rfl, by decide +kernel, by decide +kernel, by decide +kernel, by decide +kernel, by decide +kernel, ax_in1_mem (d := 934) (by decide +kernel), ax_in1_mem (d := 98) (by decide +kernel), by decide +kernel, xg_0_26, by decide +kernel, by decide +kernel, by decide +kernel⟩
  · exact ⟨22, 43, 26, "there is such a path", rfl, by decide +kernel, by decide +kernel, by decide +kernel, by decide +kernel, by decide +kernel, ax_in1_mem (d := 934) (by decide +kernel), ax_in1_mem (d := 98) (by decide +kernel), by decide +kernel, xg_0_26, by decide +kernel, by decide +kernel, by decide +kernel⟩
  · exact ⟨49, 51, 53, "the site is full", rfl, by decide +kernel, by decide +kernel, by decide +kernel, by decide +kernel, by decide +kernel, ax_in1_mem (d := 1203) (by decide +kernel), ax_in1_mem (d := 109) (by decide +kernel), by decide +kernel, xg_1_53, by decide +kernel, by decide +kernel, by decide +kernel⟩

