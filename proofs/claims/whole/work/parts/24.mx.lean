section AX24
variable {p : Program} {l : Launch} {e : Env} {R : Room} {s : State} {m : MethodId} {args : Array Value} {below : List Frame} {meth : Method} {c : Code} {Qf : State → Prop} {G : ax_G} {own : String} {cc : ByteArray} {nL : Nat}
variable {C : ax_C} {Q : ax_O → ax_M → Prop} {rt : Option FieldType} {nx : ax_K} {jm : Nat → ax_K} {pc a b c0 : Nat} {lv : ax_L} {st : List ax_V} {M : ax_M} {rc rs : Nat} {H : Heap} {locs : List Loc} {cells slots : Nat} {ls : Array Slot}
theorem sx_throwQ {mc ms dd : Nat} {r : ax_R} {Qc : Array Value → State → Outcome → State → Prop} (cx : ax_Cx G p R s m args meth c own cc nL) (hX : ax_Kx G s s.heap) (hl : l.stackTraces = false) (hr : ax_thP own cc r ∨ own = "PageServer" ∧ ax_thN own cc r) (htab : ∀ x ∈ c.exceptionTable.toList, False) (hRf : dd + 6 ≤ R.frames) (hRl : 40 * (dd + 6) ≤ R.locals)
    (hw : (st.map ax_w).sum ≤ 8) (k1 : 1 ≤ rc) (k2 : 6 ≤ rs) (hc1 : R.cells = mc) (hs1 : R.slots = ms) (hs : ax_SR G s R nL lv M rc rs H locs cells slots ls) : W p l e R s m args below meth c H locs cells slots (vx_MQ below Qc (ax_XC G r.2.2.1 (ax_new M 400 0)) args s mc ms (ax_Fr G)) (F0 m r.1 ls (st.map (ax_tr G))) := by
  rcases hr with hr | ⟨rfl, hr⟩
  · exact sx_throw cx hX hl hr htab hRf hRl hw k1 k2 hc1 hs1 hs
  · exact sx_throwN cx hX hl hr htab hRf hRl hw k1 k2 hc1 hs1 hs
end AX24
theorem ax_metY {l : Launch} (hl : l.stackTraces = false) {G : ax_G} (hG : ax_Gall G) {mt : Nat → Option ax_T} {d : Nat} {C : ax_C} (hC : ax_Snd l G (fun j => (mt j).map (fun T => T.1)) (d + 5) C) {T : ax_T} {cod : List ax_R} (hok : ax_mok mt T cod = true) (hth : ∀ r ∈ cod, r.2.2.2.2.1 = 9 → ax_thP T.1.1.cls T.1.2.1 r ∨ T.1.1.cls = "PageServer" ∧ ax_thN T.1.1.cls T.1.2.1 r) {c0 s0 k a : Nat} {avs : List ax_V} {M M2 : ax_M}
    (hav : ∀ v ∈ avs, ax_c1 v = true) (hlen : avs.length ≤ T.1.2.2.1) (h : ax_wp C cod (fun o' M' => o' = .inr a ∧ M' = M2) T.1.2.2.2 k cod (ax_lvA 0 avs) [] M c0 s0) : ax_MetX l G (d + 6) T.1 c0 s0 avs M a M2 := by
  simp only [ax_mok, Bool.and_eq_true, beq_iff_eq] at hok
  obtain ⟨hpl, hcod, hz⟩ := hok
  refine vx_ofW (cc := T.1.2.1) (maxL := T.1.2.2.1) (ret := T.1.2.2.2) hpl rfl ?_
  intro p e s m args below meth c s₁ B hml htab hv
  obtain ⟨⟨rfl, hR, hK, hKc, hgz⟩, hKx⟩ := hv
  have hts := atoms_spec (ws := ax_mws T.1) B.pre
  have hown : s.vm.findClass T.1.1.cls = some m.cls := findClass_of_methodNamed B.named
  have hnm : meth.name = T.1.1.name := (name_of_methodNamed B.named B.method).1
  have cx : ax_Cx G p (headSpec (ax_mws T.1) (ax_rm (d + 6) c0 s0)).room s m (avs.map (ax_tr G)).toArray meth c T.1.1.cls T.1.2.1 T.1.2.2.1 :=
    ⟨B.exec, B.bytes, hml, hown, fun w hw => hts w (List.mem_cons_of_mem _ hw), hG.1, hK, hKc, hgz, B.notSynchronized, hG.2.1, hG.2.2⟩
  have hl2 := lv_entry (avs.map (ax_tr G)) (n := T.1.2.2.1) (by rw [ax_slLen avs hav]; exact hlen)
  rw [lg_entry_eq]
  generalize (lg_sl (avs.map (ax_tr G)) ++ List.replicate (T.1.2.2.1 - (lg_sl (avs.map (ax_tr G))).length) Slot.unset).toArray = ls at hl2 ⊢
  rw [ax_lvA_eq avs 0 hav] at hl2
  have hE : ax_HE G p l e (headSpec (ax_mws T.1) (ax_rm (d + 6) c0 s0)).room s m (avs.map (ax_tr G)).toArray below meth c T.1.2.1 T.1.2.2.1 (fun o' M' => o' = .inr a ∧ M' = M2) T.1.2.2.2 (vx_MQ below (fun _ _ _ _ => False) (ax_XC G a M2) (avs.map (ax_tr G)).toArray s c0 s0 (ax_Fr G)) := by
    intro C nx jm pc a b c1 lv st M rc rs H locs cells slots ls ins hi hd ha hr h hs
    rcases hi with rfl | rfl | rfl
    · obtain ⟨_, _, _, _, _, q⟩ := ax_1i_inv h
      exact absurd q.1 (fun z => by cases z)
    · obtain ⟨_, _, _, _, q⟩ := ax_1r_inv h
      exact absurd q.1 (fun z => by cases z)
    · exact absurd h.2.1 (fun z => by cases z)
  have hT : ax_HT G p l e (headSpec (ax_mws T.1) (ax_rm (d + 6) c0 s0)).room s m (avs.map (ax_tr G)).toArray below meth c T.1.2.2.1 (fun o' M' => o' = .inr a ∧ M' = M2) (vx_MQ below (fun _ _ _ _ => False) (ax_XC G a M2) (avs.map (ax_tr G)).toArray s c0 s0 (ax_Fr G)) cod := by
    intro r idx lv st M rc rs H locs cells slots ls hm _ h9 k1 k2 hw hq hs
    obtain ⟨e1, e2⟩ := hq
    have e1 : r.2.2.1 = a := by cases e1; rfl
    have := sx_throwQ (dd := d) (Qc := fun _ _ _ _ => False) (below := below) (e := e) cx hKx hl (hth r hm h9) htab (Nat.le_refl _) (Nat.le_refl _) hw k1 k2 rfl rfl hs
    rw [e1, e2] at this
    exact this
  cases cod with
  | nil => cases hz
  | cons r rest =>
    have hz : r.1 = 0 := by simpa using hz
    have hgo := ax_sound cx hC (Nat.le_refl _) (Nat.le_refl _) (fun z => by rw [hnm]; simpa using z) hE hT hcod k r rest hcod (fun x hx => hx)
    rw [hz] at hgo
    exact hgo (ax_lvA 0 avs) [] M c0 s0 s.heap [] 0 0 ls h ⟨hl2, ax_lvA_c1 avs 0 hav, hR, va_S.rf, by show 0 + c0 ≤ c0; omega, by show 0 + s0 ≤ s0; omega⟩
theorem mx_X11_page {l : Launch} (hl : l.stackTraces = false) {G : ax_G} (hG : ax_Gall G) {d c s a : Nat} {avs : List ax_V} {M M2 : ax_M} (h : ax_calls ax_P (d + 6) 100 c s avs M (.inr a) M2) : ax_MetX l G (d + 6) pt_X11_page.1 c s avs M a M2 := by
  obtain ⟨T, cod, k, hj, hav, hlen, hw⟩ := h
  have e : (T, cod) = (pt_X11_page, pr_X11_page) := Option.some.inj (hj.symm.trans rfl)
  cases e
  exact ax_metY hl hG (ax_PS hG (d + 5)) (ax_P_ok 100 _ _ rfl) (fun r hr h9 => Or.inl (th_X11_page r hr h9)) hav hlen (k := k) hw
theorem mx_X11_out {l : Launch} (hl : l.stackTraces = false) {G : ax_G} (hG : ax_Gall G) {d c s a : Nat} {avs : List ax_V} {M M2 : ax_M} (h : ax_calls ax_P (d + 6) 104 c s avs M (.inr a) M2) : ax_MetX l G (d + 6) pt_X11_out.1 c s avs M a M2 := by
  obtain ⟨T, cod, k, hj, hav, hlen, hw⟩ := h
  have e : (T, cod) = (pt_X11_out, pr_X11_out) := Option.some.inj (hj.symm.trans rfl)
  cases e
  exact ax_metY hl hG (ax_PS hG (d + 5)) (ax_P_ok 104 _ _ rfl) (fun r hr h9 => Or.inr ⟨rfl, th_X11_out r hr h9⟩) hav hlen (k := k) hw
theorem mx_X11_stream {l : Launch} (hl : l.stackTraces = false) {G : ax_G} (hG : ax_Gall G) {d c s a : Nat} {avs : List ax_V} {M M2 : ax_M} (h : ax_calls ax_P (d + 6) 108 c s avs M (.inr a) M2) : ax_MetX l G (d + 6) pt_X11_stream.1 c s avs M a M2 := by
  obtain ⟨T, cod, k, hj, hav, hlen, hw⟩ := h
  have e : (T, cod) = (pt_X11_stream, pr_X11_stream) := Option.some.inj (hj.symm.trans rfl)
  cases e
  exact ax_metY hl hG (ax_PS hG (d + 5)) (ax_P_ok 108 _ _ rfl) (fun r hr h9 => Or.inr ⟨rfl, th_X11_stream r hr h9⟩) hav hlen (k := k) hw
theorem mx_X11_entry {l : Launch} (hl : l.stackTraces = false) {G : ax_G} (hG : ax_Gall G) {d c s a : Nat} {avs : List ax_V} {M M2 : ax_M} (h : ax_calls ax_P (d + 6) 109 c s avs M (.inr a) M2) : ax_MetX l G (d + 6) pt_X11_entry.1 c s avs M a M2 := by
  obtain ⟨T, cod, k, hj, hav, hlen, hw⟩ := h
  have e : (T, cod) = (pt_X11_entry, pr_X11_entry) := Option.some.inj (hj.symm.trans rfl)
  cases e
  exact ax_metY hl hG (ax_PS hG (d + 5)) (ax_P_ok 109 _ _ rfl) (fun r hr h9 => Or.inr ⟨rfl, th_X11_entry r hr h9⟩) hav hlen (k := k) hw
