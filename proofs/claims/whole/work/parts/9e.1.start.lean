/-! THE CLAIM OUT OF ONE WALK OF THE LAW'S BODY (the frame of it: the kit's skeleton; a launch without stack traces is handed down) -/
def R_law : String := "PageServerLaw"
def lw_P (b : Addr) (xs : List Int32) (args : Array Value) (s : State) : Prop := args = #[.ref b] ∧ s.IntsAt b xs ∧ xs.length ≤ 2560 ∧ (Jvm.Cond.and given_1 narrow_1).before args s = true
def lw_Q (_ : Array Value) (s : State) (o : Outcome) (t : State) : Prop := o = .returned (some (.int 1)) ∧ Framed s o t [] 657988 7122139
def lw_Z (below : List Frame) (a : Array Value) (s : State) : State → Prop := fun t => ∃ o, t.status = .running ∧ Ended t below o ∧ lw_Q a s o t
/-- the law's own end, with 1 on the stack, nothing written that was there before, its room as the claim has it -/
theorem lw_ret {p : Program} {l : Launch} {e : Env} {s : State} {m : MethodId} {below : List Frame} {meth : Method} {c : Code} {b : Nat} (hx : p.tables.exec = Jvm.exec) (hb : c.code = code) (hr : meth.sig.returnType = ret) (hlocks : meth.locks = false) {pc : Nat} {H : Heap} {ls : Array Slot} (hdg : decode code pc = .ok (.ireturn, 1)) : W p l e room_1 s m #[Value.ref b] below meth c H [] 657988 7122139 (lw_Z below #[Value.ref b] s) (F0 m pc ls [.int 1]) := by
  intro T hT X
  obtain ⟨fs, hret, hrun, hended, hW, hframe⟩ := X.leave (v := some (.int 1)) (hlocks := hlocks) (fun h => by rw [hr] at h; cases h)
  have hmeth' : T.vm.method? m = some meth := X.method'
  refine ⟨T.setFrames fs, ?_, .returned (some (.int 1)), hrun, hended, rfl, ⟨_, rfl⟩, hW, hframe⟩
  jvm_step X.here [X.here.top, hx, hb, hdg, hmeth', hr, ret, narrow_b1]
  (try refine ⟨rfl, ?_⟩); (try refine ⟨rfl, ?_⟩)
  first | (intro acts; rw [hret _ acts rfl rfl rfl]) | rw [hret _ _ rfl rfl rfl]
  exact Steps.refl _
/-- what holds at the law's entry: the machine, the code, the tables' words (any of lw_tbl by 'hts w (by decide +kernel)'), the script of L ints xs at the cell b, what the Statement gives of the start (any of its parts by flat_of_before) -/
def lw_At (p : Program) (s : State) (m : MethodId) (meth : Method) (c : Code) (b L : Nat) (xs : Nat → Int32) : Prop :=
  p.tables.exec = Jvm.exec ∧ c.code = code ∧ meth.sig.returnType = ret ∧ c.maxLocals = 7 ∧ s.vm.findClass R_law = some m.cls ∧ (∀ w ∈ lw_tbl, w.before #[Value.ref b] s = true) ∧ va_X b L xs s s.heap ∧ b < s.heap.size ∧ meth.locks = false ∧ (Jvm.Cond.and given_1 narrow_1).before #[Value.ref b] s = true
section AX128
/-- what the law ends with -/
def law_Q (o : ax_O) (_ : ax_M) : Prop := o = .inl (some (.inl 1))
theorem law_snd {l : Launch} {G : ax_G} (hG : ax_Gall G) : ax_Snd l G (fun j => (ax_mt j).map (fun T => T.1)) 20 (lawC l G 20) := by
  intro j c1 s1 avs M o M2 h D hD
  unfold lawC at h
  by_cases hj : j < 300
  · rw [if_pos hj] at h
    exact ax_PS2 hG 20 j c1 s1 avs M o M2 h D hD
  · have e : ax_mt j = none := by
      unfold ax_mt
      exact List.getElem?_eq_none (Nat.le_trans (m := 300) (by decide +kernel) (Nat.le_of_not_lt hj))
    have hD : (ax_mt j).map (fun T => T.1) = some D := hD
    rw [e] at hD
    cases hD
theorem law_hlp {l : Launch} {G : ax_G} (j c1 s1 : Nat) (avs : List ax_V) (M : ax_M) (o : Option ax_V) (M2 : ax_M) (h : lawC l G 20 j c1 s1 avs M (.inl o) M2) (T : ax_T) (hh : List (Nat × Nat × Nat × Nat)) (hT : hT_L j = some (T, hh)) : ax_MetH l G 20 T.1 hh c1 s1 avs M o M2 := by
  unfold lawC at h
  by_cases hj : j < 300
  · unfold hT_L at hT
    rw [if_pos hj] at hT
    cases hT
  · rw [if_neg hj] at h
    obtain ⟨T', hh', r, h1, h2, h3⟩ := h
    rw [hT] at h1
    cases h1
    cases h2
    exact h3
theorem whole_start {p : Program} {e : Env} {s : State} {m : MethodId} {below : List Frame} {meth : Method} {c : Code} (l : Launch) (hl : l.stackTraces = false) {b L : Nat} {xs : Nat → Int32} (hL : L ≤ 2560) (C0 : lw_At p s m meth c b L xs) : W p l e room_1 s m #[Value.ref b] below meth c s.heap [] 0 0 (lw_Z below #[Value.ref b] s) (entryFrame m ([Value.ref b] : List Value).toArray 7) := by
  obtain ⟨hx, hb, hr, hml, hown, hts, hX, hbl, hlk, hgv⟩ := C0
  obtain ⟨G, sp, hsp, ⟨hG, hK, hKc, hKx, hgz, hR, hn, hS⟩, ha, h0, hl0⟩ := world hts hgv hX hL
  have cx : ax_Cx G p room_1 s m #[Value.ref b] meth c "PageServerLaw" code 7 := ⟨hx, hb, hml, hown, wx_ws hts, hG.1, hK, hKc, Nat.le_of_eq hgz, hlk, hG.2.1, hG.2.2⟩
  have hE : ax_HE G p l e room_1 s m #[Value.ref b] below meth c code 7 law_Q (some .boolean) (lw_Z below #[Value.ref b] s) := by
    intro C nx jm pc a b' c1 lv st M rc rs H locs cells slots ls ins hi hd har hrr h hs
    rcases hi with rfl | rfl | rfl
    · obtain ⟨x, st, rfl, rfl, -, k3⟩ := ax_1i_inv h
      have k3 : (Sum.inl (some (Sum.inl x)) : ax_O) = .inl (some (.inl 1)) := k3
      injection k3 with k3
      injection k3 with k3
      injection k3 with k3
      subst k3
      have h5 : cells + rc ≤ 657988 := hs.2.2.2.2.1
      have h6 : slots + rs ≤ 7122139 := hs.2.2.2.2.2
      refine W.widen (k := 657988) (n := 7122139) (by omega) (by omega) ?_
      refine W.forget (locs := []) (L := locs) (fun q hq => ?_) (lw_ret hx hb hr hlk hd)
      rw [← hgz]
      exact hs.2.2.2.1.2.2 q hq
    · obtain ⟨x, st, rfl, rfl, k3⟩ := ax_1r_inv h
      have k3 : (Sum.inl (some (Sum.inr (Sum.inl x))) : ax_O) = .inl (some (.inl 1)) := k3
      injection k3 with k3
      injection k3 with k3
      cases k3
    · have k3 : (Sum.inl none : ax_O) = .inl (some (.inl 1)) := h.2
      injection k3 with k3
      cases k3
  have hT : ax_HT G p l e room_1 s m #[Value.ref b] below meth c 7 law_Q (lw_Z below #[Value.ref b] s) pr_L_law := by
    intro r idx lv st M rc rs H locs cells slots ls _ _ _ _ _ _ hq
    have k3 : (Sum.inr r.2.2.1 : ax_O) = .inl (some (.inl 1)) := hq
    cases k3
  obtain ⟨k, hk⟩ := law_all (Q := law_Q) hl hG hsp hL (fun _ => rfl) hn hS h0 hl0
  have hent := lv_entry ([Value.ref b]) (n := 7) (Nat.le_of_ble_eq_true rfl)
  rw [lg_entry_eq]
  generalize (lg_sl ([Value.ref b]) ++ List.replicate (7 - (lg_sl ([Value.ref b])).length) Slot.unset).toArray = ls at hent ⊢
  have hent : lv_has ls 7 [(0, .ref b)] := hent
  have hp : ∃ r rest, pr_L_law = r :: rest ∧ r.1 = 0 := ⟨_, _, rfl, rfl⟩
  obtain ⟨r, rest, hp, hr0⟩ := hp
  have ok : ax_codL ax_mt hT_L "PageServerLaw" false false (some .boolean) 7 code (r :: rest) = true := by rw [← hp]; exact ok_L_law
  have hgo := ax_soundL (cod := pr_L_law) (Q := law_Q) (C := lawC l G 20) (ht := hT_L) (mt := ax_mt) (d := 20) cx hKx (law_snd hG) law_hlp (by decide) (by decide) (fun z => by cases z) hE hT ok_L_law k r rest ok (fun x hx => by rw [hp]; exact hx)
  rw [hr0, ← hp] at hgo
  refine hgo [(0, .inr (.inl (some sp)))] [] (ax_gM G) 657988 7122139 s.heap [] 0 0 ls hk ⟨?_, ?_, hR, va_S.rf, by decide, by decide⟩
  · show lv_has ls 7 [(0, .ref (ax_ad G sp))]
    rw [ha]
    exact hent
  · intro q hq
    rw [List.mem_singleton] at hq
    rw [hq]
    rfl
end AX128
