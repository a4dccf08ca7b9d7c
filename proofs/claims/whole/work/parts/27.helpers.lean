def ax_mwh (D : ax_D) (hh : List (Nat × Nat × Nat × Nat)) : List Cond := Cond.codeWith D.1 D.2.1 D.2.2.1 D.2.2.2 hh :: ax_ws
theorem ax_metH {l : Launch} {G : ax_G} (hG : ax_Gall G) {mt : Nat → Option ax_T} {d : Nat} {C : ax_C} (hC : ax_Snd l G (fun j => (mt j).map (fun T => T.1)) d C) {T : ax_T} {cod : List ax_R} (hok : ax_mok mt T cod = true) {c0 s0 k : Nat} {hh : List (Nat × Nat × Nat × Nat)} {avs : List ax_V} {M M2 : ax_M} {o : Option ax_V}
    (hav : ∀ v ∈ avs, ax_c1 v = true) (hlen : avs.length ≤ T.1.2.2.1) (h : ax_wp C cod (fun o' M' => o' = .inl o ∧ M' = M2) T.1.2.2.2 k cod (ax_lvA 0 avs) [] M c0 s0) : Met l T.1.1 (ax_mwh T.1 hh) (ax_rm (d + 1) c0 s0) (ax_PreX G avs M) (ax_Post G o M2) c0 s0 (ax_Fr G) := by
  simp only [ax_mok, Bool.and_eq_true, beq_iff_eq] at hok
  obtain ⟨hpl, hcod, hz⟩ := hok
  refine ax_ofWH (hh := hh) (cc := T.1.2.1) (maxL := T.1.2.2.1) (ret := T.1.2.2.2) hpl rfl ?_
  intro p e s m args below meth c s₁ B hml hv
  obtain ⟨⟨rfl, hR, hK, hKc, hgz⟩, -⟩ := hv
  have hts := atoms_spec (ws := ax_mwh T.1 hh) B.pre
  have hown : s.vm.findClass T.1.1.cls = some m.cls := findClass_of_methodNamed B.named
  have hnm : meth.name = T.1.1.name := (name_of_methodNamed B.named B.method).1
  have cx : ax_Cx G p (headSpec (ax_mwh T.1 hh) (ax_rm (d + 1) c0 s0)).room s m (avs.map (ax_tr G)).toArray meth c T.1.1.cls T.1.2.1 T.1.2.2.1 :=
    ⟨B.exec, B.bytes, hml, hown, fun w hw => hts w (List.mem_cons_of_mem _ hw), hG.1, hK, hKc, hgz, B.notSynchronized, hG.2.1, hG.2.2⟩
  have hl := lv_entry (avs.map (ax_tr G)) (n := T.1.2.2.1) (by rw [ax_slLen avs hav]; exact hlen)
  rw [lg_entry_eq]
  generalize (lg_sl (avs.map (ax_tr G)) ++ List.replicate (T.1.2.2.1 - (lg_sl (avs.map (ax_tr G))).length) Slot.unset).toArray = ls at hl ⊢
  rw [ax_lvA_eq avs 0 hav] at hl
  have hE : ax_HE G p l e (headSpec (ax_mwh T.1 hh) (ax_rm (d + 1) c0 s0)).room s m (avs.map (ax_tr G)).toArray below meth c T.1.2.1 T.1.2.2.1 (fun o' M' => o' = .inl o ∧ M' = M2) T.1.2.2.2 (MQ below (ax_Post G o M2) (avs.map (ax_tr G)).toArray s c0 s0 (ax_Fr G)) := by
    intro C nx jm pc a b c1 lv st M rc rs H locs cells slots ls ins hi hd ha hr h hs
    rcases hi with rfl | rfl | rfl
    · exact sx_ireturn cx hd B.returns (fun _ _ q => q) rfl rfl h hs
    · exact sx_areturn cx hd B.returns (ha rfl) (fun _ _ q => q) rfl rfl h hs
    · exact sx_return cx hd B.returns (hr rfl) (fun _ _ q => q) rfl rfl h hs
  have hT : ax_HT G p l e (headSpec (ax_mwh T.1 hh) (ax_rm (d + 1) c0 s0)).room s m (avs.map (ax_tr G)).toArray below meth c T.1.2.2.1 (fun o' M' => o' = .inl o ∧ M' = M2) (MQ below (ax_Post G o M2) (avs.map (ax_tr G)).toArray s c0 s0 (ax_Fr G)) cod := by
    intro r idx lv st M rc rs H locs cells slots ls _ _ _ _ _ _ hq
    exact absurd hq.1 (fun z => by cases z)
  cases cod with
  | nil => cases hz
  | cons r rest =>
    have hz : r.1 = 0 := by simpa using hz
    have hgo := ax_sound cx hC (Nat.le_refl _) (Nat.le_refl _) (fun z => by rw [hnm]; simpa using z) hE hT hcod k r rest hcod (fun x hx => hx)
    rw [hz] at hgo
    exact hgo (ax_lvA 0 avs) [] M c0 s0 s.heap [] 0 0 ls h ⟨hl, ax_lvA_c1 avs 0 hav, hR, va_S.rf, by show 0 + c0 ≤ c0; omega, by show 0 + s0 ≤ s0; omega⟩
def pr_L_page : List ax_R := [(0, .aload 5, 0, 0, 0, 0), (2, .iconst 0, 0, 0, 0, 0), (3, .aload_n 0, 0, 0, 0, 0), (4, .iload_n 1, 0, 0, 0, 0), (5, .iload_n 2, 0, 0, 0, 0), (6, .iload_n 3, 0, 0, 0, 0), (7, .iload 4, 0, 0, 0, 0), (9, .invokevirtual 7, 100, 5, 13, 924), (12, .i2l, 0, 0, 0, 0), (13, .lastore, 0, 0, 0, 0), (14, .goto 11, 25, 0, 0, 0), (17, .astore 6, 0, 0, 0, 0), (19, .iconst 1, 0, 0, 0, 0), (20, .ireturn, 0, 0, 0, 0), (21, .astore 6, 0, 0, 0, 0), (23, .iconst 2, 0, 0, 0, 0), (24, .ireturn, 0, 0, 0, 0), (25, .iconst 0, 0, 0, 0, 0), (26, .ireturn, 0, 0, 0, 0)]
def hh_page : List (Nat × Nat × Nat × Nat) := [(0, 14, 17, 13), (0, 14, 21, 15)]
def pt_L_page : ax_T := ((⟨"PageServerLaw", "page", "(LPageServer;IIII[J)I"⟩, method_3_code, 7, some .int), 921, 81, 920, 0)
set_option maxRecDepth 100000 in
theorem ok_L_page : ax_mok ax_mt pt_L_page pr_L_page = true := by decide +kernel
set_option maxRecDepth 20000 in
set_option maxHeartbeats 1000000 in
theorem hx_page_0 {l : Launch} (hl : l.stackTraces = false) {G : ax_G} (hG : ax_Gall G) {d c0 s0 : Nat} {M M2 : ax_M} (k1 k2 k3 k4 : Int32) (hrc : ax_rc M 13 (some (.inr (.inl (some 26))))) (h : ax_calls ax_P (d + 6) 100 c0 s0 [.inr (.inl (some 26)), .inl k1, .inl k2, .inl k3, .inl k4] M (.inr 0) M2) :
    Met l pt_L_page.1.1 (ax_mwh pt_L_page.1 hh_page) (ax_rm (d + 7) c0 s0) (ax_PreX G [.inr (.inl (some 26)), .inl k1, .inl k2, .inl k3, .inl k4, .inr (.inl (some 77))] M) (ax_Post G (some (.inl 1)) M2) c0 s0 (ax_Fr G) := by
  have hM := mx_X11_page hl hG h
  refine ax_ofWH (hh := hh_page) (cc := method_3_code) (maxL := 7) (ret := some .int) (by decide) rfl ?_
  intro p e s m args below meth c s₁ B hml hv
  obtain ⟨⟨rfl, hR, hK, hKc, hgz⟩, hKx⟩ := hv
  have hts := atoms_spec (ws := ax_mwh pt_L_page.1 hh_page) B.pre
  have hown : s.vm.findClass "PageServerLaw" = some m.cls := findClass_of_methodNamed B.named
  have hmw : ∀ w ∈ ax_ws, w.before _ s = true := fun w hw => hts w (List.mem_cons_of_mem _ hw)
  have cx : ax_Cx G p (headSpec (ax_mwh pt_L_page.1 hh_page) (ax_rm (d + 7) c0 s0)).room s m _ meth c "PageServerLaw" method_3_code 7 :=
    ⟨B.exec, B.bytes, hml, hown, hmw, hG.1, hK, hKc, hgz, B.notSynchronized, hG.2.1, hG.2.2⟩
  have htab := vx_table (x := pt_L_page.1.1) B (hts _ List.mem_cons_self)
  have hl2 := lv_entry [.ref (ax_ad G 26), .int k1, .int k2, .int k3, .int k4, .ref (ax_ad G 77)] (n := 7) (Nat.le_of_ble_eq_true rfl)
  have hent := lg_entry_eq m [.ref (ax_ad G 26), .int k1, .int k2, .int k3, .int k4, .ref (ax_ad G 77)] 7
  refine W.eq hent ?_
  generalize (lg_sl [.ref (ax_ad G 26), .int k1, .int k2, .int k3, .int k4, .ref (ax_ad G 77)] ++ List.replicate (7 - (lg_sl [.ref (ax_ad G 26), .int k1, .int k2, .int k3, .int k4, .ref (ax_ad G 77)]).length) Slot.unset).toArray = ls at hl2 ⊢
  have hl2 : lv_has ls 7 [(0, .ref (ax_ad G 26)), (1, .int k1), (2, .int k2), (3, .int k3), (4, .int k4), (5, .ref (ax_ad G 77))] := hl2
  refine lv_aload cx.1 cx.2.1 (show decode method_3_code 0 = .ok (.aload 5, 2) by decide +kernel) (lv_at hl2 5 rfl) ?_
  refine lv_iconst (v := 0) cx.1 cx.2.1 (show decode method_3_code 2 = .ok (.iconst 0, 1) by decide +kernel) (by decide) ?_
  refine lv_aload_n cx.1 cx.2.1 (show decode method_3_code 3 = .ok (.aload_n 0, 1) by decide +kernel) rfl (lv_at hl2 0 rfl) ?_
  refine lv_iload_n cx.1 cx.2.1 (show decode method_3_code 4 = .ok (.iload_n 1, 1) by decide +kernel) rfl (lv_at hl2 1 rfl) ?_
  refine lv_iload_n cx.1 cx.2.1 (show decode method_3_code 5 = .ok (.iload_n 2, 1) by decide +kernel) rfl (lv_at hl2 2 rfl) ?_
  refine lv_iload_n cx.1 cx.2.1 (show decode method_3_code 6 = .ok (.iload_n 3, 1) by decide +kernel) rfl (lv_at hl2 3 rfl) ?_
  refine lv_iload cx.1 cx.2.1 (show decode method_3_code 7 = .ok (.iload 4, 2) by decide +kernel) (lv_at hl2 4 rfl) ?_
  have hs : ax_SR G s (headSpec (ax_mwh pt_L_page.1 hh_page) (ax_rm (d + 7) c0 s0)).room 7 (ax_lvA 0 [.inr (.inl (some 26)), .inl k1, .inl k2, .inl k3, .inl k4, .inr (.inl (some 77))]) M c0 s0 s.heap [] 0 0 ls := ⟨hl2, ax_lvA_c1 _ 0 (by simp [ax_c1]), hR, va_S.rf, by show 0 + c0 ≤ c0; omega, by show 0 + s0 ≤ s0; omega⟩
  refine sx_cvX (G := G) (own := "PageServerLaw") (cc := method_3_code) (nL := 7) (D := pt_X11_page.1) (d := d + 6) (c0 := 13) (st := [.inl k4, .inl k3, .inl k2, .inl k1, .inr (.inl (some 26)), .inl 0, .inr (.inl (some 77))]) (st2 := [.inl 0, .inr (.inl (some 77))]) (idx := 7) cx hKx (by decide +kernel) hM (ax_dokB_ok (T := pt_X11_page) (show ax_dokB pt_X11_page 4 = true by decide +kernel)) (by decide) (ax_in1_mem (d := pt_X11_page.2.2.2.1) (by decide +kernel)) (ax_in1_mem (d := pt_X11_page.2.2.2.2) (by decide +kernel)) (ax_in1_mem (d := 924) (by decide +kernel)) (Nat.le_refl _) (Nat.le_refl _) rfl hrc (by decide) (Nat.le_refl _) (Nat.le_refl _)
    [] ⟨0, 14, 17, 13⟩ [⟨0, 14, 21, 15⟩] htab (fun z hz => by cases hz) (by decide) (by decide) (hmw _ (ax_in1_mem (d := 922) (by decide +kernel))) (va_Nw.use rfl (hKx.2.2.1 (.castable (ax_en 0) (ax_en 0)) (by decide +kernel))) (fun q H1 locs1 hs9 => ?_) hs
  refine lv_astore cx.1 cx.2.1 (show decode method_3_code 17 = .ok (.astore 6, 2) by decide +kernel) hs9.1 (by decide) rfl (fun ls2 _ => ?_)
  refine lv_iconst (v := 1) cx.1 cx.2.1 (show decode method_3_code 19 = .ok (.iconst 1, 1) by decide +kernel) (by decide) ?_
  refine W.widen (k := c0) (n := s0) (by omega) (by omega) ?_
  exact W.zret (ty := .int) cx.1 cx.2.1 B.returns rfl (fun t ht hW => ⟨rfl, by rw [ht]; exact hs9.2.2.1, hs9.2.2.2.1.F ht⟩) hs9.2.2.2.1.2.2 (show decode method_3_code 20 = .ok (.ireturn, 1) by decide +kernel) B.notSynchronized
set_option maxRecDepth 20000 in
set_option maxHeartbeats 1000000 in
theorem hx_page_1 {l : Launch} (hl : l.stackTraces = false) {G : ax_G} (hG : ax_Gall G) {d c0 s0 : Nat} {M M2 : ax_M} (k1 k2 k3 k4 : Int32) (hrc : ax_rc M 13 (some (.inr (.inl (some 26))))) (h : ax_calls ax_P (d + 6) 100 c0 s0 [.inr (.inl (some 26)), .inl k1, .inl k2, .inl k3, .inl k4] M (.inr 1) M2) :
    Met l pt_L_page.1.1 (ax_mwh pt_L_page.1 hh_page) (ax_rm (d + 7) c0 s0) (ax_PreX G [.inr (.inl (some 26)), .inl k1, .inl k2, .inl k3, .inl k4, .inr (.inl (some 77))] M) (ax_Post G (some (.inl 2)) M2) c0 s0 (ax_Fr G) := by
  have hM := mx_X11_page hl hG h
  refine ax_ofWH (hh := hh_page) (cc := method_3_code) (maxL := 7) (ret := some .int) (by decide) rfl ?_
  intro p e s m args below meth c s₁ B hml hv
  obtain ⟨⟨rfl, hR, hK, hKc, hgz⟩, hKx⟩ := hv
  have hts := atoms_spec (ws := ax_mwh pt_L_page.1 hh_page) B.pre
  have hown : s.vm.findClass "PageServerLaw" = some m.cls := findClass_of_methodNamed B.named
  have hmw : ∀ w ∈ ax_ws, w.before _ s = true := fun w hw => hts w (List.mem_cons_of_mem _ hw)
  have cx : ax_Cx G p (headSpec (ax_mwh pt_L_page.1 hh_page) (ax_rm (d + 7) c0 s0)).room s m _ meth c "PageServerLaw" method_3_code 7 :=
    ⟨B.exec, B.bytes, hml, hown, hmw, hG.1, hK, hKc, hgz, B.notSynchronized, hG.2.1, hG.2.2⟩
  have htab := vx_table (x := pt_L_page.1.1) B (hts _ List.mem_cons_self)
  have hl2 := lv_entry [.ref (ax_ad G 26), .int k1, .int k2, .int k3, .int k4, .ref (ax_ad G 77)] (n := 7) (Nat.le_of_ble_eq_true rfl)
  have hent := lg_entry_eq m [.ref (ax_ad G 26), .int k1, .int k2, .int k3, .int k4, .ref (ax_ad G 77)] 7
  refine W.eq hent ?_
  generalize (lg_sl [.ref (ax_ad G 26), .int k1, .int k2, .int k3, .int k4, .ref (ax_ad G 77)] ++ List.replicate (7 - (lg_sl [.ref (ax_ad G 26), .int k1, .int k2, .int k3, .int k4, .ref (ax_ad G 77)]).length) Slot.unset).toArray = ls at hl2 ⊢
  have hl2 : lv_has ls 7 [(0, .ref (ax_ad G 26)), (1, .int k1), (2, .int k2), (3, .int k3), (4, .int k4), (5, .ref (ax_ad G 77))] := hl2
  refine lv_aload cx.1 cx.2.1 (show decode method_3_code 0 = .ok (.aload 5, 2) by decide +kernel) (lv_at hl2 5 rfl) ?_
  refine lv_iconst (v := 0) cx.1 cx.2.1 (show decode method_3_code 2 = .ok (.iconst 0, 1) by decide +kernel) (by decide) ?_
  refine lv_aload_n cx.1 cx.2.1 (show decode method_3_code 3 = .ok (.aload_n 0, 1) by decide +kernel) rfl (lv_at hl2 0 rfl) ?_
  refine lv_iload_n cx.1 cx.2.1 (show decode method_3_code 4 = .ok (.iload_n 1, 1) by decide +kernel) rfl (lv_at hl2 1 rfl) ?_
  refine lv_iload_n cx.1 cx.2.1 (show decode method_3_code 5 = .ok (.iload_n 2, 1) by decide +kernel) rfl (lv_at hl2 2 rfl) ?_
  refine lv_iload_n cx.1 cx.2.1 (show decode method_3_code 6 = .ok (.iload_n 3, 1) by decide +kernel) rfl (lv_at hl2 3 rfl) ?_
  refine lv_iload cx.1 cx.2.1 (show decode method_3_code 7 = .ok (.iload 4, 2) by decide +kernel) (lv_at hl2 4 rfl) ?_
  have hs : ax_SR G s (headSpec (ax_mwh pt_L_page.1 hh_page) (ax_rm (d + 7) c0 s0)).room 7 (ax_lvA 0 [.inr (.inl (some 26)), .inl k1, .inl k2, .inl k3, .inl k4, .inr (.inl (some 77))]) M c0 s0 s.heap [] 0 0 ls := ⟨hl2, ax_lvA_c1 _ 0 (by simp [ax_c1]), hR, va_S.rf, by show 0 + c0 ≤ c0; omega, by show 0 + s0 ≤ s0; omega⟩
  refine sx_cvX (G := G) (own := "PageServerLaw") (cc := method_3_code) (nL := 7) (D := pt_X11_page.1) (d := d + 6) (c0 := 13) (st := [.inl k4, .inl k3, .inl k2, .inl k1, .inr (.inl (some 26)), .inl 0, .inr (.inl (some 77))]) (st2 := [.inl 0, .inr (.inl (some 77))]) (idx := 7) cx hKx (by decide +kernel) hM (ax_dokB_ok (T := pt_X11_page) (show ax_dokB pt_X11_page 4 = true by decide +kernel)) (by decide) (ax_in1_mem (d := pt_X11_page.2.2.2.1) (by decide +kernel)) (ax_in1_mem (d := pt_X11_page.2.2.2.2) (by decide +kernel)) (ax_in1_mem (d := 924) (by decide +kernel)) (Nat.le_refl _) (Nat.le_refl _) rfl hrc (by decide) (Nat.le_refl _) (Nat.le_refl _)
    [⟨0, 14, 17, 13⟩] ⟨0, 14, 21, 15⟩ [] htab (fun z hz => by simp only [List.mem_cons, List.not_mem_nil, or_false] at hz; subst hz; exact ⟨by decide, by decide, "java/lang/IllegalArgumentException", hmw _ (ax_in1_mem (d := 922) (by decide +kernel)), hKx.2.2.2⟩) (by decide) (by decide) (hmw _ (ax_in1_mem (d := 923) (by decide +kernel))) (va_Nw.use rfl (hKx.2.2.1 (.castable (ax_en 1) (ax_en 1)) (by decide +kernel))) (fun q H1 locs1 hs9 => ?_) hs
  refine lv_astore cx.1 cx.2.1 (show decode method_3_code 21 = .ok (.astore 6, 2) by decide +kernel) hs9.1 (by decide) rfl (fun ls2 _ => ?_)
  refine lv_iconst (v := 2) cx.1 cx.2.1 (show decode method_3_code 23 = .ok (.iconst 2, 1) by decide +kernel) (by decide) ?_
  refine W.widen (k := c0) (n := s0) (by omega) (by omega) ?_
  exact W.zret (ty := .int) cx.1 cx.2.1 B.returns rfl (fun t ht hW => ⟨rfl, by rw [ht]; exact hs9.2.2.1, hs9.2.2.2.1.F ht⟩) hs9.2.2.2.1.2.2 (show decode method_3_code 24 = .ok (.ireturn, 1) by decide +kernel) B.notSynchronized
def pr_L_out : List ax_R := [(0, .aload_n 2, 0, 0, 0, 0), (1, .iconst 0, 0, 0, 0, 0), (2, .aload_n 0, 0, 0, 0, 0), (3, .iload_n 1, 0, 0, 0, 0), (4, .invokevirtual 17, 104, 2, 13, 1246), (7, .i2l, 0, 0, 0, 0), (8, .lastore, 0, 0, 0, 0), (9, .goto 6, 15, 0, 0, 0), (12, .astore_n 3, 0, 0, 0, 0), (13, .iconst 1, 0, 0, 0, 0), (14, .ireturn, 0, 0, 0, 0), (15, .iconst 0, 0, 0, 0, 0), (16, .ireturn, 0, 0, 0, 0)]
def hh_out : List (Nat × Nat × Nat × Nat) := [(0, 9, 12, 21)]
def pt_L_out : ax_T := ((⟨"PageServerLaw", "out", "(LPageServer;I[J)I"⟩, method_4_code, 4, some .int), 1244, 81, 1243, 0)
set_option maxRecDepth 100000 in
theorem ok_L_out : ax_mok ax_mt pt_L_out pr_L_out = true := by decide +kernel
set_option maxRecDepth 20000 in
set_option maxHeartbeats 1000000 in
theorem hx_out_2 {l : Launch} (hl : l.stackTraces = false) {G : ax_G} (hG : ax_Gall G) {d c0 s0 : Nat} {M M2 : ax_M} (k1 : Int32) (hrc : ax_rc M 13 (some (.inr (.inl (some 26))))) (h : ax_calls ax_P (d + 6) 104 c0 s0 [.inr (.inl (some 26)), .inl k1] M (.inr 2) M2) :
    Met l pt_L_out.1.1 (ax_mwh pt_L_out.1 hh_out) (ax_rm (d + 7) c0 s0) (ax_PreX G [.inr (.inl (some 26)), .inl k1, .inr (.inl (some 77))] M) (ax_Post G (some (.inl 1)) M2) c0 s0 (ax_Fr G) := by
  have hM := mx_X11_out hl hG h
  refine ax_ofWH (hh := hh_out) (cc := method_4_code) (maxL := 4) (ret := some .int) (by decide) rfl ?_
  intro p e s m args below meth c s₁ B hml hv
  obtain ⟨⟨rfl, hR, hK, hKc, hgz⟩, hKx⟩ := hv
  have hts := atoms_spec (ws := ax_mwh pt_L_out.1 hh_out) B.pre
  have hown : s.vm.findClass "PageServerLaw" = some m.cls := findClass_of_methodNamed B.named
  have hmw : ∀ w ∈ ax_ws, w.before _ s = true := fun w hw => hts w (List.mem_cons_of_mem _ hw)
  have cx : ax_Cx G p (headSpec (ax_mwh pt_L_out.1 hh_out) (ax_rm (d + 7) c0 s0)).room s m _ meth c "PageServerLaw" method_4_code 4 :=
    ⟨B.exec, B.bytes, hml, hown, hmw, hG.1, hK, hKc, hgz, B.notSynchronized, hG.2.1, hG.2.2⟩
  have htab := vx_table (x := pt_L_out.1.1) B (hts _ List.mem_cons_self)
  have hl2 := lv_entry [.ref (ax_ad G 26), .int k1, .ref (ax_ad G 77)] (n := 4) (Nat.le_of_ble_eq_true rfl)
  have hent := lg_entry_eq m [.ref (ax_ad G 26), .int k1, .ref (ax_ad G 77)] 4
  refine W.eq hent ?_
  generalize (lg_sl [.ref (ax_ad G 26), .int k1, .ref (ax_ad G 77)] ++ List.replicate (4 - (lg_sl [.ref (ax_ad G 26), .int k1, .ref (ax_ad G 77)]).length) Slot.unset).toArray = ls at hl2 ⊢
  have hl2 : lv_has ls 4 [(0, .ref (ax_ad G 26)), (1, .int k1), (2, .ref (ax_ad G 77))] := hl2
  refine lv_aload_n cx.1 cx.2.1 (show decode method_4_code 0 = .ok (.aload_n 2, 1) by decide +kernel) rfl (lv_at hl2 2 rfl) ?_
  refine lv_iconst (v := 0) cx.1 cx.2.1 (show decode method_4_code 1 = .ok (.iconst 0, 1) by decide +kernel) (by decide) ?_
  refine lv_aload_n cx.1 cx.2.1 (show decode method_4_code 2 = .ok (.aload_n 0, 1) by decide +kernel) rfl (lv_at hl2 0 rfl) ?_
  refine lv_iload_n cx.1 cx.2.1 (show decode method_4_code 3 = .ok (.iload_n 1, 1) by decide +kernel) rfl (lv_at hl2 1 rfl) ?_
  have hs : ax_SR G s (headSpec (ax_mwh pt_L_out.1 hh_out) (ax_rm (d + 7) c0 s0)).room 4 (ax_lvA 0 [.inr (.inl (some 26)), .inl k1, .inr (.inl (some 77))]) M c0 s0 s.heap [] 0 0 ls := ⟨hl2, ax_lvA_c1 _ 0 (by simp [ax_c1]), hR, va_S.rf, by show 0 + c0 ≤ c0; omega, by show 0 + s0 ≤ s0; omega⟩
  refine sx_cvX (G := G) (own := "PageServerLaw") (cc := method_4_code) (nL := 4) (D := pt_X11_out.1) (d := d + 6) (c0 := 13) (st := [.inl k1, .inr (.inl (some 26)), .inl 0, .inr (.inl (some 77))]) (st2 := [.inl 0, .inr (.inl (some 77))]) (idx := 17) cx hKx (by decide +kernel) hM (ax_dokB_ok (T := pt_X11_out) (show ax_dokB pt_X11_out 1 = true by decide +kernel)) (by decide) (ax_in1_mem (d := pt_X11_out.2.2.2.1) (by decide +kernel)) (ax_in1_mem (d := pt_X11_out.2.2.2.2) (by decide +kernel)) (ax_in1_mem (d := 1246) (by decide +kernel)) (Nat.le_refl _) (Nat.le_refl _) rfl hrc (by decide) (Nat.le_refl _) (Nat.le_refl _)
    [] ⟨0, 9, 12, 21⟩ [] htab (fun z hz => by cases hz) (by decide) (by decide) (hmw _ (ax_in1_mem (d := 1245) (by decide +kernel))) (va_Nw.use rfl (hKx.2.2.1 (.castable (ax_en 2) (ax_en 2)) (by decide +kernel))) (fun q H1 locs1 hs9 => ?_) hs
  refine lv_astore_n cx.1 cx.2.1 (show decode method_4_code 12 = .ok (.astore_n 3, 1) by decide +kernel) rfl hs9.1 (by decide) rfl (fun ls2 _ => ?_)
  refine lv_iconst (v := 1) cx.1 cx.2.1 (show decode method_4_code 13 = .ok (.iconst 1, 1) by decide +kernel) (by decide) ?_
  refine W.widen (k := c0) (n := s0) (by omega) (by omega) ?_
  exact W.zret (ty := .int) cx.1 cx.2.1 B.returns rfl (fun t ht hW => ⟨rfl, by rw [ht]; exact hs9.2.2.1, hs9.2.2.2.1.F ht⟩) hs9.2.2.2.1.2.2 (show decode method_4_code 14 = .ok (.ireturn, 1) by decide +kernel) B.notSynchronized
def pr_L_stream : List ax_R := [(0, .aload_n 3, 0, 0, 0, 0), (1, .iconst 0, 0, 0, 0, 0), (2, .aload_n 0, 0, 0, 0, 0), (3, .iload_n 1, 0, 0, 0, 0), (4, .iload_n 2, 0, 0, 0, 0), (5, .invokevirtual 23, 108, 3, 13, 1273), (8, .i2l, 0, 0, 0, 0), (9, .lastore, 0, 0, 0, 0), (10, .goto 7, 17, 0, 0, 0), (13, .astore 4, 0, 0, 0, 0), (15, .iconst 1, 0, 0, 0, 0), (16, .ireturn, 0, 0, 0, 0), (17, .iconst 0, 0, 0, 0, 0), (18, .ireturn, 0, 0, 0, 0)]
def hh_stream : List (Nat × Nat × Nat × Nat) := [(0, 10, 13, 21)]
def pt_L_stream : ax_T := ((⟨"PageServerLaw", "stream", "(LPageServer;II[J)I"⟩, method_5_code, 5, some .int), 1272, 81, 1271, 0)
set_option maxRecDepth 100000 in
theorem ok_L_stream : ax_mok ax_mt pt_L_stream pr_L_stream = true := by decide +kernel
set_option maxRecDepth 20000 in
set_option maxHeartbeats 1000000 in
theorem hx_stream_2 {l : Launch} (hl : l.stackTraces = false) {G : ax_G} (hG : ax_Gall G) {d c0 s0 : Nat} {M M2 : ax_M} (k1 k2 : Int32) (hrc : ax_rc M 13 (some (.inr (.inl (some 26))))) (h : ax_calls ax_P (d + 6) 108 c0 s0 [.inr (.inl (some 26)), .inl k1, .inl k2] M (.inr 2) M2) :
    Met l pt_L_stream.1.1 (ax_mwh pt_L_stream.1 hh_stream) (ax_rm (d + 7) c0 s0) (ax_PreX G [.inr (.inl (some 26)), .inl k1, .inl k2, .inr (.inl (some 77))] M) (ax_Post G (some (.inl 1)) M2) c0 s0 (ax_Fr G) := by
  have hM := mx_X11_stream hl hG h
  refine ax_ofWH (hh := hh_stream) (cc := method_5_code) (maxL := 5) (ret := some .int) (by decide) rfl ?_
  intro p e s m args below meth c s₁ B hml hv
  obtain ⟨⟨rfl, hR, hK, hKc, hgz⟩, hKx⟩ := hv
  have hts := atoms_spec (ws := ax_mwh pt_L_stream.1 hh_stream) B.pre
  have hown : s.vm.findClass "PageServerLaw" = some m.cls := findClass_of_methodNamed B.named
  have hmw : ∀ w ∈ ax_ws, w.before _ s = true := fun w hw => hts w (List.mem_cons_of_mem _ hw)
  have cx : ax_Cx G p (headSpec (ax_mwh pt_L_stream.1 hh_stream) (ax_rm (d + 7) c0 s0)).room s m _ meth c "PageServerLaw" method_5_code 5 :=
    ⟨B.exec, B.bytes, hml, hown, hmw, hG.1, hK, hKc, hgz, B.notSynchronized, hG.2.1, hG.2.2⟩
  have htab := vx_table (x := pt_L_stream.1.1) B (hts _ List.mem_cons_self)
  have hl2 := lv_entry [.ref (ax_ad G 26), .int k1, .int k2, .ref (ax_ad G 77)] (n := 5) (Nat.le_of_ble_eq_true rfl)
  have hent := lg_entry_eq m [.ref (ax_ad G 26), .int k1, .int k2, .ref (ax_ad G 77)] 5
  refine W.eq hent ?_
  generalize (lg_sl [.ref (ax_ad G 26), .int k1, .int k2, .ref (ax_ad G 77)] ++ List.replicate (5 - (lg_sl [.ref (ax_ad G 26), .int k1, .int k2, .ref (ax_ad G 77)]).length) Slot.unset).toArray = ls at hl2 ⊢
  have hl2 : lv_has ls 5 [(0, .ref (ax_ad G 26)), (1, .int k1), (2, .int k2), (3, .ref (ax_ad G 77))] := hl2
  refine lv_aload_n cx.1 cx.2.1 (show decode method_5_code 0 = .ok (.aload_n 3, 1) by decide +kernel) rfl (lv_at hl2 3 rfl) ?_
  refine lv_iconst (v := 0) cx.1 cx.2.1 (show decode method_5_code 1 = .ok (.iconst 0, 1) by decide +kernel) (by decide) ?_
  refine lv_aload_n cx.1 cx.2.1 (show decode method_5_code 2 = .ok (.aload_n 0, 1) by decide +kernel) rfl (lv_at hl2 0 rfl) ?_
  refine lv_iload_n cx.1 cx.2.1 (show decode method_5_code 3 = .ok (.iload_n 1, 1) by decide +kernel) rfl (lv_at hl2 1 rfl) ?_
  refine lv_iload_n cx.1 cx.2.1 (show decode method_5_code 4 = .ok (.iload_n 2, 1) by decide +kernel) rfl (lv_at hl2 2 rfl) ?_
  have hs : ax_SR G s (headSpec (ax_mwh pt_L_stream.1 hh_stream) (ax_rm (d + 7) c0 s0)).room 5 (ax_lvA 0 [.inr (.inl (some 26)), .inl k1, .inl k2, .inr (.inl (some 77))]) M c0 s0 s.heap [] 0 0 ls := ⟨hl2, ax_lvA_c1 _ 0 (by simp [ax_c1]), hR, va_S.rf, by show 0 + c0 ≤ c0; omega, by show 0 + s0 ≤ s0; omega⟩
  refine sx_cvX (G := G) (own := "PageServerLaw") (cc := method_5_code) (nL := 5) (D := pt_X11_stream.1) (d := d + 6) (c0 := 13) (st := [.inl k2, .inl k1, .inr (.inl (some 26)), .inl 0, .inr (.inl (some 77))]) (st2 := [.inl 0, .inr (.inl (some 77))]) (idx := 23) cx hKx (by decide +kernel) hM (ax_dokB_ok (T := pt_X11_stream) (show ax_dokB pt_X11_stream 2 = true by decide +kernel)) (by decide) (ax_in1_mem (d := pt_X11_stream.2.2.2.1) (by decide +kernel)) (ax_in1_mem (d := pt_X11_stream.2.2.2.2) (by decide +kernel)) (ax_in1_mem (d := 1273) (by decide +kernel)) (Nat.le_refl _) (Nat.le_refl _) rfl hrc (by decide) (Nat.le_refl _) (Nat.le_refl _)
    [] ⟨0, 10, 13, 21⟩ [] htab (fun z hz => by cases hz) (by decide) (by decide) (hmw _ (ax_in1_mem (d := 1245) (by decide +kernel))) (va_Nw.use rfl (hKx.2.2.1 (.castable (ax_en 2) (ax_en 2)) (by decide +kernel))) (fun q H1 locs1 hs9 => ?_) hs
  refine lv_astore cx.1 cx.2.1 (show decode method_5_code 13 = .ok (.astore 4, 2) by decide +kernel) hs9.1 (by decide) rfl (fun ls2 _ => ?_)
  refine lv_iconst (v := 1) cx.1 cx.2.1 (show decode method_5_code 15 = .ok (.iconst 1, 1) by decide +kernel) (by decide) ?_
  refine W.widen (k := c0) (n := s0) (by omega) (by omega) ?_
  exact W.zret (ty := .int) cx.1 cx.2.1 B.returns rfl (fun t ht hW => ⟨rfl, by rw [ht]; exact hs9.2.2.1, hs9.2.2.2.1.F ht⟩) hs9.2.2.2.1.2.2 (show decode method_5_code 16 = .ok (.ireturn, 1) by decide +kernel) B.notSynchronized
def pr_L_entry : List ax_R := [(0, .aload 4, 0, 0, 0, 0), (2, .iconst 0, 0, 0, 0, 0), (3, .aload_n 0, 0, 0, 0, 0), (4, .iload_n 1, 0, 0, 0, 0), (5, .iload_n 2, 0, 0, 0, 0), (6, .iload_n 3, 0, 0, 0, 0), (7, .invokevirtual 27, 109, 4, 13, 1283), (10, .i2l, 0, 0, 0, 0), (11, .lastore, 0, 0, 0, 0), (12, .goto 7, 19, 0, 0, 0), (15, .astore 5, 0, 0, 0, 0), (17, .iconst 1, 0, 0, 0, 0), (18, .ireturn, 0, 0, 0, 0), (19, .iconst 0, 0, 0, 0, 0), (20, .ireturn, 0, 0, 0, 0)]
def hh_entry : List (Nat × Nat × Nat × Nat) := [(0, 12, 15, 21)]
def pt_L_entry : ax_T := ((⟨"PageServerLaw", "entry", "(LPageServer;III[J)I"⟩, method_6_code, 6, some .int), 1282, 81, 1281, 0)
set_option maxRecDepth 100000 in
theorem ok_L_entry : ax_mok ax_mt pt_L_entry pr_L_entry = true := by decide +kernel
set_option maxRecDepth 20000 in
set_option maxHeartbeats 1000000 in
theorem hx_entry_2 {l : Launch} (hl : l.stackTraces = false) {G : ax_G} (hG : ax_Gall G) {d c0 s0 : Nat} {M M2 : ax_M} (k1 k2 k3 : Int32) (hrc : ax_rc M 13 (some (.inr (.inl (some 26))))) (h : ax_calls ax_P (d + 6) 109 c0 s0 [.inr (.inl (some 26)), .inl k1, .inl k2, .inl k3] M (.inr 2) M2) :
    Met l pt_L_entry.1.1 (ax_mwh pt_L_entry.1 hh_entry) (ax_rm (d + 7) c0 s0) (ax_PreX G [.inr (.inl (some 26)), .inl k1, .inl k2, .inl k3, .inr (.inl (some 77))] M) (ax_Post G (some (.inl 1)) M2) c0 s0 (ax_Fr G) := by
  have hM := mx_X11_entry hl hG h
  refine ax_ofWH (hh := hh_entry) (cc := method_6_code) (maxL := 6) (ret := some .int) (by decide) rfl ?_
  intro p e s m args below meth c s₁ B hml hv
  obtain ⟨⟨rfl, hR, hK, hKc, hgz⟩, hKx⟩ := hv
  have hts := atoms_spec (ws := ax_mwh pt_L_entry.1 hh_entry) B.pre
  have hown : s.vm.findClass "PageServerLaw" = some m.cls := findClass_of_methodNamed B.named
  have hmw : ∀ w ∈ ax_ws, w.before _ s = true := fun w hw => hts w (List.mem_cons_of_mem _ hw)
  have cx : ax_Cx G p (headSpec (ax_mwh pt_L_entry.1 hh_entry) (ax_rm (d + 7) c0 s0)).room s m _ meth c "PageServerLaw" method_6_code 6 :=
    ⟨B.exec, B.bytes, hml, hown, hmw, hG.1, hK, hKc, hgz, B.notSynchronized, hG.2.1, hG.2.2⟩
  have htab := vx_table (x := pt_L_entry.1.1) B (hts _ List.mem_cons_self)
  have hl2 := lv_entry [.ref (ax_ad G 26), .int k1, .int k2, .int k3, .ref (ax_ad G 77)] (n := 6) (Nat.le_of_ble_eq_true rfl)
  have hent := lg_entry_eq m [.ref (ax_ad G 26), .int k1, .int k2, .int k3, .ref (ax_ad G 77)] 6
  refine W.eq hent ?_
  generalize (lg_sl [.ref (ax_ad G 26), .int k1, .int k2, .int k3, .ref (ax_ad G 77)] ++ List.replicate (6 - (lg_sl [.ref (ax_ad G 26), .int k1, .int k2, .int k3, .ref (ax_ad G 77)]).length) Slot.unset).toArray = ls at hl2 ⊢
  have hl2 : lv_has ls 6 [(0, .ref (ax_ad G 26)), (1, .int k1), (2, .int k2), (3, .int k3), (4, .ref (ax_ad G 77))] := hl2
  refine lv_aload cx.1 cx.2.1 (show decode method_6_code 0 = .ok (.aload 4, 2) by decide +kernel) (lv_at hl2 4 rfl) ?_
  refine lv_iconst (v := 0) cx.1 cx.2.1 (show decode method_6_code 2 = .ok (.iconst 0, 1) by decide +kernel) (by decide) ?_
  refine lv_aload_n cx.1 cx.2.1 (show decode method_6_code 3 = .ok (.aload_n 0, 1) by decide +kernel) rfl (lv_at hl2 0 rfl) ?_
  refine lv_iload_n cx.1 cx.2.1 (show decode method_6_code 4 = .ok (.iload_n 1, 1) by decide +kernel) rfl (lv_at hl2 1 rfl) ?_
  refine lv_iload_n cx.1 cx.2.1 (show decode method_6_code 5 = .ok (.iload_n 2, 1) by decide +kernel) rfl (lv_at hl2 2 rfl) ?_
  refine lv_iload_n cx.1 cx.2.1 (show decode method_6_code 6 = .ok (.iload_n 3, 1) by decide +kernel) rfl (lv_at hl2 3 rfl) ?_
  have hs : ax_SR G s (headSpec (ax_mwh pt_L_entry.1 hh_entry) (ax_rm (d + 7) c0 s0)).room 6 (ax_lvA 0 [.inr (.inl (some 26)), .inl k1, .inl k2, .inl k3, .inr (.inl (some 77))]) M c0 s0 s.heap [] 0 0 ls := ⟨hl2, ax_lvA_c1 _ 0 (by simp [ax_c1]), hR, va_S.rf, by show 0 + c0 ≤ c0; omega, by show 0 + s0 ≤ s0; omega⟩
  refine sx_cvX (G := G) (own := "PageServerLaw") (cc := method_6_code) (nL := 6) (D := pt_X11_entry.1) (d := d + 6) (c0 := 13) (st := [.inl k3, .inl k2, .inl k1, .inr (.inl (some 26)), .inl 0, .inr (.inl (some 77))]) (st2 := [.inl 0, .inr (.inl (some 77))]) (idx := 27) cx hKx (by decide +kernel) hM (ax_dokB_ok (T := pt_X11_entry) (show ax_dokB pt_X11_entry 3 = true by decide +kernel)) (by decide) (ax_in1_mem (d := pt_X11_entry.2.2.2.1) (by decide +kernel)) (ax_in1_mem (d := pt_X11_entry.2.2.2.2) (by decide +kernel)) (ax_in1_mem (d := 1283) (by decide +kernel)) (Nat.le_refl _) (Nat.le_refl _) rfl hrc (by decide) (Nat.le_refl _) (Nat.le_refl _)
    [] ⟨0, 12, 15, 21⟩ [] htab (fun z hz => by cases hz) (by decide) (by decide) (hmw _ (ax_in1_mem (d := 1245) (by decide +kernel))) (va_Nw.use rfl (hKx.2.2.1 (.castable (ax_en 2) (ax_en 2)) (by decide +kernel))) (fun q H1 locs1 hs9 => ?_) hs
  refine lv_astore cx.1 cx.2.1 (show decode method_6_code 15 = .ok (.astore 5, 2) by decide +kernel) hs9.1 (by decide) rfl (fun ls2 _ => ?_)
  refine lv_iconst (v := 1) cx.1 cx.2.1 (show decode method_6_code 17 = .ok (.iconst 1, 1) by decide +kernel) (by decide) ?_
  refine W.widen (k := c0) (n := s0) (by omega) (by omega) ?_
  exact W.zret (ty := .int) cx.1 cx.2.1 B.returns rfl (fun t ht hW => ⟨rfl, by rw [ht]; exact hs9.2.2.1, hs9.2.2.2.1.F ht⟩) hs9.2.2.2.1.2.2 (show decode method_6_code 18 = .ok (.ireturn, 1) by decide +kernel) B.notSynchronized
