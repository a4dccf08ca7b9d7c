theorem ax_clsI : ∀ ci, ci < 15 → Cond.instantiable (ax_nm ci) (ax_N ci) ∈ ax_ws ∧ Cond.initialized (ax_nm ci) ∈ ax_ws
  | 0, _ => ⟨ax_ws_of (i := 687) (by decide +kernel) rfl, ax_ws_of (i := 90) (by decide +kernel) rfl⟩
  | 1, _ => ⟨ax_ws_of (i := 1006) (by decide +kernel) rfl, ax_ws_of (i := 100) (by decide +kernel) rfl⟩
  | 2, _ => ⟨ax_ws_of (i := 261) (by decide +kernel) rfl, ax_ws_of (i := 91) (by decide +kernel) rfl⟩
  | 3, _ => ⟨ax_ws_of (i := 121) (by decide +kernel) rfl, ax_ws_of (i := 83) (by decide +kernel) rfl⟩
  | 4, _ => ⟨ax_ws_of (i := 198) (by decide +kernel) rfl, ax_ws_of (i := 89) (by decide +kernel) rfl⟩
  | 5, _ => ⟨ax_ws_of (i := 127) (by decide +kernel) rfl, ax_ws_of (i := 84) (by decide +kernel) rfl⟩
  | 6, _ => ⟨ax_ws_of (i := 191) (by decide +kernel) rfl, ax_ws_of (i := 88) (by decide +kernel) rfl⟩
  | 7, _ => ⟨ax_ws_of (i := 178) (by decide +kernel) rfl, ax_ws_of (i := 87) (by decide +kernel) rfl⟩
  | 8, _ => ⟨ax_ws_of (i := 1224) (by decide +kernel) rfl, ax_ws_of (i := 110) (by decide +kernel) rfl⟩
  | 9, _ => ⟨ax_ws_of (i := 141) (by decide +kernel) rfl, ax_ws_of (i := 85) (by decide +kernel) rfl⟩
  | 10, _ => ⟨ax_ws_of (i := 163) (by decide +kernel) rfl, ax_ws_of (i := 86) (by decide +kernel) rfl⟩
  | 11, _ => ⟨ax_ws_of (i := 310) (by decide +kernel) rfl, ax_ws_of (i := 93) (by decide +kernel) rfl⟩
  | 12, _ => ⟨ax_ws_of (i := 303) (by decide +kernel) rfl, ax_ws_of (i := 92) (by decide +kernel) rfl⟩
  | 13, _ => ⟨ax_ws_of (i := 113) (by decide +kernel) rfl, ax_ws_of (i := 82) (by decide +kernel) rfl⟩
  | 14, _ => ⟨ax_ws_of (i := 1293) (by decide +kernel) rfl, ax_ws_of (i := 94) (by decide +kernel) rfl⟩
  | n + 15, h => absurd h (by omega)
/-- what a fresh field holds -/
def ax_tok (t : FieldType) : Bool := match t with
  | .int => true
  | .boolean => true
  | .byte => true
  | .char => true
  | .object _ => true
  | .array _ => true
  | _ => false
theorem ax_tok_all : ∀ ci, ci < 15 → ∀ k, k < ax_N ci → ax_tok (ax_ty ci k) = true := by decide +kernel
theorem ax_tok_dv {t : FieldType} (h : ax_tok t = true) : defaultValue t = if ax_isR t = true then .null else .int 0 := by
  cases t <;> first | rfl | exact absurd h (by decide)
section AX7
variable {p : Program} {l : Launch} {e : Env} {R : Room} {s : State} {m : MethodId} {args : Array Value} {below : List Frame} {meth : Method} {c : Code} {Qf : State → Prop} {G : ax_G} {own : String} {cc : ByteArray} {nL : Nat}
variable {C : ax_C} {Q : ax_O → ax_M → Prop} {rt : Option FieldType} {nx : ax_K} {jm : Nat → ax_K} {pc a b c0 : Nat} {lv : ax_L} {st : List ax_V} {M : ax_M} {rc rs : Nat} {H : Heap} {locs : List Loc} {cells slots : Nat} {ls : Array Slot}
theorem ax_avI {o : Nat} (h : ax_tg M o < 104) : ax_av G M o = fun k => .int (ax_hi M o k) := by
  funext k; simp [ax_av, h]
theorem ax_avL {o : Nat} (h : ax_tg M o = 104) : ax_av G M o = fun k => .long (ax_hl M o k) := by
  funext k; simp [ax_av, h]
theorem ax_avR {o : Nat} (h : 104 < ax_tg M o) : ax_av G M o = fun k => va_rf ((ax_hr M o k).map (ax_ad G)) := by
  funext k
  simp [ax_av, show ¬ ax_tg M o < 104 by omega, show ¬ ax_tg M o = 104 by omega]
theorem ax_szOf {cA : ClassId} {n : Nat} {f : Nat → Value} {i : Int32} (h : vp_in i n) : ¬ (i < 0 ∨ (arrV cA n f).slots.size ≤ i.toNatClampNeg) := by rw [arrV_size]; exact h
theorem ax_ltOf {n : Nat} {i : Int32} (h : vp_in i n) : i.toNatClampNeg < n := Nat.not_le.mp fun q => h (Or.inr q)
/-- an array of ours has got v at its place j: the memory behind it is M2 -/
theorem ax_arput {o t j sl : Nat} {v : Value} {M2 : ax_M} {H1 : Heap} (cx : ax_Cx G p R s m args meth c own cc nL) (hs : ax_SR G s R nL lv M rc rs H locs cells slots ls) (h0 : ax_own M o t) (ht : 100 ≤ t ∧ t < 200)
    (e1 : H1[ax_ad G o]? = some ((arrV (G.2.1 (t - 100)) (ax_ln M o) (ax_av G M o)).setSlot j v)) (e2 : H1.size = H.size) (e3 : ∀ q, q ≠ ax_ad G o → H1[q]? = H[q]?)
    (hup : updV (ax_av G M o) j v = ax_av G M2 o) (hM : ∀ q, q ≠ o → ax_eqAt M M2 q) (hMn : ax_n M2 = ax_n M) (hMt : ax_tg M2 o = ax_tg M o) (hMl : ax_ln M2 o = ax_ln M o) : ax_SR G s R nL lv M2 rc rs H1 (locs ++ [⟨ax_ad G o, sl⟩]) cells slots ls := by
  obtain ⟨hdy, htl, -⟩ := ax_arOf cx hs.2.2.1 h0 ht
  refine ⟨hs.1, hs.2.1, hs.2.2.1.upd cx.2.2.2.2.2.1 hdy hMn hM e2 e3 (Or.inr (Or.inl ⟨by rw [hMt, h0.2]; exact ht.1, by rw [hMt, h0.2]; exact ht.2, by rw [hMt, h0.2]; exact htl, ?_⟩)), hs.2.2.2.1.put e2 e3 (ax_dynFr cx.2.2.2.2.2.1 hdy), hs.2.2.2.2⟩
  rw [e1, arrV_store, hup, hMt, hMl, h0.2]
theorem ax_av_si {x : Int32} {o j : Nat} (h : ax_tg M o < 104) : updV (ax_av G M o) j (.int x) = ax_av G (ax_si M o j x) o := by
  rw [ax_avI h, ax_avI (M := ax_si M o j x) h]
  funext k
  by_cases hk : k = j
  · subst hk; simp [updV, ax_hi, ax_si, ax_u]
  · simp [updV, ax_hi, ax_si, ax_u, hk]
theorem ax_av_sl {x : Int64} {o j : Nat} (h : ax_tg M o = 104) : updV (ax_av G M o) j (.long x) = ax_av G (ax_sl M o j x) o := by
  rw [ax_avL h, ax_avL (M := ax_sl M o j x) h]
  funext k
  by_cases hk : k = j
  · subst hk; simp [updV, ax_hl, ax_sl, ax_u]
  · simp [updV, ax_hl, ax_sl, ax_u, hk]
theorem ax_av_sr {x : Option Nat} {o j : Nat} (h : 104 < ax_tg M o) : updV (ax_av G M o) j (va_rf (x.map (ax_ad G))) = ax_av G (ax_sr M o j x) o := by
  rw [ax_avR h, ax_avR (M := ax_sr M o j x) h]
  funext k
  by_cases hk : k = j
  · subst hk; simp [updV, ax_hr, ax_sr, ax_u]
  · simp [updV, ax_hr, ax_sr, ax_u, hk]
theorem sx_iaload (cx : ax_Cx G p R s m args meth c own cc nL) (hd : decode cc pc = .ok (.iaload, 1)) (kn : ax_Ko G p l e R s m args below meth c nL Qf (pc + 1) nx) (h : ax_ins C Q rt nx jm pc a b c0 lv st M rc rs (.iaload)) (hs : ax_SR G s R nL lv M rc rs H locs cells slots ls) : W p l e R s m args below meth c H locs cells slots Qf (F0 m pc ls (st.map (ax_tr G))) := by
  obtain ⟨o, i, st, rfl, ⟨ho, h0 | h0⟩, hin, h1⟩ := ax_io_inv h
  · have h0 : ax_own M o 100 := ⟨ho, h0⟩
    obtain ⟨-, htl, h4⟩ := ax_arOf cx hs.2.2.1 h0 (by omega)
    rw [ax_avI (by rw [h0.2]; omega)] at h4
    exact W.iald cx.1 cx.2.1 h4 ((ax_arK cx htl).1 _ _) (fun q => by cases q) (ax_szOf hin) (arrV_read _ _ (ax_ltOf hin)) rfl rfl hd (kn _ _ _ _ _ _ _ _ _ _ h1 hs)
  · have h0 : ax_own M o (200 + 0) := ⟨ho, h0⟩
    obtain ⟨cell, g1, g2, g3, g4, g5⟩ := ax_roOf cx hs.2.2.1 hs.2.2.2.1 h0 (by omega)
    exact W.iald cx.1 cx.2.1 g1 g2 g3 (fun q => hin (q.imp id (fun z => Nat.le_trans g4.1 z))) (g5 _ (ax_ltOf hin)) rfl rfl hd (kn _ _ _ _ _ _ _ _ _ _ h1 hs)
theorem sx_caload (cx : ax_Cx G p R s m args meth c own cc nL) (hd : decode cc pc = .ok (.caload, 1)) (kn : ax_Ko G p l e R s m args below meth c nL Qf (pc + 1) nx) (h : ax_ins C Q rt nx jm pc a b c0 lv st M rc rs (.caload)) (hs : ax_SR G s R nL lv M rc rs H locs cells slots ls) : W p l e R s m args below meth c H locs cells slots Qf (F0 m pc ls (st.map (ax_tr G))) := by
  obtain ⟨o, i, st, rfl, h0, hin, h1⟩ := ax_io_inv h
  obtain ⟨-, htl, h4⟩ := ax_arOf cx hs.2.2.1 h0 (by omega)
  rw [ax_avI (by rw [h0.2]; omega)] at h4
  exact W.cald cx.1 cx.2.1 h4 ((ax_arK cx htl).1 _ _) (fun q => by cases q) (ax_szOf hin) (arrV_read _ _ (ax_ltOf hin)) rfl rfl hd (kn _ _ _ _ _ _ _ _ _ _ h1 hs)
theorem sx_laload (cx : ax_Cx G p R s m args meth c own cc nL) (hd : decode cc pc = .ok (.laload, 1)) (kn : ax_Ko G p l e R s m args below meth c nL Qf (pc + 1) nx) (h : ax_ins C Q rt nx jm pc a b c0 lv st M rc rs (.laload)) (hs : ax_SR G s R nL lv M rc rs H locs cells slots ls) : W p l e R s m args below meth c H locs cells slots Qf (F0 m pc ls (st.map (ax_tr G))) := by
  obtain ⟨o, i, st, rfl, h0, hin, h1⟩ := ax_io_inv h
  obtain ⟨-, htl, h4⟩ := ax_arOf cx hs.2.2.1 h0 (by omega)
  rw [ax_avL h0.2] at h4
  exact W.lald cx.1 cx.2.1 h4 ((ax_arK cx htl).1 _ _) (fun q => by cases q) (ax_szOf hin) (arrV_read _ _ (ax_ltOf hin)) rfl rfl hd (kn _ _ _ _ _ _ _ _ _ _ h1 hs)
theorem sx_baload (cx : ax_Cx G p R s m args meth c own cc nL) (hd : decode cc pc = .ok (.baload, 1)) (kn : ax_Ko G p l e R s m args below meth c nL Qf (pc + 1) nx) (h : ax_ins C Q rt nx jm pc a b c0 lv st M rc rs (.baload)) (hs : ax_SR G s R nL lv M rc rs H locs cells slots ls) : W p l e R s m args below meth c H locs cells slots Qf (F0 m pc ls (st.map (ax_tr G))) := by
  obtain ⟨o, i, st, rfl, ⟨ho, h0 | h0⟩ | h0, hin, h1⟩ := ax_io_inv h
  · have h0 : ax_own M o 102 := ⟨ho, h0⟩
    obtain ⟨-, htl, h4⟩ := ax_arOf cx hs.2.2.1 h0 (by omega)
    rw [ax_avI (by rw [h0.2]; omega)] at h4
    exact W.bald cx.1 cx.2.1 h4 ((ax_arK cx htl).1 _ _) (fun q => by cases q) (ax_szOf hin) (arrV_read _ _ (ax_ltOf hin)) rfl rfl hd (kn _ _ _ _ _ _ _ _ _ _ h1 hs)
  · have h0 : ax_own M o (200 + 2) := ⟨ho, h0⟩
    obtain ⟨cell, g1, g2, g3, g4, g5⟩ := ax_roOf cx hs.2.2.1 hs.2.2.2.1 h0 (by omega)
    exact W.bald cx.1 cx.2.1 g1 g2 g3 (fun q => hin (q.imp id (fun z => Nat.le_trans g4.1 z))) (g5 _ (ax_ltOf hin)) rfl rfl hd (kn _ _ _ _ _ _ _ _ _ _ h1 hs)
  · obtain ⟨-, htl, h4⟩ := ax_arOf cx hs.2.2.1 h0 (by omega)
    rw [ax_avI (by rw [h0.2]; omega)] at h4
    exact W.zald cx.1 cx.2.1 h4 ((ax_arK cx htl).1 _ _) (fun q => by cases q) (ax_szOf hin) (arrV_read _ _ (ax_ltOf hin)) rfl rfl hd (kn _ _ _ _ _ _ _ _ _ _ h1 hs)
theorem sx_aaload (cx : ax_Cx G p R s m args meth c own cc nL) (hd : decode cc pc = .ok (.aaload, 1)) (kn : ax_Ko G p l e R s m args below meth c nL Qf (pc + 1) nx) (h : ax_ins C Q rt nx jm pc a b c0 lv st M rc rs (.aaload)) (hs : ax_SR G s R nL lv M rc rs H locs cells slots ls) : W p l e R s m args below meth c H locs cells slots Qf (F0 m pc ls (st.map (ax_tr G))) := by
  obtain ⟨o, i, st, rfl, ⟨ci, hci, h0⟩, hin, h1⟩ := ax_io_inv h
  obtain ⟨-, htl, h4⟩ := ax_arOf cx hs.2.2.1 h0 (by omega)
  rw [ax_avR (by rw [h0.2]; omega)] at h4
  have href : (ax_aty (110 + ci - 100)).isReference = true := by rcases hci with rfl | rfl | rfl <;> rfl
  exact W.aald cx.1 cx.2.1 h4 ((ax_arK cx htl).1 _ _) href (fun q => by cases q) (ax_szOf hin) (arrV_read _ _ (ax_ltOf hin)) rfl rfl hd (kn _ _ _ _ _ _ _ _ _ _ h1 hs)
theorem sx_arraylength (cx : ax_Cx G p R s m args meth c own cc nL) (hd : decode cc pc = .ok (.arraylength, 1)) (kn : ax_Ko G p l e R s m args below meth c nL Qf (pc + 1) nx) (h : ax_ins C Q rt nx jm pc a b c0 lv st M rc rs (.arraylength)) (hs : ax_SR G s R nL lv M rc rs H locs cells slots ls) : W p l e R s m args below meth c H locs cells slots Qf (F0 m pc ls (st.map (ax_tr G))) := by
  obtain ⟨o, st, rfl, ho, t1, t2, h1⟩ := ax_1o_inv h
  by_cases ht : ax_tg M o < 200
  · obtain ⟨-, htl, h4⟩ := ax_arOf cx hs.2.2.1 (t := ax_tg M o) ⟨ho, rfl⟩ ⟨t1, ht⟩
    exact W.alen (n := Int32.ofNat (ax_ln M o)) cx.1 cx.2.1 h4 ((ax_arK cx htl).1 _ _) (by rw [arrV_size] <;> rfl) rfl rfl hd (kn _ _ _ _ _ _ _ _ _ _ h1 hs)
  · obtain ⟨cell, g1, g2, g3, g4, g5⟩ := ax_roOf cx hs.2.2.1 hs.2.2.2.1 (t := ax_tg M o - 200) ⟨ho, by omega⟩ (by omega)
    exact W.alen (n := Int32.ofNat (ax_ln M o)) cx.1 cx.2.1 g1 g2 (by first | exact g4.2 | exact g4.2.symm | (rw [← g4.2]; rfl)) rfl rfl hd (kn _ _ _ _ _ _ _ _ _ _ h1 hs)
theorem sx_iastore (cx : ax_Cx G p R s m args meth c own cc nL) (hd : decode cc pc = .ok (.iastore, 1)) (kn : ax_Ko G p l e R s m args below meth c nL Qf (pc + 1) nx) (h : ax_ins C Q rt nx jm pc a b c0 lv st M rc rs (.iastore)) (hs : ax_SR G s R nL lv M rc rs H locs cells slots ls) : W p l e R s m args below meth c H locs cells slots Qf (F0 m pc ls (st.map (ax_tr G))) := by
  obtain ⟨o, i, x, st, rfl, h0, hin, h1⟩ := ax_iio_inv h
  obtain ⟨-, htl, h4⟩ := ax_arOf cx hs.2.2.1 h0 (by omega)
  refine W.iast cx.1 cx.2.1 h4 ((ax_arK cx htl).1 _ _) (fun q => by cases q) (ax_szOf hin) rfl rfl hd fun H1 e1 e2 e3 => ?_
  exact kn _ _ _ _ _ _ _ _ _ _ h1 (ax_arput cx hs h0 (by omega) e1 e2 e3 (ax_av_si (by rw [h0.2]; omega)) (fun q hq => ax_eqAt_si hq) rfl rfl rfl)
theorem sx_castore (cx : ax_Cx G p R s m args meth c own cc nL) (hd : decode cc pc = .ok (.castore, 1)) (kn : ax_Ko G p l e R s m args below meth c nL Qf (pc + 1) nx) (h : ax_ins C Q rt nx jm pc a b c0 lv st M rc rs (.castore)) (hs : ax_SR G s R nL lv M rc rs H locs cells slots ls) : W p l e R s m args below meth c H locs cells slots Qf (F0 m pc ls (st.map (ax_tr G))) := by
  obtain ⟨o, i, x, st, rfl, h0, hin, h1⟩ := ax_iio_inv h
  obtain ⟨-, htl, h4⟩ := ax_arOf cx hs.2.2.1 h0 (by omega)
  refine W.cast cx.1 cx.2.1 h4 ((ax_arK cx htl).1 _ _) (fun q => by cases q) (ax_szOf hin) rfl rfl hd fun H1 e1 e2 e3 => ?_
  exact kn _ _ _ _ _ _ _ _ _ _ h1 (ax_arput cx hs h0 (by omega) e1 e2 e3 (ax_av_si (x := vp_nar .char x) (by rw [h0.2]; omega)) (fun q hq => ax_eqAt_si hq) rfl rfl rfl)
theorem sx_lastore (cx : ax_Cx G p R s m args meth c own cc nL) (hd : decode cc pc = .ok (.lastore, 1)) (kn : ax_Ko G p l e R s m args below meth c nL Qf (pc + 1) nx) (h : ax_ins C Q rt nx jm pc a b c0 lv st M rc rs (.lastore)) (hs : ax_SR G s R nL lv M rc rs H locs cells slots ls) : W p l e R s m args below meth c H locs cells slots Qf (F0 m pc ls (st.map (ax_tr G))) := by
  obtain ⟨o, i, x, st, rfl, h0, hin, h1⟩ := ax_lio_inv h
  obtain ⟨-, htl, h4⟩ := ax_arOf cx hs.2.2.1 h0 (by omega)
  refine W.last cx.1 cx.2.1 h4 ((ax_arK cx htl).1 _ _) (fun q => by cases q) (ax_szOf hin) rfl rfl hd fun H1 e1 e2 e3 => ?_
  exact kn _ _ _ _ _ _ _ _ _ _ h1 (ax_arput cx hs h0 (by omega) e1 e2 e3 (ax_av_sl h0.2) (fun q hq => ax_eqAt_sl hq) rfl rfl rfl)
theorem sx_bastore (cx : ax_Cx G p R s m args meth c own cc nL) (hd : decode cc pc = .ok (.bastore, 1)) (kn : ax_Ko G p l e R s m args below meth c nL Qf (pc + 1) nx) (h : ax_ins C Q rt nx jm pc a b c0 lv st M rc rs (.bastore)) (hs : ax_SR G s R nL lv M rc rs H locs cells slots ls) : W p l e R s m args below meth c H locs cells slots Qf (F0 m pc ls (st.map (ax_tr G))) := by
  obtain ⟨o, i, x, st, rfl, hin, h1⟩ := ax_iio_inv h
  by_cases hc : c0 = 1
  · rw [if_pos hc] at h1
    obtain ⟨h0, h1⟩ := h1
    obtain ⟨-, htl, h4⟩ := ax_arOf cx hs.2.2.1 h0 (by omega)
    refine W.zast cx.1 cx.2.1 h4 ((ax_arK cx htl).1 _ _) (fun q => by cases q) (ax_szOf hin) rfl rfl hd fun H1 e1 e2 e3 => ?_
    exact kn _ _ _ _ _ _ _ _ _ _ h1 (ax_arput cx hs h0 (by omega) e1 e2 e3 (ax_av_si (x := vp_nar .boolean x) (by rw [h0.2]; omega)) (fun q hq => ax_eqAt_si hq) rfl rfl rfl)
  · rw [if_neg hc] at h1
    obtain ⟨h0, h1⟩ := h1
    obtain ⟨-, htl, h4⟩ := ax_arOf cx hs.2.2.1 h0 (by omega)
    refine W.bast cx.1 cx.2.1 h4 ((ax_arK cx htl).1 _ _) (fun q => by cases q) (ax_szOf hin) rfl rfl hd fun H1 e1 e2 e3 => ?_
    exact kn _ _ _ _ _ _ _ _ _ _ h1 (ax_arput cx hs h0 (by omega) e1 e2 e3 (ax_av_si (x := vp_nar .byte x) (by rw [h0.2]; omega)) (fun q hq => ax_eqAt_si hq) rfl rfl rfl)
theorem sx_aastore (cx : ax_Cx G p R s m args meth c own cc nL) (hd : decode cc pc = .ok (.aastore, 1)) (kn : ax_Ko G p l e R s m args below meth c nL Qf (pc + 1) nx) (h : ax_ins C Q rt nx jm pc a b c0 lv st M rc rs (.aastore)) (hs : ax_SR G s R nL lv M rc rs H locs cells slots ls) : W p l e R s m args below meth c H locs cells slots Qf (F0 m pc ls (st.map (ax_tr G))) := by
  obtain ⟨o, i, v, st, rfl, ⟨ci, hci, h0, hv⟩, hin, h1⟩ := ax_rio_inv h
  obtain ⟨-, htl, h4⟩ := ax_arOf cx hs.2.2.1 h0 (by omega)
  obtain ⟨-, cellV, g1, g2, g3, -⟩ := ax_obOf cx hs.2.2.1 hv (by omega)
  obtain ⟨r, hc, -, -, -, -, hnm⟩ := ax_cls ci (by omega)
  have hcls := (cx.2.2.2.2.2.2.1.1 ci r hc).2
  have hty : ax_aty (110 + ci - 100) = .object r.1 := by rw [← hnm]; rcases hci with rfl | rfl | rfl <;> rfl
  have hra := (ax_arK cx htl).2
  rw [hty] at hra
  obtain ⟨kA, comp, k1, k2, k3, -⟩ := hra
  have hcomp : comp = G.1.1 ci := Option.some.inj (k3.symm.trans hcls.1)
  subst hcomp
  obtain ⟨kC, hkC, -⟩ := hcls.2
  have hlt := ax_ltOf hin
  refine W.aast cx.1 cx.2.1 h4 (fun q h => by cases h) (fun h => by cases h) k1 k2 rfl hkC ⟨fun q => hin (Or.inl q), by rw [arrV_size]; exact hlt⟩ g1 (fun q h => by rw [g3] at h; cases h) (by rw [g2]; exact hkC) (by rw [g2]; exact va_assign hcls) rfl rfl hd fun H1 e1 e2 e3 => ?_
  exact kn _ _ _ _ _ _ _ _ _ _ h1 (ax_arput cx hs h0 (by omega) e1 e2 e3 (ax_av_sr (x := some v) (by rw [h0.2]; omega)) (fun q hq => ax_eqAt_sr hq) rfl rfl rfl)
/-- a new cell: the memory behind it -/
theorem ax_grow {t len w : Nat} {H1 : Heap} (cx : ax_Cx G p R s m args meth c own cc nL) (hs : ax_SR G s R nL lv M rc rs H locs cells slots ls) (hrc : 1 ≤ rc) (hrs : w ≤ rs) (z1 : H1.size = H.size + 1) (o1 : ∀ q, q < H.size → H1[q]? = H[q]?)
    (h1 : ax_r1 G (ax_new M t len) H1 (ax_n M)) : ax_SR G s R nL lv (ax_new M t len) (rc - 1) (rs - w) H1 locs (cells + 1) (slots + w) ls := by
  obtain ⟨a1, a2, a3, a4, a5, a6⟩ := hs
  exact ⟨a1, a2, a3.push cx.2.2.2.2.2.1 z1 o1 h1, ⟨by have := a4.1; omega, fun q q1 q2 => (o1 q (by have := a4.1; omega)).trans (a4.2.1 q q1 q2), a4.2.2⟩, by omega, by omega⟩
theorem ax_new_tg {t len : Nat} : ax_tg (ax_new M t len) (ax_n M) = t := by simp [ax_tg, ax_new]
theorem ax_new_ln {t len : Nat} : ax_ln (ax_new M t len) (ax_n M) = len := by simp [ax_ln, ax_new]
theorem ax_new_av {t len : Nat} : ax_av G (ax_new M t len) (ax_n M) = fun _ => if t < 104 then .int 0 else if t = 104 then .long 0 else .null := by
  funext k
  unfold ax_av
  rw [ax_new_tg]
  simp [ax_hi, ax_hl, ax_hr, ax_new, va_rf]
theorem sx_new {idx : Nat} (cx : ax_Cx G p R s m args meth c own cc nL) (hd : decode cc pc = .ok (.new idx, 3)) (hlk : Cond.classLink own idx (ax_nm a) ∈ ax_ws) (ha : a < 15) (hb : b = ax_N a) (hc9 : c0 ≠ 9) (kn : ax_Ko G p l e R s m args below meth c nL Qf (pc + 3) nx) (h : ax_ins C Q rt nx jm pc a b c0 lv st M rc rs (.new idx)) (hs : ax_SR G s R nL lv M rc rs H locs cells slots ls) : W p l e R s m args below meth c H locs cells slots Qf (F0 m pc ls (st.map (ax_tr G))) := by
  have h9 : 1 ≤ rc ∧ b ≤ rs ∧ nx lv (.inr (.inl (some (ax_n M))) :: st) (ax_new M a 0) (rc - 1) (rs - b) := by
    have h8 := h; unfold ax_ins at h8; rw [if_neg hc9] at h8; exact h8
  obtain ⟨k1, k2, h1⟩ := h9
  obtain ⟨r, hc, hN, hin, hty, -, hnm⟩ := ax_cls a ha
  have hKn := cx.2.2.2.2.2.2.1.1 a r hc
  have hcl := cx.2.2.2.2.1 _ hlk
  have hi1 := cx.2.2.2.2.1 _ (ax_clsI a ha).1
  have hi2 := cx.2.2.2.2.1 _ (ax_clsI a ha).2
  rw [hnm] at hcl hi1 hi2
  rw [← hb] at hi1
  have ead := ax_Rel.adn cx.2.2.2.2.2.1 hs.2.2.1
  refine W.newcK cx.1 cx.2.1 cx.2.2.2.1 hcl hi1 hi2 rfl hd (by have := hs.2.2.2.2.1; omega) (by have := hs.2.2.2.2.2; omega) hKn.2.1 rfl fun H1 kC hkC e1 z1 o1 => ?_
  rw [← ead]
  refine kn _ _ _ _ _ _ _ _ _ _ h1 (ax_grow cx hs k1 k2 z1 o1 (Or.inl ⟨by rw [ax_new_tg]; exact ha, ?_⟩))
  rw [ax_new_tg]
  unfold ax_ob
  rw [ead, hN]
  refine (u_born (ax_ty a) cx.2.2.2.2.1 hin hKn hkC e1 hty).to fun j hj => ?_
  rw [ax_tok_dv (ax_tok_all a ha j (by rw [hN]; exact hj))]
  simp [ax_fv, ax_hr, ax_hi, ax_new, va_rf]
theorem sx_newarray {at0 : ArrayType} (cx : ax_Cx G p R s m args meth c own cc nL) (hd : decode cc pc = .ok (.newarray at0, 2)) (hlk : Cond.arrayClass (newarray.typeOf at0) ∈ ax_ws) (ha : 100 ≤ a ∧ a < 105) (hty : newarray.typeOf at0 = ax_aty (a - 100)) (kn : ax_Ko G p l e R s m args below meth c nL Qf (pc + 2) nx) (h : ax_ins C Q rt nx jm pc a b c0 lv st M rc rs (.newarray at0)) (hs : ax_SR G s R nL lv M rc rs H locs cells slots ls) : W p l e R s m args below meth c H locs cells slots Qf (F0 m pc ls (st.map (ax_tr G))) := by
  obtain ⟨x, st, rfl, hx, hx2, k1, k2, h1⟩ := ax_1i_inv h
  have ead := ax_Rel.adn cx.2.2.2.2.2.1 hs.2.2.1
  have htl : a - 100 ∈ ax_tl := by
    rcases (show a = 100 ∨ a = 101 ∨ a = 102 ∨ a = 103 ∨ a = 104 by omega) with rfl | rfl | rfl | rfl | rfl <;> decide
  refine va_newaK cx.1 cx.2.1 (cx.2.2.2.2.1 _ hlk) rfl hd rfl hx rfl ?_ (by have := hs.2.2.2.2.1; omega) (by have := hs.2.2.2.2.2; omega) rfl fun H1 cA e1 z1 o1 hAr hNm => ?_
  · have hcb : componentBytes (newarray.typeOf at0) ≤ 8 := by cases at0 <;> decide
    exact Nat.le_trans (Nat.mul_le_mul hx2 hcb) (by decide)
  · rw [← ead]
    have hcA : cA = G.2.1 (a - 100) := by
      have hra := (ax_arK cx htl).2
      rw [← hty] at hra
      refine Option.some.inj (hNm.symm.trans ?_)
      cases at0 <;> exact hra
    refine kn _ _ _ _ _ _ _ _ _ _ h1 (ax_grow cx hs k1 k2 z1 o1 (Or.inr (Or.inl ⟨by rw [ax_new_tg]; omega, by rw [ax_new_tg]; omega, by rw [ax_new_tg]; exact htl, ?_⟩)))
    rw [ax_new_tg, ax_new_ln, ead, e1, hcA, hty, ax_new_av]
    congr 2
    funext k
    rcases (show a = 100 ∨ a = 101 ∨ a = 102 ∨ a = 103 ∨ a = 104 by omega) with rfl | rfl | rfl | rfl | rfl <;> rfl
theorem sx_anewarray {idx ci : Nat} (cx : ax_Cx G p R s m args meth c own cc nL) (hd : decode cc pc = .ok (.anewarray idx, 3)) (hci : ci = 4 ∨ ci = 8 ∨ ci = 11) (hlk : Cond.classLink own idx (ax_nm ci) ∈ ax_ws) (ha : a = 110 + ci) (kn : ax_Ko G p l e R s m args below meth c nL Qf (pc + 3) nx) (h : ax_ins C Q rt nx jm pc a b c0 lv st M rc rs (.anewarray idx)) (hs : ax_SR G s R nL lv M rc rs H locs cells slots ls) : W p l e R s m args below meth c H locs cells slots Qf (F0 m pc ls (st.map (ax_tr G))) := by
  obtain ⟨x, st, rfl, hx, hx2, k1, k2, h1⟩ := ax_1i_inv h
  have ead := ax_Rel.adn cx.2.2.2.2.2.1 hs.2.2.1
  have htl : a - 100 ∈ ax_tl := by rcases hci with rfl | rfl | rfl <;> subst ha <;> decide
  have hty : ax_aty (a - 100) = .object (ax_nm ci) := by rcases hci with rfl | rfl | rfl <;> subst ha <;> rfl
  have hao := cx.2.2.2.2.2.2.2.1.2.2.2.2.2.1 ci hci
  refine W.anew cx.1 cx.2.1 cx.2.2.2.1 (cx.2.2.2.2.1 _ hlk) (va_AO.use hao) rfl hd rfl hx (by omega) (by have := hs.2.2.2.2.1; omega) (by have := hs.2.2.2.2.2; omega) fun cA kA comp f1 f2 f3 f4 => ?_
  generalize hH1 : H.push ({ cls := cA, slots := Array.replicate x.toNatClampNeg .null, vm := .none } : Cell) = H1
  have z1 : H1.size = H.size + 1 := by rw [← hH1, Array.size_push]
  have e1 : H1[H.size]? = some (arrV cA x.toNatClampNeg (fun _ => .null)) := by rw [← hH1, Array.getElem?_push_size, ← arrV_new]
  have o1 : ∀ q : Nat, q < H.size → H1[q]? = H[q]? := fun q hq => by rw [← hH1, Array.getElem?_push, if_neg (Nat.ne_of_lt hq)]
  have hcA : cA = G.2.1 (a - 100) := by
    have hra := (ax_arK cx htl).2
    rw [hty] at hra
    obtain ⟨kA2, comp2, -, -, -, g4⟩ := hra
    exact Option.some.inj (f1.symm.trans g4)
  rw [← ead]
  refine kn _ _ _ _ _ _ _ _ _ _ h1 (ax_grow cx hs k1 k2 z1 o1 (Or.inr (Or.inl ⟨by rw [ax_new_tg]; omega, by rw [ax_new_tg]; omega, by rw [ax_new_tg]; exact htl, ?_⟩)))
  rw [ax_new_tg, ax_new_ln, ead, e1, hcA, ax_new_av]
  congr 2
  funext k
  rw [if_neg (by omega), if_neg (by omega)]
theorem sx_ldc {idx : Nat} (cx : ax_Cx G p R s m args meth c own cc nL) (hd : decode cc pc = .ok (.ldc idx, 2)) (hk : c0 = 0 ∧ Cond.constant own idx (Int32.ofNat a) ∈ ax_ws ∨ c0 ≠ 0 ∧ ∃ tx, (own, idx, tx, b) ∈ ax_sc) (kn : ax_Ko G p l e R s m args below meth c nL Qf (pc + 2) nx) (h : ax_ins C Q rt nx jm pc a b c0 lv st M rc rs (.ldc idx)) (hs : ax_SR G s R nL lv M rc rs H locs cells slots ls) : W p l e R s m args below meth c H locs cells slots Qf (F0 m pc ls (st.map (ax_tr G))) := by
  rcases hk with ⟨k1, k2⟩ | ⟨k1, tx, k2⟩
  · have h9 : nx lv (.inl (Int32.ofNat a) :: st) M rc rs := by have h8 := h; unfold ax_ins at h8; rw [if_pos k1] at h8; exact h8
    exact lv_ldc cx.1 cx.2.1 cx.2.2.2.1 (cx.2.2.2.2.1 _ k2) hd (kn _ _ _ _ _ _ _ _ _ _ h9 hs)
  · have h9 : nx lv (.inr (.inl (some b)) :: st) M rc rs := by have h8 := h; unfold ax_ins at h8; rw [if_neg k1] at h8; exact h8
    exact va_ldcS cx.1 cx.2.1 cx.2.2.2.1 (cx.2.2.2.2.2.2.2.1.2.1 _ k2) hd (kn _ _ _ _ _ _ _ _ _ _ h9 hs)
theorem ax_ldcSW {tx : String} {index q : Nat} {rest : List Value} (hexec : p.tables.exec = Jvm.exec) (hb : c.code = cc) (hown : s.vm.findClass own = some m.cls) (hZ : vk_R own index tx q s) (hdg : decode cc pc = .ok (.ldc_w index, 3))
    (k : W p l e R s m args below meth c H locs cells slots Qf (F0 m (pc + 3) ls (.ref q :: rest))) : W p l e R s m args below meth c H locs cells slots Qf (F0 m pc ls rest) := by
  intro T hT X
  obtain ⟨t, a1, b1⟩ := k T hT X
  exact ⟨t, X.ldcStringW hexec hown (text := tx) (a := q) hZ.1 hZ.2 (g := F0 m pc ls rest) rfl (by rw [hb]; exact hdg) t a1, b1⟩
theorem sx_ldc_w {idx : Nat} (cx : ax_Cx G p R s m args meth c own cc nL) (hd : decode cc pc = .ok (.ldc_w idx, 3)) (hk : c0 = 0 ∧ Cond.constant own idx (Int32.ofNat a) ∈ ax_ws ∨ c0 ≠ 0 ∧ ∃ tx, (own, idx, tx, b) ∈ ax_sc) (kn : ax_Ko G p l e R s m args below meth c nL Qf (pc + 3) nx) (h : ax_ins C Q rt nx jm pc a b c0 lv st M rc rs (.ldc_w idx)) (hs : ax_SR G s R nL lv M rc rs H locs cells slots ls) : W p l e R s m args below meth c H locs cells slots Qf (F0 m pc ls (st.map (ax_tr G))) := by
  rcases hk with ⟨k1, k2⟩ | ⟨k1, tx, k2⟩
  · have h9 : nx lv (.inl (Int32.ofNat a) :: st) M rc rs := by have h8 := h; unfold ax_ins at h8; rw [if_pos k1] at h8; exact h8
    exact lv_ldcw cx.1 cx.2.1 cx.2.2.2.1 (cx.2.2.2.2.1 _ k2) hd (kn _ _ _ _ _ _ _ _ _ _ h9 hs)
  · have h9 : nx lv (.inr (.inl (some b)) :: st) M rc rs := by have h8 := h; unfold ax_ins at h8; rw [if_neg k1] at h8; exact h8
    exact ax_ldcSW cx.1 cx.2.1 cx.2.2.2.1 (cx.2.2.2.2.2.2.2.1.2.1 _ k2) hd (kn _ _ _ _ _ _ _ _ _ _ h9 hs)
theorem sx_getstatic {idx : Nat} {Cn n0 d0 : String} (cx : ax_Cx G p R s m args meth c own cc nL) (hd : decode cc pc = .ok (.getstatic idx, 3)) (hlk : Cond.fieldLink own idx Cn n0 d0 ∈ ax_ws) (hk : c0 = 0 ∧ (Cn, n0, d0, Sum.inl a) ∈ ax_sv ∨ c0 = 1 ∧ (Cn, n0, d0, Sum.inr b) ∈ ax_sv ∨ c0 = 2 ∧ Cn = "jdk/internal/util/Preconditions" ∧ n0 = "SIOOBE_FORMATTER" ∧ d0 = "Ljava/util/function/BiFunction;") (kn : ax_Ko G p l e R s m args below meth c nL Qf (pc + 3) nx) (h : ax_ins C Q rt nx jm pc a b c0 lv st M rc rs (.getstatic idx)) (hs : ax_SR G s R nL lv M rc rs H locs cells slots ls) : W p l e R s m args below meth c H locs cells slots Qf (F0 m pc ls (st.map (ax_tr G))) := by
  have hK := cx.2.2.2.2.2.2.2.1
  rcases hk with ⟨rfl, k2⟩ | ⟨rfl, k2⟩ | ⟨rfl, rfl, rfl, rfl⟩
  · exact va_gets cx.1 cx.2.1 (hK.2.2.2.1 _ k2) hs.2.2.2.1 cx.2.2.2.1 (cx.2.2.2.2.1 _ hlk) (fun _ h => h) hd (kn _ _ _ _ _ _ _ _ _ _ h hs)
  · exact va_gets cx.1 cx.2.1 (hK.2.2.2.1 _ k2) hs.2.2.2.1 cx.2.2.2.1 (cx.2.2.2.2.1 _ hlk) (fun _ h => h) hd (kn _ _ _ _ _ _ _ _ _ _ h hs)
  · have h9 : nx lv (.inr (.inl (ax_hr M 0 0)) :: st) M rc rs := h
    have e4 := (hs.2.2.1.2.2.2 0 (by rw [cx.2.2.2.2.2.2.2.2.2.2.1]; decide)).2.2.2
    have h5 := hK.2.2.2.2.1
    rw [← e4] at h5
    exact va_gets cx.1 cx.2.1 h5 hs.2.2.2.1 cx.2.2.2.1 (cx.2.2.2.2.1 _ hlk) (fun _ h => h) hd (kn _ _ _ _ _ _ _ _ _ _ h9 hs)
/-- a receiver's cell -/
theorem ax_recv (cx : ax_Cx G p R s m args meth c own cc nL) (hs : ax_SR G s R nL lv M rc rs H locs cells slots ls) {ci o : Nat} (hc : ci < 15) (h : ax_rc M ci (some (.inr (.inl (some o))))) : ∃ cell : Cell, H[ax_ad G o]? = some cell ∧ cell.vm.isStatics = false ∧ s.vm.findClass (ax_nm ci) = some cell.cls := by
  obtain ⟨ho, ht | ⟨rfl, ht⟩⟩ := h
  · obtain ⟨-, cell, g1, g2, g3, -⟩ := ax_obOf cx hs.2.2.1 (o := o) ⟨ho, ht⟩ hc
    obtain ⟨r, hr, -, -, -, -, hnm⟩ := ax_cls ci hc
    exact ⟨cell, g1, by rw [g3]; rfl, by rw [g2, hnm]; exact (cx.2.2.2.2.2.2.1.1 ci r hr).2.1⟩
  · obtain ⟨hk, ht2⟩ := ax_constOf cx hs.2.2.1 (o := o) (t := 300) ⟨ho, ht⟩ (by omega)
    rcases cx.2.2.2.2.2.2.2.1.1 o hk with ⟨-, -, -, g⟩ | ⟨g, -⟩ | g
    · obtain ⟨cell, g1, g2, g3, -⟩ := va_O.kept g hs.2.2.2.1.2.1
      exact ⟨cell, g1, g2, g3⟩
    · omega
    · omega
theorem sx_instanceof {idx : Nat} (cx : ax_Cx G p R s m args meth c own cc nL) (hd : decode cc pc = .ok (.instanceof idx, 3)) (hlk : Cond.classLink own idx RJ0 ∈ ax_ws) (kn : ax_Ko G p l e R s m args below meth c nL Qf (pc + 3) nx) (h : ax_ins C Q rt nx jm pc a b c0 lv st M rc rs (.instanceof idx)) (hs : ax_SR G s R nL lv M rc rs H locs cells slots ls) : W p l e R s m args below meth c H locs cells slots Qf (F0 m pc ls (st.map (ax_tr G))) := by
  obtain ⟨h0, h1⟩ := h
  match st, h0, h1 with
  | .inr (.inl (some o)) :: st, h0, h1 =>
    exact va_instS cx.1 cx.2.1 cx.2.2.2.1 (cx.2.2.2.2.1 _ hlk) (cx.2.2.2.2.2.2.1.1 0 _ rfl).2 (ax_recv cx hs (ci := 0) (by omega) h0) hd (kn _ _ _ _ _ _ _ _ _ _ h1 hs)
theorem sx_checkcast {idx : Nat} (cx : ax_Cx G p R s m args meth c own cc nL) (hd : decode cc pc = .ok (.checkcast idx, 3)) (hlk : Cond.classLink own idx RJ0 ∈ ax_ws) (kn : ax_Ko G p l e R s m args below meth c nL Qf (pc + 3) nx) (h : ax_ins C Q rt nx jm pc a b c0 lv st M rc rs (.checkcast idx)) (hs : ax_SR G s R nL lv M rc rs H locs cells slots ls) : W p l e R s m args below meth c H locs cells slots Qf (F0 m pc ls (st.map (ax_tr G))) := by
  obtain ⟨h0, h1⟩ := h
  match st, h0, h1 with
  | .inr (.inl (some o)) :: st, h0, h1 =>
    exact va_castS cx.1 cx.2.1 cx.2.2.2.1 (cx.2.2.2.2.1 _ hlk) (cx.2.2.2.2.2.2.1.1 0 _ rfl).2 (ax_recv cx hs (ci := 0) (by omega) h0) hd (kn _ _ _ _ _ _ _ _ _ _ h1 hs)
end AX7

