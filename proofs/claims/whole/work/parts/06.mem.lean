theorem ax_in {ws : List Cond} (ps : List Nat) (hl : ws.length = ps.length) (h : (ws.zip ps).all (fun q => decide (lw_tbl[q.2]? = some q.1) && goodWord q.1) = true) : ∀ w ∈ ws, w ∈ ax_ws := by
  intro w hw
  obtain ⟨i, hi, rfl⟩ := List.getElem_of_mem hw
  have hi2 : i < ps.length := by omega
  have hm : (ws[i], ps[i]) ∈ ws.zip ps := by
    rw [List.mem_iff_getElem]
    exact ⟨i, by rw [List.length_zip]; omega, by simp⟩
  have h1 := List.all_eq_true.mp h _ hm
  simp only [Bool.and_eq_true, decide_eq_true_eq] at h1
  exact ax_ws_of h1.1 h1.2
set_option maxRecDepth 20000 in
theorem in_J0 : ∀ w ∈ u_ws RJ0 TJ0 4, w ∈ ax_ws := ax_in [747, 749, 751, 753] rfl (by decide +kernel)
set_option maxRecDepth 20000 in
theorem in_J4 : ∀ w ∈ u_ws RJ4 TJ4 4, w ∈ ax_ws := ax_in [1020, 1022, 1024, 1026] rfl (by decide +kernel)
set_option maxRecDepth 20000 in
theorem in_X0 : ∀ w ∈ u_ws RX0 TX0 9, w ∈ ax_ws := ax_in [299, 283, 285, 287, 289, 291, 293, 295, 297] rfl (by decide +kernel)
set_option maxRecDepth 20000 in
theorem in_X1 : ∀ w ∈ u_ws RX1 TX1 13, w ∈ ax_ws := ax_in [433, 429, 431, 435, 437, 439, 441, 443, 445, 447, 449, 451, 453] rfl (by decide +kernel)
set_option maxRecDepth 20000 in
theorem in_X2 : ∀ w ∈ u_ws RX2 TX2 3, w ∈ ax_ws := ax_in [224, 226, 228] rfl (by decide +kernel)
set_option maxRecDepth 20000 in
theorem in_X3 : ∀ w ∈ u_ws RX3 TX3 2, w ∈ ax_ws := ax_in [134, 136] rfl (by decide +kernel)
set_option maxRecDepth 20000 in
theorem in_X4 : ∀ w ∈ u_ws RX4 TX4 5, w ∈ ax_ws := ax_in [249, 251, 253, 255, 257] rfl (by decide +kernel)
set_option maxRecDepth 20000 in
theorem in_X5 : ∀ w ∈ u_ws RX5 TX5 2, w ∈ ax_ws := ax_in [185, 187] rfl (by decide +kernel)
set_option maxRecDepth 20000 in
theorem in_X6 : ∀ w ∈ u_ws RX6 TX6 3, w ∈ ax_ws := ax_in [1235, 1237, 1239] rfl (by decide +kernel)
set_option maxRecDepth 20000 in
theorem in_X7 : ∀ w ∈ u_ws RX7 TX7 4, w ∈ ax_ws := ax_in [153, 155, 157, 159] rfl (by decide +kernel)
set_option maxRecDepth 20000 in
theorem in_X8 : ∀ w ∈ u_ws RX8 TX8 2, w ∈ ax_ws := ax_in [172, 174] rfl (by decide +kernel)
set_option maxRecDepth 20000 in
theorem in_X9 : ∀ w ∈ u_ws RX9 TX9 10, w ∈ ax_ws := ax_in [342, 344, 346, 348, 350, 352, 354, 356, 358, 360] rfl (by decide +kernel)
set_option maxRecDepth 20000 in
theorem in_X10 : ∀ w ∈ u_ws RX10 TX10 3, w ∈ ax_ws := ax_in [368, 370, 372] rfl (by decide +kernel)
set_option maxRecDepth 20000 in
theorem in_X11 : ∀ w ∈ u_ws RX11 TX11 1, w ∈ ax_ws := ax_in [457] rfl (by decide +kernel)
set_option maxRecDepth 20000 in
theorem in_X12 : ∀ w ∈ u_ws RX12 TX12 55, w ∈ ax_ws := ax_in [1369, 1371, 1373, 1375, 1377, 1379, 1381, 1383, 1385, 1387, 1389, 1391, 1393, 1395, 1397, 1399, 1401, 1403, 1405, 1407, 1409, 1411, 1413, 1415, 1417, 1419, 1421, 1423, 1425, 1427, 1429, 1431, 1433, 1435, 1437, 1439, 1441, 1443, 1445, 1447, 1449, 1451, 1453, 1455, 1457, 1459, 1461, 1463, 1465, 1467, 1469, 1471, 1473, 1475, 1477] rfl (by decide +kernel)
def ax_cok (ci : Nat) (r : vw_C) : Prop := ax_cl[ci]? = some r ∧ ax_N ci = r.2.2 ∧ (∀ w ∈ u_ws r.1 r.2.1 r.2.2, w ∈ ax_ws) ∧ (∀ k, k < r.2.2 → parseFieldDescriptor (r.2.1 k).2.2.1 = some (ax_ty ci k)) ∧ (∀ a, a < r.2.2 → ∀ b, b < r.2.2 → a ≠ b → (r.2.1 a).2.1 ≠ (r.2.1 b).2.1) ∧ ax_nm ci = r.1
theorem ax_cls : ∀ ci, ci < 15 → ∃ r, ax_cok ci r
  | 0, _ => ⟨(RJ0, TJ0, 4), rfl, rfl, in_J0, tyJ0_ok, nmJ0, rfl⟩
  | 1, _ => ⟨(RJ4, TJ4, 4), rfl, rfl, in_J4, tyJ4_ok, nmJ4, rfl⟩
  | 2, _ => ⟨(RX0, TX0, 9), rfl, rfl, in_X0, tyX0_ok, nmX0, rfl⟩
  | 3, _ => ⟨(RX1, TX1, 13), rfl, rfl, in_X1, tyX1_ok, nmX1, rfl⟩
  | 4, _ => ⟨(RX2, TX2, 3), rfl, rfl, in_X2, tyX2_ok, nmX2, rfl⟩
  | 5, _ => ⟨(RX3, TX3, 2), rfl, rfl, in_X3, tyX3_ok, nmX3, rfl⟩
  | 6, _ => ⟨(RX4, TX4, 5), rfl, rfl, in_X4, tyX4_ok, nmX4, rfl⟩
  | 7, _ => ⟨(RX5, TX5, 2), rfl, rfl, in_X5, tyX5_ok, nmX5, rfl⟩
  | 8, _ => ⟨(RX6, TX6, 3), rfl, rfl, in_X6, tyX6_ok, nmX6, rfl⟩
  | 9, _ => ⟨(RX7, TX7, 4), rfl, rfl, in_X7, tyX7_ok, nmX7, rfl⟩
  | 10, _ => ⟨(RX8, TX8, 2), rfl, rfl, in_X8, tyX8_ok, nmX8, rfl⟩
  | 11, _ => ⟨(RX9, TX9, 10), rfl, rfl, in_X9, tyX9_ok, nmX9, rfl⟩
  | 12, _ => ⟨(RX10, TX10, 3), rfl, rfl, in_X10, tyX10_ok, nmX10, rfl⟩
  | 13, _ => ⟨(RX11, TX11, 1), rfl, rfl, in_X11, tyX11_ok, nmX11, rfl⟩
  | 14, _ => ⟨(RX12, TX12, 55), rfl, rfl, in_X12, tyX12_ok, nmX12, rfl⟩
  | n + 15, h => absurd h (by omega)
/-- a field's row: declaring class, name, descriptor, final -/
def ax_fr (ci k : Nat) : String × String × String × Bool := match ax_cl[ci]? with
  | some r => r.2.1 k
  | none => ("", "", "", false)
def ax_fl (own : String) (idx ci k : Nat) : Cond := .fieldLink own idx (ax_fr ci k).1 (ax_fr ci k).2.1 (ax_fr ci k).2.2.1
theorem ax_fr_eq {ci k : Nat} {r : vw_C} (h : ax_cl[ci]? = some r) : ax_fr ci k = r.2.1 k := by unfold ax_fr; rw [h]
section AX6
variable {p : Program} {l : Launch} {e : Env} {R : Room} {s : State} {m : MethodId} {args : Array Value} {below : List Frame} {meth : Method} {c : Code} {Qf : State → Prop} {G : ax_G} {own : String} {cc : ByteArray} {nL : Nat}
variable {C : ax_C} {Q : ax_O → ax_M → Prop} {rt : Option FieldType} {nx : ax_K} {jm : Nat → ax_K} {pc a b c0 : Nat} {lv : ax_L} {st : List ax_V} {M : ax_M} {rc rs : Nat} {H : Heap} {locs : List Loc} {cells slots : Nat} {ls : Array Slot}
theorem ax_obOf (cx : ax_Cx G p R s m args meth c own cc nL) (hR : ax_Rel G M H) {o ci : Nat} (h : ax_own M o ci) (hc : ci < 15) : ax_gK G ≤ o ∧ ax_ob G M H o ci := by
  obtain ⟨ho, ht⟩ := h
  have hd := ax_dyn cx.2.2.2.2.2.1 hR (o := o) (by omega)
  rcases hR.1 o hd ho with ⟨h1, h2⟩ | ⟨h1, -⟩ | h1
  · rw [ht] at h2; exact ⟨hd, h2⟩
  · omega
  · omega
theorem ax_arOf (cx : ax_Cx G p R s m args meth c own cc nL) (hR : ax_Rel G M H) {o t : Nat} (h : ax_own M o t) (hc : 100 ≤ t ∧ t < 200) : ax_gK G ≤ o ∧ t - 100 ∈ ax_tl ∧ H[ax_ad G o]? = some (arrV (G.2.1 (t - 100)) (ax_ln M o) (ax_av G M o)) := by
  obtain ⟨ho, ht⟩ := h
  have hd := ax_dyn cx.2.2.2.2.2.1 hR (o := o) (by omega)
  rcases hR.1 o hd ho with ⟨h1, h2⟩ | ⟨-, -, h3, h4⟩ | h1
  · omega
  · rw [ht] at h3 h4; exact ⟨hd, h3, h4⟩
  · omega
/-- what the tables say of an array class -/
theorem ax_arK (cx : ax_Cx G p R s m args meth c own cc nL) {t : Nat} (h : t ∈ ax_tl) : ArrOfT s (G.2.1 t) (ax_aty t) ∧ va_RA s (G.2.1 t) (ax_aty t) := by
  have hm : (G.2.1 t, ax_aty t) ∈ ax_tys G := List.mem_map.mpr ⟨t, h, rfl⟩
  obtain ⟨k, hk⟩ := List.mem_iff_getElem?.mp hm
  exact cx.2.2.2.2.2.2.1.2 k _ hk
theorem ax_constOf (cx : ax_Cx G p R s m args meth c own cc nL) (hR : ax_Rel G M H) {o t : Nat} (h : ax_own M o t) (hc : 200 ≤ t ∧ t ≤ 300) : o < ax_gK G ∧ ax_tg (ax_gM G) o = t := by
  obtain ⟨ho, ht⟩ := h
  rcases Nat.lt_or_ge o (ax_gK G) with hk | hk
  · exact ⟨hk, by rw [← (hR.2.2.2 o hk).1]; exact ht⟩
  · rcases hR.1 o hk ho with ⟨h1, h2⟩ | ⟨h1, h2, -⟩ | h1 <;> omega
theorem ax_roOf (cx : ax_Cx G p R s m args meth c own cc nL) (hR : ax_Rel G M H) (hS : va_S (ax_Fr G) s.heap H locs) {o t : Nat} (h : ax_own M o (200 + t)) (hc : t < 10) : ax_ro (ax_aty t) (ax_ad G o) (ax_ln M o) (ax_hi M o) s H := by
  obtain ⟨hk, ht⟩ := ax_constOf cx hR h (by omega)
  obtain ⟨-, e2, e3, -⟩ := hR.2.2.2 o hk
  have hlt := (cx.2.2.2.2.2.1.2 o hk).1
  have hz := cx.2.2.2.2.2.2.2.2.1
  rcases cx.2.2.2.2.2.2.2.1.1 o hk with ⟨h1, -⟩ | ⟨-, h2⟩ | h1
  · omega
  · rw [ht, show 200 + t - 200 = t by omega, ← e2, ← e3] at h2
    exact ax_ro.kept h2 (hS.2.1 _ (by omega) (fun z => by have z1 : ax_gz G ≤ ax_ad G o := z; omega))
  · omega
theorem sx_getfield {idx : Nat} (cx : ax_Cx G p R s m args meth c own cc nL) (hd : decode cc pc = .ok (.getfield idx, 3)) (hlk : ax_fl own idx a b ∈ ax_ws) (ha : a < 15) (hb : b < ax_N a) (hk : c0 = 1 ∧ ax_isR (ax_ty a b) = true ∨ c0 ≠ 1 ∧ ax_isR (ax_ty a b) = false)
    (kn : ax_Ko G p l e R s m args below meth c nL Qf (pc + 3) nx) (h : ax_ins C Q rt nx jm pc a b c0 lv st M rc rs (.getfield idx)) (hs : ax_SR G s R nL lv M rc rs H locs cells slots ls) : W p l e R s m args below meth c H locs cells slots Qf (F0 m pc ls (st.map (ax_tr G))) := by
  obtain ⟨o, st, rfl, h0, h1⟩ := ax_1o_inv h
  have hv : ax_tr G (if c0 = 1 then .inr (.inl (ax_hr M o b)) else .inl (ax_hi M o b)) = ax_fv G M a o b := by
    unfold ax_fv
    rcases hk with ⟨k1, k2⟩ | ⟨k1, k2⟩
    · rw [if_pos k1, if_pos k2]; rfl
    · rw [if_neg k1, if_neg (by rw [k2]; decide)]; rfl
  have hlink := cx.2.2.2.2.1 _ hlk
  rcases h0 with h0 | ⟨hA, hB, h0⟩
  · obtain ⟨-, cell, q1, q2, q3, q4⟩ := ax_obOf cx hs.2.2.1 h0 ha
    obtain ⟨r, hc, hN, hin, -⟩ := ax_cls a ha
    obtain ⟨hS, hfc, kC, hkC, hkind⟩ := cx.2.2.2.2.2.2.1.1 a r hc
    rw [hN] at hb
    obtain ⟨cf, kf, fi, f, hi, hsl⟩ := hS b hb
    unfold ax_fl at hlink
    rw [ax_fr_eq hc] at hlink
    refine W.getf cx.1 cx.2.1 cx.2.2.2.1 hlink hi (u_facts hfc hkC (u_lays cx.2.2.2.2.1 hin hb) hi).1 q1 (by rw [q3]; exact fun h => by cases h) (v := ax_fv G M a o b) (by rw [hsl]; exact q4 b (by rw [hN]; exact hb)) rfl rfl hd ?_
    rw [← hv]
    exact kn _ _ _ _ _ _ _ _ _ _ h1 hs
  · obtain ⟨hK, ht⟩ := ax_constOf cx hs.2.2.1 h0 (by omega)
    obtain ⟨-, -, e3, e4⟩ := hs.2.2.1.2.2.2 o hK
    rcases cx.2.2.2.2.2.2.2.1.1 o hK with ⟨-, g1, g2, -⟩ | ⟨g1, -⟩ | g1
    · subst hA
      rw [← e4] at g1
      rw [← e3] at g2
      rcases (show b = 0 ∨ b = 1 by omega) with rfl | rfl
      · rcases hk with ⟨k1, k2⟩ | ⟨k1, k2⟩
        · subst k1
          exact vk_getf cx.1 cx.2.1 g1 hs.2.2.2.1 cx.2.2.2.1 hlink (fun _ h => h) hd (kn _ _ _ _ _ _ _ _ _ _ h1 hs)
        · exact absurd k2 (by decide)
      · rcases hk with ⟨k1, k2⟩ | ⟨k1, k2⟩
        · exact absurd k2 (by decide)
        · rw [if_neg k1] at h1
          exact vk_getf cx.1 cx.2.1 g2 hs.2.2.2.1 cx.2.2.2.1 hlink (fun _ h => h) hd (kn _ _ _ _ _ _ _ _ _ _ h1 hs)
    · omega
    · omega
theorem ax_fv_si {x : Int32} {o : Nat} (h : ax_isR (ax_ty a b) = false) : updV (ax_fv G M a o) b (.int x) = ax_fv G (ax_si M o b x) a o := by
  funext j
  by_cases hj : j = b
  · subst hj
    simp [updV, ax_fv, h, ax_hi, ax_si, ax_u]
  · simp [updV, ax_fv, ax_hi, ax_hr, ax_si, ax_u, hj]
theorem ax_fv_sr {x : Option Nat} {o : Nat} (h : ax_isR (ax_ty a b) = true) : updV (ax_fv G M a o) b (va_rf (x.map (ax_ad G))) = ax_fv G (ax_sr M o b x) a o := by
  funext j
  by_cases hj : j = b
  · subst hj
    simp [updV, ax_fv, h, ax_hr, ax_sr, ax_u]
  · simp [updV, ax_fv, ax_hi, ax_hr, ax_sr, ax_u, hj]
/-- a field is written: the memory behind it is M2 -/
theorem ax_putf {idx o : Nat} {v : Value} {M2 : ax_M} (cx : ax_Cx G p R s m args meth c own cc nL) (hd : decode cc pc = .ok (.putfield idx, 3)) (hlk : ax_fl own idx a b ∈ ax_ws) (ha : a < 15) (hb : b < ax_N a)
    (hfin : (ax_fr a b).2.2.2 = false ∨ (ax_fr a b).2.2.2 = true ∧ meth.name = "<init>" ∧ (ax_fr a b).1 = own) (hn : narrow (ax_ty a b) v = v) (hfit : fits (ax_ty a b) v = true)
    (h0 : ax_own M o a) (hs : ax_SR G s R nL lv M rc rs H locs cells slots ls) (hup : updV (ax_fv G M a o) b v = ax_fv G M2 a o) (hM : ∀ q, q ≠ o → ax_eqAt M M2 q) (hMn : ax_n M2 = ax_n M) (hMt : ax_tg M2 o = ax_tg M o) {rest : List Value}
    (kk : ∀ (H1 : Heap) (locs1 : List Loc), ax_SR G s R nL lv M2 rc rs H1 locs1 cells slots ls → W p l e R s m args below meth c H1 locs1 cells slots Qf (F0 m (pc + 3) ls rest)) : W p l e R s m args below meth c H locs cells slots Qf (F0 m pc ls (v :: .ref (ax_ad G o) :: rest)) := by
  obtain ⟨hdy, cell, q1, q2, q3, q4⟩ := ax_obOf cx hs.2.2.1 h0 ha
  obtain ⟨r, hc, hN, hin, hty, hnm, -⟩ := ax_cls a ha
  obtain ⟨hS, hfc, kC, hkC, hkind⟩ := cx.2.2.2.2.2.2.1.1 a r hc
  have hap := va_apart (own := own) (D := G.1) cx.2.2.2.2.1 hin (ax_ty a) hty hnm cx.2.2.2.2.2.2.1 hc
  rw [hN] at hb q4
  obtain ⟨cf, kf, fi, f, hi, hsl⟩ := hS b hb
  have hlink := cx.2.2.2.2.1 _ hlk
  unfold ax_fl at hlink
  rw [ax_fr_eq hc] at hlink hfin
  have hlay := cx.2.2.2.2.1 _ (hin _ (u_in_lay hb))
  unfold u_lay at hlay
  have hst := (u_facts hfc hkC (u_lays cx.2.2.2.2.1 hin hb) hi).1
  have fin : ∀ (H1 : Heap) (sl : Nat), H1[ax_ad G o]? = some (cell.setSlot (G.1.2 a b) v) → H1.size = H.size → (∀ q, q ≠ ax_ad G o → H1[q]? = H[q]?) → W p l e R s m args below meth c H1 (locs ++ [⟨ax_ad G o, sl⟩]) cells slots Qf (F0 m (pc + 3) ls rest) := by
    intro H1 sl e1 e2 e3
    refine kk H1 _ ⟨hs.1, hs.2.1, hs.2.2.1.upd cx.2.2.2.2.2.1 hdy hMn hM e2 e3 (Or.inl ⟨by rw [hMt, h0.2]; exact ha, ?_⟩), hs.2.2.2.1.put e2 e3 (ax_dynFr cx.2.2.2.2.2.1 hdy), hs.2.2.2.2⟩
    rw [hMt, h0.2]
    unfold ax_ob
    rw [← hup, hN]
    exact ⟨_, e1, q2, q3, t_set q4 hap hb v⟩
  rcases hfin with hf | ⟨hf, hin2, hdecl⟩
  · rw [if_neg (by rw [hf]; decide)] at hlay
    have h6 := u_store hfc hkC hkind hlay hi (hty b hb) hn hfit
    refine W.putK cx.1 cx.2.1 (f := f) ⟨cx.2.2.2.1, hlink, ⟨_, _, _, hi⟩, hst⟩ (by rw [q2]; exact h6) q1 q3 (by rw [hsl]; exact k2_hasslot (q4 b hb)) rfl rfl hd fun H1 e1 e2 e3 => ?_
    rw [hsl] at e1 ⊢
    exact fin H1 _ e1 e2 e3
  · rw [if_pos hf] at hlay
    have hcf : m.cls = cf := by
      obtain ⟨_, _, c', _, _, _, -, -, hf', -, -, -, hown2, -⟩ := Cond.laysFinal_spec hlay
      have e1 : c' = cf := by have := hi.symm.trans hf'; simp at this; exact this.1.symm
      rw [hdecl] at hown2
      rw [← e1]; exact Option.some.inj (cx.2.2.2.1.symm.trans hown2)
    have h6 := u_fits hfc hkC hkind (Or.inr hlay) hi (hty b hb) hn hfit
    refine W.putFinK cx.1 cx.2.1 cx.2.2.2.1 hlink hi hst hcf hin2 (by rw [q2]; exact h6) q1 q3 (by rw [hsl]; exact k2_hasslot (q4 b hb)) rfl rfl hd fun H1 e1 e2 e3 => ?_
    rw [hsl] at e1 ⊢
    exact fin H1 _ e1 e2 e3
theorem sx_putfield {idx : Nat} (cx : ax_Cx G p R s m args meth c own cc nL) (hd : decode cc pc = .ok (.putfield idx, 3)) (hlk : ax_fl own idx a b ∈ ax_ws) (ha : a < 15) (hb : b < ax_N a) (hk : c0 = 1 ∧ ax_isR (ax_ty a b) = true ∨ c0 ≠ 1 ∧ ax_isR (ax_ty a b) = false)
    (hfin : (ax_fr a b).2.2.2 = false ∨ (ax_fr a b).2.2.2 = true ∧ meth.name = "<init>" ∧ (ax_fr a b).1 = own)
    (kn : ax_Ko G p l e R s m args below meth c nL Qf (pc + 3) nx) (h : ax_ins C Q rt nx jm pc a b c0 lv st M rc rs (.putfield idx)) (hs : ax_SR G s R nL lv M rc rs H locs cells slots ls) : W p l e R s m args below meth c H locs cells slots Qf (F0 m pc ls (st.map (ax_tr G))) := by
  rcases hk with ⟨k1, k2⟩ | ⟨k1, k2⟩
  · have h9 : ax_rO st fun o r st => ax_own M o a ∧ nx lv st (ax_sr M o b r) rc rs := by
      have h8 := h; unfold ax_ins at h8; rw [if_pos k1] at h8; exact h8
    obtain ⟨o, r, st, rfl, h0, h1⟩ := ax_rO_inv h9
    have hnf : narrow (ax_ty a b) (va_rf (r.map (ax_ad G))) = va_rf (r.map (ax_ad G)) ∧ fits (ax_ty a b) (va_rf (r.map (ax_ad G))) = true := by
      cases hty : ax_ty a b <;> rw [hty] at k2 <;> first | exact absurd k2 (by decide) | (cases r <;> exact ⟨rfl, rfl⟩)
    exact ax_putf cx hd hlk ha hb hfin hnf.1 hnf.2 h0 hs (ax_fv_sr k2) (fun q hq => ax_eqAt_sr hq) rfl rfl (fun H1 locs1 hs1 => kn _ _ _ _ _ _ _ _ _ _ h1 hs1)
  · have h9 : ax_iO st fun o x st => ax_own M o a ∧ narrow (ax_ty a b) (.int x) = .int x ∧ fits (ax_ty a b) (.int x) = true ∧ nx lv st (ax_si M o b x) rc rs := by
      have h8 := h; unfold ax_ins at h8; rw [if_neg k1] at h8; exact h8
    obtain ⟨o, x, st, rfl, h0, hn, hf, h1⟩ := ax_iO_inv h9
    exact ax_putf cx hd hlk ha hb hfin hn hf h0 hs (ax_fv_si k2) (fun q hq => ax_eqAt_si hq) rfl rfl (fun H1 locs1 hs1 => kn _ _ _ _ _ _ _ _ _ _ h1 hs1)
end AX6

