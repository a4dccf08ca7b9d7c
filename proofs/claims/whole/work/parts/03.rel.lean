/-! WHAT THE SMALL MACHINE'S MEMORY IS IN THE HEAP -/
/-- class numbers and slots, array classes, where places lie, how many are constants, the heap's size at the start, the constants' memory -/
abbrev ax_G : Type := va_G × (Nat → ClassId) × (Nat → Nat) × Nat × Nat × ax_M
def ax_ad (G : ax_G) : Nat → Nat := G.2.2.1
def ax_gK (G : ax_G) : Nat := G.2.2.2.1
def ax_gz (G : ax_G) : Nat := G.2.2.2.2.1
def ax_gM (G : ax_G) : ax_M := G.2.2.2.2.2
def ax_Fr (G : ax_G) : Nat → Prop := fun q => ax_gz G ≤ q
def ax_tr (G : ax_G) : ax_V → Value
  | .inl x => .int x
  | .inr (.inl r) => va_rf (r.map (ax_ad G))
  | .inr (.inr y) => .long y
def ax_isR : FieldType → Bool
  | .object _ => true
  | .array _ => true
  | _ => false
def ax_N (c : Nat) : Nat := ((ax_cl[c]?).map (fun r => r.2.2)).getD 0
def ax_fv (G : ax_G) (M : ax_M) (c o k : Nat) : Value := if ax_isR (ax_ty c k) = true then va_rf ((ax_hr M o k).map (ax_ad G)) else .int (ax_hi M o k)
def ax_nm (c : Nat) : String := ((ax_cl[c]?).map (fun r => r.1)).getD ""
def ax_aty (t : Nat) : FieldType := match t with
  | 0 => .int
  | 1 => .char
  | 2 => .byte
  | 3 => .boolean
  | 4 => .long
  | t => .object (ax_nm (t - 10))
def ax_av (G : ax_G) (M : ax_M) (o k : Nat) : Value := if ax_tg M o < 104 then .int (ax_hi M o k) else if ax_tg M o = 104 then .long (ax_hl M o k) else va_rf ((ax_hr M o k).map (ax_ad G))
def ax_tl : List Nat := [0, 1, 2, 3, 4, 14, 18, 21]
def ax_tys (G : ax_G) : List (ClassId × FieldType) := ax_tl.map (fun t => (G.2.1 t, ax_aty t))
def ax_ob (G : ax_G) (M : ax_M) (H : Heap) (o c : Nat) : Prop := t_OB (ax_ad G o) (G.1.1 c) (ax_N c) (G.1.2 c) H (ax_fv G M c o)
def ax_r1 (G : ax_G) (M : ax_M) (H : Heap) (o : Nat) : Prop :=
  (ax_tg M o < 15 ∧ ax_ob G M H o (ax_tg M o)) ∨
  (100 ≤ ax_tg M o ∧ ax_tg M o < 200 ∧ ax_tg M o - 100 ∈ ax_tl ∧ H[ax_ad G o]? = some (arrV (G.2.1 (ax_tg M o - 100)) (ax_ln M o) (ax_av G M o))) ∨ ax_tg M o = 400
def ax_Rel (G : ax_G) (M : ax_M) (H : Heap) : Prop :=
  (∀ o, ax_gK G ≤ o → o < ax_n M → ax_r1 G M H o) ∧ ax_gK G ≤ ax_n M ∧ H.size = ax_gz G + (ax_n M - ax_gK G) ∧
  ∀ o, o < ax_gK G → ax_tg M o = ax_tg (ax_gM G) o ∧ ax_ln M o = ax_ln (ax_gM G) o ∧ ax_hi M o = ax_hi (ax_gM G) o ∧ ax_hr M o = ax_hr (ax_gM G) o
def ax_Gok (G : ax_G) : Prop := (∀ i, ax_gK G ≤ i → ax_ad G i = ax_gz G + (i - ax_gK G)) ∧ ∀ i, i < ax_gK G → ax_ad G i < ax_gz G ∧ 200 ≤ ax_tg (ax_gM G) i ∧ ax_tg (ax_gM G) i ≤ 300
/-- M2 is as M at the place o -/
def ax_eqAt (M M2 : ax_M) (o : Nat) : Prop := ax_tg M2 o = ax_tg M o ∧ ax_ln M2 o = ax_ln M o ∧ ax_hi M2 o = ax_hi M o ∧ ax_hr M2 o = ax_hr M o ∧ ax_hl M2 o = ax_hl M o
theorem ax_fv_eq {G : ax_G} {M M2 : ax_M} {o : Nat} (h : ax_eqAt M M2 o) (c : Nat) : ax_fv G M2 c o = ax_fv G M c o := by
  funext k
  simp only [ax_fv, h.2.2.1, h.2.2.2.1]
theorem ax_av_eq {G : ax_G} {M M2 : ax_M} {o : Nat} (h : ax_eqAt M M2 o) : ax_av G M2 o = ax_av G M o := by
  funext k
  simp only [ax_av, h.1, h.2.2.1, h.2.2.2.1, h.2.2.2.2]
theorem ax_r1.kept {G : ax_G} {M M2 : ax_M} {H H1 : Heap} {o : Nat} (h : ax_r1 G M H o) (he : ax_eqAt M M2 o) (hq : H1[ax_ad G o]? = H[ax_ad G o]?) : ax_r1 G M2 H1 o := by
  rcases h with ⟨h1, h2⟩ | ⟨h1, h2, h3, h4⟩ | h
  · refine Or.inl ⟨by rw [he.1]; exact h1, ?_⟩
    rw [ax_ob, he.1, ax_fv_eq he]
    exact t_OB.kept h2 hq
  · refine Or.inr (Or.inl ⟨by rw [he.1]; exact h1, by rw [he.1]; exact h2, by rw [he.1]; exact h3, ?_⟩)
    rw [hq, he.1, he.2.1, ax_av_eq he]
    exact h4
  · exact Or.inr (Or.inr (by rw [he.1]; exact h))
theorem ax_ad_ne {G : ax_G} (hG : ax_Gok G) {o q : Nat} (ho : ax_gK G ≤ o) (hq : ax_gK G ≤ q) (h : q ≠ o) : ax_ad G q ≠ ax_ad G o := by
  rw [hG.1 q hq, hG.1 o ho]
  omega
theorem ax_dyn {G : ax_G} (hG : ax_Gok G) {M : ax_M} {H : Heap} (h : ax_Rel G M H) {o : Nat} (ht : ax_tg M o < 200) : ax_gK G ≤ o := by
  rcases Nat.lt_or_ge o (ax_gK G) with hk | hk
  · have h1 := (h.2.2.2 o hk).1
    have h2 := (hG.2 o hk).2.1
    omega
  · exact hk
theorem ax_dynFr {G : ax_G} (hG : ax_Gok G) {o : Nat} (ho : ax_gK G ≤ o) : ax_Fr G (ax_ad G o) := by
  show ax_gz G ≤ _
  rw [hG.1 o ho]
  omega
theorem ax_Rel.upd {G : ax_G} (hG : ax_Gok G) {M M2 : ax_M} {H H1 : Heap} (h : ax_Rel G M H) {o : Nat} (ho : ax_gK G ≤ o) (hn : ax_n M2 = ax_n M) (hM : ∀ q, q ≠ o → ax_eqAt M M2 q) (hz : H1.size = H.size) (hq : ∀ q : Nat, q ≠ ax_ad G o → H1[q]? = H[q]?) (h1 : ax_r1 G M2 H1 o) : ax_Rel G M2 H1 := by
  obtain ⟨a1, a2, a3, a4⟩ := h
  refine ⟨fun q k1 k2 => ?_, by rw [hn]; exact a2, by rw [hz, hn]; exact a3, fun q hk => ?_⟩
  · by_cases hqo : q = o
    · rw [hqo]; exact h1
    · exact (a1 q k1 (by rw [← hn]; exact k2)).kept (hM q hqo) (hq _ (ax_ad_ne hG ho k1 hqo))
  · have hne : q ≠ o := by omega
    obtain ⟨e1, e2, e3, e4, -⟩ := hM q hne
    obtain ⟨f1, f2, f3, f4⟩ := a4 q hk
    exact ⟨e1.trans f1, e2.trans f2, e3.trans f3, e4.trans f4⟩
theorem ax_Rel.push {G : ax_G} (hG : ax_Gok G) {M : ax_M} {H H1 : Heap} (h : ax_Rel G M H) {t len : Nat} (hz : H1.size = H.size + 1) (hq : ∀ q : Nat, q < H.size → H1[q]? = H[q]?) (h1 : ax_r1 G (ax_new M t len) H1 (ax_n M)) : ax_Rel G (ax_new M t len) H1 := by
  obtain ⟨a1, a2, a3, a4⟩ := h
  have hn : ax_n (ax_new M t len) = ax_n M + 1 := rfl
  have hM : ∀ q, q ≠ ax_n M → ax_eqAt M (ax_new M t len) q := fun q hne => by
    refine ⟨?_, ?_, ?_, ?_, ?_⟩ <;> simp [ax_tg, ax_ln, ax_hi, ax_hr, ax_hl, ax_new, hne]
  refine ⟨fun q k1 k2 => ?_, by rw [hn]; omega, by rw [hz, hn, a3]; omega, fun q hk => ?_⟩
  · by_cases hqo : q = ax_n M
    · rw [hqo]; exact h1
    · have hlt : q < ax_n M := by rw [hn] at k2; omega
      refine (a1 q k1 hlt).kept (hM q hqo) (hq _ ?_)
      rw [hG.1 q k1, a3]; omega
  · have hne : q ≠ ax_n M := by omega
    obtain ⟨e1, e2, e3, e4, -⟩ := hM q hne
    obtain ⟨f1, f2, f3, f4⟩ := a4 q hk
    exact ⟨e1.trans f1, e2.trans f2, e3.trans f3, e4.trans f4⟩
theorem ax_Rel.adn {G : ax_G} (hG : ax_Gok G) {M : ax_M} {H : Heap} (h : ax_Rel G M H) : ax_ad G (ax_n M) = H.size := by
  rw [hG.1 _ h.2.1, h.2.2.1]
theorem ax_eqAt_si {M : ax_M} {o k q : Nat} {v : Int32} (h : q ≠ o) : ax_eqAt M (ax_si M o k v) q := by
  refine ⟨rfl, rfl, ?_, rfl, rfl⟩
  funext j
  simp [ax_hi, ax_si, ax_u, h]
theorem ax_eqAt_sr {M : ax_M} {o k q : Nat} {v : Option Nat} (h : q ≠ o) : ax_eqAt M (ax_sr M o k v) q := by
  refine ⟨rfl, rfl, rfl, ?_, rfl⟩
  funext j
  simp [ax_hr, ax_sr, ax_u, h]
theorem ax_eqAt_sl {M : ax_M} {o k q : Nat} {v : Int64} (h : q ≠ o) : ax_eqAt M (ax_sl M o k v) q := by
  refine ⟨rfl, rfl, rfl, rfl, ?_⟩
  funext j
  simp [ax_hl, ax_sl, ax_u, h]
/-! constants: arrays that are only read, Strings; what the words and the statics say of them -/
def ax_ro (ty : FieldType) (q L : Nat) (f : Nat → Int32) (U : State) (H : Heap) : Prop := ∃ cell : Cell, H[q]? = some cell ∧ U.isArrayOf cell ty ∧ cell.vm ≠ .unknown ∧ (L ≤ cell.slots.size ∧ cell.slots.size.toInt32 = Int32.ofNat L) ∧ ∀ j : Nat, j < L → cell.slots[j]? = some (.int (f j))
theorem ax_ro.moved {ty : FieldType} {q L : Nat} {f : Nat → Int32} {u U : State} {H : Heap} (hvm : u.vm.Alike U.vm) (h : ax_ro ty q L f u H) : ax_ro ty q L f U H := by
  obtain ⟨cell, h1, h2, h3⟩ := h
  exact ⟨cell, h1, State.isArrayOf_alike hvm h2, h3⟩
theorem ax_ro.kept {ty : FieldType} {q L : Nat} {f : Nat → Int32} {U : State} {H H1 : Heap} (h : ax_ro ty q L f U H) (hq : H1[q]? = H[q]?) : ax_ro ty q L f U H1 := by
  obtain ⟨cell, h1, h2⟩ := h
  exact ⟨cell, by rw [hq]; exact h1, h2⟩
def ax_kc1 (G : ax_G) (U : State) (H : Heap) (i : Nat) : Prop :=
  (ax_tg (ax_gM G) i = 300 ∧ va_OF RJ0 "value" "[B" (va_rf ((ax_hr (ax_gM G) i 0).map (ax_ad G))) (ax_ad G i) (ax_Fr G) U H ∧ va_OF RJ0 "coder" "B" (.int (ax_hi (ax_gM G) i 1)) (ax_ad G i) (ax_Fr G) U H ∧ va_O RJ0 (ax_ad G i) (ax_Fr G) U H) ∨
  (ax_tg (ax_gM G) i < 210 ∧ ax_ro (ax_aty (ax_tg (ax_gM G) i - 200)) (ax_ad G i) (ax_ln (ax_gM G) i) (ax_hi (ax_gM G) i) U H) ∨ ax_tg (ax_gM G) i = 299
