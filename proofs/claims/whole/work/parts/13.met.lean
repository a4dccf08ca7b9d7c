/-! FROM WHAT THE SMALL MACHINE ASKS TO A METHOD's CONTRACT -/
def ax_lvA : Nat → List ax_V → ax_L
  | _, [] => []
  | i, v :: vs => (i, v) :: ax_lvA (i + 1) vs
theorem ax_lvA_eq {G : ax_G} : ∀ (vs : List ax_V) (i : Nat), (∀ v ∈ vs, ax_c1 v = true) → lv_args i (vs.map (ax_tr G)) = ax_lvm G (ax_lvA i vs)
  | [], _, _ => rfl
  | v :: vs, i, h => by
    have h1 : (ax_tr G v).category = 1 := ax_cat (h v List.mem_cons_self)
    show (i, ax_tr G v) :: lv_args (if (ax_tr G v).category = 2 then i + 2 else i + 1) (vs.map (ax_tr G)) = (i, ax_tr G v) :: ax_lvm G (ax_lvA (i + 1) vs)
    rw [if_neg (by rw [h1]; decide), ax_lvA_eq vs (i + 1) (fun v hv => h v (List.mem_cons_of_mem _ hv))]
theorem ax_lvA_c1 : ∀ (vs : List ax_V) (i : Nat), (∀ v ∈ vs, ax_c1 v = true) → ∀ q ∈ ax_lvA i vs, ax_c1 q.2 = true
  | [], _, _ => fun _ h => nomatch h
  | v :: vs, i, h => fun q hq => by
    rcases List.mem_cons.mp hq with e | hq
    · rw [e]; exact h v List.mem_cons_self
    · exact ax_lvA_c1 vs (i + 1) (fun v hv => h v (List.mem_cons_of_mem _ hv)) q hq
theorem ax_slLen {G : ax_G} : ∀ (vs : List ax_V), (∀ v ∈ vs, ax_c1 v = true) → (lg_sl (vs.map (ax_tr G))).length = vs.length
  | [], _ => rfl
  | v :: vs, h => by
    have h1 : (ax_tr G v).category = 1 := ax_cat (h v List.mem_cons_self)
    have ih := ax_slLen (G := G) vs (fun v hv => h v (List.mem_cons_of_mem _ hv))
    have e : lg_sl ((v :: vs).map (ax_tr G)) = [Slot.val (ax_tr G v)] ++ lg_sl (vs.map (ax_tr G)) := by
      unfold lg_sl
      rw [List.map_cons, List.flatMap_cons, if_neg (by rw [h1]; decide)]
    rw [e, List.length_append, ih]
    simp; omega
/-- a map of the heap that is as it should be -/
def ax_Gall (G : ax_G) : Prop := ax_Gok G ∧ ax_gK G = ax_K0 ∧ ∀ i j, i ≠ 25 → j ≠ 25 → ax_ad G i = ax_ad G j → i = j
/-- a method's rows, decided -/
def ax_mok (mt : Nat → Option ax_T) (T : ax_T) (cod : List ax_R) : Bool :=
  plainName T.1.1.cls && (ax_cod mt T.1.1.cls (T.1.1.name == "<init>") true T.1.2.2.2 T.1.2.2.1 T.1.2.1 cod && (match cod with
    | r :: _ => r.1 == 0
    | [] => false))
theorem ax_met {l : Launch} {G : ax_G} (hG : ax_Gall G) {mt : Nat → Option ax_T} {d : Nat} {C : ax_C} (hC : ax_Snd l G (fun j => (mt j).map (fun T => T.1)) d C) {T : ax_T} {cod : List ax_R} (hok : ax_mok mt T cod = true) {c0 s0 k : Nat} {avs : List ax_V} {M M2 : ax_M} {o : Option ax_V}
    (hav : ∀ v ∈ avs, ax_c1 v = true) (hlen : avs.length ≤ T.1.2.2.1) (h : ax_wp C cod (fun o' M' => o' = .inl o ∧ M' = M2) T.1.2.2.2 k cod (ax_lvA 0 avs) [] M c0 s0) : ax_Met l G (d + 1) T.1 c0 s0 avs M o M2 := by
  simp only [ax_mok, Bool.and_eq_true, beq_iff_eq] at hok
  obtain ⟨hpl, hcod, hz⟩ := hok
  refine Met.ofW (cc := T.1.2.1) (maxL := T.1.2.2.1) (ret := T.1.2.2.2) hpl rfl ?_
  intro p e s m args below meth c s₁ B hml hv
  obtain ⟨rfl, hR, hK, hKc, hgz⟩ := hv
  have hts := atoms_spec (ws := ax_mws T.1) B.pre
  have hown : s.vm.findClass T.1.1.cls = some m.cls := findClass_of_methodNamed B.named
  have hnm : meth.name = T.1.1.name := (name_of_methodNamed B.named B.method).1
  have cx : ax_Cx G p (headSpec (ax_mws T.1) (ax_rm (d + 1) c0 s0)).room s m (avs.map (ax_tr G)).toArray meth c T.1.1.cls T.1.2.1 T.1.2.2.1 :=
    ⟨B.exec, B.bytes, hml, hown, fun w hw => hts w (List.mem_cons_of_mem _ hw), hG.1, hK, hKc, hgz, B.notSynchronized, hG.2.1, hG.2.2⟩
  have hl := lv_entry (avs.map (ax_tr G)) (n := T.1.2.2.1) (by rw [ax_slLen avs hav]; exact hlen)
  rw [lg_entry_eq]
  generalize (lg_sl (avs.map (ax_tr G)) ++ List.replicate (T.1.2.2.1 - (lg_sl (avs.map (ax_tr G))).length) Slot.unset).toArray = ls at hl ⊢
  rw [ax_lvA_eq avs 0 hav] at hl
  have hE : ax_HE G p l e (headSpec (ax_mws T.1) (ax_rm (d + 1) c0 s0)).room s m (avs.map (ax_tr G)).toArray below meth c T.1.2.1 T.1.2.2.1 (fun o' M' => o' = .inl o ∧ M' = M2) T.1.2.2.2 (MQ below (ax_Post G o M2) (avs.map (ax_tr G)).toArray s c0 s0 (ax_Fr G)) := by
    intro C nx jm pc a b c1 lv st M rc rs H locs cells slots ls ins hi hd ha hr h hs
    rcases hi with rfl | rfl | rfl
    · exact sx_ireturn cx hd B.returns (fun _ _ q => q) rfl rfl h hs
    · exact sx_areturn cx hd B.returns (ha rfl) (fun _ _ q => q) rfl rfl h hs
    · exact sx_return cx hd B.returns (hr rfl) (fun _ _ q => q) rfl rfl h hs
  have hT : ax_HT G p l e (headSpec (ax_mws T.1) (ax_rm (d + 1) c0 s0)).room s m (avs.map (ax_tr G)).toArray below meth c T.1.2.2.1 (fun o' M' => o' = .inl o ∧ M' = M2) (MQ below (ax_Post G o M2) (avs.map (ax_tr G)).toArray s c0 s0 (ax_Fr G)) cod := by
    intro r idx lv st M rc rs H locs cells slots ls _ _ _ _ _ _ hq
    exact absurd hq.1 (fun z => by cases z)
  cases cod with
  | nil => cases hz
  | cons r rest =>
    have hz : r.1 = 0 := by simpa using hz
    have hgo := ax_sound cx hC (Nat.le_refl _) (Nat.le_refl _) (fun z => by rw [hnm]; simpa using z) hE hT hcod k r rest hcod (fun x hx => hx)
    rw [hz] at hgo
    exact hgo (ax_lvA 0 avs) [] M c0 s0 s.heap [] 0 0 ls h ⟨hl, ax_lvA_c1 avs 0 hav, hR, va_S.rf, by show 0 + c0 ≤ c0; omega, by show 0 + s0 ≤ s0; omega⟩
/-- the calls of a program, by how deep they go -/
def ax_calls (P : Nat → Option (ax_T × List ax_R)) : Nat → ax_C
  | 0 => fun _ _ _ _ _ _ _ => False
  | d + 1 => fun j c s avs M o M2 => ∃ (T : ax_T) (cod : List ax_R) (k : Nat), P j = some (T, cod) ∧ (∀ v ∈ avs, ax_c1 v = true) ∧ avs.length ≤ T.1.2.2.1 ∧ ax_wp (ax_calls P d) cod (fun o' M' => o' = o ∧ M' = M2) T.1.2.2.2 k cod (ax_lvA 0 avs) [] M c s
def ax_pmt (P : Nat → Option (ax_T × List ax_R)) : Nat → Option ax_T := fun j => (P j).map (fun q => q.1)
/-- a program all of whose methods are decided: its calls are the machine's -/
theorem ax_all {l : Launch} {G : ax_G} (hG : ax_Gall G) {P : Nat → Option (ax_T × List ax_R)} (hP : ∀ (j : Nat) (T : ax_T) (cod : List ax_R), P j = some (T, cod) → ax_mok (ax_pmt P) T cod = true) : ∀ d, ax_Snd l G (fun j => (ax_pmt P j).map (fun T => T.1)) d (ax_calls P d)
  | 0 => fun _ _ _ _ _ _ _ h => h.elim
  | d + 1 => by
    intro j c s avs M o M2 h D hD
    obtain ⟨T, cod, k, hj, hav, hlen, hw⟩ := h
    have e : D = T.1 := by
      simp [ax_pmt, hj] at hD
      exact hD.symm
    subst e
    refine ax_met hG (ax_all hG hP d) (hP j T cod hj) hav hlen (k := k) ?_
    have e2 : (fun (o' : ax_O) (M' : ax_M) => o' = Sum.inl o ∧ M' = M2) = fun o' M' => o' = .inl o ∧ M' = M2 := rfl
    exact hw
