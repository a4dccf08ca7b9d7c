theorem ax_nfw : nativeFrameWords "java/lang/System" "arraycopy" 5 ≤ 21 := by decide +kernel
section AX11
variable {p : Program} {l : Launch} {e : Env} {R : Room} {s : State} {m : MethodId} {args : Array Value} {below : List Frame} {meth : Method} {c : Code} {Qf : State → Prop} {G : ax_G} {own : String} {cc : ByteArray} {nL : Nat}
variable {C : ax_C} {Q : ax_O → ax_M → Prop} {rt : Option FieldType} {nx : ax_K} {jm : Nat → ax_K} {pc a b c0 : Nat} {lv : ax_L} {st : List ax_V} {M : ax_M} {rc rs : Nat} {H : Heap} {locs : List Loc} {cells slots : Nat} {ls : Array Slot}
theorem ax_cpy_inv {st : List ax_V} (h : ax_cpy nx lv st M rc rs) : ∃ n dp o2 sp o st2, st = .inl n :: .inl dp :: .inr (.inl (some o2)) :: .inl sp :: .inr (.inl (some o)) :: st2 ∧ (st2.map ax_w).sum ≤ 8 ∧ ax_own M o (ax_tg M o2) ∧ o2 < ax_n M ∧ (ax_tg M o2 = 100 ∨ ax_tg M o2 = 102) ∧ ¬ sp < 0 ∧ ¬ dp < 0 ∧ ¬ n < 0 ∧
    sp.toNatClampNeg + n.toNatClampNeg ≤ ax_ln M o ∧ dp.toNatClampNeg + n.toNatClampNeg ≤ ax_ln M o2 ∧ (ax_tg M o2 = 102 → ∀ i, i < n.toNatClampNeg → fits .byte (.int (ax_hi M o (sp.toNatClampNeg + i))) = true) ∧ nx lv st2 (ax_cp M o o2 sp.toNatClampNeg dp.toNatClampNeg n.toNatClampNeg) rc rs := by
  match st, h with
  | .inl n :: .inl dp :: .inr (.inl (some o2)) :: .inl sp :: .inr (.inl (some o)) :: st2, h => exact ⟨n, dp, o2, sp, o, st2, rfl, h⟩
theorem sx_cpy {idx : Nat} (cx : ax_Cx G p R s m args meth c own cc nL) (hd : decode cc pc = .ok (.invokestatic idx, 3)) (hc8 : c0 = 8) (hl : Cond.methodLink own idx arraycopyName ∈ ax_ws) (hnat : Cond.native arraycopyName ∈ ax_ws) (hst : Cond.static arraycopyName ∈ ax_ws) (hi : Cond.initialized "java/lang/System" ∈ ax_ws) (hRf : 1 ≤ R.frames) (hRl : 40 ≤ R.locals)
    (kn : ax_Ko G p l e R s m args below meth c nL Qf (pc + 3) nx) (h : ax_ins C Q rt nx jm pc a b c0 lv st M rc rs (.invokestatic idx)) (hs : ax_SR G s R nL lv M rc rs H locs cells slots ls) : W p l e R s m args below meth c H locs cells slots Qf (F0 m pc ls (st.map (ax_tr G))) := by
  subst hc8
  obtain ⟨n, dp, o2, sp, o, st, rfl, hw, h0, ho2, htg, h1, h2, h3, h4, h5, hfit, hk⟩ := ax_cpy_inv h
  have nn : ∀ z : Int32, ¬ z < 0 → z.toInt = (z.toNatClampNeg : Int) := by
    intro z hz
    have hz0 : (0 : Int) ≤ z.toInt := by
      have := Int32.not_lt.mp hz
      simpa using Int32.le_iff_toInt_le.mp this
    show z.toInt = ((z.toInt.toNat : Nat) : Int)
    omega
  have h02 : ax_own M o2 (ax_tg M o2) := ⟨ho2, rfl⟩
  obtain ⟨hd1, htl, hc0⟩ := ax_arOf cx hs.2.2.1 h0 (by omega)
  obtain ⟨hd2, htl2, hc1⟩ := ax_arOf cx hs.2.2.1 h02 (by omega)
  have hav : ax_av G M o = fun k => .int (ax_hi M o k) := ax_avI (by rw [h0.2]; omega)
  have hav2 : ax_av G M o2 = fun k => .int (ax_hi M o2 k) := ax_avI (by omega)
  rw [hav] at hc0
  rw [hav2] at hc1
  have harr := (ax_arK cx htl).1
  obtain ⟨-, k0, hk0, cm0, hkk0⟩ := harr (ax_ln M o) (fun j => .int (ax_hi M o j))
  obtain ⟨-, k1, hk1, cm1, hkk1⟩ := harr (ax_ln M o2) (fun j => .int (ax_hi M o2 j))
  have hprim : refKind (ax_aty (ax_tg M o2 - 100)) = false := by rcases htg with e | e <;> rw [e] <;> rfl
  have hcat := ax_sumw (G := G) (st2 := st)
  have hnf := ax_nfw
  generalize hcA : G.2.1 (ax_tg M o2 - 100) = cA at hc0 hc1 hk0 hk1
  intro T hT X
  obtain ⟨vm', X', step⟩ := X.arraycopy cx.1 cx.2.2.2.1 (cx.2.2.2.2.1 _ hl) (cx.2.2.2.2.1 _ hnat) (cx.2.2.2.2.1 _ hst) (cx.2.2.2.2.1 _ hi) (src := ax_ad G o) (dst := ax_ad G o2) (cs := vp_cell cA (ax_ln M o, .inl (ax_hi M o))) (cd := vp_cell cA (ax_ln M o2, .inl (ax_hi M o2))) (srcPos := sp) (destPos := dp) (n := n) (by rw [hT]; exact hc0) (by rw [hT]; exact hc1)
    (fun _ h => by cases h) (fun _ h => by cases h) (fun h => by cases h) (fun h => by cases h) hk0 hk1 hkk0 hkk1 (by simp [hprim]) h1 h2 h3
    (by rw [nn sp h1, nn n h3]; show ¬ _ > ((arrV cA (ax_ln M o) (fun j => .int (ax_hi M o j))).slots.size : Int); rw [arrV_size]; omega)
    (by rw [nn dp h2, nn n h3]; show ¬ _ > ((arrV cA (ax_ln M o2) (fun j => .int (ax_hi M o2 j))).slots.size : Int); rw [arrV_size]; omega)
    (fun vm₁ _ i hi2 => by
      have e : (vp_cell cA (ax_ln M o, .inl (ax_hi M o))).slots.getD (sp.toNatClampNeg + i) .null = .int (ax_hi M o (sp.toNatClampNeg + i)) := by
        show (arrV cA (ax_ln M o) (fun j => .int (ax_hi M o j))).slots.getD _ _ = _
        rw [Array.getD_eq_getD_getElem?, arrV_read _ _ (by omega)]
        rfl
      refine ⟨?_, ?_⟩
      · rw [e]
        rcases htg with e9 | e9
        · rw [e9]; rfl
        · rw [e9]; exact hfit e9 i hi2
      · rw [e]
        exact trivial)
    (g := F0 m pc ls (.int n :: .int dp :: .ref (ax_ad G o2) :: .int sp :: .ref (ax_ad G o) :: st.map (ax_tr G))) rfl (by rw [cx.2.2.1]; exact hs.1.1) (rest := st.map (ax_tr G)) rfl (by rw [cx.2.1]; exact hd) hRf (by show 2 * 0 + _ + _ ≤ _; omega)
  have e1 : copied (vp_cell cA (ax_ln M o, .inl (ax_hi M o))) (vp_cell cA (ax_ln M o2, .inl (ax_hi M o2))) sp dp n = vp_cell cA (ax_ln M o2, .inl (va_cpy (ax_hi M o) (ax_hi M o2) sp.toNatClampNeg dp.toNatClampNeg n.toNatClampNeg)) := va_copied (fun z => .int z) cA cA (ax_hi M o) (ax_hi M o2) h4
  rw [e1] at X' step
  have hlt : ax_ad G o2 < H.size := (Array.getElem?_eq_some_iff.mp hc1).1
  generalize hcell : vp_cell cA (ax_ln M o2, .inl (va_cpy (ax_hi M o) (ax_hi M o2) sp.toNatClampNeg dp.toNatClampNeg n.toNatClampNeg)) = cell at X' step
  have hheap : ((T.setVm vm').setCell (ax_ad G o2) cell).heap = H.setIfInBounds (ax_ad G o2) cell := by rw [← hT]; rfl
  have oq : ∀ q : Nat, q ≠ ax_ad G o2 → (H.setIfInBounds (ax_ad G o2) cell)[q]? = H[q]? := fun q hq => by simp [Array.getElem?_setIfInBounds, Ne.symm hq]
  have hS := hs.2.2.2.1
  have hFr := ax_dynFr cx.2.2.2.2.2.1 hd2
  have heq : ∀ q, q ≠ o2 → ax_eqAt M (ax_cp M o o2 sp.toNatClampNeg dp.toNatClampNeg n.toNatClampNeg) q := fun q hq => ⟨rfl, rfl, by funext k; simp [ax_hi, ax_cp, hq], rfl, rfl⟩
  have hrel : ax_Rel G (ax_cp M o o2 sp.toNatClampNeg dp.toNatClampNeg n.toNatClampNeg) (H.setIfInBounds (ax_ad G o2) cell) := by
    refine hs.2.2.1.upd cx.2.2.2.2.2.1 hd2 rfl heq (by simp) oq (Or.inr (Or.inl ⟨?_, ?_, ?_, ?_⟩))
    · show 100 ≤ ax_tg M o2; omega
    · show ax_tg M o2 < 200; omega
    · exact htl2
    · show (H.setIfInBounds (ax_ad G o2) cell)[ax_ad G o2]? = some (arrV (G.2.1 (ax_tg M o2 - 100)) (ax_ln M o2) _)
      rw [ax_avI (show ax_tg (ax_cp M o o2 sp.toNatClampNeg dp.toNatClampNeg n.toNatClampNeg) o2 < 104 by show ax_tg M o2 < 104; omega), hcA]
      have e5 : (H.setIfInBounds (ax_ad G o2) cell)[ax_ad G o2]? = some cell := by simp [Array.getElem?_setIfInBounds, hlt]
      rw [e5, ← hcell, vp_cell_i]
      congr 2
      funext k
      simp [ax_hi, ax_cp]
  obtain ⟨t, a1, b1⟩ := kn _ _ _ _ _ _ _ _ _ _ hk ⟨hs.1, hs.2.1, hrel, ⟨by simp; exact hS.1, fun q g1 g2 => by
      rw [oq q (fun e => g2 (by rw [e]; exact hFr))]
      exact hS.2.1 q g1 g2, fun q hq => by
      rcases List.mem_append.mp hq with h | h
      · exact hS.2.2 q h
      · obtain ⟨z, -, hz⟩ := List.mem_map.mp h
        rw [← hz]
        exact hFr⟩, hs.2.2.2.2⟩ _ hheap X'
  exact ⟨t, step t a1, b1⟩
end AX11
