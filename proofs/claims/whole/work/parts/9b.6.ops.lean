/-! WHAT THE LAW CALLS: each call on both sides -/
def lawC (l : Launch) (G : ax_G) (d : Nat) : ax_C := fun j c s avs M o M2 => if j < 300 then ax_calls ax_P d j c s avs M o M2 else ∃ T hh r, hT_L j = some (T, hh) ∧ o = .inl r ∧ ax_MetH l G d T.1 hh c s avs M r M2
def Kp (M M2 : ax_M) : Prop := ax_n M ≤ ax_n M2 ∧ ∀ q, q < 26 → (ax_tg M2 q = ax_tg M q ∧ ax_ln M2 q = ax_ln M q) ∧ ∀ k, ax_hi M2 q k = ax_hi M q k
theorem Kp.refl (M : ax_M) : Kp M M := ⟨Nat.le_refl _, fun _ _ => ⟨⟨rfl, rfl⟩, fun _ => rfl⟩⟩
theorem Kp.trans {M M2 M3 : ax_M} (h : Kp M M2) (g : Kp M2 M3) : Kp M M3 := ⟨Nat.le_trans h.1 g.1, fun q hq => ⟨⟨(g.2 q hq).1.1.trans (h.2 q hq).1.1, (g.2 q hq).1.2.trans (h.2 q hq).1.2⟩, fun k => ((g.2 q hq).2 k).trans ((h.2 q hq).2 k)⟩⟩
theorem Im_lt {q : Nat} (h : q < 26) : Im q = true := by unfold Im; rw [blt_t h]; rfl
theorem Sm.kp {A : Nat → Nat → Bool} {M M2 : ax_M} (h : Sm A M M2) (hn : 78 ≤ ax_n M) : Kp M M2 := ⟨h.1.1, fun q hq => ⟨⟨(h.1.2 q (by omega)).1, (h.1.2 q (by omega)).2⟩, fun k => h.im (Im_lt hq) (by omega) k⟩⟩
theorem Bl.kp {n0 : Nat} {M M2 : ax_M} (h : Bl n0 M M2) (hn : 78 ≤ n0) : Kp M M2 := ⟨h.2.1, fun q hq => ⟨⟨(h.2.2 q (by omega)).1.1, (h.2.2 q (by omega)).1.2⟩, fun k => h.hi (by omega) k⟩⟩
theorem Rc0.kp {M M2 : ax_M} (h : Rc0 M M2) : Kp M M2 := ⟨by rw [h.2.2.2.2.1]; exact Nat.le_refl _, fun q hq => ⟨⟨by rw [h.1], by rw [h.2.1]⟩, fun k => h.2.2.2.2.2 q k (Or.inl (by omega))⟩⟩
/-- what holds between two calls of the law: L the script's length -/
def Inv (sp L : Nat) (M : ax_M) : Prop := RL M M ∧ ax_own M sp 200 ∧ ax_ln M sp = L ∧ sp < 26
section AX111
variable {l : Launch} {G : ax_G} {d sp L : Nat} {M R N2 : ax_M} {x y z w b : Int32}
theorem Inv.nx (h : Inv sp L M) (g : RL N2 N2) (k : Kp M N2) : Inv sp L N2 := ⟨g, ⟨Nat.lt_of_lt_of_le h.2.1.1 k.1, (k.2 sp h.2.2.2).1.1.trans h.2.1.2⟩, (k.2 sp h.2.2.2).1.2.trans h.2.2.1, h.2.2.2⟩
theorem Inv.sh (h : Inv sp L M) : SH M := h.1.sh.1
theorem lC_c {j c s : Nat} {avs : List ax_V} {o : ax_O} (hj : j < 300) (h : ax_calls ax_P d j c s avs M o N2) : lawC l G d j c s avs M o N2 := by
  unfold lawC; rw [if_pos hj]; exact h
theorem lC_h {j c s : Nat} {avs : List ax_V} {r : Option ax_V} {T : ax_T} {hh : List (Nat × Nat × Nat × Nat)} (hj : ¬ j < 300) (hT : hT_L j = some (T, hh)) (h : ax_MetH l G d T.1 hh c s avs M r N2) : lawC l G d j c s avs M (.inl r) N2 := by
  unfold lawC; rw [if_neg hj]; exact ⟨T, hh, r, hT, rfl, h⟩
/-- a call that answers, on both sides the same -/
def OpA (l : Launch) (G : ax_G) (sp L jc jr : Nat) (xs : List ax_V) (M : ax_M) : Prop := ∃ v R N2 c s, c ≤ 700 ∧ s ≤ 9100 ∧ lawC l G 20 jc c s (.inr (.inl (some 26)) :: xs) M (.inl (some (.inl v))) R ∧ SH R ∧ Kp M R ∧ lawC l G 20 jr 0 0 (.inr (.inl (some 54)) :: xs) R (.inl (some (.inl v))) N2 ∧ Inv sp L N2 ∧ Kp M N2
/-- a call that answers nothing -/
def OpV (l : Launch) (G : ax_G) (sp L jc jr : Nat) (xs : List ax_V) (M : ax_M) : Prop := ∃ R N2 c s, c ≤ 700 ∧ s ≤ 9100 ∧ lawC l G 20 jc c s (.inr (.inl (some 26)) :: xs) M (.inl none) R ∧ SH R ∧ Kp M R ∧ lawC l G 20 jr 0 0 (.inr (.inl (some 54)) :: xs) R (.inl none) N2 ∧ Inv sp L N2 ∧ Kp M N2
/-- a call by a helper -/
def OpH (l : Launch) (G : ax_G) (sp L jh jr : Nat) (xs : List ax_V) (M : ax_M) : Prop := ∃ k v R N2 c s, c ≤ 700 ∧ s ≤ 9100 ∧ lawC l G 20 jh c s (.inr (.inl (some 26)) :: (xs ++ [.inr (.inl (some 77))])) M (.inl (some (.inl k))) R ∧ SH R ∧ Kp M R ∧ lawC l G 20 jr 0 0 (.inr (.inl (some 54)) :: xs) R (.inl (some (.inl v))) N2 ∧ Inv sp L N2 ∧ Kp M N2 ∧ ax_hi N2 54 0 = k ∧ (k = 0 → ax_hl N2 77 0 = v.toInt64)
end AX111
