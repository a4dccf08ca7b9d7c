/-! THE LAW's OWN CODE: calls of methods with a table of their own beside the others -/
abbrev ax_HL : Type := Nat → Option (ax_T × List (Nat × Nat × Nat × Nat))
def ax_MetH (l : Launch) (G : ax_G) (d : Nat) (D : ax_D) (hh : List (Nat × Nat × Nat × Nat)) (c s : Nat) (avs : List ax_V) (M : ax_M) (o : Option ax_V) (M2 : ax_M) : Prop := Met l D.1 (ax_mwh D hh) (ax_rm d c s) (ax_PreX G avs M) (ax_Post G o M2) c s (ax_Fr G)
/-- a row that calls such a method -/
def ax_rokH (ht : ax_HL) (own : String) (a b c d : Nat) : Instr → Bool
  | .invokestatic idx => decide (c = 0) && (match ht a with
    | some (T, hh) => ax_in1 T.2.1 (.codeWith T.1.1 T.1.2.1 T.1.2.2.1 T.1.2.2.2 hh) && (ax_in1 T.2.2.1 (.initialized T.1.1.cls) && (decide (T.1.1.cls ≠ "java/lang/invoke/MethodHandle" ∧ T.1.1.cls ≠ "java/lang/invoke/VarHandle" ∧ (parseMethodDescriptor T.1.1.desc).map (fun d => d.parameters.length) = some b) && (decide (T.1.2.2.1 ≤ 21) && (ax_in1 T.2.2.2.1 (.static T.1.1) && ax_in1 d (.methodLink own idx T.1.1)))))
    | none => false)
  | _ => false
def ax_codL (mt : Nat → Option ax_T) (ht : ax_HL) (own : String) (ini tf : Bool) (rt : Option FieldType) (nL : Nat) (cc : ByteArray) : List ax_R → Bool
  | [] => true
  | r :: rest => ((r.2.2.2.2.1 == 99 || ax_rok mt own ini tf rt nL r.1 r.2.2.1 r.2.2.2.1 r.2.2.2.2.1 r.2.2.2.2.2 r.2.1) || ax_rokH ht own r.2.2.1 r.2.2.2.1 r.2.2.2.2.1 r.2.2.2.2.2 r.2.1) && (ax_dec cc r.1 r.2.1 && ((match rest with
      | [] => true
      | r2 :: _ => ax_last r.2.1 || (r2.1 == r.1 + ax_len r.2.1)) && ax_codL mt ht own ini tf rt nL cc rest))
theorem ax_codL_drop {mt : Nat → Option ax_T} {ht : ax_HL} {own : String} {ini tf : Bool} {rt : Option FieldType} {nL : Nat} {cc : ByteArray} {f : ax_R → Bool} : ∀ {l : List ax_R}, ax_codL mt ht own ini tf rt nL cc l = true → ax_codL mt ht own ini tf rt nL cc (l.dropWhile f) = true
  | [], h => h
  | r :: rest, h => by
    rw [List.dropWhile_cons]
    split
    · have h2 := h
      simp only [ax_codL, Bool.and_eq_true] at h2
      exact ax_codL_drop h2.2.2.2
    · exact h
section AX108
variable {p : Program} {l : Launch} {e : Env} {R : Room} {s : State} {m : MethodId} {args : Array Value} {below : List Frame} {meth : Method} {c : Code} {Qf : State → Prop} {G : ax_G} {own : String} {cc : ByteArray} {nL : Nat}
variable {C : ax_C} {Q : ax_O → ax_M → Prop} {rt : Option FieldType} {nx : ax_K} {jm : Nat → ax_K} {pc a b c0 : Nat} {lv : ax_L} {st : List ax_V} {M : ax_M} {rc rs : Nat} {H : Heap} {locs : List Loc} {cells slots : Nat} {ls : Array Slot}
variable {d : Nat} {mt : Nat → Option ax_T} {ht : ax_HL} {ini tf : Bool}
theorem sx_csW {idx c1 s1 : Nat} {D : ax_D} {hh : List (Nat × Nat × Nat × Nat)} {o : Option ax_V} {M2 : ax_M} (cx : ax_Cx G p R s m args meth c own cc nL) (hX : ax_Kx G s s.heap) (hd : decode cc pc = .ok (.invokestatic idx, 3)) (hM : ax_MetH l G d D hh c1 s1 (st.take b).reverse M o M2)
    (hcw : Cond.codeWith D.1 D.2.1 D.2.2.1 D.2.2.2 hh ∈ ax_ws) (hin : Cond.initialized D.1.cls ∈ ax_ws) (hds : D.1.cls ≠ "java/lang/invoke/MethodHandle" ∧ D.1.cls ≠ "java/lang/invoke/VarHandle" ∧ (parseMethodDescriptor D.1.desc).map (fun d => d.parameters.length) = some b) (h21 : D.2.2.1 ≤ 21) (hst : Cond.static D.1 ∈ ax_ws) (hl : Cond.methodLink own idx D.1 ∈ ax_ws) (hRf : d + 1 ≤ R.frames) (hRl : 40 * (d + 1) ≤ R.locals)
    (hn : b ≤ st.length) (hw : ((st.drop b).map ax_w).sum ≤ 8) (k1 : c1 ≤ rc) (k2 : s1 ≤ rs) (kn : ax_Ko G p l e R s m args below meth c nL Qf (pc + 3) nx) (h1 : nx lv (o.toList ++ st.drop b) M2 (rc - c1) (rs - s1)) (hs : ax_SR G s R nL lv M rc rs H locs cells slots ls) : W p l e R s m args below meth c H locs cells slots Qf (F0 m pc ls (st.map (ax_tr G))) := by
  have hG : GoodIn ax_ws (va_wsS own idx D.1 (ax_mwh D hh)) := fun w hw => by
    unfold va_wsS at hw
    rcases List.mem_append.mp hw with hw | hw
    · simp only [List.mem_cons, List.not_mem_nil, or_false] at hw
      rcases hw with rfl | rfl | rfl
      · exact ⟨hl, ax_good _ hl⟩
      · exact ⟨hst, ax_good _ hst⟩
      · exact ⟨hin, ax_good _ hin⟩
    · unfold ax_mwh at hw
      rcases List.mem_cons.mp hw with e | hw
      · rw [e]; exact ⟨hcw, ax_good _ hcw⟩
      · exact ⟨hw, ax_good _ hw⟩
  have cw := vx_cwSW (R := R) (s := s) (args := args) (mc := c1) (ms := s1) (rm := ax_rm d c1 s1) b cx.2.2.2.2.1 hG (show ax_mwh D hh = _ from rfl) rfl rfl hds ⟨hRf, by show 8 + (D.2.2.1 + 11) + 40 * d ≤ R.locals; omega⟩
  refine ax_back (g := F0 m pc ls (st.map (ax_tr G))) (st2 := st.drop b) (qa := (((st.take b).reverse).map (ax_tr G)).toArray) cx hs k1 k2 rfl (vx_runSW (As := ((st.take b).reverse).map (ax_tr G)) ⟨cx.1, cx.2.1, cx.2.2.1, cx.2.2.2.1, cx.2.2.2.2.1⟩ hM cw ⟨ax_blindX, ax_preXOf cx hX hs _⟩ rfl ?_ (ax_lsz cx hs) ?_ ?_ hd ⟨by have := hs.2.2.2.2.1; omega, by have := hs.2.2.2.2.2; omega⟩) kn h1
  · simp; omega
  · show st.map (ax_tr G) = _
    rw [← List.map_reverse, List.reverse_reverse, ← List.map_append, List.take_append_drop]
  · show 2 * 0 + _ ≤ 8
    rw [ax_sumw]; omega
/-- what the small machine asks of the law is enough -/
theorem ax_soundL {cod : List ax_R} (cx : ax_Cx G p R s m args meth c own cc nL) (hX : ax_Kx G s s.heap) (hC : ax_Snd l G (fun j => (mt j).map (fun T => T.1)) d C) (hH : ∀ (j c1 s1 : Nat) (avs : List ax_V) (M : ax_M) (o : Option ax_V) (M2 : ax_M), C j c1 s1 avs M (.inl o) M2 → ∀ T hh, ht j = some (T, hh) → ax_MetH l G d T.1 hh c1 s1 avs M o M2) (hRf : d + 1 ≤ R.frames) (hRl : 40 * (d + 1) ≤ R.locals) (hini : ini = true → meth.name = "<init>")
    (hE : ax_HE G p l e R s m args below meth c cc nL Q rt Qf) (hT : ax_HT G p l e R s m args below meth c nL Q Qf cod) (hcod : ax_codL mt ht own ini tf rt nL cc cod = true) :
    ∀ (k : Nat) (r : ax_R) (rest : List ax_R), ax_codL mt ht own ini tf rt nL cc (r :: rest) = true → (∀ x ∈ r :: rest, x ∈ cod) → ax_Ko G p l e R s m args below meth c nL Qf r.1 (ax_wp C cod Q rt k (r :: rest))
  | 0, _, _, _, _ => fun _ _ _ _ _ _ _ _ _ _ h => h.elim
  | k + 1, (pc, ins, a, b, c0, dd), rest, hok, hsub => by
    intro lv st M rc rs H locs cells slots ls h hs
    have hok2 := hok
    simp only [ax_codL, Bool.and_eq_true] at hok2
    obtain ⟨h1, h2, h3, h4⟩ := hok2
    obtain ⟨n, hd, hn⟩ := ax_dec_ok h2
    by_cases h99 : c0 = 99
    · have h8 : False := by
        have h7 : (if c0 = 99 then False else ax_ins C Q rt (ax_wp C cod Q rt k rest) (fun t => ax_wp C cod Q rt k (ax_at cod t)) pc a b c0 lv st M rc rs ins) := h
        rw [if_pos h99] at h7
        exact h7
      exact h8.elim
    have h0 : ax_ins C Q rt (ax_wp C cod Q rt k rest) (fun t => ax_wp C cod Q rt k (ax_at cod t)) pc a b c0 lv st M rc rs ins := by
      have h7 : (if c0 = 99 then False else ax_ins C Q rt (ax_wp C cod Q rt k rest) (fun t => ax_wp C cod Q rt k (ax_at cod t)) pc a b c0 lv st M rc rs ins) := h
      rw [if_neg h99] at h7
      exact h7
    have kn : ax_last ins = false → ax_Ko G p l e R s m args below meth c nL Qf (pc + ax_len ins) (ax_wp C cod Q rt k rest) := fun hl => by
      cases rest with
      | nil => intro _ _ _ _ _ _ _ _ _ _ h9; cases k <;> exact h9.elim
      | cons r2 rest2 =>
        simp only [hl, Bool.false_or, beq_iff_eq] at h3
        have h9 := ax_soundL cx hX hC hH hRf hRl hini hE hT hcod k r2 rest2 h4 (fun x hx => hsub x (List.mem_cons_of_mem _ hx))
        rw [h3] at h9
        exact h9
    simp only [Bool.or_eq_true, beq_iff_eq] at h1
    rcases h1 with (h1 | h1) | h1
    · exact absurd h1 h99
    · refine ax_row (nx := ax_wp C cod Q rt k rest) (jm := fun t => ax_wp C cod Q rt k (ax_at cod t)) cx hC hRf hRl hini hE hT (hsub _ List.mem_cons_self) hd hn h1 kn (fun t => ?_) h0 hs
      cases hat : ax_at cod t with
      | nil => intro _ _ _ _ _ _ _ _ _ _ h9; cases k <;> exact h9.elim
      | cons r2 rest2 =>
        have h5 : ax_codL mt ht own ini tf rt nL cc (r2 :: rest2) = true := by rw [← hat]; exact ax_codL_drop hcod
        have h9 := ax_soundL cx hX hC hH hRf hRl hini hE hT hcod k r2 rest2 h5 (fun x hx => by
          rw [← hat] at hx
          exact (List.dropWhile_sublist _).subset hx)
        rw [ax_at_head hat] at h9
        exact h9
    · unfold ax_rokH at h1
      split at h1
      · rename_i idx
        rw [Bool.and_eq_true] at h1
        obtain ⟨hc00, h1⟩ := h1
        have hc00 : c0 = 0 := of_decide_eq_true hc00
        subst hc00
        split at h1
        · rename_i T hh hT9
          simp only [Bool.and_eq_true, decide_eq_true_eq] at h1
          obtain ⟨q1, q2, q3, q4, q5, q6⟩ := h1
          have h9 : ax_cl1 C (ax_wp C cod Q rt k rest) a b lv st M rc rs := h0
          obtain ⟨hn9, hw, c1, s1, o, M2, k1, k2, hcall, h10⟩ := h9
          exact sx_csW (D := T.1) cx hX (ax_hd hd (hn rfl)) (hH _ _ _ _ _ _ _ hcall T hh hT9) (ax_in1_mem q1) (ax_in1_mem q2) q3 q4 (ax_in1_mem q5) (ax_in1_mem q6) hRf hRl hn9 hw k1 k2 (kn rfl) h10 hs
        · cases h1
      · cases h1
end AX108
