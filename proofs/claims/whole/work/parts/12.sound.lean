/-! A METHOD's CODE AS A LIST OF ROWS: what a program decides of it, and that what the small machine asks is enough -/
abbrev ax_T : Type := ax_D × Nat × Nat × Nat × Nat
def ax_in1 (d : Nat) (w : Cond) : Bool := (if d = 9999 then decide (w ∈ ax_xs) else decide (lw_tbl[d]? = some w)) && goodWord w
theorem ax_in1_mem {d : Nat} {w : Cond} (h : ax_in1 d w = true) : w ∈ ax_ws := by
  simp only [ax_in1, Bool.and_eq_true] at h
  obtain ⟨h1, h2⟩ := h
  split at h1
  · exact List.mem_filter.mpr ⟨List.mem_append_right _ (of_decide_eq_true h1), h2⟩
  · exact ax_ws_of (of_decide_eq_true h1) h2
def ax_dokB (T : ax_T) (n : Nat) : Bool := ax_in1 T.2.1 (ax_code T.1) && (ax_in1 T.2.2.1 (.initialized T.1.1.cls) && (decide (T.1.1.cls ≠ "java/lang/invoke/MethodHandle" ∧ T.1.1.cls ≠ "java/lang/invoke/VarHandle" ∧ (parseMethodDescriptor T.1.1.desc).map (fun d => d.parameters.length) = some n) && decide (T.1.2.2.1 ≤ 21)))
theorem ax_dokB_ok {T : ax_T} {n : Nat} (h : ax_dokB T n = true) : ax_dok T.1 n := by
  simp only [ax_dokB, Bool.and_eq_true, decide_eq_true_eq] at h
  exact ⟨ax_in1_mem h.1, ax_in1_mem h.2.1, h.2.2.1, h.2.2.2⟩
def ax_len : Instr → Nat
  | .aload _ => 2 | .astore _ => 2 | .iload _ => 2 | .istore _ => 2 | .bipush _ => 2 | .ldc _ => 2 | .newarray _ => 2
  | .sipush _ => 3 | .getfield _ => 3 | .putfield _ => 3 | .getstatic _ => 3 | .goto _ => 3 | .ifCond _ _ => 3 | .if_icmp _ _ => 3 | .if_acmp _ _ => 3 | .ifnull _ => 3 | .ifnonnull _ => 3 | .iinc _ _ => 3
  | .invokevirtual _ => 3 | .invokespecial _ => 3 | .invokestatic _ => 3 | .new _ => 3 | .anewarray _ => 3 | .checkcast _ => 3 | .instanceof _ => 3 | .ldc_w _ => 3
  | _ => 1
def ax_sw : Instr → Bool
  | .tableswitch _ _ _ _ => true
  | _ => false
/-- nothing goes on behind it -/
def ax_last : Instr → Bool
  | .tableswitch _ _ _ _ => true
  | .goto _ => true
  | .ireturn => true
  | .areturn => true
  | .return_ => true
  | .athrow => true
  | _ => false
def ax_ldok (own : String) (idx a b c d : Nat) : Bool := if c = 0 then ax_in1 d (.constant own idx (Int32.ofNat a)) else match ax_sc[d]? with
  | some q => decide (q.1 = own) && (q.2.1 == idx && q.2.2.2 == b)
  | none => false
def ax_gsok (own : String) (idx a b c d : Nat) : Bool := match c with
  | 0 => (match ax_sv[b]? with
    | some (C, n, d0, .inl v) => (v == a) && ax_in1 d (.fieldLink own idx C n d0)
    | _ => false)
  | 1 => (match ax_sv[a]? with
    | some (C, n, d0, .inr v) => (v == b) && ax_in1 d (.fieldLink own idx C n d0)
    | _ => false)
  | 2 => ax_in1 d (.fieldLink own idx "jdk/internal/util/Preconditions" "SIOOBE_FORMATTER" "Ljava/util/function/BiFunction;")
  | _ => false
/-- AbstractStringBuilder.length, and StringBuilder's own that overrides it -/
def ax_xL : MethodName := ⟨"java/lang/AbstractStringBuilder", "length", "()I"⟩
def ax_yL : MethodName := ⟨"java/lang/StringBuilder", "length", "()I"⟩
def ax_rok (mt : Nat → Option ax_T) (own : String) (ini tf : Bool) (rt : Option FieldType) (nL pc a b c d : Nat) : Instr → Bool
  | .istore_n k => decide (k.val < nL)
  | .istore k => decide (k < nL)
  | .astore_n k => decide (k.val < nL)
  | .astore k => decide (k < nL)
  | .iinc k _ => decide (k < nL)
  | .goto off => decide ((pc : Int) + off = (a : Int))
  | .ifCond _ off => decide ((pc : Int) + off = (a : Int))
  | .if_icmp _ off => decide ((pc : Int) + off = (a : Int))
  | .if_acmp _ off => decide ((pc : Int) + off = (a : Int))
  | .ifnull off => decide ((pc : Int) + off = (a : Int))
  | .ifnonnull off => decide ((pc : Int) + off = (a : Int))
  | .getfield idx => ax_in1 d (ax_fl own idx a b) && (decide (a < 15) && (decide (b < ax_N a) && decide ((c = 1 ∧ ax_isR (ax_ty a b) = true) ∨ (c ≠ 1 ∧ ax_isR (ax_ty a b) = false))))
  | .putfield idx => ax_in1 d (ax_fl own idx a b) && (decide (a < 15) && (decide (b < ax_N a) && (decide ((c = 1 ∧ ax_isR (ax_ty a b) = true) ∨ (c ≠ 1 ∧ ax_isR (ax_ty a b) = false)) && decide ((ax_fr a b).2.2.2 = false ∨ (ax_fr a b).2.2.2 = true ∧ ini = true ∧ (ax_fr a b).1 = own))))
  | .new idx => if c = 9 then tf else ax_in1 d (.classLink own idx (ax_nm a)) && (decide (a < 15) && decide (b = ax_N a))
  | .newarray t => ax_in1 d (.arrayClass (newarray.typeOf t)) && decide ((100 ≤ a ∧ a < 105) ∧ newarray.typeOf t = ax_aty (a - 100))
  | .anewarray idx => ax_in1 d (.classLink own idx (ax_nm (a - 110))) && decide (a = 114 ∨ a = 118 ∨ a = 121)
  | .ldc idx => ax_ldok own idx a b c d
  | .ldc_w idx => ax_ldok own idx a b c d
  | .getstatic idx => ax_gsok own idx a b c d
  | .instanceof idx => ax_in1 d (.classLink own idx RJ0)
  | .checkcast idx => ax_in1 d (.classLink own idx RJ0)
  | .areturn => decide (∃ ty ∈ rt, ax_isR ty = true)
  | .return_ => decide (rt = none)
  | .invokestatic idx => if c = 6 then ax_in1 d (.methodLink own idx Lib.Math.max.name) else if c = 7 then ax_in1 d (.methodLink own idx Lib.Math.min.name) else if c = 8 then ax_in1 d (.methodLink own idx arraycopyName)
      else (match mt a with
      | some T => ax_dokB T b && (ax_in1 T.2.2.2.1 (.static T.1.1) && ax_in1 d (.methodLink own idx T.1.1))
      | none => false)
  | .invokevirtual idx => (match mt a with
      | some T => ax_dokB T (b - 1) && (ax_in1 T.2.2.2.1 (.instanceMethod T.1.1) && ((if 5000 ≤ d then decide (c = 1 ∧ T.1.1 = ax_yL ∧ b = 1) && ax_in1 (d - 5000) (.methodLink own idx ax_xL) else ax_in1 T.2.2.2.2 (.selects (ax_nm c) T.1.1 T.1.1) && ax_in1 d (.methodLink own idx T.1.1)) && decide (0 < b ∧ c < 15)))
      | none => false)
  | .invokespecial idx => if c = 5 then ax_in1 d (.methodLink own idx objectInit) else (match mt a with
      | some T => if c = 11 then ax_dokB T (b - 1) && (ax_in1 T.2.2.2.1 (.instanceMethod T.1.1) && (decide (0 < b ∧ T.1.1.name ≠ "<init>") && (ax_in1 d (.methodLink own idx T.1.1) && (ax_in1 T.2.2.2.2 (.sameMethod T.1.1.cls T.1.1.cls T.1.1.name T.1.1.desc) && ax_in1 1028 (.superclass own T.1.1.cls))))) else ax_dokB T (b - 1) && (ax_in1 T.2.2.2.1 (.instanceMethod T.1.1) && (decide (0 < b ∧ T.1.1.name = "<init>" ∧ T.1.2.2.2 = none) && (if c = 10 then decide ((own, idx, T.1.1) ∈ ax_nl) else ax_in1 d (.methodLink own idx T.1.1))))
      | none => false)
  | _ => true
def ax_dec (cc : ByteArray) (pc : Nat) (i : Instr) : Bool := match decode cc pc with
  | .ok q => decide (q.1 = i) && (ax_sw i || decide (q.2 = ax_len i))
  | _ => false
theorem ax_dec_ok {cc : ByteArray} {pc : Nat} {i : Instr} (h : ax_dec cc pc i = true) : ∃ n, decode cc pc = .ok (i, n) ∧ (ax_sw i = false → n = ax_len i) := by
  unfold ax_dec at h
  split at h
  · rename_i q hq
    simp only [Bool.and_eq_true, Bool.or_eq_true, decide_eq_true_eq] at h
    obtain ⟨h1, h2⟩ := h
    obtain ⟨q1, q2⟩ := q
    simp at h1 h2
    subst h1
    refine ⟨q2, hq, fun hs => ?_⟩
    rcases h2 with h2 | h2
    · rw [hs] at h2; cases h2
    · exact h2
  · cases h
theorem ax_hd {cc : ByteArray} {pc n : Nat} {i : Instr} (hd : decode cc pc = .ok (i, n)) (hn : n = ax_len i) : decode cc pc = .ok (i, ax_len i) := by rw [← hn]; exact hd
/-- a stretch of code is as the bytes, the words and the table have it -/
def ax_cod (mt : Nat → Option ax_T) (own : String) (ini tf : Bool) (rt : Option FieldType) (nL : Nat) (cc : ByteArray) : List ax_R → Bool
  | [] => true
  | r :: rest => (r.2.2.2.2.1 == 99 || ax_rok mt own ini tf rt nL r.1 r.2.2.1 r.2.2.2.1 r.2.2.2.2.1 r.2.2.2.2.2 r.2.1) && (ax_dec cc r.1 r.2.1 && ((match rest with
      | [] => true
      | r2 :: _ => ax_last r.2.1 || (r2.1 == r.1 + ax_len r.2.1)) && ax_cod mt own ini tf rt nL cc rest))
theorem ax_cod_drop {mt : Nat → Option ax_T} {own : String} {ini tf : Bool} {rt : Option FieldType} {nL : Nat} {cc : ByteArray} {f : ax_R → Bool} : ∀ {l : List ax_R}, ax_cod mt own ini tf rt nL cc l = true → ax_cod mt own ini tf rt nL cc (l.dropWhile f) = true
  | [], h => h
  | r :: rest, h => by
    rw [List.dropWhile_cons]
    split
    · have h2 := h
      simp only [ax_cod, Bool.and_eq_true] at h2
      exact ax_cod_drop h2.2.2.2
    · exact h
theorem ax_at_head {cod : List ax_R} {t : Nat} {r : ax_R} {rest : List ax_R} (h : ax_at cod t = r :: rest) : r.1 = t := by
  unfold ax_at at h
  have h1 := List.head?_dropWhile_not (fun r : ax_R => !(r.1 == t)) cod
  rw [h] at h1
  simpa using h1
/-- the words that do not hang on a row -/
theorem ax_w_max : Cond.static Lib.Math.max.name ∈ ax_ws ∧ Cond.code Lib.Math.max.name Lib.Math.max.code 2 (some .int) ∈ ax_ws := ⟨ax_in1_mem (d := 561) (by decide +kernel), ax_in1_mem (d := 562) (by decide +kernel)⟩
theorem ax_w_min : Cond.static Lib.Math.min.name ∈ ax_ws ∧ Cond.code Lib.Math.min.name Lib.Math.min.code 2 (some .int) ∈ ax_ws := ⟨ax_in1_mem (d := 886) (by decide +kernel), ax_in1_mem (d := 887) (by decide +kernel)⟩
theorem ax_w_math : Cond.initialized "java/lang/Math" ∈ ax_ws := ax_in1_mem (d := 103) (by decide +kernel)
theorem ax_w_cpy : Cond.native arraycopyName ∈ ax_ws ∧ Cond.static arraycopyName ∈ ax_ws ∧ Cond.initialized "java/lang/System" ∈ ax_ws := ⟨ax_in1_mem (d := 909) (by decide +kernel), ax_in1_mem (d := 908) (by decide +kernel), ax_in1_mem (d := 105) (by decide +kernel)⟩
theorem ax_w_xL : Cond.sameMethod ax_xL.cls ax_xL.cls ax_xL.name ax_xL.desc ∈ ax_ws ∧ Cond.instanceMethod ax_xL ∈ ax_ws ∧ Cond.selects (ax_nm 1) ax_xL ax_yL ∈ ax_ws ∧ Cond.code ax_xL prog_15_method_6_code 1 (some .int) ∈ ax_ws := ⟨ax_in1_mem (d := 1107) (by decide +kernel), ax_in1_mem (d := 1106) (by decide +kernel), ax_in1_mem (d := 1108) (by decide +kernel), ax_in1_mem (d := 1112) (by decide +kernel)⟩
theorem ax_w_oi : Cond.instanceMethod objectInit ∈ ax_ws ∧ Cond.code objectInit ⟨#[0xb1]⟩ 1 none ∈ ax_ws := ⟨ax_in1_mem (d := 118) (by decide +kernel), ax_in1_mem (d := 119) (by decide +kernel)⟩
theorem ax_ldok_ok {own : String} {idx a b c d : Nat} (h : ax_ldok own idx a b c d = true) : c = 0 ∧ Cond.constant own idx (Int32.ofNat a) ∈ ax_ws ∨ c ≠ 0 ∧ ∃ tx, (own, idx, tx, b) ∈ ax_sc := by
  unfold ax_ldok at h
  split at h
  · rename_i h0; exact Or.inl ⟨h0, ax_in1_mem h⟩
  · rename_i h0
    split at h
    · rename_i q hq
      simp only [Bool.and_eq_true, decide_eq_true_eq, beq_iff_eq] at h
      obtain ⟨q1, q2, q3, q4⟩ := q
      obtain ⟨e1, e2, e3⟩ := h
      simp at e1 e2 e3
      subst e1; subst e2; subst e3
      exact Or.inr ⟨h0, q3, List.mem_of_getElem? hq⟩
    · cases h
theorem ax_gsok_ok {own : String} {idx a b c d : Nat} (h : ax_gsok own idx a b c d = true) : ∃ (Cn n0 d0 : String), Cond.fieldLink own idx Cn n0 d0 ∈ ax_ws ∧ (c = 0 ∧ (Cn, n0, d0, Sum.inl a) ∈ ax_sv ∨ c = 1 ∧ (Cn, n0, d0, Sum.inr b) ∈ ax_sv ∨ c = 2 ∧ Cn = "jdk/internal/util/Preconditions" ∧ n0 = "SIOOBE_FORMATTER" ∧ d0 = "Ljava/util/function/BiFunction;") := by
  unfold ax_gsok at h
  split at h
  · split at h
    · rename_i C n d0 v hq
      simp only [Bool.and_eq_true, beq_iff_eq] at h
      exact ⟨C, n, d0, ax_in1_mem h.2, Or.inl ⟨rfl, by rw [← h.1]; exact List.mem_of_getElem? hq⟩⟩
    · cases h
  · split at h
    · rename_i C n d0 v hq
      simp only [Bool.and_eq_true, beq_iff_eq] at h
      exact ⟨C, n, d0, ax_in1_mem h.2, Or.inr (Or.inl ⟨rfl, by rw [← h.1]; exact List.mem_of_getElem? hq⟩)⟩
    · cases h
  · exact ⟨_, _, _, ax_in1_mem h, Or.inr (Or.inr ⟨rfl, rfl, rfl, rfl⟩)⟩
  · cases h
section AX12
variable {p : Program} {l : Launch} {e : Env} {R : Room} {s : State} {m : MethodId} {args : Array Value} {below : List Frame} {meth : Method} {c : Code} {Qf : State → Prop} {G : ax_G} {own : String} {cc : ByteArray} {nL : Nat}
variable {C : ax_C} {Q : ax_O → ax_M → Prop} {rt : Option FieldType} {nx : ax_K} {jm : Nat → ax_K} {pc a b c0 : Nat} {lv : ax_L} {st : List ax_V} {M : ax_M} {rc rs : Nat} {H : Heap} {locs : List Loc} {cells slots : Nat} {ls : Array Slot}
variable {d : Nat} {mt : Nat → Option ax_T} {ini tf : Bool}
/-- what the ends of a method owe -/
def ax_HE (G : ax_G) (p : Program) (l : Launch) (e : Env) (R : Room) (s : State) (m : MethodId) (args : Array Value) (below : List Frame) (meth : Method) (c : Code) (cc : ByteArray) (nL : Nat) (Q : ax_O → ax_M → Prop) (rt : Option FieldType) (Qf : State → Prop) : Prop :=
  ∀ (C : ax_C) (nx : ax_K) (jm : Nat → ax_K) (pc a b c0 : Nat) (lv : ax_L) (st : List ax_V) (M : ax_M) (rc rs : Nat) (H : Heap) (locs : List Loc) (cells slots : Nat) (ls : Array Slot) (ins : Instr), ins = .ireturn ∨ ins = .areturn ∨ ins = .return_ → decode cc pc = .ok (ins, 1) →
    (ins = .areturn → ∃ ty, rt = some ty ∧ ax_isR ty = true) → (ins = .return_ → rt = none) → ax_ins C Q rt nx jm pc a b c0 lv st M rc rs ins → ax_SR G s R nL lv M rc rs H locs cells slots ls → W p l e R s m args below meth c H locs cells slots Qf (F0 m pc ls (st.map (ax_tr G)))
def ax_HT (G : ax_G) (p : Program) (l : Launch) (e : Env) (R : Room) (s : State) (m : MethodId) (args : Array Value) (below : List Frame) (meth : Method) (c : Code) (nL : Nat) (Q : ax_O → ax_M → Prop) (Qf : State → Prop) (cod : List ax_R) : Prop :=
  ∀ (r : ax_R) (idx : Nat) (lv : ax_L) (st : List ax_V) (M : ax_M) (rc rs : Nat) (H : Heap) (locs : List Loc) (cells slots : Nat) (ls : Array Slot), r ∈ cod → r.2.1 = .new idx → r.2.2.2.2.1 = 9 → 1 ≤ rc → 6 ≤ rs → (st.map ax_w).sum ≤ 8 → Q (.inr r.2.2.1) (ax_new M 400 0) → ax_SR G s R nL lv M rc rs H locs cells slots ls → W p l e R s m args below meth c H locs cells slots Qf (F0 m r.1 ls (st.map (ax_tr G)))
theorem ax_row {cod : List ax_R} {dd n : Nat} {ins : Instr} (cx : ax_Cx G p R s m args meth c own cc nL) (hC : ax_Snd l G (fun j => (mt j).map (fun T => T.1)) d C) (hRf : d + 1 ≤ R.frames) (hRl : 40 * (d + 1) ≤ R.locals) (hini : ini = true → meth.name = "<init>")
    (hE : ax_HE G p l e R s m args below meth c cc nL Q rt Qf) (hT : ax_HT G p l e R s m args below meth c nL Q Qf cod) (hmem : (pc, ins, a, b, c0, dd) ∈ cod)
    (hd : decode cc pc = .ok (ins, n)) (hn : ax_sw ins = false → n = ax_len ins) (hr : ax_rok mt own ini tf rt nL pc a b c0 dd ins = true)
    (kn : ax_last ins = false → ax_Ko G p l e R s m args below meth c nL Qf (pc + ax_len ins) nx) (kj : ∀ t, ax_Ko G p l e R s m args below meth c nL Qf t (jm t))
    (h : ax_ins C Q rt nx jm pc a b c0 lv st M rc rs ins) (hs : ax_SR G s R nL lv M rc rs H locs cells slots ls) : W p l e R s m args below meth c H locs cells slots Qf (F0 m pc ls (st.map (ax_tr G))) := by
  cases ins with
  | bipush i => exact sx_bipush cx (ax_hd hd (hn rfl)) (kn rfl) h hs
  | sipush i => exact sx_sipush cx (ax_hd hd (hn rfl)) (kn rfl) h hs
  | iconst i => exact sx_iconst cx (ax_hd hd (hn rfl)) (kn rfl) h hs
  | aconst_null => exact sx_aconst_null cx (ax_hd hd (hn rfl)) (kn rfl) h hs
  | iload_n k => exact sx_iload_n cx (ax_hd hd (hn rfl)) (kn rfl) h hs
  | iload k => exact sx_iload cx (ax_hd hd (hn rfl)) (kn rfl) h hs
  | aload_n k => exact sx_aload_n cx (ax_hd hd (hn rfl)) (kn rfl) h hs
  | aload k => exact sx_aload cx (ax_hd hd (hn rfl)) (kn rfl) h hs
  | istore_n k => exact sx_istore_n cx (ax_hd hd (hn rfl)) (of_decide_eq_true hr) (kn rfl) h hs
  | istore k => exact sx_istore cx (ax_hd hd (hn rfl)) (of_decide_eq_true hr) (kn rfl) h hs
  | astore_n k => exact sx_astore_n cx (ax_hd hd (hn rfl)) (of_decide_eq_true hr) (kn rfl) h hs
  | astore k => exact sx_astore cx (ax_hd hd (hn rfl)) (of_decide_eq_true hr) (kn rfl) h hs
  | iinc k i => exact sx_iinc cx (ax_hd hd (hn rfl)) (of_decide_eq_true hr) (kn rfl) h hs
  | iadd => exact sx_iadd cx (ax_hd hd (hn rfl)) (kn rfl) h hs
  | isub => exact sx_isub cx (ax_hd hd (hn rfl)) (kn rfl) h hs
  | imul => exact sx_imul cx (ax_hd hd (hn rfl)) (kn rfl) h hs
  | idiv => exact sx_idiv cx (ax_hd hd (hn rfl)) (kn rfl) h hs
  | irem => exact sx_irem cx (ax_hd hd (hn rfl)) (kn rfl) h hs
  | iand => exact sx_iand cx (ax_hd hd (hn rfl)) (kn rfl) h hs
  | ior => exact sx_ior cx (ax_hd hd (hn rfl)) (kn rfl) h hs
  | ineg => exact sx_ineg cx (ax_hd hd (hn rfl)) (kn rfl) h hs
  | ishl => exact sx_ishl cx (ax_hd hd (hn rfl)) (kn rfl) h hs
  | ishr => exact sx_ishr cx (ax_hd hd (hn rfl)) (kn rfl) h hs
  | iushr => exact sx_iushr cx (ax_hd hd (hn rfl)) (kn rfl) h hs
  | i2c => exact sx_i2c cx (ax_hd hd (hn rfl)) (kn rfl) h hs
  | i2b => exact sx_i2b cx (ax_hd hd (hn rfl)) (kn rfl) h hs
  | i2l => exact sx_i2l cx (ax_hd hd (hn rfl)) (kn rfl) h hs
  | lcmp => exact sx_lcmp cx (ax_hd hd (hn rfl)) (kn rfl) h hs
  | dup => exact sx_dup cx (ax_hd hd (hn rfl)) (kn rfl) h hs
  | dup2 => exact sx_dup2 cx (ax_hd hd (hn rfl)) (kn rfl) h hs
  | dup_x1 => exact sx_dup_x1 cx (ax_hd hd (hn rfl)) (kn rfl) h hs
  | pop => exact sx_pop cx (ax_hd hd (hn rfl)) (kn rfl) h hs
  | arraylength => exact sx_arraylength cx (ax_hd hd (hn rfl)) (kn rfl) h hs
  | iaload => exact sx_iaload cx (ax_hd hd (hn rfl)) (kn rfl) h hs
  | caload => exact sx_caload cx (ax_hd hd (hn rfl)) (kn rfl) h hs
  | baload => exact sx_baload cx (ax_hd hd (hn rfl)) (kn rfl) h hs
  | laload => exact sx_laload cx (ax_hd hd (hn rfl)) (kn rfl) h hs
  | aaload => exact sx_aaload cx (ax_hd hd (hn rfl)) (kn rfl) h hs
  | iastore => exact sx_iastore cx (ax_hd hd (hn rfl)) (kn rfl) h hs
  | castore => exact sx_castore cx (ax_hd hd (hn rfl)) (kn rfl) h hs
  | bastore => exact sx_bastore cx (ax_hd hd (hn rfl)) (kn rfl) h hs
  | lastore => exact sx_lastore cx (ax_hd hd (hn rfl)) (kn rfl) h hs
  | aastore => exact sx_aastore cx (ax_hd hd (hn rfl)) (kn rfl) h hs
  | goto off => exact sx_goto cx (ax_hd hd (hn rfl)) (of_decide_eq_true hr) kj h hs
  | ifCond cnd off => cases cnd with
    | eq => exact sx_if_eq cx (ax_hd hd (hn rfl)) (of_decide_eq_true hr) (kn rfl) kj h hs
    | ne => exact sx_if_ne cx (ax_hd hd (hn rfl)) (of_decide_eq_true hr) (kn rfl) kj h hs
    | lt => exact sx_if_lt cx (ax_hd hd (hn rfl)) (of_decide_eq_true hr) (kn rfl) kj h hs
    | ge => exact sx_if_ge cx (ax_hd hd (hn rfl)) (of_decide_eq_true hr) (kn rfl) kj h hs
    | gt => exact sx_if_gt cx (ax_hd hd (hn rfl)) (of_decide_eq_true hr) (kn rfl) kj h hs
    | le => exact sx_if_le cx (ax_hd hd (hn rfl)) (of_decide_eq_true hr) (kn rfl) kj h hs
  | if_icmp cnd off => cases cnd with
    | eq => exact sx_icmp_eq cx (ax_hd hd (hn rfl)) (of_decide_eq_true hr) (kn rfl) kj h hs
    | ne => exact sx_icmp_ne cx (ax_hd hd (hn rfl)) (of_decide_eq_true hr) (kn rfl) kj h hs
    | lt => exact sx_icmp_lt cx (ax_hd hd (hn rfl)) (of_decide_eq_true hr) (kn rfl) kj h hs
    | ge => exact sx_icmp_ge cx (ax_hd hd (hn rfl)) (of_decide_eq_true hr) (kn rfl) kj h hs
    | gt => exact sx_icmp_gt cx (ax_hd hd (hn rfl)) (of_decide_eq_true hr) (kn rfl) kj h hs
    | le => exact sx_icmp_le cx (ax_hd hd (hn rfl)) (of_decide_eq_true hr) (kn rfl) kj h hs
  | if_acmp cnd off => cases cnd with
    | ne => exact sx_acmpne cx (ax_hd hd (hn rfl)) (of_decide_eq_true hr) (kn rfl) kj h hs
    | _ => exact (show False from h).elim
  | ifnull off => exact sx_ifnull cx (ax_hd hd (hn rfl)) (of_decide_eq_true hr) (kn rfl) kj h hs
  | ifnonnull off => exact sx_ifnonnull cx (ax_hd hd (hn rfl)) (of_decide_eq_true hr) (kn rfl) kj h hs
  | tableswitch dflt lo hi offs => exact sx_tableswitch cx hd kj h hs
  | getfield idx =>
    simp only [ax_rok, Bool.and_eq_true, decide_eq_true_eq] at hr
    exact sx_getfield cx (ax_hd hd (hn rfl)) (ax_in1_mem hr.1) hr.2.1 hr.2.2.1 hr.2.2.2 (kn rfl) h hs
  | putfield idx =>
    simp only [ax_rok, Bool.and_eq_true, decide_eq_true_eq] at hr
    obtain ⟨r1, r2, r3, r4, r5⟩ := hr
    exact sx_putfield cx (ax_hd hd (hn rfl)) (ax_in1_mem r1) r2 r3 r4 (r5.imp id (fun z => ⟨z.1, hini z.2.1, z.2.2⟩)) (kn rfl) h hs
  | new idx =>
    by_cases hc9 : c0 = 9
    · have h9 : 1 ≤ rc ∧ 6 ≤ rs ∧ (st.map ax_w).sum ≤ 8 ∧ Q (.inr a) (ax_new M 400 0) := by
        have h8 := h; unfold ax_ins at h8; rw [if_pos hc9] at h8; exact h8
      exact hT (pc, .new idx, a, b, c0, dd) idx lv st M rc rs H locs cells slots ls hmem rfl hc9 h9.1 h9.2.1 h9.2.2.1 h9.2.2.2 hs
    · simp only [ax_rok, if_neg hc9, Bool.and_eq_true, decide_eq_true_eq] at hr
      exact sx_new cx (ax_hd hd (hn rfl)) (ax_in1_mem hr.1) hr.2.1 hr.2.2 hc9 (kn rfl) h hs
  | newarray t =>
    simp only [ax_rok, Bool.and_eq_true, decide_eq_true_eq] at hr
    exact sx_newarray cx (ax_hd hd (hn rfl)) (ax_in1_mem hr.1) hr.2.1 hr.2.2 (kn rfl) h hs
  | anewarray idx =>
    simp only [ax_rok, Bool.and_eq_true, decide_eq_true_eq] at hr
    exact sx_anewarray (ci := a - 110) cx (ax_hd hd (hn rfl)) (by omega) (ax_in1_mem hr.1) (by omega) (kn rfl) h hs
  | ldc idx => exact sx_ldc cx (ax_hd hd (hn rfl)) (ax_ldok_ok hr) (kn rfl) h hs
  | ldc_w idx => exact sx_ldc_w cx (ax_hd hd (hn rfl)) (ax_ldok_ok hr) (kn rfl) h hs
  | getstatic idx =>
    obtain ⟨C1, n1, d1, k1, k2⟩ := ax_gsok_ok hr
    exact sx_getstatic cx (ax_hd hd (hn rfl)) k1 k2 (kn rfl) h hs
  | instanceof idx => exact sx_instanceof cx (ax_hd hd (hn rfl)) (ax_in1_mem hr) (kn rfl) h hs
  | checkcast idx => exact sx_checkcast cx (ax_hd hd (hn rfl)) (ax_in1_mem hr) (kn rfl) h hs
  | ireturn => exact hE C nx jm pc a b c0 lv st M rc rs H locs cells slots ls _ (Or.inl rfl) (ax_hd hd (hn rfl)) (fun z => by cases z) (fun z => by cases z) h hs
  | areturn =>
    have hr2 := of_decide_eq_true hr
    obtain ⟨ty, k1, k2⟩ := hr2
    exact hE C nx jm pc a b c0 lv st M rc rs H locs cells slots ls _ (Or.inr (Or.inl rfl)) (ax_hd hd (hn rfl)) (fun _ => ⟨ty, k1, k2⟩) (fun z => by cases z) h hs
  | return_ => exact hE C nx jm pc a b c0 lv st M rc rs H locs cells slots ls _ (Or.inr (Or.inr rfl)) (ax_hd hd (hn rfl)) (fun z => by cases z) (fun _ => of_decide_eq_true hr) h hs
  | invokestatic idx =>
    by_cases h6 : c0 = 6
    · simp only [ax_rok, if_pos h6] at hr
      exact sx_max cx (ax_hd hd (hn rfl)) h6 (ax_in1_mem hr) ax_w_max.1 ax_w_math ax_w_max.2 (by omega) (by omega) (kn rfl) h hs
    by_cases h7 : c0 = 7
    · simp only [ax_rok, if_neg h6, if_pos h7] at hr
      exact sx_min cx (ax_hd hd (hn rfl)) h7 (ax_in1_mem hr) ax_w_min.1 ax_w_math ax_w_min.2 (by omega) (by omega) (kn rfl) h hs
    by_cases h8 : c0 = 8
    · simp only [ax_rok, if_neg h6, if_neg h7, if_pos h8] at hr
      exact sx_cpy cx (ax_hd hd (hn rfl)) h8 (ax_in1_mem hr) ax_w_cpy.1 ax_w_cpy.2.1 ax_w_cpy.2.2 (by omega) (by omega) (kn rfl) h hs
    simp only [ax_rok, if_neg h6, if_neg h7, if_neg h8] at hr
    split at hr
    · rename_i T hT9
      simp only [Bool.and_eq_true] at hr
      exact sx_cs (D := T.1) cx (ax_hd hd (hn rfl)) hC (by simp [hT9]) (ax_dokB_ok hr.1) (ax_in1_mem hr.2.1) (ax_in1_mem hr.2.2) hRf hRl ⟨h6, h7, h8⟩ (kn rfl) h hs
    · cases hr
  | invokevirtual idx =>
    simp only [ax_rok] at hr
    split at hr
    · rename_i T hT9
      simp only [Bool.and_eq_true, decide_eq_true_eq] at hr
      obtain ⟨r1, r2, r3, r4, r5⟩ := hr
      by_cases h5k : 5000 ≤ dd
      · rw [if_pos h5k] at r3
        simp only [Bool.and_eq_true, decide_eq_true_eq] at r3
        obtain ⟨⟨rfl, e2, rfl⟩, r6⟩ := r3
        have hse := ax_w_xL.2.2.1
        rw [← e2] at hse
        exact sx_co (D := T.1) cx (ax_hd hd (hn rfl)) hC (by simp [hT9]) (ax_dokB_ok r1) r4 r5 (ax_in1_mem r2) (ax_in1_mem r6) ax_w_xL.1 ax_w_xL.2.1 hse ax_w_xL.2.2.2 (by decide +kernel) hRf hRl (kn rfl) h hs
      · rw [if_neg h5k] at r3
        simp only [Bool.and_eq_true] at r3
        exact sx_cv (D := T.1) cx (ax_hd hd (hn rfl)) hC (by simp [hT9]) (ax_dokB_ok r1) r4 r5 (ax_in1_mem r2) (ax_in1_mem r3.1) (ax_in1_mem r3.2) hRf hRl (kn rfl) h hs
    · cases hr
  | invokespecial idx =>
    by_cases h5 : c0 = 5
    · simp only [ax_rok, if_pos h5] at hr
      exact sx_oi cx (ax_hd hd (hn rfl)) h5 (ax_in1_mem hr) ax_w_oi.1 ax_w_oi.2 (by omega) (by omega) (kn rfl) h hs
    simp only [ax_rok, if_neg h5] at hr
    split at hr
    · rename_i T hT9
      by_cases h11 : c0 = 11
      · rw [if_pos h11] at hr
        simp only [Bool.and_eq_true, decide_eq_true_eq] at hr
        obtain ⟨r1, r2, r3, r4, r5, r6⟩ := hr
        exact sx_su (D := T.1) cx (ax_hd hd (hn rfl)) hC (by simp [hT9]) (ax_dokB_ok r1) r3.1 h11 r3.2 (ax_in1_mem r2) (ax_in1_mem r4) (ax_in1_mem r5) (ax_in1_mem r6) hRf hRl (kn rfl) h hs
      rw [if_neg h11] at hr
      simp only [Bool.and_eq_true, decide_eq_true_eq] at hr
      by_cases h10 : c0 = 10
      · rw [if_pos h10] at hr
        exact sx_cn (D := T.1) cx (ax_hd hd (hn rfl)) hC (by simp [hT9]) (ax_dokB_ok hr.1) hr.2.2.1.1 h5 h11 hr.2.2.1.2 (ax_in1_mem hr.2.1) (of_decide_eq_true hr.2.2.2) hRf hRl (kn rfl) h hs
      · rw [if_neg h10] at hr
        exact sx_ci (D := T.1) cx (ax_hd hd (hn rfl)) hC (by simp [hT9]) (ax_dokB_ok hr.1) hr.2.2.1.1 h5 h11 hr.2.2.1.2 (ax_in1_mem hr.2.1) (ax_in1_mem hr.2.2.2) hRf hRl (kn rfl) h hs
    · cases hr
  | _ => exact (show False from h).elim
/-- what the small machine asks is enough -/
theorem ax_sound {cod : List ax_R} (cx : ax_Cx G p R s m args meth c own cc nL) (hC : ax_Snd l G (fun j => (mt j).map (fun T => T.1)) d C) (hRf : d + 1 ≤ R.frames) (hRl : 40 * (d + 1) ≤ R.locals) (hini : ini = true → meth.name = "<init>")
    (hE : ax_HE G p l e R s m args below meth c cc nL Q rt Qf) (hT : ax_HT G p l e R s m args below meth c nL Q Qf cod) (hcod : ax_cod mt own ini tf rt nL cc cod = true) :
    ∀ (k : Nat) (r : ax_R) (rest : List ax_R), ax_cod mt own ini tf rt nL cc (r :: rest) = true → (∀ x ∈ r :: rest, x ∈ cod) → ax_Ko G p l e R s m args below meth c nL Qf r.1 (ax_wp C cod Q rt k (r :: rest))
  | 0, _, _, _, _ => fun _ _ _ _ _ _ _ _ _ _ h => h.elim
  | k + 1, (pc, ins, a, b, c0, dd), rest, hok, hsub => by
    intro lv st M rc rs H locs cells slots ls h hs
    have hok2 := hok
    simp only [ax_cod, Bool.and_eq_true] at hok2
    obtain ⟨h1, h2, h3, h4⟩ := hok2
    obtain ⟨n, hd, hn⟩ := ax_dec_ok h2
    by_cases h99 : c0 = 99
    · have h8 : False := by
        have h7 : (if c0 = 99 then False else ax_ins C Q rt (ax_wp C cod Q rt k rest) (fun t => ax_wp C cod Q rt k (ax_at cod t)) pc a b c0 lv st M rc rs ins) := h
        rw [if_pos h99] at h7
        exact h7
      exact h8.elim
    have h0 : ax_ins C Q rt (ax_wp C cod Q rt k rest) (fun t => ax_wp C cod Q rt k (ax_at cod t)) pc a b c0 lv st M rc rs ins := by
      have h7 : (if c0 = 99 then False else ax_ins C Q rt (ax_wp C cod Q rt k rest) (fun t => ax_wp C cod Q rt k (ax_at cod t)) pc a b c0 lv st M rc rs ins) := h
      rw [if_neg h99] at h7
      exact h7
    have h1 : ax_rok mt own ini tf rt nL pc a b c0 dd ins = true := by
      have h6 := h1
      simp only [Bool.or_eq_true, beq_iff_eq] at h6
      exact h6.resolve_left h99
    refine ax_row (nx := ax_wp C cod Q rt k rest) (jm := fun t => ax_wp C cod Q rt k (ax_at cod t)) cx hC hRf hRl hini hE hT (hsub _ List.mem_cons_self) hd hn h1 (fun hl => ?_) (fun t => ?_) h0 hs
    · cases rest with
      | nil => intro _ _ _ _ _ _ _ _ _ _ h9; cases k <;> exact h9.elim
      | cons r2 rest2 =>
        simp only [hl, Bool.false_or, beq_iff_eq] at h3
        have h9 := ax_sound cx hC hRf hRl hini hE hT hcod k r2 rest2 h4 (fun x hx => hsub x (List.mem_cons_of_mem _ hx))
        rw [h3] at h9
        exact h9
    · cases hat : ax_at cod t with
      | nil => intro _ _ _ _ _ _ _ _ _ _ h9; cases k <;> exact h9.elim
      | cons r2 rest2 =>
        have h5 : ax_cod mt own ini tf rt nL cc (r2 :: rest2) = true := by rw [← hat]; exact ax_cod_drop hcod
        have h9 := ax_sound cx hC hRf hRl hini hE hT hcod k r2 rest2 h5 (fun x hx => by
          rw [← hat] at hx
          exact (List.dropWhile_sublist _).subset hx)
        rw [ax_at_head hat] at h9
        exact h9
end AX12
