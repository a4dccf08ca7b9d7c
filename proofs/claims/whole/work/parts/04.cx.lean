/-! the constants: their places (0: the script, 1, 2: static arrays, then each text and its bytes, 25: a reference of which nothing is known) -/
def ax_K0 : Nat := 26
def ax_tx : List String := [":m", "GET", "HEAD", ":p", "/", "host", "", "length", ":s", "200", "404"]
def ax_sc : List (String × Nat × String × Nat) := [("PageServer$HeaderTable", 18, ":m", 3), ("PageServer$HeaderTable", 20, "GET", 5), ("PageServer$HeaderTable", 25, "HEAD", 7), ("PageServer$HeaderTable", 27, ":p", 9), ("PageServer$HeaderTable", 29, "/", 11), ("PageServer$HeaderTable", 31, "host", 13), ("PageServer$HeaderTable", 33, "", 15), ("PageServer$HeaderTable", 35, "length", 17), ("PageServer$HeaderTable", 37, ":s", 19), ("PageServer$HeaderTable", 39, "200", 21), ("PageServer$HeaderTable", 41, "404", 23), ("PageServer$Stream", 15, "", 15), ("PageServer$Connection", 265, "HEAD", 7), ("PageServer$Connection", 273, "GET", 5), ("java/lang/String", 7, "", 15), ("PageServer$Request", 51, ":m", 3), ("PageServer$Request", 62, ":p", 9), ("PageServer$Request", 67, "length", 17)]
def ax_sx : List (String × Nat × String) := [("PageServer", 24, "no path"), ("PageServer", 29, "no body"), ("PageServer", 43, "there is such a path"), ("PageServer", 51, "the site is full"), ("PageServer", 77, "no such byte waits"), ("PageServer", 133, "the stream is not open"), ("PageServer", 148, "nothing of this number is told"), ("PageServer", 153, "no such entry or part"), ("PageServer", 169, "no such character")]
def ax_sv : List (String × String × String × (Nat ⊕ Nat)) := [("java/lang/String", "COMPACT_STRINGS", "Z", Sum.inl 1), ("java/lang/StringUTF16", "$assertionsDisabled", "Z", Sum.inl 1), ("java/lang/StringUTF16", "HI_BYTE_SHIFT", "I", Sum.inl 0), ("java/lang/StringUTF16", "LO_BYTE_SHIFT", "I", Sum.inl 8), ("PageServer$Connection", "PREFACE", "[I", Sum.inr 1), ("PageServer$Connection", "WRONG_METHOD", "[I", Sum.inr 2)]
def ax_nl : List (String × Nat × MethodName) := [("PageServer$Connection", 11, ⟨"PageServer$Frame", "<init>", "()V"⟩), ("PageServer$Connection", 20, ⟨"PageServer$Request", "<init>", "()V"⟩), ("PageServer$Connection", 27, ⟨"PageServer$Site", "<init>", "()V"⟩), ("PageServer$Connection", 34, ⟨"PageServer$Output", "<init>", "()V"⟩), ("PageServer$Connection", 48, ⟨"PageServer$Block", "<init>", "()V"⟩), ("PageServer$Streams", 15, ⟨"PageServer$Stream", "<init>", "()V"⟩)]
-- the words that every method here stands on
/-- one word more: a private method of StringBuilder's superclass, as a StringBuilder selects it -/
def ax_yE : MethodName := ⟨"java/lang/AbstractStringBuilder", "ensureCapacityInternal", "(I)V"⟩
def ax_xs : List Cond := [Cond.selects "java/lang/StringBuilder" ax_yE ax_yE]
def ax_ws : List Cond := (lw_tbl ++ ax_xs).filter goodWord
theorem ax_ws_of {w : Cond} {i : Nat} (h : lw_tbl[i]? = some w) (hg : goodWord w = true) : w ∈ ax_ws := List.mem_filter.mpr ⟨List.mem_append_left _ (List.mem_of_getElem? h), hg⟩
def ax_svv (G : ax_G) : Nat ⊕ Nat → Value
  | .inl v => .int (Int32.ofNat v)
  | .inr i => .ref (ax_ad G i)
/-- what is known of the constants, at a state U with heap H -/
def ax_Kc (G : ax_G) (U : State) (H : Heap) : Prop :=
  (∀ i, i < ax_gK G → ax_kc1 G U H i) ∧ (∀ q ∈ ax_sc, vk_R q.1 q.2.1 q.2.2.1 (ax_ad G q.2.2.2) U) ∧ (∀ q ∈ ax_sx, ∃ sa, vk_R q.1 q.2.1 q.2.2 sa U) ∧
  (∀ q ∈ ax_sv, va_Z q.1 q.2.1 q.2.2.1 (ax_svv G q.2.2.2) (ax_Fr G) U H) ∧
  va_Z "jdk/internal/util/Preconditions" "SIOOBE_FORMATTER" "Ljava/util/function/BiFunction;" (va_rf ((ax_hr (ax_gM G) 0 0).map (ax_ad G))) (ax_Fr G) U H ∧ (∀ ci, ci = 4 ∨ ci = 8 ∨ ci = 11 → va_AO (ax_nm ci) U) ∧ ∀ q ∈ ax_nl, va_Nw (.methodLinkNest q.1 q.2.1 q.2.2 "PageServer") U
theorem vk_R.alike {own tx : String} {k a : Nat} {s U : State} (hW : s.WarmedH U.vm) (h : vk_R own k tx a s) : vk_R own k tx a U := vk_R.warm hW h
theorem ax_Kc.warm {G : ax_G} {s U : State} {H : Heap} (hW : s.WarmedH U.vm) (h : ax_Kc G s H) : ax_Kc G U H := by
  obtain ⟨h1, h2, h3, h4, h5, h6, h7⟩ := h
  refine ⟨fun i hi => ?_, fun q hq => vk_R.warm hW (h2 q hq), fun q hq => ?_, fun q hq => va_Z.moved hW.alike (h4 q hq), va_Z.moved hW.alike h5, fun ci hc => va_AO.moved hW.alike (h6 ci hc), fun q hq => va_Nw.warmM hW (h7 q hq)⟩
  · rcases h1 i hi with ⟨a, b, c, d⟩ | ⟨a, b⟩ | a
    · exact Or.inl ⟨a, va_OF.moved hW.alike b, va_OF.moved hW.alike c, va_O.moved hW.alike d⟩
    · exact Or.inr (Or.inl ⟨a, ax_ro.moved hW.alike b⟩)
    · exact Or.inr (Or.inr a)
  · obtain ⟨sa, h⟩ := h3 q hq
    exact ⟨sa, vk_R.warm hW h⟩
theorem ax_Kc.kept {G : ax_G} (hG : ax_Gok G) {U : State} {H H1 : Heap} (h : ax_Kc G U H) (hz : ax_gz G ≤ H.size) (hq : ∀ a : Nat, a < H.size → ¬ ax_Fr G a → H1[a]? = H[a]?) : ax_Kc G U H1 := by
  obtain ⟨h1, h2, h3, h4, h5, h6, h7⟩ := h
  refine ⟨fun i hi => ?_, h2, h3, fun q hq2 => va_Z.kept (h4 q hq2) hq, va_Z.kept h5 hq, h6, h7⟩
  rcases h1 i hi with ⟨a, b, c, d⟩ | ⟨a, b⟩ | a
  · exact Or.inl ⟨a, va_OF.kept b hq, va_OF.kept c hq, va_O.kept d hq⟩
  · have hlt := (hG.2 i hi).1
    exact Or.inr (Or.inl ⟨a, ax_ro.kept b (hq _ (by omega) (fun z => by have z1 : ax_gz G ≤ ax_ad G i := z; omega))⟩)
  · exact Or.inr (Or.inr a)
/-! the machine at a place of a method's code, beside the small one -/
def ax_Cx (G : ax_G) (p : Program) (R : Room) (s : State) (m : MethodId) (args : Array Value) (meth : Method) (c : Code) (own : String) (cc : ByteArray) (nL : Nat) : Prop :=
  p.tables.exec = Jvm.exec ∧ c.code = cc ∧ c.maxLocals = nL ∧ s.vm.findClass own = some m.cls ∧ (∀ w ∈ ax_ws, w.before args s = true) ∧ ax_Gok G ∧ va_K G.1 ax_cl (ax_tys G) s ∧ ax_Kc G s s.heap ∧ ax_gz G ≤ s.heap.size ∧ meth.locks = false ∧ ax_gK G = ax_K0 ∧ ∀ i j, i ≠ 25 → j ≠ 25 → ax_ad G i = ax_ad G j → i = j
def ax_lvm (G : ax_G) (lv : ax_L) : List (Nat × Value) := lv.map (fun q => (q.1, ax_tr G q.2))
def ax_SR (G : ax_G) (s : State) (R : Room) (nL : Nat) (lv : ax_L) (M : ax_M) (rc rs : Nat) (H : Heap) (locs : List Loc) (cells slots : Nat) (ls : Array Slot) : Prop :=
  lv_has ls nL (ax_lvm G lv) ∧ (∀ q ∈ lv, ax_c1 q.2 = true) ∧ ax_Rel G M H ∧ va_S (ax_Fr G) s.heap H locs ∧ cells + rc ≤ R.cells ∧ slots + rs ≤ R.slots
def ax_Ko (G : ax_G) (p : Program) (l : Launch) (e : Env) (R : Room) (s : State) (m : MethodId) (args : Array Value) (below : List Frame) (meth : Method) (c : Code) (nL : Nat) (Q : State → Prop) (pc : Nat) (nx : ax_K) : Prop :=
  ∀ (lv : ax_L) (st : List ax_V) (M : ax_M) (rc rs : Nat) (H : Heap) (locs : List Loc) (cells slots : Nat) (ls : Array Slot), nx lv st M rc rs → ax_SR G s R nL lv M rc rs H locs cells slots ls →
    W p l e R s m args below meth c H locs cells slots Q (F0 m pc ls (st.map (ax_tr G)))
theorem ax_1i_inv {st : List ax_V} {f : Int32 → List ax_V → Prop} (h : ax_1i st f) : ∃ x st', st = .inl x :: st' ∧ f x st' := by
  match st, h with
  | .inl x :: st', h => exact ⟨x, st', rfl, h⟩
theorem ax_2i_inv {st : List ax_V} {f : Int32 → Int32 → List ax_V → Prop} (h : ax_2i st f) : ∃ x y st', st = .inl y :: .inl x :: st' ∧ f x y st' := by
  match st, h with
  | .inl y :: .inl x :: st', h => exact ⟨x, y, st', rfl, h⟩
theorem ax_1r_inv {st : List ax_V} {f : Option Nat → List ax_V → Prop} (h : ax_1r st f) : ∃ x st', st = .inr (.inl x) :: st' ∧ f x st' := by
  match st, h with
  | .inr (.inl x) :: st', h => exact ⟨x, st', rfl, h⟩
theorem ax_2r_inv {st : List ax_V} {f : Option Nat → Option Nat → List ax_V → Prop} (h : ax_2r st f) : ∃ x y st', st = .inr (.inl y) :: .inr (.inl x) :: st' ∧ f x y st' := by
  match st, h with
  | .inr (.inl y) :: .inr (.inl x) :: st', h => exact ⟨x, y, st', rfl, h⟩
theorem ax_1o_inv {st : List ax_V} {f : Nat → List ax_V → Prop} (h : ax_1o st f) : ∃ x st', st = .inr (.inl (some x)) :: st' ∧ f x st' := by
  match st, h with
  | .inr (.inl (some x)) :: st', h => exact ⟨x, st', rfl, h⟩
theorem ax_io_inv {st : List ax_V} {f : Nat → Int32 → List ax_V → Prop} (h : ax_io st f) : ∃ o i st', st = .inl i :: .inr (.inl (some o)) :: st' ∧ f o i st' := by
  match st, h with
  | .inl i :: .inr (.inl (some o)) :: st', h => exact ⟨o, i, st', rfl, h⟩
theorem ax_iio_inv {st : List ax_V} {f : Nat → Int32 → Int32 → List ax_V → Prop} (h : ax_iio st f) : ∃ o i x st', st = .inl x :: .inl i :: .inr (.inl (some o)) :: st' ∧ f o i x st' := by
  match st, h with
  | .inl x :: .inl i :: .inr (.inl (some o)) :: st', h => exact ⟨o, i, x, st', rfl, h⟩
theorem ax_rio_inv {st : List ax_V} {f : Nat → Int32 → Nat → List ax_V → Prop} (h : ax_rio st f) : ∃ o i v st', st = .inr (.inl (some v)) :: .inl i :: .inr (.inl (some o)) :: st' ∧ f o i v st' := by
  match st, h with
  | .inr (.inl (some v)) :: .inl i :: .inr (.inl (some o)) :: st', h => exact ⟨o, i, v, st', rfl, h⟩
theorem ax_lio_inv {st : List ax_V} {f : Nat → Int32 → Int64 → List ax_V → Prop} (h : ax_lio st f) : ∃ o i x st', st = .inr (.inr x) :: .inl i :: .inr (.inl (some o)) :: st' ∧ f o i x st' := by
  match st, h with
  | .inr (.inr x) :: .inl i :: .inr (.inl (some o)) :: st', h => exact ⟨o, i, x, st', rfl, h⟩
theorem ax_2l_inv {st : List ax_V} {f : Int64 → Int64 → List ax_V → Prop} (h : ax_2l st f) : ∃ x y st', st = .inr (.inr y) :: .inr (.inr x) :: st' ∧ f x y st' := by
  match st, h with
  | .inr (.inr y) :: .inr (.inr x) :: st', h => exact ⟨x, y, st', rfl, h⟩
theorem ax_iO_inv {st : List ax_V} {f : Nat → Int32 → List ax_V → Prop} (h : ax_iO st f) : ∃ o x st', st = .inl x :: .inr (.inl (some o)) :: st' ∧ f o x st' := by
  match st, h with
  | .inl x :: .inr (.inl (some o)) :: st', h => exact ⟨o, x, st', rfl, h⟩
theorem ax_rO_inv {st : List ax_V} {f : Nat → Option Nat → List ax_V → Prop} (h : ax_rO st f) : ∃ o r st', st = .inr (.inl r) :: .inr (.inl (some o)) :: st' ∧ f o r st' := by
  match st, h with
  | .inr (.inl r) :: .inr (.inl (some o)) :: st', h => exact ⟨o, r, st', rfl, h⟩
theorem ax_1c_inv {st : List ax_V} {f : ax_V → List ax_V → Prop} (h : ax_1c st f) : ∃ v st', st = v :: st' ∧ ax_c1 v = true ∧ f v st' := by
  match st, h with
  | v :: st', h => exact ⟨v, st', rfl, h⟩
theorem ax_2c_inv {st : List ax_V} {f : ax_V → ax_V → List ax_V → Prop} (h : ax_2c st f) : ∃ x y st', st = y :: x :: st' ∧ ax_c1 y = true ∧ ax_c1 x = true ∧ f x y st' := by
  match st, h with
  | y :: x :: st', h => exact ⟨x, y, st', rfl, h⟩
theorem ax_ld_mem {lv : ax_L} {i : Nat} {v : ax_V} (h : ax_ld lv i = some v) : (i, v) ∈ lv := by
  unfold ax_ld at h
  cases hf : lv.find? (fun q => q.1 == i) with
  | none => rw [hf] at h; cases h
  | some q =>
    rw [hf] at h
    have h1 := List.find?_some hf
    have h2 := List.mem_of_find?_eq_some hf
    obtain ⟨a, b⟩ := q
    simp at h h1
    subst h; subst h1
    exact h2
theorem ax_ldi_inv {lv : ax_L} {i : Nat} {f : Int32 → Prop} (h : ax_ldi lv i f) : ∃ x, (i, (.inl x : ax_V)) ∈ lv ∧ f x := by
  unfold ax_ldi at h
  split at h
  · rename_i x hx
    exact ⟨x, ax_ld_mem hx, h⟩
  · exact h.elim
theorem ax_ldr_inv {lv : ax_L} {i : Nat} {f : Option Nat → Prop} (h : ax_ldr lv i f) : ∃ x, (i, (.inr (.inl x) : ax_V)) ∈ lv ∧ f x := by
  unfold ax_ldr at h
  split at h
  · rename_i x hx
    exact ⟨x, ax_ld_mem hx, h⟩
  · exact h.elim
theorem ax_lv_at {G : ax_G} {lv : ax_L} {ls : Array Slot} {nL i : Nat} {v : ax_V} (h : lv_has ls nL (ax_lvm G lv)) (hm : (i, v) ∈ lv) : ls[i]? = some (.val (ax_tr G v)) :=
  h.2.2 (i, ax_tr G v) (List.mem_map.mpr ⟨(i, v), hm, rfl⟩)
theorem ax_cat {G : ax_G} {v : ax_V} (h : ax_c1 v = true) : (ax_tr G v).category = 1 := by
  match v, h with
  | .inl x, _ => rfl
  | .inr (.inl none), _ => rfl
  | .inr (.inl (some a)), _ => rfl
theorem ax_st_map {G : ax_G} {lv : ax_L} (hc : ∀ q ∈ lv, ax_c1 q.2 = true) (i : Nat) (v : ax_V) : (i, ax_tr G v) :: (ax_lvm G lv).filter (fun q => !(q.1 == i) && !(q.1 + 1 == i && q.2.category == 2)) = ax_lvm G (ax_st lv i v) := by
  have h : (ax_lvm G lv).filter (fun q => !(q.1 == i) && !(q.1 + 1 == i && q.2.category == 2)) = ax_lvm G (lv.filter (fun q => !(q.1 == i))) := by
    unfold ax_lvm
    rw [List.filter_map]
    congr 1
    apply List.filter_congr
    intro q hq
    have h1 : (ax_tr G q.2).category = 1 := ax_cat (hc q hq)
    simp [h1]
  rw [h]
  rfl
theorem ax_st_c1 {lv : ax_L} (hc : ∀ q ∈ lv, ax_c1 q.2 = true) {i : Nat} {v : ax_V} (hv : ax_c1 v = true) : ∀ q ∈ ax_st lv i v, ax_c1 q.2 = true := by
  intro q hq
  rcases List.mem_cons.mp hq with h | h
  · rw [h]; exact hv
  · exact hc q (List.mem_filter.mp h).1
