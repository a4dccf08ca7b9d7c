section AX5
variable {p : Program} {l : Launch} {e : Env} {R : Room} {s : State} {m : MethodId} {args : Array Value} {below : List Frame} {meth : Method} {c : Code} {Qf : State → Prop} {G : ax_G} {own : String} {cc : ByteArray} {nL : Nat}
variable {C : ax_C} {Q : ax_O → ax_M → Prop} {rt : Option FieldType} {nx : ax_K} {jm : Nat → ax_K} {pc a b c0 : Nat} {lv : ax_L} {st : List ax_V} {M : ax_M} {rc rs : Nat} {H : Heap} {locs : List Loc} {cells slots : Nat} {ls : Array Slot}
theorem sx_iconst {i : Int} (cx : ax_Cx G p R s m args meth c own cc nL) (hd : decode cc pc = .ok (.iconst i, 1)) (kn : ax_Ko G p l e R s m args below meth c nL Qf (pc + 1) nx) (h : ax_ins C Q rt nx jm pc a b c0 lv st M rc rs (.iconst i)) (hs : ax_SR G s R nL lv M rc rs H locs cells slots ls) : W p l e R s m args below meth c H locs cells slots Qf (F0 m pc ls (st.map (ax_tr G))) := by
  exact lv_iconst cx.1 cx.2.1 hd rfl (kn _ _ _ _ _ _ _ _ _ _ h hs)
theorem sx_bipush {i : Int} (cx : ax_Cx G p R s m args meth c own cc nL) (hd : decode cc pc = .ok (.bipush i, 2)) (kn : ax_Ko G p l e R s m args below meth c nL Qf (pc + 2) nx) (h : ax_ins C Q rt nx jm pc a b c0 lv st M rc rs (.bipush i)) (hs : ax_SR G s R nL lv M rc rs H locs cells slots ls) : W p l e R s m args below meth c H locs cells slots Qf (F0 m pc ls (st.map (ax_tr G))) := by
  exact lv_bipush cx.1 cx.2.1 hd rfl (kn _ _ _ _ _ _ _ _ _ _ h hs)
theorem sx_sipush {i : Int} (cx : ax_Cx G p R s m args meth c own cc nL) (hd : decode cc pc = .ok (.sipush i, 3)) (kn : ax_Ko G p l e R s m args below meth c nL Qf (pc + 3) nx) (h : ax_ins C Q rt nx jm pc a b c0 lv st M rc rs (.sipush i)) (hs : ax_SR G s R nL lv M rc rs H locs cells slots ls) : W p l e R s m args below meth c H locs cells slots Qf (F0 m pc ls (st.map (ax_tr G))) := by
  exact lv_sipush cx.1 cx.2.1 hd rfl (kn _ _ _ _ _ _ _ _ _ _ h hs)
theorem sx_aconst_null (cx : ax_Cx G p R s m args meth c own cc nL) (hd : decode cc pc = .ok (.aconst_null, 1)) (kn : ax_Ko G p l e R s m args below meth c nL Qf (pc + 1) nx) (h : ax_ins C Q rt nx jm pc a b c0 lv st M rc rs (.aconst_null)) (hs : ax_SR G s R nL lv M rc rs H locs cells slots ls) : W p l e R s m args below meth c H locs cells slots Qf (F0 m pc ls (st.map (ax_tr G))) := by
  exact lv_null cx.1 cx.2.1 hd (kn _ _ _ _ _ _ _ _ _ _ h hs)
theorem sx_iload_n {k : Fin 4} (cx : ax_Cx G p R s m args meth c own cc nL) (hd : decode cc pc = .ok (.iload_n k, 1)) (kn : ax_Ko G p l e R s m args below meth c nL Qf (pc + 1) nx) (h : ax_ins C Q rt nx jm pc a b c0 lv st M rc rs (.iload_n k)) (hs : ax_SR G s R nL lv M rc rs H locs cells slots ls) : W p l e R s m args below meth c H locs cells slots Qf (F0 m pc ls (st.map (ax_tr G))) := by
  obtain ⟨x, hm, h1⟩ := ax_ldi_inv h
  exact lv_iload_n cx.1 cx.2.1 hd rfl (ax_lv_at hs.1 hm) (kn _ _ _ _ _ _ _ _ _ _ h1 hs)
theorem sx_iload {k : Nat} (cx : ax_Cx G p R s m args meth c own cc nL) (hd : decode cc pc = .ok (.iload k, 2)) (kn : ax_Ko G p l e R s m args below meth c nL Qf (pc + 2) nx) (h : ax_ins C Q rt nx jm pc a b c0 lv st M rc rs (.iload k)) (hs : ax_SR G s R nL lv M rc rs H locs cells slots ls) : W p l e R s m args below meth c H locs cells slots Qf (F0 m pc ls (st.map (ax_tr G))) := by
  obtain ⟨x, hm, h1⟩ := ax_ldi_inv h
  exact lv_iload cx.1 cx.2.1 hd (ax_lv_at hs.1 hm) (kn _ _ _ _ _ _ _ _ _ _ h1 hs)
theorem sx_aload_n {k : Fin 4} (cx : ax_Cx G p R s m args meth c own cc nL) (hd : decode cc pc = .ok (.aload_n k, 1)) (kn : ax_Ko G p l e R s m args below meth c nL Qf (pc + 1) nx) (h : ax_ins C Q rt nx jm pc a b c0 lv st M rc rs (.aload_n k)) (hs : ax_SR G s R nL lv M rc rs H locs cells slots ls) : W p l e R s m args below meth c H locs cells slots Qf (F0 m pc ls (st.map (ax_tr G))) := by
  obtain ⟨x, hm, h1⟩ := ax_ldr_inv h
  have hl := ax_lv_at hs.1 hm
  cases x with
  | none => exact lv_aload_nN cx.1 cx.2.1 hd rfl hl (kn _ _ _ _ _ _ _ _ _ _ h1 hs)
  | some o => exact lv_aload_n cx.1 cx.2.1 hd rfl hl (kn _ _ _ _ _ _ _ _ _ _ h1 hs)
theorem sx_aload {k : Nat} (cx : ax_Cx G p R s m args meth c own cc nL) (hd : decode cc pc = .ok (.aload k, 2)) (kn : ax_Ko G p l e R s m args below meth c nL Qf (pc + 2) nx) (h : ax_ins C Q rt nx jm pc a b c0 lv st M rc rs (.aload k)) (hs : ax_SR G s R nL lv M rc rs H locs cells slots ls) : W p l e R s m args below meth c H locs cells slots Qf (F0 m pc ls (st.map (ax_tr G))) := by
  obtain ⟨x, hm, h1⟩ := ax_ldr_inv h
  have hl := ax_lv_at hs.1 hm
  cases x with
  | none => exact lv_aloadN cx.1 cx.2.1 hd hl (kn _ _ _ _ _ _ _ _ _ _ h1 hs)
  | some o => exact lv_aload cx.1 cx.2.1 hd hl (kn _ _ _ _ _ _ _ _ _ _ h1 hs)
theorem sx_istore_n {k : Fin 4} (cx : ax_Cx G p R s m args meth c own cc nL) (hd : decode cc pc = .ok (.istore_n k, 1)) (hn : k.val < nL) (kn : ax_Ko G p l e R s m args below meth c nL Qf (pc + 1) nx) (h : ax_ins C Q rt nx jm pc a b c0 lv st M rc rs (.istore_n k)) (hs : ax_SR G s R nL lv M rc rs H locs cells slots ls) : W p l e R s m args below meth c H locs cells slots Qf (F0 m pc ls (st.map (ax_tr G))) := by
  obtain ⟨x, st, rfl, h1⟩ := ax_1i_inv h
  exact lv_istore_n cx.1 cx.2.1 hd rfl hs.1 hn (ax_st_map hs.2.1 k.val (.inl x)) (fun ls2 hl2 => kn _ _ _ _ _ _ _ _ _ _ h1 ⟨hl2, ax_st_c1 hs.2.1 rfl, hs.2.2⟩)
theorem sx_istore {k : Nat} (cx : ax_Cx G p R s m args meth c own cc nL) (hd : decode cc pc = .ok (.istore k, 2)) (hn : k < nL) (kn : ax_Ko G p l e R s m args below meth c nL Qf (pc + 2) nx) (h : ax_ins C Q rt nx jm pc a b c0 lv st M rc rs (.istore k)) (hs : ax_SR G s R nL lv M rc rs H locs cells slots ls) : W p l e R s m args below meth c H locs cells slots Qf (F0 m pc ls (st.map (ax_tr G))) := by
  obtain ⟨x, st, rfl, h1⟩ := ax_1i_inv h
  exact lv_istore cx.1 cx.2.1 hd hs.1 hn (ax_st_map hs.2.1 k (.inl x)) (fun ls2 hl2 => kn _ _ _ _ _ _ _ _ _ _ h1 ⟨hl2, ax_st_c1 hs.2.1 rfl, hs.2.2⟩)
theorem sx_astore_n {k : Fin 4} (cx : ax_Cx G p R s m args meth c own cc nL) (hd : decode cc pc = .ok (.astore_n k, 1)) (hn : k.val < nL) (kn : ax_Ko G p l e R s m args below meth c nL Qf (pc + 1) nx) (h : ax_ins C Q rt nx jm pc a b c0 lv st M rc rs (.astore_n k)) (hs : ax_SR G s R nL lv M rc rs H locs cells slots ls) : W p l e R s m args below meth c H locs cells slots Qf (F0 m pc ls (st.map (ax_tr G))) := by
  obtain ⟨x, st, rfl, h1⟩ := ax_1r_inv h
  cases x with
  | none => exact lv_astore_nN cx.1 cx.2.1 hd rfl hs.1 hn (ax_st_map hs.2.1 k.val (.inr (.inl none))) (fun ls2 hl2 => kn _ _ _ _ _ _ _ _ _ _ h1 ⟨hl2, ax_st_c1 hs.2.1 rfl, hs.2.2⟩)
  | some o => exact lv_astore_n cx.1 cx.2.1 hd rfl hs.1 hn (ax_st_map hs.2.1 k.val (.inr (.inl (some o)))) (fun ls2 hl2 => kn _ _ _ _ _ _ _ _ _ _ h1 ⟨hl2, ax_st_c1 hs.2.1 rfl, hs.2.2⟩)
theorem sx_astore {k : Nat} (cx : ax_Cx G p R s m args meth c own cc nL) (hd : decode cc pc = .ok (.astore k, 2)) (hn : k < nL) (kn : ax_Ko G p l e R s m args below meth c nL Qf (pc + 2) nx) (h : ax_ins C Q rt nx jm pc a b c0 lv st M rc rs (.astore k)) (hs : ax_SR G s R nL lv M rc rs H locs cells slots ls) : W p l e R s m args below meth c H locs cells slots Qf (F0 m pc ls (st.map (ax_tr G))) := by
  obtain ⟨x, st, rfl, h1⟩ := ax_1r_inv h
  cases x with
  | none => exact lv_astoreN cx.1 cx.2.1 hd hs.1 hn (ax_st_map hs.2.1 k (.inr (.inl none))) (fun ls2 hl2 => kn _ _ _ _ _ _ _ _ _ _ h1 ⟨hl2, ax_st_c1 hs.2.1 rfl, hs.2.2⟩)
  | some o => exact lv_astore cx.1 cx.2.1 hd hs.1 hn (ax_st_map hs.2.1 k (.inr (.inl (some o)))) (fun ls2 hl2 => kn _ _ _ _ _ _ _ _ _ _ h1 ⟨hl2, ax_st_c1 hs.2.1 rfl, hs.2.2⟩)
theorem sx_iinc {k : Nat} {n : Int} (cx : ax_Cx G p R s m args meth c own cc nL) (hd : decode cc pc = .ok (.iinc k n, 3)) (hn : k < nL) (kn : ax_Ko G p l e R s m args below meth c nL Qf (pc + 3) nx) (h : ax_ins C Q rt nx jm pc a b c0 lv st M rc rs (.iinc k n)) (hs : ax_SR G s R nL lv M rc rs H locs cells slots ls) : W p l e R s m args below meth c H locs cells slots Qf (F0 m pc ls (st.map (ax_tr G))) := by
  obtain ⟨x, hm, h1⟩ := ax_ldi_inv h
  have hm2 : (k, Value.int x) ∈ ax_lvm G lv := List.mem_map.mpr ⟨(k, .inl x), hm, rfl⟩
  obtain ⟨j, hj⟩ := List.mem_iff_getElem?.mp hm2
  exact lv_iinc cx.1 cx.2.1 hd hs.1 hj rfl hn (ax_st_map hs.2.1 k (.inl (x + Int32.ofInt n))) (fun ls2 hl2 => kn _ _ _ _ _ _ _ _ _ _ h1 ⟨hl2, ax_st_c1 hs.2.1 rfl, hs.2.2⟩)
theorem sx_iadd (cx : ax_Cx G p R s m args meth c own cc nL) (hd : decode cc pc = .ok (.iadd, 1)) (kn : ax_Ko G p l e R s m args below meth c nL Qf (pc + 1) nx) (h : ax_ins C Q rt nx jm pc a b c0 lv st M rc rs (.iadd)) (hs : ax_SR G s R nL lv M rc rs H locs cells slots ls) : W p l e R s m args below meth c H locs cells slots Qf (F0 m pc ls (st.map (ax_tr G))) := by
  obtain ⟨x, y, st, rfl, h1⟩ := ax_2i_inv h
  exact lv_iadd cx.1 cx.2.1 hd (kn _ _ _ _ _ _ _ _ _ _ h1 hs)
theorem sx_isub (cx : ax_Cx G p R s m args meth c own cc nL) (hd : decode cc pc = .ok (.isub, 1)) (kn : ax_Ko G p l e R s m args below meth c nL Qf (pc + 1) nx) (h : ax_ins C Q rt nx jm pc a b c0 lv st M rc rs (.isub)) (hs : ax_SR G s R nL lv M rc rs H locs cells slots ls) : W p l e R s m args below meth c H locs cells slots Qf (F0 m pc ls (st.map (ax_tr G))) := by
  obtain ⟨x, y, st, rfl, h1⟩ := ax_2i_inv h
  exact lv_isub cx.1 cx.2.1 hd (kn _ _ _ _ _ _ _ _ _ _ h1 hs)
theorem sx_imul (cx : ax_Cx G p R s m args meth c own cc nL) (hd : decode cc pc = .ok (.imul, 1)) (kn : ax_Ko G p l e R s m args below meth c nL Qf (pc + 1) nx) (h : ax_ins C Q rt nx jm pc a b c0 lv st M rc rs (.imul)) (hs : ax_SR G s R nL lv M rc rs H locs cells slots ls) : W p l e R s m args below meth c H locs cells slots Qf (F0 m pc ls (st.map (ax_tr G))) := by
  obtain ⟨x, y, st, rfl, h1⟩ := ax_2i_inv h
  exact lv_imul cx.1 cx.2.1 hd (kn _ _ _ _ _ _ _ _ _ _ h1 hs)
theorem sx_iand (cx : ax_Cx G p R s m args meth c own cc nL) (hd : decode cc pc = .ok (.iand, 1)) (kn : ax_Ko G p l e R s m args below meth c nL Qf (pc + 1) nx) (h : ax_ins C Q rt nx jm pc a b c0 lv st M rc rs (.iand)) (hs : ax_SR G s R nL lv M rc rs H locs cells slots ls) : W p l e R s m args below meth c H locs cells slots Qf (F0 m pc ls (st.map (ax_tr G))) := by
  obtain ⟨x, y, st, rfl, h1⟩ := ax_2i_inv h
  exact lv_iand cx.1 cx.2.1 hd (kn _ _ _ _ _ _ _ _ _ _ h1 hs)
theorem sx_ior (cx : ax_Cx G p R s m args meth c own cc nL) (hd : decode cc pc = .ok (.ior, 1)) (kn : ax_Ko G p l e R s m args below meth c nL Qf (pc + 1) nx) (h : ax_ins C Q rt nx jm pc a b c0 lv st M rc rs (.ior)) (hs : ax_SR G s R nL lv M rc rs H locs cells slots ls) : W p l e R s m args below meth c H locs cells slots Qf (F0 m pc ls (st.map (ax_tr G))) := by
  obtain ⟨x, y, st, rfl, h1⟩ := ax_2i_inv h
  exact lv_ior cx.1 cx.2.1 hd (kn _ _ _ _ _ _ _ _ _ _ h1 hs)
theorem sx_ishl (cx : ax_Cx G p R s m args meth c own cc nL) (hd : decode cc pc = .ok (.ishl, 1)) (kn : ax_Ko G p l e R s m args below meth c nL Qf (pc + 1) nx) (h : ax_ins C Q rt nx jm pc a b c0 lv st M rc rs (.ishl)) (hs : ax_SR G s R nL lv M rc rs H locs cells slots ls) : W p l e R s m args below meth c H locs cells slots Qf (F0 m pc ls (st.map (ax_tr G))) := by
  obtain ⟨x, y, st, rfl, h1⟩ := ax_2i_inv h
  exact lv_ishl cx.1 cx.2.1 hd (kn _ _ _ _ _ _ _ _ _ _ h1 hs)
theorem sx_ishr (cx : ax_Cx G p R s m args meth c own cc nL) (hd : decode cc pc = .ok (.ishr, 1)) (kn : ax_Ko G p l e R s m args below meth c nL Qf (pc + 1) nx) (h : ax_ins C Q rt nx jm pc a b c0 lv st M rc rs (.ishr)) (hs : ax_SR G s R nL lv M rc rs H locs cells slots ls) : W p l e R s m args below meth c H locs cells slots Qf (F0 m pc ls (st.map (ax_tr G))) := by
  obtain ⟨x, y, st, rfl, h1⟩ := ax_2i_inv h
  exact lv_ishr cx.1 cx.2.1 hd (kn _ _ _ _ _ _ _ _ _ _ h1 hs)
theorem sx_idiv (cx : ax_Cx G p R s m args meth c own cc nL) (hd : decode cc pc = .ok (.idiv, 1)) (kn : ax_Ko G p l e R s m args below meth c nL Qf (pc + 1) nx) (h : ax_ins C Q rt nx jm pc a b c0 lv st M rc rs (.idiv)) (hs : ax_SR G s R nL lv M rc rs H locs cells slots ls) : W p l e R s m args below meth c H locs cells slots Qf (F0 m pc ls (st.map (ax_tr G))) := by
  obtain ⟨x, y, st, rfl, h0, h1⟩ := ax_2i_inv h
  exact lv_idiv cx.1 cx.2.1 hd h0 (kn _ _ _ _ _ _ _ _ _ _ h1 hs)
theorem sx_irem (cx : ax_Cx G p R s m args meth c own cc nL) (hd : decode cc pc = .ok (.irem, 1)) (kn : ax_Ko G p l e R s m args below meth c nL Qf (pc + 1) nx) (h : ax_ins C Q rt nx jm pc a b c0 lv st M rc rs (.irem)) (hs : ax_SR G s R nL lv M rc rs H locs cells slots ls) : W p l e R s m args below meth c H locs cells slots Qf (F0 m pc ls (st.map (ax_tr G))) := by
  obtain ⟨x, y, st, rfl, h0, h1⟩ := ax_2i_inv h
  exact lv_irem cx.1 cx.2.1 hd h0 (kn _ _ _ _ _ _ _ _ _ _ h1 hs)
theorem sx_iushr (cx : ax_Cx G p R s m args meth c own cc nL) (hd : decode cc pc = .ok (.iushr, 1)) (kn : ax_Ko G p l e R s m args below meth c nL Qf (pc + 1) nx) (h : ax_ins C Q rt nx jm pc a b c0 lv st M rc rs (.iushr)) (hs : ax_SR G s R nL lv M rc rs H locs cells slots ls) : W p l e R s m args below meth c H locs cells slots Qf (F0 m pc ls (st.map (ax_tr G))) := by
  obtain ⟨x, y, st, rfl, h1⟩ := ax_2i_inv h
  exact lv_iushr cx.1 cx.2.1 hd rfl (kn _ _ _ _ _ _ _ _ _ _ h1 hs)
theorem sx_ineg (cx : ax_Cx G p R s m args meth c own cc nL) (hd : decode cc pc = .ok (.ineg, 1)) (kn : ax_Ko G p l e R s m args below meth c nL Qf (pc + 1) nx) (h : ax_ins C Q rt nx jm pc a b c0 lv st M rc rs (.ineg)) (hs : ax_SR G s R nL lv M rc rs H locs cells slots ls) : W p l e R s m args below meth c H locs cells slots Qf (F0 m pc ls (st.map (ax_tr G))) := by
  obtain ⟨x, st, rfl, h1⟩ := ax_1i_inv h
  exact lv_ineg cx.1 cx.2.1 hd (kn _ _ _ _ _ _ _ _ _ _ h1 hs)
theorem sx_i2c (cx : ax_Cx G p R s m args meth c own cc nL) (hd : decode cc pc = .ok (.i2c, 1)) (kn : ax_Ko G p l e R s m args below meth c nL Qf (pc + 1) nx) (h : ax_ins C Q rt nx jm pc a b c0 lv st M rc rs (.i2c)) (hs : ax_SR G s R nL lv M rc rs H locs cells slots ls) : W p l e R s m args below meth c H locs cells slots Qf (F0 m pc ls (st.map (ax_tr G))) := by
  obtain ⟨x, st, rfl, h1⟩ := ax_1i_inv h
  exact lv_i2c cx.1 cx.2.1 hd rfl (kn _ _ _ _ _ _ _ _ _ _ h1 hs)
theorem sx_i2b (cx : ax_Cx G p R s m args meth c own cc nL) (hd : decode cc pc = .ok (.i2b, 1)) (kn : ax_Ko G p l e R s m args below meth c nL Qf (pc + 1) nx) (h : ax_ins C Q rt nx jm pc a b c0 lv st M rc rs (.i2b)) (hs : ax_SR G s R nL lv M rc rs H locs cells slots ls) : W p l e R s m args below meth c H locs cells slots Qf (F0 m pc ls (st.map (ax_tr G))) := by
  obtain ⟨x, st, rfl, h1⟩ := ax_1i_inv h
  exact lv_i2b cx.1 cx.2.1 hd rfl (kn _ _ _ _ _ _ _ _ _ _ h1 hs)
theorem sx_i2l (cx : ax_Cx G p R s m args meth c own cc nL) (hd : decode cc pc = .ok (.i2l, 1)) (kn : ax_Ko G p l e R s m args below meth c nL Qf (pc + 1) nx) (h : ax_ins C Q rt nx jm pc a b c0 lv st M rc rs (.i2l)) (hs : ax_SR G s R nL lv M rc rs H locs cells slots ls) : W p l e R s m args below meth c H locs cells slots Qf (F0 m pc ls (st.map (ax_tr G))) := by
  obtain ⟨x, st, rfl, h1⟩ := ax_1i_inv h
  exact lv_i2l cx.1 cx.2.1 hd rfl (kn _ _ _ _ _ _ _ _ _ _ h1 hs)
theorem sx_lcmp (cx : ax_Cx G p R s m args meth c own cc nL) (hd : decode cc pc = .ok (.lcmp, 1)) (kn : ax_Ko G p l e R s m args below meth c nL Qf (pc + 1) nx) (h : ax_ins C Q rt nx jm pc a b c0 lv st M rc rs (.lcmp)) (hs : ax_SR G s R nL lv M rc rs H locs cells slots ls) : W p l e R s m args below meth c H locs cells slots Qf (F0 m pc ls (st.map (ax_tr G))) := by
  obtain ⟨x, y, st, rfl, h1⟩ := ax_2l_inv h
  exact W.lcmp cx.1 cx.2.1 hd (kn _ _ _ _ _ _ _ _ _ _ h1 hs)
theorem sx_dup (cx : ax_Cx G p R s m args meth c own cc nL) (hd : decode cc pc = .ok (.dup, 1)) (kn : ax_Ko G p l e R s m args below meth c nL Qf (pc + 1) nx) (h : ax_ins C Q rt nx jm pc a b c0 lv st M rc rs (.dup)) (hs : ax_SR G s R nL lv M rc rs H locs cells slots ls) : W p l e R s m args below meth c H locs cells slots Qf (F0 m pc ls (st.map (ax_tr G))) := by
  obtain ⟨v, st, rfl, hv, h1⟩ := ax_1c_inv h
  exact lv_dup cx.1 cx.2.1 hd (ax_cat hv) (kn _ _ _ _ _ _ _ _ _ _ h1 hs)
theorem sx_pop (cx : ax_Cx G p R s m args meth c own cc nL) (hd : decode cc pc = .ok (.pop, 1)) (kn : ax_Ko G p l e R s m args below meth c nL Qf (pc + 1) nx) (h : ax_ins C Q rt nx jm pc a b c0 lv st M rc rs (.pop)) (hs : ax_SR G s R nL lv M rc rs H locs cells slots ls) : W p l e R s m args below meth c H locs cells slots Qf (F0 m pc ls (st.map (ax_tr G))) := by
  obtain ⟨v, st, rfl, hv, h1⟩ := ax_1c_inv h
  exact lv_pop cx.1 cx.2.1 hd (ax_cat hv) (kn _ _ _ _ _ _ _ _ _ _ h1 hs)
theorem sx_dup2 (cx : ax_Cx G p R s m args meth c own cc nL) (hd : decode cc pc = .ok (.dup2, 1)) (kn : ax_Ko G p l e R s m args below meth c nL Qf (pc + 1) nx) (h : ax_ins C Q rt nx jm pc a b c0 lv st M rc rs (.dup2)) (hs : ax_SR G s R nL lv M rc rs H locs cells slots ls) : W p l e R s m args below meth c H locs cells slots Qf (F0 m pc ls (st.map (ax_tr G))) := by
  obtain ⟨x, y, st, rfl, hy, hx, h1⟩ := ax_2c_inv h
  exact lv_dup2_11 cx.1 cx.2.1 hd (ax_cat hy) (ax_cat hx) (kn _ _ _ _ _ _ _ _ _ _ h1 hs)
theorem sx_dup_x1 (cx : ax_Cx G p R s m args meth c own cc nL) (hd : decode cc pc = .ok (.dup_x1, 1)) (kn : ax_Ko G p l e R s m args below meth c nL Qf (pc + 1) nx) (h : ax_ins C Q rt nx jm pc a b c0 lv st M rc rs (.dup_x1)) (hs : ax_SR G s R nL lv M rc rs H locs cells slots ls) : W p l e R s m args below meth c H locs cells slots Qf (F0 m pc ls (st.map (ax_tr G))) := by
  obtain ⟨x, y, st, rfl, hy, hx, h1⟩ := ax_2c_inv h
  exact lv_dup_x1 cx.1 cx.2.1 hd (ax_cat hy) (ax_cat hx) (kn _ _ _ _ _ _ _ _ _ _ h1 hs)
theorem sx_goto {off : Int} (cx : ax_Cx G p R s m args meth c own cc nL) (hd : decode cc pc = .ok (.goto off, 3)) (ht : (pc : Int) + off = (a : Int)) (kj : ∀ t, ax_Ko G p l e R s m args below meth c nL Qf t (jm t)) (h : ax_ins C Q rt nx jm pc a b c0 lv st M rc rs (.goto off)) (hs : ax_SR G s R nL lv M rc rs H locs cells slots ls) : W p l e R s m args below meth c H locs cells slots Qf (F0 m pc ls (st.map (ax_tr G))) := by
  exact lv_goto cx.1 cx.2.1 hd ht (kj a _ _ _ _ _ _ _ _ _ _ h hs)
theorem sx_if_eq {off : Int} (cx : ax_Cx G p R s m args meth c own cc nL) (hd : decode cc pc = .ok (.ifCond .eq off, 3)) (ht : (pc : Int) + off = (a : Int)) (kn : ax_Ko G p l e R s m args below meth c nL Qf (pc + 3) nx) (kj : ∀ t, ax_Ko G p l e R s m args below meth c nL Qf t (jm t)) (h : ax_ins C Q rt nx jm pc a b c0 lv st M rc rs (.ifCond .eq off)) (hs : ax_SR G s R nL lv M rc rs H locs cells slots ls) : W p l e R s m args below meth c H locs cells slots Qf (F0 m pc ls (st.map (ax_tr G))) := by
  obtain ⟨x, st, rfl, h1⟩ := ax_1i_inv h
  exact lv_if_eq cx.1 cx.2.1 hd ht (fun hc => kj a _ _ _ _ _ _ _ _ _ _ (by have h9 := h1; rw [if_pos hc] at h9; exact h9) hs) (fun hc => kn _ _ _ _ _ _ _ _ _ _ (by have h9 := h1; rw [if_neg hc] at h9; exact h9) hs)
theorem sx_icmp_eq {off : Int} (cx : ax_Cx G p R s m args meth c own cc nL) (hd : decode cc pc = .ok (.if_icmp .eq off, 3)) (ht : (pc : Int) + off = (a : Int)) (kn : ax_Ko G p l e R s m args below meth c nL Qf (pc + 3) nx) (kj : ∀ t, ax_Ko G p l e R s m args below meth c nL Qf t (jm t)) (h : ax_ins C Q rt nx jm pc a b c0 lv st M rc rs (.if_icmp .eq off)) (hs : ax_SR G s R nL lv M rc rs H locs cells slots ls) : W p l e R s m args below meth c H locs cells slots Qf (F0 m pc ls (st.map (ax_tr G))) := by
  obtain ⟨x, y, st, rfl, h1⟩ := ax_2i_inv h
  exact lv_icmp_eq cx.1 cx.2.1 hd ht (fun hc => kj a _ _ _ _ _ _ _ _ _ _ (by have h9 := h1; rw [if_pos hc] at h9; exact h9) hs) (fun hc => kn _ _ _ _ _ _ _ _ _ _ (by have h9 := h1; rw [if_neg hc] at h9; exact h9) hs)
theorem sx_if_ne {off : Int} (cx : ax_Cx G p R s m args meth c own cc nL) (hd : decode cc pc = .ok (.ifCond .ne off, 3)) (ht : (pc : Int) + off = (a : Int)) (kn : ax_Ko G p l e R s m args below meth c nL Qf (pc + 3) nx) (kj : ∀ t, ax_Ko G p l e R s m args below meth c nL Qf t (jm t)) (h : ax_ins C Q rt nx jm pc a b c0 lv st M rc rs (.ifCond .ne off)) (hs : ax_SR G s R nL lv M rc rs H locs cells slots ls) : W p l e R s m args below meth c H locs cells slots Qf (F0 m pc ls (st.map (ax_tr G))) := by
  obtain ⟨x, st, rfl, h1⟩ := ax_1i_inv h
  exact lv_if_ne cx.1 cx.2.1 hd ht (fun hc => kj a _ _ _ _ _ _ _ _ _ _ (by have h9 := h1; rw [if_neg hc] at h9; exact h9) hs) (fun hc => kn _ _ _ _ _ _ _ _ _ _ (by have h9 := h1; rw [if_pos hc] at h9; exact h9) hs)
theorem sx_icmp_ne {off : Int} (cx : ax_Cx G p R s m args meth c own cc nL) (hd : decode cc pc = .ok (.if_icmp .ne off, 3)) (ht : (pc : Int) + off = (a : Int)) (kn : ax_Ko G p l e R s m args below meth c nL Qf (pc + 3) nx) (kj : ∀ t, ax_Ko G p l e R s m args below meth c nL Qf t (jm t)) (h : ax_ins C Q rt nx jm pc a b c0 lv st M rc rs (.if_icmp .ne off)) (hs : ax_SR G s R nL lv M rc rs H locs cells slots ls) : W p l e R s m args below meth c H locs cells slots Qf (F0 m pc ls (st.map (ax_tr G))) := by
  obtain ⟨x, y, st, rfl, h1⟩ := ax_2i_inv h
  exact lv_icmp_ne cx.1 cx.2.1 hd ht (fun hc => kj a _ _ _ _ _ _ _ _ _ _ (by have h9 := h1; rw [if_neg hc] at h9; exact h9) hs) (fun hc => kn _ _ _ _ _ _ _ _ _ _ (by have h9 := h1; rw [if_pos hc] at h9; exact h9) hs)
theorem sx_if_lt {off : Int} (cx : ax_Cx G p R s m args meth c own cc nL) (hd : decode cc pc = .ok (.ifCond .lt off, 3)) (ht : (pc : Int) + off = (a : Int)) (kn : ax_Ko G p l e R s m args below meth c nL Qf (pc + 3) nx) (kj : ∀ t, ax_Ko G p l e R s m args below meth c nL Qf t (jm t)) (h : ax_ins C Q rt nx jm pc a b c0 lv st M rc rs (.ifCond .lt off)) (hs : ax_SR G s R nL lv M rc rs H locs cells slots ls) : W p l e R s m args below meth c H locs cells slots Qf (F0 m pc ls (st.map (ax_tr G))) := by
  obtain ⟨x, st, rfl, h1⟩ := ax_1i_inv h
  exact lv_if_lt cx.1 cx.2.1 hd ht (fun hc => kj a _ _ _ _ _ _ _ _ _ _ (by have h9 := h1; rw [if_pos hc] at h9; exact h9) hs) (fun hc => kn _ _ _ _ _ _ _ _ _ _ (by have h9 := h1; rw [if_neg hc] at h9; exact h9) hs)
theorem sx_icmp_lt {off : Int} (cx : ax_Cx G p R s m args meth c own cc nL) (hd : decode cc pc = .ok (.if_icmp .lt off, 3)) (ht : (pc : Int) + off = (a : Int)) (kn : ax_Ko G p l e R s m args below meth c nL Qf (pc + 3) nx) (kj : ∀ t, ax_Ko G p l e R s m args below meth c nL Qf t (jm t)) (h : ax_ins C Q rt nx jm pc a b c0 lv st M rc rs (.if_icmp .lt off)) (hs : ax_SR G s R nL lv M rc rs H locs cells slots ls) : W p l e R s m args below meth c H locs cells slots Qf (F0 m pc ls (st.map (ax_tr G))) := by
  obtain ⟨x, y, st, rfl, h1⟩ := ax_2i_inv h
  exact lv_icmp_lt cx.1 cx.2.1 hd ht (fun hc => kj a _ _ _ _ _ _ _ _ _ _ (by have h9 := h1; rw [if_pos hc] at h9; exact h9) hs) (fun hc => kn _ _ _ _ _ _ _ _ _ _ (by have h9 := h1; rw [if_neg hc] at h9; exact h9) hs)
theorem sx_if_ge {off : Int} (cx : ax_Cx G p R s m args meth c own cc nL) (hd : decode cc pc = .ok (.ifCond .ge off, 3)) (ht : (pc : Int) + off = (a : Int)) (kn : ax_Ko G p l e R s m args below meth c nL Qf (pc + 3) nx) (kj : ∀ t, ax_Ko G p l e R s m args below meth c nL Qf t (jm t)) (h : ax_ins C Q rt nx jm pc a b c0 lv st M rc rs (.ifCond .ge off)) (hs : ax_SR G s R nL lv M rc rs H locs cells slots ls) : W p l e R s m args below meth c H locs cells slots Qf (F0 m pc ls (st.map (ax_tr G))) := by
  obtain ⟨x, st, rfl, h1⟩ := ax_1i_inv h
  exact lv_if_ge cx.1 cx.2.1 hd ht (fun hc => kj a _ _ _ _ _ _ _ _ _ _ (by have h9 := h1; rw [if_pos hc] at h9; exact h9) hs) (fun hc => kn _ _ _ _ _ _ _ _ _ _ (by have h9 := h1; rw [if_neg hc] at h9; exact h9) hs)
theorem sx_icmp_ge {off : Int} (cx : ax_Cx G p R s m args meth c own cc nL) (hd : decode cc pc = .ok (.if_icmp .ge off, 3)) (ht : (pc : Int) + off = (a : Int)) (kn : ax_Ko G p l e R s m args below meth c nL Qf (pc + 3) nx) (kj : ∀ t, ax_Ko G p l e R s m args below meth c nL Qf t (jm t)) (h : ax_ins C Q rt nx jm pc a b c0 lv st M rc rs (.if_icmp .ge off)) (hs : ax_SR G s R nL lv M rc rs H locs cells slots ls) : W p l e R s m args below meth c H locs cells slots Qf (F0 m pc ls (st.map (ax_tr G))) := by
  obtain ⟨x, y, st, rfl, h1⟩ := ax_2i_inv h
  exact lv_icmp_ge cx.1 cx.2.1 hd ht (fun hc => kj a _ _ _ _ _ _ _ _ _ _ (by have h9 := h1; rw [if_pos hc] at h9; exact h9) hs) (fun hc => kn _ _ _ _ _ _ _ _ _ _ (by have h9 := h1; rw [if_neg hc] at h9; exact h9) hs)
theorem sx_if_gt {off : Int} (cx : ax_Cx G p R s m args meth c own cc nL) (hd : decode cc pc = .ok (.ifCond .gt off, 3)) (ht : (pc : Int) + off = (a : Int)) (kn : ax_Ko G p l e R s m args below meth c nL Qf (pc + 3) nx) (kj : ∀ t, ax_Ko G p l e R s m args below meth c nL Qf t (jm t)) (h : ax_ins C Q rt nx jm pc a b c0 lv st M rc rs (.ifCond .gt off)) (hs : ax_SR G s R nL lv M rc rs H locs cells slots ls) : W p l e R s m args below meth c H locs cells slots Qf (F0 m pc ls (st.map (ax_tr G))) := by
  obtain ⟨x, st, rfl, h1⟩ := ax_1i_inv h
  exact lv_if_gt cx.1 cx.2.1 hd ht (fun hc => kj a _ _ _ _ _ _ _ _ _ _ (by have h9 := h1; rw [if_pos hc] at h9; exact h9) hs) (fun hc => kn _ _ _ _ _ _ _ _ _ _ (by have h9 := h1; rw [if_neg hc] at h9; exact h9) hs)
theorem sx_icmp_gt {off : Int} (cx : ax_Cx G p R s m args meth c own cc nL) (hd : decode cc pc = .ok (.if_icmp .gt off, 3)) (ht : (pc : Int) + off = (a : Int)) (kn : ax_Ko G p l e R s m args below meth c nL Qf (pc + 3) nx) (kj : ∀ t, ax_Ko G p l e R s m args below meth c nL Qf t (jm t)) (h : ax_ins C Q rt nx jm pc a b c0 lv st M rc rs (.if_icmp .gt off)) (hs : ax_SR G s R nL lv M rc rs H locs cells slots ls) : W p l e R s m args below meth c H locs cells slots Qf (F0 m pc ls (st.map (ax_tr G))) := by
  obtain ⟨x, y, st, rfl, h1⟩ := ax_2i_inv h
  exact lv_icmp_gt cx.1 cx.2.1 hd ht (fun hc => kj a _ _ _ _ _ _ _ _ _ _ (by have h9 := h1; rw [if_pos hc] at h9; exact h9) hs) (fun hc => kn _ _ _ _ _ _ _ _ _ _ (by have h9 := h1; rw [if_neg hc] at h9; exact h9) hs)
theorem sx_if_le {off : Int} (cx : ax_Cx G p R s m args meth c own cc nL) (hd : decode cc pc = .ok (.ifCond .le off, 3)) (ht : (pc : Int) + off = (a : Int)) (kn : ax_Ko G p l e R s m args below meth c nL Qf (pc + 3) nx) (kj : ∀ t, ax_Ko G p l e R s m args below meth c nL Qf t (jm t)) (h : ax_ins C Q rt nx jm pc a b c0 lv st M rc rs (.ifCond .le off)) (hs : ax_SR G s R nL lv M rc rs H locs cells slots ls) : W p l e R s m args below meth c H locs cells slots Qf (F0 m pc ls (st.map (ax_tr G))) := by
  obtain ⟨x, st, rfl, h1⟩ := ax_1i_inv h
  exact lv_if_le cx.1 cx.2.1 hd ht (fun hc => kj a _ _ _ _ _ _ _ _ _ _ (by have h9 := h1; rw [if_pos hc] at h9; exact h9) hs) (fun hc => kn _ _ _ _ _ _ _ _ _ _ (by have h9 := h1; rw [if_neg hc] at h9; exact h9) hs)
theorem sx_icmp_le {off : Int} (cx : ax_Cx G p R s m args meth c own cc nL) (hd : decode cc pc = .ok (.if_icmp .le off, 3)) (ht : (pc : Int) + off = (a : Int)) (kn : ax_Ko G p l e R s m args below meth c nL Qf (pc + 3) nx) (kj : ∀ t, ax_Ko G p l e R s m args below meth c nL Qf t (jm t)) (h : ax_ins C Q rt nx jm pc a b c0 lv st M rc rs (.if_icmp .le off)) (hs : ax_SR G s R nL lv M rc rs H locs cells slots ls) : W p l e R s m args below meth c H locs cells slots Qf (F0 m pc ls (st.map (ax_tr G))) := by
  obtain ⟨x, y, st, rfl, h1⟩ := ax_2i_inv h
  exact lv_icmp_le cx.1 cx.2.1 hd ht (fun hc => kj a _ _ _ _ _ _ _ _ _ _ (by have h9 := h1; rw [if_pos hc] at h9; exact h9) hs) (fun hc => kn _ _ _ _ _ _ _ _ _ _ (by have h9 := h1; rw [if_neg hc] at h9; exact h9) hs)
theorem sx_ifnull {off : Int} (cx : ax_Cx G p R s m args meth c own cc nL) (hd : decode cc pc = .ok (.ifnull off, 3)) (ht : (pc : Int) + off = (a : Int)) (kn : ax_Ko G p l e R s m args below meth c nL Qf (pc + 3) nx) (kj : ∀ t, ax_Ko G p l e R s m args below meth c nL Qf t (jm t)) (h : ax_ins C Q rt nx jm pc a b c0 lv st M rc rs (.ifnull off)) (hs : ax_SR G s R nL lv M rc rs H locs cells slots ls) : W p l e R s m args below meth c H locs cells slots Qf (F0 m pc ls (st.map (ax_tr G))) := by
  obtain ⟨x, st, rfl, h1⟩ := ax_1r_inv h
  cases x with
  | none => exact lv_ifnullN cx.1 cx.2.1 hd ht (kj a _ _ _ _ _ _ _ _ _ _ h1 hs)
  | some o => exact lv_ifnull cx.1 cx.2.1 hd (kn _ _ _ _ _ _ _ _ _ _ h1 hs)
theorem sx_ifnonnull {off : Int} (cx : ax_Cx G p R s m args meth c own cc nL) (hd : decode cc pc = .ok (.ifnonnull off, 3)) (ht : (pc : Int) + off = (a : Int)) (kn : ax_Ko G p l e R s m args below meth c nL Qf (pc + 3) nx) (kj : ∀ t, ax_Ko G p l e R s m args below meth c nL Qf t (jm t)) (h : ax_ins C Q rt nx jm pc a b c0 lv st M rc rs (.ifnonnull off)) (hs : ax_SR G s R nL lv M rc rs H locs cells slots ls) : W p l e R s m args below meth c H locs cells slots Qf (F0 m pc ls (st.map (ax_tr G))) := by
  obtain ⟨x, st, rfl, h1⟩ := ax_1r_inv h
  cases x with
  | none => exact lv_ifnonnullN cx.1 cx.2.1 hd (kn _ _ _ _ _ _ _ _ _ _ h1 hs)
  | some o => exact lv_ifnonnull cx.1 cx.2.1 hd ht (kj a _ _ _ _ _ _ _ _ _ _ h1 hs)
theorem sx_tableswitch {dflt lo hi : Int} {offs : Array Int} {len : Nat} (cx : ax_Cx G p R s m args meth c own cc nL) (hd : decode cc pc = .ok (.tableswitch dflt lo hi offs, len)) (kj : ∀ t, ax_Ko G p l e R s m args below meth c nL Qf t (jm t)) (h : ax_ins C Q rt nx jm pc a b c0 lv st M rc rs (.tableswitch dflt lo hi offs)) (hs : ax_SR G s R nL lv M rc rs H locs cells slots ls) : W p l e R s m args below meth c H locs cells slots Qf (F0 m pc ls (st.map (ax_tr G))) := by
  obtain ⟨x, st, rfl, h1⟩ := ax_1i_inv h
  by_cases hc : x.toInt < lo ∨ hi < x.toInt
  · rw [if_pos hc] at h1
    exact lv_tableOut cx.1 cx.2.1 hd hc (by omega) (kj _ _ _ _ _ _ _ _ _ _ _ h1.2 hs)
  · rw [if_neg hc] at h1
    split at h1
    · rename_i off ho
      exact lv_tableIn cx.1 cx.2.1 hd (fun z => hc (Or.inl z)) (fun z => hc (Or.inr z)) ho (by omega) (kj _ _ _ _ _ _ _ _ _ _ _ h1.2 hs)
    · exact h1.elim
end AX5
