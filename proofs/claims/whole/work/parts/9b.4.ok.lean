/-! the law: its rows, decided -/
theorem ok_L_law : ax_codL ax_mt hT_L "PageServerLaw" false false (some .boolean) 7 code pr_L_law = true := by
  refine ax_codL_of pr_L_law ?_ sg_adj
  rw [sg_all]
  exact List.forall_mem_append.mpr ⟨sk_0, List.forall_mem_append.mpr ⟨sk_1, List.forall_mem_append.mpr ⟨sk_2, List.forall_mem_append.mpr ⟨sk_3, List.forall_mem_append.mpr ⟨sk_4, List.forall_mem_append.mpr ⟨sk_5, List.forall_mem_append.mpr ⟨sk_6, List.forall_mem_append.mpr ⟨sk_7, List.forall_mem_append.mpr ⟨sk_8, List.forall_mem_append.mpr ⟨sk_9, List.forall_mem_append.mpr ⟨sk_10, List.forall_mem_append.mpr ⟨sk_11, List.forall_mem_append.mpr ⟨sk_12, List.forall_mem_append.mpr ⟨sk_13, List.forall_mem_append.mpr ⟨sk_14, List.forall_mem_append.mpr ⟨sk_15, List.forall_mem_append.mpr ⟨sk_16, List.forall_mem_append.mpr ⟨sk_17, List.forall_mem_append.mpr ⟨sk_18, sk_19⟩⟩⟩⟩⟩⟩⟩⟩⟩⟩⟩⟩⟩⟩⟩⟩⟩⟩⟩
