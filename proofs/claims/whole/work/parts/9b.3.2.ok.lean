/-! the law: its rows, decided -/
set_option maxRecDepth 100000 in
theorem sk_8 : ∀ r ∈ sg_8, ax_rwL r = true := by decide +kernel
set_option maxRecDepth 100000 in
theorem sk_9 : ∀ r ∈ sg_9, ax_rwL r = true := by decide +kernel
set_option maxRecDepth 100000 in
theorem sk_10 : ∀ r ∈ sg_10, ax_rwL r = true := by decide +kernel
set_option maxRecDepth 100000 in
theorem sk_11 : ∀ r ∈ sg_11, ax_rwL r = true := by decide +kernel
