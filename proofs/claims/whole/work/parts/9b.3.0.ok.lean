/-! the law: its rows, decided -/
set_option maxRecDepth 100000 in
theorem sk_0 : ∀ r ∈ sg_0, ax_rwL r = true := by decide +kernel
set_option maxRecDepth 100000 in
theorem sk_1 : ∀ r ∈ sg_1, ax_rwL r = true := by decide +kernel
set_option maxRecDepth 100000 in
theorem sk_2 : ∀ r ∈ sg_2, ax_rwL r = true := by decide +kernel
set_option maxRecDepth 100000 in
theorem sk_3 : ∀ r ∈ sg_3, ax_rwL r = true := by decide +kernel
