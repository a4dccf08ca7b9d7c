/-! the law: its rows, decided -/
set_option maxRecDepth 100000 in
theorem sk_12 : ∀ r ∈ sg_12, ax_rwL r = true := by decide +kernel
set_option maxRecDepth 100000 in
theorem sk_13 : ∀ r ∈ sg_13, ax_rwL r = true := by decide +kernel
set_option maxRecDepth 100000 in
theorem sk_14 : ∀ r ∈ sg_14, ax_rwL r = true := by decide +kernel
set_option maxRecDepth 100000 in
theorem sk_15 : ∀ r ∈ sg_15, ax_rwL r = true := by decide +kernel
