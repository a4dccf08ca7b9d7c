/-! the law: its rows, decided -/
set_option maxRecDepth 100000 in
theorem sk_16 : ∀ r ∈ sg_16, ax_rwL r = true := by decide +kernel
set_option maxRecDepth 100000 in
theorem sk_17 : ∀ r ∈ sg_17, ax_rwL r = true := by decide +kernel
set_option maxRecDepth 100000 in
theorem sk_18 : ∀ r ∈ sg_18, ax_rwL r = true := by decide +kernel
set_option maxRecDepth 100000 in
theorem sk_19 : ∀ r ∈ sg_19, ax_rwL r = true := by decide +kernel
