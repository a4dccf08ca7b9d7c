/-! the law: its rows, decided -/
set_option maxRecDepth 100000 in
theorem sk_4 : ∀ r ∈ sg_4, ax_rwL r = true := by decide +kernel
set_option maxRecDepth 100000 in
theorem sk_5 : ∀ r ∈ sg_5, ax_rwL r = true := by decide +kernel
set_option maxRecDepth 100000 in
theorem sk_6 : ∀ r ∈ sg_6, ax_rwL r = true := by decide +kernel
set_option maxRecDepth 100000 in
theorem sk_7 : ∀ r ∈ sg_7, ax_rwL r = true := by decide +kernel
