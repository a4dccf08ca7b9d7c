/-! THE CONSTANTS AT THE LAW's START -/
/-- an array that is only read -/
def Ro (ty : FieldType) (q n : Nat) (f : Nat → Int32) (s : State) : Prop := ∃ cell : Cell, s.heap[q]? = some cell ∧ s.isArrayOf cell ty ∧ cell.vm ≠ .unknown ∧ (n ≤ cell.slots.size ∧ cell.slots.size.toInt32 = Int32.ofNat n) ∧ ∀ j : Nat, j < n → cell.slots[j]? = some (.int (f j))
/-- a constant String: where it lies, where its bytes lie -/
def Cs (own : String) (idx n : Nat) (l : List Int32) (s : State) (a v : Nat) : Prop := (Term.string own idx).eval #[] s none [] s = some (.ref a) ∧ va_O RJ0 a (fun q => s.heap.size ≤ q) s s.heap ∧ va_OF RJ0 "coder" "B" (.int 0) a (fun q => s.heap.size ≤ q) s s.heap ∧ va_OF RJ0 "value" "[B" (.ref v) a (fun q => s.heap.size ≤ q) s s.heap ∧ Ro .byte v n (fun j => l.getD j 0) s
section AX124
variable {s : State} {b : Nat}
theorem va_T.ro {ty : FieldType} {q n : Nat} {f : Nat → Int32} {A : Nat → Prop} (h : va_T ty q n (fun j => .int (f j)) A s s.heap) : Ro ty q n f s := by
  obtain ⟨cell, h1, h2, h3, h4, h5, h6, -⟩ := h
  exact ⟨cell, h1, h2, h3, ⟨h4, h5⟩, h6⟩
theorem nA (a : Nat) (h : a < s.heap.size) : ¬ (s.heap.size ≤ a) := by omega
theorem cs_of (own : String) (idx n : Nat) (l : List Int32) (hN : n < 2 ^ 31) (h1 : (Cond.exactly (.string own idx) "java/lang/String").before #[Value.ref b] s = true) (h2 : (Cond.eq (.field (.string own idx) "java/lang/String" "coder" "B") (.int 0)).before #[Value.ref b] s = true) (h3 : (Cond.arrayOf (.field (.string own idx) "java/lang/String" "value" "[B") .byte).before #[Value.ref b] s = true) (h4 : (Cond.eq (.length (.field (.string own idx) "java/lang/String" "value" "[B")) (.int (Int32.ofNat n))).before #[Value.ref b] s = true) (h5 : ∀ j : Nat, j < n → (Cond.eq (.elem (.field (.string own idx) "java/lang/String" "value" "[B") (.int (Int32.ofNat j))) (.int (l.getD j 0))).before #[Value.ref b] s = true) : ∃ a v, Cs own idx n l s a v := by
  have e : ∀ i : Nat, i < 1 → i = 0 := fun i hi => by omega
  obtain ⟨adK, adV, ⟨g1, -⟩, g2⟩ := vk_Sof (N := 1) (tm := fun _ => .string own idx) (len := [n]) (byt := [l]) (A := fun q => s.heap.size ≤ q) (fun i hi => by rw [e i hi]; exact hN) (fun _ _ => h1) (fun _ _ => h2) (fun _ _ => h3) (fun i hi => by rw [e i hi]; exact h4) (fun i hi => by rw [e i hi]; exact h5) (fun i j hi hj hij => absurd (show i = j by omega) hij) nA
  obtain ⟨k1, k2, k3, k4⟩ := g1 0 (by decide)
  exact ⟨adK 0, adV 0, g2 0 (by decide), k1, k2, k3, va_T.ro k4⟩
theorem ar_of (C n : String) (k : Nat) (l : List Int32) (hN : k < 2 ^ 31) (h3 : (Cond.arrayOf (.static C n "[I") .int).before #[Value.ref b] s = true) (h4 : (Cond.eq (.length (.static C n "[I")) (.int (Int32.ofNat k))).before #[Value.ref b] s = true) (h5 : ∀ j : Nat, j < k → (Cond.eq (.elem (.static C n "[I") (.int (Int32.ofNat j))) (.int (l.getD j 0))).before #[Value.ref b] s = true) : ∃ q, (Term.static C n "[I").eval #[Value.ref b] s none [] s = some (.ref q) ∧ Ro .int q k (fun j => l.getD j 0) s := by
  obtain ⟨t, h, hT⟩ := va_Tof (f := fun j => .int (l.getD j 0)) (A := fun q => s.heap.size ≤ q) hN h3 (va_eqt h4) (fun j hj => va_eqt (h5 j hj)) nA
  exact ⟨t, h, va_T.ro hT⟩
theorem wc_0 (hgv : (Jvm.Cond.and given_1 narrow_1).before #[Value.ref b] s = true) : ∃ a v, Cs "PageServer$HeaderTable" 18 2 [58, 109] s a v := by
  have hs := flat_of_before _ hgv
  refine cs_of "PageServer$HeaderTable" 18 2 [58, 109] (by decide) (hs _ (by decide +kernel)) (hs _ (by decide +kernel)) (hs _ (by decide +kernel)) (hs _ (by decide +kernel)) (fun j hj => ?_)
  have : ∀ j, j < 2 → Cond.eq (.elem (.field (.string "PageServer$HeaderTable" 18) "java/lang/String" "value" "[B") (.int (Int32.ofNat j))) (.int (([58, 109] : List Int32).getD j 0)) ∈ flatC (Jvm.Cond.and given_1 narrow_1) := by decide +kernel
  exact hs _ (this j hj)
theorem wc_1 (hgv : (Jvm.Cond.and given_1 narrow_1).before #[Value.ref b] s = true) : ∃ a v, Cs "PageServer$HeaderTable" 20 3 [71, 69, 84] s a v := by
  have hs := flat_of_before _ hgv
  refine cs_of "PageServer$HeaderTable" 20 3 [71, 69, 84] (by decide) (hs _ (by decide +kernel)) (hs _ (by decide +kernel)) (hs _ (by decide +kernel)) (hs _ (by decide +kernel)) (fun j hj => ?_)
  have : ∀ j, j < 3 → Cond.eq (.elem (.field (.string "PageServer$HeaderTable" 20) "java/lang/String" "value" "[B") (.int (Int32.ofNat j))) (.int (([71, 69, 84] : List Int32).getD j 0)) ∈ flatC (Jvm.Cond.and given_1 narrow_1) := by decide +kernel
  exact hs _ (this j hj)
theorem wc_2 (hgv : (Jvm.Cond.and given_1 narrow_1).before #[Value.ref b] s = true) : ∃ a v, Cs "PageServer$HeaderTable" 25 4 [72, 69, 65, 68] s a v := by
  have hs := flat_of_before _ hgv
  refine cs_of "PageServer$HeaderTable" 25 4 [72, 69, 65, 68] (by decide) (hs _ (by decide +kernel)) (hs _ (by decide +kernel)) (hs _ (by decide +kernel)) (hs _ (by decide +kernel)) (fun j hj => ?_)
  have : ∀ j, j < 4 → Cond.eq (.elem (.field (.string "PageServer$HeaderTable" 25) "java/lang/String" "value" "[B") (.int (Int32.ofNat j))) (.int (([72, 69, 65, 68] : List Int32).getD j 0)) ∈ flatC (Jvm.Cond.and given_1 narrow_1) := by decide +kernel
  exact hs _ (this j hj)
theorem wc_3 (hgv : (Jvm.Cond.and given_1 narrow_1).before #[Value.ref b] s = true) : ∃ a v, Cs "PageServer$HeaderTable" 27 2 [58, 112] s a v := by
  have hs := flat_of_before _ hgv
  refine cs_of "PageServer$HeaderTable" 27 2 [58, 112] (by decide) (hs _ (by decide +kernel)) (hs _ (by decide +kernel)) (hs _ (by decide +kernel)) (hs _ (by decide +kernel)) (fun j hj => ?_)
  have : ∀ j, j < 2 → Cond.eq (.elem (.field (.string "PageServer$HeaderTable" 27) "java/lang/String" "value" "[B") (.int (Int32.ofNat j))) (.int (([58, 112] : List Int32).getD j 0)) ∈ flatC (Jvm.Cond.and given_1 narrow_1) := by decide +kernel
  exact hs _ (this j hj)
theorem wc_4 (hgv : (Jvm.Cond.and given_1 narrow_1).before #[Value.ref b] s = true) : ∃ a v, Cs "PageServer$HeaderTable" 29 1 [47] s a v := by
  have hs := flat_of_before _ hgv
  refine cs_of "PageServer$HeaderTable" 29 1 [47] (by decide) (hs _ (by decide +kernel)) (hs _ (by decide +kernel)) (hs _ (by decide +kernel)) (hs _ (by decide +kernel)) (fun j hj => ?_)
  have : ∀ j, j < 1 → Cond.eq (.elem (.field (.string "PageServer$HeaderTable" 29) "java/lang/String" "value" "[B") (.int (Int32.ofNat j))) (.int (([47] : List Int32).getD j 0)) ∈ flatC (Jvm.Cond.and given_1 narrow_1) := by decide +kernel
  exact hs _ (this j hj)
theorem wc_5 (hgv : (Jvm.Cond.and given_1 narrow_1).before #[Value.ref b] s = true) : ∃ a v, Cs "PageServer$HeaderTable" 31 4 [104, 111, 115, 116] s a v := by
  have hs := flat_of_before _ hgv
  refine cs_of "PageServer$HeaderTable" 31 4 [104, 111, 115, 116] (by decide) (hs _ (by decide +kernel)) (hs _ (by decide +kernel)) (hs _ (by decide +kernel)) (hs _ (by decide +kernel)) (fun j hj => ?_)
  have : ∀ j, j < 4 → Cond.eq (.elem (.field (.string "PageServer$HeaderTable" 31) "java/lang/String" "value" "[B") (.int (Int32.ofNat j))) (.int (([104, 111, 115, 116] : List Int32).getD j 0)) ∈ flatC (Jvm.Cond.and given_1 narrow_1) := by decide +kernel
  exact hs _ (this j hj)
theorem wc_6 (hgv : (Jvm.Cond.and given_1 narrow_1).before #[Value.ref b] s = true) : ∃ a v, Cs "PageServer$HeaderTable" 33 0 [] s a v := by
  have hs := flat_of_before _ hgv
  refine cs_of "PageServer$HeaderTable" 33 0 [] (by decide) (hs _ (by decide +kernel)) (hs _ (by decide +kernel)) (hs _ (by decide +kernel)) (hs _ (by decide +kernel)) (fun j hj => ?_)
  have : ∀ j, j < 0 → Cond.eq (.elem (.field (.string "PageServer$HeaderTable" 33) "java/lang/String" "value" "[B") (.int (Int32.ofNat j))) (.int (([] : List Int32).getD j 0)) ∈ flatC (Jvm.Cond.and given_1 narrow_1) := by decide +kernel
  exact hs _ (this j hj)
theorem wc_7 (hgv : (Jvm.Cond.and given_1 narrow_1).before #[Value.ref b] s = true) : ∃ a v, Cs "PageServer$HeaderTable" 35 6 [108, 101, 110, 103, 116, 104] s a v := by
  have hs := flat_of_before _ hgv
  refine cs_of "PageServer$HeaderTable" 35 6 [108, 101, 110, 103, 116, 104] (by decide) (hs _ (by decide +kernel)) (hs _ (by decide +kernel)) (hs _ (by decide +kernel)) (hs _ (by decide +kernel)) (fun j hj => ?_)
  have : ∀ j, j < 6 → Cond.eq (.elem (.field (.string "PageServer$HeaderTable" 35) "java/lang/String" "value" "[B") (.int (Int32.ofNat j))) (.int (([108, 101, 110, 103, 116, 104] : List Int32).getD j 0)) ∈ flatC (Jvm.Cond.and given_1 narrow_1) := by decide +kernel
  exact hs _ (this j hj)
theorem wc_8 (hgv : (Jvm.Cond.and given_1 narrow_1).before #[Value.ref b] s = true) : ∃ a v, Cs "PageServer$HeaderTable" 37 2 [58, 115] s a v := by
  have hs := flat_of_before _ hgv
  refine cs_of "PageServer$HeaderTable" 37 2 [58, 115] (by decide) (hs _ (by decide +kernel)) (hs _ (by decide +kernel)) (hs _ (by decide +kernel)) (hs _ (by decide +kernel)) (fun j hj => ?_)
  have : ∀ j, j < 2 → Cond.eq (.elem (.field (.string "PageServer$HeaderTable" 37) "java/lang/String" "value" "[B") (.int (Int32.ofNat j))) (.int (([58, 115] : List Int32).getD j 0)) ∈ flatC (Jvm.Cond.and given_1 narrow_1) := by decide +kernel
  exact hs _ (this j hj)
theorem wc_9 (hgv : (Jvm.Cond.and given_1 narrow_1).before #[Value.ref b] s = true) : ∃ a v, Cs "PageServer$HeaderTable" 39 3 [50, 48, 48] s a v := by
  have hs := flat_of_before _ hgv
  refine cs_of "PageServer$HeaderTable" 39 3 [50, 48, 48] (by decide) (hs _ (by decide +kernel)) (hs _ (by decide +kernel)) (hs _ (by decide +kernel)) (hs _ (by decide +kernel)) (fun j hj => ?_)
  have : ∀ j, j < 3 → Cond.eq (.elem (.field (.string "PageServer$HeaderTable" 39) "java/lang/String" "value" "[B") (.int (Int32.ofNat j))) (.int (([50, 48, 48] : List Int32).getD j 0)) ∈ flatC (Jvm.Cond.and given_1 narrow_1) := by decide +kernel
  exact hs _ (this j hj)
theorem wc_10 (hgv : (Jvm.Cond.and given_1 narrow_1).before #[Value.ref b] s = true) : ∃ a v, Cs "PageServer$HeaderTable" 41 3 [52, 48, 52] s a v := by
  have hs := flat_of_before _ hgv
  refine cs_of "PageServer$HeaderTable" 41 3 [52, 48, 52] (by decide) (hs _ (by decide +kernel)) (hs _ (by decide +kernel)) (hs _ (by decide +kernel)) (hs _ (by decide +kernel)) (fun j hj => ?_)
  have : ∀ j, j < 3 → Cond.eq (.elem (.field (.string "PageServer$HeaderTable" 41) "java/lang/String" "value" "[B") (.int (Int32.ofNat j))) (.int (([52, 48, 52] : List Int32).getD j 0)) ∈ flatC (Jvm.Cond.and given_1 narrow_1) := by decide +kernel
  exact hs _ (this j hj)
theorem wc_11 (hgv : (Jvm.Cond.and given_1 narrow_1).before #[Value.ref b] s = true) : ∃ a v, Cs "PageServer" 24 7 [110, 111, 32, 112, 97, 116, 104] s a v := by
  have hs := flat_of_before _ hgv
  refine cs_of "PageServer" 24 7 [110, 111, 32, 112, 97, 116, 104] (by decide) (hs _ (by decide +kernel)) (hs _ (by decide +kernel)) (hs _ (by decide +kernel)) (hs _ (by decide +kernel)) (fun j hj => ?_)
  have : ∀ j, j < 7 → Cond.eq (.elem (.field (.string "PageServer" 24) "java/lang/String" "value" "[B") (.int (Int32.ofNat j))) (.int (([110, 111, 32, 112, 97, 116, 104] : List Int32).getD j 0)) ∈ flatC (Jvm.Cond.and given_1 narrow_1) := by decide +kernel
  exact hs _ (this j hj)
theorem wa_PREFACE (hgv : (Jvm.Cond.and given_1 narrow_1).before #[Value.ref b] s = true) : ∃ q, (Term.static "PageServer$Connection" "PREFACE" "[I").eval #[Value.ref b] s none [] s = some (.ref q) ∧ Ro .int q 4 (fun j => ([80, 82, 73, 10] : List Int32).getD j 0) s := by
  have hs := flat_of_before _ hgv
  refine ar_of "PageServer$Connection" "PREFACE" 4 [80, 82, 73, 10] (by decide) (hs _ (by decide +kernel)) (hs _ (by decide +kernel)) (fun j hj => ?_)
  have : ∀ j, j < 4 → Cond.eq (.elem (.static "PageServer$Connection" "PREFACE" "[I") (.int (Int32.ofNat j))) (.int (([80, 82, 73, 10] : List Int32).getD j 0)) ∈ flatC (Jvm.Cond.and given_1 narrow_1) := by decide +kernel
  exact hs _ (this j hj)
theorem wa_WRONG_METHOD (hgv : (Jvm.Cond.and given_1 narrow_1).before #[Value.ref b] s = true) : ∃ q, (Term.static "PageServer$Connection" "WRONG_METHOD" "[I").eval #[Value.ref b] s none [] s = some (.ref q) ∧ Ro .int q 5 (fun j => ([6, 3, 52, 48, 53] : List Int32).getD j 0) s := by
  have hs := flat_of_before _ hgv
  refine ar_of "PageServer$Connection" "WRONG_METHOD" 5 [6, 3, 52, 48, 53] (by decide) (hs _ (by decide +kernel)) (hs _ (by decide +kernel)) (fun j hj => ?_)
  have : ∀ j, j < 5 → Cond.eq (.elem (.static "PageServer$Connection" "WRONG_METHOD" "[I") (.int (Int32.ofNat j))) (.int (([6, 3, 52, 48, 53] : List Int32).getD j 0)) ∈ flatC (Jvm.Cond.and given_1 narrow_1) := by decide +kernel
  exact hs _ (this j hj)
end AX124
