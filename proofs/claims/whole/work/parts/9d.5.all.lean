/-! ALL THAT THE LAW STANDS ON, OUT OF THE STATEMENT's START -/
section AX127
variable {s : State} {b t0 L : Nat} {xs : Nat → Int32} {a0 p1 p2 : Nat} {sa sv : Nat → Nat} {t z : Nat} {r0 : Option Nat} {D : va_G} {cA : Nat → ClassId}
theorem w_rr {own tx : String} {k a : Nat} (h1 : (Cond.stringRef own k tx).before #[Value.ref b] s = true) (h2 : (Term.string own k).eval #[] s none [] s = some (.ref a)) : vk_R own k tx a s := ⟨h1, h2⟩
theorem w_dup {own own2 : String} {k k2 a : Nat} (h1 : (Term.string own k).eval #[] s none [] s = some (.ref a)) (h2 : (Cond.eq (.string own k) (.string own2 k2)).before #[Value.ref b] s = true) (h3 : (Cond.exactly (.string own2 k2) "java/lang/String").before #[Value.ref b] s = true) : (Term.string own2 k2).eval #[] s none [] s = some (.ref a) := by
  obtain ⟨x, c, cell, kk, g1, -⟩ := Cond.exactly_spec h3
  have g2 := Cond.eq_refs h2 g1 rfl
  have g3 : (Term.string own k).eval #[] s none [] s = some (.ref x) := g2
  rw [h1] at g3
  cases g3
  exact g1
theorem w_sx {own tx : String} {k : Nat} (h1 : (Cond.stringRef own k tx).before #[Value.ref b] s = true) (h3 : (Cond.exactly (.string own k) "java/lang/String").before #[Value.ref b] s = true) : ∃ a, vk_R own k tx a s := by
  obtain ⟨x, c, cell, kk, g1, -⟩ := Cond.exactly_spec h3
  exact ⟨x, w_rr h1 g1⟩
theorem w_sc0 (hts : ∀ w ∈ lw_tbl, w.before #[Value.ref b] s = true) (hgv : (Jvm.Cond.and given_1 narrow_1).before #[Value.ref b] s = true) (h : ∀ k, k < 12 → Cs (txO.getD k ("", 0)).1 (txO.getD k ("", 0)).2 (txL.getD k []).length (txL.getD k []) s (sa k) (sv k)) : vk_R "PageServer$HeaderTable" 18 ":m" (sa 0) s := by
  exact w_rr (hts _ (by decide +kernel)) (h 0 (by decide)).1
theorem w_sc1 (hts : ∀ w ∈ lw_tbl, w.before #[Value.ref b] s = true) (hgv : (Jvm.Cond.and given_1 narrow_1).before #[Value.ref b] s = true) (h : ∀ k, k < 12 → Cs (txO.getD k ("", 0)).1 (txO.getD k ("", 0)).2 (txL.getD k []).length (txL.getD k []) s (sa k) (sv k)) : vk_R "PageServer$HeaderTable" 20 "GET" (sa 1) s := by
  exact w_rr (hts _ (by decide +kernel)) (h 1 (by decide)).1
theorem w_sc2 (hts : ∀ w ∈ lw_tbl, w.before #[Value.ref b] s = true) (hgv : (Jvm.Cond.and given_1 narrow_1).before #[Value.ref b] s = true) (h : ∀ k, k < 12 → Cs (txO.getD k ("", 0)).1 (txO.getD k ("", 0)).2 (txL.getD k []).length (txL.getD k []) s (sa k) (sv k)) : vk_R "PageServer$HeaderTable" 25 "HEAD" (sa 2) s := by
  exact w_rr (hts _ (by decide +kernel)) (h 2 (by decide)).1
theorem w_sc3 (hts : ∀ w ∈ lw_tbl, w.before #[Value.ref b] s = true) (hgv : (Jvm.Cond.and given_1 narrow_1).before #[Value.ref b] s = true) (h : ∀ k, k < 12 → Cs (txO.getD k ("", 0)).1 (txO.getD k ("", 0)).2 (txL.getD k []).length (txL.getD k []) s (sa k) (sv k)) : vk_R "PageServer$HeaderTable" 27 ":p" (sa 3) s := by
  exact w_rr (hts _ (by decide +kernel)) (h 3 (by decide)).1
theorem w_sc4 (hts : ∀ w ∈ lw_tbl, w.before #[Value.ref b] s = true) (hgv : (Jvm.Cond.and given_1 narrow_1).before #[Value.ref b] s = true) (h : ∀ k, k < 12 → Cs (txO.getD k ("", 0)).1 (txO.getD k ("", 0)).2 (txL.getD k []).length (txL.getD k []) s (sa k) (sv k)) : vk_R "PageServer$HeaderTable" 29 "/" (sa 4) s := by
  exact w_rr (hts _ (by decide +kernel)) (h 4 (by decide)).1
theorem w_sc5 (hts : ∀ w ∈ lw_tbl, w.before #[Value.ref b] s = true) (hgv : (Jvm.Cond.and given_1 narrow_1).before #[Value.ref b] s = true) (h : ∀ k, k < 12 → Cs (txO.getD k ("", 0)).1 (txO.getD k ("", 0)).2 (txL.getD k []).length (txL.getD k []) s (sa k) (sv k)) : vk_R "PageServer$HeaderTable" 31 "host" (sa 5) s := by
  exact w_rr (hts _ (by decide +kernel)) (h 5 (by decide)).1
theorem w_sc6 (hts : ∀ w ∈ lw_tbl, w.before #[Value.ref b] s = true) (hgv : (Jvm.Cond.and given_1 narrow_1).before #[Value.ref b] s = true) (h : ∀ k, k < 12 → Cs (txO.getD k ("", 0)).1 (txO.getD k ("", 0)).2 (txL.getD k []).length (txL.getD k []) s (sa k) (sv k)) : vk_R "PageServer$HeaderTable" 33 "" (sa 6) s := by
  exact w_rr (hts _ (by decide +kernel)) (h 6 (by decide)).1
theorem w_sc7 (hts : ∀ w ∈ lw_tbl, w.before #[Value.ref b] s = true) (hgv : (Jvm.Cond.and given_1 narrow_1).before #[Value.ref b] s = true) (h : ∀ k, k < 12 → Cs (txO.getD k ("", 0)).1 (txO.getD k ("", 0)).2 (txL.getD k []).length (txL.getD k []) s (sa k) (sv k)) : vk_R "PageServer$HeaderTable" 35 "length" (sa 7) s := by
  exact w_rr (hts _ (by decide +kernel)) (h 7 (by decide)).1
theorem w_sc8 (hts : ∀ w ∈ lw_tbl, w.before #[Value.ref b] s = true) (hgv : (Jvm.Cond.and given_1 narrow_1).before #[Value.ref b] s = true) (h : ∀ k, k < 12 → Cs (txO.getD k ("", 0)).1 (txO.getD k ("", 0)).2 (txL.getD k []).length (txL.getD k []) s (sa k) (sv k)) : vk_R "PageServer$HeaderTable" 37 ":s" (sa 8) s := by
  exact w_rr (hts _ (by decide +kernel)) (h 8 (by decide)).1
theorem w_sc9 (hts : ∀ w ∈ lw_tbl, w.before #[Value.ref b] s = true) (hgv : (Jvm.Cond.and given_1 narrow_1).before #[Value.ref b] s = true) (h : ∀ k, k < 12 → Cs (txO.getD k ("", 0)).1 (txO.getD k ("", 0)).2 (txL.getD k []).length (txL.getD k []) s (sa k) (sv k)) : vk_R "PageServer$HeaderTable" 39 "200" (sa 9) s := by
  exact w_rr (hts _ (by decide +kernel)) (h 9 (by decide)).1
theorem w_sc10 (hts : ∀ w ∈ lw_tbl, w.before #[Value.ref b] s = true) (hgv : (Jvm.Cond.and given_1 narrow_1).before #[Value.ref b] s = true) (h : ∀ k, k < 12 → Cs (txO.getD k ("", 0)).1 (txO.getD k ("", 0)).2 (txL.getD k []).length (txL.getD k []) s (sa k) (sv k)) : vk_R "PageServer$HeaderTable" 41 "404" (sa 10) s := by
  exact w_rr (hts _ (by decide +kernel)) (h 10 (by decide)).1
theorem w_sc11 (hts : ∀ w ∈ lw_tbl, w.before #[Value.ref b] s = true) (hgv : (Jvm.Cond.and given_1 narrow_1).before #[Value.ref b] s = true) (h : ∀ k, k < 12 → Cs (txO.getD k ("", 0)).1 (txO.getD k ("", 0)).2 (txL.getD k []).length (txL.getD k []) s (sa k) (sv k)) : vk_R "PageServer$Stream" 15 "" (sa 6) s := by
  have hs := flat_of_before _ hgv
  exact w_rr (hts _ (by decide +kernel)) (w_dup (own := "PageServer$HeaderTable") (k := 33) (h 6 (by decide)).1 (hs _ (by decide +kernel)) (hs _ (by decide +kernel)))
theorem w_sc12 (hts : ∀ w ∈ lw_tbl, w.before #[Value.ref b] s = true) (hgv : (Jvm.Cond.and given_1 narrow_1).before #[Value.ref b] s = true) (h : ∀ k, k < 12 → Cs (txO.getD k ("", 0)).1 (txO.getD k ("", 0)).2 (txL.getD k []).length (txL.getD k []) s (sa k) (sv k)) : vk_R "PageServer$Connection" 265 "HEAD" (sa 2) s := by
  have hs := flat_of_before _ hgv
  exact w_rr (hts _ (by decide +kernel)) (w_dup (own := "PageServer$HeaderTable") (k := 25) (h 2 (by decide)).1 (hs _ (by decide +kernel)) (hs _ (by decide +kernel)))
theorem w_sc13 (hts : ∀ w ∈ lw_tbl, w.before #[Value.ref b] s = true) (hgv : (Jvm.Cond.and given_1 narrow_1).before #[Value.ref b] s = true) (h : ∀ k, k < 12 → Cs (txO.getD k ("", 0)).1 (txO.getD k ("", 0)).2 (txL.getD k []).length (txL.getD k []) s (sa k) (sv k)) : vk_R "PageServer$Connection" 273 "GET" (sa 1) s := by
  have hs := flat_of_before _ hgv
  exact w_rr (hts _ (by decide +kernel)) (w_dup (own := "PageServer$HeaderTable") (k := 20) (h 1 (by decide)).1 (hs _ (by decide +kernel)) (hs _ (by decide +kernel)))
theorem w_sc14 (hts : ∀ w ∈ lw_tbl, w.before #[Value.ref b] s = true) (hgv : (Jvm.Cond.and given_1 narrow_1).before #[Value.ref b] s = true) (h : ∀ k, k < 12 → Cs (txO.getD k ("", 0)).1 (txO.getD k ("", 0)).2 (txL.getD k []).length (txL.getD k []) s (sa k) (sv k)) : vk_R "java/lang/String" 7 "" (sa 6) s := by
  have hs := flat_of_before _ hgv
  exact w_rr (hts _ (by decide +kernel)) (w_dup (own := "PageServer$HeaderTable") (k := 33) (h 6 (by decide)).1 (hs _ (by decide +kernel)) (hs _ (by decide +kernel)))
theorem w_sc15 (hts : ∀ w ∈ lw_tbl, w.before #[Value.ref b] s = true) (hgv : (Jvm.Cond.and given_1 narrow_1).before #[Value.ref b] s = true) (h : ∀ k, k < 12 → Cs (txO.getD k ("", 0)).1 (txO.getD k ("", 0)).2 (txL.getD k []).length (txL.getD k []) s (sa k) (sv k)) : vk_R "PageServer$Request" 51 ":m" (sa 0) s := by
  have hs := flat_of_before _ hgv
  exact w_rr (hts _ (by decide +kernel)) (w_dup (own := "PageServer$HeaderTable") (k := 18) (h 0 (by decide)).1 (hs _ (by decide +kernel)) (hs _ (by decide +kernel)))
theorem w_sc16 (hts : ∀ w ∈ lw_tbl, w.before #[Value.ref b] s = true) (hgv : (Jvm.Cond.and given_1 narrow_1).before #[Value.ref b] s = true) (h : ∀ k, k < 12 → Cs (txO.getD k ("", 0)).1 (txO.getD k ("", 0)).2 (txL.getD k []).length (txL.getD k []) s (sa k) (sv k)) : vk_R "PageServer$Request" 62 ":p" (sa 3) s := by
  have hs := flat_of_before _ hgv
  exact w_rr (hts _ (by decide +kernel)) (w_dup (own := "PageServer$HeaderTable") (k := 27) (h 3 (by decide)).1 (hs _ (by decide +kernel)) (hs _ (by decide +kernel)))
theorem w_sc17 (hts : ∀ w ∈ lw_tbl, w.before #[Value.ref b] s = true) (hgv : (Jvm.Cond.and given_1 narrow_1).before #[Value.ref b] s = true) (h : ∀ k, k < 12 → Cs (txO.getD k ("", 0)).1 (txO.getD k ("", 0)).2 (txL.getD k []).length (txL.getD k []) s (sa k) (sv k)) : vk_R "PageServer$Request" 67 "length" (sa 7) s := by
  have hs := flat_of_before _ hgv
  exact w_rr (hts _ (by decide +kernel)) (w_dup (own := "PageServer$HeaderTable") (k := 35) (h 7 (by decide)).1 (hs _ (by decide +kernel)) (hs _ (by decide +kernel)))
theorem w_sxA (hts : ∀ w ∈ lw_tbl, w.before #[Value.ref b] s = true) (hgv : (Jvm.Cond.and given_1 narrow_1).before #[Value.ref b] s = true) : ∀ q ∈ ax_sx, ∃ sa, vk_R q.1 q.2.1 q.2.2 sa s := by
  have hs := flat_of_before _ hgv
  intro q hq
  simp only [ax_sx, List.mem_cons, List.not_mem_nil, or_false] at hq
  rcases hq with rfl | rfl | rfl | rfl | rfl | rfl | rfl | rfl | rfl
  · exact w_sx (hts _ (by decide +kernel)) (hs _ (by decide +kernel))
  · exact w_sx (hts _ (by decide +kernel)) (hs _ (by decide +kernel))
  · exact w_sx (hts _ (by decide +kernel)) (hs _ (by decide +kernel))
  · exact w_sx (hts _ (by decide +kernel)) (hs _ (by decide +kernel))
  · exact w_sx (hts _ (by decide +kernel)) (hs _ (by decide +kernel))
  · exact w_sx (hts _ (by decide +kernel)) (hs _ (by decide +kernel))
  · exact w_sx (hts _ (by decide +kernel)) (hs _ (by decide +kernel))
  · exact w_sx (hts _ (by decide +kernel)) (hs _ (by decide +kernel))
  · exact w_sx (hts _ (by decide +kernel)) (hs _ (by decide +kernel))
theorem w_scA (hts : ∀ w ∈ lw_tbl, w.before #[Value.ref b] s = true) (hgv : (Jvm.Cond.and given_1 narrow_1).before #[Value.ref b] s = true) (h : ∀ k, k < 12 → Cs (txO.getD k ("", 0)).1 (txO.getD k ("", 0)).2 (txL.getD k []).length (txL.getD k []) s (sa k) (sv k)) : ∀ q ∈ ax_sc, vk_R q.1 q.2.1 q.2.2.1 (wA a0 p1 p2 sa sv t z q.2.2.2) s := by
  intro q hq
  simp only [ax_sc, List.mem_cons, List.not_mem_nil, or_false] at hq
  rcases hq with rfl | rfl | rfl | rfl | rfl | rfl | rfl | rfl | rfl | rfl | rfl | rfl | rfl | rfl | rfl | rfl | rfl | rfl
  · exact w_sc0 hts hgv h
  · exact w_sc1 hts hgv h
  · exact w_sc2 hts hgv h
  · exact w_sc3 hts hgv h
  · exact w_sc4 hts hgv h
  · exact w_sc5 hts hgv h
  · exact w_sc6 hts hgv h
  · exact w_sc7 hts hgv h
  · exact w_sc8 hts hgv h
  · exact w_sc9 hts hgv h
  · exact w_sc10 hts hgv h
  · exact w_sc11 hts hgv h
  · exact w_sc12 hts hgv h
  · exact w_sc13 hts hgv h
  · exact w_sc14 hts hgv h
  · exact w_sc15 hts hgv h
  · exact w_sc16 hts hgv h
  · exact w_sc17 hts hgv h
theorem w_svA (hts : ∀ w ∈ lw_tbl, w.before #[Value.ref b] s = true) (hgv : (Jvm.Cond.and given_1 narrow_1).before #[Value.ref b] s = true) (e1 : (Term.static "PageServer$Connection" "PREFACE" "[I").eval #[Value.ref b] s none [] s = some (.ref p1)) (e2 : (Term.static "PageServer$Connection" "WRONG_METHOD" "[I").eval #[Value.ref b] s none [] s = some (.ref p2)) {M : ax_M} : ∀ q ∈ ax_sv, va_Z q.1 q.2.1 q.2.2.1 (ax_svv (wG D cA (wA a0 p1 p2 sa sv t s.heap.size) s.heap.size M) q.2.2.2) (fun q => s.heap.size ≤ q) s s.heap := by
  have hs := flat_of_before _ hgv
  intro q hq
  simp only [ax_sv, List.mem_cons, List.not_mem_nil, or_false] at hq
  rcases hq with rfl | rfl | rfl | rfl | rfl | rfl
  · exact va_Zof (hts _ (by decide +kernel)) (hts _ (by decide +kernel)) (va_eqt (z := 1) (hs _ (by decide +kernel))) nA
  · exact va_Zof (hts _ (by decide +kernel)) (hts _ (by decide +kernel)) (va_eqt (z := 1) (hs _ (by decide +kernel))) nA
  · exact va_Zof (hts _ (by decide +kernel)) (hts _ (by decide +kernel)) (va_eqt (z := 0) (hs _ (by decide +kernel))) nA
  · exact va_Zof (hts _ (by decide +kernel)) (hts _ (by decide +kernel)) (va_eqt (z := 8) (hs _ (by decide +kernel))) nA
  · exact va_Zof (hts _ (by decide +kernel)) (hts _ (by decide +kernel)) e1 nA
  · exact va_Zof (hts _ (by decide +kernel)) (hts _ (by decide +kernel)) e2 nA
theorem w_ao (hts : ∀ w ∈ lw_tbl, w.before #[Value.ref b] s = true) : ∀ ci, ci = 4 ∨ ci = 8 ∨ ci = 11 → va_AO (ax_nm ci) s := by
  intro ci h
  rcases h with rfl | rfl | rfl
  · exact va_AO.of (C := "PageServer$Field") (hts _ (by decide +kernel))
  · exact va_AO.of (C := "PageServer$Page") (hts _ (by decide +kernel))
  · exact va_AO.of (C := "PageServer$Stream") (hts _ (by decide +kernel))
theorem w_nl (hts : ∀ w ∈ lw_tbl, w.before #[Value.ref b] s = true) : ∀ q ∈ ax_nl, va_Nw (.methodLinkNest q.1 q.2.1 q.2.2 "PageServer") s := by
  have h : ∀ q ∈ ax_nl, Cond.methodLinkNest q.1 q.2.1 q.2.2 "PageServer" ∈ lw_tbl := by decide +kernel
  intro q hq
  exact va_Nw.of rfl (hts _ (h q hq))
theorem w_kx (hts : ∀ w ∈ lw_tbl, w.before #[Value.ref b] s = true) (hgv : (Jvm.Cond.and given_1 narrow_1).before #[Value.ref b] s = true) {a : Nat → Nat} {M : ax_M} : ax_Kx (wG D cA a s.heap.size M) s s.heap := by
  have hs := flat_of_before _ hgv
  refine ⟨vx_Zqof (hts _ (by decide +kernel)) (hts _ (by decide +kernel)) (hs _ (by decide +kernel)) nA, vx_Zqof (hts _ (by decide +kernel)) (hts _ (by decide +kernel)) (hs _ (by decide +kernel)) nA, ?_, va_Nc.of (hs _ (by decide +kernel))⟩
  have h : ∀ w ∈ ax_xw ++ ax_xc, w ∈ lw_tbl := by decide +kernel
  have g : ∀ w ∈ ax_xw ++ ax_xc, w.onTables = true := by decide +kernel
  exact fun w hw => va_Nw.of (g w hw) (hts _ (h w hw))
theorem w_vk {a : Nat → Nat} {M : ax_M} (h1 : ∀ (c : Nat) (q : vw_C), ax_cl[c]? = some q → u_Kn s q.1 q.2.1 q.2.2 (D.1 c) (D.2 c)) (h2 : ∀ t ∈ ax_tl, ArrOfT s (cA t) (ax_aty t) ∧ va_RA s (cA t) (ax_aty t)) : va_K (wG D cA a z M).1 ax_cl (ax_tys (wG D cA a z M)) s := by
  refine ⟨h1, fun k q hk => ?_⟩
  have hm := List.mem_of_getElem? hk
  obtain ⟨t, ht, rfl⟩ := List.mem_map.mp hm
  exact h2 t ht
theorem w_one (hts : ∀ w ∈ lw_tbl, w.before #[Value.ref b] s = true) (hgv : (Jvm.Cond.and given_1 narrow_1).before #[Value.ref b] s = true) (H : WH s t0 L xs a0 p1 p2 sa sv) (ht : t < s.heap.size) (e1 : (Term.static "PageServer$Connection" "PREFACE" "[I").eval #[Value.ref b] s none [] s = some (.ref p1)) (e2 : (Term.static "PageServer$Connection" "WRONG_METHOD" "[I").eval #[Value.ref b] s none [] s = some (.ref p2))
    (hf : ∀ (a0 p1 p2 : Nat) (sa sv : Nat → Nat), va_Z "jdk/internal/util/Preconditions" "SIOOBE_FORMATTER" "Ljava/util/function/BiFunction;" (va_rf (r0.map (wA a0 p1 p2 sa sv t s.heap.size))) (fun q => s.heap.size ≤ q) s s.heap) (h1 : ∀ (c : Nat) (q : vw_C), ax_cl[c]? = some q → u_Kn s q.1 q.2.1 q.2.2 (D.1 c) (D.2 c)) (h2 : ∀ t ∈ ax_tl, ArrOfT s (cA t) (ax_aty t) ∧ va_RA s (cA t) (ax_aty t)) (G : ax_G) (hG : G = wG D cA (wA a0 p1 p2 sa sv t s.heap.size) s.heap.size (wM t0 L xs r0)) :
    ax_Gall G ∧ va_K G.1 ax_cl (ax_tys G) s ∧ ax_Kc G s s.heap ∧ ax_Kx G s s.heap ∧ ax_gz G = s.heap.size ∧ ax_Rel G (ax_gM G) s.heap ∧ ax_n (ax_gM G) = 26 ∧ Shp pK (ax_gM G) := by
  subst hG
  refine ⟨H.gall (hts _ (by decide +kernel)) ht, w_vk h1 h2, ⟨fun i hi => H.kc1 i hi, w_scA hts hgv H.1, w_sxA hts hgv, w_svA hts hgv e1 e2, hf a0 p1 p2 sa sv, w_ao hts, w_nl hts⟩, w_kx hts hgv, rfl, w_rel rfl rfl, rfl, shp_wM⟩
/-- the world at the law's start: the script lies at one of the constants' places -/
theorem world (hts : ∀ w ∈ lw_tbl, w.before #[Value.ref b] s = true) (hgv : (Jvm.Cond.and given_1 narrow_1).before #[Value.ref b] s = true) (hX : va_X b L xs s s.heap) (hL : L ≤ 2560) : ∃ (G : ax_G) (sp : Nat), sp < 26 ∧ (ax_Gall G ∧ va_K G.1 ax_cl (ax_tys G) s ∧ ax_Kc G s s.heap ∧ ax_Kx G s s.heap ∧ ax_gz G = s.heap.size ∧ ax_Rel G (ax_gM G) s.heap ∧ ax_n (ax_gM G) = 26 ∧ Shp pK (ax_gM G)) ∧ ax_ad G sp = b ∧ ax_own (ax_gM G) sp 200 ∧ ax_ln (ax_gM G) sp = L := by
  obtain ⟨D, h1⟩ := wx_cls hts
  obtain ⟨cA, h2⟩ := wx_arr hts
  obtain ⟨sa, sv, hc⟩ := wc hgv
  obtain ⟨p1, e1, r1⟩ := wa_PREFACE hgv
  obtain ⟨p2, e2, r2⟩ := wa_WRONG_METHOD hgv
  have rb : Ro .int b L xs s := by
    obtain ⟨scr, g1, g2, g3, g4, g5⟩ := hX
    exact ⟨scr, g1, g2, g3, ⟨by omega, by rw [g4]⟩, g5⟩
  obtain ⟨t, r0, ht, hf⟩ := w_fmt hts hgv rb.lt
  by_cases b1 : b = p1
  · subst b1
    have e := (rb.inj r1 (by omega) (by decide)).2.1
    exact ⟨_, 1, by decide, w_one hts hgv (t0 := 299) (L := 0) (xs := fun _ => 0) ⟨hc, r1, r2, Or.inr ⟨rfl, rfl⟩⟩ ht e1 e2 hf h1 h2 _ rfl, rfl, ⟨by show _ < 26; decide, rfl⟩, e.symm⟩
  by_cases b2 : b = p2
  · subst b2
    have e := (rb.inj r2 (by omega) (by decide)).2.1
    exact ⟨_, 2, by decide, w_one hts hgv (t0 := 299) (L := 0) (xs := fun _ => 0) ⟨hc, r1, r2, Or.inr ⟨rfl, rfl⟩⟩ ht e1 e2 hf h1 h2 _ rfl, rfl, ⟨by show _ < 26; decide, rfl⟩, e.symm⟩
  exact ⟨_, 0, by decide, w_one hts hgv (t0 := 200) (L := L) (xs := xs) ⟨hc, r1, r2, Or.inl ⟨rfl, hL, rb, b1, b2⟩⟩ ht e1 e2 hf h1 h2 _ rfl, rfl, ⟨by show 0 < 26; decide, rfl⟩, rfl⟩
end AX127
