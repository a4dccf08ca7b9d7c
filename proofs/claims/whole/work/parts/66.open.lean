/-! A STREAM IS OPENED, both sides -/
theorem fWr_ge {o : Nat} : ∀ (k : Nat) (l : List Int32) {M : ax_M} {j : Nat}, k + l.length ≤ j → ax_hi (fWr o k l M) o j = ax_hi M o j
  | _, [], _, _, _ => rfl
  | k, x :: l, M, j, h => by
    rw [List.length_cons] at h
    exact (fWr_ge (k + 1) l (by omega)).trans (wm_h1k (nbq (by omega)))
def gOp0 (N : ax_M) (k : Nat) (n w l mc pl : Int32) : ax_M := ax_si (ax_si (ax_si (ax_si (ax_si (ax_si (ax_si (ax_si N 63 k n) 64 k w) 65 k 0) 66 k l) 67 k 0) 69 k 0) 70 k mc) 71 k pl
/-- the reference's memory behind the opening of slot k -/
def gOpn (N : ax_M) (k : Nat) (n w l mc pl : Int32) (t : List Int32) : ax_M := fWr 72 (20 * k) t (gOp0 N k n w l mc pl)
section AX66
variable {s N : ax_M}
theorem gOp0_ne {k : Nat} {n w l mc pl : Int32} {o j : Nat} (h : (Nat.ble 63 o && Nat.ble o 71) = false) : ax_hi (gOp0 N k n w l mc pl) o j = ax_hi N o j := by
  have hn : ∀ a, (Nat.ble 63 a && Nat.ble a 71) = true → Nat.beq o a = false := fun a ha => nbq (fun z => by subst z; rw [h] at ha; exact absurd ha (by decide))
  unfold gOp0
  rw [wm_h1n (hn 71 rfl), wm_h1n (hn 70 rfl), wm_h1n (hn 69 rfl), wm_h1n (hn 67 rfl), wm_h1n (hn 66 rfl), wm_h1n (hn 65 rfl), wm_h1n (hn 64 rfl), wm_h1n (hn 63 rfl)]
theorem gOp0_q {k : Nat} {n w l mc pl : Int32} {o q : Nat} (h : q ≠ k) : ax_hi (gOp0 N k n w l mc pl) o q = ax_hi N o q := by
  have e : ∀ (X : ax_M) a v, ax_hi (ax_si X a k v) o q = ax_hi X o q := fun X a v => by rw [wm_h1, if_neg (fun z => h z.2)]
  unfold gOp0
  rw [e, e, e, e, e, e, e, e]
theorem fOpen_q {k : Nat} {n w : Int32} {om op o j : Nat} (h : o ≠ 50 + k) : ax_hi (fOpen s k n w om op) o j = ax_hi s o j ∧ ax_hr (fOpen s k n w om op) o j = ax_hr s o j := by
  unfold fOpen
  constructor
  · show ax_hi (ax_si (ax_si (ax_si (ax_si (ax_si (ax_si (ax_si (ax_si s (50 + k) 0 1) (50 + k) 1 n) (50 + k) 2 w) (50 + k) 3 0) (50 + k) 4 0) (50 + k) 5 0) (50 + k) 6 0) (50 + k) 7 (ax_hi s 30 2)) o j = _
    rw [wm_h1n (nbq h), wm_h1n (nbq h), wm_h1n (nbq h), wm_h1n (nbq h), wm_h1n (nbq h), wm_h1n (nbq h), wm_h1n (nbq h), wm_h1n (nbq h)]
  · rw [wm_r2n (nbq h), wm_r2n (nbq h)]; rfl
theorem fOpen_sm {A : Nat → Nat → Bool} {k : Nat} (hk : k < 4) {n w : Int32} {om op : Nat} (h0 : ∀ j, A 50 j = false) (h1 : ∀ j, A 51 j = false) (h2 : ∀ j, A 52 j = false) (h3 : ∀ j, A 53 j = false) : Sm A s (fOpen s k n w om op) := by
  have q : ∀ j, (Im (50 + k) || A (50 + k) j) = false := fun j => nR hk (by rw [h0]; rfl) (by rw [h1]; rfl) (by rw [h2]; rfl) (by rw [h3]; rfl)
  unfold fOpen
  exact ((((((((((Sm.si (q _)).st (q _)).st (q _)).st (q _)).st (q _)).st (q _)).st (q _)).st (q _)).trans (Sm.sr (q _))).trans (Sm.sr (q _)))
theorem ES.opn (h : ES s N) {k : Nat} (hk : k < 4) (hcl : ax_hi s (50 + k) 0 = 0) {m : Nat} (hm : 0 < m ∧ m < 256) (hno : ∀ i, i < 4 → ax_hi s (50 + i) 0 = 1 → ax_hi s (50 + i) 1 ≠ nI m) {w : Int32} {om op : Nat} {tm tp t : List Int32} (h1 : Stg s om tm) (h2 : Stg s op tp) (ht : t.length = 20) (htp : ∀ j, j < tp.length → t.getD j 0 = tp.getD j 0) :
    ES (fOpen s k (nI m) w om op) (gOpn N k (nI m) w (ax_hi s 30 2) (mcode tm) (nI tp.length) t) := by
  have sX : Sm (fun _ _ => false) s (fOpen s k (nI m) w om op) := fOpen_sm hk (fun _ => rfl) (fun _ => rfl) (fun _ => rfl) (fun _ => rfl)
  have own : ∀ j v, (j, v) ∈ [(0, (1 : Int32)), (1, nI m), (2, w), (3, 0), (4, 0), (5, 0), (6, 0), (7, ax_hi s 30 2)] → ax_hi (fOpen s k (nI m) w om op) (50 + k) j = v := by
    intro j v hv
    unfold fOpen
    show ax_hi (ax_si (ax_si (ax_si (ax_si (ax_si (ax_si (ax_si (ax_si s (50 + k) 0 1) (50 + k) 1 (nI m)) (50 + k) 2 w) (50 + k) 3 0) (50 + k) 4 0) (50 + k) 5 0) (50 + k) 6 0) (50 + k) 7 (ax_hi s 30 2)) (50 + k) j = v
    simp only [List.mem_cons, Prod.mk.injEq, List.not_mem_nil, or_false] at hv
    rcases hv with ⟨rfl, rfl⟩ | ⟨rfl, rfl⟩ | ⟨rfl, rfl⟩ | ⟨rfl, rfl⟩ | ⟨rfl, rfl⟩ | ⟨rfl, rfl⟩ | ⟨rfl, rfl⟩ | ⟨rfl, rfl⟩
    · rw [wm_h1k rfl, wm_h1k rfl, wm_h1k rfl, wm_h1k rfl, wm_h1k rfl, wm_h1k rfl, wm_h1k rfl, wm_h1s]
    · rw [wm_h1k rfl, wm_h1k rfl, wm_h1k rfl, wm_h1k rfl, wm_h1k rfl, wm_h1k rfl, wm_h1s]
    · rw [wm_h1k rfl, wm_h1k rfl, wm_h1k rfl, wm_h1k rfl, wm_h1k rfl, wm_h1s]
    · rw [wm_h1k rfl, wm_h1k rfl, wm_h1k rfl, wm_h1k rfl, wm_h1s]
    · rw [wm_h1k rfl, wm_h1k rfl, wm_h1k rfl, wm_h1s]
    · rw [wm_h1k rfl, wm_h1k rfl, wm_h1s]
    · rw [wm_h1k rfl, wm_h1s]
    · rw [wm_h1s]
  have n72 : ∀ o j, o ≠ 72 → ax_hi (gOpn N k (nI m) w (ax_hi s 30 2) (mcode tm) (nI tp.length) t) o j = ax_hi (gOp0 N k (nI m) w (ax_hi s 30 2) (mcode tm) (nI tp.length)) o j := fun o j ho => fWr_ne _ _ ho
  refine ⟨fun q hq => ?_, fun i j hi hj hij => ?_⟩
  · by_cases e : q = k
    · subst e
      right
      refine ⟨own 0 1 (by simp), ⟨m, hm.1, hm.2, own 1 _ (by simp), ?_⟩, ?_, ?_, ?_, ?_, ?_, ?_, Or.inl (own 6 0 (by simp)), ⟨0, by omega, own 3 0 (by simp)⟩, ⟨om, tm, ?_, h1.sm sX, ?_⟩, op, tp, ?_, h2.sm sX, h2.le, ?_, fun j hj => ?_⟩
      · rw [n72 _ _ (by decide)]; unfold gOp0; rw [wm_h1n rfl, wm_h1n rfl, wm_h1n rfl, wm_h1n rfl, wm_h1n rfl, wm_h1n rfl, wm_h1n rfl, wm_h1s]
      · rw [n72 _ _ (by decide), own 2 w (by simp)]; unfold gOp0; rw [wm_h1n rfl, wm_h1n rfl, wm_h1n rfl, wm_h1n rfl, wm_h1n rfl, wm_h1n rfl, wm_h1s]
      · rw [n72 _ _ (by decide), own 5 0 (by simp)]; unfold gOp0; rw [wm_h1n rfl, wm_h1n rfl, wm_h1n rfl, wm_h1n rfl, wm_h1n rfl, wm_h1s]
      · rw [n72 _ _ (by decide), own 7 (ax_hi s 30 2) (by simp)]; unfold gOp0; rw [wm_h1n rfl, wm_h1n rfl, wm_h1n rfl, wm_h1n rfl, wm_h1s]
      · rw [n72 _ _ (by decide), own 3 0 (by simp)]; unfold gOp0; rw [wm_h1n rfl, wm_h1n rfl, wm_h1n rfl, wm_h1s]
      · rw [own 3 0 (by simp)]; exact fun z => absurd z (by decide)
      · rw [n72 _ _ (by decide), own 6 0 (by simp)]; unfold gOp0; rw [wm_h1n rfl, wm_h1n rfl, wm_h1s]
      · unfold fOpen; rw [wm_r2, if_neg (by omega), wm_r2s]
      · rw [n72 _ _ (by decide)]; unfold gOp0; rw [wm_h1n rfl, wm_h1s]
      · unfold fOpen; rw [wm_r2s]
      · rw [n72 _ _ (by decide)]; unfold gOp0; rw [wm_h1s]
      · have hl := h2.le
        unfold gOpn
        rw [fWr_at _ _ (by omega)]; exact htp j hj
    · have oq : (50 + q) ≠ 50 + k := by omega
      rcases h.1 q hq with ⟨a1, b1⟩ | ⟨a1, b1⟩
      · exact Or.inl ⟨(fOpen_q oq).1.trans a1, by rw [n72 _ _ (by decide), gOp0_q e]; exact b1⟩
      · refine Or.inr ⟨(fOpen_q oq).1.trans a1, b1.ag (fun x => (fOpen_q oq).1) (fun x => (fOpen_q oq).2) sX (fun a _ ha => ?_) (fun x hx => ?_)⟩
        · have : a ≠ 72 := fun z => by subst z; exact absurd ha (by decide)
          rw [n72 _ _ this, gOp0_q e]
        · unfold gOpn
          rcases Nat.lt_or_ge q k with y | y
          · rw [fWr_lt _ _ (by omega), gOp0_ne rfl]
          · rw [fWr_ge _ _ (by omega), gOp0_ne rfl]
  · have val : ∀ q, q < 4 → ax_hi (fOpen s k (nI m) w om op) (50 + q) 0 = 1 → (q = k ∧ ax_hi (fOpen s k (nI m) w om op) (50 + q) 1 = nI m) ∨ (q ≠ k ∧ ax_hi s (50 + q) 0 = 1 ∧ ax_hi (fOpen s k (nI m) w om op) (50 + q) 1 = ax_hi s (50 + q) 1) := fun q hq hv => by
      by_cases e : q = k
      · subst e; exact Or.inl ⟨rfl, own 1 _ (by simp)⟩
      · have oq : (50 + q) ≠ 50 + k := by omega
        exact Or.inr ⟨e, (fOpen_q oq).1.symm.trans hv, (fOpen_q oq).1⟩
    intro z1 z2
    rcases val i hi z1 with ⟨a1, a2⟩ | ⟨a1, a2, a3⟩ <;> rcases val j hj z2 with ⟨b1, b2⟩ | ⟨b1, b2, b3⟩
    · omega
    · rw [a2, b3]; exact fun y => hno j hj b2 y.symm
    · rw [a3, b2]; exact hno i hi a2
    · rw [a3, b3]; exact h.2 i j hi hj hij a2 b2
end AX66
