/-! THE SMALL MACHINE: values, memory, what an instruction asks of what comes behind it. Places (ids) are numbers; where they lie in the heap is a map that stays. -/
abbrev ax_V : Type := Int32 ⊕ (Option Nat ⊕ Int64)
abbrev ax_L : Type := List (Nat × ax_V)
/-- tags, lengths, numbers, references, longs, how many places -/
abbrev ax_M : Type := (Nat → Nat) × (Nat → Nat) × (Nat → Nat → Int32) × (Nat → Nat → Option Nat) × (Nat → Nat → Int64) × Nat
def ax_tg (M : ax_M) : Nat → Nat := M.1
def ax_ln (M : ax_M) : Nat → Nat := M.2.1
def ax_hi (M : ax_M) : Nat → Nat → Int32 := M.2.2.1
def ax_hr (M : ax_M) : Nat → Nat → Option Nat := M.2.2.2.1
def ax_hl (M : ax_M) : Nat → Nat → Int64 := M.2.2.2.2.1
def ax_n (M : ax_M) : Nat := M.2.2.2.2.2
def ax_u {α : Type} (f : Nat → Nat → α) (o k : Nat) (v : α) : Nat → Nat → α := fun o' k' => if o' = o ∧ k' = k then v else f o' k'
def ax_si (M : ax_M) (o k : Nat) (v : Int32) : ax_M := (M.1, M.2.1, ax_u M.2.2.1 o k v, M.2.2.2)
def ax_sr (M : ax_M) (o k : Nat) (v : Option Nat) : ax_M := (M.1, M.2.1, M.2.2.1, ax_u M.2.2.2.1 o k v, M.2.2.2.2)
def ax_sl (M : ax_M) (o k : Nat) (v : Int64) : ax_M := (M.1, M.2.1, M.2.2.1, M.2.2.2.1, ax_u M.2.2.2.2.1 o k v, M.2.2.2.2.2)
/-- a new place of this tag and length, all 0 and null -/
def ax_new (M : ax_M) (t len : Nat) : ax_M :=
  (fun o => if o = ax_n M then t else M.1 o, fun o => if o = ax_n M then len else M.2.1 o, fun o k => if o = ax_n M then 0 else M.2.2.1 o k,
    fun o k => if o = ax_n M then none else M.2.2.2.1 o k, fun o k => if o = ax_n M then 0 else M.2.2.2.2.1 o k, ax_n M + 1)
/-- part of an array of numbers over part of another (or of itself) -/
def ax_cp (M : ax_M) (o o2 sp dp n : Nat) : ax_M := (M.1, M.2.1, fun q k => if q = o2 then va_cpy (M.2.2.1 o) (M.2.2.1 o2) sp dp n k else M.2.2.1 q k, M.2.2.2)
/-- a method's end: it returned (none: void), or threw an exception of this number -/
abbrev ax_O : Type := Option ax_V ⊕ Nat
/-- calls: method, cells and slots that it may make, arguments, memory, end, memory behind -/
abbrev ax_C : Type := Nat → Nat → Nat → List ax_V → ax_M → ax_O → ax_M → Prop
/-- a row of code: pc, instruction, four numbers (what its links come to; the last: the link's place among the words) -/
abbrev ax_R : Type := Nat × Instr × Nat × Nat × Nat × Nat
/-- what goes on: locals, stack, memory, cells and slots left -/
abbrev ax_K : Type := ax_L → List ax_V → ax_M → Nat → Nat → Prop
def ax_1i (st : List ax_V) (f : Int32 → List ax_V → Prop) : Prop := match st with
  | .inl x :: st => f x st
  | _ => False
def ax_2i (st : List ax_V) (f : Int32 → Int32 → List ax_V → Prop) : Prop := match st with
  | .inl y :: .inl x :: st => f x y st
  | _ => False
def ax_1r (st : List ax_V) (f : Option Nat → List ax_V → Prop) : Prop := match st with
  | .inr (.inl r) :: st => f r st
  | _ => False
def ax_2r (st : List ax_V) (f : Option Nat → Option Nat → List ax_V → Prop) : Prop := match st with
  | .inr (.inl y) :: .inr (.inl x) :: st => f x y st
  | _ => False
def ax_1o (st : List ax_V) (f : Nat → List ax_V → Prop) : Prop := match st with
  | .inr (.inl (some o)) :: st => f o st
  | _ => False
def ax_io (st : List ax_V) (f : Nat → Int32 → List ax_V → Prop) : Prop := match st with
  | .inl i :: .inr (.inl (some o)) :: st => f o i st
  | _ => False
def ax_iio (st : List ax_V) (f : Nat → Int32 → Int32 → List ax_V → Prop) : Prop := match st with
  | .inl x :: .inl i :: .inr (.inl (some o)) :: st => f o i x st
  | _ => False
def ax_rio (st : List ax_V) (f : Nat → Int32 → Nat → List ax_V → Prop) : Prop := match st with
  | .inr (.inl (some v)) :: .inl i :: .inr (.inl (some o)) :: st => f o i v st
  | _ => False
def ax_lio (st : List ax_V) (f : Nat → Int32 → Int64 → List ax_V → Prop) : Prop := match st with
  | .inr (.inr x) :: .inl i :: .inr (.inl (some o)) :: st => f o i x st
  | _ => False
def ax_2l (st : List ax_V) (f : Int64 → Int64 → List ax_V → Prop) : Prop := match st with
  | .inr (.inr y) :: .inr (.inr x) :: st => f x y st
  | _ => False
def ax_iO (st : List ax_V) (f : Nat → Int32 → List ax_V → Prop) : Prop := match st with
  | .inl x :: .inr (.inl (some o)) :: st => f o x st
  | _ => False
def ax_rO (st : List ax_V) (f : Nat → Option Nat → List ax_V → Prop) : Prop := match st with
  | .inr (.inl r) :: .inr (.inl (some o)) :: st => f o r st
  | _ => False
/-- a value of one word -/
def ax_c1 : ax_V → Bool
  | .inr (.inr _) => false
  | _ => true
def ax_w : ax_V → Nat
  | .inr (.inr _) => 2
  | _ => 1
def ax_1c (st : List ax_V) (f : ax_V → List ax_V → Prop) : Prop := match st with
  | v :: st => ax_c1 v = true ∧ f v st
  | _ => False
def ax_2c (st : List ax_V) (f : ax_V → ax_V → List ax_V → Prop) : Prop := match st with
  | y :: x :: st => ax_c1 y = true ∧ ax_c1 x = true ∧ f x y st
  | _ => False
def ax_ld (lv : ax_L) (i : Nat) : Option ax_V := (lv.find? (fun q => q.1 == i)).map (fun q => q.2)
def ax_st (lv : ax_L) (i : Nat) (v : ax_V) : ax_L := (i, v) :: lv.filter (fun q => !(q.1 == i))
def ax_ldi (lv : ax_L) (i : Nat) (f : Int32 → Prop) : Prop := match ax_ld lv i with
  | some (.inl x) => f x
  | _ => False
def ax_ldr (lv : ax_L) (i : Nat) (f : Option Nat → Prop) : Prop := match ax_ld lv i with
  | some (.inr (.inl r)) => f r
  | _ => False
/-- which array a tag stands for: its type (own ones 100 .. 199, those that are only read 200 .. 299) -/
def ax_own (M : ax_M) (o t : Nat) : Prop := o < ax_n M ∧ ax_tg M o = t
def ax_rd (M : ax_M) (o t : Nat) : Prop := o < ax_n M ∧ (ax_tg M o = 100 + t ∨ ax_tg M o = 200 + t)
/-- the receiver of a call: an object of class ci (0: String, its constants too) -/
def ax_rc (M : ax_M) (ci : Nat) (v : Option ax_V) : Prop := match v with
  | some (.inr (.inl (some o))) => o < ax_n M ∧ (ax_tg M o = ci ∨ ci = 0 ∧ ax_tg M o = 300)
  | _ => False
def ax_cl1 (C : ax_C) (nx : ax_K) (j n : Nat) (lv : ax_L) (st : List ax_V) (M : ax_M) (rc rs : Nat) : Prop :=
  n ≤ st.length ∧ ((st.drop n).map ax_w).sum ≤ 8 ∧ ∃ (c' s' : Nat) (o : Option ax_V) (M' : ax_M), c' ≤ rc ∧ s' ≤ rs ∧ C j c' s' (st.take n).reverse M (.inl o) M' ∧ nx lv (o.toList ++ st.drop n) M' (rc - c') (rs - s')
/-- a stretch of an array of ours into another, or into itself -/
def ax_cpy (nx : ax_K) (lv : ax_L) (st : List ax_V) (M : ax_M) (rc rs : Nat) : Prop := match st with
  | .inl n :: .inl dp :: .inr (.inl (some o2)) :: .inl sp :: .inr (.inl (some o)) :: st => (st.map ax_w).sum ≤ 8 ∧ ax_own M o (ax_tg M o2) ∧ o2 < ax_n M ∧ (ax_tg M o2 = 100 ∨ ax_tg M o2 = 102) ∧ ¬ sp < 0 ∧ ¬ dp < 0 ∧ ¬ n < 0 ∧
    sp.toNatClampNeg + n.toNatClampNeg ≤ ax_ln M o ∧ dp.toNatClampNeg + n.toNatClampNeg ≤ ax_ln M o2 ∧ (ax_tg M o2 = 102 → ∀ i, i < n.toNatClampNeg → fits .byte (.int (ax_hi M o (sp.toNatClampNeg + i))) = true) ∧
    nx lv st (ax_cp M o o2 sp.toNatClampNeg dp.toNatClampNeg n.toNatClampNeg) rc rs
  | _ => False
/-- what an instruction asks: rt: the method's answer; nx: what the next one asks, jm: what the one at a pc asks -/
def ax_ins (C : ax_C) (Q : ax_O → ax_M → Prop) (rt : Option FieldType) (nx : ax_K) (jm : Nat → ax_K) (pc a b c : Nat) (lv : ax_L) (st : List ax_V) (M : ax_M) (rc rs : Nat) : Instr → Prop
  | .iconst i => nx lv (.inl (Int32.ofInt i) :: st) M rc rs
  | .bipush i => nx lv (.inl (Int8.ofInt i).toInt32 :: st) M rc rs
  | .sipush i => nx lv (.inl (Int16.ofInt i).toInt32 :: st) M rc rs
  | .ldc _ => if c = 0 then nx lv (.inl (Int32.ofNat a) :: st) M rc rs else nx lv (.inr (.inl (some b)) :: st) M rc rs
  | .ldc_w _ => if c = 0 then nx lv (.inl (Int32.ofNat a) :: st) M rc rs else nx lv (.inr (.inl (some b)) :: st) M rc rs
  | .aconst_null => nx lv (.inr (.inl none) :: st) M rc rs
  | .iload_n k => ax_ldi lv k.val fun x => nx lv (.inl x :: st) M rc rs
  | .iload k => ax_ldi lv k fun x => nx lv (.inl x :: st) M rc rs
  | .aload_n k => ax_ldr lv k.val fun x => nx lv (.inr (.inl x) :: st) M rc rs
  | .aload k => ax_ldr lv k fun x => nx lv (.inr (.inl x) :: st) M rc rs
  | .istore_n k => ax_1i st fun x st => nx (ax_st lv k.val (.inl x)) st M rc rs
  | .istore k => ax_1i st fun x st => nx (ax_st lv k (.inl x)) st M rc rs
  | .astore_n k => ax_1r st fun x st => nx (ax_st lv k.val (.inr (.inl x))) st M rc rs
  | .astore k => ax_1r st fun x st => nx (ax_st lv k (.inr (.inl x))) st M rc rs
  | .iinc k n => ax_ldi lv k fun x => nx (ax_st lv k (.inl (x + Int32.ofInt n))) st M rc rs
  | .iadd => ax_2i st fun x y st => nx lv (.inl (x + y) :: st) M rc rs
  | .isub => ax_2i st fun x y st => nx lv (.inl (x - y) :: st) M rc rs
  | .imul => ax_2i st fun x y st => nx lv (.inl (x * y) :: st) M rc rs
  | .idiv => ax_2i st fun x y st => ¬ y = 0 ∧ nx lv (.inl (x / y) :: st) M rc rs
  | .irem => ax_2i st fun x y st => ¬ y = 0 ∧ nx lv (.inl (x - (x / y) * y) :: st) M rc rs
  | .iand => ax_2i st fun x y st => nx lv (.inl (x &&& y) :: st) M rc rs
  | .ior => ax_2i st fun x y st => nx lv (.inl (x ||| y) :: st) M rc rs
  | .ineg => ax_1i st fun x st => nx lv (.inl (-x) :: st) M rc rs
  | .ishl => ax_2i st fun x y st => nx lv (.inl (x <<< (y &&& 31)) :: st) M rc rs
  | .ishr => ax_2i st fun x y st => nx lv (.inl (x >>> (y &&& 31)) :: st) M rc rs
  | .iushr => ax_2i st fun x y st => nx lv (.inl (x.toUInt32 >>> (y.toUInt32 &&& Int32.toUInt32 31)).toInt32 :: st) M rc rs
  | .i2c => ax_1i st fun x st => nx lv (.inl (x.toUInt32 % 65536).toInt32 :: st) M rc rs
  | .i2b => ax_1i st fun x st => nx lv (.inl x.toInt8.toInt32 :: st) M rc rs
  | .i2l => ax_1i st fun x st => nx lv (.inr (.inr x.toInt64) :: st) M rc rs
  | .lcmp => ax_2l st fun x y st => nx lv (.inl (lg_cmp x y) :: st) M rc rs
  | .dup => ax_1c st fun v st => nx lv (v :: v :: st) M rc rs
  | .dup2 => ax_2c st fun x y st => nx lv (y :: x :: y :: x :: st) M rc rs
  | .dup_x1 => ax_2c st fun x y st => nx lv (y :: x :: y :: st) M rc rs
  | .pop => ax_1c st fun _ st => nx lv st M rc rs
  | .goto _ => jm a lv st M rc rs
  | .ifCond .eq _ => ax_1i st fun x st => if x = 0 then jm a lv st M rc rs else nx lv st M rc rs
  | .ifCond .ne _ => ax_1i st fun x st => if x = 0 then nx lv st M rc rs else jm a lv st M rc rs
  | .ifCond .lt _ => ax_1i st fun x st => if x < 0 then jm a lv st M rc rs else nx lv st M rc rs
  | .ifCond .ge _ => ax_1i st fun x st => if 0 ≤ x then jm a lv st M rc rs else nx lv st M rc rs
  | .ifCond .gt _ => ax_1i st fun x st => if 0 < x then jm a lv st M rc rs else nx lv st M rc rs
  | .ifCond .le _ => ax_1i st fun x st => if x ≤ 0 then jm a lv st M rc rs else nx lv st M rc rs
  | .if_icmp .eq _ => ax_2i st fun x y st => if x = y then jm a lv st M rc rs else nx lv st M rc rs
  | .if_icmp .ne _ => ax_2i st fun x y st => if x = y then nx lv st M rc rs else jm a lv st M rc rs
  | .if_icmp .lt _ => ax_2i st fun x y st => if x < y then jm a lv st M rc rs else nx lv st M rc rs
  | .if_icmp .ge _ => ax_2i st fun x y st => if y ≤ x then jm a lv st M rc rs else nx lv st M rc rs
  | .if_icmp .gt _ => ax_2i st fun x y st => if y < x then jm a lv st M rc rs else nx lv st M rc rs
  | .if_icmp .le _ => ax_2i st fun x y st => if x ≤ y then jm a lv st M rc rs else nx lv st M rc rs
  | .if_acmp .ne _ => ax_2r st fun x y st => x ≠ some 25 ∧ y ≠ some 25 ∧ if x = y then nx lv st M rc rs else jm a lv st M rc rs
  | .ifnull _ => ax_1r st fun r st => if r = none then jm a lv st M rc rs else nx lv st M rc rs
  | .ifnonnull _ => ax_1r st fun r st => if r = none then nx lv st M rc rs else jm a lv st M rc rs
  | .tableswitch dflt lo hi offs => ax_1i st fun x st => if x.toInt < lo ∨ hi < x.toInt then 0 ≤ (pc : Int) + dflt ∧ jm ((pc : Int) + dflt).toNat lv st M rc rs else match offs[(x.toInt - lo).toNat]? with
    | some off => 0 ≤ (pc : Int) + off ∧ jm ((pc : Int) + off).toNat lv st M rc rs
    | none => False
  | .getfield _ => ax_1o st fun o st => (ax_own M o a ∨ a = 0 ∧ b ≤ 1 ∧ ax_own M o 300) ∧ nx lv ((if c = 1 then .inr (.inl (ax_hr M o b)) else .inl (ax_hi M o b)) :: st) M rc rs
  | .putfield _ => if c = 1 then ax_rO st fun o r st => ax_own M o a ∧ nx lv st (ax_sr M o b r) rc rs
      else ax_iO st fun o x st => ax_own M o a ∧ narrow (ax_ty a b) (.int x) = .int x ∧ fits (ax_ty a b) (.int x) = true ∧ nx lv st (ax_si M o b x) rc rs
  | .getstatic _ => if c = 0 then nx lv (.inl (Int32.ofNat a) :: st) M rc rs else if c = 1 then nx lv (.inr (.inl (some b)) :: st) M rc rs else nx lv (.inr (.inl (ax_hr M 0 0)) :: st) M rc rs
  | .arraylength => ax_1o st fun o st => o < ax_n M ∧ 100 ≤ ax_tg M o ∧ ax_tg M o < 210 ∧ nx lv (.inl (Int32.ofNat (ax_ln M o)) :: st) M rc rs
  | .iaload => ax_io st fun o i st => ax_rd M o 0 ∧ vp_in i (ax_ln M o) ∧ nx lv (.inl (ax_hi M o i.toNatClampNeg) :: st) M rc rs
  | .caload => ax_io st fun o i st => ax_own M o 101 ∧ vp_in i (ax_ln M o) ∧ nx lv (.inl (ax_hi M o i.toNatClampNeg) :: st) M rc rs
  | .baload => ax_io st fun o i st => (ax_rd M o 2 ∨ ax_own M o 103) ∧ vp_in i (ax_ln M o) ∧ nx lv (.inl (ax_hi M o i.toNatClampNeg) :: st) M rc rs
  | .laload => ax_io st fun o i st => ax_own M o 104 ∧ vp_in i (ax_ln M o) ∧ nx lv (.inr (.inr (ax_hl M o i.toNatClampNeg)) :: st) M rc rs
  | .aaload => ax_io st fun o i st => (∃ ci, (ci = 4 ∨ ci = 8 ∨ ci = 11) ∧ ax_own M o (110 + ci)) ∧ vp_in i (ax_ln M o) ∧ nx lv (.inr (.inl (ax_hr M o i.toNatClampNeg)) :: st) M rc rs
  | .iastore => ax_iio st fun o i x st => ax_own M o 100 ∧ vp_in i (ax_ln M o) ∧ nx lv st (ax_si M o i.toNatClampNeg x) rc rs
  | .castore => ax_iio st fun o i x st => ax_own M o 101 ∧ vp_in i (ax_ln M o) ∧ nx lv st (ax_si M o i.toNatClampNeg (vp_nar .char x)) rc rs
  | .bastore => ax_iio st fun o i x st => vp_in i (ax_ln M o) ∧ if c = 1 then ax_own M o 103 ∧ nx lv st (ax_si M o i.toNatClampNeg (vp_nar .boolean x)) rc rs else ax_own M o 102 ∧ nx lv st (ax_si M o i.toNatClampNeg (vp_nar .byte x)) rc rs
  | .lastore => ax_lio st fun o i x st => ax_own M o 104 ∧ vp_in i (ax_ln M o) ∧ nx lv st (ax_sl M o i.toNatClampNeg x) rc rs
  | .aastore => ax_rio st fun o i v st => (∃ ci, (ci = 4 ∨ ci = 8 ∨ ci = 11) ∧ ax_own M o (110 + ci) ∧ ax_own M v ci) ∧ vp_in i (ax_ln M o) ∧ nx lv st (ax_sr M o i.toNatClampNeg (some v)) rc rs
  | .new _ => if c = 9 then 1 ≤ rc ∧ 6 ≤ rs ∧ (st.map ax_w).sum ≤ 8 ∧ Q (.inr a) (ax_new M 400 0) else 1 ≤ rc ∧ b ≤ rs ∧ nx lv (.inr (.inl (some (ax_n M))) :: st) (ax_new M a 0) (rc - 1) (rs - b)
  | .newarray _ => ax_1i st fun x st => ¬ x < 0 ∧ x.toNatClampNeg ≤ 60000000 ∧ 1 ≤ rc ∧ x.toNatClampNeg ≤ rs ∧ nx lv (.inr (.inl (some (ax_n M))) :: st) (ax_new M a x.toNatClampNeg) (rc - 1) (rs - x.toNatClampNeg)
  | .anewarray _ => ax_1i st fun x st => ¬ x < 0 ∧ x.toNatClampNeg ≤ 60000000 ∧ 1 ≤ rc ∧ x.toNatClampNeg ≤ rs ∧ nx lv (.inr (.inl (some (ax_n M))) :: st) (ax_new M a x.toNatClampNeg) (rc - 1) (rs - x.toNatClampNeg)
  | .instanceof _ => ax_rc M 0 st.head? ∧ nx lv (.inl 1 :: st.tail) M rc rs
  | .checkcast _ => ax_rc M 0 st.head? ∧ nx lv st M rc rs
  | .ireturn => ax_1i st fun x st => st = [] ∧ (∃ ty, rt = some ty ∧ narrow ty (.int x) = .int x) ∧ Q (.inl (some (.inl x))) M
  | .areturn => ax_1r st fun r st => st = [] ∧ Q (.inl (some (.inr (.inl r)))) M
  | .return_ => st = [] ∧ Q (.inl none) M
  | .invokestatic _ => if c = 6 then ax_2i st fun x y st => (st.map ax_w).sum ≤ 8 ∧ nx lv (.inl (if x < y then y else x) :: st) M rc rs
      else if c = 7 then ax_2i st fun x y st => (st.map ax_w).sum ≤ 8 ∧ nx lv (.inl (if y < x then y else x) :: st) M rc rs
      else if c = 8 then ax_cpy nx lv st M rc rs
      else ax_cl1 C nx a b lv st M rc rs
  | .invokevirtual _ => ax_rc M c (st[b - 1]?) ∧ ax_cl1 C nx a b lv st M rc rs
  | .invokespecial _ => if c = 5 then ax_1o st fun _ st => (st.map ax_w).sum ≤ 8 ∧ nx lv st M rc rs else if c = 11 then ax_rc M 1 (st[b - 1]?) ∧ ax_cl1 C nx a b lv st M rc rs else (∃ o, st[b - 1]? = some (.inr (.inl (some o)))) ∧ ax_cl1 C nx a b lv st M rc rs
  | _ => False
/-- the code from a pc on -/
def ax_at (cod : List ax_R) (pc : Nat) : List ax_R := cod.dropWhile (fun r => !(r.1 == pc))
/-- what a stretch of code asks, within k instructions -/
def ax_wp (C : ax_C) (cod : List ax_R) (Q : ax_O → ax_M → Prop) (rt : Option FieldType) : Nat → List ax_R → ax_K
  | 0, _ => fun _ _ _ _ _ => False
  | _ + 1, [] => fun _ _ _ _ _ => False
  | k + 1, r :: rest => fun lv st M rc rs => if r.2.2.2.2.1 = 99 then False else ax_ins C Q rt (ax_wp C cod Q rt k rest) (fun t => ax_wp C cod Q rt k (ax_at cod t)) r.1 r.2.2.1 r.2.2.2.1 r.2.2.2.2.1 lv st M rc rs r.2.1
