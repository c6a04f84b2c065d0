/-! ONE INSTRUCTION as a function of the abstract machine, and what it does to the judgement -/
/-- an instruction: itself, two numbers (a field's class and slot), a constant -/
abbrev fwO : Type := Instr × Nat × Nat × Value
abbrev fwRes : Type := Option (List Prop × List (Option Value) × List Value × List fwE × fwS)
def fwAll : List Prop → Prop
  | [] => True
  | [a] => a
  | a :: b :: l => a ∧ fwAll (b :: l)
theorem fwAll_cons {a : Prop} {l : List Prop} (h : fwAll (a :: l)) : a ∧ fwAll l := by
  cases l with
  | nil => exact ⟨h, trivial⟩
  | cons b l => exact h
theorem fwAll_app : ∀ {a b : List Prop}, fwAll (a ++ b) → fwAll a ∧ fwAll b := by
  intro a
  induction a with
  | nil => intro b h; exact ⟨trivial, h⟩
  | cons x a ih =>
    intro b h
    obtain ⟨h1, h2⟩ := fwAll_cons h
    obtain ⟨h3, h4⟩ := ih h2
    refine ⟨?_, h4⟩
    cases a with
    | nil => exact h1
    | cons y a => exact ⟨h1, h3⟩
/-- an element of a table of constants -/
def fwTv (c : Nat) (j : Nat) : Int32 := match fwTb.find? (fun q => q.2.2.1 == c) with
  | some q => q.2.2.2.getD j 0
  | none => 0
def fwTn (c : Nat) : Nat := match fwTb.find? (fun q => q.2.2.1 == c) with
  | some q => q.2.2.2.length
  | none => 0
def fwStep (o : fwO) (ls : List (Option Value)) (st : List Value) (sh : List fwE) (σ : fwS) : fwRes := match o.1 with
  | .iconst _ => some ([], ls, o.2.2.2 :: st, sh, σ)
  | .bipush _ => some ([], ls, o.2.2.2 :: st, sh, σ)
  | .sipush _ => some ([], ls, o.2.2.2 :: st, sh, σ)
  | .lconst _ => some ([], ls, o.2.2.2 :: st, sh, σ)
  | .ldc _ => some ([], ls, o.2.2.2 :: st, sh, σ)
  | .ldc2_w _ => some ([], ls, o.2.2.2 :: st, sh, σ)
  | .iload_n k => (match ls[k.val]? with | some (some (.int x)) => some ([], ls, .int x :: st, sh, σ) | _ => none)
  | .iload k => (match ls[k]? with | some (some (.int x)) => some ([], ls, .int x :: st, sh, σ) | _ => none)
  | .lload_n k => (match ls[k.val]? with | some (some (.long x)) => some ([], ls, .long x :: st, sh, σ) | _ => none)
  | .lload k => (match ls[k]? with | some (some (.long x)) => some ([], ls, .long x :: st, sh, σ) | _ => none)
  | .aload_n k => (match ls[k.val]? with | some (some (.ref x)) => some ([], ls, .ref x :: st, sh, σ) | some (some (.retAddr x)) => some ([], ls, .retAddr x :: st, sh, σ) | _ => none)
  | .aload k => (match ls[k]? with | some (some (.ref x)) => some ([], ls, .ref x :: st, sh, σ) | some (some (.retAddr x)) => some ([], ls, .retAddr x :: st, sh, σ) | _ => none)
  | .istore_n k => (match st with | .int x :: r => if k.val < ls.length then some ([], fwSet1 ls k.val (.int x), r, sh, σ) else none | _ => none)
  | .istore k => (match st with | .int x :: r => if k < ls.length then some ([], fwSet1 ls k (.int x), r, sh, σ) else none | _ => none)
  | .lstore_n k => (match st with | .long x :: r => if k.val + 1 < ls.length then some ([], fwSet2 ls k.val (.long x), r, sh, σ) else none | _ => none)
  | .lstore k => (match st with | .long x :: r => if k + 1 < ls.length then some ([], fwSet2 ls k (.long x), r, sh, σ) else none | _ => none)
  | .astore_n k => (match st with | .ref x :: r => if k.val < ls.length then some ([], fwSet1 ls k.val (.ref x), r, sh, σ) else none | .retAddr x :: r => if k.val < ls.length then some ([], fwSet1 ls k.val (.retAddr x), r, sh, σ) else none | _ => none)
  | .astore k => (match st with | .ref x :: r => if k < ls.length then some ([], fwSet1 ls k (.ref x), r, sh, σ) else none | .retAddr x :: r => if k < ls.length then some ([], fwSet1 ls k (.retAddr x), r, sh, σ) else none | _ => none)
  | .iinc k _ => (match ls[k]?, o.2.2.2 with | some (some (.int x)), .int v => some ([], fwSet1 ls k (.int (x + v)), st, sh, σ) | _, _ => none)
  | .iadd => (match st with | .int y :: .int x :: r => some ([], ls, .int (x + y) :: r, sh, σ) | _ => none)
  | .isub => (match st with | .int y :: .int x :: r => some ([], ls, .int (x - y) :: r, sh, σ) | _ => none)
  | .imul => (match st with | .int y :: .int x :: r => some ([], ls, .int (x * y) :: r, sh, σ) | _ => none)
  | .iand => (match st with | .int y :: .int x :: r => some ([], ls, .int (x &&& y) :: r, sh, σ) | _ => none)
  | .ior => (match st with | .int y :: .int x :: r => some ([], ls, .int (x ||| y) :: r, sh, σ) | _ => none)
  | .ixor => (match st with | .int y :: .int x :: r => some ([], ls, .int (x ^^^ y) :: r, sh, σ) | _ => none)
  | .idiv => (match st with | .int y :: .int x :: r => some ([¬ y = 0], ls, .int (x / y) :: r, sh, σ) | _ => none)
  | .irem => (match st with | .int y :: .int x :: r => some ([¬ y = 0], ls, .int (x - x / y * y) :: r, sh, σ) | _ => none)
  | .ineg => (match st with | .int x :: r => some ([], ls, .int (-x) :: r, sh, σ) | _ => none)
  | .ishl => (match st with | .int y :: .int x :: r => some ([], ls, .int (x <<< (y &&& 31)) :: r, sh, σ) | _ => none)
  | .ishr => (match st with | .int y :: .int x :: r => some ([], ls, .int (x >>> (y &&& 31)) :: r, sh, σ) | _ => none)
  | .ladd => (match st with | .long y :: .long x :: r => some ([], ls, .long (x + y) :: r, sh, σ) | _ => none)
  | .lmul => (match st with | .long y :: .long x :: r => some ([], ls, .long (x * y) :: r, sh, σ) | _ => none)
  | .lcmp => (match st with | .long y :: .long x :: r => some ([], ls, .int (lg_cmp x y) :: r, sh, σ) | _ => none)
  | .i2l => (match st with | .int x :: r => some ([], ls, .long x.toInt64 :: r, sh, σ) | _ => none)
  | .l2i => (match st with | .long x :: r => some ([], ls, .int x.toInt32 :: r, sh, σ) | _ => none)
  | .i2b => (match st with | .int x :: r => some ([], ls, .int x.toInt8.toInt32 :: r, sh, σ) | _ => none)
  | .i2c => (match st with | .int x :: r => some ([], ls, .int (x.toUInt32 % 65536).toInt32 :: r, sh, σ) | _ => none)
  | .dup => (match st with | v :: r => if v.category = 1 then some ([], ls, v :: v :: r, sh, σ) else none | _ => none)
  | .dup_x1 => (match st with | v :: w :: r => if v.category = 1 ∧ w.category = 1 then some ([], ls, v :: w :: v :: r, sh, σ) else none | _ => none)
  | .dup2 => (match st with | v :: w :: r => if v.category = 1 ∧ w.category = 1 then some ([], ls, v :: w :: v :: w :: r, sh, σ) else none | _ => none)
  | .pop => (match st with | v :: r => if v.category = 1 then some ([], ls, r, sh, σ) else none | _ => none)
  | .getstatic _ => some ([], ls, o.2.2.2 :: st, sh, σ)
  | .getfield _ => (match st with
    | .retAddr c :: r => if o.2.1 = 999 ∧ c < fwNs then (if o.2.2.1 = 0 then some ([], ls, .retAddr (c + 1000) :: r, sh, σ) else some ([], ls, .int 0 :: r, sh, σ)) else none
    | .ref i :: r => (match sh[i]? with
      | some (.inr (ci, ts)) => if ci = o.2.1 ∧ ¬ o.2.1 = 999 then (match ts[o.2.2.1]? with | some t => some ([], ls, fwGv σ i o.2.2.1 t :: r, sh, σ) | none => none) else none
      | _ => none)
    | _ => none)
  | .putfield _ => (match st with
    | .int x :: .ref i :: r => (match sh[i]? with
      | some (.inr (ci, ts)) => if ci = o.2.1 then (match ts[o.2.2.1]?, fwTyOf o.2.1 o.2.2.1 with
        | some (.int _), .int => some ([], ls, r, sh, fwI σ i o.2.2.1 x)
        | some (.int _), .boolean => some ([x = 0 ∨ x = 1], ls, r, sh, fwI σ i o.2.2.1 x)
        | _, _ => none) else none
      | _ => none)
    | .long x :: .ref i :: r => (match sh[i]? with
      | some (.inr (ci, ts)) => if ci = o.2.1 then (match ts[o.2.2.1]?, fwTyOf o.2.1 o.2.2.1 with
        | some (.long _), .long => some ([], ls, r, sh, fwL σ i o.2.2.1 x)
        | _, _ => none) else none
      | _ => none)
    | _ => none)
  | .arraylength => (match st with
    | .retAddr c :: r => if c < 1000 then none else if c - 1000 < fwNs then some ([], ls, .int (Int32.ofNat (fwSl.getD (c - 1000) 0)) :: r, sh, σ) else none
    | .ref i :: r => (match sh[i]? with
      | some (.inl (ty, n)) => if ty ∈ fwAT then some ([], ls, .int (Int32.ofNat n) :: r, sh, σ) else none
      | _ => none)
    | _ => none)
  | .iaload => (match st with
    | .int j :: .ref i :: r => (match sh[i]? with
      | some (.inl (.int, n)) => some ([vp_in j n], ls, .int (σ.1 i j.toNatClampNeg) :: r, sh, σ)
      | _ => none)
    | .int j :: .retAddr c :: r => some ([vp_in j (fwTn c)], ls, .int (fwTv c j.toNatClampNeg) :: r, sh, σ)
    | _ => none)
  | .baload => (match st with
    | .int j :: .retAddr c :: r => if c < 1000 then none else if c - 1000 < fwNs then some ([vp_in j (fwSl.getD (c - 1000) 0)], ls, .int ((fwSb.getD (c - 1000) []).getD j.toNatClampNeg 0) :: r, sh, σ) else none
    | .int j :: .ref i :: r => (match sh[i]? with
      | some (.inl (.byte, n)) => some ([vp_in j n], ls, .int (σ.1 i j.toNatClampNeg) :: r, sh, σ)
      | some (.inl (.boolean, n)) => some ([vp_in j n], ls, .int (σ.1 i j.toNatClampNeg) :: r, sh, σ)
      | _ => none)
    | _ => none)
  | .laload => (match st with
    | .int j :: .ref i :: r => (match sh[i]? with
      | some (.inl (.long, n)) => some ([vp_in j n], ls, .long (σ.2 i j.toNatClampNeg) :: r, sh, σ)
      | _ => none)
    | _ => none)
  | .iastore => (match st with
    | .int x :: .int j :: .ref i :: r => (match sh[i]? with
      | some (.inl (.int, n)) => some ([vp_in j n], ls, r, sh, fwI σ i j.toNatClampNeg x)
      | _ => none)
    | _ => none)
  | .bastore => (match st with
    | .int x :: .int j :: .ref i :: r => (match sh[i]? with
      | some (.inl (.byte, n)) => some ([vp_in j n], ls, r, sh, fwI σ i j.toNatClampNeg x.toInt8.toInt32)
      | some (.inl (.boolean, n)) => some ([vp_in j n], ls, r, sh, fwI σ i j.toNatClampNeg (x &&& 1))
      | _ => none)
    | _ => none)
  | .lastore => (match st with
    | .long x :: .int j :: .ref i :: r => (match sh[i]? with
      | some (.inl (.long, n)) => some ([vp_in j n], ls, r, sh, fwL σ i j.toNatClampNeg x)
      | _ => none)
    | _ => none)
  | _ => none
/-- how long an instruction is -/
def fwLen (i : Instr) : Nat := match i with
  | .bipush _ => 2 | .sipush _ => 3 | .ldc _ => 2 | .ldc2_w _ => 3
  | .iload _ => 2 | .lload _ => 2 | .aload _ => 2 | .istore _ => 2 | .lstore _ => 2 | .astore _ => 2 | .iinc _ _ => 3
  | .getfield _ => 3 | .putfield _ => 3 | .getstatic _ => 3
  | _ => 1
/-- what a program checks of an instruction: its constant, its field's link -/
def fwChk (own : String) (o : fwO) : Bool := match o.1 with
  | .iconst n => decide (o.2.2.2 = .int (Int32.ofInt n))
  | .bipush n => decide (o.2.2.2 = .int (Int8.ofInt n).toInt32)
  | .sipush n => decide (o.2.2.2 = .int (Int16.ofInt n).toInt32)
  | .lconst n => decide (o.2.2.2 = .long (Int64.ofNat n.val))
  | .iinc _ n => decide (o.2.2.2 = .int (Int32.ofInt n))
  | .ldc i => (match o.2.2.2 with
    | .int v => decide (fwKc[o.2.1]? = some (own, i, v))
    | .retAddr c => (match fwSr[o.2.1]? with | some q => decide (q.1 = own ∧ q.2.1 = i ∧ q.2.2.2 = c) | none => false)
    | _ => false)
  | .ldc2_w i => (match o.2.2.2 with
    | .long v => decide (fwLc[o.2.1]? = some (own, i, v))
    | _ => false)
  | .getfield i => (match o.2.2.2 with | .retAddr p => if o.2.1 = 999 then decide (fwSf[p]? = some (own, i, o.2.2.1)) else decide (fwFl[p]? = some (own, i, o.2.1, o.2.2.1)) | _ => false)
  | .getstatic i => (match o.2.2.2 with
    | .retAddr c => decide (fwSg[o.2.1]? = some (own, i, o.2.2.1)) && decide ((fwTb.getD o.2.2.1 ("", "", 0, [])).2.2.1 = c)
    | .int v => decide (fwSn[o.2.1]? = some (own, i, o.2.2.1)) && decide ((fwSi.getD o.2.2.1 ("", "", "", 0)).2.2.2 = v)
    | _ => false)
  | .putfield i => (match o.2.2.2 with | .retAddr p => decide (fwFl[p]? = some (own, i, o.2.1, o.2.2.1)) && decide (((fwCl.getD o.2.1 fwC_0).2.1 o.2.2.1).2.2.2 = false) | _ => false)
  | _ => true
