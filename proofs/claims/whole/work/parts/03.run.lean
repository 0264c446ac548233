/-! what an instruction does -/
def jOp (i : Instr) (a b c : Nat) (ls st : List Value) (h : jM) : jO := match i with
  | .iconst n => jPush (.int (Int32.ofInt n)) ls st h
  | .bipush n => jPush (.int (Int8.ofInt n).toInt32) ls st h
  | .sipush n => jPush (.int (Int16.ofInt n).toInt32) ls st h
  | .lconst n => jPush (.long (Int64.ofNat (n : Nat))) ls st h
  | .ldc _ => if b = 1 then jPush (.ref 1001) ls st h else jPush (.int (jCI.getD a 0)) ls st h
  | .ldc_w _ => jPush (.int (jCI.getD a 0)) ls st h
  | .ldc2_w _ => jPush (.long (jCL.getD a 0)) ls st h
  | .iload i => jLdi i ls st h
  | .iload_n i => jLdi i ls st h
  | .lload i => jLdl i ls st h
  | .lload_n i => jLdl i ls st h
  | .aload i => jLda i ls st h
  | .aload_n i => jLda i ls st h
  | .istore i => jSti i ls st h
  | .istore_n i => jSti i ls st h
  | .lstore i => jStl i ls st h
  | .lstore_n i => jStl i ls st h
  | .astore i => jSta i ls st h
  | .astore_n i => jSta i ls st h
  | .iinc i n => jInc i n ls st h
  | .iadd => jB2 (fun x y => x + y) ls st h
  | .isub => jB2 (fun x y => x - y) ls st h
  | .imul => jB2 (fun x y => x * y) ls st h
  | .iand => jB2 (fun x y => x &&& y) ls st h
  | .ior => jB2 (fun x y => x ||| y) ls st h
  | .ixor => jB2 (fun x y => x ^^^ y) ls st h
  | .ishl => jB2 (fun x y => x <<< (y &&& 31)) ls st h
  | .ishr => jB2 (fun x y => x >>> (y &&& 31)) ls st h
  | .iushr => jB2 (fun x y => (x.toUInt32 >>> (y.toUInt32 &&& Int32.toUInt32 31)).toInt32) ls st h
  | .idiv => jB3 (fun x y => x / y) ls st h
  | .irem => jB3 (fun x y => x - x / y * y) ls st h
  | .ineg => jB1 (fun x => .int (-x)) ls st h
  | .i2l => jB1 (fun x => .long x.toInt64) ls st h
  | .i2c => jB1 (fun x => .int (x.toUInt32 % 65536).toInt32) ls st h
  | .l2i => jC1 (fun x => .int x.toInt32) ls st h
  | .ladd => jC2 (fun x y => .long (x + y)) ls st h
  | .lsub => jC2 (fun x y => .long (x - y)) ls st h
  | .lmul => jC2 (fun x y => .long (x * y)) ls st h
  | .land => jC2 (fun x y => .long (x &&& y)) ls st h
  | .lor => jC2 (fun x y => .long (x ||| y)) ls st h
  | .lxor => jC2 (fun x y => .long (x ^^^ y)) ls st h
  | .ldiv => jC3 (fun x y => .long (x / y)) ls st h
  | .lrem => jC3 (fun x y => .long (x - x / y * y)) ls st h
  | .lcmp => jC2 (fun x y => .int (lg_cmp x y)) ls st h
  | .lshl => jCS (fun x y => x <<< (y.toInt64 &&& 63)) ls st h
  | .lshr => jCS (fun x y => x >>> (y.toInt64 &&& 63)) ls st h
  | .lushr => jCS (fun x y => (x.toUInt64 >>> (y.toInt64.toUInt64 &&& Int64.toUInt64 63)).toInt64) ls st h
  | .dup => (match st with | .int x :: r => some (ls, .int x :: .int x :: r, h) | .ref x :: r => some (ls, .ref x :: .ref x :: r, h) | _ => none)
  | .pop => (match st with | .int _ :: r => some (ls, r, h) | .ref _ :: r => some (ls, r, h) | _ => none)
  | .dup2 => (match st with | .int y :: .ref x :: r => some (ls, .int y :: .ref x :: .int y :: .ref x :: r, h) | _ => none)
  | .getstatic _ => jPush (.ref 1000) ls st h
  | .getfield _ => (match st with
    | .ref o :: r => if o < jN h ∧ (jS o).1 = a then (match c with
      | 1 => some (ls, .long (jL h o b) :: r, h)
      | 3 => if jR h o b < jN h then some (ls, .ref (jR h o b) :: r, h) else none
      | _ => some (ls, .int (jI h o b) :: r, h)) else none
    | _ => none)
  | .putfield _ => (match c with
    | 0 => (match st with | .int x :: .ref o :: r => if o < jN h ∧ (jS o).1 = a then some (ls, r, jsI h o b x) else none | _ => none)
    | 1 => (match st with | .long x :: .ref o :: r => if o < jN h ∧ (jS o).1 = a then some (ls, r, jsL h o b x) else none | _ => none)
    | 2 => (match st with | .int x :: .ref o :: r => if (o < jN h ∧ (jS o).1 = a) ∧ (x = 0 ∨ x = 1) then some (ls, r, jsI h o b x) else none | _ => none)
    | _ => (match st with | .ref x :: .ref o :: r => if (o < jN h ∧ (jS o).1 = a) ∧ x < jN h then some (ls, r, jsR h o b x) else none | _ => none))
  | .iaload => (match st with
    | .int j :: .ref o :: r => (match c with
      | 0 => if o < jN h ∧ (jS o).1 = 100 ∧ ¬ (j < 0 ∨ (jS o).2 ≤ j.toNatClampNeg) then some (ls, .int (jI h o j.toNatClampNeg) :: r, h) else none
      | 1 => if o = 1000 ∧ ¬ (j < 0 ∨ 4 ≤ j.toNatClampNeg) then some (ls, .int (([1, 5, 25, 125] : List Int32).getD j.toNatClampNeg 0) :: r, h) else none
      | _ => if o = 1002 ∧ ¬ (j < 0 ∨ jXn h ≤ j.toNatClampNeg) then some (ls, .int (jXs h j.toNatClampNeg) :: r, h) else none)
    | _ => none)
  | .arraylength => (match st with
    | .ref o :: r => (match c with
      | 0 => if o < jN h ∧ 100 ≤ (jS o).1 ∧ (jS o).1 < 104 then some (ls, .int (Int32.ofNat (jS o).2) :: r, h) else none
      | _ => if o = 1002 then some (ls, .int (Int32.ofNat (jXn h)) :: r, h) else none)
    | _ => none)
  | .caload => (match st with | .int j :: .ref o :: r => if o < jN h ∧ (jS o).1 = 102 ∧ ¬ (j < 0 ∨ (jS o).2 ≤ j.toNatClampNeg) then some (ls, .int (jI h o j.toNatClampNeg) :: r, h) else none | _ => none)
  | .baload => (match st with | .int j :: .ref o :: r => if o < jN h ∧ (jS o).1 = 103 ∧ ¬ (j < 0 ∨ (jS o).2 ≤ j.toNatClampNeg) then some (ls, .int (jI h o j.toNatClampNeg) :: r, h) else none | _ => none)
  | .laload => (match st with | .int j :: .ref o :: r => if o < jN h ∧ (jS o).1 = 101 ∧ ¬ (j < 0 ∨ (jS o).2 ≤ j.toNatClampNeg) then some (ls, .long (jL h o j.toNatClampNeg) :: r, h) else none | _ => none)
  | .aaload => (match st with | .int j :: .ref o :: r => if (o < jN h ∧ (jS o).1 = 104 ∧ ¬ (j < 0 ∨ (jS o).2 ≤ j.toNatClampNeg)) ∧ jR h o j.toNatClampNeg < jN h then some (ls, .ref (jR h o j.toNatClampNeg) :: r, h) else none | _ => none)
  | .iastore => (match st with | .int x :: .int j :: .ref o :: r => if o < jN h ∧ (jS o).1 = 100 ∧ ¬ (j < 0 ∨ (jS o).2 ≤ j.toNatClampNeg) then some (ls, r, jsI h o j.toNatClampNeg x) else none | _ => none)
  | .castore => (match st with | .int x :: .int j :: .ref o :: r => if o < jN h ∧ (jS o).1 = 102 ∧ ¬ (j < 0 ∨ (jS o).2 ≤ j.toNatClampNeg) then some (ls, r, jsI h o j.toNatClampNeg (vp_nar .char x)) else none | _ => none)
  | .bastore => (match st with | .int x :: .int j :: .ref o :: r => if (o < jN h ∧ (jS o).1 = 103 ∧ ¬ (j < 0 ∨ (jS o).2 ≤ j.toNatClampNeg)) ∧ (x = 0 ∨ x = 1) then some (ls, r, jsI h o j.toNatClampNeg x) else none | _ => none)
  | .lastore => (match st with | .long x :: .int j :: .ref o :: r => if o < jN h ∧ (jS o).1 = 101 ∧ ¬ (j < 0 ∨ (jS o).2 ≤ j.toNatClampNeg) then some (ls, r, jsL h o j.toNatClampNeg x) else none | _ => none)
  | .aastore => (match st with | .ref x :: .int j :: .ref o :: r => if (o < jN h ∧ (jS o).1 = 104 ∧ ¬ (j < 0 ∨ (jS o).2 ≤ j.toNatClampNeg)) ∧ x < jN h ∧ (jS x).1 = 6 then some (ls, r, jsR h o j.toNatClampNeg x) else none | _ => none)
  | .new _ => if (jS (jN h)).1 = a then some (ls, .ref (jN h) :: st, jNw h) else none
  | .newarray _ => (match st with | .int x :: r => if (jS (jN h)).1 = 100 + a ∧ ¬ x < 0 ∧ x.toNatClampNeg = (jS (jN h)).2 then some (ls, .ref (jN h) :: r, jNw h) else none | _ => none)
  | .anewarray _ => (match st with | .int x :: r => if (jS (jN h)).1 = 104 ∧ ¬ x < 0 ∧ x.toNatClampNeg = (jS (jN h)).2 then some (ls, .ref (jN h) :: r, jNw h) else none | _ => none)
  | .invokespecial _ => (match st with | .ref _ :: r => if jSum r ≤ 8 then some (ls, r, h) else none | _ => none)
  | .invokevirtual _ => (match a with
    | 1002 => (match st with | .ref o :: r => if o = 1001 ∧ jSum r ≤ 8 then some (ls, .int 67 :: r, h) else none | _ => none)
    | _ => (match st with | .int j :: .ref o :: r => if (o = 1001 ∧ ¬ (j < 0 ∨ 67 ≤ j.toNatClampNeg)) ∧ jSum r ≤ 8 then some (ls, .int (jTxt.getD j.toNatClampNeg 0) :: r, h) else none | _ => none))
  | .invokestatic _ => (match a with
    | 1001 => (match st with | .int n :: .int dp :: .ref t :: .int sp :: .ref o :: r => if (o < jN h ∧ (jS o).1 = 100 ∧ t < jN h ∧ (jS t).1 = 100) ∧ ¬ sp < 0 ∧ ¬ dp < 0 ∧ ¬ n < 0 ∧ sp.toNatClampNeg + n.toNatClampNeg ≤ (jS o).2 ∧ dp.toNatClampNeg + n.toNatClampNeg ≤ (jS t).2 ∧ jSum r ≤ 8 then some (ls, r, jCp h o sp.toNatClampNeg t dp.toNatClampNeg n.toNatClampNeg) else none | _ => none)
    | 1005 => (match st with | .int y :: .int x :: r => if jSum r ≤ 8 then some (ls, .int (if x < y then y else x) :: r, h) else none | _ => none)
    | 1006 => (match st with | .int y :: .int x :: r => if jSum r ≤ 8 then some (ls, .int (if y < x then y else x) :: r, h) else none | _ => none)
    | _ => (match st with | .ref t :: .int p3 :: .int p2 :: .int p1 :: .int p0 :: .ref o :: r => if (o < jN h ∧ (jS o).1 = 10) ∧ t < jN h ∧ (jS t).1 = 101 ∧ 0 < (jS t).2 ∧ jSum r ≤ 8 ∧ 120 ≤ jN h then (match jRests p0 p1 p2 p3 with
        | some v => some (ls, .int 0 :: r, jsL h t 0 v.toInt64)
        | none => some (ls, .int 1 :: r, jXp h)) else none | _ => none))
  | _ => none
def jRet (z : Nat) (i : Instr) (st : List Value) : Option (Option Value) := match i with
  | .return_ => some none
  | .ireturn => (match st with | [.int x] => if z = 1 then (if x = 0 ∨ x = 1 then some (some (.int x)) else none) else some (some (.int x)) | _ => none)
  | .lreturn => (match st with | [.long x] => some (some (.long x)) | _ => none)
  | .areturn => (match st with | [.ref x] => some (some (.ref x)) | _ => none)
  | _ => none
/-- a call's receiver is of the class (its number and 1; 0: there is none) -/
def jRecv (h : jM) (c : Nat) (args : List Value) : Bool := match c with
  | 0 => true
  | k + 1 => (match args with | .ref o :: _ => decide (o < jN h ∧ (jS o).1 = k) | _ => false)
/-- one step: on it goes; a call (whose, its arguments, what is left on the stack); the end -/
abbrev jA : Type := (List jIns × List Value × List Value × jM) ⊕ (Nat × List Value × List Value) ⊕ Option Value
def jStep (m : Nat) (x : jIns) (rest : List jIns) (ls st : List Value) (h : jM) : Option jA := match jKind x.2.1 x.2.2.1 with
  | 0 => (match jOp x.2.1 x.2.2.1 x.2.2.2.1 x.2.2.2.2 ls st h with
    | some q => some (.inl (rest, q.1, q.2.1, q.2.2))
    | none => none)
  | 1 => (match jBr x.2.1 st with
    | some q => some (.inl (if q.1 = true then jAt m x.2.2.1 else rest, ls, q.2, h))
    | none => none)
  | 2 => if x.2.2.2.1 ≤ st.length ∧ jRecv h x.2.2.2.2 (st.take x.2.2.2.1).reverse = true ∧ jSum (st.drop x.2.2.2.1) ≤ 8 ∧ (jFlat (st.take x.2.2.2.1).reverse).length ≤ (jMth x.2.2.1).2.1 then some (.inr (.inl (x.2.2.1, (st.take x.2.2.2.1).reverse, st.drop x.2.2.2.1))) else none
  | 3 => (match jRet (jMth m).2.2 x.2.1 st with
    | some r => some (.inr (.inr r))
    | none => none)
  | 4 => (match st with
    | .int v :: r => some (.inl (jAt m (jSw x.1 x.2.1 v), ls, r, h))
    | _ => none)
  | _ => none
/-- n: so many steps at most; d: so many calls one within another; the method's number, what is left of its code, locals, stack, memory -/
def jRun : Nat → Nat → Nat → List jIns → List Value → List Value → jM → Option (Option Value × jM)
  | 0, _, _, _, _, _, _ => none
  | _ + 1, _, _, [], _, _, _ => none
  | n + 1, d, m, x :: rest, ls, st, h => match jStep m x rest ls st h with
    | some (.inl q) => jRun n d m q.1 q.2.1 q.2.2.1 q.2.2.2
    | some (.inr (.inl q)) => (match d with
      | 0 => none
      | d' + 1 => (match jRun n d' q.1 (jAt q.1 0) (jEnt (jMth q.1).2.1 q.2.1) [] h with
        | some y => jRun n (d' + 1) m rest ls (y.1.toList ++ q.2.2) y.2
        | none => none))
    | some (.inr (.inr r)) => some (r, h)
    | none => none
theorem jRun_0 (d m : Nat) (is : List jIns) (ls st : List Value) (h : jM) : jRun 0 d m is ls st h = none := by simp [jRun]
theorem jRun_n (n d m : Nat) (ls st : List Value) (h : jM) : jRun n d m [] ls st h = none := by cases n <;> simp [jRun]
theorem jRun_i {n d m : Nat} {x : jIns} {rest : List jIns} {ls st : List Value} {h : jM} {q} (hs : jStep m x rest ls st h = some (.inl q)) : jRun (n + 1) d m (x :: rest) ls st h = jRun n d m q.1 q.2.1 q.2.2.1 q.2.2.2 := by
  simp only [jRun, hs]
theorem jRun_c {n d m : Nat} {x : jIns} {rest : List jIns} {ls st : List Value} {h : jM} {q} (hs : jStep m x rest ls st h = some (.inr (.inl q))) : jRun (n + 1) (d + 1) m (x :: rest) ls st h = (match jRun n d q.1 (jAt q.1 0) (jEnt (jMth q.1).2.1 q.2.1) [] h with
        | some y => jRun n (d + 1) m rest ls (y.1.toList ++ q.2.2) y.2
        | none => none) := by
  simp only [jRun, hs]
theorem jRun_c0 {n m : Nat} {x : jIns} {rest : List jIns} {ls st : List Value} {h : jM} {q} (hs : jStep m x rest ls st h = some (.inr (.inl q))) : jRun (n + 1) 0 m (x :: rest) ls st h = none := by
  simp only [jRun, hs]
theorem jRun_r {n d m : Nat} {x : jIns} {rest : List jIns} {ls st : List Value} {h : jM} {r} (hs : jStep m x rest ls st h = some (.inr (.inr r))) : jRun (n + 1) d m (x :: rest) ls st h = some (r, h) := by
  simp only [jRun, hs]
theorem jRun_no {n d m : Nat} {x : jIns} {rest : List jIns} {ls st : List Value} {h : jM} (hs : jStep m x rest ls st h = none) : jRun (n + 1) d m (x :: rest) ls st h = none := by
  simp only [jRun, hs]
theorem jRun_s : ∀ (n d m : Nat) (is : List jIns) (ls st : List Value) (h : jM) (y : Option Value × jM), jRun n d m is ls st h = some y → jRun (n + 1) d m is ls st h = some y := by
  intro n
  induction n with
  | zero => intro d m is ls st h y e; rw [jRun_0] at e; cases e
  | succ n ih =>
    intro d m is ls st h y e
    cases is with
    | nil => rw [jRun_n] at e; cases e
    | cons x rest =>
      cases hs : jStep m x rest ls st h with
      | none => rw [jRun_no hs] at e; cases e
      | some q =>
        rcases q with q | q | r
        · rw [jRun_i hs] at e ⊢
          exact ih _ _ _ _ _ _ _ e
        · cases d with
          | zero => rw [jRun_c0 hs] at e; cases e
          | succ d =>
            rw [jRun_c hs] at e ⊢
            cases hc : jRun n d q.1 (jAt q.1 0) (jEnt (jMth q.1).2.1 q.2.1) [] h with
            | none => rw [hc] at e; cases e
            | some z =>
              rw [hc] at e
              rw [ih _ _ _ _ _ _ _ hc]
              exact ih _ _ _ _ _ _ _ e
        · rw [jRun_r hs] at e ⊢
          exact e
theorem jRun_m {n k d m : Nat} {is : List jIns} {ls st : List Value} {h : jM} {y : Option Value × jM} (e : jRun n d m is ls st h = some y) : jRun (n + k) d m is ls st h = some y := by
  induction k with
  | zero => exact e
  | succ k ih => exact jRun_s _ _ _ _ _ _ _ _ ih
/-- it comes to its end, and K holds there -/
def jGo (d m : Nat) (is : List jIns) (ls st : List Value) (h : jM) (K : Option Value → jM → Prop) : Prop := ∃ n r h', jRun n d m is ls st h = some (r, h') ∧ K r h'
/-- a call from outside -/
def jCl (d m : Nat) (args : List Value) (h : jM) (K : Option Value → jM → Prop) : Prop := jGo d m (jAt m 0) (jEnt (jMth m).2.1 args) [] h K
theorem jGo_nil {d m : Nat} {ls st : List Value} {h : jM} {K : Option Value → jM → Prop} : jGo d m [] ls st h K = False := by
  apply propext; refine ⟨?_, False.elim⟩
  rintro ⟨n, r, h', e, -⟩
  rw [jRun_n] at e; cases e
theorem jGo_i {d m : Nat} {x : jIns} {rest : List jIns} {ls st : List Value} {h : jM} {K : Option Value → jM → Prop} {q} (hs : jStep m x rest ls st h = some (.inl q)) : jGo d m (x :: rest) ls st h K = jGo d m q.1 q.2.1 q.2.2.1 q.2.2.2 K := by
  apply propext; constructor
  · rintro ⟨n, r, h', e, k⟩
    cases n with
    | zero => rw [jRun_0] at e; cases e
    | succ n => rw [jRun_i hs] at e; exact ⟨n, r, h', e, k⟩
  · rintro ⟨n, r, h', e, k⟩
    exact ⟨n + 1, r, h', by rw [jRun_i hs]; exact e, k⟩
theorem jGo_c {d m : Nat} {x : jIns} {rest : List jIns} {ls st : List Value} {h : jM} {K : Option Value → jM → Prop} {q} (hs : jStep m x rest ls st h = some (.inr (.inl q))) : jGo (d + 1) m (x :: rest) ls st h K = jCl d q.1 q.2.1 h (fun r h1 => jGo (d + 1) m rest ls (r.toList ++ q.2.2) h1 K) := by
  apply propext; constructor
  · rintro ⟨n, r, h', e, k⟩
    cases n with
    | zero => rw [jRun_0] at e; cases e
    | succ n =>
      rw [jRun_c hs] at e
      cases hc : jRun n d q.1 (jAt q.1 0) (jEnt (jMth q.1).2.1 q.2.1) [] h with
      | none => rw [hc] at e; cases e
      | some z => rw [hc] at e; exact ⟨n, z.1, z.2, hc, n, r, h', e, k⟩
  · rintro ⟨n, r1, h1, e1, n2, r, h', e, k⟩
    refine ⟨n + n2 + 1, r, h', ?_, k⟩
    rw [jRun_c hs, jRun_m e1, Nat.add_comm n n2]
    exact jRun_m e
theorem jGo_r {d m : Nat} {x : jIns} {rest : List jIns} {ls st : List Value} {h : jM} {K : Option Value → jM → Prop} {r} (hs : jStep m x rest ls st h = some (.inr (.inr r))) : jGo d m (x :: rest) ls st h K = K r h := by
  apply propext; constructor
  · rintro ⟨n, r', h', e, k⟩
    cases n with
    | zero => rw [jRun_0] at e; cases e
    | succ n => rw [jRun_r hs] at e; cases e; exact k
  · intro k
    exact ⟨1, r, h, jRun_r hs, k⟩
theorem jGo_no {d m : Nat} {x : jIns} {rest : List jIns} {ls st : List Value} {h : jM} {K : Option Value → jM → Prop} (hs : jStep m x rest ls st h = none) : jGo d m (x :: rest) ls st h K = False := by
  apply propext; refine ⟨?_, False.elim⟩
  rintro ⟨n, r, h', e, -⟩
  cases n with
  | zero => rw [jRun_0] at e; cases e
  | succ n => rw [jRun_no hs] at e; cases e
theorem jGo_g {d m : Nat} {x : jIns} {rest : List jIns} {ls st : List Value} {h : jM} {K : Option Value → jM → Prop} {q} {P : Prop} [Decidable P] (hs : jStep m x rest ls st h = if P then some (.inl q) else none) : jGo d m (x :: rest) ls st h K = (P ∧ jGo d m q.1 q.2.1 q.2.2.1 q.2.2.2 K) := by
  by_cases hp : P
  · rw [if_pos hp] at hs
    rw [jGo_i hs]; simp [hp]
  · rw [if_neg hp] at hs
    rw [jGo_no hs]; simp [hp]
/-- the answer is one: what holds of it holds -/
theorem jGo_det {d m : Nat} {is : List jIns} {ls st : List Value} {h : jM} {K : Option Value → jM → Prop} {r : Option Value} {h' : jM} (e : jGo d m is ls st h (fun a b => a = r ∧ b = h')) : jGo d m is ls st h K = K r h' := by
  obtain ⟨n, r1, h1, e1, rfl, rfl⟩ := e
  apply propext; constructor
  · rintro ⟨n2, r2, h2, e2, k⟩
    have a1 := jRun_m (k := n2) e1
    have a2 := jRun_m (k := n) e2
    rw [Nat.add_comm] at a2
    rw [a1] at a2
    cases a2; exact k
  · intro k; exact ⟨n, r1, h1, e1, k⟩
theorem jGo_w {d m : Nat} {is : List jIns} {ls st : List Value} {h : jM} {K K' : Option Value → jM → Prop} (e : jGo d m is ls st h K) (hk : ∀ r h', K r h' → K' r h') : jGo d m is ls st h K' := by
  obtain ⟨n, r, h', e1, k⟩ := e
  exact ⟨n, r, h', e1, hk _ _ k⟩
theorem jCl_w {d m : Nat} {as : List Value} {h : jM} {K K' : Option Value → jM → Prop} (e : jCl d m as h K) (hk : ∀ r h', K r h' → K' r h') : jCl d m as h K' := jGo_w e hk
