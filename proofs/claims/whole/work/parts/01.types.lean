/-! A plain machine of ours: memory by names (ints, longs, references), a method's code as a list; what the class's methods do is said of it, once it is shown that the real one does the same. -/
abbrev jM : Type := (Nat → Nat → Int32) × (Nat → Nat → Int64) × (Nat → Nat → Nat) × Nat × Nat × (Nat → Int32) × Nat
def jI (h : jM) : Nat → Nat → Int32 := h.1
def jL (h : jM) : Nat → Nat → Int64 := h.2.1
def jR (h : jM) : Nat → Nat → Nat := h.2.2.1
def jN (h : jM) : Nat := h.2.2.2.1
/-- the script: how long it is, what stands there -/
def jXn (h : jM) : Nat := h.2.2.2.2.1
def jXs (h : jM) : Nat → Int32 := h.2.2.2.2.2.1
/-- how often something was thrown -/
def jEx (h : jM) : Nat := h.2.2.2.2.2.2
def jU {α : Type} (f : Nat → Nat → α) (o k : Nat) (v : α) : Nat → Nat → α := fun a b => if a = o ∧ b = k then v else f a b
def jZ {α : Type} (f : Nat → Nat → α) (o : Nat) (v : α) : Nat → Nat → α := fun a b => if a = o then v else f a b
def jsI (h : jM) (o k : Nat) (v : Int32) : jM := (jU (jI h) o k v, jL h, jR h, jN h, jXn h, jXs h, jEx h)
def jsL (h : jM) (o k : Nat) (v : Int64) : jM := (jI h, jU (jL h) o k v, jR h, jN h, jXn h, jXs h, jEx h)
def jsR (h : jM) (o k : Nat) (v : Nat) : jM := (jI h, jL h, jU (jR h) o k v, jN h, jXn h, jXs h, jEx h)
/-- a new cell: all nothing -/
def jNw (h : jM) : jM := (jZ (jI h) (jN h) 0, jZ (jL h) (jN h) 0, jZ (jR h) (jN h) 9999, jN h + 1, jXn h, jXs h, jEx h)
/-- a stretch of ints copied -/
def jCp (h : jM) (src sp dst dp n : Nat) : jM := (fun a b => if a = dst then va_cpy (jI h src) (jI h dst) sp dp n b else jI h a b, jL h, jR h, jN h, jXn h, jXs h, jEx h)
def jXp (h : jM) : jM := (jI h, jL h, jR h, jN h, jXn h, jXs h, jEx h + 1)
/-- an instruction: where it stands, which it is, three numbers that say what its own number stands for -/
abbrev jIns : Type := Nat × Instr × Nat × Nat × Nat
/-- a method: its code, its place for locals, 1 if its answer is a boolean -/
abbrev jMeth : Type := List jIns × Nat × Nat
def jGet (ls : List Value) (i : Nat) : Value := ls.getD i .null
def jCat2 (v : Value) : Bool := v.category == 2
def jSum (st : List Value) : Nat := (st.map fun v => v.category).sum
/-- a place of the locals is filled; the one ahead is lost if it was wide -/
def jPut (ls : List Value) (i : Nat) (v : Value) : List Value := match i with
  | 0 => ls.set 0 v
  | j + 1 => (if jCat2 (jGet ls j) then ls.set j .null else ls).set (j + 1) v
def jPut2 (ls : List Value) (i : Nat) (v : Value) : List Value := (jPut ls i v).set (i + 1) .null
def jFlat (args : List Value) : List Value := args.flatMap fun v => if jCat2 v then [v, .null] else [v]
def jEnt (n : Nat) (args : List Value) : List Value := jFlat args ++ List.replicate (n - (jFlat args).length) .null
abbrev jO : Type := Option (List Value × List Value × jM)
def jPush (v : Value) (ls st : List Value) (h : jM) : jO := some (ls, v :: st, h)
def jB1 (f : Int32 → Value) (ls st : List Value) (h : jM) : jO := match st with | .int x :: r => some (ls, f x :: r, h) | _ => none
def jC1 (f : Int64 → Value) (ls st : List Value) (h : jM) : jO := match st with | .long x :: r => some (ls, f x :: r, h) | _ => none
def jB2 (f : Int32 → Int32 → Int32) (ls st : List Value) (h : jM) : jO := match st with | .int y :: .int x :: r => some (ls, .int (f x y) :: r, h) | _ => none
def jB3 (f : Int32 → Int32 → Int32) (ls st : List Value) (h : jM) : jO := match st with | .int y :: .int x :: r => if y = 0 then none else some (ls, .int (f x y) :: r, h) | _ => none
def jC2 (f : Int64 → Int64 → Value) (ls st : List Value) (h : jM) : jO := match st with | .long y :: .long x :: r => some (ls, f x y :: r, h) | _ => none
def jC3 (f : Int64 → Int64 → Value) (ls st : List Value) (h : jM) : jO := match st with | .long y :: .long x :: r => if y = 0 then none else some (ls, f x y :: r, h) | _ => none
def jCS (f : Int64 → Int32 → Int64) (ls st : List Value) (h : jM) : jO := match st with | .int y :: .long x :: r => some (ls, .long (f x y) :: r, h) | _ => none
def jLdi (i : Nat) (ls st : List Value) (h : jM) : jO := match jGet ls i with | .int x => some (ls, .int x :: st, h) | _ => none
def jLdl (i : Nat) (ls st : List Value) (h : jM) : jO := match jGet ls i with | .long x => some (ls, .long x :: st, h) | _ => none
def jLda (i : Nat) (ls st : List Value) (h : jM) : jO := match jGet ls i with | .ref x => some (ls, .ref x :: st, h) | _ => none
def jSti (i : Nat) (ls st : List Value) (h : jM) : jO := match st with | .int x :: r => if i < ls.length then some (jPut ls i (.int x), r, h) else none | _ => none
def jStl (i : Nat) (ls st : List Value) (h : jM) : jO := match st with | .long x :: r => if i + 1 < ls.length then some (jPut2 ls i (.long x), r, h) else none | _ => none
def jSta (i : Nat) (ls st : List Value) (h : jM) : jO := match st with | .ref x :: r => if i < ls.length then some (jPut ls i (.ref x), r, h) else none | _ => none
def jInc (i : Nat) (n : Int) (ls st : List Value) (h : jM) : jO := match jGet ls i with | .int x => if i < ls.length then some (jPut ls i (.int (x + Int32.ofInt n)), st, h) else none | _ => none
def jCmp (cd : Jvm.ClassFile.Cond) (x y : Int32) : Bool := match cd with
  | .eq => decide (x = y)
  | .ne => decide (¬ x = y)
  | .lt => decide (x < y)
  | .ge => decide (y ≤ x)
  | .gt => decide (y < x)
  | .le => decide (x ≤ y)
/-- where a switch goes -/
def jSw (pc : Nat) (i : Instr) (x : Int32) : Nat := match i with
  | .tableswitch dflt lo hi offs => if x.toInt < lo ∨ hi < x.toInt then ((pc : Int) + dflt).toNat else ((pc : Int) + offs.getD (x.toInt - lo).toNat 0).toNat
  | _ => 0
/-- 0: goes on; 1: a branch; 2: a call; 3: a return; 4: a switch -/
def jKind (i : Instr) (a : Nat) : Nat := match i with
  | .goto _ => 1
  | .ifCond _ _ => 1
  | .if_icmp _ _ => 1
  | .invokevirtual _ => if a < 1000 then 2 else 0
  | .invokestatic _ => if a < 1000 then 2 else 0
  | .invokespecial _ => if a < 1000 then 2 else 0
  | .ireturn => 3
  | .lreturn => 3
  | .areturn => 3
  | .return_ => 3
  | .tableswitch _ _ _ _ => 4
  | _ => 0
def jBr (i : Instr) (st : List Value) : Option (Bool × List Value) := match i with
  | .goto _ => some (true, st)
  | .ifCond cd _ => (match st with | .int x :: r => some (jCmp cd x 0, r) | _ => none)
  | .if_icmp cd _ => (match st with | .int y :: .int x :: r => some (jCmp cd x y, r) | _ => none)
  | _ => none
def jTxt : List Int32 := [102, 111, 108, 107, 32, 111, 102, 32, 98, 97, 107, 101, 114, 32, 119, 105, 100, 111, 119, 32, 110, 101, 97, 114, 32, 111, 119, 101, 115, 32, 115, 97, 109, 101, 32, 110, 111, 116, 32, 97, 110, 100, 32, 111, 114, 32, 115, 111, 109, 101, 32, 97, 108, 108, 32, 116, 119, 111, 32, 120, 32, 121, 32, 122, 32, 117, 32]
/-- the pairs of choices at rest, the least first -/
def jRestL (b l g : Int32) : List Int32 := [0] ++ (if b ≤ g ∧ l = 0 then [1, 2] else []) ++ (if g ≤ b then [3] else [])
/-- SHOWING at rest: what the class answers, or that it throws -/
def jRests (b l g w : Int32) : Option Int32 :=
  if 0 ≤ b ∧ b ≤ 9 ∧ 0 ≤ l ∧ l ≤ 9 ∧ 0 ≤ g ∧ g ≤ 9 ∧ -1 ≤ w then
    (if w = -1 then some (Int32.ofNat (jRestL b l g).length) else (jRestL b l g)[w.toNatClampNeg]?)
  else none
