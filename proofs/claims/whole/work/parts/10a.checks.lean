/-! what the tables and the bytes say of our code, looked up by program -/
def jTbl : List Cond := lw_tbl.filter goodWord
theorem jTbl_in {i : Nat} {c : Cond} (h : lw_tbl[i]? = some c) (hg : goodWord c = true) : c ∈ jTbl := List.mem_filter.mpr ⟨List.mem_of_getElem? h, hg⟩
def jC (c : Nat) : vw_C := vwCl.getD c ("", fun _ => ("", "", "", false), 0)
def jFlC (e : Nat × Nat × Nat × Nat × Nat × Nat) : Cond := if e.2.2.2.2.1 = 0 then .fieldLink (jOwnS e.1) e.2.1 (jC e.2.2.1).1 ((jC e.2.2.1).2.1 e.2.2.2.1).2.1 ((jC e.2.2.1).2.1 e.2.2.2.1).2.2.1
  else .fieldLinkNest (jOwnS e.1) e.2.1 (jC e.2.2.1).1 ((jC e.2.2.1).2.1 e.2.2.2.1).2.1 ((jC e.2.2.1).2.1 e.2.2.2.1).2.2.1 "TwoTowns"
theorem ck_fl : jFL.all (fun e => decide (lw_tbl[jNp + e.2.2.2.2.2]? = some (jFlC e)) && decide (e.2.2.2.1 < jNf e.2.2.1)) = true := by decide +kernel
def jZlC (e : Nat × Nat × Nat × Nat) : Cond := if e.2.2.1 = 0 then .fieldLink (jOwnS e.1) e.2.1 "TwoTowns" "DIGITS" "[I" else .fieldLinkNest (jOwnS e.1) e.2.1 "TwoTowns" "DIGITS" "[I" "TwoTowns"
theorem ck_zl : jZL.all (fun e => decide (lw_tbl[jNp + e.2.2.2]? = some (jZlC e))) = true := by decide +kernel
/-- the methods that are no code of ours to walk -/
def jYb (k : Nat) : MethodName := match k with
  | 1000 => ⟨"java/lang/Object", "<init>", "()V"⟩
  | 1001 => ⟨"java/lang/System", "arraycopy", "(Ljava/lang/Object;ILjava/lang/Object;II)V"⟩
  | 1002 => ⟨"java/lang/String", "length", "()I"⟩
  | 1003 => ⟨"java/lang/String", "charAt", "(I)C"⟩
  | 1004 => ⟨"TwoTownsLaw", "rests", "(LTwoTowns;IIII[J)I"⟩
  | 1005 => ⟨"java/lang/Math", "max", "(II)I"⟩
  | 1006 => ⟨"java/lang/Math", "min", "(II)I"⟩
  | k => jY k
def jMlC (e : Nat × Nat × Nat × Nat × Nat × Nat) : Cond := if e.2.2.2.2.1 = 0 then .methodLink (jOwnS e.1) e.2.1 (jYb e.2.2.2.1) else .methodLinkNest (jOwnS e.1) e.2.1 (jYb e.2.2.2.1) "TwoTowns"
theorem ck_ml : jMLk.all (fun e => decide (lw_tbl[jNp + e.2.2.2.2.2]? = some (jMlC e))) = true := by decide +kernel
theorem ck_cl : jCLk.all (fun e => decide (lw_tbl[jNp + e.2.2.2]? = some (.classLink (jOwnS e.1) e.2.1 (jC e.2.2.1).1))) = true := by decide +kernel
theorem ck_kl : jKL.all (fun e => decide (lw_tbl[jNp + e.2.2.2]? = some (.constantLong (jOwnS e.1) e.2.1 (jCL.getD e.2.2.1 0)))) = true := by decide +kernel
theorem ck_ki : jKI.all (fun e => decide (lw_tbl[jNp + e.2.2.2]? = some (.constant (jOwnS e.1) e.2.1 (jCI.getD e.2.2.1 0)))) = true := by decide +kernel
def jCodeW (m : Nat) : Cond := .code (jY m) (jBy m) (jMth m).2.1 (jRt m)
def jMok (m : Nat) : Bool := decide (m = jLaw) || ((match lw_tbl[(jPos m).1]? with
    | some (.code y _ n r) => decide (y = jY m ∧ n = (jMth m).2.1 ∧ r = jRt m)
    | _ => false) && decide (lw_tbl[(jPos m).2.1]? = some (if jIsStat m = 1 then .static (jY m) else .instanceMethod (jY m))) && decide (lw_tbl[(jPos m).2.2.2]? = some (.initialized (jY m).cls)) &&
  (decide (jIsStat m = 1) || decide ((jY m).name = "<init>") || decide (lw_tbl[(jPos m).2.2.1]? = some (.selects (jY m).cls (jY m) (jY m)))) && decide ((jY m).cls = jOwnS (jOn m)) && plainName (jY m).cls && decide ((jY m).cls ≠ "java/lang/invoke/MethodHandle" ∧ (jY m).cls ≠ "java/lang/invoke/VarHandle") && decide ((jMth m).2.2 = if jRt m = some .boolean then 1 else 0))
/-- how long an instruction is (a switch apart) -/
def jLn (i : Instr) : Nat := match i with
  | .bipush _ => 2 | .sipush _ => 3 | .ldc _ => 2 | .ldc_w _ => 3 | .ldc2_w _ => 3 | .iload _ => 2 | .lload _ => 2 | .aload _ => 2 | .istore _ => 2 | .lstore _ => 2 | .astore _ => 2
  | .iinc _ _ => 3 | .getfield _ => 3 | .putfield _ => 3 | .getstatic _ => 3 | .new _ => 3 | .anewarray _ => 3 | .newarray _ => 2 | .invokevirtual _ => 3 | .invokestatic _ => 3 | .invokespecial _ => 3
  | .goto _ => 3 | .ifCond _ _ => 3 | .if_icmp _ _ => 3 | _ => 1
def jPn (k : Nat) (n : Nat) : Bool := decide ((parseMethodDescriptor (jY k).desc).map (fun d => d.parameters.length) = some n)
def jLkOk (m : Nat) (x : jIns) : Bool := match x with
  | (pc, i, a, b, c) => match i with
    | .getfield k => jFL.any (fun e => e.1 == jOn m && e.2.1 == k && e.2.2.1 == a && e.2.2.2.1 == b) && jT a b == c && decide (a < 12)
    | .putfield k => jFL.any (fun e => e.1 == jOn m && e.2.1 == k && e.2.2.1 == a && e.2.2.2.1 == b && (decide (((jC a).2.1 b).2.2.2 = false) || (e.2.2.2.2.1 == 0 && decide ((jY m).name = "<init>") && decide (((jC a).2.1 b).1 = jOwnS (jOn m))))) && jT a b == c && decide (a < 12)
    | .getstatic k => jZL.any (fun e => e.1 == jOn m && e.2.1 == k)
    | .invokevirtual k => jMLk.any (fun e => e.1 == jOn m && e.2.1 == k && e.2.2.1 == 0 && e.2.2.2.1 == a) && (decide (1000 ≤ a) || (decide (a < 286) && decide (a ≠ jLaw) && decide (jIsStat a = 0) && decide ((jY a).name ≠ "<init>") && decide (jOn a < 12) && c == jOn a + 1 && jPn a (b - 1) && decide (1 ≤ b)))
    | .invokestatic k => jMLk.any (fun e => e.1 == jOn m && e.2.1 == k && e.2.2.1 == 1 && e.2.2.2.1 == a) && (decide (1000 ≤ a) || (decide (a < 286) && decide (a ≠ jLaw) && decide (jIsStat a = 1) && c == 0 && jPn a b))
    | .invokespecial k => jMLk.any (fun e => e.1 == jOn m && e.2.1 == k && e.2.2.1 == 2 && e.2.2.2.1 == a) && (decide (1000 ≤ a) || (decide (a < 286) && decide (a ≠ jLaw) && decide (jIsStat a = 0) && decide ((jY a).name = "<init>") && c == 0 && jPn a (b - 1) && decide (1 ≤ b) && decide (jRt a = none)))
    | .ldc k => if b = 1 then decide (jOn m = 7 ∧ k = 59) else jKI.any (fun e => e.1 == jOn m && e.2.1 == k && e.2.2.1 == a)
    | .ldc_w k => jKI.any (fun e => e.1 == jOn m && e.2.1 == k && e.2.2.1 == a)
    | .ldc2_w k => jKL.any (fun e => e.1 == jOn m && e.2.1 == k && e.2.2.1 == a)
    | .new k => jCLk.any (fun e => e.1 == jOn m && e.2.1 == k && e.2.2.1 == a) && decide (a < 12)
    | .anewarray k => jCLk.any (fun e => e.1 == jOn m && e.2.1 == k && e.2.2.1 == 6) && a == 4
    | .newarray t => decide (t = (match a with | 0 => ArrayType.int | 1 => .long | 2 => .char | _ => .boolean)) && decide (a < 4)
    | .goto o => decide ((pc : Int) + o = (a : Int))
    | .ifCond _ o => decide ((pc : Int) + o = (a : Int))
    | .if_icmp _ o => decide ((pc : Int) + o = (a : Int))
    | .tableswitch d lo hi os => decide (0 ≤ (pc : Int) + d) && os.all (fun o => decide (0 ≤ (pc : Int) + o)) && decide (os.size = (hi - lo + 1).toNat) && decide (lo ≤ hi)
    | _ => true
def jDcOk (m : Nat) (x : jIns) : Bool := match decode (jBy m) x.1 with
  | .ok q => decide (q.1 = x.2.1) && (jKind x.2.1 x.2.2.1 == 4 || q.2 == jLn x.2.1)
  | .error _ => false
def jNxOk : List jIns → Bool
  | x :: y :: r => (jKind x.2.1 x.2.2.1 == 3 || jKind x.2.1 x.2.2.1 == 4 || y.1 == x.1 + jLn x.2.1) && jNxOk (y :: r)
  | _ => true
def jChk (m : Nat) : Bool := (jMth m).1.all (fun x => jLkOk m x && jDcOk m x) && jNxOk (jMth m).1
