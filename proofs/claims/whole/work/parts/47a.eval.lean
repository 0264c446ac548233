/-! the constructors: a machine over lists, that the kernel can run -/
abbrev eT (α : Type) : Type := List (Nat × Nat × α)
def lk {α : Type} (l : eT α) (d : α) (o k : Nat) : α := match l with
  | [] => d
  | x :: r => if o = x.1 ∧ k = x.2.1 then x.2.2 else lk r d o k
abbrev eD : Type := Nat × eT Int32 × eT Int64 × eT Nat
def eN (D : eD) : Nat := D.1
def eI (D : eD) : eT Int32 := D.2.1
def eL (D : eD) : eT Int64 := D.2.2.1
def eR (D : eD) : eT Nat := D.2.2.2
def den (D : eD) (L : Nat) (xs : Nat → Int32) : jM := (lk (eI D) 0, lk (eL D) 0, lk (eR D) 9999, eN D, L, xs, 0)
def lkB {α : Type} (l : eT α) (n : Nat) : Prop := ∀ x, x ∈ l → x.1 < n
def eOk (D : eD) : Prop := lkB (eI D) (eN D) ∧ lkB (eL D) (eN D) ∧ lkB (eR D) (eN D)
theorem lk_U {α : Type} {l : eT α} {d v : α} {o k : Nat} : jU (lk l d) o k v = lk ((o, k, v) :: l) d := rfl
theorem lk_out {α : Type} {d : α} {n k : Nat} : ∀ {l : eT α}, lkB l n → ∀ {o}, n ≤ o → lk l d o k = d := by
  intro l
  induction l with
  | nil => intro _ o _; rfl
  | cons x r ih =>
    intro h o ho
    have hx := h x List.mem_cons_self
    show (if o = x.1 ∧ k = x.2.1 then x.2.2 else lk r d o k) = d
    rw [if_neg (by omega)]
    exact ih (fun y hy => h y (List.mem_cons_of_mem _ hy)) ho
theorem lk_Z {α : Type} {l : eT α} {d : α} {n : Nat} (h : lkB l n) : jZ (lk l d) n d = lk l d := by
  funext a b
  show (if a = n then d else lk l d a b) = lk l d a b
  by_cases c : a = n
  · rw [if_pos c, lk_out h (by omega)]
  · rw [if_neg c]
def wI (D : eD) (o k : Nat) (v : Int32) : eD := (eN D, (o, k, v) :: eI D, eL D, eR D)
def wL' (D : eD) (o k : Nat) (v : Int64) : eD := (eN D, eI D, (o, k, v) :: eL D, eR D)
def wR (D : eD) (o k v : Nat) : eD := (eN D, eI D, eL D, (o, k, v) :: eR D)
def wN (D : eD) : eD := (eN D + 1, eI D, eL D, eR D)
theorem lkB_c {α : Type} {l : eT α} {n o k : Nat} {v : α} (h : lkB l n) (ho : o < n) : lkB ((o, k, v) :: l) n := fun y hy => by
  rcases List.mem_cons.mp hy with e | e
  · rw [e]; exact ho
  · exact h y e
theorem lkB_m {α : Type} {l : eT α} {n : Nat} (h : lkB l n) : lkB l (n + 1) := fun y hy => by have := h y hy; omega
theorem den_I {D : eD} {L : Nat} {xs : Nat → Int32} {o k : Nat} {v : Int32} : jsI (den D L xs) o k v = den (wI D o k v) L xs := rfl
theorem den_L {D : eD} {L : Nat} {xs : Nat → Int32} {o k : Nat} {v : Int64} : jsL (den D L xs) o k v = den (wL' D o k v) L xs := rfl
theorem den_R {D : eD} {L : Nat} {xs : Nat → Int32} {o k v : Nat} : jsR (den D L xs) o k v = den (wR D o k v) L xs := rfl
theorem den_N {D : eD} {L : Nat} {xs : Nat → Int32} (h : eOk D) : jNw (den D L xs) = den (wN D) L xs := by
  show (jZ (lk (eI D) 0) (eN D) 0, jZ (lk (eL D) 0) (eN D) 0, jZ (lk (eR D) 9999) (eN D) 9999, eN D + 1, L, xs, 0) = _
  rw [lk_Z h.1, lk_Z h.2.1, lk_Z h.2.2]
  rfl
theorem ok_I {D : eD} {o k : Nat} {v : Int32} (h : eOk D) (ho : o < eN D) : eOk (wI D o k v) := ⟨lkB_c h.1 ho, h.2.1, h.2.2⟩
theorem ok_L {D : eD} {o k : Nat} {v : Int64} (h : eOk D) (ho : o < eN D) : eOk (wL' D o k v) := ⟨h.1, lkB_c h.2.1 ho, h.2.2⟩
theorem ok_R {D : eD} {o k v : Nat} (h : eOk D) (ho : o < eN D) : eOk (wR D o k v) := ⟨h.1, h.2.1, lkB_c h.2.2 ho⟩
theorem ok_N {D : eD} (h : eOk D) : eOk (wN D) := ⟨lkB_m h.1, lkB_m h.2.1, lkB_m h.2.2⟩
abbrev eO : Type := Option (List Value × List Value × eD)
def eOp (i : Instr) (a b c : Nat) (ls st : List Value) (D : eD) : eO := match i with
  | .iconst n => some (ls, .int (Int32.ofInt n) :: st, D)
  | .bipush n => some (ls, .int (Int8.ofInt n).toInt32 :: st, D)
  | .sipush n => some (ls, .int (Int16.ofInt n).toInt32 :: st, D)
  | .lconst n => some (ls, .long (Int64.ofNat (n : Nat)) :: st, D)
  | .ldc_w _ => some (ls, .int (jCI.getD a 0) :: st, D)
  | .ldc2_w _ => some (ls, .long (jCL.getD a 0) :: st, D)
  | .aload_n i => (match jGet ls i with | .ref x => some (ls, .ref x :: st, D) | _ => none)
  | .iload_n i => (match jGet ls i with | .int x => some (ls, .int x :: st, D) | _ => none)
  | .istore_n i => (match st with | .int x :: r => if i < ls.length then some (jPut ls i (.int x), r, D) else none | _ => none)
  | .iinc i n => (match jGet ls i with | .int x => if i < ls.length then some (jPut ls i (.int (x + Int32.ofInt n)), st, D) else none | _ => none)
  | .iadd => (match st with | .int y :: .int x :: r => some (ls, .int (x + y) :: r, D) | _ => none)
  | .dup => (match st with | .int x :: r => some (ls, .int x :: .int x :: r, D) | .ref x :: r => some (ls, .ref x :: .ref x :: r, D) | _ => none)
  | .getfield _ => (match st with
    | .ref o :: r => if o < eN D ∧ (jS o).1 = a then (match c with
      | 3 => if lk (eR D) 9999 o b < eN D then some (ls, .ref (lk (eR D) 9999 o b) :: r, D) else none
      | _ => none) else none
    | _ => none)
  | .putfield _ => (match c with
    | 0 => (match st with | .int x :: .ref o :: r => if o < eN D ∧ (jS o).1 = a then some (ls, r, wI D o b x) else none | _ => none)
    | 1 => (match st with | .long x :: .ref o :: r => if o < eN D ∧ (jS o).1 = a then some (ls, r, wL' D o b x) else none | _ => none)
    | 2 => (match st with | .int x :: .ref o :: r => if (o < eN D ∧ (jS o).1 = a) ∧ (x = 0 ∨ x = 1) then some (ls, r, wI D o b x) else none | _ => none)
    | _ => (match st with | .ref x :: .ref o :: r => if (o < eN D ∧ (jS o).1 = a) ∧ x < eN D then some (ls, r, wR D o b x) else none | _ => none))
  | .iaload => (match st with
    | .int j :: .ref o :: r => (match c with
      | 0 => if o < eN D ∧ (jS o).1 = 100 ∧ ¬ (j < 0 ∨ (jS o).2 ≤ j.toNatClampNeg) then some (ls, .int (lk (eI D) 0 o j.toNatClampNeg) :: r, D) else none
      | _ => none)
    | _ => none)
  | .iastore => (match st with | .int x :: .int j :: .ref o :: r => if o < eN D ∧ (jS o).1 = 100 ∧ ¬ (j < 0 ∨ (jS o).2 ≤ j.toNatClampNeg) then some (ls, r, wI D o j.toNatClampNeg x) else none | _ => none)
  | .bastore => (match st with | .int x :: .int j :: .ref o :: r => if (o < eN D ∧ (jS o).1 = 103 ∧ ¬ (j < 0 ∨ (jS o).2 ≤ j.toNatClampNeg)) ∧ (x = 0 ∨ x = 1) then some (ls, r, wI D o j.toNatClampNeg x) else none | _ => none)
  | .lastore => (match st with | .long x :: .int j :: .ref o :: r => if o < eN D ∧ (jS o).1 = 101 ∧ ¬ (j < 0 ∨ (jS o).2 ≤ j.toNatClampNeg) then some (ls, r, wL' D o j.toNatClampNeg x) else none | _ => none)
  | .aastore => (match st with | .ref x :: .int j :: .ref o :: r => if (o < eN D ∧ (jS o).1 = 104 ∧ ¬ (j < 0 ∨ (jS o).2 ≤ j.toNatClampNeg)) ∧ x < eN D ∧ (jS x).1 = 6 then some (ls, r, wR D o j.toNatClampNeg x) else none | _ => none)
  | .new _ => if (jS (eN D)).1 = a then some (ls, .ref (eN D) :: st, wN D) else none
  | .newarray _ => (match st with | .int x :: r => if (jS (eN D)).1 = 100 + a ∧ ¬ x < 0 ∧ x.toNatClampNeg = (jS (eN D)).2 then some (ls, .ref (eN D) :: r, wN D) else none | _ => none)
  | .anewarray _ => (match st with | .int x :: r => if (jS (eN D)).1 = 104 ∧ ¬ x < 0 ∧ x.toNatClampNeg = (jS (eN D)).2 then some (ls, .ref (eN D) :: r, wN D) else none | _ => none)
  | .invokespecial _ => (match st with | .ref _ :: r => if jSum r ≤ 8 then some (ls, r, D) else none | _ => none)
  | _ => none
theorem eOp_ok {i : Instr} {a b c : Nat} {ls st : List Value} {D : eD} {L : Nat} {xs : Nat → Int32} {ls' st' : List Value} {D' : eD} (ok : eOk D) (h : eOp i a b c ls st D = some (ls', st', D')) : jOp i a b c ls st (den D L xs) = some (ls', st', den D' L xs) ∧ eOk D' := by
  cases i with
  | iconst n => cases h; exact ⟨rfl, ok⟩
  | bipush n => cases h; exact ⟨rfl, ok⟩
  | sipush n => cases h; exact ⟨rfl, ok⟩
  | lconst n => cases h; exact ⟨rfl, ok⟩
  | ldc_w n => cases h; exact ⟨rfl, ok⟩
  | ldc2_w n => cases h; exact ⟨rfl, ok⟩
  | aload_n n =>
    simp only [eOp] at h
    simp only [jOp, jLda]
    split at h
    · rename_i zqe; cases h; rw [zqe]; exact ⟨rfl, ok⟩
    · cases h
  | iload_n n =>
    simp only [eOp] at h
    simp only [jOp, jLdi]
    split at h
    · rename_i zqe; cases h; rw [zqe]; exact ⟨rfl, ok⟩
    · cases h
  | istore_n n =>
    simp only [eOp] at h
    simp only [jOp, jSti]
    split at h
    · split at h
      · rename_i zqe; cases h; simp only []; rw [if_pos zqe]; exact ⟨rfl, ok⟩
      · cases h
    · cases h
  | iinc n k =>
    simp only [eOp] at h
    simp only [jOp, jInc]
    split at h
    · rename_i zqe
      split at h
      · rename_i zqf; cases h; rw [zqe]; simp only []; rw [if_pos zqf]; exact ⟨rfl, ok⟩
      · cases h
    · cases h
  | iadd =>
    simp only [eOp] at h
    simp only [jOp, jB2]
    split at h
    · cases h; exact ⟨rfl, ok⟩
    · cases h
  | dup =>
    simp only [eOp] at h
    simp only [jOp]
    split at h
    · cases h; exact ⟨rfl, ok⟩
    · cases h; exact ⟨rfl, ok⟩
    · cases h
  | getfield n =>
    simp only [eOp] at h
    simp only [jOp]
    split at h
    · split at h
      · rename_i zqe
        split at h
        · split at h
          · rename_i zqf
            simp only [Option.some.injEq, Prod.mk.injEq] at h
            obtain ⟨z1, z2, z3⟩ := h
            rw [← z1, ← z2, ← z3]
            refine ⟨?_, ok⟩
            simp only []
            rw [if_pos (show _ < jN (den D L xs) ∧ _ from zqe)]
            rw [if_pos (show jR (den D L xs) _ _ < jN (den D L xs) from zqf)]
            rfl
          · cases h
        · cases h
      · cases h
    · cases h
  | putfield n =>
    simp only [eOp] at h
    simp only [jOp]
    split at h
    · split at h
      · split at h
        · rename_i zqe; cases h
          exact ⟨by simp only []; rw [if_pos (show _ < jN (den D L xs) ∧ _ from zqe)]; rfl, ok_I ok zqe.1⟩
        · cases h
      · cases h
    · split at h
      · split at h
        · rename_i zqe; cases h
          exact ⟨by simp only []; rw [if_pos (show _ < jN (den D L xs) ∧ _ from zqe)]; rfl, ok_L ok zqe.1⟩
        · cases h
      · cases h
    · split at h
      · split at h
        · rename_i zqe; cases h
          exact ⟨by simp only []; rw [if_pos (show (_ < jN (den D L xs) ∧ _) ∧ _ from zqe)]; rfl, ok_I ok zqe.1.1⟩
        · cases h
      · cases h
    · rename_i zc1 zc2 zc3
      split at h
      · split at h
        · rename_i zqe; cases h
          refine ⟨?_, ok_R ok zqe.1.1⟩
          split
          · exact absurd rfl zc1
          · exact absurd rfl zc2
          · exact absurd rfl zc3
          · simp only []; rw [if_pos (show (_ < jN (den D L xs) ∧ _) ∧ _ < jN (den D L xs) from zqe)]; rfl
        · cases h
      · cases h
  | iaload =>
    simp only [eOp] at h
    simp only [jOp]
    split at h
    · split at h
      · split at h
        · rename_i zqe
          simp only [Option.some.injEq, Prod.mk.injEq] at h
          obtain ⟨z1, z2, z3⟩ := h
          rw [← z1, ← z2, ← z3]
          exact ⟨by simp only []; rw [if_pos (show _ < jN (den D L xs) ∧ _ from zqe)]; rfl, ok⟩
        · cases h
      · cases h
    · cases h
  | iastore =>
    simp only [eOp] at h
    simp only [jOp]
    split at h
    · split at h
      · rename_i zqe; cases h
        exact ⟨by simp only []; rw [if_pos (show _ < jN (den D L xs) ∧ _ from zqe)]; rfl, ok_I ok zqe.1⟩
      · cases h
    · cases h
  | bastore =>
    simp only [eOp] at h
    simp only [jOp]
    split at h
    · split at h
      · rename_i zqe; cases h
        exact ⟨by simp only []; rw [if_pos (show (_ < jN (den D L xs) ∧ _) ∧ _ from zqe)]; rfl, ok_I ok zqe.1.1⟩
      · cases h
    · cases h
  | lastore =>
    simp only [eOp] at h
    simp only [jOp]
    split at h
    · split at h
      · rename_i zqe; cases h
        exact ⟨by simp only []; rw [if_pos (show _ < jN (den D L xs) ∧ _ from zqe)]; rfl, ok_L ok zqe.1⟩
      · cases h
    · cases h
  | aastore =>
    simp only [eOp] at h
    simp only [jOp]
    split at h
    · split at h
      · rename_i zqe; cases h
        exact ⟨by simp only []; rw [if_pos (show (_ < jN (den D L xs) ∧ _) ∧ _ < jN (den D L xs) ∧ _ from zqe)]; rfl, ok_R ok zqe.1.1⟩
      · cases h
    · cases h
  | new n =>
    simp only [eOp] at h
    simp only [jOp]
    split at h
    · rename_i zqe; cases h
      exact ⟨by rw [if_pos (show (jS (jN (den D L xs))).1 = a from zqe), den_N ok]; rfl, ok_N ok⟩
    · cases h
  | newarray n =>
    simp only [eOp] at h
    simp only [jOp]
    split at h
    · split at h
      · rename_i zqe; cases h
        exact ⟨by simp only []; rw [if_pos (show (jS (jN (den D L xs))).1 = 100 + a ∧ _ ∧ _ = (jS (jN (den D L xs))).2 from zqe), den_N ok]; rfl, ok_N ok⟩
      · cases h
    · cases h
  | anewarray n =>
    simp only [eOp] at h
    simp only [jOp]
    split at h
    · split at h
      · rename_i zqe; cases h
        exact ⟨by simp only []; rw [if_pos (show (jS (jN (den D L xs))).1 = 104 ∧ _ ∧ _ = (jS (jN (den D L xs))).2 from zqe), den_N ok]; rfl, ok_N ok⟩
      · cases h
    · cases h
  | invokespecial n =>
    simp only [eOp] at h
    simp only [jOp]
    split at h
    · split at h
      · rename_i zqe; cases h
        exact ⟨by simp only []; rw [if_pos zqe], ok⟩
      · cases h
    · cases h
  | _ => cases h
def eRecv (D : eD) (c : Nat) (args : List Value) : Bool := match c with
  | 0 => true
  | k + 1 => (match args with | .ref o :: _ => decide (o < eN D ∧ (jS o).1 = k) | _ => false)
def eRun : Nat → Nat → Nat → List jIns → List Value → List Value → eD → Option (Option Value × eD)
  | 0, _, _, _, _, _, _ => none
  | _ + 1, _, _, [], _, _, _ => none
  | n + 1, d, m, x :: rest, ls, st, D => match jKind x.2.1 x.2.2.1 with
    | 0 => (match eOp x.2.1 x.2.2.1 x.2.2.2.1 x.2.2.2.2 ls st D with
      | some q => eRun n d m rest q.1 q.2.1 q.2.2
      | none => none)
    | 1 => (match jBr x.2.1 st with
      | some q => eRun n d m (if q.1 = true then jAt m x.2.2.1 else rest) ls q.2 D
      | none => none)
    | 2 => if x.2.2.2.1 ≤ st.length ∧ eRecv D x.2.2.2.2 (st.take x.2.2.2.1).reverse = true ∧ jSum (st.drop x.2.2.2.1) ≤ 8 ∧ (jFlat (st.take x.2.2.2.1).reverse).length ≤ (jMth x.2.2.1).2.1 then
        (match d with
        | 0 => none
        | d' + 1 => (match eRun n d' x.2.2.1 (jAt x.2.2.1 0) (jEnt (jMth x.2.2.1).2.1 (st.take x.2.2.2.1).reverse) [] D with
          | some y => eRun n (d' + 1) m rest ls (y.1.toList ++ st.drop x.2.2.2.1) y.2
          | none => none))
      else none
    | 3 => (match jRet (jMth m).2.2 x.2.1 st with
      | some r => some (r, D)
      | none => none)
    | _ => none
theorem eRun_ok {L : Nat} {xs : Nat → Int32} : ∀ (n d m : Nat) (is : List jIns) (ls st : List Value) (D : eD) (r : Option Value) (D' : eD), eOk D → eRun n d m is ls st D = some (r, D') → jRun n d m is ls st (den D L xs) = some (r, den D' L xs) ∧ eOk D' := by
  intro n
  induction n with
  | zero => intro d m is ls st D r D' _ h; cases h
  | succ n ih =>
    intro d m is ls st D r D' ok h
    cases is with
    | nil => cases h
    | cons x rest =>
      simp only [eRun] at h
      split at h
      · rename_i zk0
        split at h
        · rename_i zq zqe
          obtain ⟨q1, q2, q3⟩ := zq
          obtain ⟨a1, a2⟩ := eOp_ok (L := L) (xs := xs) ok zqe
          rw [jRun_i (q := (rest, q1, q2, den q3 L xs)) (by simp only [jStep, zk0, a1])]
          exact ih _ _ _ _ _ _ _ _ a2 h
        · cases h
      · rename_i zk0
        split at h
        · rename_i zq zqe
          rw [jRun_i (q := (if zq.1 = true then jAt m x.2.2.1 else rest, ls, zq.2, den D L xs)) (by simp only [jStep, zk0, zqe])]
          exact ih _ _ _ _ _ _ _ _ ok h
        · cases h
      · rename_i zk0
        split at h
        · rename_i zc
          split at h
          · cases h
          · rename_i zd
            split at h
            · rename_i zy zqe
              obtain ⟨y1, y2⟩ := zy
              obtain ⟨a1, a2⟩ := ih _ _ _ _ _ _ _ _ ok zqe
              have hr : jRecv (den D L xs) x.2.2.2.2 (st.take x.2.2.2.1).reverse = true := zc.2.1
              rw [jRun_c (q := (x.2.2.1, (st.take x.2.2.2.1).reverse, st.drop x.2.2.2.1)) (by simp only [jStep, zk0]; rw [if_pos ⟨zc.1, hr, zc.2.2⟩])]
              simp only [a1]
              exact ih _ _ _ _ _ _ _ _ a2 h
            · cases h
        · cases h
      · rename_i zk0
        split at h
        · rename_i zv zqe
          cases h
          rw [jRun_r (r := r) (by simp only [jStep, zk0, zqe])]
          exact ⟨rfl, ok⟩
        · cases h
      · cases h
theorem jCl_e {L : Nat} {xs : Nat → Int32} {n d m : Nat} {args : List Value} {D D' : eD} {K : Option Value → jM → Prop} (ok : eOk D) (h : eRun n d m (jAt m 0) (jEnt (jMth m).2.1 args) [] D = some (none, D')) : jCl d m args (den D L xs) K = K none (den D' L xs) ∧ eOk D' := by
  obtain ⟨a1, a2⟩ := eRun_ok (L := L) (xs := xs) n d m _ _ _ D none D' ok h
  refine ⟨?_, a2⟩
  unfold jCl jGo
  apply propext
  constructor
  · rintro ⟨n2, r, h', e, k⟩
    have e1 := jRun_m (k := n) e
    have e2 := jRun_m (k := n2) a1
    rw [Nat.add_comm n n2, e1] at e2
    have e3 := Option.some.inj e2
    have e4 := congrArg (fun z => z.1) e3
    have e5 := congrArg (fun z => z.2) e3
    simp only at e4 e5
    rw [← e4, ← e5]; exact k
  · intro k
    exact ⟨n, none, _, a1, k⟩
