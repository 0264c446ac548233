/-! OUR MACHINE IS SOUND: where it comes to an end, the real one does, with the same answer and the same cells -/
theorem jOp_le {i : Instr} {a b c : Nat} {ls st ls' st' : List Value} {h h' : jM} (hop : jOp i a b c ls st h = some (ls', st', h')) : jN h ≤ jN h' ∧ jEx h ≤ jEx h' := by
  cases i <;> simp only [jOp, jPush, jB1, jB2, jB3, jC1, jC2, jC3, jCS, jLdi, jLdl, jLda, jSti, jStl, jSta, jInc] at hop <;> first
    | (cases hop; done)
    | (cases hop; exact ⟨Nat.le_refl _, Nat.le_refl _⟩)
    | (repeat' split at hop
       all_goals first
         | (cases hop; done)
         | (cases hop; exact ⟨Nat.le_refl _, Nat.le_refl _⟩)
         | (cases hop; exact ⟨Nat.le_succ _, Nat.le_refl _⟩)
         | (cases hop; exact ⟨Nat.le_refl _, Nat.le_succ _⟩))
theorem jRun_le : ∀ (n d m : Nat) (is : List jIns) (ls st : List Value) (h : jM) (r : Option Value) (h' : jM), jRun n d m is ls st h = some (r, h') → jN h ≤ jN h' ∧ jEx h ≤ jEx h' := by
  intro n
  induction n with
  | zero => intro d m is ls st h r h' e; rw [jRun_0] at e; cases e
  | succ n ih =>
    intro d m is ls st h r h' e
    cases is with
    | nil => rw [jRun_n] at e; cases e
    | cons x rest =>
      cases hs : jStep m x rest ls st h with
      | none => rw [jRun_no hs] at e; cases e
      | some q =>
        rcases q with q | q | r0
        · rw [jRun_i hs] at e
          have h2 := ih _ _ _ _ _ _ _ _ e
          have h1 : jN h ≤ jN q.2.2.2 ∧ jEx h ≤ jEx q.2.2.2 := by
            unfold jStep at hs
            split at hs
            · split at hs
              · rename_i w hw; cases hs; exact jOp_le hw
              · cases hs
            · split at hs
              · cases hs; exact ⟨Nat.le_refl _, Nat.le_refl _⟩
              · cases hs
            · split at hs <;> cases hs
            · split at hs <;> cases hs
            · split at hs
              · cases hs; exact ⟨Nat.le_refl _, Nat.le_refl _⟩
              · cases hs
            · cases hs
          exact ⟨Nat.le_trans h1.1 h2.1, Nat.le_trans h1.2 h2.2⟩
        · cases d with
          | zero => rw [jRun_c0 hs] at e; cases e
          | succ d =>
            rw [jRun_c hs] at e
            cases hc : jRun n d q.1 (jAt q.1 0) (jEnt (jMth q.1).2.1 q.2.1) [] h with
            | none => rw [hc] at e; cases e
            | some y =>
              rw [hc] at e
              have h1 := ih _ _ _ _ _ _ _ _ hc
              have h2 := ih _ _ _ _ _ _ _ _ e
              exact ⟨Nat.le_trans h1.1 h2.1, Nat.le_trans h1.2 h2.2⟩
        · rw [jRun_r hs] at e; cases e
          exact ⟨Nat.le_refl _, Nat.le_refl _⟩
def jRtOk (m : Nat) (x : jIns) : Bool := match x.2.1 with
  | .ireturn => decide (jRt m = some .int ∨ jRt m = some .boolean)
  | .lreturn => decide (jRt m = some .long)
  | .areturn => (match jRt m with | some (.object _) => true | _ => false)
  | .return_ => decide (jRt m = none)
  | .invokevirtual _ => decide (x.2.2.1 < 1000 ∨ x.2.2.1 = 1002 ∨ x.2.2.1 = 1003)
  | .invokestatic _ => decide (x.2.2.1 < 1000 ∨ x.2.2.1 = 1001 ∨ x.2.2.1 = 1004 ∨ x.2.2.1 = 1005 ∨ x.2.2.1 = 1006)
  | .invokespecial _ => decide (x.2.2.1 < 1000 ∨ x.2.2.1 = 1000)
  | _ => true
def jGood : Prop := ∀ m, m < 286 → (∀ x ∈ (jMth m).1, jLkOk m x = true ∧ jDcOk m x = true ∧ jRtOk m x = true) ∧ jNxOk (jMth m).1 = true ∧ jMok m = true
def jSuf (m : Nat) (is : List jIns) : Prop := ∃ pre, (jMth m).1 = pre ++ is
theorem jSuf_t {m : Nat} {x : jIns} {is : List jIns} (h : jSuf m (x :: is)) : jSuf m is := by
  obtain ⟨pre, h⟩ := h
  exact ⟨pre ++ [x], by rw [h]; simp⟩
theorem jAt_suf (m pc : Nat) : jSuf m (jAt m pc) := by
  obtain ⟨pre, h⟩ := List.dropWhile_suffix (l := (jMth m).1) (fun q => !(Nat.beq q.1 pc))
  exact ⟨pre, h.symm⟩
theorem jAt_hd {m pc : Nat} {x : jIns} {is : List jIns} (h : jAt m pc = x :: is) : x.1 = pc := by
  have h1 : ∀ l : List jIns, l.dropWhile (fun q => !(Nat.beq q.1 pc)) = x :: is → x.1 = pc := by
    intro l
    induction l with
    | nil => intro e; cases e
    | cons y l ih =>
      intro e
      rw [List.dropWhile_cons] at e
      by_cases hy : (!(Nat.beq y.1 pc)) = true
      · rw [if_pos hy] at e; exact ih e
      · rw [if_neg hy] at e
        cases e
        simp only [Bool.not_eq_true', Bool.not_eq_false] at hy
        exact Nat.eq_of_beq_eq_true hy
  exact h1 _ h
def jPcOf (is : List jIns) : Nat := match is with | x :: _ => x.1 | [] => 0
theorem jNx_of : ∀ (pre : List jIns) (x y : jIns) (r : List jIns), jNxOk (pre ++ x :: y :: r) = true → (jKind x.2.1 x.2.2.1 = 3 ∨ jKind x.2.1 x.2.2.1 = 4) ∨ y.1 = x.1 + jLn x.2.1
  | [], x, y, r, h => by
    simp only [List.nil_append, jNxOk, Bool.and_eq_true, Bool.or_eq_true, beq_iff_eq] at h
    exact h.1
  | [w], x, y, r, h => by
    simp only [List.cons_append, List.nil_append, jNxOk, Bool.and_eq_true, Bool.or_eq_true, beq_iff_eq] at h
    exact h.2.1
  | w :: v :: pre, x, y, r, h => by
    simp only [List.cons_append] at h
    rw [jNxOk, Bool.and_eq_true] at h
    exact jNx_of (v :: pre) x y r h.2
theorem jDc_of {m : Nat} {x : jIns} (h : jDcOk m x = true) (hk : jKind x.2.1 x.2.2.1 ≠ 4) : decode (jBy m) x.1 = .ok (x.2.1, jLn x.2.1) := by
  unfold jDcOk at h
  split at h
  · rename_i q hq
    simp only [Bool.and_eq_true, Bool.or_eq_true, beq_iff_eq, decide_eq_true_eq] at h
    rw [hq, ← (h.2.resolve_left hk), ← h.1]
  · cases h
theorem jDc_sw {m : Nat} {x : jIns} (h : jDcOk m x = true) : ∃ n, decode (jBy m) x.1 = .ok (x.2.1, n) := by
  unfold jDcOk at h
  split at h
  · rename_i q hq
    simp only [Bool.and_eq_true, decide_eq_true_eq] at h
    exact ⟨q.2, by rw [hq, ← h.1]⟩
  · cases h
/-- what is claimed of runs of n steps at most -/
def jSd (l : Launch) (n : Nat) : Prop := ∀ (d M : Nat) (is : List jIns) (ls st : List Value) (h : jM) (r : Option Value) (h' : jM), jRun n d M is ls st h = some (r, h') → M < 286 → jSuf M is →
  ∀ (p : Program) (e : Env) (R : Room) (s : State) (m : MethodId) (args : Array Value) (below : List Frame) (meth : Method) (c0 : Code) (Q : State → Prop) (z n0 e0 : Nat) (D : va_G) (cA : Nat → ClassId) (ad : Nat → Nat) (L : Nat) (xs : Nat → Int32), jCx M d z D cA ad L xs p R s m args meth c0 →
  ∀ (lsC : Array Slot) (H : Heap) (locs : List Loc), ls.length = (jMth M).2.1 → lv_has lsC ls.length (jLv ad ls) → jPt z n0 e0 D cA ad L xs s h H locs → jK h' - (n0 + e0) ≤ R.cells → jTt h' - (jTot n0 + 16 * e0) ≤ R.slots →
  (∀ (i : Instr) (pc : Nat) (lsC' : Array Slot) (H' : Heap) (locs' : List Loc) (st' : List Value), jRtOk M (pc, i, 0, 0, 0) = true → decode (jBy M) pc = .ok (i, 1) → jRet (jMth M).2.2 i st' = some r → jPt z n0 e0 D cA ad L xs s h' H' locs' → W p l e R s m args below meth c0 H' locs' (jK h' - (n0 + e0)) (jTt h' - (jTot n0 + 16 * e0)) Q (F0 m pc lsC' (st'.map (jV ad)))) →
  W p l e R s m args below meth c0 H locs (jK h - (n0 + e0)) (jTt h - (jTot n0 + 16 * e0)) Q (F0 m (jPcOf is) lsC (st.map (jV ad)))
def jRm (d mc ms : Nat) : Room := { frames := d + 16, cells := mc, slots := ms, locals := 64 * d + 2000 }
def jWs (m : Nat) : List Cond := jCodeW m :: jTbl
def jPcv (z : Nat) (D : va_G) (cA : Nat → ClassId) (ad : Nat → Nat) (L : Nat) (xs : Nat → Int32) (as : List Value) (h : jM) : Array Value → State → Prop := va_Pc (as.map (jV ad)) (fun U => z ≤ U.heap.size ∧ (U.heap.size = z + jN h ∨ jN h = 120) ∧ va_P D vwCl (jW cA ad h) U.heap ∧ va_K D vwCl (jTys cA) U ∧ jSt z ad L xs U U.heap)
def jQcv (z : Nat) (D : va_G) (cA : Nat → ClassId) (ad : Nat → Nat) (L : Nat) (xs : Nat → Int32) (r : Option Value) (h1 : jM) : Array Value → State → Outcome → State → Prop := fun _ st oc t => oc = .returned (r.map (jV ad)) ∧ (jN h1 ≤ 120 ∧ (jXn h1 = L ∧ jXs h1 = xs) ∧ (jN h1 < 120 → jEx h1 = 0)) ∧ va_P D vwCl (jW cA ad h1) t.heap ∧ va_F (fun q => z ≤ q) st t
theorem jSt_same {z : Nat} {ad : Nat → Nat} {L : Nat} {xs : Nat → Int32} {u U : State} {H : Heap} (hv : U.vm = u.vm) (h : jSt z ad L xs u H) : jSt z ad L xs U H := by
  have ha : u.vm.Alike U.vm := by rw [hv]; exact Vm.Alike.refl u.vm
  obtain ⟨h1, h2, h3, h4, h5, h6, h7, h8, h9, h10⟩ := h
  exact ⟨h1.moved ha, h2.moved ha, h3.same hv, h4.moved ha, h5.moved ha, h6.moved ha, h7, fun a i b n d x hm => (h8 a i b n d x hm).same rfl hv.symm, fun a i y x hm => (h9 a i y x hm).same rfl hv.symm, va_AO.moved ha h10⟩
theorem jPcv_blind {z : Nat} {D : va_G} {cA : Nat → ClassId} {ad : Nat → Nat} {L : Nat} {xs : Nat → Int32} {as : List Value} {h : jM} : FrameBlind (jPcv z D cA ad L xs as h) := by
  intro a U g mk q
  obtain ⟨q0, q1, q2, q3, q4, q5⟩ := q
  exact ⟨q0, q1, q2, q3, va_K.moved (u := U) (U := U.calling g mk a) (Vm.Alike.refl U.vm) q4, jSt_same (u := U) rfl q5⟩
theorem lg_jFlat {ad : Nat → Nat} (as : List Value) : (lg_sl (as.map (jV ad))).length = (jFlat as).length := by
  induction as with
  | nil => rfl
  | cons a as ih =>
    have e1 : lg_sl ((a :: as).map (jV ad)) = (if (jV ad a).category = 2 then [Slot.val (jV ad a), .second] else [.val (jV ad a)]) ++ lg_sl (as.map (jV ad)) := by simp [lg_sl]
    have e2 : jFlat (a :: as) = (if jCat2 a then [a, .null] else [a]) ++ jFlat as := by simp [jFlat]
    rw [e1, e2, List.length_append, List.length_append, ih, jV_cat]
    by_cases hc : a.category = 2 <;> simp [jCat2, hc]
theorem jMok_of {m : Nat} (h : jMok m = true) (hl : m ≠ jLaw) : (jCodeW m ∈ jTbl ∧ (if jIsStat m = 1 then Cond.static (jY m) else Cond.instanceMethod (jY m)) ∈ jTbl ∧ Cond.initialized (jY m).cls ∈ jTbl ∧ (jIsStat m = 1 ∨ (jY m).name = "<init>" ∨ Cond.selects (jY m).cls (jY m) (jY m) ∈ jTbl)) ∧ (jY m).cls = jOwnS (jOn m) ∧ plainName (jY m).cls = true ∧ ((jY m).cls ≠ "java/lang/invoke/MethodHandle" ∧ (jY m).cls ≠ "java/lang/invoke/VarHandle") ∧ (jMth m).2.2 = if jRt m = some .boolean then 1 else 0 := by
  unfold jMok at h
  simp only [Bool.or_eq_true, Bool.and_eq_true, decide_eq_true_eq] at h
  rcases h with h | h
  · exact absurd h hl
  · obtain ⟨⟨⟨⟨⟨⟨⟨h1, h2⟩, h3⟩, h4⟩, h5⟩, h6⟩, h7⟩, h8⟩ := h
    refine ⟨⟨?_, jTbl_in h2 (by split <;> rfl), jTbl_in h3 rfl, ?_⟩, h5, h6, h7, h8⟩
    · split at h1
      · rename_i y bb n r hq
        simp only [decide_eq_true_eq] at h1
        obtain ⟨rfl, rfl, rfl⟩ := h1
        have e : jBy m = bb := by unfold jBy; rw [if_neg hl, hq]
        have e2 : jCodeW m = .code (jY m) bb (jMth m).2.1 (jRt m) := by unfold jCodeW; rw [e]
        rw [e2]
        exact jTbl_in hq rfl
      · cases h1
    · rcases h4 with (h4 | h4) | h4
      · exact Or.inl h4
      · exact Or.inr (Or.inl h4)
      · exact Or.inr (Or.inr (jTbl_in h4 rfl))
/-- a return of nothing, whatever lies on the stack -/
theorem jVret {p : Program} {l : Launch} {e : Env} {R : Room} {s : State} {m : MethodId} {args : Array Value} {below : List Frame} {meth : Method} {c : Code} {H : Heap} {locs : List Loc} {cells slots : Nat} {cc : ByteArray} {Qc : Array Value → State → Outcome → State → Prop} {free : Addr → Prop} (hexec : p.tables.exec = Jvm.exec) (hb : c.code = cc) (hr : meth.sig.returnType = none) (hlocks : meth.locks = false)
    (hq : ∀ t : State, t.heap = H → s.WarmedH t.vm → Qc args s (.returned none) t) (hf : ∀ q ∈ locs, free q.base)
    {pc : Nat} {ls : Array Slot} {st : List Value} (hdg : decode cc pc = .ok (.return_, 1)) : W p l e R s m args below meth c H locs cells slots (MQ below Qc args s cells slots free) (F0 m pc ls st) := by
  intro T hT X
  obtain ⟨fs, hret, hrun, hended, hW, hframe⟩ := X.leave (v := none) (fun _ => rfl)
  have hmeth' : T.vm.method? m = some meth := X.method'
  refine ⟨T.setFrames fs, ?_, .returned none, hrun, hended, hq _ hT hW, locs, ⟨⟨_, rfl⟩, hW, hframe⟩, hf⟩
  jvm_step X.here [X.here.top, hexec, hb, hdg, hmeth', hr]
  (try refine ⟨rfl, ?_⟩); (try refine ⟨rfl, ?_⟩)
  first | (intro acts; rw [hret _ acts rfl rfl rfl]) | rw [hret _ _ rfl rfl rfl]
  exact Steps.refl _
/-- a method of ours meets its contract -/
theorem jMet {l : Launch} {n d a : Nat} {as : List Value} {h h1 : jM} {r : Option Value} {z : Nat} {D : va_G} {cA : Nat → ClassId} {ad : Nat → Nat} {L : Nat} {xs : Nat → Int32} (hG : jGood) (hS : jSd l n) (hrun : jRun n d a (jAt a 0) (jEnt (jMth a).2.1 as) [] h = some (r, h1)) (ha : a < 286) (hal : a ≠ jLaw) (hfl : (jFlat as).length ≤ (jMth a).2.1) (had : ∀ i, i < 1000 → ad i = z + i) (hn : jN h ≤ 120) (hx1 : jXn h = L) (hx2 : jXs h = xs) (hex : jN h < 120 → jEx h = 0) :
    Met l (jY a) (jWs a) (jRm d (jK h1 - jK h) (jTt h1 - jTt h)) (jPcv z D cA ad L xs as h) (jQcv z D cA ad L xs r h1) (jK h1 - jK h) (jTt h1 - jTt h) (fun q => z ≤ q) := by
  obtain ⟨⟨-, -, -, -⟩, hcls, hpl, -, hz2⟩ := jMok_of (hG a ha).2.2 hal
  refine Met.ofW (cc := jBy a) (maxL := (jMth a).2.1) (ret := jRt a) hpl rfl ?_
  intro p e s m args below meth c s₁ B hml hv
  obtain ⟨rfl, hz, hsz, hP, hK, hSt⟩ := hv
  have hts := atoms_spec (ws := jWs a) B.pre
  have hlocks := B.notSynchronized
  have hr := B.returns
  have hl := lv_entry (as.map (jV ad)) (n := (jMth a).2.1) (by rw [lg_jFlat]; exact hfl)
  rw [lg_entry_eq]
  generalize (lg_sl (as.map (jV ad)) ++ List.replicate ((jMth a).2.1 - (lg_sl (as.map (jV ad))).length) Slot.unset).toArray = lsC at hl ⊢
  have hpc : jPcOf (jAt a 0) = 0 := by
    cases hq : jAt a 0 with
    | nil => rw [hq, jRun_n] at hrun; cases hrun
    | cons x is => exact jAt_hd hq
  have key := hS d a (jAt a 0) (jEnt (jMth a).2.1 as) [] h r h1 hrun ha (jAt_suf a 0) p e (jRm d (jK h1 - jK h) (jTt h1 - jTt h)) s m _ below meth c (MQ below (jQcv z D cA ad L xs r h1) (as.map (jV ad)).toArray s (jK h1 - jK h) (jTt h1 - jTt h) (fun q => z ≤ q)) z (jN h) (jEx h) D cA ad L xs
    ⟨B.exec, B.bytes, hml, by rw [← hcls]; exact findClass_of_methodNamed B.named, fun w hw => hts w (List.mem_cons_of_mem _ hw), fun q => by rw [(name_of_methodNamed B.named B.method).1]; exact q, hK, hSt, had, Nat.le_refl _, Nat.le_refl _, hz⟩ lsC s.heap [] (jEnt_len hfl) (by rw [jEnt_len hfl]; exact jLv_ent hl) ⟨hP, va_S.rf, hn, Nat.le_refl _, hsz, ⟨hx1, hx2⟩, Nat.le_refl _, hex⟩ (Nat.le_refl _) (Nat.le_refl _) ?_
  · rw [hpc, show jK h - (jN h + jEx h) = 0 from Nat.sub_self _, show jTt h - (jTot (jN h) + 16 * jEx h) = 0 from Nat.sub_self _] at key
    exact key
  · intro i pc lsC' H' locs' st' hro hdc hret hA
    have hS2 := hA.2.1
    have hq : ∀ t : State, t.heap = H' → s.WarmedH t.vm → jQcv z D cA ad L xs r h1 (as.map (jV ad)).toArray s (.returned (r.map (jV ad))) t := fun t ht _ => ⟨rfl, ⟨hA.2.2.1, hA.2.2.2.2.2.1, hA.2.2.2.2.2.2.2⟩, by rw [ht]; exact hA.1, hS2.F ht⟩
    cases i with
    | return_ =>
      simp only [jRet] at hret
      cases hret
      simp only [jRtOk, decide_eq_true_eq] at hro
      cases st' with
      | nil => exact W.vret B.exec B.bytes (by rw [hr]; exact hro) hq hS2.2.2 hdc
      | cons v w => exact jVret B.exec B.bytes (by rw [hr]; exact hro) hlocks hq hS2.2.2 hdc
    | lreturn =>
      simp only [jRet] at hret
      split at hret
      · cases hret
        simp only [jRtOk, decide_eq_true_eq] at hro
        exact W.lret B.exec B.bytes (by rw [hr]; exact hro) hq hS2.2.2 hdc
      · cases hret
    | areturn =>
      simp only [jRet] at hret
      split at hret
      · rename_i x
        cases hret
        simp only [jRtOk] at hro
        cases hrt : jRt a with
        | none => rw [hrt] at hro; cases hro
        | some ty =>
          rw [hrt] at hro hr
          cases ty with
          | object cn => exact W.aret B.exec B.bytes hr (Or.inl ⟨cn, rfl⟩) (Or.inr ⟨ad x, rfl⟩) hq hS2.2.2 hdc
          | _ => cases hro
      · cases hret
    | ireturn =>
      simp only [jRet] at hret
      split at hret
      · rename_i x
        simp only [jRtOk, decide_eq_true_eq] at hro
        rcases hro with hro | hro
        · rw [hro] at hz2
          rw [if_neg (by intro q; cases q)] at hz2
          rw [hz2, if_neg (by decide)] at hret
          cases hret
          exact W.iret B.exec B.bytes (by rw [hr]; exact hro) hq hS2.2.2 hdc
        · rw [hro] at hz2
          rw [if_pos rfl] at hz2
          rw [hz2, if_pos rfl] at hret
          split at hret
          · rename_i hx01
            cases hret
            exact W.zret B.exec B.bytes (hr.trans hro) (by rcases hx01 with rfl | rfl <;> rfl) hq hS2.2.2 hdc
          · cases hret
      · cases hret
    | _ => simp only [jRet] at hret; cases hret
