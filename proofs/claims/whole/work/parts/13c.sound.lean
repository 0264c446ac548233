/-! calls; and the whole -/
section JCALL
variable {p : Program} {l : Launch} {e : Env} {R : Room} {s : State} {m : MethodId} {args : Array Value} {below : List Frame} {meth : Method} {c0 : Code} {H : Heap} {locs : List Loc} {Q : State → Prop} {cells slots mc ms pc : Nat} {lsC : Array Slot} {st0 rest : List Value} {a : Array Value}
variable {z : Nat} {D : va_G} {cA : Nat → ClassId} {ad : Nat → Nat} {L : Nat} {xs : Nat → Int32} {r : Option Value} {h1 : jM}
theorem jCallW (hr : va_Run p l e R s m args below meth c0 H locs cells slots mc ms (F0 m pc lsC st0) rest (jQcv z D cA ad L xs r h1 a) (fun q => z ≤ q)) (hS : va_S (fun q => z ≤ q) s.heap H locs)
    (kk : ∀ (H1 : Heap) (locs1 : List Loc), (jN h1 ≤ 120 ∧ (jXn h1 = L ∧ jXs h1 = xs) ∧ (jN h1 < 120 → jEx h1 = 0)) → va_P D vwCl (jW cA ad h1) H1 → va_S (fun q => z ≤ q) s.heap H1 locs1 → W p l e R s m args below meth c0 H1 locs1 (cells + mc) (slots + ms) Q (F0 m (pc + 3) lsC ((r.map (jV ad)).toList ++ rest))) : W p l e R s m args below meth c0 H locs cells slots Q (F0 m pc lsC st0) := by
  intro T hT X
  obtain ⟨v, st₀, t, T', L9, h0, X', hL, e1, e2, ⟨hv, hpu, hP, hz, hk⟩, st⟩ := hr T hT X
  cases hv
  rw [h0] at hz hk
  obtain ⟨t2, a1, b1⟩ := kk T'.heap (locs ++ L9) hpu (by rw [e1]; exact hP)
    ⟨Nat.le_trans hS.1 (by rw [e1]; exact hz), fun q g1 g2 => by rw [e1, hk q (Nat.lt_of_lt_of_le g1 hS.1) g2]; exact hS.2.1 q g1 g2, fun q hq => by
      rcases List.mem_append.mp hq with h | h
      · exact hS.2.2 q h
      · exact hL q h⟩ T' rfl X'
  exact ⟨t2, st t2 a1, b1⟩
end JCALL
theorem jGoodIn (a : Nat) (h : jCodeW a ∈ jTbl) : GoodIn jTbl (jWs a) := by
  intro w hw
  have h1 : w ∈ jTbl := by
    rcases List.mem_cons.mp hw with rfl | h2
    · exact h
    · exact h2
  exact ⟨h1, good_of_word (List.mem_filter.mp h1).2⟩
set_option maxRecDepth 100000 in
theorem jArith {x d R : Nat} (q : x ≤ 45) (h : 64 * (d + 1) + 2000 ≤ R) : 8 + (x + 11) + (64 * d + 2000) ≤ R := by omega
theorem ck_maxL : ∀ m, m < 286 → (jMth m).2.1 ≤ 45 := by decide +kernel
theorem ck_own : ∀ k, k < 12 → (jC k).1 = jOwnS k := by decide +kernel
theorem jYb_lt {a : Nat} (h : a < 1000) : jYb a = jY a := by
  unfold jYb; split <;> first | omega | rfl
theorem ck_init : (List.range 286).all (fun m => !(decide ((jY m).name = "<init>")) || (match (jAt m 0) with | (_, .aload_n k, _, _, _) :: _ => decide (k = 0) | _ => false)) = true := by decide +kernel
theorem jInit_ref {n d a : Nat} {v : Value} {As : List Value} {h : jM} {y : Option Value × jM} (ha : a < 286) (hi : (jY a).name = "<init>") (hc : jRun n d a (jAt a 0) (jEnt (jMth a).2.1 (v :: As)) [] h = some y) : ∃ o, v = .ref o := by
  have h0 := List.all_eq_true.mp ck_init a (List.mem_range.mpr ha)
  simp only [hi, decide_true, Bool.not_true, Bool.false_or] at h0
  have hg : jGet (jEnt (jMth a).2.1 (v :: As)) 0 = v := by
    unfold jEnt jFlat jGet
    simp only [List.flatMap_cons]
    split <;> simp
  split at h0
  · rename_i pc k a1 b1 c1 rest hq
    simp only [decide_eq_true_eq] at h0
    subst h0
    rw [hq] at hc
    cases n with
    | zero => rw [jRun_0] at hc; cases hc
    | succ n =>
      cases v with
      | ref o => exact ⟨o, rfl⟩
      | _ =>
        exfalso
        rw [jRun_no] at hc
        · cases hc
        · simp only [jStep, jKind, jOp, jLda, Fin.isValue, Fin.val_zero, hg]
  · cases h0
set_option maxHeartbeats 4000000 in
theorem jSound_call {l : Launch} (hG : jGood) {n : Nat} (ih : jSd l n) {d M pc a b c : Nat} {i : Instr} {rest pre : List jIns} {ls st : List Value} {h h' h1 : jM} {r r1 : Option Value} {p : Program} {e : Env} {R : Room} {s : State} {m : MethodId} {args : Array Value} {below : List Frame} {meth : Method} {c0 : Code} {Q : State → Prop} {z n0 e0 : Nat} {D : va_G} {cA : Nat → ClassId} {ad : Nat → Nat} {L : Nat} {xs : Nat → Int32} {lsC : Array Slot} {H : Heap} {locs : List Loc}
    (hM : M < 286) (hpre : (jMth M).1 = pre ++ (pc, i, a, b, c) :: rest) (hnx : jNxOk (jMth M).1 = true) (hst : jSuf M rest) (C : jCx M (d + 1) z D cA ad L xs p R s m args meth c0) (hll : ls.length = (jMth M).2.1) (hl : lv_has lsC ls.length (jLv ad ls)) (hA : jPt z n0 e0 D cA ad L xs s h H locs) (hcc : jK h' - (n0 + e0) ≤ R.cells) (hcs : jTt h' - (jTot n0 + 16 * e0) ≤ R.slots)
    (hend : ∀ (i : Instr) (pc : Nat) (lsC' : Array Slot) (H' : Heap) (locs' : List Loc) (st' : List Value), jRtOk M (pc, i, 0, 0, 0) = true → decode (jBy M) pc = .ok (i, 1) → jRet (jMth M).2.2 i st' = some r → jPt z n0 e0 D cA ad L xs s h' H' locs' → W p l e R s m args below meth c0 H' locs' (jK h' - (n0 + e0)) (jTt h' - (jTot n0 + 16 * e0)) Q (F0 m pc lsC' (st'.map (jV ad))))
    (hk : jKind i a = 2) (hdc : decode (jBy M) pc = .ok (i, jLn i)) (hlk : jLkOk M (pc, i, a, b, c) = true) (hbl : b ≤ st.length) (hrv : jRecv h c (st.take b).reverse = true) (hsum : jSum (st.drop b) ≤ 8) (hfl : (jFlat (st.take b).reverse).length ≤ (jMth a).2.1)
    (hc : jRun n d a (jAt a 0) (jEnt (jMth a).2.1 (st.take b).reverse) [] h = some (r1, h1)) (hrun : jRun n (d + 1) M rest ls (r1.toList ++ st.drop b) h1 = some (r, h')) :
    W p l e R s m args below meth c0 H locs (jK h - (n0 + e0)) (jTt h - (jTot n0 + 16 * e0)) Q (F0 m pc lsC (st.map (jV ad))) := by
  obtain ⟨hx, hb, hml, hown, hts, hnm, hK, hSt, had, hfr, hlo, hz⟩ := id C
  have hle1 := jRun_le _ _ _ _ _ _ _ _ _ hc
  have hle2 := jRun_le _ _ _ _ _ _ _ _ _ hrun
  obtain ⟨hP, hS, hN, hn0, hsz0, hXX, he0, hex⟩ := id hA
  have ha3 : a < 1000 := by
    cases i <;> first | (simp [jKind] at hk; done) | (simp only [jKind] at hk; split at hk <;> first | assumption | cases hk)
  have hln : jLn i = 3 := by
    cases i <;> first | rfl | (simp [jKind] at hk; done)
  rw [hln] at hdc
  generalize has : (st.take b).reverse = as at hrv hfl hc
  have hstk : st.map (jV ad) = (as.map (jV ad)).reverse ++ (st.drop b).map (jV ad) := by
    rw [← has, ← List.map_reverse, List.reverse_reverse, ← List.map_append, List.take_append_drop]
  have hlen : as.length = b := by rw [← has, List.length_reverse, List.length_take]; omega
  have e1 : jK h - (n0 + e0) + (jK h1 - jK h) = jK h1 - (n0 + e0) := by unfold jK; omega
  have e2 : jTt h - (jTot n0 + 16 * e0) + (jTt h1 - jTt h) = jTt h1 - (jTot n0 + 16 * e0) := by
    have := jTot_m hn0; have := jTot_m hle1.1; unfold jTt; omega
  have hcells : jK h - (n0 + e0) + (jK h1 - jK h) ≤ R.cells ∧ jTt h - (jTot n0 + 16 * e0) + (jTt h1 - jTt h) ≤ R.slots := by
    rw [e1, e2]
    refine ⟨Nat.le_trans (Nat.sub_le_sub_right ?_ _) hcc, Nat.le_trans (Nat.sub_le_sub_right ?_ _) hcs⟩
    · exact Nat.add_le_add hle2.1 hle2.2
    · exact Nat.add_le_add (jTot_m hle2.1) (Nat.mul_le_mul_left 16 hle2.2)
  refine jSize fun hsz => ?_
  have hpcU : ∀ U : State, U.heap = H → s.WarmedH U.vm → jPcv z D cA ad L xs as h (as.map (jV ad)).toArray U := by
    intro U hU hW
    refine ⟨rfl, by rw [hU]; exact Nat.le_trans hz hS.1, ?_, by rw [hU]; exact hP, va_K.moved hW.alike hK, by rw [hU]; exact jSt_mv hSt hz hS.2.1 hW⟩
    rw [hU]
    rcases Nat.lt_or_ge (jN h) 120 with q | q
    · exact Or.inl (jSizeEq had hz hA rfl hsz q)
    · exact Or.inr (by omega)
  have hkk : ∀ (H1 : Heap) (locs1 : List Loc), (jN h1 ≤ 120 ∧ (jXn h1 = L ∧ jXs h1 = xs) ∧ (jN h1 < 120 → jEx h1 = 0)) → va_P D vwCl (jW cA ad h1) H1 → va_S (fun q => z ≤ q) s.heap H1 locs1 → W p l e R s m args below meth c0 H1 locs1 (jK h - (n0 + e0) + (jK h1 - jK h)) (jTt h - (jTot n0 + 16 * e0) + (jTt h1 - jTt h)) Q (F0 m (pc + 3) lsC ((r1.map (jV ad)).toList ++ (st.drop b).map (jV ad))) := by
    intro H1 locs1 hpu hP1 hS1
    rw [e1, e2]
    have key := ih (d + 1) M rest ls (r1.toList ++ st.drop b) h1 r h' hrun hM hst p e R s m args below meth c0 Q z n0 e0 D cA ad L xs C lsC H1 locs1 hll hl ⟨hP1, hS1, hpu.1, by omega, hsz0, hpu.2.1, by omega, hpu.2.2⟩ hcc hcs hend
    have e3 : (r1.toList ++ st.drop b).map (jV ad) = (r1.map (jV ad)).toList ++ (st.drop b).map (jV ad) := by cases r1 <;> simp
    have e4 : jPcOf rest = pc + 3 := by
      cases hq : rest with
      | nil => rw [hq, jRun_n] at hrun; cases hrun
      | cons y rr =>
        rw [hpre, hq] at hnx
        have := (jNx_of pre _ y rr hnx).resolve_left (by show ¬ (jKind i a = 3 ∨ jKind i a = 4); rw [hk]; decide)
        show y.1 = pc + 3
        rw [this, ← hln]
    rw [e3, e4] at key
    exact key
  have hfr2 : (jRm d (jK h1 - jK h) (jTt h1 - jTt h)).frames + 1 ≤ R.frames := by simp only [jRm]; omega
  have hlo2 : (jMth a).2.1 ≤ 45 → 8 + ((jMth a).2.1 + 11) + (jRm d (jK h1 - jK h) (jTt h1 - jTt h)).locals ≤ R.locals := by intro q; have e9 : (jRm d (jK h1 - jK h) (jTt h1 - jTt h)).locals = 64 * d + 2000 := rfl; rw [e9]; exact jArith q hlo
  rw [hstk]
  have hroom : ∀ {m9 : MethodId} {g : List Value}, 2 * (F0 m9 pc lsC g).monitorRoom + (((st.drop b).map (jV ad)).map fun v => v.category).sum ≤ 8 := lv_room (by rw [jSum_map]; exact hsum)
  cases i with
  | invokevirtual k =>
    simp only [jLkOk] at hlk
    rw [Bool.and_eq_true] at hlk
    obtain ⟨hlk1, hlk2⟩ := hlk
    simp only [Bool.or_eq_true, Bool.and_eq_true, decide_eq_true_eq, beq_iff_eq] at hlk2
    obtain ⟨⟨⟨⟨⟨⟨⟨g1, g2⟩, g3⟩, g4⟩, g5⟩, g6⟩, g7⟩, g8⟩ := hlk2.resolve_left (by omega)
    have hlink := (lk_meth hlk1).resolve_right (fun q => by have := q.1; omega)
    rw [jYb_lt ha3] at hlink
    obtain ⟨⟨m1, m2, m3, m4⟩, m5, m6, m7, m8⟩ := jMok_of (hG a g1).2.2 g2
    rw [if_neg (by omega)] at m2
    have m4 := (m4.resolve_left (by omega)).resolve_left g4
    subst g6
    cases as with
    | nil => simp [jRecv] at hrv
    | cons v As =>
      cases v with
      | ref o =>
        rw [jRecv_e] at hrv
        have hM0 := jMet (z := z) (D := D) (cA := cA) (ad := ad) (L := L) (xs := xs) hG ih hc g1 g2 hfl had hN hXX.1 hXX.2 hex
        have hlen2 : (As.map (jV ad)).length = b - 1 := by rw [List.length_map]; simp at hlen; omega
        refine jCallW (va_runV (As := As.map (jV ad)) (rest := (st.drop b).map (jV ad)) (n := b - 1) ⟨hx, hb, hml, hown, hts⟩ hM0 ⟨callB_of (b - 1) hts (jGoodIn a m1) rfl rfl rfl (hts _ m3) (hts _ hlink) ⟨m7.1, m7.2, of_decide_eq_true g7⟩ ⟨hfr2, hlo2 (ck_maxL a g1)⟩, hts _ m2, hts _ m4⟩ ⟨jPcv_blind, ?_, fun U hU hW => hpcU U hU hW⟩ rfl hlen2 (hl.1.trans hll) ?_ hroom hdc hcells) hS hkk
        · have hrc := va_recv (ci := jOn a) hK hP (jC_at g5) (show (jW cA ad h)[o]? = some (ad o, .inr (jOn a, jF ad h o (jOn a))) by rw [jW_get hrv.1, jE_o hrv.2 (by omega)])
          rw [m5, ← ck_own _ g5]
          exact hrc
        · simp [jV]
      | _ => simp [jRecv] at hrv
  | invokestatic k =>
    simp only [jLkOk] at hlk
    rw [Bool.and_eq_true] at hlk
    obtain ⟨hlk1, hlk2⟩ := hlk
    simp only [Bool.or_eq_true, Bool.and_eq_true, decide_eq_true_eq, beq_iff_eq] at hlk2
    obtain ⟨⟨⟨⟨g1, g2⟩, g3⟩, g4⟩, g5⟩ := hlk2.resolve_left (by omega)
    have hlink := (lk_meth hlk1).resolve_right (fun q => by have := q.1; omega)
    rw [jYb_lt ha3] at hlink
    obtain ⟨⟨m1, m2, m3, m4⟩, m5, m6, m7, m8⟩ := jMok_of (hG a g1).2.2 g2
    rw [if_pos g3] at m2
    have hM0 := jMet (z := z) (D := D) (cA := cA) (ad := ad) (L := L) (xs := xs) hG ih hc g1 g2 hfl had hN hXX.1 hXX.2 hex
    exact jCallW (va_runS (As := as.map (jV ad)) (rest := (st.drop b).map (jV ad)) (n := b) ⟨hx, hb, hml, hown, hts⟩ hM0 ⟨callB_of b hts (jGoodIn a m1) rfl rfl rfl (hts _ m3) (hts _ hlink) ⟨m7.1, m7.2, of_decide_eq_true g5⟩ ⟨hfr2, hlo2 (ck_maxL a g1)⟩, hts _ m2⟩ ⟨jPcv_blind, fun U hU hW => hpcU U hU hW⟩ rfl (by rw [List.length_map]; exact hlen) (hl.1.trans hll) rfl hroom hdc hcells) hS hkk
  | invokespecial k =>
    simp only [jLkOk] at hlk
    rw [Bool.and_eq_true] at hlk
    obtain ⟨hlk1, hlk2⟩ := hlk
    simp only [Bool.or_eq_true, Bool.and_eq_true, decide_eq_true_eq, beq_iff_eq] at hlk2
    obtain ⟨⟨⟨⟨⟨⟨⟨g1, g2⟩, g3⟩, g4⟩, g5⟩, g6⟩, g7⟩, g8⟩ := hlk2.resolve_left (by omega)
    obtain ⟨⟨m1, m2, m3, m4⟩, m5, m6, m7, m8⟩ := jMok_of (hG a g1).2.2 g2
    rw [if_neg (by omega)] at m2
    have hM0 := jMet (z := z) (D := D) (cA := cA) (ad := ad) (L := L) (xs := xs) hG ih hc g1 g2 hfl had hN hXX.1 hXX.2 hex
    have hrn : jRt a = none := g8
    cases as with
    | nil => simp at hlen; omega
    | cons v As =>
      have hlen2 : (As.map (jV ad)).length = b - 1 := by rw [List.length_map]; simp at hlen; omega
      have hvr : ∃ o, jV ad v = .ref o := by
        have := jInit_ref g1 g4 hc
        obtain ⟨o, rfl⟩ := this
        exact ⟨ad o, rfl⟩
      obtain ⟨o, ho⟩ := hvr
      have hpcU2 : ∀ U : State, U.heap = H → s.WarmedH U.vm → jPcv z D cA ad L xs (v :: As) h (Value.ref o :: As.map (jV ad)).toArray U := by rw [← ho]; exact hpcU
      have hstk2 : ((v :: As).map (jV ad)).reverse ++ (st.drop b).map (jV ad) = (As.map (jV ad)).reverse ++ .ref o :: (st.drop b).map (jV ad) := by rw [List.map_cons, ho]; simp
      have hcode : jWs a = Cond.code (jY a) (jBy a) (jMth a).2.1 none :: jTbl := by unfold jWs jCodeW; rw [hrn]
      rcases lk_meth hlk1 with hlink | ⟨-, hlink⟩
      · rw [jYb_lt ha3] at hlink
        exact jCallW (va_runI (As := As.map (jV ad)) (b := o) (rest := (st.drop b).map (jV ad)) (n := b - 1) ⟨hx, hb, hml, hown, hts⟩ hM0 ⟨callB_of (b - 1) hts (jGoodIn a m1) hcode rfl rfl (hts _ m3) (hts _ hlink) ⟨m7.1, m7.2, of_decide_eq_true g6⟩ ⟨hfr2, hlo2 (ck_maxL a g1)⟩, g4, hts _ m2⟩ ⟨jPcv_blind, fun U hU hW => hpcU2 U hU hW⟩ rfl hlen2 (hl.1.trans hll) hstk2 hroom hdc hcells) hS hkk
      · rw [jYb_lt ha3] at hlink
        exact jCallW (va_runIN (As := As.map (jV ad)) (b := o) (rest := (st.drop b).map (jV ad)) (n := b - 1) ⟨hx, hb, hml, hown, hts⟩ hM0 ⟨va_cnB (b - 1) hts (jGoodIn a m1) hcode rfl rfl (hSt.2.2.2.2.2.2.2.2.1 _ _ _ _ hlink) (hts _ m3) ⟨m7.1, m7.2, of_decide_eq_true g6⟩ ⟨hfr2, hlo2 (ck_maxL a g1)⟩, g4, hts _ m2⟩ ⟨jPcv_blind, fun U hU hW => hpcU2 U hU hW⟩ rfl hlen2 (hl.1.trans hll) hstk2 hroom hdc hcells) hS hkk
  | _ => simp [jKind] at hk

theorem jSw_of {pc : Nat} {x : Int32} {dflt lo hi : Int} {offs : Array Int} (h : (decide (0 ≤ (pc : Int) + dflt) && offs.all (fun o => decide (0 ≤ (pc : Int) + o)) && decide (offs.size = (hi - lo + 1).toNat) && decide (lo ≤ hi)) = true) :
    ((x.toInt < lo ∨ hi < x.toInt) ∧ (pc : Int) + dflt = (jSw pc (.tableswitch dflt lo hi offs) x : Int)) ∨ (¬ x.toInt < lo ∧ ¬ hi < x.toInt ∧ ∃ off, offs[(x.toInt - lo).toNat]? = some off ∧ (pc : Int) + off = (jSw pc (.tableswitch dflt lo hi offs) x : Int)) := by
  simp only [Bool.and_eq_true, decide_eq_true_eq] at h
  obtain ⟨⟨⟨h1, h2⟩, h3⟩, h4⟩ := h
  by_cases hc : x.toInt < lo ∨ hi < x.toInt
  · left
    refine ⟨hc, ?_⟩
    simp only [jSw, if_pos hc]
    omega
  · right
    have hlt : (x.toInt - lo).toNat < offs.size := by rw [h3]; omega
    have hoff := (Array.all_eq_true.mp h2) (x.toInt - lo).toNat hlt
    simp only [decide_eq_true_eq] at hoff
    refine ⟨fun q => hc (Or.inl q), fun q => hc (Or.inr q), offs[(x.toInt - lo).toNat], Array.getElem?_eq_getElem hlt, ?_⟩
    simp only [jSw, if_neg hc]
    rw [Array.getD_eq_getD_getElem?, Array.getElem?_eq_getElem hlt]
    simp only [Option.getD_some]
    omega
set_option maxHeartbeats 4000000 in
theorem jSound (l : Launch) (hG : jGood) (hB : jBlt l) : ∀ n, jSd l n := by
  intro n
  induction n with
  | zero => intro d M is ls st h r h' hrun; rw [jRun_0] at hrun; cases hrun
  | succ n ih =>
    intro d M is ls st h r h' hrun hM hsuf p e R s m args below meth c0 Q z n0 e0 D cA ad L xs C lsC H locs hll hl hA hcc hcs hend
    cases is with
    | nil => rw [jRun_n] at hrun; cases hrun
    | cons x rest =>
      obtain ⟨pc, i, a, b, c⟩ := x
      obtain ⟨pre, hpre⟩ := id hsuf
      obtain ⟨hall, hnx, hmok⟩ := hG M hM
      obtain ⟨hlk, hdc0, hro⟩ := hall (pc, i, a, b, c) (by rw [hpre]; simp)
      have hst := jSuf_t hsuf
      have hnext : ∀ y rr, rest = y :: rr → (jKind i a = 3 ∨ jKind i a = 4) ∨ y.1 = pc + jLn i := by
        intro y rr hy
        rw [hpre, hy] at hnx
        exact jNx_of pre _ y rr hnx
      show W p l e R s m args below meth c0 H locs (jK h - (n0 + e0)) (jTt h - (jTot n0 + 16 * e0)) Q (F0 m pc lsC (st.map (jV ad)))
      cases hs : jStep M (pc, i, a, b, c) rest ls st h with
      | none => rw [jRun_no hs] at hrun; cases hrun
      | some q =>
        rcases q with q | q | r0
        · rw [jRun_i hs] at hrun
          unfold jStep at hs
          simp only at hs
          split at hs
          · rename_i hk
            have hdc := jDc_of hdc0 (by show jKind i a ≠ 4; rw [hk]; decide)
            split at hs
            · rename_i w hw
              cases hs
              have hle := jRun_le _ _ _ _ _ _ _ _ _ hrun
              obtain ⟨ls', st', h2⟩ := w
              refine jOp_W hB C hk hlk ?_ ?_ ?_ hdc hw lsC H locs hll hl hA ?_ ?_ (fun lsC' H' locs' hll' hl' hA' => ?_)
              · intro g1 g2
                obtain ⟨k, rfl⟩ := g2
                simp only [jRtOk, decide_eq_true_eq] at hro
                omega
              · intro g1 g2
                obtain ⟨k, rfl⟩ := g2
                simp only [jRtOk, decide_eq_true_eq] at hro
                omega
              · intro g1 g2
                obtain ⟨k, rfl⟩ := g2
                simp only [jRtOk, decide_eq_true_eq] at hro
                omega
              · refine Nat.le_trans (Nat.sub_le_sub_right ?_ _) hcc
                exact Nat.add_le_add hle.1 hle.2
              · refine Nat.le_trans (Nat.sub_le_sub_right ?_ _) hcs
                exact Nat.add_le_add (jTot_m hle.1) (Nat.mul_le_mul_left 16 hle.2)
              · have key := ih d M rest ls' st' h2 r h' hrun hM hst p e R s m args below meth c0 Q z n0 e0 D cA ad L xs C lsC' H' locs' hll' hl' hA' hcc hcs hend
                cases hrest : rest with
                | nil => rw [hrest] at hrun; rw [jRun_n] at hrun; cases hrun
                | cons y rr =>
                  rw [hrest] at key
                  have hy := (hnext y rr hrest).resolve_left (by rw [hk]; decide)
                  have e1 : jPcOf (y :: rr) = pc + jLn i := hy
                  rw [e1] at key
                  exact key
            · cases hs
          · rename_i hk
            have hdc := jDc_of hdc0 (by show jKind i a ≠ 4; rw [hk]; decide)
            split at hs
            · rename_i w hw
              cases hs
              obtain ⟨tk, st'⟩ := w
              simp only at hrun hw
              have hgo : ∀ st2, jRun n d M (jAt M a) ls st2 h = some (r, h') → W p l e R s m args below meth c0 H locs (jK h - (n0 + e0)) (jTt h - (jTot n0 + 16 * e0)) Q (F0 m a lsC (st2.map (jV ad))) := by
                intro st2 hr2
                have key := ih d M (jAt M a) ls st2 h r h' hr2 hM (jAt_suf M a) p e R s m args below meth c0 Q z n0 e0 D cA ad L xs C lsC H locs hll hl hA hcc hcs hend
                cases hq : jAt M a with
                | nil => rw [hq, jRun_n] at hr2; cases hr2
                | cons y rr =>
                  rw [hq] at key
                  have e1 : jPcOf (y :: rr) = a := jAt_hd hq
                  rw [e1] at key
                  exact key
              have hrest : ∀ st2, jRun n d M rest ls st2 h = some (r, h') → W p l e R s m args below meth c0 H locs (jK h - (n0 + e0)) (jTt h - (jTot n0 + 16 * e0)) Q (F0 m (pc + jLn i) lsC (st2.map (jV ad))) := by
                intro st2 hr2
                have key := ih d M rest ls st2 h r h' hr2 hM hst p e R s m args below meth c0 Q z n0 e0 D cA ad L xs C lsC H locs hll hl hA hcc hcs hend
                cases hq : rest with
                | nil => rw [hq, jRun_n] at hr2; cases hr2
                | cons y rr =>
                  rw [hq] at key
                  have e1 : jPcOf (y :: rr) = pc + jLn i := (hnext y rr hq).resolve_left (by rw [hk]; decide)
                  rw [e1] at key
                  exact key
              obtain ⟨hx, hb, -⟩ := C
              cases i with
              | goto off =>
                simp only [jBr] at hw
                cases hw
                simp only [jLkOk, decide_eq_true_eq] at hlk
                rw [if_pos rfl] at hrun
                exact lv_goto hx hb hdc hlk (hgo _ hrun)
              | ifCond cd off =>
                simp only [jBr] at hw
                split at hw
                · rename_i v rr
                  cases hw
                  simp only [jLkOk, decide_eq_true_eq] at hlk
                  simp only [List.map_cons, jV]
                  cases cd with
                  | eq => exact lv_if_eq hx hb hdc hlk (fun g => hgo _ (by rw [if_pos (by simp [jCmp, g])] at hrun; exact hrun)) (fun g => hrest _ (by rw [if_neg (by simp [jCmp, g])] at hrun; exact hrun))
                  | ne => exact lv_if_ne hx hb hdc hlk (fun g => hgo _ (by rw [if_pos (by simp [jCmp, g])] at hrun; exact hrun)) (fun g => hrest _ (by rw [if_neg (by simpa [jCmp] using g)] at hrun; exact hrun))
                  | lt => exact lv_if_lt hx hb hdc hlk (fun g => hgo _ (by rw [if_pos (by simp [jCmp, g])] at hrun; exact hrun)) (fun g => hrest _ (by rw [if_neg (by simpa [jCmp] using g)] at hrun; exact hrun))
                  | ge => exact lv_if_ge hx hb hdc hlk (fun g => hgo _ (by rw [if_pos (by simp [jCmp, g])] at hrun; exact hrun)) (fun g => hrest _ (by rw [if_neg (by simpa [jCmp] using g)] at hrun; exact hrun))
                  | gt => exact lv_if_gt hx hb hdc hlk (fun g => hgo _ (by rw [if_pos (by simp [jCmp, g])] at hrun; exact hrun)) (fun g => hrest _ (by rw [if_neg (by simpa [jCmp] using g)] at hrun; exact hrun))
                  | le => exact lv_if_le hx hb hdc hlk (fun g => hgo _ (by rw [if_pos (by simp [jCmp, g])] at hrun; exact hrun)) (fun g => hrest _ (by rw [if_neg (by simpa [jCmp] using g)] at hrun; exact hrun))
                · cases hw
              | if_icmp cd off =>
                simp only [jBr] at hw
                split at hw
                · rename_i v2 v1 rr
                  cases hw
                  simp only [jLkOk, decide_eq_true_eq] at hlk
                  simp only [List.map_cons, jV]
                  cases cd with
                  | eq => exact lv_icmp_eq hx hb hdc hlk (fun g => hgo _ (by rw [if_pos (by simp [jCmp, g])] at hrun; exact hrun)) (fun g => hrest _ (by rw [if_neg (by simp [jCmp, g])] at hrun; exact hrun))
                  | ne => exact lv_icmp_ne hx hb hdc hlk (fun g => hgo _ (by rw [if_pos (by simp [jCmp, g])] at hrun; exact hrun)) (fun g => hrest _ (by rw [if_neg (by simpa [jCmp] using g)] at hrun; exact hrun))
                  | lt => exact lv_icmp_lt hx hb hdc hlk (fun g => hgo _ (by rw [if_pos (by simp [jCmp, g])] at hrun; exact hrun)) (fun g => hrest _ (by rw [if_neg (by simpa [jCmp] using g)] at hrun; exact hrun))
                  | ge => exact lv_icmp_ge hx hb hdc hlk (fun g => hgo _ (by rw [if_pos (by simp [jCmp, g])] at hrun; exact hrun)) (fun g => hrest _ (by rw [if_neg (by simpa [jCmp] using g)] at hrun; exact hrun))
                  | gt => exact lv_icmp_gt hx hb hdc hlk (fun g => hgo _ (by rw [if_pos (by simp [jCmp, g])] at hrun; exact hrun)) (fun g => hrest _ (by rw [if_neg (by simpa [jCmp] using g)] at hrun; exact hrun))
                  | le => exact lv_icmp_le hx hb hdc hlk (fun g => hgo _ (by rw [if_pos (by simp [jCmp, g])] at hrun; exact hrun)) (fun g => hrest _ (by rw [if_neg (by simpa [jCmp] using g)] at hrun; exact hrun))
                · cases hw
              | _ => simp only [jBr] at hw; cases hw
            · cases hs
          · split at hs <;> cases hs
          · split at hs <;> cases hs
          · rename_i hk
            obtain ⟨nn, hdc⟩ := jDc_sw hdc0
            split at hs
            · rename_i v rr
              cases hs
              simp only at hrun
              cases i with
              | tableswitch dflt lo hi offs =>
                have key := ih d M (jAt M (jSw pc (.tableswitch dflt lo hi offs) v)) ls rr h r h' hrun hM (jAt_suf M _) p e R s m args below meth c0 Q z n0 e0 D cA ad L xs C lsC H locs hll hl hA hcc hcs hend
                have e1 : jPcOf (jAt M (jSw pc (.tableswitch dflt lo hi offs) v)) = jSw pc (.tableswitch dflt lo hi offs) v := by
                  cases hq : jAt M (jSw pc (.tableswitch dflt lo hi offs) v) with
                  | nil => rw [hq, jRun_n] at hrun; cases hrun
                  | cons y r2 => exact jAt_hd hq
                rw [e1] at key
                simp only [List.map_cons, jV]
                rcases jSw_of (x := v) hlk with ⟨g1, g2⟩ | ⟨g1, g2, off, g3, g4⟩
                · exact lv_tableOut C.1 C.2.1 hdc g1 g2 key
                · exact lv_tableIn C.1 C.2.1 hdc g1 g2 g3 g4 key
              | _ => first | (simp [jKind] at hk; done) | (simp only [jKind] at hk; split at hk <;> cases hk)
            · cases hs
          · cases hs
        · obtain ⟨a', as, st'⟩ := q
          unfold jStep at hs
          simp only at hs
          split at hs
          · split at hs <;> cases hs
          · split at hs <;> cases hs
          · rename_i hk
            have hdc := jDc_of hdc0 (by show jKind i a ≠ 4; rw [hk]; decide)
            split at hs
            · rename_i hg
              have hs2 : jStep M (pc, i, a, b, c) rest ls st h = some (.inr (.inl (a, (st.take b).reverse, st.drop b))) := by
                unfold jStep; simp only [hk]; rw [if_pos hg]
              cases hs
              obtain ⟨hbl, hrv, hsum, hfl⟩ := hg
              cases d with
              | zero => rw [jRun_c0 hs2] at hrun; cases hrun
              | succ d =>
                rw [jRun_c hs2] at hrun
                simp only at hrun
                cases hc : jRun n d a (jAt a 0) (jEnt (jMth a).2.1 (st.take b).reverse) [] h with
                | none => rw [hc] at hrun; cases hrun
                | some y =>
                  rw [hc] at hrun
                  simp only at hrun
                  obtain ⟨r1, h1⟩ := y
                  exact jSound_call hG ih hM hpre hnx hst C hll hl hA hcc hcs hend hk hdc hlk hbl hrv hsum hfl hc hrun
            · cases hs
          · split at hs <;> cases hs
          · split at hs <;> cases hs
          · cases hs
        · rw [jRun_r hs] at hrun
          cases hrun
          unfold jStep at hs
          simp only at hs
          split at hs
          · split at hs <;> cases hs
          · split at hs <;> cases hs
          · split at hs <;> cases hs
          · rename_i hk
            have hdc := jDc_of hdc0 (by show jKind i a ≠ 4; rw [hk]; decide)
            split at hs
            · rename_i r2 hw
              cases hs
              have hln : jLn i = 1 := by
                cases i <;> first | rfl | (simp [jKind] at hk; done) | (simp only [jKind] at hk; split at hk <;> cases hk)
              have hro2 : jRtOk M (pc, i, 0, 0, 0) = true := by
                cases i <;> first | exact hro | rfl | (simp only [jKind] at hk; split at hk <;> cases hk)
              rw [hln] at hdc
              exact hend i pc lsC H locs st hro2 hdc hw hA
            · cases hs
          · split at hs <;> cases hs
          · cases hs
