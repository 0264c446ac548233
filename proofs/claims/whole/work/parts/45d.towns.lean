/-! towns: the case -/
def Py (o k : Nat) : Bool := Pf o k && (!(decide (o = 99) && decide (22 ≤ k)) && (!(decide (o = 0) && decide (k = 9)) && (!(decide (o = 93) && decide (k = 18)) && (!(decide (102 ≤ o) && decide (o ≤ 105)) && !(decide (54 ≤ o) && decide (o ≤ 65))))))
def pyO (o : Nat) : Prop := pfO o ∧ o ≠ 99 ∧ o ≠ 0 ∧ (o < 102 ∨ 105 < o) ∧ (o < 54 ∨ 65 < o)
theorem Py_o {o k : Nat} (h : pyO o) : Py o k = true := by
  obtain ⟨h0, a, b, c, d⟩ := h
  have h1 : o ≠ 93 := h0.2.1
  simp only [Py, Pf_o h0, Bool.true_and, Bool.and_eq_true, Bool.not_eq_true', Bool.and_eq_false_iff, decide_eq_false_iff_not]
  omega
theorem Py_93 {k : Nat} (h : k ∉ scrF) (h2 : k ≠ 2) (h3 : k ≠ 18) : Py 93 k = true := by
  simp only [Py, Pf_93 h h2, Bool.true_and, Bool.and_eq_true, Bool.not_eq_true', Bool.and_eq_false_iff, decide_eq_false_iff_not]
  omega
theorem Py_0 {k : Nat} (h : k ≠ 9) : Py 0 k = true := by
  simp only [Py, Pf_o Pf_u.1, Bool.true_and, Bool.and_eq_true, Bool.not_eq_true', Bool.and_eq_false_iff, decide_eq_false_iff_not]
  omega
theorem Py_99 {k : Nat} (h : k < 22) : Py 99 k = true := by
  simp only [Py, Pf_o Pf_u.2.2.2.1, Bool.true_and, Bool.and_eq_true, Bool.not_eq_true', Bool.and_eq_false_iff, decide_eq_false_iff_not]
  omega
theorem Py_110 {k : Nat} (h : k < 609) : Py 110 k = true := by
  simp only [Py, Pf_110 h, Bool.true_and, Bool.and_eq_true, Bool.not_eq_true', Bool.and_eq_false_iff, decide_eq_false_iff_not]
  omega
theorem Py_s : ∀ i, i < 8 → pyO (3 + i) := by unfold pyO pfO; decide +kernel
theorem Py_m : ∀ m, m < 4 → ∀ i, i < 8 → pyO (20 + 8 * m + i) := fun m hm i hi => ⟨Pf_m m hm i hi, by omega, by omega, by omega, by omega⟩
theorem Py_u : pyO 53 ∧ pyO 98 ∧ pyO 109 ∧ pyO 52 ∧ pyO 111 := by unfold pyO pfO; refine ⟨?_, ?_, ?_, ?_, ?_⟩ <;> decide
/-- what a reading leaves as it is -/
theorem rW.y {w : kW} {h : jM} {h2 : jM} {q : kQ} (x : rW h q w) (a : smP Py h h2) : ((∀ i, i < 17 → jL h2 98 i = lN (wds.getD i 0)) ∧ ∀ i, i < 4 → jI h2 109 i = nI 0) ∧ rNw h2 (wS w) ∧ rMk h2 (wS w) (wM w) (wL w) ∧ rDn h2 (wS w) (wD w) := by
  obtain ⟨u1, u2, u3, u4, u5⟩ := Py_u
  have N := x.2.2.1
  refine ⟨⟨fun i hi => ?_, fun i hi => ?_⟩, ⟨a.S (fun i hi _ => Py_o (Py_s i hi)) N.1, a.V (fun k hk => Py_110 (by omega)) N.2.1, ?_, N.2.2.2⟩, fun m hm => ?_, ?_⟩
  · rw [a.l (Py_o u2)]; exact x.1.2.1 i hi
  · rw [a.i (Py_o u3)]; exact x.1.2.2 i hi
  · have f := N.2.2.1
    refine ⟨?_, ?_⟩
    · rw [a.i (Py_99 (by omega))]; exact f.1
    · rw [a.i (Py_99 (by omega))]; exact f.2
  · have y : rM1 h (tF (s1 (wS w))) (tF (s2 (wS w))) m (wM w m) (wL w m) := x.2.2.2.1 m hm
    exact a.M1 (Py_o u4) (Py_o u5) (fun i hi _ => Py_o (Py_m m hm i hi)) (fun k hk => Py_110 (by omega)) y
  · obtain ⟨d1, d2, d3, d4, d5⟩ := x.2.2.2.2.1
    refine ⟨d1, ?_, ?_, d4, fun k hk => ?_⟩
    · rw [a.i (Py_0 (by decide))]; exact d2
    · rw [a.i (Py_93 (by decide) (by decide) (by decide))]; exact d3
    · obtain ⟨y1, y2, y3, y4⟩ := d5 k hk
      have hk16 : k < 16 := Nat.lt_of_lt_of_le hk d1
      refine ⟨?_, y2, a.U (fun i hi => Py_110 (by omega)) y3, y4⟩
      rw [a.i (Py_o u1)]; exact y1
/-- and the claim, where it isn't the spare one -/
theorem rK.y {c : kC} {h : jM} {h2 : jM} {q : kQ} (x : rK h q c) (e1 : jI h2 0 9 = jI h 0 9) (e2 : jI h2 93 18 = jI h 93 18) (e3 : ∀ i, i < 5 → ∀ k, jI h2 (qC q + i) k = jI h (qC q + i) k ∧ jL h2 (qC q + i) k = jL h (qC q + i) k) (e4 : ∀ i, i < 4 → ∀ k, k < 60 → jI h2 (102 + i) k = jI h (102 + i) k) : rK h2 q c := by
  obtain ⟨x1, x2, x3⟩ := x
  refine ⟨by rw [e1]; exact x1, by rw [e2]; exact x2, fun z => ?_⟩
  obtain ⟨y1, ⟨⟨z1, z2, z3⟩, z4, b, z5, z6⟩, y3⟩ := x3 z
  have n60 := y1.2.2.1
  have e0 : ∀ k, jI h2 (qC q) k = jI h (qC q) k ∧ jL h2 (qC q) k = jL h (qC q) k := fun k => e3 0 (by omega) k
  refine ⟨y1, ⟨⟨?_, ?_, ?_⟩, fun i hi => ?_, b, ?_, fun t => ?_⟩, fun i hi => ?_⟩
  · rw [(e0 5).1]; exact z1
  · rw [(e0 6).1]; exact z2
  · rw [(e0 7).1]; exact z3
  · rw [(e3 1 (by omega) i).1, (e3 2 (by omega) i).1, (e3 3 (by omega) i).1, (e3 4 (by omega) i).1]; exact z4 i hi
  · rw [(e0 8).1]; exact z5
  · rw [(e0 9).2, (e0 10).1]; exact z6 t
  · rw [e4 0 (by omega) i (by omega), e4 1 (by omega) i (by omega), e4 2 (by omega) i (by omega), e4 3 (by omega) i (by omega)]; exact y3 i hi
theorem Py_tf {o k : Nat} (z : Py o k = true) : pTf o k = true := by
  unfold Py Pf at z
  simp only [Bool.and_eq_true, Bool.not_eq_true', Bool.and_eq_false_iff, decide_eq_false_iff_not] at z
  obtain ⟨⟨zi, z1, z2, z3, z4⟩, z5, z6, z7, z8, z9⟩ := z
  have n1 : ∀ s, s ∈ scrO → o ≠ s := fun s hs e => by rw [e, imp_s hs] at zi; cases zi
  have n2 : ∀ s, s ∈ scrF → ¬ (o = 93 ∧ k = s) := fun s hs e => by rw [e.1, e.2, imp_f hs] at zi; cases zi
  have a1 := n1 95 (by decide)
  have a2 := n1 96 (by decide)
  have a3 := n1 97 (by decide)
  have a4 := n1 100 (by decide)
  have a5 := n1 101 (by decide)
  have b1 := n2 3 (by decide)
  have b2 := n2 7 (by decide)
  have b3 := n2 8 (by decide)
  have b4 := n2 13 (by decide)
  simp only [pTf, pCt, pTw, Bool.and_eq_true, Bool.not_eq_true', Bool.and_eq_false_iff, Bool.or_eq_false_iff, decide_eq_false_iff_not]
  omega
def c0 : kC := (0, p0, p0, p0, p0)
set_option maxRecDepth 100000 in
set_option maxHeartbeats 4000000 in
theorem case_1 : cs_1 Inv := by
  rintro n h hn ⟨q, w, a, g, x, ag, ha⟩
  have hn2 := n64 hn ha
  obtain ⟨x1, x2, x3, x4⟩ := x.2.1
  have A0 : rA1 h (wA w) := ⟨x1, x2, fun i hi => ⟨(x4 i hi).1, (x4 i hi).2.2⟩⟩
  obtain ⟨h1, r1, g1, t1, fF, fO⟩ := T_towns (d := 892) g A0
  by_cases c : (twR (wA w)).1 = 0
  · obtain ⟨S1, h9, h6, l1, f1⟩ := fO c
    obtain ⟨h2, r2, g2, t2, -, mO⟩ := M_towns (a := wA w) (d := 892) g1 x1 (by rw [f1.i (by decide)]; exact x3) (fun i hi => by rw [f1.i (by decide)]; exact (x4 i hi).2) (fun k hk => by rw [f1.l (by decide)]; exact x.1.2.1 k hk)
    obtain ⟨s2, V2, F2, ⟨m18, m28⟩, m111⟩ := mO c
    have ok := rdA_ok (a := wA w) 1000 D0 (pt (wA w) 0) D0_ok
    have o1 : tOk (twR (wA w)).2.1.1 := ok.1.1
    have o2 : tOk (twR (wA w)).2.1.2.1 := ok.1.2
    have fr2 : jFr h1 h2 := s2.1
    refine ⟨nI (twR (wA w)).1, h1, h2, r1, f1.2.1, r2, f1.2.1.tr fr2, ⟨q, ((0, p0), sB (twR (wA w)).2.1.1 (twR (wA w)).2.1.2.1, fun _ => sB T0 T0, fun _ => false, (0, p0, fun _ => su (sB (twR (wA w)).2.1.1 (twR (wA w)).2.1.2.1)), c0), a, g2, ⟨⟨x.1.1, fun i hi => ?_, fun i hi => ?_⟩, ⟨Nat.zero_le _, ?_, t2, fun i hi => absurd hi (Nat.not_lt_zero _)⟩, ⟨?_, V2, F2, sOk_B o1 o2⟩, fun m hm => ⟨?_, m111 m hm, fun z => by cases z⟩, ⟨Nat.zero_le _, ?_, m28, rfl, fun k hk => absurd hk (Nat.not_lt_zero _)⟩, ⟨?_, m18, fun z => absurd z (Nat.lt_irrefl 0)⟩⟩, ag.k ?_ ?_, by omega⟩⟩
    · rw [s2.l (by simp [pTe, pTf, pCt, pTw, pBg]), mTh_sm.l (imp_o (by decide) (by decide) (by decide)), f1.l (by decide)]; exact x.1.2.1 i hi
    · rw [s2.i (by simp [pTe, pTf, pCt, pTw, pBg]), mTh_sm.i (imp_o (by decide) (by decide) (by decide)), f1.i (by decide)]; exact x.1.2.2 i hi
    · rw [s2.i (by decide), mTh_sm.i (by decide)]; exact t1
    · have e : ∀ o, 3 ≤ o → o < 11 → jI h2 o = jI h1 o ∧ jL h2 o = jL h1 o := fun o ho1 ho2 => by
        have p : ∀ k, pTe o k = true := fun k => by
          simp only [pTe, pTf, pCt, pTw, pBg, Bool.and_eq_true, Bool.not_eq_true', Bool.and_eq_false_iff, Bool.or_eq_false_iff, decide_eq_false_iff_not]
          omega
        refine ⟨funext fun k => ?_, funext fun k => ?_⟩
        · rw [s2.i (p k), jI_mTh, if_neg (by omega)]
        · rw [s2.l (p k)]; rfl
      obtain ⟨s1, s2', s3, s4, s5, s6, s7⟩ := S1
      refine ⟨?_, ?_, ?_, ?_, ?_, ?_, ?_⟩
      · unfold rT; rw [(e (3 + 1) (by omega) (by omega)).1, (e (3 + 1 + 1) (by omega) (by omega)).1, (e (3 + 1 + 2) (by omega) (by omega)).1]; exact s1
      · unfold rT; rw [(e (3 + 4) (by omega) (by omega)).1, (e (3 + 4 + 1) (by omega) (by omega)).1, (e (3 + 4 + 2) (by omega) (by omega)).1]; exact s2'
      · rw [(e (3 + 7) (by omega) (by omega)).1]; exact s3
      · rw [(e 3 (by omega) (by omega)).1]; exact s4
      · rw [(e 3 (by omega) (by omega)).1]; exact s5
      · rw [(e 3 (by omega) (by omega)).2]; exact s6
      · rw [(e 3 (by omega) (by omega)).1]; exact s7
    · rw [s2.i (by simp [pTe, pTf, pCt, pTw, pBg]), mTh_sm.i (imp_o (by decide) (by decide) (by decide))]; exact l1 m hm
    · rw [s2.i (by decide), mTh_sm.i (imp_o (by decide) (by decide) (by decide))]; exact h6
    · rw [s2.i (by decide), mTh_sm.i (imp_o (by decide) (by decide) (by decide))]; exact h9
    · rw [s2.i (by decide), jI_mTh, if_neg (by omega), f1.i (by decide)]
    · funext k
      rw [s2.i (by simp [pTe, pTf, pCt, pTw, pBg]), jI_mTh, if_neg (by omega), f1.i (by decide)]
  · have f1 := fF c
    obtain ⟨h2, r2, g2, t2, mF, -⟩ := M_towns (a := wA w) (d := 892) g1 x1 (by rw [f1.i (by decide)]; exact x3) (fun i hi => by rw [f1.i (by decide)]; exact (x4 i hi).2) (fun k hk => by rw [f1.l (by decide)]; exact x.1.2.1 k hk)
    have s2 := mF c
    have P1 : smP Py h h1 := smP_x f1.x (fun o ho k => by
      have : Pf o k = false ∨ True := Or.inr trivial
      simp only [cT, List.mem_cons, List.not_mem_nil, or_false] at ho
      rcases ho with rfl | rfl | rfl | rfl | rfl | rfl | rfl | rfl | rfl | rfl | rfl <;> simp [Py, Pf, imp, scrO])
    have P2 : smP Py h1 (mTh h1) := smP_w (by decide)
    have P3 : smP Py (mTh h1) h2 := ⟨s2.1, fun o k z => s2.2 o k (Py_tf z)⟩
    have PP := (P1.tr P2).tr P3
    obtain ⟨⟨y1, y2⟩, yN, yM, yD⟩ := x.y PP
    refine ⟨nI (twR (wA w)).1, h1, h2, r1, f1.2.1, r2, f1.2.1.tr s2.1, ⟨q, ((0, p0), wS w, wM w, wL w, wD w, wC w), a, g2, ⟨⟨x.1.1, y1, y2⟩, ⟨Nat.zero_le _, ?_, t2, fun i hi => absurd hi (Nat.not_lt_zero _)⟩, yN, yM, yD, x.2.2.2.2.2.y ?_ ?_ (fun i hi k => ?_) (fun i hi k hk => ?_)⟩, ag.k ?_ ?_, by omega⟩⟩
    · rw [s2.i (by decide), mTh_sm.i (by decide)]; exact t1
    · rw [s2.i (by decide), mTh_sm.i (by decide), f1.i (by decide)]
    · rw [s2.i (by decide), mTh_sm.i (by decide), f1.i (by decide)]
    · have hc := x.c
      have p : pTf (qC q + i) k = true := by
        simp only [pTf, pCt, pTw, Bool.and_eq_true, Bool.not_eq_true', Bool.and_eq_false_iff, Bool.or_eq_false_iff, decide_eq_false_iff_not]
        omega
      have nt : qC q + i ∉ cT := by
        simp only [cT, List.mem_cons, List.not_mem_nil, or_false]; omega
      refine ⟨?_, ?_⟩
      · rw [s2.i p, jI_mTh, if_neg (by omega), f1.i nt]
      · rw [s2.l p]; show jL h1 _ _ = _; rw [f1.l nt]
    · have p : pTf (102 + i) k = true := by
        simp only [pTf, pCt, pTw, Bool.and_eq_true, Bool.not_eq_true', Bool.and_eq_false_iff, Bool.or_eq_false_iff, decide_eq_false_iff_not]
        omega
      have nt : 102 + i ∉ cT := by
        simp only [cT, List.mem_cons, List.not_mem_nil, or_false]; omega
      rw [s2.i p, jI_mTh, if_neg (by omega), f1.i nt]
    · rw [s2.i (by decide), jI_mTh, if_neg (by omega), f1.i (by decide)]
    · funext k
      rw [s2.i (by simp [pTf, pCt, pTw]), jI_mTh, if_neg (by omega), f1.i (by decide)]
