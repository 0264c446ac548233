/-! claim: the case -/
theorem Py_cf {o k : Nat} (z : Py o k = true) : pCf o k = true ∧ pCe o k = true := by
  unfold Py Pf at z
  simp only [Bool.and_eq_true, Bool.not_eq_true', Bool.and_eq_false_iff, decide_eq_false_iff_not] at z
  obtain ⟨⟨zi, z1, z2, z3, z4⟩, z5, z6, z7, z8, z9⟩ := z
  have n1 : ∀ s, s ∈ scrO → o ≠ s := fun s hs e => by rw [e, imp_s hs] at zi; cases zi
  have n2 : ∀ s, s ∈ scrF → ¬ (o = 93 ∧ k = s) := fun s hs e => by rw [e.1, e.2, imp_f hs] at zi; cases zi
  have a1 := n1 95 (by decide)
  have a2 := n1 96 (by decide)
  have a3 := n1 97 (by decide)
  have a4 := n1 106 (by decide)
  have b1 := n2 3 (by decide)
  have b2 := n2 7 (by decide)
  have b3 := n2 8 (by decide)
  have b4 := n2 19 (by decide)
  have h1 : pCf o k = true := by
    simp only [pCf, pCt, pCl, Bool.and_eq_true, Bool.not_eq_true', Bool.and_eq_false_iff, Bool.or_eq_false_iff, decide_eq_false_iff_not]
    omega
  refine ⟨h1, ?_⟩
  simp only [pCe, h1, pCp, Bool.and_eq_true, Bool.not_eq_true', Bool.and_eq_false_iff, Bool.or_eq_false_iff, decide_eq_false_iff_not, true_and]
  omega
theorem cl_q {w : kW} {h : jM} {q : kQ} (x : rW h q w) : qS q ∈ clL ∧ qC q ∈ clL := by
  rcases x.1.1 with z | z <;> rw [z.1, z.2] <;> decide
set_option maxRecDepth 100000 in
set_option maxHeartbeats 4000000 in
theorem case_2 : cs_2 Inv := by
  rintro n h hn ⟨q, w, a, g, x, ag, ha⟩
  have hn2 := n64 hn ha
  obtain ⟨x1, x2, x3, x4⟩ := x.2.1
  have A0 : rA1 h (wA w) := ⟨x1, x2, fun i hi => ⟨(x4 i hi).1, (x4 i hi).2.2⟩⟩
  obtain ⟨hS, hC⟩ := cl_q x
  have hq : (qC q = 54 ∧ qS q = 60) ∨ (qC q = 60 ∧ qS q = 54) := x.1.1
  obtain ⟨h1, r1, t1, fF, fO⟩ := T_claim (d := 886) g hS hC A0
  by_cases c : (clR (wA w)).1 = 0
  · obtain ⟨g1, f1, h9, h6, k1⟩ := fO c
    have nf : ∀ o, o ≠ 0 → o ≠ 1 → (o < 54 ∨ 65 < o) → o ∉ [0, 1, qS q, qS q + 1, qS q + 2, qS q + 3, qS q + 4] := fun o a1 a2 a3 => by simp only [List.mem_cons, List.not_mem_nil, or_false]; omega
    obtain ⟨h2, r2, g2, t2, -, mO⟩ := M_claim (a := wA w) (d := 887) g1 x1 (by rw [f1.i (nf 93 (by omega) (by omega) (by omega))]; exact x3) (fun i hi => by rw [f1.i (nf 94 (by omega) (by omega) (by omega))]; exact (x4 i hi).2) (fun k hk => by rw [f1.l (nf 98 (by omega) (by omega) (by omega))]; exact x.1.2.1 k hk)
    obtain ⟨s2, m18, rm, ok, n0⟩ := mO c
    generalize clR (wA w) = R at *
    have P1 : smP Py h h1 := ⟨f1.1, fun o k z => by
      by_cases z0 : o = 0
      · subst z0
        have : k ≠ 9 := by
          intro e; subst e; revert z; decide
        exact h6 k this
      · have zz := z
        unfold Py Pf at zz
        simp only [Bool.and_eq_true, Bool.not_eq_true', Bool.and_eq_false_iff, decide_eq_false_iff_not] at zz
        obtain ⟨⟨zi, z1, z2, z3, z4⟩, z5, z6, z7, z8, z9⟩ := zz
        have nn := nf o z0 z1 (by omega)
        rw [f1.i nn, f1.l nn]; exact ⟨rfl, rfl⟩⟩
    have P2 : smP Py h1 (mTh h1) := smP_w (by decide)
    have P3 : smP Py (mTh h1) h2 := ⟨s2.1, fun o k z => s2.2 o k (Py_cf z).2⟩
    have PP := (P1.tr P2).tr P3
    obtain ⟨⟨y1, y2⟩, yN, yM, yD⟩ := x.y PP
    refine ⟨nI R.1, h1, h2, r1, f1.1, r2, f1.1.tr s2.1, ⟨qX q, ((0, p0), wS w, wM w, wL w, wD w, R.2.1), a, g2, ⟨⟨?_, y1, y2⟩, ⟨Nat.zero_le _, ?_, t2, fun i hi => absurd hi (Nat.not_lt_zero _)⟩, yN, yM, yD, ⟨?_, m18, fun _ => ⟨ok, ?_, rm⟩⟩⟩, ag.k ?_ ?_, by omega⟩⟩
    · show (qS q = 54 ∧ qC q = 60) ∨ (qS q = 60 ∧ qC q = 54)
      omega
    · rw [s2.i (by decide), mTh_sm.i (by decide)]; exact t1
    · rw [s2.i (by decide), mTh_sm.i (imp_o (by decide) (by decide) (by decide)), h9]
      show nI 1 = bZ (decide (0 < cN R.2.1))
      rw [decide_eq_true n0]; rfl
    · show rCl h2 (qS q) R.2.1
      have e : ∀ i, i < 5 → jI h2 (qS q + i) = jI h1 (qS q + i) ∧ jL h2 (qS q + i) = jL h1 (qS q + i) := fun i hi => by
        have p : ∀ k, pCe (qS q + i) k = true := fun k => by
          simp only [pCe, pCf, pCt, pCl, pCp, Bool.and_eq_true, Bool.not_eq_true', Bool.and_eq_false_iff, Bool.or_eq_false_iff, decide_eq_false_iff_not]
          omega
        refine ⟨funext fun k => ?_, funext fun k => ?_⟩
        · rw [s2.i (p k), jI_mTh, if_neg (by omega)]
        · rw [s2.l (p k)]; rfl
      have e0 : jI h2 (qS q) = jI h1 (qS q) ∧ jL h2 (qS q) = jL h1 (qS q) := e 0 (by omega)
      unfold rCl
      rw [e0.1, e0.2, (e 1 (by omega)).1, (e 2 (by omega)).1, (e 3 (by omega)).1, (e 4 (by omega)).1]
      exact k1
    · rw [s2.i (by decide), jI_mTh, if_neg (by omega), f1.i (nf 70 (by omega) (by omega) (by omega))]
    · funext k
      rw [s2.i (by simp [pCe, pCf, pCt, pCl, pCp]), jI_mTh, if_neg (by omega), f1.i (nf 78 (by omega) (by omega) (by omega))]
  · obtain ⟨g1, f1⟩ := fF c
    have nf : ∀ o, o ≠ 1 → (o < qS q ∨ qS q + 4 < o) → o ∉ [1, qS q, qS q + 1, qS q + 2, qS q + 3, qS q + 4] := fun o a2 a3 => by simp only [List.mem_cons, List.not_mem_nil, or_false]; omega
    obtain ⟨h2, r2, g2, t2, mF, -⟩ := M_claim (a := wA w) (d := 887) g1 x1 (by rw [f1.i (nf 93 (by omega) (by omega))]; exact x3) (fun i hi => by rw [f1.i (nf 94 (by omega) (by omega))]; exact (x4 i hi).2) (fun k hk => by rw [f1.l (nf 98 (by omega) (by omega))]; exact x.1.2.1 k hk)
    have s2 := mF c
    generalize clR (wA w) = R at *
    have P1 : smP Py h h1 := ⟨f1.2.1, fun o k z => by
      have zz := z
      unfold Py Pf at zz
      simp only [Bool.and_eq_true, Bool.not_eq_true', Bool.and_eq_false_iff, decide_eq_false_iff_not] at zz
      obtain ⟨⟨zi, z1, z2, z3, z4⟩, z5, z6, z7, z8, z9⟩ := zz
      have nn := nf o z1 (by omega)
      rw [f1.i nn, f1.l nn]; exact ⟨rfl, rfl⟩⟩
    have P2 : smP Py h1 (mTh h1) := smP_w (by decide)
    have P3 : smP Py (mTh h1) h2 := ⟨s2.1, fun o k z => s2.2 o k (Py_cf z).1⟩
    have PP := (P1.tr P2).tr P3
    obtain ⟨⟨y1, y2⟩, yN, yM, yD⟩ := x.y PP
    refine ⟨nI R.1, h1, h2, r1, f1.2.1, r2, f1.2.1.tr s2.1, ⟨q, ((0, p0), wS w, wM w, wL w, wD w, wC w), a, g2, ⟨⟨x.1.1, y1, y2⟩, ⟨Nat.zero_le _, ?_, t2, fun i hi => absurd hi (Nat.not_lt_zero _)⟩, yN, yM, yD, x.2.2.2.2.2.y ?_ ?_ (fun i hi k => ?_) (fun i hi k hk => ?_)⟩, ag.k ?_ ?_, by omega⟩⟩
    · rw [s2.i (by decide), mTh_sm.i (by decide)]; exact t1
    · rw [s2.i (by decide), mTh_sm.i (by decide), f1.i (nf 0 (by omega) (by omega))]
    · rw [s2.i (by decide), mTh_sm.i (by decide), f1.i (nf 93 (by omega) (by omega))]
    · have p : pCf (qC q + i) k = true := by
        simp only [pCf, pCt, pCl, Bool.and_eq_true, Bool.not_eq_true', Bool.and_eq_false_iff, Bool.or_eq_false_iff, decide_eq_false_iff_not]
        omega
      have nt := nf (qC q + i) (by omega) (by omega)
      refine ⟨?_, ?_⟩
      · rw [s2.i p, jI_mTh, if_neg (by omega), f1.i nt]
      · rw [s2.l p]; show jL h1 _ _ = _; rw [f1.l nt]
    · have p : pCf (102 + i) k = true := by
        simp only [pCf, pCt, pCl, Bool.and_eq_true, Bool.not_eq_true', Bool.and_eq_false_iff, Bool.or_eq_false_iff, decide_eq_false_iff_not]
        omega
      have nt := nf (102 + i) (by omega) (by omega)
      rw [s2.i p, jI_mTh, if_neg (by omega), f1.i nt]
    · rw [s2.i (by decide), jI_mTh, if_neg (by omega), f1.i (nf 70 (by omega) (by omega))]
    · funext k
      rw [s2.i (by simp [pCf, pCt, pCl]), jI_mTh, if_neg (by omega), f1.i (nf 78 (by omega) (by omega))]
