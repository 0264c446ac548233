/-! plays: the class's play -/
theorem rk_0 {G d : Nat} {T : kT} {U : kT} {p : Nat → Nat} (hd : d = bel (rnd G) (lI T U p 0 + lI T U p 1)) (h : rdm T U p d = 0) : rk T U p G = (false, p, rnd G) := by
  subst hd; exact if_pos h
theorem rk_f {G d e : Nat} {T : kT} {U : kT} {p : Nat → Nat} (hd : d = bel (rnd G) (lI T U p 0 + lI T U p 1)) (h : ¬ rdm T U p d = 0) (he : e = bel (rnd (rnd G)) (rdm T U p d)) (hf : ft T U p (o1 (rdt T U p d) (rdw T U p d) (rdo T U p d e)) (o2 (rdt T U p d) (rdw T U p d) (rdo T U p d e)) = false) : rk T U p G = (false, p, rnd (rnd G)) := by
  subst he; subst hd
  refine (if_neg h).trans (if_neg ?_)
  intro z
  have := z.symm.trans hf
  cases this
theorem rk_t {G d e : Nat} {T : kT} {U : kT} {p : Nat → Nat} (hd : d = bel (rnd G) (lI T U p 0 + lI T U p 1)) (h : ¬ rdm T U p d = 0) (he : e = bel (rnd (rnd G)) (rdm T U p d)) (hf : ft T U p (o1 (rdt T U p d) (rdw T U p d) (rdo T U p d e)) (o2 (rdt T U p d) (rdw T U p d) (rdo T U p d e)) = true) : rk T U p G = (true, uN1 p (o1 (rdt T U p d) (rdw T U p d) (rdo T U p d e)) (o2 (rdt T U p d) (rdw T U p d) (rdo T U p d e) + 1), rnd (rnd G)) := by
  subst he; subst hd
  exact (if_neg h).trans (if_pos hf)
def cKept (D : Nat) (h : jM) (q : kQ) (T U : kT) (p : Nat → Nat) (A B : Nat) (r : Bool × (Nat → Nat) × Nat) : Prop := ∃ h', (∀ K, jCl (D + 3) 32 [.ref 89, .ref 70] h K = K (some (.int (bZ r.1))) h') ∧ BD h' q T U r.2.1 ∧ rCh h' r.2.2 (A + if r.1 then 0 else 1) (B + 1) ∧ fI [89, 70, 74, 75] h h' ∧ jI h' 70 10 = jI h 70 10
theorem C_kept {G A B : Nat} {D : Nat} {h : jM} {q : kQ} {T : kT} {U : kT} {p : Nat → Nat} (b : BD h q T U p) (x : rCh h G A B) (hs : 0 < lI T U p 0 + lI T U p 1) : cKept D h q T U p A B (rk T U p G) := by
  obtain ⟨d, hd⟩ : ∃ d, d = bel (rnd G) (lI T U p 0 + lI T U p 1) := ⟨_, rfl⟩
  have dl : d < lI T U p 0 + lI T U p 1 := by rw [hd]; exact bel_lt hs
  obtain ⟨w1, w2, w3⟩ := rdw_ok dl
  obtain ⟨e, he⟩ : ∃ e, e = bel (rnd (rnd G)) (rdm T U p d) := ⟨_, rfl⟩
  by_cases c : d < lI T U p 0
  · have t0 : rdt T U p d = 0 := by rw [rdt, if_pos c]
    have n0 : rdn T U p d = d := by rw [rdn, if_pos c]
    have m0 : rdm T U p d = lI T U p 1 := by rw [rdm, t0]
    rw [t0, n0] at w3
    rw [t0] at w1 w2
    obtain ⟨R1, R2⟩ := C_round0 (D := D) b x hs hd c w1 w2 w3
    by_cases z : rdm T U p d = 0
    · rw [rk_0 hd z]
      obtain ⟨h', a1, a2, a3, a4⟩ := R1 (by rw [← m0]; exact z)
      exact ⟨h', a1, a2, a3, a4.mo (by simp), by rw [a4.i (by decide)]⟩
    · have el : e < rdm T U p d := by rw [he]; exact bel_lt (by omega)
      obtain ⟨q1, q2, q3⟩ := rdo_ok el
      rw [t0] at q1 q2 q3
      have q3' : nf (fun k => fr p 1 k) (fk T U 1) 0 (bel (rnd (rnd G)) (lI T U p 1)) = rdo T U p d e + 1 := by rw [← m0, ← he]; exact q3
      obtain ⟨R3, R4⟩ := R2 (rdo T U p d e) (by rw [← m0]; exact z) q1 q2 q3'
      cases hf : ft T U p (rdw T U p d) (rdo T U p d e) with
      | false =>
        rw [rk_f hd z he (by rw [t0]; exact hf)]
        obtain ⟨h', a1, a2, a3, a4⟩ := R3 hf
        exact ⟨h', a1, a2, a3, a4.mo (by simp), by rw [a4.i (by decide)]⟩
      | true =>
        rw [rk_t hd z he (by rw [t0]; exact hf), t0]
        obtain ⟨h', a1, a2, a3, a4, a5⟩ := R4 hf
        exact ⟨h', a1, a2, a3, a4, a5⟩
  · have t0 : rdt T U p d = 1 := by rw [rdt, if_neg c]
    have n0 : rdn T U p d = d - lI T U p 0 := by rw [rdn, if_neg c]
    have m0 : rdm T U p d = lI T U p 0 := by rw [rdm, t0]
    rw [t0, n0] at w3
    rw [t0] at w1 w2
    obtain ⟨R1, R2⟩ := C_round1 (D := D) b x hs hd c w1 w2 w3
    by_cases z : rdm T U p d = 0
    · rw [rk_0 hd z]
      obtain ⟨h', a1, a2, a3, a4⟩ := R1 (by rw [← m0]; exact z)
      exact ⟨h', a1, a2, a3, a4.mo (by simp), by rw [a4.i (by decide)]⟩
    · have el : e < rdm T U p d := by rw [he]; exact bel_lt (by omega)
      obtain ⟨q1, q2, q3⟩ := rdo_ok el
      rw [t0] at q1 q2 q3
      have q3' : nf (fun k => fr p 0 k) (fk T U 0) 0 (bel (rnd (rnd G)) (lI T U p 0)) = rdo T U p d e + 1 := by rw [← m0, ← he]; exact q3
      obtain ⟨R3, R4⟩ := R2 (rdo T U p d e) (by rw [← m0]; exact z) q1 q2 q3'
      cases hf : ft T U p (rdo T U p d e) (rdw T U p d) with
      | false =>
        rw [rk_f hd z he (by rw [t0]; exact hf)]
        obtain ⟨h', a1, a2, a3, a4⟩ := R3 hf
        exact ⟨h', a1, a2, a3, a4.mo (by simp), by rw [a4.i (by decide)]⟩
      | true =>
        rw [rk_t hd z he (by rw [t0]; exact hf), t0]
        obtain ⟨h', a1, a2, a3, a4, a5⟩ := R4 hf
        exact ⟨h', a1, a2, a3, a4, a5⟩
