/-! plays: the reference's round, one row -/
theorem sm_g {h : jM} {x : Int64} : sm h (jsL h 93 38 x) := ⟨jFr.rf, fun o k e => ⟨rfl, by rw [jL_jsL, if_neg]; rintro ⟨rfl, rfl⟩; revert e; decide⟩⟩
theorem sm_112 {h : jM} {k : Nat} {x : Int32} : sm h (jsI h 112 k x) := sm_f (S := [112]) (fI_w (by simp)) (by decide)
def rMd (h h' : jM) (q : kQ) (T U : kT) (r : Bool × (Nat → Nat) × Nat) : Prop := gH h' q ∧ sm h h' ∧ (jI h' 70 = jI h 70 ∧ jI h' 78 = jI h 78) ∧ (jL h' 93 38 = lN r.2.2 ∧ r.2.2 < 2147483648) ∧ (r.1 = true → MP h' q 0 T U r.2.1 ∧ pos T U r.2.1 = true)
theorem M_dr {G : Nat} {D : Nat} {h : jM} {q : kQ} {T : kT} {U : kT} {p : Nat → Nat} (m : MP h q 0 T U p) (hp : pos T U p = true) (eG : jL h 93 38 = lN G) (hG : G < 2147483648) (hs : 0 < lI T U p 0 + lI T U p 1) : ∃ h', (∀ K, jCl (D + 3) 278 [.ref 93] h K = K (some (.int (bZ (!(rk T U p G).1)))) h') ∧ rMd h h' q T U (rk T U p G) := by
  obtain ⟨d, hd⟩ : ∃ d, d = bel (rnd G) (lI T U p 0 + lI T U p 1) := ⟨_, rfl⟩
  have t2 := rdt_2 (T := T) (U := U) (p := p) (d := d)
  by_cases h0 : rdm T U p d = 0
  · rw [rk_0 hd h0]
    refine ⟨jsL h 93 38 (lN (rnd G)), fun K => ?_, m.g, sm_g, ⟨rfl, rfl⟩, ⟨by simp [jL_jsL], rnd_lt G⟩, fun c => by cases c⟩
    by_cases c : rdt T U p d = 0
    · exact M_dr0_0 m eG hG hs hd c h0
    · exact M_dr1_0 m eG hG hs hd (by omega) h0
  · obtain ⟨e, he⟩ : ∃ e, e = bel (rnd (rnd G)) (rdm T U p d) := ⟨_, rfl⟩
    have key : ∃ f c, f = o1 (rdt T U p d) (rdw T U p d) (rdo T U p d e) ∧ c = o2 (rdt T U p d) (rdw T U p d) (rdo T U p d e) ∧ f < 4 ∧ c < 4 ∧ p f = 0 ∧ (∀ K, jCl (D + 3) 278 [.ref 93] h K = K (some (.int (bZ (!ft T U p f c)))) (jsI (jsL (jsL h 93 38 (lN (rnd G))) 93 38 (lN (rnd (rnd G)))) 112 f (nI c))) ∧ MP (jsI (jsL (jsL h 93 38 (lN (rnd G))) 93 38 (lN (rnd (rnd G)))) 112 f (nI c)) q 0 T U (uN1 p f (c + 1)) := by
      have dl : d < lI T U p 0 + lI T U p 1 := by rw [hd]; exact bel_lt hs
      have el : e < rdm T U p d := by rw [he]; exact bel_lt (by omega)
      obtain ⟨hw, fw, -⟩ := rdw_ok dl
      obtain ⟨ho, fo1, -⟩ := rdo_ok el
      have w4 := Nat.lt_of_lt_of_le hw (fk_4' m.oT m.oU)
      have o4 := Nat.lt_of_lt_of_le ho (fk_4' m.oT m.oU)
      by_cases c : rdt T U p d = 0
      · obtain ⟨r1, r2⟩ := M_dr0_1 (D := D) m hp eG hG hs hd c h0 he rfl rfl
        rw [c] at fw
        exact ⟨_, _, by rw [c]; rfl, by rw [c]; rfl, w4, o4, fr_0 fw, r1, r2⟩
      · have c1 : rdt T U p d = 1 := by omega
        obtain ⟨r1, r2⟩ := M_dr1_1 (D := D) m hp eG hG hs hd c1 h0 he rfl rfl
        rw [c1] at fo1
        exact ⟨_, _, by rw [c1]; rfl, by rw [c1]; rfl, o4, w4, fr_0 fo1, r1, r2⟩
    obtain ⟨f, c, ef, ec, f4, c4, p0, r1, r2⟩ := key
    have e3 := pos_u m.oT m.oU m.v f4 c4 p0
    rw [hp, Bool.true_and] at e3
    have S : sm h (jsI (jsL (jsL h 93 38 (lN (rnd G))) 93 38 (lN (rnd (rnd G)))) 112 f (nI c)) := (sm_g.tr sm_g).tr sm_112
    have F : fI [112] (jsL (jsL h 93 38 (lN (rnd G))) 93 38 (lN (rnd (rnd G)))) (jsI (jsL (jsL h 93 38 (lN (rnd G))) 93 38 (lN (rnd (rnd G)))) 112 f (nI c)) := fI_w (by simp)
    have R : rMd h (jsI (jsL (jsL h 93 38 (lN (rnd G))) 93 38 (lN (rnd (rnd G)))) 112 f (nI c)) q T U (ft T U p f c, uN1 p f (c + 1), rnd (rnd G)) := ⟨r2.g, S, ⟨F.x.i (by decide), F.x.i (by decide)⟩, ⟨by rw [F.x.l (by decide)]; simp [jL_jsL], rnd_lt _⟩, fun z => ⟨r2, by rw [e3]; exact z⟩⟩
    refine ⟨jsI (jsL (jsL h 93 38 (lN (rnd G))) 93 38 (lN (rnd (rnd G)))) 112 f (nI c), fun K => ?_, ?_⟩
    · rw [r1 K]
      cases z : ft T U p f c with
      | true => rw [rk_t hd h0 he (by rw [← ef, ← ec]; exact z)]
      | false => rw [rk_f hd h0 he (by rw [← ef, ← ec]; exact z)]
    · cases z : ft T U p f c with
      | true => rw [z] at R; rw [rk_t hd h0 he (by rw [← ef, ← ec]; exact z), ← ef, ← ec]; exact R
      | false => rw [z] at R; rw [rk_f hd h0 he (by rw [← ef, ← ec]; exact z)]; exact ⟨R.1, R.2.1, R.2.2.1, R.2.2.2.1, fun y => by cases y⟩
