/-! plays: a round of the class -/
def rk (T U : kT) (p : Nat → Nat) (G : Nat) : Bool × (Nat → Nat) × Nat :=
  let d := bel (rnd G) (lI T U p 0 + lI T U p 1)
  let t := rdt T U p d
  let w := rdw T U p d
  let o := rdo T U p d (bel (rnd (rnd G)) (rdm T U p d))
  if rdm T U p d = 0 then (false, p, rnd G) else if ft T U p (o1 t w o) (o2 t w o) then (true, uN1 p (o1 t w o) (o2 t w o + 1), rnd (rnd G)) else (false, p, rnd (rnd G))
/-- what the chance has -/
def rCh (h : jM) (G A B : Nat) : Prop := jL h 89 0 = lN G ∧ G < 2147483648 ∧ jI h 89 1 = nI A ∧ jI h 89 2 = nI B
set_option maxRecDepth 100000 in
set_option maxHeartbeats 4000000 in
theorem C_round0 {G A B d w : Nat} {D : Nat} {h : jM} {q : kQ} {T : kT} {U : kT} {p : Nat → Nat} (b : BD h q T U p) (x : rCh h G A B) (hs : 0 < lI T U p 0 + lI T U p 1) (hd : d = bel (rnd G) (lI T U p 0 + lI T U p 1)) (hc : d < lI T U p 0) (hw : w < fk T U 0) (hfw : fr p 0 w = true) (en : nf (fun k => fr p 0 k) (fk T U 0) 0 d = w + 1) : (lI T U p 1 = 0 → ∃ h', (∀ K, jCl (D + 3) 32 [.ref 89, .ref 70] h K = K (some (.int (nI 0))) h') ∧ BD h' q T U p ∧ rCh h' (rnd G) (A + 1) (B + 1) ∧ fI [89] h h') ∧ (∀ o, lI T U p 1 ≠ 0 → o < fk T U 1 → fr p 1 o = true → nf (fun k => fr p 1 k) (fk T U 1) 0 (bel (rnd (rnd G)) (lI T U p 1)) = o + 1 → (ft T U p w o = false → ∃ h', (∀ K, jCl (D + 3) 32 [.ref 89, .ref 70] h K = K (some (.int (nI 0))) h') ∧ BD h' q T U p ∧ rCh h' (rnd (rnd G)) (A + 1) (B + 1) ∧ fI [89] h h') ∧ (ft T U p w o = true → ∃ h', (∀ K, jCl (D + 3) 32 [.ref 89, .ref 70] h K = K (some (.int (nI 1))) h') ∧ BD h' q T U (uN1 p w (o + 1)) ∧ rCh h' (rnd (rnd G)) A (B + 1) ∧ fI [89, 70, 74, 75] h h' ∧ jI h' 70 10 = jI h 70 10)) := by
  obtain ⟨x1, x2, x3, x4⟩ := x
  have g := b.g
  have r1 := rnd_lt G
  have r2 := rnd_lt (rnd G)
  have l0 := lI_le (t := 0) b.oT b.oU b.v (by omega)
  have l1 := lI_le (t := 1) b.oT b.oU b.v (by omega)
  have w4 : w < 4 := Nat.lt_of_lt_of_le hw (fk_4 b)
  have dl : d < lI T U p 0 + lI T U p 1 := by rw [hd]; exact bel_lt hs
  have fa : fI [89] h (jsI h 89 2 (nI (B + 1))) := fI_w (by simp)
  have ba := b.k9 fa
  have fb : fI [89] (jsI h 89 2 (nI (B + 1))) (jsL (jsI h 89 2 (nI (B + 1))) 89 0 (lN (rnd G))) := fI_l (by simp)
  have bb := ba.k9 fb
  have ga := ba.g
  have gb := bb.g
  have BE := fun K => C_below (d := D + 2) (m := lI T U p 0 + lI T U p 1) (K := K) ga (show jL (jsI h 89 2 (nI (B + 1))) 89 0 = lN G from x1) x2 hs (by omega)
  rw [← hd] at BE
  have FA := fun K => B_freeAt (d := D + 1) (t := 0) (n := d) (K := K) bb (by omega) (by omega)
  rw [en, pI_s] at FA
  have FM0 := fun K => B_fm (d := D + 1) (t := 0) (K := K) ba (by omega)
  have FM1 := fun K => B_fm (d := D + 1) (t := 1) (K := K) ba (by omega)
  have FMu := fun K => B_fm (d := D + 1) (t := 1) (K := K) bb (by omega)
  have y1 : jI (jsL (jsI h 89 2 (nI (B + 1))) 89 0 (lN (rnd G))) 89 1 = nI A := x3
  have y2 : jI (jsL (jsI h 89 2 (nI (B + 1))) 89 0 (lN (rnd G))) 89 2 = nI (B + 1) := by rw [jI_jsL, jI_jsI, if_pos ⟨rfl, rfl⟩]
  have y3 : jL (jsL (jsI h 89 2 (nI (B + 1))) 89 0 (lN (rnd G))) 89 0 = lN (rnd G) := by rw [jL_jsL, if_pos ⟨rfl, rfl⟩]
  have fab := fa.tr fb
  revert BE FA FM0 FM1 FMu y1 y2 y3 fab bb ba ga gb
  sorry
set_option maxRecDepth 100000 in
set_option maxHeartbeats 4000000 in
theorem C_round1 {G A B d w : Nat} {D : Nat} {h : jM} {q : kQ} {T : kT} {U : kT} {p : Nat → Nat} (b : BD h q T U p) (x : rCh h G A B) (hs : 0 < lI T U p 0 + lI T U p 1) (hd : d = bel (rnd G) (lI T U p 0 + lI T U p 1)) (hc : ¬ d < lI T U p 0) (hw : w < fk T U 1) (hfw : fr p 1 w = true) (en : nf (fun k => fr p 1 k) (fk T U 1) 0 (d - lI T U p 0) = w + 1) : (lI T U p 0 = 0 → ∃ h', (∀ K, jCl (D + 3) 32 [.ref 89, .ref 70] h K = K (some (.int (nI 0))) h') ∧ BD h' q T U p ∧ rCh h' (rnd G) (A + 1) (B + 1) ∧ fI [89] h h') ∧ (∀ o, lI T U p 0 ≠ 0 → o < fk T U 0 → fr p 0 o = true → nf (fun k => fr p 0 k) (fk T U 0) 0 (bel (rnd (rnd G)) (lI T U p 0)) = o + 1 → (ft T U p o w = false → ∃ h', (∀ K, jCl (D + 3) 32 [.ref 89, .ref 70] h K = K (some (.int (nI 0))) h') ∧ BD h' q T U p ∧ rCh h' (rnd (rnd G)) (A + 1) (B + 1) ∧ fI [89] h h') ∧ (ft T U p o w = true → ∃ h', (∀ K, jCl (D + 3) 32 [.ref 89, .ref 70] h K = K (some (.int (nI 1))) h') ∧ BD h' q T U (uN1 p o (w + 1)) ∧ rCh h' (rnd (rnd G)) A (B + 1) ∧ fI [89, 70, 74, 75] h h' ∧ jI h' 70 10 = jI h 70 10)) := by
  obtain ⟨x1, x2, x3, x4⟩ := x
  have g := b.g
  have r1 := rnd_lt G
  have r2 := rnd_lt (rnd G)
  have l0 := lI_le (t := 0) b.oT b.oU b.v (by omega)
  have l1 := lI_le (t := 1) b.oT b.oU b.v (by omega)
  have w4 : w < 4 := Nat.lt_of_lt_of_le hw (fk_4 b)
  have dl : d < lI T U p 0 + lI T U p 1 := by rw [hd]; exact bel_lt hs
  have fa : fI [89] h (jsI h 89 2 (nI (B + 1))) := fI_w (by simp)
  have ba := b.k9 fa
  have fb : fI [89] (jsI h 89 2 (nI (B + 1))) (jsL (jsI h 89 2 (nI (B + 1))) 89 0 (lN (rnd G))) := fI_l (by simp)
  have bb := ba.k9 fb
  have ga := ba.g
  have gb := bb.g
  have BE := fun K => C_below (d := D + 2) (m := lI T U p 0 + lI T U p 1) (K := K) ga (show jL (jsI h 89 2 (nI (B + 1))) 89 0 = lN G from x1) x2 hs (by omega)
  rw [← hd] at BE
  have FA := fun K => B_freeAt (d := D + 1) (t := 1) (n := (d - lI T U p 0)) (K := K) bb (by omega) (by omega)
  rw [en, pI_s] at FA
  have FM0 := fun K => B_fm (d := D + 1) (t := 0) (K := K) ba (by omega)
  have FM1 := fun K => B_fm (d := D + 1) (t := 1) (K := K) ba (by omega)
  have FMu := fun K => B_fm (d := D + 1) (t := 0) (K := K) bb (by omega)
  have y1 : jI (jsL (jsI h 89 2 (nI (B + 1))) 89 0 (lN (rnd G))) 89 1 = nI A := x3
  have y2 : jI (jsL (jsI h 89 2 (nI (B + 1))) 89 0 (lN (rnd G))) 89 2 = nI (B + 1) := by rw [jI_jsL, jI_jsI, if_pos ⟨rfl, rfl⟩]
  have y3 : jL (jsL (jsI h 89 2 (nI (B + 1))) 89 0 (lN (rnd G))) 89 0 = lN (rnd G) := by rw [jL_jsL, if_pos ⟨rfl, rfl⟩]
  have fab := fa.tr fb
  revert BE FA FM0 FM1 FMu y1 y2 y3 fab bb ba ga gb
  sorry
