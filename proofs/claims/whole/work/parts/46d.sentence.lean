/-! claim: the class reads a sentence -/
theorem CR.a {c : kC} {h : jM} {o : Nat} {i x : Nat} (y : CR h o c) : CR (jsI h (o + 2) i (nI x)) o (cSA c i x) := by
  refine ⟨by rw [jI_jsI, if_neg (by omega)]; exact y.1, fun j hj => ?_⟩
  obtain ⟨y1, y2, y3⟩ := y.2 j hj
  show _ ∧ _ = nI (uN1 (cA c) i x j) ∧ _
  refine ⟨by rw [jI_jsI, if_neg (by omega)]; exact y1, ?_, by rw [jI_jsI, if_neg (by omega)]; exact y3⟩
  by_cases e : j = i
  · subst e; rw [u_s, jI_jsI, if_pos ⟨rfl, rfl⟩]
  · rw [u_n e, jI_jsI, if_neg (by omega)]; exact y2
theorem CR.b {c : kC} {h : jM} {o : Nat} {i x : Nat} (y : CR h o c) : CR (jsI h (o + 3) i (nI x)) o (cSB c i x) := by
  refine ⟨by rw [jI_jsI, if_neg (by omega)]; exact y.1, fun j hj => ?_⟩
  obtain ⟨y1, y2, y3⟩ := y.2 j hj
  show _ ∧ _ ∧ _ = nI (uN1 (cB c) i x j)
  refine ⟨by rw [jI_jsI, if_neg (by omega)]; exact y1, by rw [jI_jsI, if_neg (by omega)]; exact y2, ?_⟩
  by_cases e : j = i
  · subst e; rw [u_s, jI_jsI, if_pos ⟨rfl, rfl⟩]
  · rw [u_n e, jI_jsI, if_neg (by omega)]; exact y3
theorem CR.w {c : kC} {h : jM} {o : Nat} {k : Nat} {u : Nat} {y : Int32} (x : CR h o c) (hu : u < o ∨ o + 3 < u ∨ (u = o ∧ k ≠ 5)) : CR (jsI h u k y) o c := by
  refine ⟨by rw [jI_jsI, if_neg (by omega)]; exact x.1, fun j hj => ?_⟩
  obtain ⟨y1, y2, y3⟩ := x.2 j hj
  refine ⟨?_, ?_, ?_⟩
  · rw [jI_jsI, if_neg (by omega)]; exact y1
  · rw [jI_jsI, if_neg (by omega)]; exact y2
  · rw [jI_jsI, if_neg (by omega)]; exact y3
theorem fC_w {n : Nat} {o : Nat} {h : jM} {k : Nat} {u : Nat} {y : Int32} (ho : o ∈ clL) (hu : u = o + 2 ∨ u = o + 3 ∨ (u = o + 4 ∧ n ≤ k) ∨ (u = o ∧ k ≠ 8) ∨ (u = 1 ∧ k ≠ 1)) : fC n o h (jsI h u k y) := by
  have b := clo_n ho
  refine ⟨fI_w (by simp only [List.mem_cons, List.not_mem_nil, or_false]; omega), ⟨?_, ?_⟩, fun j hj => ?_⟩
  · rw [jI_jsI, if_neg (by omega)]
  · rw [jI_jsI, if_neg (by omega)]
  · rw [jI_jsI, if_neg (by omega)]
theorem TK.k {a : kA} {h : jM} {h1 : jM} {p : Nat} (t : TK h a p) (e : jI h1 1 = jI h 1) : TK h1 a p := by unfold TK; rw [e]; exact t
theorem jI1_w {h : jM} {k : Nat} {u : Nat} {y : Int32} (hu : u ≠ 1) : jI (jsI h u k y) 1 = jI h 1 := by funext j; rw [jI_jsI, if_neg (by omega)]
def SNo (h h' : jM) (a : kA) (o d : Nat) (c : kC) (k x : Nat) (R : kR) : Prop := (TK h' a R.2.2 ∧ jI h' 1 7 = jI h 1 7) ∧ CR h' o R.2.1 ∧ jI h' o 7 = nI (cM R.2.1) ∧ jI h' o 6 = nI (max x (k + cD R.2.1 d (cN c))) ∧ ∀ j, cN c ≤ j → j < cN R.2.1 → (cV R.2.1 j = 6 ∨ cV R.2.1 j = 7) → jI h' (o + 4) j = nI (cE R.2.1 (j + 1))
def SPo (h h' : jM) (a : kA) (o d : Nat) (c : kC) (k x : Nat) (R : kR) : Prop := fC (cN c) o h h' ∧ (¬ R.1 = 0 → jI h' 1 7 = nI R.1) ∧ (R.1 = 0 → SNo h h' a o d c k x R)
def SPr (h : jM) (q : kQ) (a : kA) (o : Nat) (c : kC) (p x : Nat) : Prop := gH h q ∧ rA1 h a ∧ (∃ e, e ≤ a.1 ∧ sk a e = p ∧ jI h 1 3 = nI e) ∧ CR h o c ∧ jI h o 7 = nI (cM c) ∧ jI h o 6 = nI x
def RSn (a : kA) (q : kQ) (o d : Nat) : Prop := ∀ (E w : Nat) (c : kC) (p m k x : Nat) (h : jM), d + 3 ≤ E → w + d = 8 → cN c ≤ 60 → m < 16 → k ≤ x → x ≤ 8 → k + d ≤ 8 → p ≤ a.1 → SPr h q a o c p x → ∃ h', (∀ K, jCl E 48 [.ref 69, .ref 1, .ref o, .int (nI w), .int (nI k), .int (nI m)] h K = K (some (.int (bZ (decide ((rdC a d c p m).1 = 0))))) h') ∧ SPo h h' a o d c k x (rdC a d c p m)
theorem SPo_e {a : kA} {c : kC} {h : jM} {h1 : jM} {o : Nat} {d : Nat} {k : Nat} {w p n : Nat} (ho : o ∈ clL) (hw : 0 < w) (f : fC (cN c) o h h1) : SPo h (jsI h1 1 7 (nI (er w p))) a o d c k n (er w p, c, p) := ⟨f.tr (fC_w ho (by omega)), fun _ => by rw [jI_jsI, if_pos ⟨rfl, rfl⟩], fun z => absurd z (er_0 hw)⟩
theorem fnE_1 {R : kR} {i : Nat} : (fnE R i).1 = R.1 := by
  unfold fnE
  by_cases c : R.1 = 0
  · rw [if_pos c, c]
  · rw [if_neg c]
/- a name is read into a part: one name -/
set_option maxRecDepth 100000 in
set_option maxHeartbeats 4000000 in
theorem R_atom1 {a : kA} {c : kC} {h : jM} {q : kQ} {o : Nat} {E p m v k x : Nat} (ho : o ∈ clL) (g : gH h q) (y : rA1 h a) (hp : p ≤ a.1) (tk : TK h a p) (cr : CR h o (cAdd c v)) (e7 : jI h o 7 = nI (cM c)) (e6 : jI h o 6 = nI x) (hc : cN c < 60) (hm : m < 16) (hv : v < 2) (kx : k ≤ x) (d : Nat) : ∃ h', (∀ K, jCl (E + 3) 49 [.ref 69, .ref 1, .ref o, .int (nI (cN c)), .int (nI m)] h K = K (some (.int (bZ (decide (atF a m (nx a p) = 0))))) h') ∧ SPo h h' a o (d + 1) c k x (if atF a m (nx a p) = 0 then (0, cSE (cSA (cAdd c v) (cN c) (vr a (nx a p))) (cN c) (cN c + 1), nx a p) else (atF a m (nx a p), c, nx a p)) := by
  have b := clo_n ho
  have ev : jI h (o + 1) (cN c) = nI (v + 2) := by
    have := (cr.2 (cN c) (by show cN c < cN c + 1; omega)).1
    rw [show cV (cAdd c v) (cN c) = v from u_s] at this; exact this
  have S := fun K => R_at_s (d := E + 3) (K := K) (m := m) g ho hc ev (by omega)
  rw [if_pos hv] at S
  by_cases f : atF a m (nx a p) = 0
  · rw [if_pos f, decide_eq_true f, bZ_t]
    obtain ⟨h1, r1, t1, f1, g1, y1⟩ := R_at_0 (d := E) (i := cN c) (n := 1) (v7 := .null) g ho y (en_le hp) (show sk a (en a p) = nx a p from rfl) tk.1.2 hm (by omega) (by omega) hc f
    have c1 := cr.f f1 ho
    have F1 : fC (cN c) o h h1 := f1.C ho (by decide)
    refine ⟨jsI h1 (o + 2) (cN c) (nI (vr a (nx a p))), fun K => ?_, F1.tr (fC_w ho (by omega)), fun z => absurd rfl z, fun _ => ⟨⟨t1.k (jI1_w (by omega)), ?_⟩, c1.a, ?_, ?_, fun j j1 j2 j3 => ?_⟩⟩
    · have gg : gH (jsI h1 (o + 2) (cN c) (nI (vr a (nx a p)))) q := g_w g1
      rw [S K, r1 K, R_at_n gg (by omega), R_at_e gg (by omega)]
    · rw [jI_jsI, if_neg (by omega), f1.2 7 (by decide)]
    · rw [jI_jsI, if_neg (by omega), show jI h1 o = jI h o from f1.o (i := 0) ho (by omega), e7]
      show _ = nI (cM (cSE _ _ _))
      rw [cM_E, cM_n (c := c) (c' := cSA (cAdd c v) (cN c) (vr a (nx a p))) rfl (fun j hj => ⟨u_n (by omega), (u_n (by omega)).trans (u_n (by omega))⟩), if_neg]
      rw [show cV (cSA (cAdd c v) (cN c) (vr a (nx a p))) (cN c) = v from u_s]; omega
    · rw [jI_jsI, if_neg (by omega), show jI h1 o = jI h o from f1.o (i := 0) ho (by omega), e6]
      rw [cD_s, if_pos (by show uN1 (cV c) (cN c) v (cN c) < 5; rw [u_s]; omega)]
      congr 1; omega
    · have j4 : j < cN c + 1 := j2
      have : j = cN c := by omega
      subst this
      have e : cV (cSE (cSA (cAdd c v) (cN c) (vr a (nx a p))) (cN c) (cN c + 1)) (cN c) = v := u_s
      rw [e] at j3; omega
  · rw [if_neg f, decide_eq_false f, bZ_f]
    obtain ⟨h1, r1, e1, f1⟩ := R_at_f (d := E) (i := cN c) (n := 1) (k := 0) (v7 := .null) g ho y (en_le hp) (show sk a (en a p) = nx a p from rfl) tk.1.2 hm (by omega) (by omega) f
    exact ⟨h1, fun K => by rw [S K, r1 K], f1.C ho (by decide), fun _ => e1, fun z => absurd z f⟩
set_option maxRecDepth 100000 in
set_option maxHeartbeats 4000000 in
theorem R_atom2 {a : kA} {c : kC} {h : jM} {q : kQ} {o : Nat} {E p m v k x : Nat} (ho : o ∈ clL) (g : gH h q) (y : rA1 h a) (hp : p ≤ a.1) (tk : TK h a p) (cr : CR h o (cAdd c v)) (e7 : jI h o 7 = nI (cM c)) (e6 : jI h o 6 = nI x) (hc : cN c < 60) (hm : m < 16) (hv : ¬ v < 2) (hv5 : v < 5) (kx : k ≤ x) (d : Nat) : ∃ h', (∀ K, jCl (E + 3) 49 [.ref 69, .ref 1, .ref o, .int (nI (cN c)), .int (nI m)] h K = K (some (.int (bZ (decide (atF a m (nx a p) = 0 ∧ atF a m (nx a (nx a p)) = 0))))) h') ∧ SPo h h' a o (d + 1) c k x (if atF a m (nx a p) = 0 then (if atF a m (nx a (nx a p)) = 0 then (0, cSE (cSB (cSA (cAdd c v) (cN c) (vr a (nx a p))) (cN c) (vr a (nx a (nx a p)))) (cN c) (cN c + 1), nx a (nx a p)) else (atF a m (nx a (nx a p)), c, nx a (nx a p))) else (atF a m (nx a p), c, nx a p)) := by
  have b := clo_n ho
  have ev : jI h (o + 1) (cN c) = nI (v + 2) := by
    have := (cr.2 (cN c) (by show cN c < cN c + 1; omega)).1
    rw [show cV (cAdd c v) (cN c) = v from u_s] at this; exact this
  have S := fun K => R_at_s (d := E + 3) (K := K) (m := m) g ho hc ev (by omega)
  rw [if_neg hv] at S
  by_cases f : atF a m (nx a p) = 0
  · rw [if_pos f]
    obtain ⟨h1, r1, t1, f1, g1, y1⟩ := R_at_0 (d := E) (i := cN c) (n := 2) (v7 := .null) g ho y (en_le hp) (show sk a (en a p) = nx a p from rfl) tk.1.2 hm (by omega) (by omega) hc f
    have c1 := (cr.f f1 ho).a (i := cN c) (x := vr a (nx a p))
    have F1 : fC (cN c) o h (jsI h1 (o + 2) (cN c) (nI (vr a (nx a p)))) := (f1.C ho (by decide)).tr (fC_w ho (by omega))
    have g2 : gH (jsI h1 (o + 2) (cN c) (nI (vr a (nx a p)))) q := g_w g1
    have t2 : TK (jsI h1 (o + 2) (cN c) (nI (vr a (nx a p)))) a (nx a p) := t1.k (jI1_w (by omega))
    have y2 := F1.A ho y
    have k7 : jI (jsI h1 (o + 2) (cN c) (nI (vr a (nx a p)))) 1 7 = jI h 1 7 := by rw [jI_jsI, if_neg (by omega), f1.2 7 (by decide)]
    have k67 : ∀ i, i ≠ 5 → jI (jsI h1 (o + 2) (cN c) (nI (vr a (nx a p)))) o i = jI h o i := fun i _ => by rw [jI_jsI, if_neg (by omega), show jI h1 o = jI h o from f1.o (i := 0) ho (by omega)]
    have R1 : ∀ K, jCl (E + 3) 49 [.ref 69, .ref 1, .ref o, .int (nI (cN c)), .int (nI m)] h K = jGo (E + 3) 49 (jAt 49 20) [.ref 69, .ref 1, .ref o, .int (nI (cN c)), .int (nI m), .int (nI 2), .int (nI 1), .int (nI (vr a (nx a p)))] [] (jsI h1 (o + 2) (cN c) (nI (vr a (nx a p)))) K := fun K => by rw [S K, r1 K, R_at_n g2 (by omega)]
    generalize jsI h1 (o + 2) (cN c) (nI (vr a (nx a p))) = h2 at *
    have hp2 := nx_le hp
    by_cases f2 : atF a m (nx a (nx a p)) = 0
    · rw [if_pos f2, decide_eq_true ⟨f, f2⟩, bZ_t]
      obtain ⟨h3, r3, t3, f3, g3, y3⟩ := R_at_1 (d := E) (i := cN c) (n := 2) (v7 := .int (nI (vr a (nx a p)))) g2 ho y2 (en_le hp2) (show sk a (en a (nx a p)) = nx a (nx a p) from rfl) t2.1.2 hm (by omega) (by omega) hc f2
      have c3 := (c1.f f3 ho).b (i := cN c) (x := vr a (nx a (nx a p)))
      have F3 : fC (cN c) o h2 h3 := f3.C ho (by decide)
      refine ⟨jsI h3 (o + 3) (cN c) (nI (vr a (nx a (nx a p)))), fun K => ?_, (F1.tr F3).tr (fC_w ho (by omega)), fun z => absurd rfl z, fun _ => ⟨⟨t3.k (jI1_w (by omega)), ?_⟩, c3, ?_, ?_, fun j j1 j2 j3 => ?_⟩⟩
      · have gg : gH (jsI h3 (o + 3) (cN c) (nI (vr a (nx a (nx a p))))) q := g_w g3
        rw [R1 K, r3 K, R_at_n gg (by omega), R_at_e gg (by omega)]
      · rw [jI_jsI, if_neg (by omega), f3.2 7 (by decide), k7]
      · rw [jI_jsI, if_neg (by omega), show jI h3 o = jI h2 o from f3.o (i := 0) ho (by omega), k67 7 (by omega), e7]
        show _ = nI (cM (cSE _ _ _))
        rw [cM_E, cM_n (c := c) (c' := cSB (cSA (cAdd c v) (cN c) (vr a (nx a p))) (cN c) (vr a (nx a (nx a p)))) rfl (fun j hj => ⟨u_n (by omega), (u_n (by omega)).trans (u_n (by omega))⟩), if_neg]
        rw [show cV (cSB (cSA (cAdd c v) (cN c) (vr a (nx a p))) (cN c) (vr a (nx a (nx a p)))) (cN c) = v from u_s]; omega
      · rw [jI_jsI, if_neg (by omega), show jI h3 o = jI h2 o from f3.o (i := 0) ho (by omega), k67 6 (by omega), e6]
        rw [cD_s, if_pos (by show uN1 (cV c) (cN c) v (cN c) < 5; rw [u_s]; omega)]
        congr 1; omega
      · have j4 : j < cN c + 1 := j2
        have : j = cN c := by omega
        subst this
        have e : cV (cSE (cSB (cSA (cAdd c v) (cN c) (vr a (nx a p))) (cN c) (vr a (nx a (nx a p)))) (cN c) (cN c + 1)) (cN c) = v := u_s
        rw [e] at j3; omega
    · rw [if_neg f2, decide_eq_false (fun z => f2 z.2), bZ_f]
      obtain ⟨h3, r3, e3, f3⟩ := R_at_f (d := E) (i := cN c) (n := 2) (k := 1) (v7 := .int (nI (vr a (nx a p)))) g2 ho y2 (en_le hp2) (show sk a (en a (nx a p)) = nx a (nx a p) from rfl) t2.1.2 hm (by omega) (by omega) f2
      exact ⟨h3, fun K => by rw [R1 K, r3 K], F1.tr (f3.C ho (by decide)), fun _ => e3, fun z => absurd z f2⟩
  · rw [if_neg f, decide_eq_false (fun z => f z.1), bZ_f]
    obtain ⟨h1, r1, e1, f1⟩ := R_at_f (d := E) (i := cN c) (n := 2) (k := 0) (v7 := .null) g ho y (en_le hp) (show sk a (en a p) = nx a p from rfl) tk.1.2 hm (by omega) (by omega) f
    exact ⟨h1, fun K => by rw [S K, r1 K], f1.C ho (by decide), fun _ => e1, fun z => absurd z f⟩
