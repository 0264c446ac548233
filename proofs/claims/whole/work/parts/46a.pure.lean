/-! claim: the pure reading -/
abbrev kR : Type := Nat × kC × Nat
def cAdd (c : kC) (v : Nat) : kC := (cN c + 1, uN1 (cV c) (cN c) v, uN1 (cA c) (cN c) 0, uN1 (cB c) (cN c) 0, cE c)
def cSA (c : kC) (i x : Nat) : kC := (cN c, cV c, uN1 (cA c) i x, cB c, cE c)
def cSB (c : kC) (i x : Nat) : kC := (cN c, cV c, cA c, uN1 (cB c) i x, cE c)
def cSE (c : kC) (i x : Nat) : kC := (cN c, cV c, cA c, cB c, uN1 (cE c) i x)
/-- the fault of a name at p, among the names m -/
def atF (a : kA) (m p : Nat) : Nat := if 14 ≤ rw' a p then (if m.testBit (rw' a p - 14) then 0 else er 2 p) else er 1 p
def vr (a : kA) (p : Nat) : Nat := rw' a p - 14
def fnE (R : kR) (i : Nat) : kR := if R.1 = 0 then (0, cSE R.2.1 i (cN R.2.1), R.2.2) else R
def isS (a : kA) (p : Nat) : Prop := 3 ≤ rw' a p ∧ rw' a p ≤ 13
/-- a part's verb is read at p: what follows -/
def rdB (f : kC → Nat → Nat → kR) (a : kA) (c : kC) (p m : Nat) : kR :=
  if rw' a p ≤ 4 then (if atF a m (nx a p) = 0 then (0, cSE (cSA (cAdd c (rw' a p - 3)) (cN c) (vr a (nx a p))) (cN c) (cN c + 1), nx a p) else (atF a m (nx a p), c, nx a p))
  else if rw' a p ≤ 7 then (if atF a m (nx a p) = 0 then (if atF a m (nx a (nx a p)) = 0 then (0, cSE (cSB (cSA (cAdd c (rw' a p - 3)) (cN c) (vr a (nx a p))) (cN c) (vr a (nx a (nx a p)))) (cN c) (cN c + 1), nx a (nx a p)) else (atF a m (nx a (nx a p)), c, nx a (nx a p))) else (atF a m (nx a p), c, nx a p))
  else if rw' a p = 8 then fnE (f (cAdd c 5) (nx a p) m) (cN c)
  else if rw' a p ≤ 10 then (if (f (cAdd c (rw' a p - 3)) (nx a p) m).1 = 0 then fnE (f (f (cAdd c (rw' a p - 3)) (nx a p) m).2.1 (nx a (f (cAdd c (rw' a p - 3)) (nx a p) m).2.2) m) (cN c) else f (cAdd c (rw' a p - 3)) (nx a p) m)
  else if 14 ≤ rw' a (nx a p) then fnE (f (cSA (cAdd c (rw' a p - 3)) (cN c) (vr a (nx a p))) (nx a (nx a p)) (m ||| 1 <<< vr a (nx a p))) (cN c)
  else (er 1 (nx a p), c, nx a p)
def rdC (a : kA) : Nat → kC → Nat → Nat → kR
  | 0, c, p, _ => if 3 ≤ rw' a p ∧ rw' a p ≤ 13 then (er 5 p, c, p) else (er 1 p, c, p)
  | d + 1, c, p, m => if 3 ≤ rw' a p ∧ rw' a p ≤ 13 then (if 60 ≤ cN c then (er 5 p, c, p) else rdB (rdC a d) a c p m) else (er 1 p, c, p)
theorem rdC_s {a : kA} {d : Nat} {c : kC} {p m : Nat} : rdC a (d + 1) c p m = if 3 ≤ rw' a p ∧ rw' a p ≤ 13 then (if 60 ≤ cN c then (er 5 p, c, p) else rdB (rdC a d) a c p m) else (er 1 p, c, p) := rfl
/-- the same parts from lo on, and more behind them -/
def agr (lo : Nat) (c c' : kC) : Prop := cN c ≤ cN c' ∧ ∀ j, lo ≤ j → j < cN c → cV c' j = cV c j ∧ cA c' j = cA c j ∧ cB c' j = cB c j ∧ cE c' j = cE c j
theorem agr.rf {lo : Nat} {c : kC} : agr lo c c := ⟨Nat.le_refl _, fun _ _ _ => ⟨rfl, rfl, rfl, rfl⟩⟩
theorem agr.tr {lo : Nat} {c c1 c2 : kC} (a : agr lo c c1) (b : agr lo c1 c2) : agr lo c c2 := ⟨Nat.le_trans a.1 b.1, fun j h1 h2 => by
  obtain ⟨x1, x2, x3, x4⟩ := a.2 j h1 h2
  obtain ⟨y1, y2, y3, y4⟩ := b.2 j h1 (Nat.lt_of_lt_of_le h2 a.1)
  exact ⟨y1.trans x1, y2.trans x2, y3.trans x3, y4.trans x4⟩⟩
theorem agr.mo {lo l2 : Nat} {c c1 : kC} (a : agr lo c c1) (h : lo ≤ l2) : agr l2 c c1 := ⟨a.1, fun j h1 h2 => a.2 j (Nat.le_trans h h1) h2⟩
theorem cW_s {c : kC} {d i m : Nat} : cW c (d + 1) i m = ((decide (i < cN c) && (decide (i < cE c i) && decide (cE c i ≤ cN c))) &&
    (if cV c i < 2 then m.testBit (cA c i) && decide (cE c i = i + 1)
     else if cV c i < 5 then m.testBit (cA c i) && (m.testBit (cB c i) && decide (cE c i = i + 1))
     else if cV c i = 5 then cW c d (i + 1) m && decide (cE c i = cE c (i + 1))
     else if cV c i < 8 then cW c d (i + 1) m && (cW c d (cE c (i + 1)) m && decide (cE c i = cE c (cE c (i + 1))))
     else cW c d (i + 1) (m ||| 1 <<< cA c i) && decide (cE c i = cE c (i + 1)))) := rfl
theorem cW_i {c : kC} {d i m : Nat} (h : cW c d i m = true) : i < cN c ∧ i < cE c i ∧ cE c i ≤ cN c := by
  cases d with
  | zero => cases h
  | succ d =>
    rw [cW_s, Bool.and_eq_true, Bool.and_eq_true, Bool.and_eq_true, decide_eq_true_eq, decide_eq_true_eq, decide_eq_true_eq] at h
    exact h.1
theorem cD_s {c : kC} {d i : Nat} : cD c (d + 1) i = if cV c i < 5 then 0
    else if cV c i = 5 then cD c d (i + 1)
    else if cV c i < 8 then max (cD c d (i + 1)) (cD c d (cE c (i + 1)))
    else 1 + cD c d (i + 1) := rfl
theorem agr_W {lo : Nat} {c c' : kC} (a : agr lo c c') : ∀ (d i m : Nat), lo ≤ i → cW c d i m = true → cW c' d i m = true ∧ cD c' d i = cD c d i ∧ cE c' i = cE c i := by
  intro d
  induction d with
  | zero => intro i m _ h; cases h
  | succ d ih =>
    intro i m hi h
    obtain ⟨b1, b2, b3⟩ := cW_i h
    obtain ⟨v, x, y, e⟩ := a.2 i hi b1
    have n := a.1
    rw [cW_s] at h ⊢
    rw [cD_s, cD_s, v, x, y, e]
    rw [Bool.and_eq_true] at h ⊢
    have h0 : (decide (i < cN c') && (decide (i < cE c i) && decide (cE c i ≤ cN c'))) = true := by
      rw [Bool.and_eq_true, Bool.and_eq_true, decide_eq_true_eq, decide_eq_true_eq, decide_eq_true_eq]; omega
    refine ⟨⟨h0, ?_⟩, ?_, rfl⟩
    · have h1 := h.2
      by_cases c1 : cV c i < 2
      · rw [if_pos c1] at h1 ⊢; exact h1
      · rw [if_neg c1] at h1 ⊢
        by_cases c2 : cV c i < 5
        · rw [if_pos c2] at h1 ⊢; exact h1
        · rw [if_neg c2] at h1 ⊢
          by_cases c3 : cV c i = 5
          · rw [if_pos c3, Bool.and_eq_true] at h1
            rw [if_pos c3]
            obtain ⟨k1, k2, k3⟩ := ih (i + 1) m (by omega) h1.1
            rw [k1, k3, Bool.true_and]; exact h1.2
          · rw [if_neg c3] at h1 ⊢
            by_cases c4 : cV c i < 8
            · rw [if_pos c4, Bool.and_eq_true, Bool.and_eq_true] at h1
              rw [if_pos c4]
              obtain ⟨k1, k2, k3⟩ := ih (i + 1) m (by omega) h1.1
              have q := cW_i h1.1
              obtain ⟨l1, l2, l3⟩ := ih (cE c (i + 1)) m (by omega) h1.2.1
              rw [k1, k3, l1, l3, Bool.true_and, Bool.true_and]; exact h1.2.2
            · rw [if_neg c4, Bool.and_eq_true] at h1
              rw [if_neg c4]
              obtain ⟨k1, k2, k3⟩ := ih (i + 1) _ (by omega) h1.1
              rw [k1, k3, Bool.true_and]; exact h1.2
    · have h1 := h.2
      by_cases c2 : cV c i < 5
      · rw [if_pos c2, if_pos c2]
      · rw [if_neg c2, if_neg c2]
        rw [if_neg (by omega), if_neg c2] at h1
        by_cases c3 : cV c i = 5
        · rw [if_pos c3, Bool.and_eq_true] at h1
          rw [if_pos c3, if_pos c3]
          exact (ih (i + 1) m (by omega) h1.1).2.1
        · rw [if_neg c3] at h1
          rw [if_neg c3, if_neg c3]
          by_cases c4 : cV c i < 8
          · rw [if_pos c4, Bool.and_eq_true, Bool.and_eq_true] at h1
            rw [if_pos c4, if_pos c4]
            obtain ⟨k1, k2, k3⟩ := ih (i + 1) m (by omega) h1.1
            have q := cW_i h1.1
            obtain ⟨l1, l2, l3⟩ := ih (cE c (i + 1)) m (by omega) h1.2.1
            rw [k2, k3, l2]
          · rw [if_neg c4, Bool.and_eq_true] at h1
            rw [if_neg c4, if_neg c4]
            rw [(ih (i + 1) _ (by omega) h1.1).2.1]
/-- the part at i stands well, up to the end -/
def okC (c : kC) (d i m : Nat) : Prop := cW c d i m = true ∧ cE c i = cN c
def okR (c : kC) (i : Nat) : Prop := ∀ j, i ≤ j → j < cN c → cV c j ≤ 10 ∧ cA c j < 4 ∧ cB c j < 4 ∧ (5 ≤ cV c j → j + 1 < cN c)
theorem atF_0 {a : kA} {m p : Nat} (h : atF a m p = 0) : 14 ≤ rw' a p ∧ m.testBit (vr a p) = true ∧ vr a p < 4 := by
  unfold atF at h
  by_cases c : 14 ≤ rw' a p
  · rw [if_pos c] at h
    have := rw_le (a := a) (p := p)
    cases b : m.testBit (rw' a p - 14) with
    | true => exact ⟨c, b, by unfold vr; omega⟩
    | false => rw [b, if_neg (by simp)] at h; exact absurd h (er_0 (by omega))
  · rw [if_neg c] at h; exact absurd h (er_0 (by omega))
theorem u_s {f : Nat → Nat} {k v : Nat} : uN1 f k v k = v := if_pos rfl
theorem u_n {f : Nat → Nat} {k v i : Nat} (h : ¬ i = k) : uN1 f k v i = f i := if_neg h
theorem cAdd_a {c : kC} {v : Nat} : agr 0 c (cAdd c v) := ⟨Nat.le_succ _, fun j _ h => ⟨u_n (by omega), u_n (by omega), u_n (by omega), rfl⟩⟩
theorem cSA_a {c c1 : kC} {i x : Nat} (a : agr 0 c c1) (h : cN c ≤ i) : agr 0 c (cSA c1 i x) := ⟨a.1, fun j h1 h2 => by
  obtain ⟨x1, x2, x3, x4⟩ := a.2 j h1 h2
  exact ⟨x1, (u_n (by omega)).trans x2, x3, x4⟩⟩
theorem cSB_a {c c1 : kC} {i x : Nat} (a : agr 0 c c1) (h : cN c ≤ i) : agr 0 c (cSB c1 i x) := ⟨a.1, fun j h1 h2 => by
  obtain ⟨x1, x2, x3, x4⟩ := a.2 j h1 h2
  exact ⟨x1, x2, (u_n (by omega)).trans x3, x4⟩⟩
theorem cSE_a {c c1 : kC} {i x : Nat} (a : agr 0 c c1) (h : cN c ≤ i) : agr 0 c (cSE c1 i x) := ⟨a.1, fun j h1 h2 => by
  obtain ⟨x1, x2, x3, x4⟩ := a.2 j h1 h2
  exact ⟨x1, x2, x3, (u_n (by omega)).trans x4⟩⟩
theorem cSE_b {c : kC} {i x : Nat} : agr (i + 1) c (cSE c i x) := ⟨Nat.le_refl _, fun j h1 _ => ⟨rfl, rfl, rfl, u_n (by omega)⟩⟩
/-- what a reading that is well told comes to -/
def gdR (a : kA) (c : kC) (d m : Nat) (R : kR) : Prop := R.2.2 ≤ a.1 ∧ (cN c < cN R.2.1 ∧ cN R.2.1 ≤ 60) ∧ agr 0 c R.2.1 ∧ okC R.2.1 d (cN c) m ∧ okR R.2.1 (cN c)
theorem fnE_0 {R : kR} {i : Nat} (h : (fnE R i).1 = 0) : R.1 = 0 ∧ fnE R i = (0, cSE R.2.1 i (cN R.2.1), R.2.2) := by
  unfold fnE at *
  by_cases c : R.1 = 0
  · rw [if_pos c] at *; exact ⟨c, rfl⟩
  · rw [if_neg c] at h; exact absurd h c
theorem rdC_ok {a : kA} : ∀ (d : Nat) (c : kC) (p m : Nat), p ≤ a.1 → cN c ≤ 60 → (rdC a d c p m).1 = 0 → gdR a c d m (rdC a d c p m) := by
  intro d
  induction d with
  | zero =>
    intro c p m hp hc h
    unfold rdC at h
    split at h <;> exact absurd h (er_0 (by omega))
  | succ d ih =>
    intro c p1 m h1 hc h
    have h2 := nx_le h1
    have h3 := nx_le h2
    rw [rdC_s] at h ⊢
    by_cases s : 3 ≤ rw' a p1 ∧ rw' a p1 ≤ 13
    · rw [if_pos s] at h ⊢
      by_cases n : 60 ≤ cN c
      · rw [if_pos n] at h; exact absurd h (er_0 (by omega))
      · rw [if_neg n] at h ⊢
        unfold rdB at h ⊢
        by_cases v1 : rw' a p1 ≤ 4
        · rw [if_pos v1] at h ⊢
          by_cases f : atF a m (nx a p1) = 0
          · rw [if_pos f] at h ⊢
            obtain ⟨f1, f2, f3⟩ := atF_0 f
            generalize vr a (nx a p1) = x at *
            have ev : cV (cSE (cSA (cAdd c (rw' a p1 - 3)) (cN c) x) (cN c) (cN c + 1)) (cN c) = rw' a p1 - 3 := u_s
            have ex : cA (cSE (cSA (cAdd c (rw' a p1 - 3)) (cN c) x) (cN c) (cN c + 1)) (cN c) = x := u_s
            have ee : cE (cSE (cSA (cAdd c (rw' a p1 - 3)) (cN c) x) (cN c) (cN c + 1)) (cN c) = cN c + 1 := u_s
            have en : cN (cSE (cSA (cAdd c (rw' a p1 - 3)) (cN c) x) (cN c) (cN c + 1)) = cN c + 1 := rfl
            refine ⟨h2, ⟨by show cN c < cN c + 1; omega, by show cN c + 1 ≤ 60; omega⟩, cSE_a (cSA_a cAdd_a (Nat.le_refl _)) (Nat.le_refl _), ⟨?_, ee⟩, fun j j1 j2 => ?_⟩
            · show cW (cSE (cSA (cAdd c (rw' a p1 - 3)) (cN c) x) (cN c) (cN c + 1)) (d + 1) (cN c) m = true
              rw [cW_s, ev, ex, ee, en, if_pos (by omega), f2]
              simp
            · have j3 : j < cN c + 1 := j2
              have : j = cN c := by omega
              subst this
              refine ⟨?_, ?_, ?_, fun z => ?_⟩
              · show uN1 (cV c) (cN c) (rw' a p1 - 3) (cN c) ≤ 10; rw [u_s]; omega
              · show uN1 (uN1 (cA c) (cN c) 0) (cN c) x (cN c) < 4; rw [u_s]; exact f3
              · show uN1 (cB c) (cN c) 0 (cN c) < 4; rw [u_s]; omega
              · rw [ev] at z; omega
          · rw [if_neg f] at h; exact absurd h f
        · rw [if_neg v1] at h ⊢
          by_cases v2 : rw' a p1 ≤ 7
          · rw [if_pos v2] at h ⊢
            by_cases f : atF a m (nx a p1) = 0
            · rw [if_pos f] at h ⊢
              by_cases g : atF a m (nx a (nx a p1)) = 0
              · rw [if_pos g] at h ⊢
                obtain ⟨f1, f2, f3⟩ := atF_0 f
                obtain ⟨g1, g2, g3⟩ := atF_0 g
                generalize vr a (nx a p1) = x at *
                generalize vr a (nx a (nx a p1)) = y at *
                have ev : cV (cSE (cSB (cSA (cAdd c (rw' a p1 - 3)) (cN c) x) (cN c) y) (cN c) (cN c + 1)) (cN c) = rw' a p1 - 3 := u_s
                have ex : cA (cSE (cSB (cSA (cAdd c (rw' a p1 - 3)) (cN c) x) (cN c) y) (cN c) (cN c + 1)) (cN c) = x := u_s
                have ey : cB (cSE (cSB (cSA (cAdd c (rw' a p1 - 3)) (cN c) x) (cN c) y) (cN c) (cN c + 1)) (cN c) = y := u_s
                have ee : cE (cSE (cSB (cSA (cAdd c (rw' a p1 - 3)) (cN c) x) (cN c) y) (cN c) (cN c + 1)) (cN c) = cN c + 1 := u_s
                have en : cN (cSE (cSB (cSA (cAdd c (rw' a p1 - 3)) (cN c) x) (cN c) y) (cN c) (cN c + 1)) = cN c + 1 := rfl
                refine ⟨h3, ⟨by show cN c < cN c + 1; omega, by show cN c + 1 ≤ 60; omega⟩, cSE_a (cSB_a (cSA_a cAdd_a (Nat.le_refl _)) (Nat.le_refl _)) (Nat.le_refl _), ⟨?_, ee⟩, fun j j1 j2 => ?_⟩
                · show cW (cSE (cSB (cSA (cAdd c (rw' a p1 - 3)) (cN c) x) (cN c) y) (cN c) (cN c + 1)) (d + 1) (cN c) m = true
                  rw [cW_s, ev, ex, ey, ee, en, if_neg (by omega), if_pos (by omega), f2, g2]
                  simp
                · have j3 : j < cN c + 1 := j2
                  have : j = cN c := by omega
                  subst this
                  refine ⟨?_, ?_, ?_, fun z => ?_⟩
                  · show uN1 (cV c) (cN c) (rw' a p1 - 3) (cN c) ≤ 10; rw [u_s]; omega
                  · show uN1 (uN1 (cA c) (cN c) 0) (cN c) x (cN c) < 4; rw [u_s]; exact f3
                  · show uN1 (uN1 (cB c) (cN c) 0) (cN c) y (cN c) < 4; rw [u_s]; exact g3
                  · rw [ev] at z; omega
              · rw [if_neg g] at h; exact absurd h g
            · rw [if_neg f] at h; exact absurd h f
          · rw [if_neg v2] at h ⊢
            by_cases v3 : rw' a p1 = 8
            · rw [if_pos v3] at h ⊢
              obtain ⟨r0, e⟩ := fnE_0 h
              rw [e]
              obtain ⟨i1, ⟨i2, i3⟩, i4, ⟨i5, i6⟩, i7⟩ := ih (cAdd c 5) (nx a p1) m h2 (by show cN c + 1 ≤ 60; omega) r0
              generalize rdC a d (cAdd c 5) (nx a p1) m = R at *
              have nA : cN (cAdd c 5) = cN c + 1 := rfl
              rw [nA] at i2 i5 i6 i7
              obtain ⟨w1, w2, w3, w4⟩ := i4.2 (cN c) (Nat.zero_le _) (by rw [nA]; omega)
              have w1 : cV R.2.1 (cN c) = 5 := w1.trans u_s
              have w2 : cA R.2.1 (cN c) = 0 := w2.trans u_s
              have w3 : cB R.2.1 (cN c) = 0 := w3.trans u_s
              obtain ⟨k1, k2, k3⟩ := agr_W (cSE_b (c := R.2.1) (i := cN c) (x := cN R.2.1)) d (cN c + 1) m (Nat.le_refl _) i5
              have ee : cE (cSE R.2.1 (cN c) (cN R.2.1)) (cN c) = cN R.2.1 := u_s
              refine ⟨i1, ⟨by show cN c < cN R.2.1; omega, i3⟩, cSE_a ⟨by omega, fun j j1 j2 => ?_⟩ (Nat.le_refl _), ⟨?_, ee⟩, fun j j1 j2 => ?_⟩
              · obtain ⟨y1, y2, y3, y4⟩ := (cAdd_a (v := 5)).tr i4 |>.2 j j1 j2
                exact ⟨y1, y2, y3, y4⟩
              · show cW (cSE R.2.1 (cN c) (cN R.2.1)) (d + 1) (cN c) m = true
                rw [cW_s, ee, show cV (cSE R.2.1 (cN c) (cN R.2.1)) (cN c) = 5 from w1, show cN (cSE R.2.1 (cN c) (cN R.2.1)) = cN R.2.1 from rfl, if_neg (by omega), if_neg (by omega), if_pos rfl, k1, k3, i6]
                simp; omega
              · show cV R.2.1 j ≤ 10 ∧ cA R.2.1 j < 4 ∧ cB R.2.1 j < 4 ∧ (5 ≤ cV R.2.1 j → j + 1 < cN R.2.1)
                by_cases c2 : j = cN c
                · rw [c2, w1, w2, w3]; omega
                · exact i7 j (by omega) j2
            · rw [if_neg v3] at h ⊢
              by_cases v4 : rw' a p1 ≤ 10
              · rw [if_pos v4] at h ⊢
                by_cases r0 : (rdC a d (cAdd c (rw' a p1 - 3)) (nx a p1) m).1 = 0
                · rw [if_pos r0] at h ⊢
                  obtain ⟨r1, e⟩ := fnE_0 h
                  rw [e]
                  obtain ⟨i1, ⟨i2, i3⟩, i4, ⟨i5, i6⟩, i7⟩ := ih (cAdd c (rw' a p1 - 3)) (nx a p1) m h2 (by show cN c + 1 ≤ 60; omega) r0
                  generalize rdC a d (cAdd c (rw' a p1 - 3)) (nx a p1) m = R at *
                  have nA : cN (cAdd c (rw' a p1 - 3)) = cN c + 1 := rfl
                  rw [nA] at i2 i5 i6 i7
                  obtain ⟨l1, ⟨l2, l3⟩, l4, ⟨l5, l6⟩, l7⟩ := ih R.2.1 (nx a R.2.2) m (nx_le i1) i3 r1
                  generalize rdC a d R.2.1 (nx a R.2.2) m = Q at *
                  obtain ⟨w1, w2, w3, w4⟩ := (i4.tr ⟨l4.1, fun j j1 j2 => l4.2 j j1 j2⟩).2 (cN c) (Nat.zero_le _) (by rw [nA]; omega)
                  have w1 : cV Q.2.1 (cN c) = rw' a p1 - 3 := w1.trans u_s
                  have w2 : cA Q.2.1 (cN c) = 0 := w2.trans u_s
                  have w3 : cB Q.2.1 (cN c) = 0 := w3.trans u_s
                  obtain ⟨k1, k2, k3⟩ := agr_W ((l4.mo (Nat.zero_le (cN c + 1))).tr (cSE_b (c := Q.2.1) (i := cN c) (x := cN Q.2.1))) d (cN c + 1) m (Nat.le_refl _) i5
                  obtain ⟨n1, n2, n3⟩ := agr_W (cSE_b (c := Q.2.1) (i := cN c) (x := cN Q.2.1)) d (cN R.2.1) m (by omega) l5
                  have ee : cE (cSE Q.2.1 (cN c) (cN Q.2.1)) (cN c) = cN Q.2.1 := u_s
                  refine ⟨l1, ⟨by show cN c < cN Q.2.1; omega, l3⟩, cSE_a ((cAdd_a (v := rw' a p1 - 3)).tr (i4.tr l4)) (Nat.le_refl _), ⟨?_, ee⟩, fun j j1 j2 => ?_⟩
                  · show cW (cSE Q.2.1 (cN c) (cN Q.2.1)) (d + 1) (cN c) m = true
                    rw [cW_s, ee, show cV (cSE Q.2.1 (cN c) (cN Q.2.1)) (cN c) = rw' a p1 - 3 from w1, show cN (cSE Q.2.1 (cN c) (cN Q.2.1)) = cN Q.2.1 from rfl, if_neg (by omega), if_neg (by omega), if_neg (by omega), if_pos (by omega), k1, k3, i6, n1, n3, l6]
                    simp; omega
                  · show cV Q.2.1 j ≤ 10 ∧ cA Q.2.1 j < 4 ∧ cB Q.2.1 j < 4 ∧ (5 ≤ cV Q.2.1 j → j + 1 < cN Q.2.1)
                    by_cases c2 : j = cN c
                    · rw [c2, w1, w2, w3]; omega
                    · by_cases c3 : j < cN R.2.1
                      · obtain ⟨z1, z2, z3, -⟩ := l4.2 j (Nat.zero_le _) c3
                        rw [z1, z2, z3]
                        obtain ⟨y1, y2, y3, y4⟩ := i7 j (by omega) c3
                        exact ⟨y1, y2, y3, fun z => Nat.lt_of_lt_of_le (y4 z) l4.1⟩
                      · exact l7 j (by omega) j2
                · rw [if_neg r0] at h; exact absurd h r0
              · rw [if_neg v4] at h ⊢
                by_cases f : 14 ≤ rw' a (nx a p1)
                · rw [if_pos f] at h ⊢
                  have x4 : vr a (nx a p1) < 4 := by have := rw_le (a := a) (p := nx a p1); unfold vr; omega
                  obtain ⟨r0, e⟩ := fnE_0 h
                  rw [e]
                  generalize vr a (nx a p1) = x at *
                  obtain ⟨i1, ⟨i2, i3⟩, i4, ⟨i5, i6⟩, i7⟩ := ih (cSA (cAdd c (rw' a p1 - 3)) (cN c) x) (nx a (nx a p1)) (m ||| 1 <<< x) h3 (by show cN c + 1 ≤ 60; omega) r0
                  generalize rdC a d (cSA (cAdd c (rw' a p1 - 3)) (cN c) x) (nx a (nx a p1)) (m ||| 1 <<< x) = R at *
                  have nA : cN (cSA (cAdd c (rw' a p1 - 3)) (cN c) x) = cN c + 1 := rfl
                  rw [nA] at i2 i5 i6 i7
                  obtain ⟨w1, w2, w3, w4⟩ := i4.2 (cN c) (Nat.zero_le _) (by rw [nA]; omega)
                  have w1 : cV R.2.1 (cN c) = rw' a p1 - 3 := w1.trans u_s
                  have w2 : cA R.2.1 (cN c) = x := w2.trans u_s
                  have w3 : cB R.2.1 (cN c) = 0 := w3.trans u_s
                  obtain ⟨k1, k2, k3⟩ := agr_W (cSE_b (c := R.2.1) (i := cN c) (x := cN R.2.1)) d (cN c + 1) (m ||| 1 <<< x) (Nat.le_refl _) i5
                  have ee : cE (cSE R.2.1 (cN c) (cN R.2.1)) (cN c) = cN R.2.1 := u_s
                  refine ⟨i1, ⟨by show cN c < cN R.2.1; omega, i3⟩, cSE_a ((cSA_a (cAdd_a (v := rw' a p1 - 3)) (Nat.le_refl _)).tr i4) (Nat.le_refl _), ⟨?_, ee⟩, fun j j1 j2 => ?_⟩
                  · show cW (cSE R.2.1 (cN c) (cN R.2.1)) (d + 1) (cN c) m = true
                    rw [cW_s, ee, show cV (cSE R.2.1 (cN c) (cN R.2.1)) (cN c) = rw' a p1 - 3 from w1, show cA (cSE R.2.1 (cN c) (cN R.2.1)) (cN c) = x from w2, show cN (cSE R.2.1 (cN c) (cN R.2.1)) = cN R.2.1 from rfl, if_neg (by omega), if_neg (by omega), if_neg (by omega), if_neg (by omega), k1, k3, i6]
                    simp; omega
                  · show cV R.2.1 j ≤ 10 ∧ cA R.2.1 j < 4 ∧ cB R.2.1 j < 4 ∧ (5 ≤ cV R.2.1 j → j + 1 < cN R.2.1)
                    by_cases c2 : j = cN c
                    · rw [c2, w1, w2, w3]; omega
                    · exact i7 j (by omega) j2
                · rw [if_neg f] at h; exact absurd h (er_0 (by omega))
    · rw [if_neg s] at h; exact absurd h (er_0 (by omega))
