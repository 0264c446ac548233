/-! memories that are the same where P says; changes of a town that may be -/
def smP (P : Nat → Nat → Bool) (h h' : jM) : Prop := jFr h h' ∧ ∀ o k, P o k = true → jI h' o k = jI h o k ∧ jL h' o k = jL h o k
theorem smP.rf {P : Nat → Nat → Bool} {h : jM} : smP P h h := ⟨jFr.rf, fun _ _ _ => ⟨rfl, rfl⟩⟩
theorem smP.tr {P : Nat → Nat → Bool} {h : jM} {h1 : jM} {h2 : jM} (a : smP P h h1) (b : smP P h1 h2) : smP P h h2 := ⟨a.1.tr b.1, fun o k e => ⟨(b.2 o k e).1.trans (a.2 o k e).1, (b.2 o k e).2.trans (a.2 o k e).2⟩⟩
theorem smP.i {P : Nat → Nat → Bool} {h : jM} {h1 : jM} {o : Nat} {k : Nat} (a : smP P h h1) (e : P o k = true) : jI h1 o k = jI h o k := (a.2 o k e).1
theorem smP.l {P : Nat → Nat → Bool} {h : jM} {h1 : jM} {o : Nat} {k : Nat} (a : smP P h h1) (e : P o k = true) : jL h1 o k = jL h o k := (a.2 o k e).2
theorem smP_w {P : Nat → Nat → Bool} {h : jM} {o : Nat} {k : Nat} {x : Int32} (e : P o k = false) : smP P h (jsI h o k x) := ⟨jFr.rf, fun a b z => ⟨by (rw [jI_jsI, if_neg]; rintro ⟨rfl, rfl⟩; rw [e] at z; cases z), rfl⟩⟩
theorem smP_l {P : Nat → Nat → Bool} {h : jM} {o : Nat} {k : Nat} {v : Int64} (e : P o k = false) : smP P h (jsL h o k v) := ⟨jFr.rf, fun a b z => ⟨rfl, by
  rw [jL_jsL, if_neg]; rintro ⟨rfl, rfl⟩; rw [e] at z; cases z⟩⟩
theorem smP_x {P : Nat → Nat → Bool} {S : List Nat} {h : jM} {h1 : jM} (a : fX S h h1) (e : ∀ o, o ∈ S → ∀ k, P o k = false) : smP P h h1 := ⟨a.1, fun o k z => by
  have n : o ∉ S := fun q => by rw [e o q k] at z; cases z
  rw [a.i n, a.l n]; exact ⟨rfl, rfl⟩⟩
theorem smP_sm {P : Nat → Nat → Bool} {h : jM} {h1 : jM} (a : sm h h1) (e : ∀ o k, P o k = true → imp o k = true) : smP P h h1 := ⟨a.1, fun o k z => a.2 o k (e o k z)⟩
theorem smP_c {P : Nat → Nat → Bool} {h : jM} {s : Nat} {i : Nat} {t : Nat} {j : Nat} {n : Nat} (e : ∀ k, j ≤ k → k < j + n → P t k = false) : smP P h (jCp h s i t j n) := ⟨jFr.rf, fun a b z => ⟨by
  rw [jCp_I]; split
  · rename_i c; subst c; rw [if_neg]; rintro ⟨q1, q2⟩; rw [e b q1 q2] at z; cases z
  · rfl, rfl⟩⟩
theorem smP.r {P : Nat → Nat → Bool} {h : jM} {h1 : jM} {o : Nat} (a : smP P h h1) (e : ∀ k, P o k = true) : jI h1 o = jI h o ∧ jL h1 o = jL h o := ⟨funext fun k => a.i (e k), funext fun k => a.l (e k)⟩
theorem smP.T {P : Nat → Nat → Bool} {h : jM} {h1 : jM} {t : Nat} {T : kT} (a : smP P h h1) (e : ∀ i, i < 3 → ∀ k, P (t + i) k = true) (hT : rT h t T) : rT h1 t T := by
  unfold rT
  have e0 := (a.r (e 0 (by omega))).1
  rw [Nat.add_zero] at e0
  rw [e0, (a.r (e 1 (by omega))).1, (a.r (e 2 (by omega))).1]
  exact hT
theorem smP.S {P : Nat → Nat → Bool} {s : kS} {h : jM} {h1 : jM} {o : Nat} (a : smP P h h1) (e : ∀ i, i < 8 → ∀ k, P (o + i) k = true) (hS : rS h o s) : rS h1 o s := by
  obtain ⟨a1, a2, a3, a4, a5, a6, a7⟩ := hS
  have e0 := a.r (e 0 (by omega))
  rw [Nat.add_zero] at e0
  have e7 := a.r (e 7 (by omega))
  refine ⟨a.T (fun i hi k => by rw [Nat.add_assoc]; exact e (1 + i) (by omega) k) a1, a.T (fun i hi k => by rw [Nat.add_assoc]; exact e (4 + i) (by omega) k) a2, ?_, ?_, ?_, ?_, ?_⟩
  · rw [e7.1]; exact a3
  · rw [e0.1]; exact a4
  · rw [e0.1]; exact a5
  · rw [e0.2]; exact a6
  · rw [e0.1]; exact a7
theorem smP.U {P : Nat → Nat → Bool} {u : kU} {h : jM} {h1 : jM} {b : Nat} (a : smP P h h1) (e : ∀ k, k < 25 → P 110 (b + k) = true) (hU : rU h b u) : rU h1 b u := by
  obtain ⟨x1, x2, x3⟩ := hU
  have e0 := e 0 (by omega)
  rw [Nat.add_zero] at e0
  refine ⟨?_, fun i hi => ?_, fun t ht => ?_⟩
  · rw [a.i e0]; exact x1
  · rw [a.i (by rw [Nat.add_assoc]; exact e _ (by omega))]; exact x2 i hi
  · obtain ⟨⟨y1, y2⟩, y3⟩ := x3 t ht
    refine ⟨⟨?_, ?_⟩, fun f hf => ⟨?_, ?_⟩⟩
    · rw [a.i (by rw [Nat.add_assoc]; exact e _ (by omega))]; exact y1
    · rw [a.i (by rw [Nat.add_assoc]; exact e _ (by omega))]; exact y2
    · rw [a.i (by rw [Nat.add_assoc, Nat.add_assoc]; exact e _ (by omega))]; exact (y3 f hf).1
    · rw [a.i (by rw [Nat.add_assoc, Nat.add_assoc]; exact e _ (by omega))]; exact (y3 f hf).2
theorem smP.V {P : Nat → Nat → Bool} {s : kS} {h : jM} {h1 : jM} {b : Nat} (a : smP P h h1) (e : ∀ k, k < 29 → P 110 (b + k) = true) (hV : rV h b s) : rV h1 b s := by
  obtain ⟨x1, x2, x3⟩ := hV
  refine ⟨a.U (fun k hk => e k (by omega)) x1, ?_, fun j hj => ?_⟩
  · rw [a.i (e 25 (by omega))]; exact x2
  · rw [a.i (by rw [Nat.add_assoc]; exact e _ (by omega))]; exact x3 j hj
theorem smP.F {P : Nat → Nat → Bool} {h : jM} {h1 : jM} {T : kT} {U : kT} (a : smP P h h1) (e : ∀ k, P 99 k = true) (hM : MF h T U) : MF h1 T U := by
  unfold MF
  rw [(a.r e).1]; exact hM
theorem smP.A {P : Nat → Nat → Bool} {w : Nat × (Nat → Nat)} {h : jM} {h1 : jM} (a : smP P h h1) (e1 : P 1 1 = true) (e2 : P 93 2 = true) (e3 : ∀ k, P 2 k = true) (e4 : ∀ k, P 94 k = true) (hA : rA h w) : rA h1 w := by
  obtain ⟨x1, x2, x3, x4⟩ := hA
  refine ⟨x1, ?_, ?_, fun i hi => ?_⟩
  · rw [a.i e1]; exact x2
  · rw [a.i e2]; exact x3
  · rw [a.i (e3 i), a.i (e4 i)]; exact x4 i hi
theorem smP.Ct {P : Nat → Nat → Bool} {h : jM} {h1 : jM} {q : kQ} (a : smP P h h1) (e1 : ∀ k, P 98 k = true) (e2 : ∀ k, P 109 k = true) (x : rCt h q) : rCt h1 q := by
  obtain ⟨x1, x2, x3⟩ := x
  refine ⟨x1, ?_, ?_⟩
  · rw [(a.r e1).2]; exact x2
  · rw [(a.r e2).1]; exact x3
theorem smP.Cl {P : Nat → Nat → Bool} {c : kC} {h : jM} {h1 : jM} {o : Nat} (a : smP P h h1) (e : ∀ i, i < 5 → ∀ k, P (o + i) k = true) (x : rCl h o c) : rCl h1 o c := by
  have e0 := a.r (e 0 (by omega))
  rw [Nat.add_zero] at e0
  have e1 := a.r (e 1 (by omega))
  have e2 := a.r (e 2 (by omega))
  have e3 := a.r (e 3 (by omega))
  have e4 := a.r (e 4 (by omega))
  unfold rCl
  rw [e0.1, e0.2, e1.1, e2.1, e3.1, e4.1]
  exact x
theorem smP.K {P : Nat → Nat → Bool} {c : kC} {h : jM} {h1 : jM} {q : kQ} (a : smP P h h1) (hq : qC q = 54 ∨ qC q = 60) (e0 : P 0 9 = true) (e1 : P 93 18 = true) (e2 : ∀ i, i < 5 → ∀ k, P (54 + i) k = true) (e3 : ∀ i, i < 5 → ∀ k, P (60 + i) k = true) (e4 : ∀ i, i < 4 → ∀ k, P (102 + i) k = true) (x : rK h q c) : rK h1 q c := by
  obtain ⟨x1, x2, x3⟩ := x
  refine ⟨?_, ?_, fun z => ?_⟩
  · rw [a.i e0]; exact x1
  · rw [a.i e1]; exact x2
  · obtain ⟨y1, y2, y3⟩ := x3 z
    refine ⟨y1, a.Cl ?_ y2, fun i hi => ?_⟩
    · rcases hq with z | z <;> rw [z] <;> assumption
    · rw [(a.r (e4 0 (by omega))).1, (a.r (e4 1 (by omega))).1, (a.r (e4 2 (by omega))).1, (a.r (e4 3 (by omega))).1]
      exact y3 i hi
/-- of one mark -/
def rM1 (h : jM) (F G m : Nat) (s : kS) (b : Bool) : Prop := jI h 52 m = bZ b ∧ jI h 111 m = bZ b ∧ (b = true → rS h (20 + 8 * m) s ∧ rV h (29 * (1 + m)) s ∧ sOk F G s)
theorem smP.M1 {P : Nat → Nat → Bool} {s : kS} {b : Bool} {h : jM} {h1 : jM} {m : Nat} {F G : Nat} (a : smP P h h1) (e1 : P 52 m = true) (e2 : P 111 m = true) (e3 : ∀ i, i < 8 → ∀ k, P (20 + 8 * m + i) k = true) (e4 : ∀ k, k < 29 → P 110 (29 * (1 + m) + k) = true) (x : rM1 h F G m s b) : rM1 h1 F G m s b := by
  obtain ⟨x1, x2, x3⟩ := x
  refine ⟨?_, ?_, fun z => ?_⟩
  · rw [a.i e1]; exact x1
  · rw [a.i e2]; exact x2
  · obtain ⟨y1, y2, y3⟩ := x3 z
    exact ⟨a.S e3 y1, a.V e4 y2, y3⟩
/-! changes that may be -/
def kMay (T : kT) (k : Nat) : Prop := k < 40 ∧ (k < 8 → k % 4 < tF T) ∧ (8 ≤ k → (k - 8) / 4 % 4 < tF T ∧ (k - 8) % 4 < tF T ∧ (k - 8) / 4 % 4 ≠ (k - 8) % 4)
theorem kMay.c {T : kT} {k : Nat} (h : kMay T k) : cOk k := ⟨h.1, fun a _ => (h.2.2 a).2.2⟩
theorem tCh_F {T : kT} {k : Nat} : tF (tCh T k) = tF T := by unfold tCh; split; rfl; split; rfl; split <;> rfl
theorem p2_sh {n i : Nat} (h : i < n) : 1 <<< i < 2 ^ n := by rw [Nat.one_shiftLeft]; exact Nat.pow_lt_pow_right (by decide) h
theorem tb_x {a i j : Nat} : (a ^^^ 1 <<< i).testBit j = ((a.testBit j) ^^ decide (i = j)) := by rw [Nat.testBit_xor, tb_sh]
theorem tOk_ch {T : kT} {k : Nat} (ok : tOk T) (h : kMay T k) : tOk (tCh T k) := by
  obtain ⟨a1, a2, a3, a4, a5, a6, a7⟩ := ok
  obtain ⟨h1, h2, h3⟩ := h
  unfold tCh
  by_cases c1 : k < 4
  · rw [if_pos c1]
    have := h2 (by omega)
    exact ⟨a1, Nat.xor_lt_two_pow a2 (p2_sh (show k < tF T by omega)), a3, a4, a5, a6, a7⟩
  · rw [if_neg c1]
    by_cases c2 : k < 8
    · rw [if_pos c2]
      have := h2 (by omega)
      exact ⟨a1, a2, Nat.xor_lt_two_pow a3 (p2_sh (show k - 4 < tF T by omega)), a4, a5, a6, a7⟩
    · rw [if_neg c2]
      obtain ⟨k1, k2, k3⟩ := h3 (by omega)
      generalize (k - 8) / 4 % 4 = i at k1 k3 ⊢
      generalize (k - 8) % 4 = j at k2 k3 ⊢
      by_cases c3 : 24 ≤ k
      · rw [if_pos c3]
        refine ⟨a1, a2, a3, fun x hx => ⟨(a4 x hx).1, ?_⟩, a5, fun x hx => ⟨(a6 x hx).1, ?_⟩, fun x hx hx4 => ⟨(a7 x hx hx4).1, ?_⟩⟩
        · show uN1 (tO T) i _ x < 2 ^ tF T
          by_cases e : x = i
          · subst e; rw [uN1_s]; exact Nat.xor_lt_two_pow (a4 x hx).2 (p2_sh k2)
          · rw [uN1_n e]; exact (a4 x hx).2
        · show (uN1 (tO T) i _ x).testBit x = false
          by_cases e : x = i
          · subst e; rw [uN1_s, tb_x, (a6 x hx).2]; simp; omega
          · rw [uN1_n e]; exact (a6 x hx).2
        · show uN1 (tO T) i _ x = 0
          have hx' : tF T ≤ x := hx
          rw [uN1_n (by omega)]; exact (a7 x hx hx4).2
      · rw [if_neg c3]
        have key : ∀ x, uN1 (uN1 (tN T) i (tN T i ^^^ 1 <<< j)) j (tN T j ^^^ 1 <<< i) x = if x = j then tN T j ^^^ 1 <<< i else if x = i then tN T i ^^^ 1 <<< j else tN T x := fun x => rfl
        refine ⟨a1, a2, a3, fun x hx => ⟨?_, (a4 x hx).2⟩, fun x y hx hy => ?_, fun x hx => ⟨?_, (a6 x hx).2⟩, fun x hx hx4 => ⟨?_, (a7 x hx hx4).2⟩⟩
        · show uN1 (uN1 (tN T) i (tN T i ^^^ 1 <<< j)) j (tN T j ^^^ 1 <<< i) x < 2 ^ tF T
          rw [key]
          split
          · exact Nat.xor_lt_two_pow (a4 j (by omega)).1 (p2_sh k1)
          · split
            · exact Nat.xor_lt_two_pow (a4 i (by omega)).1 (p2_sh k2)
            · exact (a4 x hx).1
        · show (uN1 (uN1 (tN T) i (tN T i ^^^ 1 <<< j)) j (tN T j ^^^ 1 <<< i) x).testBit y = (uN1 (uN1 (tN T) i (tN T i ^^^ 1 <<< j)) j (tN T j ^^^ 1 <<< i) y).testBit x
          rw [key, key]
          have s1 := a5 x y hx hy
          by_cases x1 : x = j
          · subst x1
            by_cases y1 : y = x
            · subst y1; rfl
            · by_cases y2 : y = i
              · subst y2; simp [k3, tb_x, s1]
              · have y3 : ¬ i = y := fun q => y2 q.symm
                have y4 : ¬ x = i := fun q => k3 q.symm
                simp only [y1, y2, tb_x, y3, y4, s1, if_true, if_false, decide_false, Bool.xor_false]
          · by_cases x2 : x = i
            · subst x2
              by_cases y1 : y = j
              · subst y1; simp [x1, tb_x, s1]
              · by_cases y2 : y = x
                · subst y2; rfl
                · have y3 : ¬ j = y := fun q => y1 q.symm
                  simp only [x1, y1, y2, tb_x, y3, s1, if_true, if_false, decide_false, Bool.xor_false]
            · by_cases y1 : y = j
              · subst y1
                have y3 : ¬ i = x := fun q => x2 q.symm
                simp only [x1, x2, tb_x, y3, s1, if_true, if_false, decide_false, Bool.xor_false]
              · by_cases y2 : y = i
                · subst y2
                  have y3 : ¬ j = x := fun q => x1 q.symm
                  simp only [x1, x2, y1, tb_x, y3, s1, if_true, if_false, decide_false, Bool.xor_false]
                · simp [x1, x2, y1, y2, s1]
        · show (uN1 (uN1 (tN T) i (tN T i ^^^ 1 <<< j)) j (tN T j ^^^ 1 <<< i) x).testBit x = false
          rw [key]
          split
          · rename_i e; subst e; rw [tb_x, (a6 x hx).1]; simp [k3]
          · split
            · rename_i e1 e; subst e; rw [tb_x, (a6 x hx).1]
              have : ¬ j = x := fun q => e1 q.symm
              simp [this]
            · exact (a6 x hx).1
        · show uN1 (uN1 (tN T) i (tN T i ^^^ 1 <<< j)) j (tN T j ^^^ 1 <<< i) x = 0
          have hx' : tF T ≤ x := hx
          rw [key, if_neg (by omega), if_neg (by omega)]; exact (a7 x hx hx4).1
theorem xor2 {a b : Nat} : a ^^^ b ^^^ b = a := by rw [Nat.xor_assoc, Nat.xor_self, Nat.xor_zero]
theorem tCh_2 {T : kT} {k : Nat} (h : cOk k) : tCh (tCh T k) k = T := by
  obtain ⟨F, b, w, N, O⟩ := T
  have h2 := h.2
  unfold tCh
  by_cases c1 : k < 4
  · simp only [c1, if_true]
    show (F, b ^^^ 1 <<< k ^^^ 1 <<< k, w, N, O) = _
    rw [xor2]
  · by_cases c2 : k < 8
    · simp only [c1, c2, if_true, if_false]
      show (F, b, w ^^^ 1 <<< (k - 4) ^^^ 1 <<< (k - 4), N, O) = _
      rw [xor2]
    · by_cases c3 : 24 ≤ k
      · simp only [c1, c2, c3, if_true, if_false]
        generalize (k - 8) / 4 % 4 = i
        generalize (k - 8) % 4 = j
        show (F, b, w, N, uN1 (uN1 O i (O i ^^^ 1 <<< j)) i (uN1 O i (O i ^^^ 1 <<< j) i ^^^ 1 <<< j)) = _
        rw [uN1_s, xor2]
        have e : uN1 (uN1 O i (O i ^^^ 1 <<< j)) i (O i) = O := by
          funext x
          by_cases z : x = i
          · subst z; rw [uN1_s]
          · rw [uN1_n z, uN1_n z]
        rw [e]
      · simp only [c1, c2, c3, if_false]
        have h3 := h2 (by omega) (by omega)
        revert h3
        generalize (k - 8) / 4 % 4 = i
        generalize (k - 8) % 4 = j
        intro h3
        have e : ∀ f : Nat → Nat, uN1 (uN1 (uN1 (uN1 f i (f i ^^^ 1 <<< j)) j (f j ^^^ 1 <<< i)) i (uN1 (uN1 f i (f i ^^^ 1 <<< j)) j (f j ^^^ 1 <<< i) i ^^^ 1 <<< j)) j (uN1 (uN1 f i (f i ^^^ 1 <<< j)) j (f j ^^^ 1 <<< i) j ^^^ 1 <<< i) = f := by
          intro f
          rw [uN1_s, uN1_n h3, uN1_s, xor2, xor2]
          funext x
          by_cases z : x = j
          · subst z; rw [uN1_s]
          · rw [uN1_n z]
            by_cases y : x = i
            · subst y; rw [uN1_s]
            · rw [uN1_n y, uN1_n z, uN1_n y]
        exact congrArg (fun f => (F, b, w, f, O)) (e N)
theorem kMay_n {T : kT} {k : Nat} {f : Nat} {t : Nat} (h : k < 8 ∧ f = k % 4 ∧ f < tF T) (ht : t = t) : kMay T k := ⟨by omega, fun _ => by omega, fun z => by omega⟩
