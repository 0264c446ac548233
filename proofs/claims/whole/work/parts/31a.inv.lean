/-! WHAT IS KEPT between the calls: the class's memory and the reference's tell one and the same state -/
/-- towns, pairs, a round with nobody left: what can be undone -/
abbrev kU : Type := kT × kT × (Nat → Nat) × Bool
def su (s : kS) : kU := (s1 s, s2 s, sP s, sG s)
def u1 (u : kU) : kT := u.1
def u2 (u : kU) : kT := u.2.1
def uP (u : kU) : Nat → Nat := u.2.2.1
def uG (u : kU) : Bool := u.2.2.2
def rU (h : jM) (b : Nat) (u : kU) : Prop := jI h 110 b = bZ (uG u) ∧ (∀ i, i < 4 → jI h 110 (b + 1 + i) = pI (uP u i)) ∧ MT h b (u1 u) (u2 u)
/-- the lost town's: world w < 75 -/
def l75 (s : kS) : Nat := sLF s + 2048 * sL3 s
def wd (s : kS) (j : Nat) : Nat := l75 s / 2 ^ (25 * j) % 2 ^ 25
def rV (h : jM) (b : Nat) (s : kS) : Prop := rU h b (su s) ∧ jI h 110 (b + 25) = nI (sRe s) ∧ ∀ j, j < 3 → jI h 110 (b + 26 + j) = nI (wd s j)
def uOk (F G : Nat) (u : kU) : Prop := (tOk (u1 u) ∧ tOk (u2 u)) ∧ pv (u1 u) (u2 u) (uP u) ∧ p4 (uP u) ∧ tF (u1 u) = F ∧ tF (u2 u) = G
def sOk (F G : Nat) (s : kS) : Prop := uOk F G (su s) ∧ sRe s ≤ 4 ∧ sL3 s < 2 ^ 64 ∧ sLF s < 2048
/-- what was done, taken back -/
def rvU (c : Nat) (u : kU) : kU := if 132 ≤ c then (u1 u, u2 u, uP u, false) else if 128 ≤ c then (u1 u, u2 u, uN1 (uP u) (c - 128) 0, uG u) else if 64 ≤ c then (u1 u, tCh (u2 u) (c - 64), uP u, uG u) else (tCh (u1 u) c, u2 u, uP u, uG u)
def dOk (c : Nat) : Prop := c ≤ 132 ∧ (c < 128 → cOk (c % 64))
/-! a claim: how many parts; of each its verb (0 baker, 1 widow, 2 near, 3 owes, 4 same, 5 not, 6 and, 7 or, 8 some, 9 all, 10 two), its names, what stands behind it -/
abbrev kC : Type := Nat × (Nat → Nat) × (Nat → Nat) × (Nat → Nat) × (Nat → Nat)
def cN (c : kC) : Nat := c.1
def cV (c : kC) : Nat → Nat := c.2.1
def cA (c : kC) : Nat → Nat := c.2.2.1
def cB (c : kC) : Nat → Nat := c.2.2.2.1
def cE (c : kC) : Nat → Nat := c.2.2.2.2
/-- a part stands well, with so many others within it at most, among these names -/
def cW (c : kC) : Nat → Nat → Nat → Bool
  | 0, _, _ => false
  | d + 1, i, m => (decide (i < cN c) && (decide (i < cE c i) && decide (cE c i ≤ cN c))) &&
    (if cV c i < 2 then m.testBit (cA c i) && decide (cE c i = i + 1)
     else if cV c i < 5 then m.testBit (cA c i) && (m.testBit (cB c i) && decide (cE c i = i + 1))
     else if cV c i = 5 then cW c d (i + 1) m && decide (cE c i = cE c (i + 1))
     else if cV c i < 8 then cW c d (i + 1) m && (cW c d (cE c (i + 1)) m && decide (cE c i = cE c (cE c (i + 1))))
     else cW c d (i + 1) (m ||| 1 <<< cA c i) && decide (cE c i = cE c (i + 1)))
def cnt (f : Nat → Bool) : Nat → Nat
  | 0 => 0
  | n + 1 => cnt f n + if f n then 1 else 0
/-- a part's truth in a town, its names being these -/
def ev (c : kC) (T : kT) : Nat → Nat → (Nat → Nat) → Bool
  | 0, _, _ => false
  | d + 1, i, m =>
    if cV c i = 0 then (tB T).testBit (m (cA c i))
    else if cV c i = 1 then (tW T).testBit (m (cA c i))
    else if cV c i = 2 then (tN T (m (cA c i))).testBit (m (cB c i))
    else if cV c i = 3 then (tO T (m (cA c i))).testBit (m (cB c i))
    else if cV c i = 4 then decide (m (cA c i) = m (cB c i))
    else if cV c i = 5 then !ev c T d (i + 1) m
    else if cV c i = 6 then ev c T d (i + 1) m && ev c T d (cE c (i + 1)) m
    else if cV c i = 7 then ev c T d (i + 1) m || ev c T d (cE c (i + 1)) m
    else if cV c i = 8 then decide (0 < cnt (fun k => ev c T d (i + 1) (uN1 m (cA c i) k)) (tF T))
    else if cV c i = 9 then decide (cnt (fun k => ev c T d (i + 1) (uN1 m (cA c i) k)) (tF T) = tF T)
    else decide (1 < cnt (fun k => ev c T d (i + 1) (uN1 m (cA c i) k)) (tF T))
def cSo (c : kC) (T : kT) : Bool := ev c T 9 0 p0
/-- how deep the quantifiers lie -/
def cD (c : kC) : Nat → Nat → Nat
  | 0, _ => 0
  | d + 1, i =>
    if cV c i < 5 then 0
    else if cV c i = 5 then cD c d (i + 1)
    else if cV c i < 8 then max (cD c d (i + 1)) (cD c d (cE c (i + 1)))
    else 1 + cD c d (i + 1)
def cM1 (c : kC) (k s : Nat) : Nat := if 8 ≤ cV c k then s ||| 1 <<< cA c k else s
def cM (c : kC) : Nat := jFo (cM1 c) (cN c) 0
/-- a world of the 75, as a town -/
def wn (w : Nat) : Nat := if w < 1 then 0 else if w < 3 then 1 else if w < 11 then 2 else 3
def wk (w : Nat) : Nat := if w < 1 then 0 else if w < 3 then w - 1 else if w < 11 then w - 3 else w - 11
def wr (n x i : Nat) : Nat := if n = 2 then (if i = 0 then (if x.testBit 0 then 2 else 0) else if i = 1 then (if x.testBit 0 then 1 else 0) else 0) else if n = 3 then (if i = 0 then (if x.testBit 0 then 2 else 0) ||| (if x.testBit 1 then 4 else 0) else if i = 1 then (if x.testBit 0 then 1 else 0) ||| (if x.testBit 2 then 4 else 0) else if i = 2 then (if x.testBit 1 then 1 else 0) ||| (if x.testBit 2 then 2 else 0) else 0) else 0
def wT (w : Nat) : kT := (wn w, wk w % 2 ^ wn w, 0, wr (wn w) (wk w / 2 ^ wn w), fun _ => 0)
def bt1 (f : Nat → Bool) (k s : Nat) : Nat := if f k then s ||| 1 <<< k else s
def bts (f : Nat → Bool) (n : Nat) : Nat := jFo (bt1 f) n 0
def c3 (c : kC) : Nat := bts (fun i => cSo c (wT (11 + i))) 64
def c2 (c : kC) : Nat := bts (fun i => cSo c (wT i)) 11
def cOK (c : kC) : Prop := cW c 8 0 0 = true ∧ cE c 0 = cN c ∧ cN c ≤ 60 ∧ ∀ i, i < cN c → cV c i ≤ 10 ∧ cA c i < 4 ∧ cB c i < 4
/-- the class's claim, of the name o -/
def rCl (h : jM) (o : Nat) (c : kC) : Prop := (jI h o 5 = nI (cN c) ∧ jI h o 6 = nI (cD c 8 0) ∧ jI h o 7 = nI (cM c)) ∧ (∀ i, i < cN c → jI h (o + 1) i = nI (cV c i + 2) ∧ jI h (o + 2) i = nI (cA c i) ∧ jI h (o + 3) i = nI (cB c i) ∧ (cV c i = 6 ∨ cV c i = 7 → jI h (o + 4) i = nI (cE c (i + 1)))) ∧ ∃ b, jI h o 8 = bZ b ∧ (b = true → jL h o 9 = lN (c3 c) ∧ jI h o 10 = nI (c2 c))
def rCm (h : jM) (c : kC) : Prop := ∀ i, i < cN c → jI h 102 i = nI (cV c i) ∧ jI h 103 i = nI (cA c i) ∧ jI h 104 i = nI (cB c i) ∧ jI h 105 i = nI (cE c i)
/-! THE WORLD: the tape, now, the marks, what was done, the claim -/
abbrev kW : Type := (Nat × (Nat → Nat)) × kS × (Nat → kS) × (Nat → Bool) × (Nat × (Nat → Nat) × (Nat → kU)) × kC
def wA (w : kW) : Nat × (Nat → Nat) := w.1
def wS (w : kW) : kS := w.2.1
def wM (w : kW) : Nat → kS := w.2.2.1
def wL (w : kW) : Nat → Bool := w.2.2.2.1
def wD (w : kW) : Nat × (Nat → Nat) × (Nat → kU) := w.2.2.2.2.1
def wC (w : kW) : kC := w.2.2.2.2.2
def isSg (x : Nat) : Prop := x = 10 ∨ 32 ≤ x ∧ x ≤ 126
def rA (h : jM) (a : Nat × (Nat → Nat)) : Prop := a.1 ≤ 1000 ∧ jI h 1 1 = nI a.1 ∧ jI h 93 2 = nI a.1 ∧ ∀ i, i < a.1 → jI h 2 i = nI (a.2 i) ∧ jI h 94 i = nI (a.2 i) ∧ isSg (a.2 i)
def rNw (h : jM) (s : kS) : Prop := rS h 3 s ∧ rV h 0 s ∧ MF h (s1 s) (s2 s) ∧ sOk (tF (s1 s)) (tF (s2 s)) s
def rMk (h : jM) (s : kS) (M : Nat → kS) (l : Nat → Bool) : Prop := ∀ m, m < 4 → jI h 52 m = bZ (l m) ∧ jI h 111 m = bZ (l m) ∧ (l m = true → rS h (20 + 8 * m) (M m) ∧ rV h (29 * (1 + m)) (M m) ∧ sOk (tF (s1 s)) (tF (s2 s)) (M m))
def rDn (h : jM) (s : kS) (D : Nat × (Nat → Nat) × (Nat → kU)) : Prop := D.1 ≤ 16 ∧ jI h 0 6 = nI D.1 ∧ jI h 93 28 = nI D.1 ∧ D.2.2 D.1 = su s ∧ ∀ k, k < D.1 → jI h 53 k = nI (D.2.1 k) ∧ dOk (D.2.1 k) ∧ rU h (29 * (5 + k)) (D.2.2 k) ∧ uOk (tF (s1 s)) (tF (s2 s)) (D.2.2 k) ∧ rvU (D.2.1 k) (D.2.2 (k + 1)) = D.2.2 k
def rK (h : jM) (q : kQ) (c : kC) : Prop := jI h 0 9 = bZ (decide (0 < cN c)) ∧ jI h 93 18 = nI (cN c) ∧ (0 < cN c → cOK c ∧ rCl h (qC q) c ∧ rCm h c)
def wds : List Nat := [324908, 561, 3814237, 43567634, 716042, 791486, 964262, 19741, 1891, 573, 983428, 1825, 28246, 24, 25, 26, 21]
def rCt (h : jM) (q : kQ) : Prop := ((qC q = 54 ∧ qS q = 60) ∨ (qC q = 60 ∧ qS q = 54)) ∧ (∀ i, i < 17 → jL h 98 i = lN (wds.getD i 0)) ∧ ∀ i, i < 4 → jI h 109 i = nI 0
def rW (h : jM) (q : kQ) (w : kW) : Prop := rCt h q ∧ rA h (wA w) ∧ rNw h (wS w) ∧ rMk h (wS w) (wM w) (wL w) ∧ rDn h (wS w) (wD w) ∧ rK h q (wC w)
def Inv (n : Nat) (h : jM) : Prop := ∃ q w a, gH h q ∧ rW h q w ∧ AG h a ∧ a ≤ 1000 * n
/-! what is of no matter between the calls -/
def scrO : List Nat := [11, 12, 13, 14, 15, 16, 17, 18, 59, 65, 66, 67, 68, 69, 70, 71, 72, 73, 74, 75, 76, 77, 78, 79, 80, 81, 82, 83, 84, 85, 86, 87, 88, 89, 90, 91, 92, 95, 96, 97, 100, 101, 106, 107, 108, 112, 113, 114, 115, 116, 117, 118, 119]
def scrF : List Nat := [0, 3, 7, 8, 13, 19, 21, 22, 23, 30, 38]
def imp (o k : Nat) : Bool := if o = 93 then !(scrF.contains k) else if o = 110 then decide (k < 609) else !(scrO.contains o)
def sm (h h' : jM) : Prop := jFr h h' ∧ ∀ o k, imp o k = true → jI h' o k = jI h o k ∧ jL h' o k = jL h o k
theorem sm.rf {h : jM} : sm h h := ⟨jFr.rf, fun _ _ _ => ⟨rfl, rfl⟩⟩
theorem sm.tr {h : jM} {h1 : jM} {h2 : jM} (a : sm h h1) (b : sm h1 h2) : sm h h2 := ⟨a.1.tr b.1, fun o k e => ⟨(b.2 o k e).1.trans (a.2 o k e).1, (b.2 o k e).2.trans (a.2 o k e).2⟩⟩
theorem sm.i {h : jM} {h1 : jM} {o : Nat} {k : Nat} (a : sm h h1) (e : imp o k = true) : jI h1 o k = jI h o k := (a.2 o k e).1
theorem sm.l {h : jM} {h1 : jM} {o : Nat} {k : Nat} (a : sm h h1) (e : imp o k = true) : jL h1 o k = jL h o k := (a.2 o k e).2
theorem sm_w {h : jM} {o : Nat} {k : Nat} {x : Int32} (e : imp o k = false) : sm h (jsI h o k x) := ⟨jFr.rf, fun a b z => ⟨by (rw [jI_jsI, if_neg]; rintro ⟨rfl, rfl⟩; rw [e] at z; cases z), rfl⟩⟩
theorem sm_l {h : jM} {o : Nat} {k : Nat} {v : Int64} (e : imp o k = false) : sm h (jsL h o k v) := ⟨jFr.rf, fun a b z => ⟨rfl, by
  rw [jL_jsL, if_neg]; rintro ⟨rfl, rfl⟩; rw [e] at z; cases z⟩⟩
theorem sm_r {h : jM} {o : Nat} {k : Nat} {n : Nat} : sm h (jsR h o k n) := ⟨jFr.rf, fun _ _ _ => ⟨rfl, rfl⟩⟩
theorem imp_s {o k : Nat} (h : o ∈ scrO) : imp o k = false := by
  have n1 : ¬ o = 93 := by rintro rfl; revert h; decide
  have n2 : ¬ o = 110 := by rintro rfl; revert h; decide
  simp [imp, n1, n2, h]
theorem imp_f {k : Nat} (h : k ∈ scrF) : imp 93 k = false := by simp [imp, h]
theorem imp_t {k : Nat} (h : 609 ≤ k) : imp 110 k = false := by simp [imp]; omega
theorem imp_110 {k : Nat} (h : k < 609) : imp 110 k = true := by simp [imp, h]
theorem imp_o {o k : Nat} (h : o ∉ scrO) (h1 : o ≠ 93) (h2 : o ≠ 110) : imp o k = true := by simp [imp, h, h1, h2]
theorem sm_x {S : List Nat} {h : jM} {h1 : jM} (a : fX S h h1) (e : ∀ o, o ∈ S → o ∈ scrO) : sm h h1 := ⟨a.1, fun o k z => by
  have n : o ∉ S := fun q => by rw [imp_s (e o q)] at z; cases z
  rw [a.i n, a.l n]; exact ⟨rfl, rfl⟩⟩
theorem sm_f {S : List Nat} {h : jM} {h1 : jM} (a : fI S h h1) (e : ∀ o, o ∈ S → o ∈ scrO) : sm h h1 := sm_x a.x e
/-- a row that is the same -/
theorem sm.o {h : jM} {h1 : jM} {o : Nat} (a : sm h h1) (m0 : o ∉ scrO) (m1 : o ≠ 93) (m2 : o ≠ 110) : jI h1 o = jI h o ∧ jL h1 o = jL h o := ⟨funext fun k => a.i (imp_o m0 m1 m2), funext fun k => a.l (imp_o m0 m1 m2)⟩
theorem sm.T {h : jM} {h1 : jM} {t : Nat} {T : kT} (a : sm h h1) (n0 : t ∉ scrO) (n1 : t + 1 ∉ scrO) (n2 : t + 2 ∉ scrO) (hl : t + 2 < 93) (hT : rT h t T) : rT h1 t T := by
  unfold rT
  rw [(a.o n0 (by omega) (by omega)).1, (a.o n1 (by omega) (by omega)).1, (a.o n2 (by omega) (by omega)).1]
  exact hT
def snM : List Nat := [3, 20, 28, 36, 44]
theorem snM_all : ∀ o, o ∈ snM → o ∈ snL ∧ (∀ i, i < 8 → o + i ∉ scrO) ∧ o + 7 < 93 := by decide +kernel
theorem sm.S {s : kS} {h : jM} {h1 : jM} {o : Nat} (a : sm h h1) (ho : o ∈ snM) (hS : rS h o s) : rS h1 o s := by
  obtain ⟨-, n, l⟩ := snM_all o ho
  obtain ⟨a1, a2, a3, a4, a5, a6, a7⟩ := hS
  have n0 := n 0 (by omega)
  have e0 := a.o (h1 := h1) (o := o) n0 (by omega) (by omega)
  have e7 := a.o (n 7 (by omega)) (by omega) (by omega)
  refine ⟨a.T (n 1 (by omega)) (n 2 (by omega)) (n 3 (by omega)) (by omega) a1, a.T (n 4 (by omega)) (n 5 (by omega)) (n 6 (by omega)) (by omega) a2, ?_, ?_, ?_, ?_, ?_⟩
  · rw [e7.1]; exact a3
  · rw [e0.1]; exact a4
  · rw [e0.1]; exact a5
  · rw [e0.2]; exact a6
  · rw [e0.1]; exact a7
theorem sm.mt {h : jM} {h1 : jM} {b : Nat} {T : kT} {U : kT} (a : sm h h1) (hb : b ≤ 580) (hM : MT h b T U) : MT h1 b T U := by
  intro t ht
  obtain ⟨⟨x1, x2⟩, x3⟩ := hM t ht
  refine ⟨⟨?_, ?_⟩, fun f hf => ⟨?_, ?_⟩⟩
  · rw [a.i (imp_110 (by omega))]; exact x1
  · rw [a.i (imp_110 (by omega))]; exact x2
  · rw [a.i (imp_110 (by omega))]; exact (x3 f hf).1
  · rw [a.i (imp_110 (by omega))]; exact (x3 f hf).2
theorem sm.U {u : kU} {h : jM} {h1 : jM} {b : Nat} (a : sm h h1) (hb : b ≤ 580) (hU : rU h b u) : rU h1 b u := by
  obtain ⟨x1, x2, x3⟩ := hU
  refine ⟨?_, fun i hi => ?_, a.mt hb x3⟩
  · rw [a.i (imp_110 (by omega))]; exact x1
  · rw [a.i (imp_110 (by omega))]; exact x2 i hi
theorem sm.V {s : kS} {h : jM} {h1 : jM} {b : Nat} (a : sm h h1) (hb : b ≤ 580) (hV : rV h b s) : rV h1 b s := by
  obtain ⟨x1, x2, x3⟩ := hV
  refine ⟨a.U hb x1, ?_, fun j hj => ?_⟩
  · rw [a.i (imp_110 (by omega))]; exact x2
  · rw [a.i (imp_110 (by omega))]; exact x3 j hj
theorem sm.mf {h : jM} {h1 : jM} {T : kT} {U : kT} (a : sm h h1) (hM : MF h T U) : MF h1 T U := by
  unfold MF
  rw [(a.o (o := 99) (by decide) (by decide) (by decide)).1]; exact hM
theorem imp_93 {k : Nat} (h : k ∉ scrF) : imp 93 k = true := by simp [imp, h]
theorem sm.A {w : Nat × (Nat → Nat)} {h : jM} {h1 : jM} (a : sm h h1) (hA : rA h w) : rA h1 w := by
  obtain ⟨x1, x2, x3, x4⟩ := hA
  refine ⟨x1, ?_, ?_, fun i hi => ?_⟩
  · rw [(a.o (o := 1) (by decide) (by decide) (by decide)).1]; exact x2
  · rw [a.i (imp_93 (by decide))]; exact x3
  · rw [(a.o (o := 2) (by decide) (by decide) (by decide)).1, (a.o (o := 94) (by decide) (by decide) (by decide)).1]; exact x4 i hi
theorem sm.Nw {s : kS} {h : jM} {h1 : jM} (a : sm h h1) (x : rNw h s) : rNw h1 s := ⟨a.S (by decide) x.1, a.V (by omega) x.2.1, a.mf x.2.2.1, x.2.2.2⟩
theorem mk_in {m : Nat} (h : m < 4) : 20 + 8 * m ∈ snM := by rcases k4c h with rfl | rfl | rfl | rfl <;> decide
theorem sm.Mk {s : kS} {M : Nat → kS} {l : Nat → Bool} {h : jM} {h1 : jM} (a : sm h h1) (x : rMk h s M l) : rMk h1 s M l := by
  intro m hm
  obtain ⟨x1, x2, x3⟩ := x m hm
  refine ⟨?_, ?_, fun e => ?_⟩
  · rw [(a.o (o := 52) (by decide) (by decide) (by decide)).1]; exact x1
  · rw [(a.o (o := 111) (by decide) (by decide) (by decide)).1]; exact x2
  · obtain ⟨y1, y2, y3⟩ := x3 e
    exact ⟨a.S (mk_in hm) y1, a.V (by omega) y2, y3⟩
theorem sm.Dn {s : kS} {D : Nat × (Nat → Nat) × (Nat → kU)} {h : jM} {h1 : jM} (a : sm h h1) (x : rDn h s D) : rDn h1 s D := by
  obtain ⟨x1, x2, x3, x4, x5⟩ := x
  refine ⟨x1, ?_, ?_, x4, fun k hk => ?_⟩
  · rw [(a.o (o := 0) (by decide) (by decide) (by decide)).1]; exact x2
  · rw [a.i (imp_93 (by decide))]; exact x3
  · obtain ⟨y1, y2, y3, y4⟩ := x5 k hk
    refine ⟨?_, y2, a.U (by omega) y3, y4⟩
    rw [(a.o (o := 53) (by decide) (by decide) (by decide)).1]; exact y1
theorem sm.Cl {c : kC} {h : jM} {h1 : jM} {o : Nat} (a : sm h h1) (ho : o = 54 ∨ o = 60) (x : rCl h o c) : rCl h1 o c := by
  obtain ⟨⟨x1, x2, x3⟩, x4, b, x5, x6⟩ := x
  have e0 := a.o (h1 := h1) (o := o) (by rcases ho with rfl | rfl <;> decide) (by omega) (by omega)
  have e1 := a.o (h1 := h1) (o := o + 1) (by rcases ho with rfl | rfl <;> decide) (by omega) (by omega)
  have e2 := a.o (h1 := h1) (o := o + 2) (by rcases ho with rfl | rfl <;> decide) (by omega) (by omega)
  have e3 := a.o (h1 := h1) (o := o + 3) (by rcases ho with rfl | rfl <;> decide) (by omega) (by omega)
  have e4 := a.o (h1 := h1) (o := o + 4) (by rcases ho with rfl | rfl <;> decide) (by omega) (by omega)
  unfold rCl
  rw [e0.1, e0.2, e1.1, e2.1, e3.1, e4.1]
  exact ⟨⟨x1, x2, x3⟩, x4, b, x5, x6⟩
theorem sm.K {c : kC} {h : jM} {h1 : jM} {q : kQ} (a : sm h h1) (hq : qC q = 54 ∨ qC q = 60) (x : rK h q c) : rK h1 q c := by
  obtain ⟨x1, x2, x3⟩ := x
  refine ⟨?_, ?_, fun e => ?_⟩
  · rw [(a.o (o := 0) (by decide) (by decide) (by decide)).1]; exact x1
  · rw [a.i (imp_93 (by decide))]; exact x2
  · obtain ⟨y1, y2, y3⟩ := x3 e
    refine ⟨y1, a.Cl hq y2, fun i hi => ?_⟩
    rw [(a.o (o := 102) (by decide) (by decide) (by decide)).1, (a.o (o := 103) (by decide) (by decide) (by decide)).1, (a.o (o := 104) (by decide) (by decide) (by decide)).1, (a.o (o := 105) (by decide) (by decide) (by decide)).1]
    exact y3 i hi
theorem sm.Ct {h : jM} {h1 : jM} {q : kQ} (a : sm h h1) (x : rCt h q) : rCt h1 q := by
  obtain ⟨x1, x2, x3⟩ := x
  refine ⟨x1, ?_, ?_⟩
  · rw [(a.o (o := 98) (by decide) (by decide) (by decide)).2]; exact x2
  · rw [(a.o (o := 109) (by decide) (by decide) (by decide)).1]; exact x3
/-- the references that may change between calls that show nothing -/
def sq (q q2 : kQ) : Prop := qC q2 = qC q ∧ qS q2 = qS q
theorem rCt.q {h : jM} {q : kQ} {q2 : kQ} (x : rCt h q) (e : sq q q2) : rCt h q2 := by
  obtain ⟨x1, x2⟩ := x
  refine ⟨?_, x2⟩
  rw [e.1, e.2]; exact x1
theorem rK.q {c : kC} {h : jM} {q : kQ} {q2 : kQ} (x : rK h q c) (e : sq q q2) : rK h q2 c := by
  unfold rK; rw [e.1]; exact x
theorem rW.c {w : kW} {h : jM} {q : kQ} (x : rW h q w) : qC q = 54 ∨ qC q = 60 := by
  rcases x.1.1 with z | z
  · exact Or.inl z.1
  · exact Or.inr z.1
theorem rW.k {w : kW} {h : jM} {h1 : jM} {q : kQ} {q2 : kQ} (x : rW h q w) (a : sm h h1) (e : sq q q2) : rW h1 q2 w := ⟨(a.Ct x.1).q e, a.A x.2.1, a.Nw x.2.2.1, a.Mk x.2.2.2.1, a.Dn x.2.2.2.2.1, (a.K x.c x.2.2.2.2.2).q e⟩
theorem qL_sq {q : kQ} {a : Nat} {b : Nat} : sq q (qL q a b) := ⟨rfl, rfl⟩
theorem sq.rf {q : kQ} : sq q q := ⟨rfl, rfl⟩
theorem sq.tr {q : kQ} {q2 : kQ} {q3 : kQ} (a : sq q q2) (b : sq q2 q3) : sq q q3 := ⟨b.1.trans a.1, b.2.trans a.2⟩
theorem sm.fr {h : jM} {h1 : jM} (a : sm h h1) : jFr h h1 := a.1
/-- the board's ages are not touched -/
theorem AG.k {h : jM} {h1 : jM} {a : Nat} (x : AG h a) (e1 : jI h1 70 10 = jI h 70 10) (e2 : jI h1 78 = jI h 78) : AG h1 a := ⟨by rw [e1]; exact x.1, x.2.1, fun c hc => by rw [e2]; exact x.2.2 c hc⟩
/-- a call of the one and a call of the other that show nothing: what is kept is kept -/
theorem Inv.k {w : kW} {n : Nat} {h : jM} {h2 : jM} {q : kQ} {q2 : kQ} {a2 : Nat} (x : rW h q w) (s : sm h h2) (e : sq q q2) (g : gH h2 q2) (ag : AG h2 a2) (ha : a2 ≤ 1000 * (n + 1)) : Inv (n + 1) h2 := ⟨q2, w, a2, g, x.k s e, ag, ha⟩
