/-! SHOWING at rest: what the class answers -/
theorem dg_iff {n : Int32} : (dgB n ≠ 0) ↔ (0 ≤ n ∧ n ≤ 9) := by
  unfold dgB
  by_cases h1 : n < 0
  · rw [if_pos h1]
    exact ⟨fun q => absurd rfl q, fun q => absurd h1 (Int32.not_lt.mpr q.1)⟩
  · rw [if_neg h1]
    by_cases h2 : 9 < n
    · rw [if_pos h2]
      exact ⟨fun q => absurd rfl q, fun q => absurd h2 (Int32.not_lt.mpr q.2)⟩
    · rw [if_neg h2]
      exact ⟨fun _ => ⟨Int32.not_lt.mp h1, Int32.not_lt.mp h2⟩, fun _ => by decide⟩
theorem dg9 {y : Int32} (h : 0 ≤ y ∧ y ≤ 9) : y = 0 ∨ y = 1 ∨ y = 2 ∨ y = 3 ∨ y = 4 ∨ y = 5 ∨ y = 6 ∨ y = 7 ∨ y = 8 ∨ y = 9 := by
  obtain ⟨h1, h2⟩ := h
  rw [Int32.le_iff_toInt_le] at h1 h2
  have e0 : (0 : Int32).toInt = 0 := by decide
  have e9 : (9 : Int32).toInt = 9 := by decide
  simp only [← Int32.toInt_inj]
  have e1 : (1 : Int32).toInt = 1 := by decide
  have e2 : (2 : Int32).toInt = 2 := by decide
  have e3 : (3 : Int32).toInt = 3 := by decide
  have e4 : (4 : Int32).toInt = 4 := by decide
  have e5 : (5 : Int32).toInt = 5 := by decide
  have e6 : (6 : Int32).toInt = 6 := by decide
  have e7 : (7 : Int32).toInt = 7 := by decide
  have e8 : (8 : Int32).toInt = 8 := by decide
  omega
theorem dg_ng {y : Int32} (h : 0 ≤ y ∧ y ≤ 9) : ¬ (0 : Int32) < -y ∧ (-y < 0 ↔ ¬ y = 0) := by
  rcases dg9 h with rfl | rfl | rfl | rfl | rfl | rfl | rfl | rfl | rfl | rfl <;> decide
theorem at_0 {x y w : Int32} (h : 0 ≤ y ∧ y ≤ 9) : atB 0 x y w = 1 := by
  unfold atB
  rw [show ptB (0 / 2) = 0 by decide, show ptB (0 - 0 / 2 * 2) = 0 by decide]
  have e : cnB 0 0 x y w = 1 := by
    unfold cnB
    rw [if_pos rfl, if_pos rfl, if_pos rfl, if_neg (dg_ng h).1]
  rw [e]
  decide
theorem cn_01 {x y w : Int32} : cnB 0 1 x y w = if w < x then 0 else 1 := by
  unfold cnB
  have u : ¬ (1 : Int32) = 0 := by decide
  rw [if_pos rfl, if_neg u, if_neg u]
theorem cn_10 {x y w : Int32} (h : 0 ≤ y ∧ y ≤ 9) : cnB 1 0 x y w = if y = 0 then 1 else 0 := by
  unfold cnB
  rw [if_neg (by decide), if_pos rfl, if_pos rfl]
  by_cases hy : y = 0
  · rw [if_pos hy, if_neg (fun q => (dg_ng h).2.mp q hy)]
  · rw [if_neg hy, if_pos ((dg_ng h).2.mpr hy)]
theorem at_1 {x y w : Int32} (h : 0 ≤ y ∧ y ≤ 9) : atB 1 x y w = if x ≤ w ∧ y = 0 then 1 else 0 := by
  unfold atB
  rw [show ptB (1 / 2) = 0 by decide, show ptB (1 - 1 / 2 * 2) = 1 by decide, cn_01, cn_10 h]
  by_cases h1 : w < x
  · rw [if_pos h1, if_pos rfl, if_neg (fun q => Int32.not_lt.mpr q.1 h1)]
  · rw [if_neg h1, if_neg (by decide)]
    by_cases hy : y = 0
    · rw [if_pos hy, if_neg (by decide), if_pos ⟨Int32.not_lt.mp h1, hy⟩]
    · rw [if_neg hy, if_pos rfl, if_neg (fun q => hy q.2)]
theorem at_2 {x y w : Int32} (h : 0 ≤ y ∧ y ≤ 9) : atB 2 x y w = if x ≤ w ∧ y = 0 then 1 else 0 := by
  unfold atB
  rw [show ptB (2 / 2) = 1 by decide, show ptB (2 - 2 / 2 * 2) = 0 by decide, cn_01, cn_10 h]
  by_cases hy : y = 0
  · rw [if_pos hy, if_neg (by decide)]
    by_cases h1 : w < x
    · rw [if_pos h1, if_pos rfl, if_neg (fun q => Int32.not_lt.mpr q.1 h1)]
    · rw [if_neg h1, if_neg (by decide), if_pos ⟨Int32.not_lt.mp h1, hy⟩]
  · rw [if_neg hy, if_pos rfl, if_neg (fun q => hy q.2)]
theorem at_3 {x y w : Int32} : atB 3 x y w = if w ≤ x then 1 else 0 := by
  unfold atB
  rw [show ptB (3 / 2) = 1 by decide, show ptB (3 - 3 / 2 * 2) = 1 by decide]
  have e : cnB 1 1 x y w = if w ≤ x then 1 else 0 := by
    unfold cnB
    have u : ¬ (1 : Int32) = 0 := by decide
    rw [if_neg u, if_neg u, if_neg u]
    by_cases h1 : x < w
    · rw [if_pos h1, if_neg (fun q => Int32.not_lt.mpr q h1)]
    · rw [if_neg h1, if_pos (Int32.not_lt.mp h1)]
  rw [e]
  by_cases h1 : w ≤ x
  · rw [if_pos h1]; decide
  · rw [if_neg h1]; decide
theorem jIdx {w : Int32} {Ls : List Int32} (hge : -1 ≤ w) (h0 : w ≠ -1) (h1 : 0 < Ls.length → (0 : Int32) ≠ w) (h2 : 1 < Ls.length → (1 : Int32) ≠ w) (h3 : 2 < Ls.length → (2 : Int32) ≠ w) (h4 : 3 < Ls.length → (3 : Int32) ≠ w) (hl : Ls.length ≤ 4) : Ls[w.toNatClampNeg]? = none := by
  rw [List.getElem?_eq_none_iff]
  rw [Int32.le_iff_toInt_le] at hge
  simp only [ne_eq, ← Int32.toInt_inj] at h0 h1 h2 h3 h4
  have e : w.toNatClampNeg = w.toInt.toNat := rfl
  have em : (-1 : Int32).toInt = -1 := by decide
  have e0 : (0 : Int32).toInt = 0 := by decide
  have e1 : (1 : Int32).toInt = 1 := by decide
  have e2 : (2 : Int32).toInt = 2 := by decide
  have e3 : (3 : Int32).toInt = 3 := by decide
  omega
theorem jRests_no {b y g w : Int32} (h : ¬ (dgB b ≠ 0 ∧ dgB y ≠ 0 ∧ dgB g ≠ 0 ∧ -1 ≤ w)) : jRests b y g w = none := by
  unfold jRests
  rw [if_neg]
  rintro ⟨q1, q2, q3, q4, q5, q6, q7⟩
  exact h ⟨dg_iff.mpr ⟨q1, q2⟩, dg_iff.mpr ⟨q3, q4⟩, dg_iff.mpr ⟨q5, q6⟩, q7⟩
theorem jRests_yes {b y g w : Int32} (h1 : dgB b ≠ 0) (h2 : dgB y ≠ 0) (h3 : dgB g ≠ 0) (h4 : -1 ≤ w) : jRests b y g w = if w = -1 then some (Int32.ofNat (jRestL b y g).length) else (jRestL b y g)[w.toNatClampNeg]? := by
  unfold jRests
  rw [if_pos ⟨(dg_iff.mp h1).1, (dg_iff.mp h1).2, (dg_iff.mp h2).1, (dg_iff.mp h2).2, (dg_iff.mp h3).1, (dg_iff.mp h3).2, h4⟩]
section JRST
variable {p : Program} {l : Launch} {e : Env} {R : Room} {s : State} {m : MethodId} {args : Array Value} {below : List Frame} {meth : Method} {c : Code} {Q : State → Prop} {o : Nat} {b y g w : Int32}
theorem rStep (hx : p.tables.exec = Jvm.exec) (hb : c.code = prog_1_method_36_code) (hml : c.maxLocals = 7) (hown : s.vm.findClass "TwoTowns" = some m.cls) (ht2 : ∀ w ∈ jTbl, w.before args s = true) (hR : 2 ≤ R.frames ∧ 65 ≤ R.locals) (k k1 n n1 : Int32) (ls : Array Slot) (hl : lv_has ls 7 [(6, .int k), (5, .int n), (0, .ref o), (1, .int b), (2, .int y), (3, .int g), (4, .int w)]) (hk : ¬ 4 ≤ k) (hk1 : k + 1 = k1) (hn1 : n + 1 = n1)
    (q0 : atB k b y g = 0 → ∀ ls2 : Array Slot, lv_has ls2 7 [(6, .int k1), (5, .int n), (0, .ref o), (1, .int b), (2, .int y), (3, .int g), (4, .int w)] → W p l e R s m args below meth c s.heap [] 0 0 Q (F0 m 41 ls2 []))
    (q1 : atB k b y g ≠ 0 → n = w → ∀ ls2 : Array Slot, W p l e R s m args below meth c s.heap [] 0 0 Q (F0 m 67 ls2 [.int k]))
    (q2 : atB k b y g ≠ 0 → n ≠ w → ∀ ls2 : Array Slot, lv_has ls2 7 [(6, .int k1), (5, .int n1), (0, .ref o), (1, .int b), (2, .int y), (3, .int g), (4, .int w)] → W p l e R s m args below meth c s.heap [] 0 0 Q (F0 m 41 ls2 [])) : W p l e R s m args below meth c s.heap [] 0 0 Q (F0 m 41 ls []) := by
  refine lv_iload hx hb (i := 6) (by decide +kernel) (lv_at hl 0 rfl) ?_
  refine lv_iconst hx hb (n := 4) (v := 4) (by decide +kernel) rfl ?_
  refine lv_icmp_ge hx hb (off := 33) (tgt := 77) (by decide +kernel) rfl (fun h => absurd h hk) (fun _ => ?_)
  refine lv_iload hx hb (i := 6) (by decide +kernel) (lv_at hl 0 rfl) ?_
  refine lv_iload_n hx hb (k := 1) (by decide +kernel) rfl (lv_at hl 3 rfl) ?_
  refine lv_iload_n hx hb (k := 2) (by decide +kernel) rfl (lv_at hl 4 rfl) ?_
  refine lv_iload_n hx hb (k := 3) (by decide +kernel) rfl (lv_at hl 5 rfl) ?_
  refine jRdW (va_runS (As := [.int k, .int b, .int y, .int g]) (rest := []) (n := 4) ⟨hx, hb, hml, hown, ht2⟩ (rAtR (l := l) (c0 := k) (x := b) (y := y) (w := g)) ⟨callB_of 4 ht2 (gdIn (jTbl_any ck_t1.2.1)) rfl rfl rfl (ht2 _ (tAl_in (i := 6) rfl)) (ht2 _ (tAl_in (i := 2) rfl)) ⟨by decide, by decide, by decide⟩ ⟨by simp only [rmS]; omega, by simp only [rmS]; omega⟩, ht2 _ (tAl_in (i := 3) rfl)⟩ ⟨jPc0_blind, fun U hU hW => ⟨rfl, trivial⟩⟩ rfl rfl hl.1 rfl (lv_room (by decide)) (show decode prog_1_method_36_code 52 = .ok (.invokestatic 331, 3) by decide +kernel) ⟨Nat.zero_le _, Nat.zero_le _⟩) ?_
  refine lv_if_eq hx hb (off := 16) (tgt := 71) (by decide +kernel) rfl (fun h => ?_) (fun h => ?_)
  · refine lv_iinc hx hb (i := 6) (k := 0) (n := 1) (v := k1) (by decide +kernel) hl rfl hk1 (by decide) rfl (fun ls2 hl2 => ?_)
    exact lv_goto hx hb (off := -33) (tgt := 41) (by decide +kernel) rfl (q0 h ls2 hl2)
  · refine lv_iload hx hb (i := 5) (by decide +kernel) (lv_at hl 1 rfl) ?_
    refine lv_iload hx hb (i := 4) (by decide +kernel) (lv_at hl 6 rfl) ?_
    refine lv_icmp_ne hx hb (off := 6) (tgt := 68) (by decide +kernel) rfl (fun h2 => ?_) (fun h2 => ?_)
    · refine lv_iinc hx hb (i := 5) (k := 1) (n := 1) (v := n1) (by decide +kernel) hl rfl hn1 (by decide) rfl (fun ls1 hl1 => ?_)
      refine lv_iinc hx hb (i := 6) (k := 1) (n := 1) (v := k1) (by decide +kernel) hl1 rfl hk1 (by decide) rfl (fun ls2 hl2 => ?_)
      exact lv_goto hx hb (off := -33) (tgt := 41) (by decide +kernel) rfl (q2 h h2 ls2 hl2)
    · exact lv_iload hx hb (i := 6) (by decide +kernel) (lv_at hl 0 rfl) (q1 h h2 ls)
theorem rFin (hx : p.tables.exec = Jvm.exec) (hb : c.code = prog_1_method_36_code) (n : Int32) (ls : Array Slot) (hl : lv_has ls 7 [(6, .int 4), (5, .int n), (0, .ref o), (1, .int b), (2, .int y), (3, .int g), (4, .int w)])
    (q0 : w ≠ -1 → ∀ ls2 : Array Slot, ls2.size = 7 → W p l e R s m args below meth c s.heap [] 0 0 Q (F0 m 83 ls2 [])) (q1 : w = -1 → ∀ ls2 : Array Slot, W p l e R s m args below meth c s.heap [] 0 0 Q (F0 m 93 ls2 [.int n])) : W p l e R s m args below meth c s.heap [] 0 0 Q (F0 m 41 ls []) := by
  refine lv_iload hx hb (i := 6) (by decide +kernel) (lv_at hl 0 rfl) ?_
  refine lv_iconst hx hb (n := 4) (v := 4) (by decide +kernel) rfl ?_
  refine lv_icmp_ge hx hb (off := 33) (tgt := 77) (by decide +kernel) rfl (fun _ => ?_) (fun h => absurd (by decide) h)
  refine lv_iload hx hb (i := 4) (by decide +kernel) (lv_at hl 6 rfl) ?_
  refine lv_iconst hx hb (n := -1) (v := -1) (by decide +kernel) rfl ?_
  refine lv_icmp_eq hx hb (off := 11) (tgt := 91) (by decide +kernel) rfl (fun h => ?_) (fun h => q0 h ls hl.1)
  exact lv_iload hx hb (i := 5) (by decide +kernel) (lv_at hl 1 rfl) (q1 h ls)
theorem rWalk (hx : p.tables.exec = Jvm.exec) (hb : c.code = prog_1_method_36_code) (hml : c.maxLocals = 7) (hown : s.vm.findClass "TwoTowns" = some m.cls) (ht2 : ∀ w ∈ jTbl, w.before args s = true) (hR : 2 ≤ R.frames ∧ 65 ≤ R.locals) (ls : Array Slot) (hl : lv_has ls 7 [(0, .ref o), (1, .int b), (2, .int y), (3, .int g), (4, .int w)])
    (hret : ∀ (v : Int32) (pc : Nat) (ls2 : Array Slot), jRests b y g w = some v → (pc = 67 ∨ pc = 93) → W p l e R s m args below meth c s.heap [] 0 0 Q (F0 m pc ls2 [.int v]))
    (hthr : jRests b y g w = none → ∀ (pc : Nat) (ls2 : Array Slot), (pc = 27 ∨ pc = 83) → ls2.size = 7 → W p l e R s m args below meth c s.heap [] 0 0 Q (F0 m pc ls2 [])) : W p l e R s m args below meth c s.heap [] 0 0 Q (F0 m 0 ls []) := by
  have h27 : ¬ (dgB b ≠ 0 ∧ dgB y ≠ 0 ∧ dgB g ≠ 0 ∧ -1 ≤ w) → W p l e R s m args below meth c s.heap [] 0 0 Q (F0 m 27 ls []) := fun q => hthr (jRests_no q) 27 ls (Or.inl rfl) hl.1
  refine lv_iload_n hx hb (k := 1) (by decide +kernel) rfl (lv_at hl 1 rfl) ?_
  refine jRdW (va_runS (As := [.int b]) (rest := []) (n := 1) ⟨hx, hb, hml, hown, ht2⟩ (rDig (l := l) (n := b)) ⟨callB_of 1 ht2 (gdIn (jTbl_any ck_t1.1)) rfl rfl rfl (ht2 _ (tAl_in (i := 6) rfl)) (ht2 _ (tAl_in (i := 0) rfl)) ⟨by decide, by decide, by decide⟩ ⟨by simp only [rmS]; omega, by simp only [rmS]; omega⟩, ht2 _ (tAl_in (i := 1) rfl)⟩ ⟨jPc0_blind, fun U hU hW => ⟨rfl, trivial⟩⟩ rfl rfl hl.1 rfl (lv_room (by decide)) (show decode prog_1_method_36_code 1 = .ok (.invokestatic 325, 3) by decide +kernel) ⟨Nat.zero_le _, Nat.zero_le _⟩) ?_
  refine lv_if_eq hx hb (off := 23) (tgt := 27) (by decide +kernel) rfl (fun h => h27 (fun q => q.1 h)) (fun hb1 => ?_)
  refine lv_iload_n hx hb (k := 2) (by decide +kernel) rfl (lv_at hl 2 rfl) ?_
  refine jRdW (va_runS (As := [.int y]) (rest := []) (n := 1) ⟨hx, hb, hml, hown, ht2⟩ (rDig (l := l) (n := y)) ⟨callB_of 1 ht2 (gdIn (jTbl_any ck_t1.1)) rfl rfl rfl (ht2 _ (tAl_in (i := 6) rfl)) (ht2 _ (tAl_in (i := 0) rfl)) ⟨by decide, by decide, by decide⟩ ⟨by simp only [rmS]; omega, by simp only [rmS]; omega⟩, ht2 _ (tAl_in (i := 1) rfl)⟩ ⟨jPc0_blind, fun U hU hW => ⟨rfl, trivial⟩⟩ rfl rfl hl.1 rfl (lv_room (by decide)) (show decode prog_1_method_36_code 8 = .ok (.invokestatic 325, 3) by decide +kernel) ⟨Nat.zero_le _, Nat.zero_le _⟩) ?_
  refine lv_if_eq hx hb (off := 16) (tgt := 27) (by decide +kernel) rfl (fun h => h27 (fun q => q.2.1 h)) (fun hy1 => ?_)
  refine lv_iload_n hx hb (k := 3) (by decide +kernel) rfl (lv_at hl 3 rfl) ?_
  refine jRdW (va_runS (As := [.int g]) (rest := []) (n := 1) ⟨hx, hb, hml, hown, ht2⟩ (rDig (l := l) (n := g)) ⟨callB_of 1 ht2 (gdIn (jTbl_any ck_t1.1)) rfl rfl rfl (ht2 _ (tAl_in (i := 6) rfl)) (ht2 _ (tAl_in (i := 0) rfl)) ⟨by decide, by decide, by decide⟩ ⟨by simp only [rmS]; omega, by simp only [rmS]; omega⟩, ht2 _ (tAl_in (i := 1) rfl)⟩ ⟨jPc0_blind, fun U hU hW => ⟨rfl, trivial⟩⟩ rfl rfl hl.1 rfl (lv_room (by decide)) (show decode prog_1_method_36_code 15 = .ok (.invokestatic 325, 3) by decide +kernel) ⟨Nat.zero_le _, Nat.zero_le _⟩) ?_
  refine lv_if_eq hx hb (off := 9) (tgt := 27) (by decide +kernel) rfl (fun h => h27 (fun q => q.2.2.1 h)) (fun hg1 => ?_)
  refine lv_iload hx hb (i := 4) (by decide +kernel) (lv_at hl 4 rfl) ?_
  refine lv_iconst hx hb (n := -1) (v := -1) (by decide +kernel) rfl ?_
  refine lv_icmp_ge hx hb (off := 11) (tgt := 35) (by decide +kernel) rfl (fun hw => ?_) (fun hw => h27 (fun q => hw q.2.2.2))
  refine lv_iconst hx hb (n := 0) (v := 0) (by decide +kernel) rfl ?_
  refine lv_istore hx hb (i := 5) (by decide +kernel) hl (by decide) rfl (fun ls1 hl1 => ?_)
  refine lv_iconst hx hb (n := 0) (v := 0) (by decide +kernel) rfl ?_
  refine lv_istore hx hb (i := 6) (by decide +kernel) hl1 (by decide) rfl (fun ls2 hl2 => ?_)
  have hJ := jRests_yes hb1 hy1 hg1 hw
  have hyd := dg_iff.mp hy1
  have fin : ∀ (n : Int32), (w = -1 → jRests b y g w = some n) → (w ≠ -1 → jRests b y g w = none) → ∀ ls3 : Array Slot, lv_has ls3 7 [(6, .int 4), (5, .int n), (0, .ref o), (1, .int b), (2, .int y), (3, .int g), (4, .int w)] → W p l e R s m args below meth c s.heap [] 0 0 Q (F0 m 41 ls3 []) := fun n q1 q2 ls3 hl3 => rFin hx hb n ls3 hl3 (fun h ls4 h4 => hthr (q2 h) 83 ls4 (Or.inr rfl) h4) (fun h ls4 => hret n 93 ls4 (q1 h) (Or.inr rfl))
  have got : ∀ (k n : Int32), n = w → n ≠ -1 → (jRestL b y g)[n.toNatClampNeg]? = some k → ∀ ls3 : Array Slot, W p l e R s m args below meth c s.heap [] 0 0 Q (F0 m 67 ls3 [.int k]) := fun k n h1 h2 h3 ls3 => hret k 67 ls3 (by rw [hJ, if_neg (by rw [← h1]; exact h2), ← h1]; exact h3) (Or.inl rfl)
  have stp := fun (k k1 n n1 : Int32) => rStep (l := l) (e := e) (below := below) (meth := meth) (Q := Q) (o := o) (b := b) (y := y) (g := g) (w := w) hx hb hml hown ht2 hR k k1 n n1
  have a0 := at_0 (x := b) (w := g) hyd
  have a1 := at_1 (x := b) (w := g) hyd
  have a2 := at_2 (x := b) (w := g) hyd
  have a3 := at_3 (x := b) (y := y) (w := g)
  have u0 : (1 : Int32) ≠ 0 := by decide
  have hL : jRestL b y g = [0] ++ (if b ≤ g ∧ y = 0 then [1, 2] else []) ++ (if g ≤ b then [3] else []) := rfl
  by_cases t1 : b ≤ g ∧ y = 0
  · rw [if_pos t1] at a1 a2 hL
    by_cases t3 : g ≤ b
    · rw [if_pos t3] at a3 hL
      refine stp 0 1 0 1 ls2 hl2 (by decide) (by decide) (by decide) (fun q => absurd (a0.symm.trans q) u0) (fun _ q => got 0 0 q (by decide) (by rw [hL]; rfl)) (fun _ w0 ls3 hl3 => ?_)
      refine stp 1 2 1 2 ls3 hl3 (by decide) (by decide) (by decide) (fun q => absurd (a1.symm.trans q) u0) (fun _ q => got 1 1 q (by decide) (by rw [hL]; rfl)) (fun _ w1 ls4 hl4 => ?_)
      refine stp 2 3 2 3 ls4 hl4 (by decide) (by decide) (by decide) (fun q => absurd (a2.symm.trans q) u0) (fun _ q => got 2 2 q (by decide) (by rw [hL]; rfl)) (fun _ w2 ls5 hl5 => ?_)
      refine stp 3 4 3 4 ls5 hl5 (by decide) (by decide) (by decide) (fun q => absurd (a3.symm.trans q) u0) (fun _ q => got 3 3 q (by decide) (by rw [hL]; rfl)) (fun _ w3 ls6 hl6 => ?_)
      exact fin 4 (fun q => by rw [hJ, if_pos q, hL]; rfl) (fun q => by rw [hJ, if_neg q, hL]; exact jIdx hw q (fun _ => w0) (fun _ => w1) (fun _ => w2) (fun _ => w3) (by decide)) ls6 hl6
    · rw [if_neg t3] at a3 hL
      refine stp 0 1 0 1 ls2 hl2 (by decide) (by decide) (by decide) (fun q => absurd (a0.symm.trans q) u0) (fun _ q => got 0 0 q (by decide) (by rw [hL]; rfl)) (fun _ w0 ls3 hl3 => ?_)
      refine stp 1 2 1 2 ls3 hl3 (by decide) (by decide) (by decide) (fun q => absurd (a1.symm.trans q) u0) (fun _ q => got 1 1 q (by decide) (by rw [hL]; rfl)) (fun _ w1 ls4 hl4 => ?_)
      refine stp 2 3 2 3 ls4 hl4 (by decide) (by decide) (by decide) (fun q => absurd (a2.symm.trans q) u0) (fun _ q => got 2 2 q (by decide) (by rw [hL]; rfl)) (fun _ w2 ls5 hl5 => ?_)
      refine stp 3 4 3 4 ls5 hl5 (by decide) (by decide) (by decide) (fun _ ls6 hl6 => ?_) (fun q => absurd a3 q) (fun q => absurd a3 q)
      exact fin 3 (fun q => by rw [hJ, if_pos q, hL]; rfl) (fun q => by rw [hJ, if_neg q, hL]; exact jIdx hw q (fun _ => w0) (fun _ => w1) (fun _ => w2) (fun h9 => absurd h9 (by decide)) (by decide)) ls6 hl6
  · rw [if_neg t1] at a1 a2 hL
    by_cases t3 : g ≤ b
    · rw [if_pos t3] at a3 hL
      refine stp 0 1 0 1 ls2 hl2 (by decide) (by decide) (by decide) (fun q => absurd (a0.symm.trans q) u0) (fun _ q => got 0 0 q (by decide) (by rw [hL]; rfl)) (fun _ w0 ls3 hl3 => ?_)
      refine stp 1 2 1 2 ls3 hl3 (by decide) (by decide) (by decide) (fun _ ls4 hl4 => ?_) (fun q => absurd a1 q) (fun q => absurd a1 q)
      refine stp 2 3 1 2 ls4 hl4 (by decide) (by decide) (by decide) (fun _ ls5 hl5 => ?_) (fun q => absurd a2 q) (fun q => absurd a2 q)
      refine stp 3 4 1 2 ls5 hl5 (by decide) (by decide) (by decide) (fun q => absurd (a3.symm.trans q) u0) (fun _ q => got 3 1 q (by decide) (by rw [hL]; rfl)) (fun _ w1 ls6 hl6 => ?_)
      exact fin 2 (fun q => by rw [hJ, if_pos q, hL]; rfl) (fun q => by rw [hJ, if_neg q, hL]; exact jIdx hw q (fun _ => w0) (fun _ => w1) (fun h9 => absurd h9 (by decide)) (fun h9 => absurd h9 (by decide)) (by decide)) ls6 hl6
    · rw [if_neg t3] at a3 hL
      refine stp 0 1 0 1 ls2 hl2 (by decide) (by decide) (by decide) (fun q => absurd (a0.symm.trans q) u0) (fun _ q => got 0 0 q (by decide) (by rw [hL]; rfl)) (fun _ w0 ls3 hl3 => ?_)
      refine stp 1 2 1 2 ls3 hl3 (by decide) (by decide) (by decide) (fun _ ls4 hl4 => ?_) (fun q => absurd a1 q) (fun q => absurd a1 q)
      refine stp 2 3 1 2 ls4 hl4 (by decide) (by decide) (by decide) (fun _ ls5 hl5 => ?_) (fun q => absurd a2 q) (fun q => absurd a2 q)
      refine stp 3 4 1 2 ls5 hl5 (by decide) (by decide) (by decide) (fun _ ls6 hl6 => ?_) (fun q => absurd a3 q) (fun q => absurd a3 q)
      exact fin 1 (fun q => by rw [hJ, if_pos q, hL]; rfl) (fun q => by rw [hJ, if_neg q, hL]; exact jIdx hw q (fun _ => w0) (fun h9 => absurd h9 (by decide)) (fun h9 => absurd h9 (by decide)) (fun h9 => absurd h9 (by decide)) (by decide)) ls6 hl6
end JRST
