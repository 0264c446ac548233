/-! colours: who are of one colour, given anew -/
def ex8 (T U : kT) (k : Nat) : Bool := decide (k % 4 < fk T U (k / 4))
/-- given anew by a likeness: colours, how many -/
def dvN (R : Nat → Nat → Bool) (ex : Nat → Bool) : Nat → (Nat → Nat) × Nat
  | 0 => (fun _ => 0, 0)
  | i + 1 => if ex i = true then (if hiG (fun j => ex j && R j i) i 0 = 0 then (uN1 (dvN R ex i).1 i (dvN R ex i).2, (dvN R ex i).2 + 1) else (uN1 (dvN R ex i).1 i ((dvN R ex i).1 (hiG (fun j => ex j && R j i) i 0 - 1)), (dvN R ex i).2)) else dvN R ex i
theorem hiG_ok {f : Nat → Bool} : ∀ (n k : Nat), (hiG f n k = 0 ∧ ∀ i, k ≤ i → i < k + n → f i = false) ∨ ∃ i, k ≤ i ∧ i < k + n ∧ f i = true ∧ hiG f n k = i + 1 ∧ ∀ j, k ≤ j → j < i → f j = false
  | 0, k => Or.inl ⟨rfl, fun i _ _ => by omega⟩
  | n + 1, k => by
    rw [hiG]
    cases c : f k with
    | true => exact Or.inr ⟨k, Nat.le_refl _, by omega, c, by simp, fun j _ _ => by omega⟩
    | false =>
      simp only [Bool.false_eq_true, if_false]
      rcases hiG_ok (f := f) n (k + 1) with ⟨e, z⟩ | ⟨i, a, b, d, e, z⟩
      · refine Or.inl ⟨e, fun i h1 h2 => ?_⟩
        by_cases q : i = k
        · subst q; exact c
        · exact z i (by omega) (by omega)
      · refine Or.inr ⟨i, by omega, by omega, d, e, fun j h1 h2 => ?_⟩
        by_cases q : j = k
        · subst q; exact c
        · exact z j (by omega) h2
theorem dv_st {R : Nat → Nat → Bool} {ex : Nat → Bool} : ∀ (i n : Nat), n ≤ i → ∀ j, j < n → (dvN R ex i).1 j = (dvN R ex n).1 j := by
  intro i
  induction i with
  | zero => intro n hn j hj; omega
  | succ i ih =>
    intro n hn j hj
    by_cases e : n = i + 1
    · subst e; rfl
    · have z := ih n (by omega) j hj
      rw [dvN]
      split
      · split
        · show uN1 _ i _ j = _
          rw [uN1_n (by omega)]; exact z
        · show uN1 _ i _ j = _
          rw [uN1_n (by omega)]; exact z
      · exact z
theorem dv_lt {R : Nat → Nat → Bool} {ex : Nat → Bool} : ∀ i, (dvN R ex i).2 ≤ i ∧ ∀ j, j < i → ex j = true → (dvN R ex i).1 j < (dvN R ex i).2 := by
  intro i
  induction i with
  | zero => exact ⟨Nat.le_refl _, fun j h => by omega⟩
  | succ i ih =>
    obtain ⟨a, b⟩ := ih
    rw [dvN]
    cases c : ex i with
    | false =>
      simp only [Bool.false_eq_true, if_false]
      refine ⟨by omega, fun j hj hx => ?_⟩
      by_cases q : j = i
      · subst q; rw [c] at hx; cases hx
      · exact b j (by omega) hx
    | true =>
      simp only [if_true]
      rcases hiG_ok (f := fun j => ex j && R j i) i 0 with ⟨e, z⟩ | ⟨k, k1, k2, k3, e, -⟩
      · rw [e, if_pos rfl]
        refine ⟨by show _ + 1 ≤ _; omega, fun j hj hx => ?_⟩
        show uN1 _ i _ j < _ + 1
        by_cases q : j = i
        · subst q; rw [uN1_s]; omega
        · rw [uN1_n q]; have := b j (by omega) hx; omega
      · rw [e, if_neg (by omega)]
        refine ⟨by show _ ≤ _; omega, fun j hj hx => ?_⟩
        show uN1 _ i _ j < _
        by_cases q : j = i
        · subst q; rw [uN1_s, Nat.add_sub_cancel]
          simp only [Bool.and_eq_true] at k3
          exact b k (by omega) k3.1
        · rw [uN1_n q]; exact b j (by omega) hx
/-- no fewer by a likeness that is finer -/
theorem dv_mo {R0 R1 : Nat → Nat → Bool} {ex : Nat → Bool} {n : Nat} (hR : ∀ j i, i < n → j < i → R1 j i = true → (dvN R0 ex n).1 j = (dvN R0 ex n).1 i) : ∀ i, i ≤ n → (dvN R0 ex i).2 ≤ (dvN R1 ex i).2 := by
  intro i
  induction i with
  | zero => intro _; exact Nat.le_refl _
  | succ i ih =>
    intro hi
    have z := ih (by omega)
    cases c : ex i with
    | false => rw [dvN, dvN]; simp only [c, Bool.false_eq_true, if_false]; exact z
    | true =>
      rcases hiG_ok (f := fun j => ex j && R0 j i) i 0 with ⟨e, y⟩ | ⟨k, k1, k2, k3, e, -⟩
      · have e0 : dvN R0 ex (i + 1) = (uN1 (dvN R0 ex i).1 i (dvN R0 ex i).2, (dvN R0 ex i).2 + 1) := by rw [dvN, if_pos c, if_pos e]
        have none1 : hiG (fun j => ex j && R1 j i) i 0 = 0 := by
          rcases hiG_ok (f := fun j => ex j && R1 j i) i 0 with ⟨e1, -⟩ | ⟨j, j1, j2, j3, -, -⟩
          · exact e1
          · exfalso
            simp only [Bool.and_eq_true] at j3
            have q := hR j i (by omega) (by omega) j3.2
            rw [dv_st n (i + 1) (by omega) j (by omega), dv_st n (i + 1) (by omega) i (by omega), e0] at q
            have q2 : uN1 (dvN R0 ex i).1 i (dvN R0 ex i).2 j = uN1 (dvN R0 ex i).1 i (dvN R0 ex i).2 i := q
            rw [uN1_s, uN1_n (by omega)] at q2
            have := (dv_lt (R := R0) (ex := ex) i).2 j (by omega) j3.1
            omega
        have e1 : dvN R1 ex (i + 1) = (uN1 (dvN R1 ex i).1 i (dvN R1 ex i).2, (dvN R1 ex i).2 + 1) := by rw [dvN, if_pos c, if_pos none1]
        rw [e0, e1]; exact Nat.succ_le_succ z
      · have e0 : (dvN R0 ex (i + 1)).2 = (dvN R0 ex i).2 := by rw [dvN, if_pos c, if_neg (by omega)]
        have e1 : (dvN R1 ex i).2 ≤ (dvN R1 ex (i + 1)).2 := by
          rw [dvN, if_pos c]; split
          · exact Nat.le_succ _
          · exact Nat.le_refl _
        omega
theorem dv_0 {R : Nat → Nat → Bool} {ex : Nat → Bool} : ∀ i, (∀ j, j < i → ex j = false) → (dvN R ex i).2 = 0 := by
  intro i
  induction i with
  | zero => intro _; rfl
  | succ i ih => intro h; rw [dvN, if_neg (by rw [h i (by omega)]; decide)]; exact ih (fun j hj => h j (by omega))
theorem dv_z {R : Nat → Nat → Bool} {ex : Nat → Bool} {i : Nat} (h : (dvN R ex i).2 = 0) : ∀ j, j < i → ex j = false := fun j hj => by
  cases c : ex j with
  | false => rfl
  | true => have := (dv_lt (R := R) (ex := ex) i).2 j hj c; omega
/-! the likenesses -/
def nbw (T U : kT) (w i : Nat) : Nat := if w = 0 then tN (tw T U (i / 4)) (i % 4) else if w = 1 then tO (tw T U (i / 4)) (i % 4) else tOw (tw T U (i / 4)) (i % 4)
/-- who are of a colour, in a town -/
def mb1 (T U : kT) (col : Nat → Nat) (c t k : Nat) : Bool := ex8 T U (4 * t + k) && decide (col (4 * t + k) = c)
def mb (T U : kT) (col : Nat → Nat) (c t : Nat) : Nat := (if mb1 T U col c t 0 then 1 else 0) ||| (if mb1 T U col c t 1 then 2 else 0) ||| (if mb1 T U col c t 2 then 4 else 0) ||| (if mb1 T U col c t 3 then 8 else 0)
theorem mb_16 {col : Nat → Nat} {T : kT} {U : kT} {c t : Nat} : mb T U col c t < 16 := by
  unfold mb
  refine or16 (or16 (or16 ?_ ?_) ?_) ?_ <;> split <;> omega
theorem b4_bit' (a b c d : Bool) : ∀ w, w < 4 → ((if a then 1 else 0) ||| (if b then 2 else 0) ||| (if c then 4 else 0) ||| (if d then 8 else 0) : Nat).testBit w = (match w with | 0 => a | 1 => b | 2 => c | _ => d) := by
  revert a b c d; decide
theorem mb_bit {col : Nat → Nat} {T : kT} {U : kT} {c t k : Nat} (hk : k < 4) : (mb T U col c t).testBit k = mb1 T U col c t k := by
  have e := b4_bit' (mb1 T U col c t 0) (mb1 T U col c t 1) (mb1 T U col c t 2) (mb1 T U col c t 3) k hk
  rw [mb, e]
  match k, hk with
  | 0, _ => rfl
  | 1, _ => rfl
  | 2, _ => rfl
  | 3, _ => rfl
def cc (T U : kT) (col : Nat → Nat) (w c i : Nat) : Nat := pc4 (nbw T U w i &&& mb T U col c (i / 4))
def lk0 (T U : kT) (j i : Nat) : Bool := mAl (tw T U (j / 4)) (tw T U (i / 4)) (j % 4) (i % 4)
def lk1 (T U : kT) (col : Nat → Nat) (m w j i : Nat) : Bool := alB (fun c => decide (cc T U col w c j = cc T U col w c i)) m 0
def lkc (T U : kT) (col : Nat → Nat) (m j i : Nat) : Bool := decide (col j = col i) && (lk1 T U col m 0 j i && (lk1 T U col m 1 j i && lk1 T U col m 2 j i))
/-- only whose colour is looked at: those that are there -/
theorem mb_cg {col col2 : Nat → Nat} {T : kT} {U : kT} {c t : Nat} (ht : t < 2) (h : ∀ k, k < 8 → ex8 T U k = true → col k = col2 k) : mb T U col c t = mb T U col2 c t := by
  refine eq16 mb_16 mb_16 (fun i hi => ?_)
  rw [mb_bit hi, mb_bit hi]
  unfold mb1
  cases e : ex8 T U (4 * t + i) with
  | false => rfl
  | true => rw [h _ (by omega) e]
theorem lkc_cg {col col2 : Nat → Nat} {T : kT} {U : kT} {m j i : Nat} (hj : j < 8) (hi : i < 8) (ej : ex8 T U j = true) (ei : ex8 T U i = true) (h : ∀ k, k < 8 → ex8 T U k = true → col k = col2 k) : lkc T U col m j i = lkc T U col2 m j i := by
  have e : ∀ w c x, x < 8 → cc T U col w c x = cc T U col2 w c x := fun w c x hx => by unfold cc; rw [mb_cg (by omega) h]
  unfold lkc lk1
  rw [h j hj ej, h i hi ei, alB_cg (f := fun c => decide (cc T U col 0 c j = cc T U col 0 c i)) (f2 := fun c => decide (cc T U col2 0 c j = cc T U col2 0 c i)) (fun c _ _ => by rw [e _ _ _ hj, e _ _ _ hi]), alB_cg (f := fun c => decide (cc T U col 1 c j = cc T U col 1 c i)) (f2 := fun c => decide (cc T U col2 1 c j = cc T U col2 1 c i)) (fun c _ _ => by rw [e _ _ _ hj, e _ _ _ hi]), alB_cg (f := fun c => decide (cc T U col 2 c j = cc T U col 2 c i)) (f2 := fun c => decide (cc T U col2 2 c j = cc T U col2 2 c i)) (fun c _ _ => by rw [e _ _ _ hj, e _ _ _ hi])]
/-! refined: colours, how many, how often -/
def dvL (T U : kT) (col : Nat → Nat) (m : Nat) : (Nat → Nat) × Nat := dvN (lkc T U col m) (ex8 T U) 8
def dvM (T U : kT) : (Nat → Nat) × Nat := dvN (lk0 T U) (ex8 T U) 8
def rfG (T U : kT) : Nat → (Nat → Nat) × Nat × Nat → (Nat → Nat) × Nat × Nat
  | 0, s => s
  | n + 1, s => if (dvL T U s.1 s.2.1).2 ≤ s.2.1 then ((dvL T U s.1 s.2.1).1, (dvL T U s.1 s.2.1).2, s.2.2) else rfG T U n ((dvL T U s.1 s.2.1).1, (dvL T U s.1 s.2.1).2, s.2.2 + 1)
def rfA (T U : kT) : (Nat → Nat) × Nat × Nat := rfG T U 8 ((dvM T U).1, (dvM T U).2, 0)
def ulk (T U : kT) (col : Nat → Nat) (m : Nat) : Bool := exB (fun c => decide (¬ pc4 (mb T U col c 0) = pc4 (mb T U col c 1))) m 0
/-- what stands between two refinings: made by some likeness -/
def rfO (T U : kT) (s : (Nat → Nat) × Nat × Nat) : Prop := ∃ R, (s.1, s.2.1) = dvN R (ex8 T U) 8
theorem rfO.le {s : (Nat → Nat) × Nat × Nat} {T : kT} {U : kT} (h : rfO T U s) : s.2.1 ≤ 8 ∧ (∀ k, k < 8 → ex8 T U k = true → s.1 k < s.2.1) ∧ s.2.1 ≤ (dvL T U s.1 s.2.1).2 := by
  obtain ⟨R, e⟩ := h
  have e1 : s.1 = (dvN R (ex8 T U) 8).1 := congrArg Prod.fst e
  have e2 : s.2.1 = (dvN R (ex8 T U) 8).2 := congrArg Prod.snd e
  obtain ⟨a, b⟩ := dv_lt (R := R) (ex := ex8 T U) 8
  refine ⟨by rw [e2]; exact a, fun k hk hx => by rw [e1, e2]; exact b k hk hx, ?_⟩
  rw [e2]
  refine dv_mo (n := 8) (fun j i hi hj z => ?_) 8 (Nat.le_refl _)
  rw [← e1]
  simp only [lkc, Bool.and_eq_true, decide_eq_true_eq] at z
  exact z.1
theorem dvL_O {T : kT} {U : kT} {col : Nat → Nat} {m a : Nat} : rfO T U ((dvL T U col m).1, (dvL T U col m).2, a) := ⟨lkc T U col m, rfl⟩
theorem dvM_O {T : kT} {U : kT} {a : Nat} : rfO T U ((dvM T U).1, (dvM T U).2, a) := ⟨lk0 T U, rfl⟩
