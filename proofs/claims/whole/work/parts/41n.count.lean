/-! how many bits of a long: the sum -/
theorem lus_n {n k : Nat} (hn : n < 2 ^ 64) (hk : k < 64) : lus (lN n) k = lN (n / 2 ^ k) := wb_shr hn hk
theorem mk_85 : mkB 85 8 = 6148914691236517205 := by decide
theorem mk_51 : mkB 51 8 = 3689348814741910323 := by decide
theorem mk_15 : mkB 15 8 = 1085102592571150095 := by decide
theorem lc1_n {n : Nat} (hn : n < 2 ^ 64) : lc1 (lN n) = lN (n1 8 n) := by
  have e : (6148914691236517205 : Int64) = lN 6148914691236517205 := rfl
  unfold lc1 n1
  rw [lus_n hn (by omega), e, fb_andL, mk_85, show (2 : Nat) ^ 1 = 2 from rfl, lN_sub (Nat.le_trans Nat.and_le_left (Nat.div_le_self _ _))]
theorem n1_lt {n : Nat} (hn : n < 2 ^ 64) : n1 8 n < 2 ^ 64 := Nat.lt_of_le_of_lt (Nat.sub_le _ _) hn
theorem lc2_n {n : Nat} (hn : n < 2 ^ 64) : lc2 (lN n) = lN (n2 8 n) := by
  have e : (3689348814741910323 : Int64) = lN 3689348814741910323 := rfl
  unfold lc2 n2
  rw [lus_n hn (by omega), e, fb_andL, fb_andL, mk_51, show (2 : Nat) ^ 2 = 4 from rfl, lN_add]
theorem n2_lt {n : Nat} : n2 8 n < 2 ^ 64 := by
  unfold n2
  have a := Nat.and_le_right (n := n) (m := mkB 51 8)
  have b := Nat.and_le_right (n := n / 4) (m := mkB 51 8)
  rw [mk_51] at *
  omega
theorem lc3_n {n : Nat} (hn : n < 2 ^ 64) : lc3 (lN n) = lN (n3 8 n) := by
  have e : (1085102592571150095 : Int64) = lN 1085102592571150095 := rfl
  unfold lc3 n3
  rw [lus_n hn (by omega), e, lN_add, fb_andL, mk_15, show (2 : Nat) ^ 4 = 16 from rfl]
theorem lc4_n {n k : Nat} (hn : n < 2 ^ 64) (hk : k < 64) : lc4 (lN n) k = lN (n + n / 2 ^ k) := by
  unfold lc4
  rw [lus_n hn hk, lN_add]
theorem lcV_n {n : Nat} (hn : n < 2 ^ 64) : lcV (lN n) = nI (ct (fun i => n.testBit i) 64 0) := by
  have z7 := nF_e (k := 7) (n := n)
  have z6 := nF_e (k := 6) (n := n / 256)
  have z5 := nF_e (k := 5) (n := n / 256 / 256)
  have z4 := nF_e (k := 4) (n := n / 256 / 256 / 256)
  have z3 := nF_e (k := 3) (n := n / 256 / 256 / 256 / 256)
  have z2 := nF_e (k := 2) (n := n / 256 / 256 / 256 / 256 / 256)
  have z1 := nF_e (k := 1) (n := n / 256 / 256 / 256 / 256 / 256 / 256)
  have z0 := nF_e (k := 0) (n := n / 256 / 256 / 256 / 256 / 256 / 256 / 256)
  rw [nF_0, Nat.mul_zero, Nat.add_zero] at z0
  have y7 := ct_s8 (n := n) (m := 56)
  have y6 := ct_s8 (n := n / 256) (m := 48)
  have y5 := ct_s8 (n := n / 256 / 256) (m := 40)
  have y4 := ct_s8 (n := n / 256 / 256 / 256) (m := 32)
  have y3 := ct_s8 (n := n / 256 / 256 / 256 / 256) (m := 24)
  have y2 := ct_s8 (n := n / 256 / 256 / 256 / 256 / 256) (m := 16)
  have y1 := ct_s8 (n := n / 256 / 256 / 256 / 256 / 256 / 256) (m := 8)
  have y0 := ct_tl (n := n / 256 / 256 / 256 / 256 / 256 / 256 / 256)
  simp only [Nat.reduceAdd] at y7 y6 y5 y4 y3 y2 y1 z7 z6 z5 z4 z3 z2 z1 z0
  have l0 := ct_le (f := fun i => (n % 256).testBit i) 8 0
  have l1 := ct_le (f := fun i => (n / 256 % 256).testBit i) 8 0
  have l2 := ct_le (f := fun i => (n / 256 / 256 % 256).testBit i) 8 0
  have l3 := ct_le (f := fun i => (n / 256 / 256 / 256 % 256).testBit i) 8 0
  have l4 := ct_le (f := fun i => (n / 256 / 256 / 256 / 256 % 256).testBit i) 8 0
  have l5 := ct_le (f := fun i => (n / 256 / 256 / 256 / 256 / 256 % 256).testBit i) 8 0
  have l6 := ct_le (f := fun i => (n / 256 / 256 / 256 / 256 / 256 / 256 % 256).testBit i) 8 0
  have l7 := ct_le (f := fun i => (n / 256 / 256 / 256 / 256 / 256 / 256 / 256 % 256).testBit i) 8 0
  obtain ⟨s1, s2, s3, s4⟩ := sum8 l0 l1 l2 l3 l4 l5 l6 l7 z0 z1 z2 z3 z4 z5 z6 z7
  obtain ⟨t1, t2, t3, t4⟩ := bnd8 l0 l1 l2 l3 l4 l5 l6 l7 z0 z1 z2 z3 z4 z5 z6 z7
  have q1 : lc3 (lc2 (lc1 (lN n))) = lN (nF 8 n) := by
    rw [lc1_n hn, lc2_n (n1_lt hn), lc3_n n2_lt]
    rfl
  have e : (127 : Int32) = nI 127 := rfl
  unfold lcV
  rw [q1, lc4_n (by omega) (by omega), show (2 : Nat) ^ 8 = 256 from rfl, s1, lc4_n (by omega) (by omega), show (2 : Nat) ^ 16 = 65536 from rfl, s2, lc4_n (by omega) (by omega), show (2 : Nat) ^ 32 = 4294967296 from rfl, s3, lN_i, e, nx_and, show (127 : Nat) = 2 ^ 7 - 1 from rfl, Nat.and_two_pow_sub_one_eq_mod, show (2 : Nat) ^ 7 = 128 from rfl, s4, y7, y6, y5, y4, y3, y2, y1, y0]
theorem bcV_11 : ∀ x, x < 2048 → bcV (nI x) = nI (ct (fun i => x.testBit i) 11 0) := by decide +kernel
/-! bits that were gathered -/
theorem bts_t {f : Nat → Bool} {n : Nat} : ∀ j, (bts f n).testBit j = (decide (j < n) && f j) := by
  induction n with
  | zero => intro j; show (0 : Nat).testBit j = _; simp
  | succ n ih =>
    intro j
    rw [bts_s]
    by_cases e : j = n
    · subst e
      cases c : f j with
      | true => rw [if_pos rfl, Nat.testBit_or, tb_sh]; simp
      | false => rw [if_neg (by simp), ih]; simp
    · have e2 : ¬ n = j := fun q => e q.symm
      cases c : f n with
      | true => rw [if_pos rfl, Nat.testBit_or, tb_sh, ih, decide_eq_false e2, Bool.or_false]; congr 1; rw [decide_eq_decide]; omega
      | false => rw [if_neg (by simp), ih]; congr 1; rw [decide_eq_decide]; omega
theorem bts_lt {f : Nat → Bool} {n : Nat} : bts f n < 2 ^ n := by
  apply Nat.lt_pow_two_of_testBit
  intro i hi
  rw [bts_t, decide_eq_false (by omega), Bool.false_and]
theorem ct_sh {f : Nat → Bool} : ∀ (m k j : Nat), ct f m (k + j) = ct (fun i => f (k + i)) m j
  | 0, _, _ => rfl
  | m + 1, k, j => by rw [ct, ct, Nat.add_assoc, ct_sh m k (j + 1)]
