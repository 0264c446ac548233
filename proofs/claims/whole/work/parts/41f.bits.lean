/-! claims: bits of longs -/
def lb (L : Int64) (j : Nat) : Bool := L.toBitVec.getLsbD j
theorem lb_lN {n j : Nat} (h : n < 2 ^ 64) : lb (lN n) j = n.testBit j := by
  unfold lb
  rw [lN_bv, BitVec.getLsbD_ofNat]
  by_cases c : j < 64
  · simp [c]
  · have : n.testBit j = false := Nat.testBit_lt_two_pow (Nat.lt_of_lt_of_le h (Nat.pow_le_pow_right (by decide) (by omega)))
    simp [c, this]
theorem lb_and {a b : Int64} {j : Nat} : lb (a &&& b) j = (lb a j && lb b j) := by unfold lb; rw [Int64.toBitVec_and, BitVec.getLsbD_and]
theorem lb_or {a b : Int64} {j : Nat} : lb (a ||| b) j = (lb a j || lb b j) := by unfold lb; rw [Int64.toBitVec_or, BitVec.getLsbD_or]
theorem lb_m1 : ∀ j, j < 64 → lb (-1) j = true := by decide +kernel
theorem lb_0 {j : Nat} : lb 0 j = false := by
  show (0 : BitVec 64).getLsbD j = false
  simp
theorem lb_not {a : Int64} {j : Nat} (hj : j < 64) : lb (a ^^^ (-1)) j = !lb a j := by
  have e := lb_m1 j hj
  unfold lb at e ⊢
  rw [Int64.toBitVec_xor, BitVec.getLsbD_xor, e, Bool.xor_true]
theorem lb_shr {x : Int64} {k j : Nat} (hk : k < 64) : lb ((x.toUInt64 >>> ((nI k).toInt64.toUInt64 &&& Int64.toUInt64 63)).toInt64) j = lb x (k + j) := by
  obtain ⟨n, hn, rfl⟩ := wb_of x
  rw [wb_shr hn hk, lb_lN (Nat.lt_of_le_of_lt (Nat.div_le_self _ _) hn), lb_lN hn, Nat.testBit_div_two_pow, Nat.add_comm]
theorem lb_1 {x : Int64} : (x &&& 1 = 1) = (lb x 0 = true) := by
  obtain ⟨n, hn, rfl⟩ := wb_of x
  rw [lb_lN hn, wb_a1 hn, Nat.testBit_zero]
  apply propext
  have h1 : (1 : Int64) = lN 1 := rfl
  rw [h1, fb_lN_inj (by omega) (by omega)]
  simp
theorem lg_e {x y : Int64} : (lg_cmp x y = nI 0) = (x = y) := by
  unfold lg_cmp
  apply propext
  constructor
  · intro h
    by_cases c1 : y < x
    · rw [if_pos c1] at h; exact absurd h (by decide)
    · rw [if_neg c1] at h
      by_cases c2 : x = y
      · exact c2
      · rw [if_neg c2] at h; exact absurd h (by decide)
  · intro h; subst h; simp; rfl
theorem mulB1 (V : BitVec 64) (hV : ∀ j, j < 64 → V.getLsbD j = true → j / 1 % 4 = 0) {j : Nat} (hj : j < 64) : (V * 15#64).getLsbD j = V.getLsbD (j - 1 * (j / 1 % 4)) := by
  have e : V * 15#64 = V + V <<< 1 + V <<< 2 + V <<< 3 := by
    have c : 15#64 = 1#64 + BitVec.twoPow 64 1 + BitVec.twoPow 64 2 + BitVec.twoPow 64 3 := by decide
    rw [c, BitVec.mul_add, BitVec.mul_add, BitVec.mul_add, BitVec.mul_one, BitVec.mul_twoPow_eq_shiftLeft, BitVec.mul_twoPow_eq_shiftLeft, BitVec.mul_twoPow_eq_shiftLeft]
  have z1 : V &&& V <<< 1 = 0#64 := by
    apply BitVec.eq_of_getLsbD_eq
    intro i hi
    rw [BitVec.getLsbD_and, BitVec.getLsbD_shiftLeft]
    cases a : V.getLsbD i with
    | false => simp
    | true =>
      cases b : V.getLsbD (i - 1) with
      | false => simp
      | true =>
        have p1 := hV i hi a
        have p2 := hV (i - 1) (by omega) b
        have : i < 1 := by omega
        simp [this]
  have z2 : (V ||| V <<< 1) &&& V <<< 2 = 0#64 := by
    apply BitVec.eq_of_getLsbD_eq
    intro i hi
    rw [BitVec.getLsbD_and, BitVec.getLsbD_or, BitVec.getLsbD_shiftLeft, BitVec.getLsbD_shiftLeft]
    cases b : V.getLsbD (i - 2) with
    | false => simp
    | true =>
      by_cases lt : i < 2
      · simp [lt]
      · have p2 := hV (i - 2) (by omega) b
        have a : V.getLsbD i = false := by
          cases a : V.getLsbD i with
          | false => rfl
          | true => have p1 := hV i hi a; omega
        have a2 : V.getLsbD (i - 1) = false := by
          cases a2 : V.getLsbD (i - 1) with
          | false => rfl
          | true => have p1 := hV (i - 1) (by omega) a2; omega
        simp [a, a2]
  have z3 : (V ||| V <<< 1 ||| V <<< 2) &&& V <<< 3 = 0#64 := by
    apply BitVec.eq_of_getLsbD_eq
    intro i hi
    rw [BitVec.getLsbD_and, BitVec.getLsbD_or, BitVec.getLsbD_or, BitVec.getLsbD_shiftLeft, BitVec.getLsbD_shiftLeft, BitVec.getLsbD_shiftLeft]
    cases b : V.getLsbD (i - 3) with
    | false => simp
    | true =>
      by_cases lt : i < 3
      · simp [lt]
      · have p2 := hV (i - 3) (by omega) b
        have a : V.getLsbD i = false := by
          cases a : V.getLsbD i with
          | false => rfl
          | true => have p1 := hV i hi a; omega
        have a2 : V.getLsbD (i - 1) = false := by
          cases a2 : V.getLsbD (i - 1) with
          | false => rfl
          | true => have p1 := hV (i - 1) (by omega) a2; omega
        have a3 : V.getLsbD (i - 2) = false := by
          cases a3 : V.getLsbD (i - 2) with
          | false => rfl
          | true => have p1 := hV (i - 2) (by omega) a3; omega
        simp [a, a2, a3]
  rw [e, BitVec.add_eq_or_of_and_eq_zero _ _ z1, BitVec.add_eq_or_of_and_eq_zero _ _ z2, BitVec.add_eq_or_of_and_eq_zero _ _ z3, BitVec.getLsbD_or, BitVec.getLsbD_or, BitVec.getLsbD_or, BitVec.getLsbD_shiftLeft, BitVec.getLsbD_shiftLeft, BitVec.getLsbD_shiftLeft]
  have no : ∀ k, k ≤ j → ¬ (j - k) / 1 % 4 = 0 → V.getLsbD (j - k) = false := fun k hk hn => by
    cases a : V.getLsbD (j - k) with
    | false => rfl
    | true => exact absurd (hV (j - k) (by omega) a) hn
  rcases (show j / 1 % 4 = 0 ∨ j / 1 % 4 = 1 ∨ j / 1 % 4 = 2 ∨ j / 1 % 4 = 3 by omega) with r | r | r | r
  · rw [r, Nat.mul_zero, Nat.sub_zero]
    have n1 : j < 1 ∨ V.getLsbD (j - 1) = false := by
      by_cases l : j < 1
      · exact Or.inl l
      · exact Or.inr (no 1 (by omega) (by omega))
    have n2 : j < 2 ∨ V.getLsbD (j - 2) = false := by
      by_cases l : j < 2
      · exact Or.inl l
      · exact Or.inr (no 2 (by omega) (by omega))
    have n3 : j < 3 ∨ V.getLsbD (j - 3) = false := by
      by_cases l : j < 3
      · exact Or.inl l
      · exact Or.inr (no 3 (by omega) (by omega))
    rcases n1 with n1 | n1 <;> rcases n2 with n2 | n2 <;> rcases n3 with n3 | n3 <;> simp [n1, n2, n3]
  · rw [r, Nat.mul_one]
    have n0 := no 0 (by omega) (by omega)
    rw [Nat.sub_zero] at n0
    have n1 : ¬ j < 1 := by omega
    have n2 : j < 2 ∨ V.getLsbD (j - 2) = false := by
      by_cases l : j < 2
      · exact Or.inl l
      · exact Or.inr (no 2 (by omega) (by omega))
    have n3 : j < 3 ∨ V.getLsbD (j - 3) = false := by
      by_cases l : j < 3
      · exact Or.inl l
      · exact Or.inr (no 3 (by omega) (by omega))
    rcases n2 with n2 | n2 <;> rcases n3 with n3 | n3 <;> (rw [n0]; simp [n1, n2, n3, hj])
  · rw [r, show 1 * 2 = 2 from rfl]
    have n0 := no 0 (by omega) (by omega)
    rw [Nat.sub_zero] at n0
    have n1 := no 1 (by omega) (by omega)
    have n2 : ¬ j < 2 := by omega
    have n3 : j < 3 ∨ V.getLsbD (j - 3) = false := by
      by_cases l : j < 3
      · exact Or.inl l
      · exact Or.inr (no 3 (by omega) (by omega))
    rcases n3 with n3 | n3 <;> (rw [n0]; simp [n1, n2, n3, hj])
  · rw [r, show 1 * 3 = 3 from rfl]
    have n0 := no 0 (by omega) (by omega)
    rw [Nat.sub_zero] at n0
    have n1 := no 1 (by omega) (by omega)
    have n2 := no 2 (by omega) (by omega)
    have n3 : ¬ j < 3 := by omega
    (rw [n0]; simp [n1, n2, n3, hj])
theorem mulB4 (V : BitVec 64) (hV : ∀ j, j < 64 → V.getLsbD j = true → j / 4 % 4 = 0) {j : Nat} (hj : j < 64) : (V * 4369#64).getLsbD j = V.getLsbD (j - 4 * (j / 4 % 4)) := by
  have e : V * 4369#64 = V + V <<< 4 + V <<< 8 + V <<< 12 := by
    have c : 4369#64 = 1#64 + BitVec.twoPow 64 4 + BitVec.twoPow 64 8 + BitVec.twoPow 64 12 := by decide
    rw [c, BitVec.mul_add, BitVec.mul_add, BitVec.mul_add, BitVec.mul_one, BitVec.mul_twoPow_eq_shiftLeft, BitVec.mul_twoPow_eq_shiftLeft, BitVec.mul_twoPow_eq_shiftLeft]
  have z1 : V &&& V <<< 4 = 0#64 := by
    apply BitVec.eq_of_getLsbD_eq
    intro i hi
    rw [BitVec.getLsbD_and, BitVec.getLsbD_shiftLeft]
    cases a : V.getLsbD i with
    | false => simp
    | true =>
      cases b : V.getLsbD (i - 4) with
      | false => simp
      | true =>
        have p1 := hV i hi a
        have p2 := hV (i - 4) (by omega) b
        have : i < 4 := by omega
        simp [this]
  have z2 : (V ||| V <<< 4) &&& V <<< 8 = 0#64 := by
    apply BitVec.eq_of_getLsbD_eq
    intro i hi
    rw [BitVec.getLsbD_and, BitVec.getLsbD_or, BitVec.getLsbD_shiftLeft, BitVec.getLsbD_shiftLeft]
    cases b : V.getLsbD (i - 8) with
    | false => simp
    | true =>
      by_cases lt : i < 8
      · simp [lt]
      · have p2 := hV (i - 8) (by omega) b
        have a : V.getLsbD i = false := by
          cases a : V.getLsbD i with
          | false => rfl
          | true => have p1 := hV i hi a; omega
        have a2 : V.getLsbD (i - 4) = false := by
          cases a2 : V.getLsbD (i - 4) with
          | false => rfl
          | true => have p1 := hV (i - 4) (by omega) a2; omega
        simp [a, a2]
  have z3 : (V ||| V <<< 4 ||| V <<< 8) &&& V <<< 12 = 0#64 := by
    apply BitVec.eq_of_getLsbD_eq
    intro i hi
    rw [BitVec.getLsbD_and, BitVec.getLsbD_or, BitVec.getLsbD_or, BitVec.getLsbD_shiftLeft, BitVec.getLsbD_shiftLeft, BitVec.getLsbD_shiftLeft]
    cases b : V.getLsbD (i - 12) with
    | false => simp
    | true =>
      by_cases lt : i < 12
      · simp [lt]
      · have p2 := hV (i - 12) (by omega) b
        have a : V.getLsbD i = false := by
          cases a : V.getLsbD i with
          | false => rfl
          | true => have p1 := hV i hi a; omega
        have a2 : V.getLsbD (i - 4) = false := by
          cases a2 : V.getLsbD (i - 4) with
          | false => rfl
          | true => have p1 := hV (i - 4) (by omega) a2; omega
        have a3 : V.getLsbD (i - 8) = false := by
          cases a3 : V.getLsbD (i - 8) with
          | false => rfl
          | true => have p1 := hV (i - 8) (by omega) a3; omega
        simp [a, a2, a3]
  rw [e, BitVec.add_eq_or_of_and_eq_zero _ _ z1, BitVec.add_eq_or_of_and_eq_zero _ _ z2, BitVec.add_eq_or_of_and_eq_zero _ _ z3, BitVec.getLsbD_or, BitVec.getLsbD_or, BitVec.getLsbD_or, BitVec.getLsbD_shiftLeft, BitVec.getLsbD_shiftLeft, BitVec.getLsbD_shiftLeft]
  have no : ∀ k, k ≤ j → ¬ (j - k) / 4 % 4 = 0 → V.getLsbD (j - k) = false := fun k hk hn => by
    cases a : V.getLsbD (j - k) with
    | false => rfl
    | true => exact absurd (hV (j - k) (by omega) a) hn
  rcases (show j / 4 % 4 = 0 ∨ j / 4 % 4 = 1 ∨ j / 4 % 4 = 2 ∨ j / 4 % 4 = 3 by omega) with r | r | r | r
  · rw [r, Nat.mul_zero, Nat.sub_zero]
    have n1 : j < 4 ∨ V.getLsbD (j - 4) = false := by
      by_cases l : j < 4
      · exact Or.inl l
      · exact Or.inr (no 4 (by omega) (by omega))
    have n2 : j < 8 ∨ V.getLsbD (j - 8) = false := by
      by_cases l : j < 8
      · exact Or.inl l
      · exact Or.inr (no 8 (by omega) (by omega))
    have n3 : j < 12 ∨ V.getLsbD (j - 12) = false := by
      by_cases l : j < 12
      · exact Or.inl l
      · exact Or.inr (no 12 (by omega) (by omega))
    rcases n1 with n1 | n1 <;> rcases n2 with n2 | n2 <;> rcases n3 with n3 | n3 <;> simp [n1, n2, n3]
  · rw [r, Nat.mul_one]
    have n0 := no 0 (by omega) (by omega)
    rw [Nat.sub_zero] at n0
    have n1 : ¬ j < 4 := by omega
    have n2 : j < 8 ∨ V.getLsbD (j - 8) = false := by
      by_cases l : j < 8
      · exact Or.inl l
      · exact Or.inr (no 8 (by omega) (by omega))
    have n3 : j < 12 ∨ V.getLsbD (j - 12) = false := by
      by_cases l : j < 12
      · exact Or.inl l
      · exact Or.inr (no 12 (by omega) (by omega))
    rcases n2 with n2 | n2 <;> rcases n3 with n3 | n3 <;> (rw [n0]; simp [n1, n2, n3, hj])
  · rw [r, show 4 * 2 = 8 from rfl]
    have n0 := no 0 (by omega) (by omega)
    rw [Nat.sub_zero] at n0
    have n1 := no 4 (by omega) (by omega)
    have n2 : ¬ j < 8 := by omega
    have n3 : j < 12 ∨ V.getLsbD (j - 12) = false := by
      by_cases l : j < 12
      · exact Or.inl l
      · exact Or.inr (no 12 (by omega) (by omega))
    rcases n3 with n3 | n3 <;> (rw [n0]; simp [n1, n2, n3, hj])
  · rw [r, show 4 * 3 = 12 from rfl]
    have n0 := no 0 (by omega) (by omega)
    rw [Nat.sub_zero] at n0
    have n1 := no 4 (by omega) (by omega)
    have n2 := no 8 (by omega) (by omega)
    have n3 : ¬ j < 12 := by omega
    (rw [n0]; simp [n1, n2, n3, hj])
theorem mulB16 (V : BitVec 64) (hV : ∀ j, j < 64 → V.getLsbD j = true → j / 16 % 4 = 0) {j : Nat} (hj : j < 64) : (V * 281479271743489#64).getLsbD j = V.getLsbD (j - 16 * (j / 16 % 4)) := by
  have e : V * 281479271743489#64 = V + V <<< 16 + V <<< 32 + V <<< 48 := by
    have c : 281479271743489#64 = 1#64 + BitVec.twoPow 64 16 + BitVec.twoPow 64 32 + BitVec.twoPow 64 48 := by decide
    rw [c, BitVec.mul_add, BitVec.mul_add, BitVec.mul_add, BitVec.mul_one, BitVec.mul_twoPow_eq_shiftLeft, BitVec.mul_twoPow_eq_shiftLeft, BitVec.mul_twoPow_eq_shiftLeft]
  have z1 : V &&& V <<< 16 = 0#64 := by
    apply BitVec.eq_of_getLsbD_eq
    intro i hi
    rw [BitVec.getLsbD_and, BitVec.getLsbD_shiftLeft]
    cases a : V.getLsbD i with
    | false => simp
    | true =>
      cases b : V.getLsbD (i - 16) with
      | false => simp
      | true =>
        have p1 := hV i hi a
        have p2 := hV (i - 16) (by omega) b
        have : i < 16 := by omega
        simp [this]
  have z2 : (V ||| V <<< 16) &&& V <<< 32 = 0#64 := by
    apply BitVec.eq_of_getLsbD_eq
    intro i hi
    rw [BitVec.getLsbD_and, BitVec.getLsbD_or, BitVec.getLsbD_shiftLeft, BitVec.getLsbD_shiftLeft]
    cases b : V.getLsbD (i - 32) with
    | false => simp
    | true =>
      by_cases lt : i < 32
      · simp [lt]
      · have p2 := hV (i - 32) (by omega) b
        have a : V.getLsbD i = false := by
          cases a : V.getLsbD i with
          | false => rfl
          | true => have p1 := hV i hi a; omega
        have a2 : V.getLsbD (i - 16) = false := by
          cases a2 : V.getLsbD (i - 16) with
          | false => rfl
          | true => have p1 := hV (i - 16) (by omega) a2; omega
        simp [a, a2]
  have z3 : (V ||| V <<< 16 ||| V <<< 32) &&& V <<< 48 = 0#64 := by
    apply BitVec.eq_of_getLsbD_eq
    intro i hi
    rw [BitVec.getLsbD_and, BitVec.getLsbD_or, BitVec.getLsbD_or, BitVec.getLsbD_shiftLeft, BitVec.getLsbD_shiftLeft, BitVec.getLsbD_shiftLeft]
    cases b : V.getLsbD (i - 48) with
    | false => simp
    | true =>
      by_cases lt : i < 48
      · simp [lt]
      · have p2 := hV (i - 48) (by omega) b
        have a : V.getLsbD i = false := by
          cases a : V.getLsbD i with
          | false => rfl
          | true => have p1 := hV i hi a; omega
        have a2 : V.getLsbD (i - 16) = false := by
          cases a2 : V.getLsbD (i - 16) with
          | false => rfl
          | true => have p1 := hV (i - 16) (by omega) a2; omega
        have a3 : V.getLsbD (i - 32) = false := by
          cases a3 : V.getLsbD (i - 32) with
          | false => rfl
          | true => have p1 := hV (i - 32) (by omega) a3; omega
        simp [a, a2, a3]
  rw [e, BitVec.add_eq_or_of_and_eq_zero _ _ z1, BitVec.add_eq_or_of_and_eq_zero _ _ z2, BitVec.add_eq_or_of_and_eq_zero _ _ z3, BitVec.getLsbD_or, BitVec.getLsbD_or, BitVec.getLsbD_or, BitVec.getLsbD_shiftLeft, BitVec.getLsbD_shiftLeft, BitVec.getLsbD_shiftLeft]
  have no : ∀ k, k ≤ j → ¬ (j - k) / 16 % 4 = 0 → V.getLsbD (j - k) = false := fun k hk hn => by
    cases a : V.getLsbD (j - k) with
    | false => rfl
    | true => exact absurd (hV (j - k) (by omega) a) hn
  rcases (show j / 16 % 4 = 0 ∨ j / 16 % 4 = 1 ∨ j / 16 % 4 = 2 ∨ j / 16 % 4 = 3 by omega) with r | r | r | r
  · rw [r, Nat.mul_zero, Nat.sub_zero]
    have n1 : j < 16 ∨ V.getLsbD (j - 16) = false := by
      by_cases l : j < 16
      · exact Or.inl l
      · exact Or.inr (no 16 (by omega) (by omega))
    have n2 : j < 32 ∨ V.getLsbD (j - 32) = false := by
      by_cases l : j < 32
      · exact Or.inl l
      · exact Or.inr (no 32 (by omega) (by omega))
    have n3 : j < 48 ∨ V.getLsbD (j - 48) = false := by
      by_cases l : j < 48
      · exact Or.inl l
      · exact Or.inr (no 48 (by omega) (by omega))
    rcases n1 with n1 | n1 <;> rcases n2 with n2 | n2 <;> rcases n3 with n3 | n3 <;> simp [n1, n2, n3]
  · rw [r, Nat.mul_one]
    have n0 := no 0 (by omega) (by omega)
    rw [Nat.sub_zero] at n0
    have n1 : ¬ j < 16 := by omega
    have n2 : j < 32 ∨ V.getLsbD (j - 32) = false := by
      by_cases l : j < 32
      · exact Or.inl l
      · exact Or.inr (no 32 (by omega) (by omega))
    have n3 : j < 48 ∨ V.getLsbD (j - 48) = false := by
      by_cases l : j < 48
      · exact Or.inl l
      · exact Or.inr (no 48 (by omega) (by omega))
    rcases n2 with n2 | n2 <;> rcases n3 with n3 | n3 <;> (rw [n0]; simp [n1, n2, n3, hj])
  · rw [r, show 16 * 2 = 32 from rfl]
    have n0 := no 0 (by omega) (by omega)
    rw [Nat.sub_zero] at n0
    have n1 := no 16 (by omega) (by omega)
    have n2 : ¬ j < 32 := by omega
    have n3 : j < 48 ∨ V.getLsbD (j - 48) = false := by
      by_cases l : j < 48
      · exact Or.inl l
      · exact Or.inr (no 48 (by omega) (by omega))
    rcases n3 with n3 | n3 <;> (rw [n0]; simp [n1, n2, n3, hj])
  · rw [r, show 16 * 3 = 48 from rfl]
    have n0 := no 0 (by omega) (by omega)
    rw [Nat.sub_zero] at n0
    have n1 := no 16 (by omega) (by omega)
    have n2 := no 32 (by omega) (by omega)
    have n3 : ¬ j < 48 := by omega
    (rw [n0]; simp [n1, n2, n3, hj])
/-- a choice: x, y, z in the bit, u the long -/
def mk (j u n : Nat) : Nat := if n = 0 then j % 4 else if n = 1 then j / 4 % 4 else if n = 2 then j / 16 else if n = 3 then u else 0
theorem ech : ∀ j, j < 64 → lb 1229782938247303441 j = decide (j / 1 % 4 = 0) ∧ lb 4222189076152335 j = decide (j / 4 % 4 = 0) ∧ lb 65535 j = decide (j / 16 % 4 = 0) := by decide +kernel
theorem lb_bv {x : Int64} {j : Nat} : lb x j = x.toBitVec.getLsbD j := rfl
theorem ush_bv {x y : Int64} (h : ∀ j, j < 64 → lb x j = lb y j) : x = y := by
  apply Int64.toBitVec_inj.mp
  exact BitVec.eq_of_getLsbD_eq (fun i hi => h i hi)
/-- a part's truth when a name is somebody's -/
theorem kf_0 {x : Int64} {w j : Nat} (hw : w < 4) (hj : j < 64) : lb (((x.toUInt64 >>> ((nI w).toInt64.toUInt64 &&& Int64.toUInt64 63)).toInt64 &&& 1229782938247303441) * 15) j = lb x (j - j % 4 + w) := by
  have m := mulB1 (((x.toUInt64 >>> ((nI w).toInt64.toUInt64 &&& Int64.toUInt64 63)).toInt64 &&& 1229782938247303441).toBitVec) (fun i hi h => by
    have e := (ech i hi).1
    rw [Int64.toBitVec_and, BitVec.getLsbD_and, Bool.and_eq_true] at h
    have h2 : lb 1229782938247303441 i = true := h.2
    rw [e, decide_eq_true_eq] at h2; exact h2) hj
  have t : (((x.toUInt64 >>> ((nI w).toInt64.toUInt64 &&& Int64.toUInt64 63)).toInt64 &&& 1229782938247303441) * 15).toBitVec = ((x.toUInt64 >>> ((nI w).toInt64.toUInt64 &&& Int64.toUInt64 63)).toInt64 &&& 1229782938247303441).toBitVec * 15#64 := Int64.toBitVec_mul
  rw [lb_bv, t, m, Int64.toBitVec_and, BitVec.getLsbD_and, ← lb_bv, ← lb_bv, lb_shr (by omega), (ech _ (by omega)).1, decide_eq_true (by omega), Bool.and_true]
  congr 1; omega
theorem kf_1 {x : Int64} {w j : Nat} (hw : w < 4) (hj : j < 64) : lb (((x.toUInt64 >>> ((nI (4 * w)).toInt64.toUInt64 &&& Int64.toUInt64 63)).toInt64 &&& 4222189076152335) * 4369) j = lb x (j - 4 * (j / 4 % 4) + 4 * w) := by
  have m := mulB4 (((x.toUInt64 >>> ((nI (4 * w)).toInt64.toUInt64 &&& Int64.toUInt64 63)).toInt64 &&& 4222189076152335).toBitVec) (fun i hi h => by
    have e := (ech i hi).2.1
    rw [Int64.toBitVec_and, BitVec.getLsbD_and, Bool.and_eq_true] at h
    have h2 : lb 4222189076152335 i = true := h.2
    rw [e, decide_eq_true_eq] at h2; exact h2) hj
  have t : (((x.toUInt64 >>> ((nI (4 * w)).toInt64.toUInt64 &&& Int64.toUInt64 63)).toInt64 &&& 4222189076152335) * 4369).toBitVec = ((x.toUInt64 >>> ((nI (4 * w)).toInt64.toUInt64 &&& Int64.toUInt64 63)).toInt64 &&& 4222189076152335).toBitVec * 4369#64 := Int64.toBitVec_mul
  rw [lb_bv, t, m, Int64.toBitVec_and, BitVec.getLsbD_and, ← lb_bv, ← lb_bv, lb_shr (by omega), (ech _ (by omega)).2.1, decide_eq_true (by omega), Bool.and_true]
  congr 1; omega
theorem kf_2 {x : Int64} {w j : Nat} (hw : w < 4) (hj : j < 64) : lb (((x.toUInt64 >>> ((nI (16 * w)).toInt64.toUInt64 &&& Int64.toUInt64 63)).toInt64 &&& 65535) * 281479271743489) j = lb x (j % 16 + 16 * w) := by
  have m := mulB16 (((x.toUInt64 >>> ((nI (16 * w)).toInt64.toUInt64 &&& Int64.toUInt64 63)).toInt64 &&& 65535).toBitVec) (fun i hi h => by
    have e := (ech i hi).2.2
    rw [Int64.toBitVec_and, BitVec.getLsbD_and, Bool.and_eq_true] at h
    have h2 : lb 65535 i = true := h.2
    rw [e, decide_eq_true_eq] at h2; exact h2) hj
  have t : (((x.toUInt64 >>> ((nI (16 * w)).toInt64.toUInt64 &&& Int64.toUInt64 63)).toInt64 &&& 65535) * 281479271743489).toBitVec = ((x.toUInt64 >>> ((nI (16 * w)).toInt64.toUInt64 &&& Int64.toUInt64 63)).toInt64 &&& 65535).toBitVec * 281479271743489#64 := Int64.toBitVec_mul
  rw [lb_bv, t, m, Int64.toBitVec_and, BitVec.getLsbD_and, ← lb_bv, ← lb_bv, lb_shr (by omega), (ech _ (by omega)).2.2, decide_eq_true (by omega), Bool.and_true]
  congr 1; omega
theorem wo_c : ∀ w, w < 4 → ∀ j, j < 64 → lb (1229782938247303441 <<< ((nI w).toInt64 &&& 63)) j = decide (j % 4 = w) ∧ lb (4222189076152335 <<< ((nI (4 * w)).toInt64 &&& 63)) j = decide (j / 4 % 4 = w) ∧ lb (65535 <<< ((nI (16 * w)).toInt64 &&& 63)) j = decide (j / 16 = w) := by decide +kernel
/-- the choice with a name somebody's -/
def sb (j n w : Nat) : Nat := if n = 0 then j - j % 4 + w else if n = 1 then j - 4 * (j / 4 % 4) + 4 * w else j % 16 + 16 * w
theorem mk_sb {j u n w : Nat} (hj : j < 64) (hn : n < 3) (hw : w < 4) : mk (sb j n w) u = uN1 (mk j u) n w ∧ sb j n w < 64 := by
  rcases (show n = 0 ∨ n = 1 ∨ n = 2 by omega) with rfl | rfl | rfl
  · have e : sb j 0 w = j - j % 4 + w := rfl
    refine ⟨?_, by omega⟩
    rw [e]
    funext k
    by_cases k0 : k = 0
    · subst k0; rw [uN1_s]; simp only [mk, if_true]; omega
    · rw [uN1_n k0]; unfold mk
      rw [if_neg k0, if_neg k0]
      by_cases k1 : k = 1
      · rw [if_pos k1, if_pos k1]; omega
      · rw [if_neg k1, if_neg k1]
        by_cases k2 : k = 2
        · rw [if_pos k2, if_pos k2]; omega
        · rw [if_neg k2, if_neg k2]
  · have e : sb j 1 w = j - 4 * (j / 4 % 4) + 4 * w := rfl
    refine ⟨?_, by omega⟩
    rw [e]
    funext k
    by_cases k1 : k = 1
    · subst k1; rw [uN1_s]; unfold mk; rw [if_neg (by omega), if_pos rfl]; omega
    · rw [uN1_n k1]; unfold mk
      rw [if_neg k1, if_neg k1]
      by_cases k0 : k = 0
      · rw [if_pos k0, if_pos k0]; omega
      · rw [if_neg k0, if_neg k0]
        by_cases k2 : k = 2
        · rw [if_pos k2, if_pos k2]; omega
        · rw [if_neg k2, if_neg k2]
  · have e : sb j 2 w = j % 16 + 16 * w := rfl
    refine ⟨?_, by omega⟩
    rw [e]
    funext k
    by_cases k2 : k = 2
    · subst k2; rw [uN1_s]; unfold mk; rw [if_neg (by omega), if_neg (by omega), if_pos rfl]; omega
    · rw [uN1_n k2]; unfold mk
      rw [if_neg k2, if_neg k2]
      by_cases k0 : k = 0
      · rw [if_pos k0, if_pos k0]; omega
      · rw [if_neg k0, if_neg k0]
        by_cases k1 : k = 1
        · rw [if_pos k1, if_pos k1]; omega
        · rw [if_neg k1, if_neg k1]
theorem mk_3 {j u w : Nat} : mk j w = uN1 (mk j u) 3 w := by
  funext k
  by_cases k3 : k = 3
  · subst k3; rw [uN1_s]; rfl
  · rw [uN1_n k3]; unfold mk
    rw [if_neg k3, if_neg k3]
theorem mk_4 {j u n : Nat} (hj : j < 64) (hu : u < 4) : mk j u n < 4 := by
  unfold mk
  split
  · omega
  · split
    · omega
    · split
      · omega
      · split <;> omega
