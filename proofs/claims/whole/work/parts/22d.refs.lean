/-! the references, as they stand behind the constructors; what changes: told c, spare s, the board's towns a b, the colours' towns e f -/
def rTab : List (List Nat) := [[1, 3, 11, 19, 52, 53, 9999, 54, 60, 9999, 66, 69, 70, 79, 82, 89, 90], [2], [], [4, 7, 10], [9999, 9999, 9999, 5, 6], [], [], [9999, 9999, 9999, 8, 9], [], [], [], [12, 15, 18], [9999, 9999, 9999, 13, 14], [], [], [9999, 9999, 9999, 16, 17], [], [], [], [20, 28, 36, 44], [21, 24, 27], [9999, 9999, 9999, 22, 23], [], [], [9999, 9999, 9999, 25, 26], [], [], [], [29, 32, 35], [9999, 9999, 9999, 30, 31], [], [], [9999, 9999, 9999, 33, 34], [], [], [], [37, 40, 43], [9999, 9999, 9999, 38, 39], [], [], [9999, 9999, 9999, 41, 42], [], [], [], [45, 48, 51], [9999, 9999, 9999, 46, 47], [], [], [9999, 9999, 9999, 49, 50], [], [], [], [], [], [55, 56, 57, 58, 59], [], [], [], [], [], [61, 62, 63, 64, 65], [], [], [], [], [], [67, 68], [], [], [], [71, 71, 74, 75, 9999, 9999, 9999, 76, 77, 78], [9999, 9999, 9999, 72, 73], [], [], [], [], [], [], [], [80, 81], [], [], [83, 84, 85, 86, 86], [], [], [], [9999, 9999, 9999, 87, 88], [], [], [], [9999, 9999, 9999, 91, 92], [], [], [9999, 94, 9999, 9999, 95, 96, 97, 9999, 9999, 98, 99, 100, 101, 9999, 102, 103, 104, 105, 9999, 9999, 106, 9999, 9999, 9999, 107, 108, 109, 110, 9999, 111, 9999, 112, 113, 114, 115, 116, 117, 118], [], [], [], [], [], [], [], [], [], [], [], [], [], [], [], [], [], [], [], [], [], [], [], [], [], []]
def rG (o k : Nat) : Nat := (rTab.getD o []).getD k 9999
abbrev kQ : Type := Nat × Nat × Nat × Nat × Nat × Nat
def qC (q : kQ) : Nat := q.1
def qS (q : kQ) : Nat := q.2.1
def qA (q : kQ) : Nat := q.2.2.1
def qB (q : kQ) : Nat := q.2.2.2.1
def qE (q : kQ) : Nat := q.2.2.2.2.1
def qF (q : kQ) : Nat := q.2.2.2.2.2
def rF (q : kQ) : Nat → Nat → Nat := fun o k => if o = 0 ∧ k = 7 then qC q else if o = 0 ∧ k = 8 then qS q else if o = 70 ∧ k = 0 then qA q else if o = 70 ∧ k = 1 then qB q else if o = 82 ∧ k = 3 then qE q else if o = 82 ∧ k = 4 then qF q else rG o k
def gH (h : jM) (q : kQ) : Prop := jN h = 120 ∧ jR h = rF q
theorem rF_c {q : kQ} {o k : Nat} (h : ¬ ((o = 0 ∧ (k = 7 ∨ k = 8)) ∨ (o = 70 ∧ (k = 0 ∨ k = 1)) ∨ (o = 82 ∧ (k = 3 ∨ k = 4)))) {n : Nat} (e : rG o k = n) : rF q o k = n := by unfold rF; rw [if_neg (by omega), if_neg (by omega), if_neg (by omega), if_neg (by omega), if_neg (by omega), if_neg (by omega)]; exact e
theorem rF_0_0 {q : kQ} : rF q 0 0 = 1 := rF_c (by omega) (by decide +kernel)
theorem rF_0_1 {q : kQ} : rF q 0 1 = 3 := rF_c (by omega) (by decide +kernel)
theorem rF_0_2 {q : kQ} : rF q 0 2 = 11 := rF_c (by omega) (by decide +kernel)
theorem rF_0_3 {q : kQ} : rF q 0 3 = 19 := rF_c (by omega) (by decide +kernel)
theorem rF_0_4 {q : kQ} : rF q 0 4 = 52 := rF_c (by omega) (by decide +kernel)
theorem rF_0_5 {q : kQ} : rF q 0 5 = 53 := rF_c (by omega) (by decide +kernel)
theorem rF_0_7 {q : kQ} : rF q 0 7 = qC q := by simp [rF]
theorem rF_0_8 {q : kQ} : rF q 0 8 = qS q := by simp [rF]
theorem rF_0_10 {q : kQ} : rF q 0 10 = 66 := rF_c (by omega) (by decide +kernel)
theorem rF_0_11 {q : kQ} : rF q 0 11 = 69 := rF_c (by omega) (by decide +kernel)
theorem rF_0_12 {q : kQ} : rF q 0 12 = 70 := rF_c (by omega) (by decide +kernel)
theorem rF_0_13 {q : kQ} : rF q 0 13 = 79 := rF_c (by omega) (by decide +kernel)
theorem rF_0_14 {q : kQ} : rF q 0 14 = 82 := rF_c (by omega) (by decide +kernel)
theorem rF_0_15 {q : kQ} : rF q 0 15 = 89 := rF_c (by omega) (by decide +kernel)
theorem rF_0_16 {q : kQ} : rF q 0 16 = 90 := rF_c (by omega) (by decide +kernel)
theorem rF_1_0 {q : kQ} : rF q 1 0 = 2 := rF_c (by omega) (by decide +kernel)
theorem rF_3_0 {q : kQ} : rF q 3 0 = 4 := rF_c (by omega) (by decide +kernel)
theorem rF_3_1 {q : kQ} : rF q 3 1 = 7 := rF_c (by omega) (by decide +kernel)
theorem rF_3_2 {q : kQ} : rF q 3 2 = 10 := rF_c (by omega) (by decide +kernel)
theorem rF_4_3 {q : kQ} : rF q 4 3 = 5 := rF_c (by omega) (by decide +kernel)
theorem rF_4_4 {q : kQ} : rF q 4 4 = 6 := rF_c (by omega) (by decide +kernel)
theorem rF_7_3 {q : kQ} : rF q 7 3 = 8 := rF_c (by omega) (by decide +kernel)
theorem rF_7_4 {q : kQ} : rF q 7 4 = 9 := rF_c (by omega) (by decide +kernel)
theorem rF_11_0 {q : kQ} : rF q 11 0 = 12 := rF_c (by omega) (by decide +kernel)
theorem rF_11_1 {q : kQ} : rF q 11 1 = 15 := rF_c (by omega) (by decide +kernel)
theorem rF_11_2 {q : kQ} : rF q 11 2 = 18 := rF_c (by omega) (by decide +kernel)
theorem rF_12_3 {q : kQ} : rF q 12 3 = 13 := rF_c (by omega) (by decide +kernel)
theorem rF_12_4 {q : kQ} : rF q 12 4 = 14 := rF_c (by omega) (by decide +kernel)
theorem rF_15_3 {q : kQ} : rF q 15 3 = 16 := rF_c (by omega) (by decide +kernel)
theorem rF_15_4 {q : kQ} : rF q 15 4 = 17 := rF_c (by omega) (by decide +kernel)
theorem rF_19_0 {q : kQ} : rF q 19 0 = 20 := rF_c (by omega) (by decide +kernel)
theorem rF_19_1 {q : kQ} : rF q 19 1 = 28 := rF_c (by omega) (by decide +kernel)
theorem rF_19_2 {q : kQ} : rF q 19 2 = 36 := rF_c (by omega) (by decide +kernel)
theorem rF_19_3 {q : kQ} : rF q 19 3 = 44 := rF_c (by omega) (by decide +kernel)
theorem rF_20_0 {q : kQ} : rF q 20 0 = 21 := rF_c (by omega) (by decide +kernel)
theorem rF_20_1 {q : kQ} : rF q 20 1 = 24 := rF_c (by omega) (by decide +kernel)
theorem rF_20_2 {q : kQ} : rF q 20 2 = 27 := rF_c (by omega) (by decide +kernel)
theorem rF_21_3 {q : kQ} : rF q 21 3 = 22 := rF_c (by omega) (by decide +kernel)
theorem rF_21_4 {q : kQ} : rF q 21 4 = 23 := rF_c (by omega) (by decide +kernel)
theorem rF_24_3 {q : kQ} : rF q 24 3 = 25 := rF_c (by omega) (by decide +kernel)
theorem rF_24_4 {q : kQ} : rF q 24 4 = 26 := rF_c (by omega) (by decide +kernel)
theorem rF_28_0 {q : kQ} : rF q 28 0 = 29 := rF_c (by omega) (by decide +kernel)
theorem rF_28_1 {q : kQ} : rF q 28 1 = 32 := rF_c (by omega) (by decide +kernel)
theorem rF_28_2 {q : kQ} : rF q 28 2 = 35 := rF_c (by omega) (by decide +kernel)
theorem rF_29_3 {q : kQ} : rF q 29 3 = 30 := rF_c (by omega) (by decide +kernel)
theorem rF_29_4 {q : kQ} : rF q 29 4 = 31 := rF_c (by omega) (by decide +kernel)
theorem rF_32_3 {q : kQ} : rF q 32 3 = 33 := rF_c (by omega) (by decide +kernel)
theorem rF_32_4 {q : kQ} : rF q 32 4 = 34 := rF_c (by omega) (by decide +kernel)
theorem rF_36_0 {q : kQ} : rF q 36 0 = 37 := rF_c (by omega) (by decide +kernel)
theorem rF_36_1 {q : kQ} : rF q 36 1 = 40 := rF_c (by omega) (by decide +kernel)
theorem rF_36_2 {q : kQ} : rF q 36 2 = 43 := rF_c (by omega) (by decide +kernel)
theorem rF_37_3 {q : kQ} : rF q 37 3 = 38 := rF_c (by omega) (by decide +kernel)
theorem rF_37_4 {q : kQ} : rF q 37 4 = 39 := rF_c (by omega) (by decide +kernel)
theorem rF_40_3 {q : kQ} : rF q 40 3 = 41 := rF_c (by omega) (by decide +kernel)
theorem rF_40_4 {q : kQ} : rF q 40 4 = 42 := rF_c (by omega) (by decide +kernel)
theorem rF_44_0 {q : kQ} : rF q 44 0 = 45 := rF_c (by omega) (by decide +kernel)
theorem rF_44_1 {q : kQ} : rF q 44 1 = 48 := rF_c (by omega) (by decide +kernel)
theorem rF_44_2 {q : kQ} : rF q 44 2 = 51 := rF_c (by omega) (by decide +kernel)
theorem rF_45_3 {q : kQ} : rF q 45 3 = 46 := rF_c (by omega) (by decide +kernel)
theorem rF_45_4 {q : kQ} : rF q 45 4 = 47 := rF_c (by omega) (by decide +kernel)
theorem rF_48_3 {q : kQ} : rF q 48 3 = 49 := rF_c (by omega) (by decide +kernel)
theorem rF_48_4 {q : kQ} : rF q 48 4 = 50 := rF_c (by omega) (by decide +kernel)
theorem rF_54_0 {q : kQ} : rF q 54 0 = 55 := rF_c (by omega) (by decide +kernel)
theorem rF_54_1 {q : kQ} : rF q 54 1 = 56 := rF_c (by omega) (by decide +kernel)
theorem rF_54_2 {q : kQ} : rF q 54 2 = 57 := rF_c (by omega) (by decide +kernel)
theorem rF_54_3 {q : kQ} : rF q 54 3 = 58 := rF_c (by omega) (by decide +kernel)
theorem rF_54_4 {q : kQ} : rF q 54 4 = 59 := rF_c (by omega) (by decide +kernel)
theorem rF_60_0 {q : kQ} : rF q 60 0 = 61 := rF_c (by omega) (by decide +kernel)
theorem rF_60_1 {q : kQ} : rF q 60 1 = 62 := rF_c (by omega) (by decide +kernel)
theorem rF_60_2 {q : kQ} : rF q 60 2 = 63 := rF_c (by omega) (by decide +kernel)
theorem rF_60_3 {q : kQ} : rF q 60 3 = 64 := rF_c (by omega) (by decide +kernel)
theorem rF_60_4 {q : kQ} : rF q 60 4 = 65 := rF_c (by omega) (by decide +kernel)
theorem rF_66_0 {q : kQ} : rF q 66 0 = 67 := rF_c (by omega) (by decide +kernel)
theorem rF_66_1 {q : kQ} : rF q 66 1 = 68 := rF_c (by omega) (by decide +kernel)
theorem rF_70_0 {q : kQ} : rF q 70 0 = qA q := by simp [rF]
theorem rF_70_1 {q : kQ} : rF q 70 1 = qB q := by simp [rF]
theorem rF_70_2 {q : kQ} : rF q 70 2 = 74 := rF_c (by omega) (by decide +kernel)
theorem rF_70_3 {q : kQ} : rF q 70 3 = 75 := rF_c (by omega) (by decide +kernel)
theorem rF_70_7 {q : kQ} : rF q 70 7 = 76 := rF_c (by omega) (by decide +kernel)
theorem rF_70_8 {q : kQ} : rF q 70 8 = 77 := rF_c (by omega) (by decide +kernel)
theorem rF_70_9 {q : kQ} : rF q 70 9 = 78 := rF_c (by omega) (by decide +kernel)
theorem rF_71_3 {q : kQ} : rF q 71 3 = 72 := rF_c (by omega) (by decide +kernel)
theorem rF_71_4 {q : kQ} : rF q 71 4 = 73 := rF_c (by omega) (by decide +kernel)
theorem rF_79_0 {q : kQ} : rF q 79 0 = 80 := rF_c (by omega) (by decide +kernel)
theorem rF_79_1 {q : kQ} : rF q 79 1 = 81 := rF_c (by omega) (by decide +kernel)
theorem rF_82_0 {q : kQ} : rF q 82 0 = 83 := rF_c (by omega) (by decide +kernel)
theorem rF_82_1 {q : kQ} : rF q 82 1 = 84 := rF_c (by omega) (by decide +kernel)
theorem rF_82_2 {q : kQ} : rF q 82 2 = 85 := rF_c (by omega) (by decide +kernel)
theorem rF_82_3 {q : kQ} : rF q 82 3 = qE q := by simp [rF]
theorem rF_82_4 {q : kQ} : rF q 82 4 = qF q := by simp [rF]
theorem rF_86_3 {q : kQ} : rF q 86 3 = 87 := rF_c (by omega) (by decide +kernel)
theorem rF_86_4 {q : kQ} : rF q 86 4 = 88 := rF_c (by omega) (by decide +kernel)
theorem rF_90_3 {q : kQ} : rF q 90 3 = 91 := rF_c (by omega) (by decide +kernel)
theorem rF_90_4 {q : kQ} : rF q 90 4 = 92 := rF_c (by omega) (by decide +kernel)
theorem rF_93_1 {q : kQ} : rF q 93 1 = 94 := rF_c (by omega) (by decide +kernel)
theorem rF_93_4 {q : kQ} : rF q 93 4 = 95 := rF_c (by omega) (by decide +kernel)
theorem rF_93_5 {q : kQ} : rF q 93 5 = 96 := rF_c (by omega) (by decide +kernel)
theorem rF_93_6 {q : kQ} : rF q 93 6 = 97 := rF_c (by omega) (by decide +kernel)
theorem rF_93_9 {q : kQ} : rF q 93 9 = 98 := rF_c (by omega) (by decide +kernel)
theorem rF_93_10 {q : kQ} : rF q 93 10 = 99 := rF_c (by omega) (by decide +kernel)
theorem rF_93_11 {q : kQ} : rF q 93 11 = 100 := rF_c (by omega) (by decide +kernel)
theorem rF_93_12 {q : kQ} : rF q 93 12 = 101 := rF_c (by omega) (by decide +kernel)
theorem rF_93_14 {q : kQ} : rF q 93 14 = 102 := rF_c (by omega) (by decide +kernel)
theorem rF_93_15 {q : kQ} : rF q 93 15 = 103 := rF_c (by omega) (by decide +kernel)
theorem rF_93_16 {q : kQ} : rF q 93 16 = 104 := rF_c (by omega) (by decide +kernel)
theorem rF_93_17 {q : kQ} : rF q 93 17 = 105 := rF_c (by omega) (by decide +kernel)
theorem rF_93_20 {q : kQ} : rF q 93 20 = 106 := rF_c (by omega) (by decide +kernel)
theorem rF_93_24 {q : kQ} : rF q 93 24 = 107 := rF_c (by omega) (by decide +kernel)
theorem rF_93_25 {q : kQ} : rF q 93 25 = 108 := rF_c (by omega) (by decide +kernel)
theorem rF_93_26 {q : kQ} : rF q 93 26 = 109 := rF_c (by omega) (by decide +kernel)
theorem rF_93_27 {q : kQ} : rF q 93 27 = 110 := rF_c (by omega) (by decide +kernel)
theorem rF_93_29 {q : kQ} : rF q 93 29 = 111 := rF_c (by omega) (by decide +kernel)
theorem rF_93_31 {q : kQ} : rF q 93 31 = 112 := rF_c (by omega) (by decide +kernel)
theorem rF_93_32 {q : kQ} : rF q 93 32 = 113 := rF_c (by omega) (by decide +kernel)
theorem rF_93_33 {q : kQ} : rF q 93 33 = 114 := rF_c (by omega) (by decide +kernel)
theorem rF_93_34 {q : kQ} : rF q 93 34 = 115 := rF_c (by omega) (by decide +kernel)
theorem rF_93_35 {q : kQ} : rF q 93 35 = 116 := rF_c (by omega) (by decide +kernel)
theorem rF_93_36 {q : kQ} : rF q 93 36 = 117 := rF_c (by omega) (by decide +kernel)
theorem rF_93_37 {q : kQ} : rF q 93 37 = 118 := rF_c (by omega) (by decide +kernel)
def tnL : List Nat := [4, 7, 12, 15, 21, 24, 29, 32, 37, 40, 45, 48, 71, 86, 90]
theorem tn_all : ∀ t, t ∈ tnL → rG t 3 = t + 1 ∧ rG t 4 = t + 2 ∧ jS t = (8, 5) ∧ jS (t + 1) = (100, 4) ∧ jS (t + 2) = (100, 4) ∧ t + 2 < 93 ∧ t ≠ 0 ∧ t ≠ 70 ∧ t ≠ 82 := by decide +kernel
theorem rF_t3 {q : kQ} {t : Nat} (ht : t ∈ tnL) : rF q t 3 = t + 1 := by
  obtain ⟨h1, h2, -, -, -, -, n0, n1, n2⟩ := tn_all t ht
  simp [rF, n0, n1, n2, h1]
theorem rF_t4 {q : kQ} {t : Nat} (ht : t ∈ tnL) : rF q t 4 = t + 2 := by
  obtain ⟨h1, h2, -, -, -, -, n0, n1, n2⟩ := tn_all t ht
  simp [rF, n0, n1, n2, h2]
theorem tn_s {t : Nat} (ht : t ∈ tnL) : jS t = (8, 5) := (tn_all t ht).2.2.1
theorem tn_s1 {t : Nat} (ht : t ∈ tnL) : jS (t + 1) = (100, 4) := (tn_all t ht).2.2.2.1
theorem tn_s2 {t : Nat} (ht : t ∈ tnL) : jS (t + 2) = (100, 4) := (tn_all t ht).2.2.2.2.1
theorem tn_lt {t : Nat} (ht : t ∈ tnL) : t < 91 := by have := (tn_all t ht).2.2.2.2.2.1; omega
theorem tn_r {t o : Nat} (ht : t ∈ tnL) (ho : o ∉ [4, 5, 6, 7, 8, 9, 12, 13, 14, 15, 16, 17, 21, 22, 23, 24, 25, 26, 29, 30, 31, 32, 33, 34, 37, 38, 39, 40, 41, 42, 45, 46, 47, 48, 49, 50, 71, 72, 73, 86, 87, 88, 90, 91, 92]) : ¬ t = o ∧ ¬ t + 1 = o ∧ ¬ t + 2 = o := by
  simp only [tnL, List.mem_cons, List.not_mem_nil, or_false, not_or] at ht ho
  omega
