/-! report -/
def Pr (o k : Nat) : Bool := imp o k && (!(decide (o = 3) && (decide (k = 4) || (decide (k = 5) || decide (k = 6)))) && !(decide (o = 110) && (decide (25 ≤ k) && decide (k < 29))))
theorem Pr_i : ∀ o k, Pr o k = true → imp o k = true := fun o k h => by simp only [Pr, Bool.and_eq_true] at h; exact h.1
theorem Pr_o {o k : Nat} (h : o ∉ scrO) (h1 : o ≠ 93) (h2 : o ≠ 110) (h3 : o ≠ 3) : Pr o k = true := by
  unfold Pr; rw [imp_o h h1 h2]; simp [h2, h3]
theorem Pr_110 {k : Nat} (h : k < 25 ∨ 29 ≤ k) (h2 : k < 609) : Pr 110 k = true := by
  unfold Pr; rw [imp_110 h2]; simp; omega
theorem Pr_93 {k : Nat} (h : k ∉ scrF) : Pr 93 k = true := by unfold Pr; rw [imp_93 h]; simp
theorem LK.p {c : kC} {h : jM} {h1 : jM} {q : kQ} {T : kT} {U : kT} (x : LK h q c T U) (a : smP Pr h h1) (g : gH h1 q) : LK h1 q c T U := by
  obtain ⟨-, ⟨F, M⟩, ok, cm, cok, m⟩ := x
  refine ⟨g, ⟨a.F (fun _ => Pr_o (by decide) (by decide) (by decide) (by decide)) F, ?_⟩, ok, fun i hi => ?_, cok, fun i hi => ?_⟩
  · intro t ht
    obtain ⟨⟨x1, x2⟩, x3⟩ := M t ht
    refine ⟨⟨?_, ?_⟩, fun f hf => ⟨?_, ?_⟩⟩
    · rw [a.i (Pr_110 (by omega) (by omega))]; exact x1
    · rw [a.i (Pr_110 (by omega) (by omega))]; exact x2
    · rw [a.i (Pr_110 (by omega) (by omega))]; exact (x3 f hf).1
    · rw [a.i (Pr_110 (by omega) (by omega))]; exact (x3 f hf).2
  · rw [a.i (Pr_o (by decide) (by decide) (by decide) (by decide)), a.i (Pr_o (by decide) (by decide) (by decide) (by decide)), a.i (Pr_o (by decide) (by decide) (by decide) (by decide)), a.i (Pr_o (by decide) (by decide) (by decide) (by decide))]
    exact cm i hi
  · rw [a.i (Pr_o (by decide) (by decide) (by decide) (by decide))]; exact m i hi
def rOk (s : kS) (c : kC) (b : Bool) (i w : Nat) : Bool := gL s w && (decide (i ≤ w) || decide (fWo c w = b))
def RY (h : jM) (s : kS) (c : kC) (b : Bool) (i : Nat) : Prop := ∃ y : Nat → Nat, ∀ j, j < 3 → jI h 110 (26 + j) = nI (y j) ∧ y j < 2 ^ 25 ∧ ∀ k, k < 25 → (y j).testBit k = rOk s c b i (25 * j + k)
theorem RY.s {s : kS} {c : kC} {b : Bool} {h : jM} {h1 : jM} {i : Nat} (x : RY h s c b i) (a : sm h h1) : RY h1 s c b i := by
  obtain ⟨y, hy⟩ := x
  exact ⟨y, fun j hj => ⟨by rw [a.i (imp_110 (by omega))]; exact (hy j hj).1, (hy j hj).2⟩⟩
/-- a world that stays -/
theorem RY.t {s : kS} {c : kC} {b : Bool} {h : jM} {i : Nat} (x : RY h s c b i) (e : fWo c i = b) : RY h s c b (i + 1) := by
  obtain ⟨y, hy⟩ := x
  refine ⟨y, fun j hj => ⟨(hy j hj).1, (hy j hj).2.1, fun k hk => ?_⟩⟩
  rw [(hy j hj).2.2 k hk]
  unfold rOk
  by_cases z : 25 * j + k = i
  · rw [z, decide_eq_true e]; simp
  · have : decide (i ≤ 25 * j + k) = decide (i + 1 ≤ 25 * j + k) := by rw [decide_eq_decide]; omega
    rw [this]
def nyW (y i : Nat) : Nat := y &&& (1 <<< (i % 25) ^^^ 4294967295)
theorem m1_32 : ∀ i, i < 32 → (4294967295 : Nat).testBit i = true := by decide
theorem nyW_t {y i k : Nat} (hk : k < 25) : (nyW y i).testBit k = (y.testBit k && !decide (i % 25 = k)) := by
  unfold nyW
  rw [Nat.testBit_and, Nat.testBit_xor, tb_sh, m1_32 k (by omega), Bool.xor_true]
theorem and_f {y : Nat} (h : y < 2 ^ 25) : y &&& 4294967295 = y := by
  rw [show (4294967295 : Nat) = 2 ^ 32 - 1 from rfl, Nat.and_two_pow_sub_one_eq_mod]; omega
theorem RY.f {s : kS} {c : kC} {b : Bool} {h : jM} {i : Nat} {y : Nat} (x : RY h s c b i) (hi : i < 75) (e : ¬ fWo c i = b) (hy : jI h 110 (26 + i / 25) = nI y) (ly : y < 2 ^ 25) : RY (jsI h 110 (26 + i / 25) (nI (nyW y i))) s c b (i + 1) := by
  obtain ⟨z, hz⟩ := x
  have ez : z (i / 25) = y := by
    obtain ⟨a1, a2, -⟩ := hz (i / 25) (by omega)
    rw [hy] at a1
    rw [i_eq (by omega) (by omega)] at a1
    exact a1.symm
  refine ⟨fun j => if j = i / 25 then nyW y i else z j, fun j hj => ?_⟩
  obtain ⟨a1, a2, a3⟩ := hz j hj
  by_cases ej : j = i / 25
  · simp only [ej, if_true]
    rw [ej, ez] at a2 a3
    refine ⟨by rw [jI_jsI, if_pos ⟨rfl, rfl⟩], and_l ly, fun k hk => ?_⟩
    rw [nyW_t hk, a3 k hk]
    unfold rOk
    by_cases k1 : i % 25 = k
    · have : 25 * (i / 25) + k = i := by omega
      rw [this, decide_eq_false e, decide_eq_true k1]; simp
    · have : decide (i ≤ 25 * (i / 25) + k) = decide (i + 1 ≤ 25 * (i / 25) + k) := by rw [decide_eq_decide]; omega
      rw [this, decide_eq_false k1]; simp
  · simp only [ej, if_false]
    refine ⟨by rw [jI_jsI, if_neg (by omega)]; exact a1, a2, fun k hk => ?_⟩
    rw [a3 k hk]
    unfold rOk
    have : decide (i ≤ 25 * j + k) = decide (i + 1 ≤ 25 * j + k) := by rw [decide_eq_decide]; omega
    rw [this]
