/-! feed: the tape -/
def tk1 (b : Nat) (a : Nat × (Nat → Nat)) : Nat × (Nat → Nat) := if (b = 10 ∨ (32 ≤ b ∧ b ≤ 126)) ∧ a.1 < 1000 then (a.1 + 1, uN1 a.2 a.1 b) else a
def tk8 (x : Nat) (a : Nat × (Nat → Nat)) : Nat × (Nat → Nat) := tk1 (byt x 0) (tk1 (byt x 8) (tk1 (byt x 16) (tk1 (byt x 24) (tk1 (byt x 32) (tk1 (byt x 40) (tk1 (byt x 48) (tk1 (byt x 56) a)))))))
def rA1 (h : jM) (a : Nat × (Nat → Nat)) : Prop := a.1 ≤ 1000 ∧ jI h 1 1 = nI a.1 ∧ ∀ i, i < a.1 → jI h 2 i = nI (a.2 i) ∧ isSg (a.2 i)
def rA2 (h : jM) (a : Nat × (Nat → Nat)) : Prop := a.1 ≤ 1000 ∧ jI h 93 2 = nI a.1 ∧ ∀ i, i < a.1 → jI h 94 i = nI (a.2 i)
theorem cn_b {b : Nat} (hb : b < 256) : ((nI b).toUInt32 % 65536).toInt32 = nI b ∧ vp_nar .char (nI b) = nI b := by
  have e : ((nI b).toUInt32 % 65536).toInt32 = nI b := by
    rw [pk_char]
    have : (nI b).toBitVec.toNat = b := by
      show (BitVec.ofNat 32 b).toNat = b
      rw [BitVec.toNat_ofNat]; omega
    rw [this, Nat.mod_eq_of_lt (by omega)]
  refine ⟨e, ?_⟩
  have := pk_vc (nI b)
  rw [e] at this; exact this
theorem rA1_w {a : Nat × (Nat → Nat)} {h : jM} {b : Nat} (x : rA1 h a) (hb : b = 10 ∨ (32 ≤ b ∧ b ≤ 126)) (hn : a.1 < 1000) : rA1 (jsI (jsI h 2 a.1 (nI b)) 1 1 (nI (a.1 + 1))) (a.1 + 1, uN1 a.2 a.1 b) := by
  obtain ⟨x1, x2, x3⟩ := x
  refine ⟨by show a.1 + 1 ≤ 1000; omega, by rw [jI_jsI, if_pos ⟨rfl, rfl⟩], fun i hi => ?_⟩
  have hi : i < a.1 + 1 := hi
  show jI _ 2 i = nI (uN1 a.2 a.1 b i) ∧ isSg (uN1 a.2 a.1 b i)
  rw [jI_jsI, if_neg (by omega), jI_jsI]
  by_cases c : i = a.1
  · subst c; rw [if_pos ⟨rfl, rfl⟩, uN1_s]; exact ⟨rfl, hb⟩
  · rw [if_neg (by omega), uN1_n c]; exact x3 i (by omega)
theorem rA2_w {a : Nat × (Nat → Nat)} {h : jM} {b : Nat} (x : rA2 h a) (hn : a.1 < 1000) : rA2 (jsI (jsI h 94 a.1 (nI b)) 93 2 (nI (a.1 + 1))) (a.1 + 1, uN1 a.2 a.1 b) := by
  obtain ⟨x1, x2, x3⟩ := x
  refine ⟨by show a.1 + 1 ≤ 1000; omega, by rw [jI_jsI, if_pos ⟨rfl, rfl⟩], fun i hi => ?_⟩
  have hi : i < a.1 + 1 := hi
  show jI _ 94 i = nI (uN1 a.2 a.1 b i)
  rw [jI_jsI, if_neg (by omega), jI_jsI]
  by_cases c : i = a.1
  · subst c; rw [if_pos ⟨rfl, rfl⟩, uN1_s]
  · rw [if_neg (by omega), uN1_n c]; exact x3 i (by omega)
