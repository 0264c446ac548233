/-! plays: the reference's plays, one after another -/
theorem pla_le {T : kT} {U : kT} : ∀ (n : Nat) (p : Nat → Nat) (G : Nat), (pla T U n p G).2.1 ≤ n ∧ (pla T U n p G).1 ≤ 1 := by
  intro n
  induction n with
  | zero => intro p G; exact ⟨Nat.le_refl _, Nat.zero_le _⟩
  | succ n ih =>
    intro p G
    rw [pla]
    have a := ih (rk T U p G).2.1 (rk T U p G).2.2
    by_cases c : 0 < lI T U p 0 + lI T U p 1
    · rw [if_pos c]
      by_cases e : (rk T U p G).1 = true
      · rw [if_pos e]; exact ⟨Nat.succ_le_succ a.1, a.2⟩
      · rw [if_neg e]; exact ⟨Nat.succ_le_succ (Nat.zero_le _), Nat.le_refl _⟩
    · rw [if_neg c]; exact ⟨Nat.zero_le _, Nat.zero_le _⟩
