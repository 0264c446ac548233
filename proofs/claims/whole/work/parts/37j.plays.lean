/-! plays: the reference's round, one row -/
theorem sm_g {h : jM} {x : Int64} : sm h (jsL h 93 38 x) := ⟨jFr.rf, fun o k e => ⟨rfl, by rw [jL_jsL, if_neg]; rintro ⟨rfl, rfl⟩; revert e; decide⟩⟩
theorem sm_112 {h : jM} {k : Nat} {x : Int32} : sm h (jsI h 112 k x) := sm_f (S := [112]) (fI_w (by simp)) (by decide)
def rMd (h h' : jM) (q : kQ) (T U : kT) (r : Bool × (Nat → Nat) × Nat) : Prop := gH h' q ∧ sm h h' ∧ (jI h' 70 = jI h 70 ∧ jI h' 78 = jI h 78) ∧ (jL h' 93 38 = lN r.2.2 ∧ r.2.2 < 2147483648) ∧ (r.1 = true → MP h' q 0 T U r.2.1 ∧ pos T U r.2.1 = true)
