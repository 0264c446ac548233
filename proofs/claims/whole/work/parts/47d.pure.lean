/-! the law comes to 1 -/
theorem all_cases : jCases Inv := ⟨case_0, case_1, case_2, case_3, case_4, case_5, case_6, case_7, case_8, case_9, case_10, case_11, case_12, case_13, case_14, case_15, case_16, case_17, case_18, case_19, case_20, case_21, case_22, case_23, case_24, case_25, case_26, case_27, case_28, case_29, case_30, case_31, case_32, case_33, case_34, case_35⟩
theorem Inv_mo (n : Nat) (h : jM) : Inv n h → Inv (n + 1) h := by
  rintro ⟨q, w, a, g, x, ag, ha⟩
  exact ⟨q, w, a, g, x, ag, by omega⟩
theorem Inv_o (n : Nat) (h : jM) (v : Int64) : Inv n h → Inv n (jsL h 119 0 v) := by
  rintro ⟨q, w, a, g, x, ag, ha⟩
  exact ⟨q, w, a, g, x.k (sm_l (imp_s (by decide))) sq.rf, ag, ha⟩
theorem Inv_x (n : Nat) (h : jM) : Inv n h → Inv n (jXp h) := by
  rintro ⟨q, w, a, g, x, ag, ha⟩
  exact ⟨q, w, a, g, x, ag, ha⟩
theorem jPure_ok : jPure := by
  intro L xs hL
  have G := law_go all_cases Inv_mo Inv_o Inv_x (L := L) (xs := xs) hL 65 0 (den dE L xs) .null .null (by omega) (by omega) st_I rfl rfl rfl (Nat.le_refl _)
  have G2 : jGo 900 282 (jAt 282 0) (jEnt (jMth 282).2.1 [.ref 1002]) [] (jH0 L xs) (fun r h' => r = some (.int 1) ∧ jN h' ≤ 120 ∧ jEx h' ≤ 64) := by
    rw [st_go]
    exact G
  obtain ⟨n, r, h', e, k1, k2, k3⟩ := G2
  rw [k1] at e
  exact ⟨n, h', e, k2, k3⟩
