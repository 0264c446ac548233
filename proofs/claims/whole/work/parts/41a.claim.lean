/-! claims: a part stands well -/
def cX (c : kC) (d i m : Nat) : Prop := (cV c i < 2 ∧ m.testBit (cA c i) = true ∧ cE c i = i + 1) ∨ ((2 ≤ cV c i ∧ cV c i < 5) ∧ m.testBit (cA c i) = true ∧ m.testBit (cB c i) = true ∧ cE c i = i + 1) ∨ (cV c i = 5 ∧ cW c d (i + 1) m = true ∧ cE c i = cE c (i + 1)) ∨ ((6 ≤ cV c i ∧ cV c i < 8) ∧ cW c d (i + 1) m = true ∧ cW c d (cE c (i + 1)) m = true ∧ cE c i = cE c (cE c (i + 1))) ∨ (8 ≤ cV c i ∧ cW c d (i + 1) (m ||| 1 <<< cA c i) = true ∧ cE c i = cE c (i + 1))
theorem cW_at {c : kC} {d i m : Nat} (h : cW c (d + 1) i m = true) : (i < cN c ∧ i < cE c i ∧ cE c i ≤ cN c) ∧ cX c d i m := by
  rw [cW, Bool.and_eq_true] at h
  obtain ⟨h1, h2⟩ := h
  simp only [Bool.and_eq_true, decide_eq_true_eq] at h1
  refine ⟨⟨h1.1, h1.2.1, h1.2.2⟩, ?_⟩
  by_cases c1 : cV c i < 2
  · rw [if_pos c1] at h2
    simp only [Bool.and_eq_true, decide_eq_true_eq] at h2
    exact Or.inl ⟨c1, h2.1, h2.2⟩
  · rw [if_neg c1] at h2
    by_cases c2 : cV c i < 5
    · rw [if_pos c2] at h2
      simp only [Bool.and_eq_true, decide_eq_true_eq] at h2
      exact Or.inr (Or.inl ⟨⟨by omega, c2⟩, h2.1, h2.2.1, h2.2.2⟩)
    · rw [if_neg c2] at h2
      by_cases c3 : cV c i = 5
      · rw [if_pos c3] at h2
        simp only [Bool.and_eq_true, decide_eq_true_eq] at h2
        exact Or.inr (Or.inr (Or.inl ⟨c3, h2.1, h2.2⟩))
      · rw [if_neg c3] at h2
        by_cases c4 : cV c i < 8
        · rw [if_pos c4] at h2
          simp only [Bool.and_eq_true, decide_eq_true_eq] at h2
          exact Or.inr (Or.inr (Or.inr (Or.inl ⟨⟨by omega, c4⟩, h2.1, h2.2.1, h2.2.2⟩)))
        · rw [if_neg c4] at h2
          simp only [Bool.and_eq_true, decide_eq_true_eq] at h2
          exact Or.inr (Or.inr (Or.inr (Or.inr ⟨by omega, h2.1, h2.2⟩)))
theorem cW_0 {c : kC} {i m : Nat} (h : cW c 0 i m = true) : False := by rw [cW] at h; cases h
theorem cW_lt {c : kC} {i m : Nat} : ∀ {d : Nat}, cW c d i m = true → i < cN c ∧ i < cE c i ∧ cE c i ≤ cN c
  | 0, h => (cW_0 h).elim
  | _ + 1, h => (cW_at h).1
/-- every part behind it, up to its end, stands well -/
theorem cW_all {c : kC} : ∀ (d i m : Nat), cW c d i m = true → ∀ k, i ≤ k → k < cE c i → ∃ d' m', d' ≤ d ∧ cW c d' k m' = true := by
  intro d
  induction d with
  | zero => intro i m h; exact (cW_0 h).elim
  | succ d ih =>
    intro i m h k h1 h2
    by_cases e : k = i
    · subst e; exact ⟨d + 1, m, Nat.le_refl _, h⟩
    · obtain ⟨-, x⟩ := cW_at h
      rcases x with ⟨-, -, x⟩ | ⟨-, -, -, x⟩ | ⟨-, y, x⟩ | ⟨-, y, z, x⟩ | ⟨-, y, x⟩
      · omega
      · omega
      · obtain ⟨d', m', a, b⟩ := ih (i + 1) m y k (by omega) (by omega)
        exact ⟨d', m', by omega, b⟩
      · by_cases l : k < cE c (i + 1)
        · obtain ⟨d', m', a, b⟩ := ih (i + 1) m y k (by omega) l
          exact ⟨d', m', by omega, b⟩
        · obtain ⟨d', m', a, b⟩ := ih _ m z k (by omega) (by omega)
          exact ⟨d', m', by omega, b⟩
      · obtain ⟨d', m', a, b⟩ := ih (i + 1) _ y k (by omega) (by omega)
        exact ⟨d', m', by omega, b⟩
theorem cOK.all {c : kC} (ok : cOK c) {k : Nat} (hk : k < cN c) : ∃ d m, d ≤ 8 ∧ cW c d k m = true := cW_all 8 0 0 ok.1 k (Nat.zero_le _) (by rw [ok.2.1]; exact hk)
/-- truth, by what 'same' means -/
def evS (sm : Nat → Nat → Bool) (c : kC) (T : kT) : Nat → Nat → (Nat → Nat) → Bool
  | 0, _, _ => false
  | d + 1, i, m =>
    if cV c i = 0 then (tB T).testBit (m (cA c i))
    else if cV c i = 1 then (tW T).testBit (m (cA c i))
    else if cV c i = 2 then (tN T (m (cA c i))).testBit (m (cB c i))
    else if cV c i = 3 then (tO T (m (cA c i))).testBit (m (cB c i))
    else if cV c i = 4 then sm (m (cA c i)) (m (cB c i))
    else if cV c i = 5 then !evS sm c T d (i + 1) m
    else if cV c i = 6 then evS sm c T d (i + 1) m && evS sm c T d (cE c (i + 1)) m
    else if cV c i = 7 then evS sm c T d (i + 1) m || evS sm c T d (cE c (i + 1)) m
    else if cV c i = 8 then decide (0 < cnt (fun k => evS sm c T d (i + 1) (uN1 m (cA c i) k)) (tF T))
    else if cV c i = 9 then decide (cnt (fun k => evS sm c T d (i + 1) (uN1 m (cA c i) k)) (tF T) = tF T)
    else decide (1 < cnt (fun k => evS sm c T d (i + 1) (uN1 m (cA c i) k)) (tF T))
theorem ev_S {c : kC} {T : kT} : ∀ (d i : Nat) (m : Nat → Nat), ev c T d i m = evS (fun x y => decide (x = y)) c T d i m := by
  intro d
  induction d with
  | zero => intro i m; rfl
  | succ d ih =>
    intro i m
    rw [ev, evS]
    simp only [ih]
theorem cnt_cg {f f2 : Nat → Bool} : ∀ {n : Nat}, (∀ k, k < n → f k = f2 k) → cnt f n = cnt f2 n
  | 0, _ => rfl
  | n + 1, h => by rw [cnt, cnt, cnt_cg (n := n) (fun k hk => h k (by omega)), h n (by omega)]
theorem cnt_le {f : Nat → Bool} : ∀ {n : Nat}, cnt f n ≤ n
  | 0 => Nat.le_refl _
  | n + 1 => by have := cnt_le (f := f) (n := n); rw [cnt]; split <;> omega
/-- more room to go down changes nothing -/
theorem evS_fu {sm : Nat → Nat → Bool} {c : kC} {T : kT} : ∀ (d i m : Nat), cW c d i m = true → ∀ (n : Nat) (μ : Nat → Nat), d ≤ n → evS sm c T n i μ = evS sm c T d i μ := by
  intro d
  induction d with
  | zero => intro i m h; exact (cW_0 h).elim
  | succ d ih =>
    intro i m h n μ hn
    obtain ⟨n, rfl⟩ : ∃ k, n = k + 1 := ⟨n - 1, by omega⟩
    obtain ⟨-, x⟩ := cW_at h
    rw [evS, evS]
    rcases x with ⟨x, -⟩ | ⟨x, -⟩ | ⟨x, y, -⟩ | ⟨x, y, z, -⟩ | ⟨x, y, -⟩
    · rcases (show cV c i = 0 ∨ cV c i = 1 by omega) with e | e <;> simp [e]
    · rcases (show cV c i = 2 ∨ cV c i = 3 ∨ cV c i = 4 by omega) with e | e | e <;> simp [e]
    · simp [x, ih _ _ y n μ (by omega)]
    · rcases (show cV c i = 6 ∨ cV c i = 7 by omega) with e | e <;> simp [e, ih _ _ y n μ (by omega), ih _ _ z n μ (by omega)]
    · have e : ∀ k, evS sm c T n (i + 1) (uN1 μ (cA c i) k) = evS sm c T d (i + 1) (uN1 μ (cA c i) k) := fun k => ih _ _ y n _ (by omega)
      simp only [e]
      have h0 : ¬ cV c i = 0 := by omega
      have h1 : ¬ cV c i = 1 := by omega
      have h2 : ¬ cV c i = 2 := by omega
      have h3 : ¬ cV c i = 3 := by omega
      have h4 : ¬ cV c i = 4 := by omega
      have h5 : ¬ cV c i = 5 := by omega
      have h6 : ¬ cV c i = 6 := by omega
      have h7 : ¬ cV c i = 7 := by omega
      simp only [h0, h1, h2, h3, h4, h5, h6, h7, if_false]
/-- the names that are bound are somebody's: it is all one what 'same' says of the others -/
theorem evS_sc {sm sm2 : Nat → Nat → Bool} {c : kC} {T : kT} (hs : ∀ x y, x < tF T → y < tF T → sm x y = sm2 x y) : ∀ (d i m : Nat) (μ : Nat → Nat), cW c d i m = true → (∀ a, m.testBit a = true → μ a < tF T) → evS sm c T d i μ = evS sm2 c T d i μ := by
  intro d
  induction d with
  | zero => intro i m μ h; exact (cW_0 h).elim
  | succ d ih =>
    intro i m μ h hm
    obtain ⟨-, x⟩ := cW_at h
    rw [evS, evS]
    rcases x with ⟨x, -⟩ | ⟨x, a, b, -⟩ | ⟨x, y, -⟩ | ⟨x, y, z, -⟩ | ⟨x, y, -⟩
    · rcases (show cV c i = 0 ∨ cV c i = 1 by omega) with e | e <;> simp [e]
    · rcases (show cV c i = 2 ∨ cV c i = 3 ∨ cV c i = 4 by omega) with e | e | e
      · simp [e]
      · simp [e]
      · simp [e, hs _ _ (hm _ a) (hm _ b)]
    · simp [x, ih _ _ μ y hm]
    · rcases (show cV c i = 6 ∨ cV c i = 7 by omega) with e | e <;> simp [e, ih _ _ μ y hm, ih _ _ μ z hm]
    · have e : cnt (fun k => evS sm c T d (i + 1) (uN1 μ (cA c i) k)) (tF T) = cnt (fun k => evS sm2 c T d (i + 1) (uN1 μ (cA c i) k)) (tF T) := cnt_cg (fun k hk => ih _ _ _ y (fun a ha => by
        by_cases q : a = cA c i
        · subst q; rw [uN1_s]; exact hk
        · rw [uN1_n q]
          rw [Nat.testBit_or, tb_sh] at ha
          have : ¬ cA c i = a := fun z => q z.symm
          simp [this] at ha
          exact hm a ha))
      have h0 : ¬ cV c i = 0 := by omega
      have h1 : ¬ cV c i = 1 := by omega
      have h2 : ¬ cV c i = 2 := by omega
      have h3 : ¬ cV c i = 3 := by omega
      have h4 : ¬ cV c i = 4 := by omega
      have h5 : ¬ cV c i = 5 := by omega
      have h6 : ¬ cV c i = 6 := by omega
      have h7 : ¬ cV c i = 7 := by omega
      simp only [h0, h1, h2, h3, h4, h5, h6, h7, if_false, e]
def smF (T : kT) (x y : Nat) : Bool := decide (x = y) && decide (x < tF T)
def evc (c : kC) (T : kT) (i : Nat) (μ : Nat → Nat) : Bool := evS (smF T) c T 9 i μ
theorem cSo_c {c : kC} {T : kT} (ok : cOK c) : cSo c T = evc c T 0 p0 := by
  unfold cSo evc
  rw [ev_S, evS_fu 8 0 0 ok.1 9 p0 (by omega), evS_fu 8 0 0 ok.1 9 p0 (by omega)]
  exact evS_sc (fun x y hx hy => by simp [smF, hx]) 8 0 0 p0 ok.1 (fun a ha => by simp at ha)
theorem cSo_8 {c : kC} {T : kT} (ok : cOK c) : cSo c T = ev c T 8 0 p0 := by
  unfold cSo
  rw [ev_S, ev_S, evS_fu 8 0 0 ok.1 9 p0 (by omega)]
theorem cM_16 {c : kC} (h : ∀ i, i < cN c → cA c i < 4) : ∀ n, n ≤ cN c → jFo (cM1 c) n 0 < 16 := by
  intro n
  induction n with
  | zero => intro _; exact Nat.zero_lt_succ 15
  | succ n ih =>
    intro hn
    show cM1 c n _ < 16
    unfold cM1
    split
    · exact or16 (ih (by omega)) (sh16 (h n (by omega)))
    · exact ih (by omega)
theorem cD_le {c : kC} : ∀ (d i : Nat), cD c d i ≤ d := by
  intro d
  induction d with
  | zero => intro i; exact Nat.le_refl _
  | succ d ih =>
    intro i
    have a := ih (i + 1)
    have b := ih (cE c (i + 1))
    rw [cD]
    split
    · omega
    · split
      · omega
      · split <;> omega
