/-! hands: the game on sets of pairs -/
def hN1 (T U : kT) (H : (Nat → Nat) → Bool) (p : Nat → Nat) (t w o : Nat) : Bool := !(decide (o < fk T U (1 - t)) && fr p (1 - t) o) || H (uN1 p (o1 t w o) (o2 t w o + 1))
def hNo (T U : kT) (H : (Nat → Nat) → Bool) (p : Nat → Nat) (t w : Nat) : Bool := alB (hN1 T U H p t w) 4 0
def hLo1 (T U : kT) (H : (Nat → Nat) → Bool) (p : Nat → Nat) (k : Nat) : Bool := (decide (k % 4 < fk T U (k / 4)) && fr p (k / 4) (k % 4)) && hNo T U H p (k / 4) (k % 4)
def hLo (T U : kT) (H : (Nat → Nat) → Bool) (p : Nat → Nat) : Bool := exB (hLo1 T U H p) 8 0
def hFl1 (T U : kT) (H : (Nat → Nat) → Bool) (p : Nat → Nat) (i : Nat) : Bool := !decide (p i = 0) && (H (uN1 p i 0) || hLo T U H (uN1 p i 0))
def hFl (T U : kT) (H : (Nat → Nat) → Bool) (p : Nat → Nat) : Bool := exB (hFl1 T U H p) 4 0
def gth (T U : kT) (M : Nat) (p : Nat → Nat) : Bool := pos T U p && decide (pMn p ≤ M)
def hF (T U : kT) (M : Nat) : Nat → (Nat → Nat) → Bool
  | 0 => fun p => !gth T U M p
  | n + 1 => fun p => hF T U M n p || (if pMn p < M then hLo T U (hF T U M n) p else hFl T U (hF T U M n) p)
theorem hLo_iff {H : (Nat → Nat) → Bool} {T : kT} {U : kT} {p : Nat → Nat} (oT : tOk T) (oU : tOk U) : hLo T U H p = true ↔ ∃ t w, t < 2 ∧ w < fk T U t ∧ fr p t w = true ∧ ∀ o, o < fk T U (1 - t) → fr p (1 - t) o = true → H (uN1 p (o1 t w o) (o2 t w o + 1)) = true := by
  unfold hLo
  rw [exB_iff]
  constructor
  · rintro ⟨k, -, k2, k3⟩
    simp only [hLo1, Bool.and_eq_true, decide_eq_true_eq] at k3
    obtain ⟨⟨a, b⟩, c⟩ := k3
    refine ⟨k / 4, k % 4, by omega, a, b, fun o ho hf => ?_⟩
    have f4 := fk_4' (t := 1 - k / 4) oT oU
    unfold hNo at c
    have z := alB_iff.mp c o (Nat.zero_le _) (by omega)
    simpa [hN1, ho, hf] using z
  · rintro ⟨t, w, ht, hw, hf, h⟩
    have f4 := fk_4' (t := t) oT oU
    have e1 : (4 * t + w) / 4 = t := by omega
    have e2 : (4 * t + w) % 4 = w := by omega
    refine ⟨4 * t + w, Nat.zero_le _, by omega, ?_⟩
    simp only [hLo1, e1, e2, hf, decide_eq_true hw, Bool.and_true, Bool.true_and]
    unfold hNo
    refine alB_iff.mpr (fun o _ _ => ?_)
    by_cases c : o < fk T U (1 - t)
    · cases d : fr p (1 - t) o with
      | false => simp [hN1, d]
      | true => simp [hN1, h o c d]
    · simp [hN1, c]
theorem hLo_mo {H H2 : (Nat → Nat) → Bool} {T : kT} {U : kT} {p : Nat → Nat} (oT : tOk T) (oU : tOk U) (hh : ∀ x, H x = true → H2 x = true) (h : hLo T U H p = true) : hLo T U H2 p = true := by
  rw [hLo_iff oT oU] at h ⊢
  obtain ⟨t, w, a, b, c, d⟩ := h
  exact ⟨t, w, a, b, c, fun o h1 h2 => hh _ (d o h1 h2)⟩
theorem hF_s {T : kT} {U : kT} {p : Nat → Nat} {M n : Nat} (h : hF T U M n p = true) : hF T U M (n + 1) p = true := by
  show (hF T U M n p || _) = true
  rw [h]; rfl
theorem hF_le {T : kT} {U : kT} {p : Nat → Nat} {M n : Nat} : ∀ {k : Nat}, hF T U M n p = true → hF T U M (n + k) p = true
  | 0, h => h
  | k + 1, h => hF_s (hF_le (k := k) h)
theorem hF_0 {T : kT} {U : kT} {p : Nat → Nat} {M n : Nat} (h : gth T U M p = false) : hF T U M n p = true := by
  have : hF T U M 0 p = true := by show (!gth T U M p) = true; rw [h]; rfl
  have e := hF_le (k := n) this
  rw [Nat.zero_add] at e; exact e
/-- loose, alike: found out by a pointing -/
theorem hF_lo {T : kT} {U : kT} {p : Nat → Nat} {M : Nat} (oT : tOk T) (oU : tOk U) (g : gth T U M p = true) (hl : pMn p < M) : ∀ n, hF T U M n p = true → hLo T U (hF T U M n) p = true := by
  intro n
  induction n with
  | zero => intro h; have z : (!gth T U M p) = true := h
            rw [g] at z; cases z
  | succ n ih =>
    intro h
    have h2 : (hF T U M n p || (if pMn p < M then hLo T U (hF T U M n) p else hFl T U (hF T U M n) p)) = true := h
    rw [if_pos hl, Bool.or_eq_true] at h2
    rcases h2 with h2 | h2
    · exact hLo_mo oT oU (fun x => hF_s) (ih h2)
    · exact hLo_mo oT oU (fun x => hF_s) h2
theorem uN1_c {p : Nat → Nat} {a b x y : Nat} (h : a ≠ b) : uN1 (uN1 p a x) b y = uN1 (uN1 p b y) a x := by
  funext i
  unfold uN1
  by_cases c1 : i = b
  · by_cases c2 : i = a
    · omega
    · simp [c1, c2]; omega
  · by_cases c2 : i = a <;> simp [c1, c2, h]
theorem fr_u0 {p : Nat → Nat} {a : Nat} {x w : Nat} (h : fr (uN1 p a (x + 1)) 0 w = true) : w ≠ a ∧ fr p 0 w = true := by
  have z := fr_0 h
  by_cases c : w = a
  · subst c; rw [uN1_s] at z; omega
  · rw [uN1_n c] at z; exact ⟨c, by simp [fr, z]⟩
theorem fr_u1 {p : Nat → Nat} {a : Nat} {x w : Nat} (ha : a < 4) (h0 : p a = 0) : fr (uN1 p a (x + 1)) 1 w = true ↔ w ≠ x ∧ fr p 1 w = true := by
  have k := pLk_u (o := x) (w := w) ha h0
  constructor
  · intro h
    have z := k.mp (fr_1 h)
    exact ⟨z.2, by simp [fr, z.1]⟩
  · rintro ⟨h1, h2⟩
    have z := k.mpr ⟨fr_1 h2, h1⟩
    simp [fr, z]
theorem fr_u0' {p : Nat → Nat} {a : Nat} {x w : Nat} (h1 : w ≠ a) (h2 : fr p 0 w = true) : fr (uN1 p a (x + 1)) 0 w = true := by
  have z := fr_0 h2
  simp [fr, uN1_n h1, z]
/-- more pairs are found out no later -/
theorem hF_up {T : kT} {U : kT} {M : Nat} (oT : tOk T) (oU : tOk U) : ∀ (n : Nat) (p : Nat → Nat) (a b : Nat), pv T U p → a < tF T → b < tF U → p a = 0 → pLk p b = 0 → pMn p < M → hF T U M n p = true → hF T U M n (uN1 p a (b + 1)) = true := by
  intro n
  induction n with
  | zero =>
    intro p a b hv ha hb h0 h1 hm h
    have a4 := Nat.lt_of_lt_of_le ha oT.f
    have b4 := Nat.lt_of_lt_of_le hb oU.f
    have h2 : (!gth T U M p) = true := h
    show (!gth T U M (uN1 p a (b + 1))) = true
    have e : pos T U p = false := by
      cases c : pos T U p with
      | false => rfl
      | true => simp [gth, c] at h2; omega
    have e2 := pos_u oT oU hv a4 b4 h0
    rw [e, Bool.false_and] at e2
    simp [gth, e2]
  | succ n ih =>
    intro p a b hv ha hb h0 h1 hm h
    have a4 := Nat.lt_of_lt_of_le ha oT.f
    have b4 := Nat.lt_of_lt_of_le hb oU.f
    have mm := pMn_u (o := b) a4 h0
    have h2 : (hF T U M n p || (if pMn p < M then hLo T U (hF T U M n) p else hFl T U (hF T U M n) p)) = true := h
    rw [if_pos hm, Bool.or_eq_true] at h2
    rcases h2 with h2 | h2
    · exact hF_s (ih p a b hv ha hb h0 h1 hm h2)
    · by_cases full : pMn (uN1 p a (b + 1)) < M
      · rw [hLo_iff oT oU] at h2
        obtain ⟨t, w, ht, hw, hf, hall⟩ := h2
        have w4 : w < 4 := Nat.lt_of_lt_of_le hw (fk_4' oT oU)
        cases c : fr (uN1 p a (b + 1)) t w with
        | true =>
          have key : hLo T U (hF T U M n) (uN1 p a (b + 1)) = true := by
            rw [hLo_iff oT oU]
            refine ⟨t, w, ht, hw, c, fun o ho hfo => ?_⟩
            have o4 : o < 4 := Nat.lt_of_lt_of_le ho (fk_4' oT oU)
            rcases (show t = 0 ∨ t = 1 by omega) with rfl | rfl
            · have q1 := fr_u0 c
              have q2 := (fr_u1 (x := b) (w := o) a4 h0).mp hfo
              have z := hall o ho q2.2
              have hw' : w < tF T := hw
              have ho' : o < tF U := ho
              show hF T U M n (uN1 (uN1 p a (b + 1)) w (o + 1)) = true
              rw [uN1_c (fun e => q1.1 e.symm)]
              refine ih (uN1 p w (o + 1)) a b (pv_u hv hw' ho' (fr_1 q2.2)) ha hb (by rw [uN1_n (fun e => q1.1 e.symm)]; exact h0) ((pLk_u w4 (fr_0 hf)).mpr ⟨h1, fun e => q2.1 e.symm⟩) ?_ z
              rw [pMn_u w4 (fr_0 hf)]; omega
            · have q1 := (fr_u1 (x := b) (w := w) a4 h0).mp c
              have q2 := fr_u0 hfo
              have z := hall o ho q2.2
              have hw' : w < tF U := hw
              have ho' : o < tF T := ho
              show hF T U M n (uN1 (uN1 p a (b + 1)) o (w + 1)) = true
              rw [uN1_c (fun e => q2.1 e.symm)]
              refine ih (uN1 p o (w + 1)) a b (pv_u hv ho' hw' (fr_1 hf)) ha hb (by rw [uN1_n (fun e => q2.1 e.symm)]; exact h0) ((pLk_u o4 (fr_0 q2.2)).mpr ⟨h1, fun e => q1.1 e.symm⟩) ?_ z
              rw [pMn_u o4 (fr_0 q2.2)]; omega
          show (hF T U M n (uN1 p a (b + 1)) || (if pMn (uN1 p a (b + 1)) < M then hLo T U (hF T U M n) (uN1 p a (b + 1)) else hFl T U (hF T U M n) (uN1 p a (b + 1)))) = true
          rw [if_pos full, key, Bool.or_true]
        | false =>
          have key : hF T U M n (uN1 p a (b + 1)) = true := by
            rcases (show t = 0 ∨ t = 1 by omega) with rfl | rfl
            · have e : w = a := by
                by_cases e : w = a
                · exact e
                · rw [fr_u0' e hf] at c; cases c
              subst e
              exact hall b hb (by simp [fr, h1])
            · have e : w = b := by
                by_cases e : w = b
                · exact e
                · rw [(fr_u1 (x := b) (w := w) a4 h0).mpr ⟨e, hf⟩] at c; cases c
              subst e
              exact hall a ha (by simp [fr, h0])
          exact hF_s key
      · have key : hFl T U (hF T U M n) (uN1 p a (b + 1)) = true := by
          unfold hFl
          rw [exB_iff]
          refine ⟨a, Nat.zero_le _, by omega, ?_⟩
          unfold hFl1
          rw [uN1_s, uN1_back h0, h2]
          simp
        show (hF T U M n (uN1 p a (b + 1)) || (if pMn (uN1 p a (b + 1)) < M then hLo T U (hF T U M n) (uN1 p a (b + 1)) else hFl T U (hF T U M n) (uN1 p a (b + 1)))) = true
        rw [if_neg full, key, Bool.or_true]
/-- alike, told by pairs -/
theorem pos_pr {T : kT} {U : kT} {p : Nat → Nat} (oT : tOk T) (oU : tOk U) (hv : pv T U p) : pos T U p = true ↔ (∀ a b, a < 4 → p a = b + 1 → mAl T U a b = true) ∧ ∀ a b c d, a < 4 → c < 4 → a ≠ c → p a = b + 1 → p c = d + 1 → mAr T U a c b d = true := by
  have u4 := oU.f
  rw [pos_iff]
  constructor
  · rintro ⟨h1, h2⟩
    refine ⟨fun a b ha e => ?_, fun a b c d ha hc hne ea ec => ?_⟩
    · have z := h1 a ha
      simpa [psA, e] using z
    · have b4 : b < 4 := by have := hv.1 a ha; omega
      have d4 : d < 4 := by have := hv.1 c hc; omega
      by_cases lt : c < a
      · have z := h2 a c ha lt
        simpa [psB, ea, ec] using z
      · have z := h2 c a hc (by omega)
        rw [mAr_sy oT oU ha hc b4 d4]
        simpa [psB, ea, ec] using z
  · rintro ⟨h1, h2⟩
    refine ⟨fun f hf => ?_, fun f k hf hk => ?_⟩
    · unfold psA
      cases e : p f with
      | zero => simp
      | succ b => simp [h1 f b hf e]
    · unfold psB
      cases e : p f with
      | zero => simp
      | succ b =>
        cases e2 : p k with
        | zero => simp
        | succ d => simp [h2 f b k d hf (by omega) (by omega) e e2]
/-! counting -/
theorem ct_le_of {N : Nat} : ∀ (M : Nat) (S : Nat → Bool) (g : Nat → Nat), (∀ a, a < N → S a = true → g a < M) → (∀ a b, a < N → b < N → S a = true → S b = true → g a = g b → a = b) → ct S N 0 ≤ M := by
  intro M
  induction M with
  | zero =>
    intro S g h1 _
    rw [ct_0 N 0 (fun i _ hi => by
      cases c : S i with
      | false => rfl
      | true => have := h1 i (by omega) c; omega)]
    exact Nat.le_refl _
  | succ M ih =>
    intro S g h1 h2
    by_cases c : ∃ a, a < N ∧ S a = true ∧ g a = M
    · obtain ⟨a, a1, a2, a3⟩ := c
      have e := ct_rm (f := S) (f2 := fun i => S i && !decide (i = a)) a2 (fun _ => rfl) N 0 (Nat.zero_le _) (by omega)
      have le := ih (fun i => S i && !decide (i = a)) g (fun i hi hs => by
        simp only [Bool.and_eq_true, Bool.not_eq_true', decide_eq_false_iff_not] at hs
        have l := h1 i hi hs.1
        have ne : g i ≠ M := fun e => hs.2 (h2 i a hi a1 hs.1 a2 (by omega))
        omega) (fun i j hi hj si sj => by
        simp only [Bool.and_eq_true] at si sj
        exact h2 i j hi hj si.1 sj.1)
      omega
    · have le := ih S g (fun i hi hs => by
        have l := h1 i hi hs
        have ne : g i ≠ M := fun e => c ⟨i, hi, hs, e⟩
        omega) h2
      omega
theorem ct_ge_of {N : Nat} : ∀ (M : Nat) (S : Nat → Bool) (g : Nat → Nat), (∀ i, i < M → g i < N ∧ S (g i) = true) → (∀ i j, i < M → j < M → g i = g j → i = j) → M ≤ ct S N 0 := by
  intro M
  induction M with
  | zero => intro S g _ _; exact Nat.zero_le _
  | succ M ih =>
    intro S g h1 h2
    obtain ⟨a, b⟩ := h1 M (by omega)
    have e := ct_rm (f := S) (f2 := fun i => S i && !decide (i = g M)) b (fun _ => rfl) N 0 (Nat.zero_le _) (by omega)
    have le := ih (fun i => S i && !decide (i = g M)) g (fun i hi => by
      obtain ⟨x, y⟩ := h1 i (by omega)
      refine ⟨x, ?_⟩
      have ne : g i ≠ g M := fun e => by have := h2 i M (by omega) (by omega) e; omega
      simp [y, ne]) (fun i j hi hj e => h2 i j (by omega) (by omega) e)
    omega
theorem pMn_ct {p : Nat → Nat} : pMn p = ct (fun a => !decide (p a = 0)) 4 0 := by
  show _ = (if !decide (p 0 = 0) then 1 else 0) + ((if !decide (p 1 = 0) then 1 else 0) + ((if !decide (p 2 = 0) then 1 else 0) + ((if !decide (p 3 = 0) then 1 else 0) + 0)))
  unfold pMn
  by_cases c0 : p 0 = 0 <;> by_cases c1 : p 1 = 0 <;> by_cases c2 : p 2 = 0 <;> by_cases c3 : p 3 = 0 <;> simp [c0, c1, c2, c3]
