/-! mend: the changes, in both orders; towns of unlike many -/
theorem ct_rm {f f2 : Nat → Bool} {o : Nat} (ho : f o = true) (he : ∀ i, f2 i = (f i && !decide (i = o))) : ∀ (m k : Nat), k ≤ o → o < k + m → ct f2 m k + 1 = ct f m k
  | 0, k, h1, h2 => by omega
  | m + 1, k, h1, h2 => by
    rw [ct, ct]
    by_cases c : k = o
    · subst c
      have e : ct f2 m (k + 1) = ct f m (k + 1) := ct_cg m (k + 1) (fun i a b => by
        rw [he i]
        have z : ¬ i = k := by omega
        simp [z])
      rw [e, ho, he k]; simp; omega
    · have := ct_rm ho he m (k + 1) (by omega) (by omega)
      rw [he k]
      simp only [c, decide_false, Bool.not_false, Bool.and_true]
      omega
theorem lI_u0 {T : kT} {U : kT} {p : Nat → Nat} {f : Nat} {o : Nat} (h0 : p f = 0) (hf : f < tF T) : lI T U (uN1 p f (o + 1)) 0 + 1 = lI T U p 0 := by
  rw [lI_ct, lI_ct]
  refine ct_rm (o := f) (by simp [fr, h0]) (fun i => ?_) _ 0 (Nat.zero_le _) (by rw [Nat.zero_add]; exact hf)
  simp only [fr, if_true]
  by_cases c : i = f
  · subst c; rw [uN1_s]; simp
  · rw [uN1_n c]; simp [c]
theorem lI_u1 {T : kT} {U : kT} {p : Nat → Nat} {f : Nat} {o : Nat} (hf : f < 4) (h0 : p f = 0) (h1 : pLk p o = 0) (ho : o < tF U) : lI T U (uN1 p f (o + 1)) 1 + 1 = lI T U p 1 := by
  rw [lI_ct, lI_ct]
  refine ct_rm (o := o) (by simp [fr, h1]) (fun i => ?_) _ 0 (Nat.zero_le _) (by rw [Nat.zero_add]; exact ho)
  have k := pLk_u (o := o) (w := i) hf h0
  simp only [fr, Nat.one_ne_zero, if_false]
  by_cases c : i = o
  · subst c
    have : ¬ pLk (uN1 p f (i + 1)) i = 0 := fun z => (k.mp z).2 rfl
    simp [this]
  · have e : (pLk (uN1 p f (o + 1)) i = 0) = (pLk p i = 0) := propext ⟨fun z => (k.mp z).1, fun z => k.mpr ⟨z, c⟩⟩
    simp [e, c]
theorem lI_pos {T : kT} {U : kT} {p : Nat → Nat} {t : Nat} (h : 0 < lI T U p t) : ∃ w, w < fk T U t ∧ fr p t w = true := by
  rw [lI_ct] at h
  obtain ⟨i, -, b, c, -⟩ := nf_ok _ _ _ h
  exact ⟨i, by omega, c⟩
theorem hSd_3 {T : kT} {U : kT} {p : Nat → Nat} {t : Nat} {w : Nat} {H : (Nat → Nat) → Bool} (ht : t < 2) (h : hSd T U 3 H p t = true) (hw : w < fk T U t) (hf : fr p t w = true) : hAn T U H p t w = true := by
  have e : (3 : Nat).testBit t = true := by rcases (show t = 0 ∨ t = 1 by omega) with rfl | rfl <;> rfl
  simp only [hSd, e, Bool.not_true, Bool.false_or] at h
  have z := alB_iff.mp h w (Nat.zero_le _) (by omega)
  simpa [hS1, hf] using z
/-- towns of unlike many: when the lesser one runs out it is found out -/
theorem hold_ro {T : kT} {U : kT} (oT : tOk T) (oU : tOk U) : ∀ (r : Nat) (p : Nat → Nat), pv T U p → lI T U p 0 ≠ lI T U p 1 → min (lI T U p 0) (lI T U p 1) < r → hold T U 3 r p = false := by
  intro r
  induction r with
  | zero => intro p _ _ h; omega
  | succ r ih =>
    intro p hv hne hm
    cases e : hold T U 3 (r + 1) p with
    | false => rfl
    | true =>
      exfalso
      have h2 : (hSd T U 3 (hold T U 3 r) p 0 && hSd T U 3 (hold T U 3 r) p 1) = true := e
      rw [Bool.and_eq_true] at h2
      by_cases c0 : lI T U p 0 = 0
      · obtain ⟨w, w1, w2⟩ := lI_pos (T := T) (U := U) (p := p) (t := 1) (by omega)
        have z := hSd_3 (by omega) h2.2 w1 w2
        unfold hAn at z
        obtain ⟨k, -, k2, k3⟩ := exB_iff.mp z
        rw [hA1_1] at k3
        simp only [Bool.and_eq_true] at k3
        have := lI_0 c0 k (by simpa [fk] using k2)
        rw [this] at k3; exact absurd k3.1 (by decide)
      · obtain ⟨w, w1, w2⟩ := lI_pos (T := T) (U := U) (p := p) (t := 0) (by omega)
        have z := hSd_3 (by omega) h2.1 w1 w2
        unfold hAn at z
        obtain ⟨k, -, k2, k3⟩ := exB_iff.mp z
        rw [hA1_0] at k3
        simp only [Bool.and_eq_true] at k3
        have k2' : k < tF U := by simpa [fk] using k2
        have w1' : w < tF T := by simpa [fk] using w1
        have f1 := fr_0 w2
        have f2 := fr_1 k3.1
        have u0 := lI_u0 (T := T) (U := U) (o := k) f1 w1'
        have u1 := lI_u1 (T := T) (U := U) (f := w) (Nat.lt_of_lt_of_le w1' oT.f) f1 f2 k2'
        have := ih _ (pv_u hv w1' k2' f2) (by omega) (by omega)
        rw [this] at k3; exact absurd k3.2.2 (by decide)
/-! the changes by the class's numbers, by the reference's -/
def okc (k : Nat) : Bool := decide (k < 8) || (if 24 ≤ k then decide (¬ (k - 8) / 4 % 4 = (k - 8) % 4) else decide ((k - 8) / 4 % 4 < (k - 8) % 4))
def i26 (k : Nat) : Nat := if k < 8 then 0 else if k < 14 then k - 8 else k - 14
def f26 (k : Nat) : Nat := if k < 8 then k % 4 else if k < 14 then (if k - 8 < 3 then 0 else if k - 8 < 5 then 1 else 2) else (k - 14) / 3
def g26 (k : Nat) : Nat := if k < 8 then k % 4 else if k < 14 then (if k - 8 < 3 then k - 8 + 1 else if k - 8 < 5 then k - 8 - 1 else 3) else (k - 14) % 3 + (if (k - 14) % 3 < (k - 14) / 3 then 0 else 1)
def c26 (k : Nat) : Nat := if k < 8 then k else lkN (if k < 14 then 0 else 1) (f26 k) (g26 k)
theorem c26_40 : ∀ k, k < 26 → c26 k < 40 ∧ f26 k < 4 ∧ g26 k < 4 ∧ (8 ≤ k → f26 k ≠ g26 k) ∧ okc (c26 k) = true := by decide +kernel
theorem c26_mo : ∀ i, i < 26 → ∀ j, j < 26 → (c26 i < c26 j ↔ i < j) := by decide +kernel
theorem c26_on : ∀ k, k < 40 → okc k = true → ∃ i, i < 26 ∧ c26 i = k := by decide +kernel
theorem c26_may {T : kT} {k : Nat} (hk : k < 26) : tMay T (c26 k) = (decide (f26 k < tF T) && decide (g26 k < tF T)) := by
  have key : ∀ k, k < 26 → (k < 8 → c26 k < 8 ∧ c26 k % 4 = f26 k ∧ f26 k = g26 k) ∧ (¬ k < 8 → ¬ c26 k < 8 ∧ (c26 k - 8) / 4 % 4 = f26 k ∧ (c26 k - 8) % 4 = g26 k ∧ (24 ≤ c26 k → ¬ f26 k = g26 k) ∧ (¬ 24 ≤ c26 k → f26 k < g26 k)) := by decide +kernel
  obtain ⟨k1, k2⟩ := key k hk
  unfold tMay
  by_cases c : k < 8
  · obtain ⟨a1, a2, a3⟩ := k1 c
    rw [if_pos a1, a2, ← a3, Bool.and_self]
  · obtain ⟨a1, a2, a3, a4, a5⟩ := k2 c
    rw [if_neg a1, a2, a3]
    by_cases d : 24 ≤ c26 k
    · rw [if_pos d, decide_eq_true (a4 d), Bool.and_true]
    · rw [if_neg d, decide_eq_true (a5 d), Bool.and_true]
theorem tMay_o {T : kT} {k : Nat} (h : tMay T k = true) : okc k = true := by
  unfold tMay at h
  unfold okc
  by_cases c : k < 8
  · simp [c]
  · rw [if_neg c, Bool.and_eq_true] at h
    simp only [c, decide_false, Bool.false_or]
    exact h.2
theorem tMay_k {T : kT} {k : Nat} (hk : k < 40) (h : tMay T k = true) : kMay T k := by
  unfold tMay at h
  by_cases c : k < 8
  · rw [if_pos c, decide_eq_true_eq] at h
    exact ⟨hk, fun _ => h, fun z => by omega⟩
  · rw [if_neg c] at h
    simp only [Bool.and_eq_true, decide_eq_true_eq] at h
    refine ⟨hk, fun z => absurd z c, fun _ => ⟨h.1.1, h.1.2, ?_⟩⟩
    have h2 := h.2
    by_cases d : 24 ≤ k
    · rw [if_pos d, decide_eq_true_eq] at h2; exact h2
    · rw [if_neg d, decide_eq_true_eq] at h2; omega
def mdC (U : kT) (r : Nat) : Nat → Nat → kT → Bool
  | 0, _, T => hold T U 3 r p0
  | n + 1, k, T => exB (fun i => tMay T i && mdC U r n (i + 1) (tCh T i)) (40 - k) k
def mdR (U : kT) (r : Nat) : Nat → Nat → kT → Bool
  | 0, _, T => hold T U 3 r p0
  | n + 1, k, T => exB (fun i => tMay T (c26 i) && mdR U r n (i + 1) (tCh T (c26 i))) (26 - k) k
theorem md_eq {U : kT} {r : Nat} : ∀ (n a b : Nat) (T : kT), a ≤ 40 → b ≤ 26 → (∀ i, i < 26 → (a ≤ c26 i ↔ b ≤ i)) → mdC U r n a T = mdR U r n b T := by
  intro n
  induction n with
  | zero => intro a b T _ _ _; rfl
  | succ n ih =>
    intro a b T ha hb hr
    have st : ∀ i, i < 26 → mdC U r n (c26 i + 1) (tCh T (c26 i)) = mdR U r n (i + 1) (tCh T (c26 i)) := fun i hi => ih _ _ _ (by have := (c26_40 i hi).1; omega) (by omega) (fun j hj => by
      have := c26_mo i hi j hj; omega)
    rw [mdC, mdR, Bool.eq_iff_iff, exB_iff, exB_iff]
    constructor
    · rintro ⟨i, i1, i2, i3⟩
      rw [Bool.and_eq_true] at i3
      obtain ⟨j, j1, rfl⟩ := c26_on i (by omega) (tMay_o i3.1)
      refine ⟨j, (hr j j1).mp i1, by omega, ?_⟩
      rw [← st j j1, Bool.and_eq_true]; exact i3
    · rintro ⟨j, j1, j2, j3⟩
      have j26 : j < 26 := by omega
      have := (c26_40 j j26).1
      refine ⟨c26 j, (hr j j26).mpr j1, by omega, ?_⟩
      rw [st j j26]; exact j3
theorem md_00 {U : kT} {r : Nat} {T : kT} {n : Nat} : mdC U r n 0 T = mdR U r n 0 T := md_eq n 0 0 T (by omega) (by omega) (fun i _ => by omega)
theorem lI_p0 {T : kT} {U : kT} {t : Nat} (oT : tOk T) (oU : tOk U) (ht : t < 2) : lI T U p0 t = fk T U t := by
  have e := fM_eq oT oU (pv_0 (T := T) (U := U)) ht
  have z : pc4 (if t = 0 then pD p0 else pR p0) = 0 := by split <;> decide
  omega
/-- not by any changes -/
theorem md_ro {U : kT} {r : Nat} (oU : tOk U) : ∀ (n k : Nat) (T : kT), tOk T → tF T ≠ tF U → min (tF T) (tF U) < r → k ≤ 40 → mdC U r n k T = false := by
  intro n
  induction n with
  | zero =>
    intro k T oT hne hm hk
    have e0 := lI_p0 (t := 0) oT oU (by omega)
    have e1 := lI_p0 (t := 1) oT oU (by omega)
    have f0 : fk T U 0 = tF T := rfl
    have f1 : fk T U 1 = tF U := rfl
    exact hold_ro oT oU r p0 pv_0 (by omega) (by omega)
  | succ n ih =>
    intro k T oT hne hm hk
    cases e : mdC U r (n + 1) k T with
    | false => rfl
    | true =>
      exfalso
      rw [mdC, exB_iff] at e
      obtain ⟨i, i1, i2, i3⟩ := e
      rw [Bool.and_eq_true] at i3
      have km := tMay_k (by omega) i3.1
      have := ih (i + 1) (tCh T i) (tOk_ch oT km) (by rw [tCh_F]; exact hne) (by rw [tCh_F]; exact hm) (by omega)
      rw [this] at i3; exact absurd i3.2 (by decide)
theorem okc_26 {j k : Nat} (h : k + j = 40) : ct okc j k ≤ 26 := by
  have e := ct_add (f := okc) k j 0
  rw [h, Nat.zero_add] at e
  have : ct okc 40 0 = 26 := by decide +kernel
  omega
