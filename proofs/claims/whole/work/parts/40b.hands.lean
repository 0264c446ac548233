/-! hands: the game on rows of hands -/
def hda (x : Nat) : Nat := (x - 1) / 4
def hdb (x : Nat) : Nat := (x - 1) % 4
def hL1 (T U : kT) (f : Nat → Nat) (i : Nat) : Bool := decide (f i = 0) || (decide (hda (f i) < tF T) && decide (hdb (f i) < tF U))
def hLy (T U : kT) (M : Nat) (f : Nat → Nat) : Bool := alB (hL1 T U f) M 0
def hO1 (T U : kT) (f : Nat → Nat) (i : Nat) : Bool := decide (f i = 0) || mAl T U (hda (f i)) (hdb (f i))
def hO2 (T U : kT) (f : Nat → Nat) (i k : Nat) : Bool := decide (f i = 0) || (decide (f k = 0) || ((decide (hda (f i) = hda (f k)) == decide (hdb (f i) = hdb (f k))) && mAr T U (hda (f i)) (hda (f k)) (hdb (f i)) (hdb (f k))))
def hAr (T U : kT) (M : Nat) (f : Nat → Nat) : Bool := alB (fun i => hO1 T U f i && alB (hO2 T U f i) i 0) M 0
def hOk (T U : kT) (M : Nat) (f : Nat → Nat) : Bool := hLy T U M f && hAr T U M f
def hx (t w o : Nat) : Nat := 1 + (4 * o1 t w o + o2 t w o)
def hR1 (T U : kT) (H : (Nat → Nat) → Bool) (f : Nat → Nat) (k : Nat) : Bool := decide (k % 4 < fk T U (k / 4 % 2)) && alB (fun o => H (uN1 f (k / 4 / 2) (hx (k / 4 % 2) (k % 4) o))) (fk T U (1 - k / 4 % 2)) 0
def hRs (T U : kT) (M : Nat) (H : (Nat → Nat) → Bool) (f : Nat → Nat) : Bool := exB (hR1 T U H f) (8 * M) 0
def hR (T U : kT) (M : Nat) : Nat → (Nat → Nat) → Bool
  | 0 => fun f => !hOk T U M f
  | n + 1 => fun f => hR T U M n f || hRs T U M (hR T U M n) f
theorem hRs_iff {H : (Nat → Nat) → Bool} {f : Nat → Nat} {T : kT} {U : kT} {M : Nat} (oT : tOk T) (oU : tOk U) : hRs T U M H f = true ↔ ∃ i t w, i < M ∧ t < 2 ∧ w < fk T U t ∧ ∀ o, o < fk T U (1 - t) → H (uN1 f i (hx t w o)) = true := by
  unfold hRs
  rw [exB_iff]
  constructor
  · rintro ⟨k, -, k2, k3⟩
    simp only [hR1, Bool.and_eq_true, decide_eq_true_eq] at k3
    exact ⟨k / 4 / 2, k / 4 % 2, k % 4, by omega, by omega, k3.1, fun o ho => alB_iff.mp k3.2 o (Nat.zero_le _) (by omega)⟩
  · rintro ⟨i, t, w, hi, ht, hw, h⟩
    have f4 := fk_4' (t := t) oT oU
    have e1 : (8 * i + 4 * t + w) / 4 % 2 = t := by omega
    have e2 : (8 * i + 4 * t + w) % 4 = w := by omega
    have e3 : (8 * i + 4 * t + w) / 4 / 2 = i := by omega
    refine ⟨8 * i + 4 * t + w, Nat.zero_le _, by omega, ?_⟩
    simp only [hR1, e1, e2, e3, decide_eq_true hw, Bool.true_and]
    exact alB_iff.mpr (fun o _ ho => h o (by omega))
theorem hR_s {f : Nat → Nat} {T : kT} {U : kT} {M n : Nat} (h : hR T U M n f = true) : hR T U M (n + 1) f = true := by
  show (hR T U M n f || _) = true
  rw [h]; rfl
theorem hR_0 {f : Nat → Nat} {T : kT} {U : kT} {M : Nat} (h : hOk T U M f = false) : ∀ n, hR T U M n f = true
  | 0 => by show (!hOk T U M f) = true; rw [h]; rfl
  | n + 1 => hR_s (hR_0 h n)
/-- the pairs that hands are on -/
def SE (M : Nat) (f p : Nat → Nat) : Prop := ∀ a b, a < 4 → b < 4 → (p a = b + 1 ↔ ∃ i, i < M ∧ f i = 1 + (4 * a + b))
theorem hd_e {x : Nat} (h : x ≠ 0) : x = 1 + (4 * hda x + hdb x) := by unfold hda hdb; omega
theorem hd_n {a b : Nat} (hb : b < 4) : hda (1 + (4 * a + b)) = a ∧ hdb (1 + (4 * a + b)) = b := by unfold hda hdb; omega
theorem hd_4 {x : Nat} (h : x ≤ 16) : hda x < 4 ∧ hdb x < 4 := by unfold hda hdb; omega
theorem mAr_d {T : kT} {U : kT} {a : Nat} {b : Nat} (oT : tOk T) (oU : tOk U) (ha : a < 4) (hb : b < 4) : mAr T U a a b b = true := by
  have h1 := oT.2.2.2.2.2.1 a ha
  have h2 := oU.2.2.2.2.2.1 b hb
  unfold mAr
  rw [h1.1, h1.2, h2.1, h2.2]; rfl
theorem hOk_e {f : Nat → Nat} {T : kT} {U : kT} {M : Nat} (oT : tOk T) (oU : tOk U) (h16 : ∀ i, i < M → f i ≤ 16) (h : hOk T U M f = true) : (∀ i, i < M → f i ≠ 0 → hda (f i) < tF T ∧ hdb (f i) < tF U ∧ mAl T U (hda (f i)) (hdb (f i)) = true) ∧ ∀ i k, i < M → k < M → f i ≠ 0 → f k ≠ 0 → (hda (f i) = hda (f k) ↔ hdb (f i) = hdb (f k)) ∧ mAr T U (hda (f i)) (hda (f k)) (hdb (f i)) (hdb (f k)) = true := by
  simp only [hOk, hLy, hAr, Bool.and_eq_true] at h
  obtain ⟨h1, h2⟩ := h
  have l := fun i (hi : i < M) => alB_iff.mp h1 i (Nat.zero_le _) (by omega)
  have r := fun i (hi : i < M) => alB_iff.mp h2 i (Nat.zero_le _) (by omega)
  have lt : ∀ i k, i < M → k < i → f i ≠ 0 → f k ≠ 0 → (hda (f i) = hda (f k) ↔ hdb (f i) = hdb (f k)) ∧ mAr T U (hda (f i)) (hda (f k)) (hdb (f i)) (hdb (f k)) = true := fun i k hi hk fi fk => by
    have z := r i hi
    simp only [Bool.and_eq_true] at z
    have y := alB_iff.mp z.2 k (Nat.zero_le _) (by omega)
    simp only [hO2, fi, fk, decide_false, Bool.false_or, Bool.and_eq_true, beq_iff_eq, decide_eq_decide] at y
    exact y
  refine ⟨fun i hi fi => ?_, fun i k hi hk fi fk => ?_⟩
  · have a := l i hi
    have b := r i hi
    simp only [hL1, fi, decide_false, Bool.false_or, Bool.and_eq_true, decide_eq_true_eq] at a
    simp only [hO1, fi, decide_false, Bool.false_or, Bool.and_eq_true] at b
    exact ⟨a.1, a.2, b.1⟩
  · by_cases c : k < i
    · exact lt i k hi c fi fk
    · by_cases c2 : i < k
      · have z := lt k i hk c2 fk fi
        have d1 := hd_4 (h16 i hi)
        have d2 := hd_4 (h16 k hk)
        rw [mAr_sy oT oU d1.1 d2.1 d1.2 d2.2]
        exact ⟨⟨fun e => (z.1.mp e.symm).symm, fun e => (z.1.mpr e.symm).symm⟩, z.2⟩
      · have e : i = k := by omega
        subst e
        have d1 := hd_4 (h16 i hi)
        exact ⟨⟨fun _ => rfl, fun _ => rfl⟩, mAr_d oT oU d1.1 d1.2⟩
def stp (M : Nat) (f : Nat → Nat) (a : Nat) : Nat := if a < 4 then (if hiG (fun i => !decide (f i = 0) && decide (hda (f i) = a)) M 0 = 0 then 0 else hdb (f (hiG (fun i => !decide (f i = 0) && decide (hda (f i) = a)) M 0 - 1)) + 1) else 0
theorem hOk_p {f : Nat → Nat} {T : kT} {U : kT} {M : Nat} (oT : tOk T) (oU : tOk U) (h16 : ∀ i, i < M → f i ≤ 16) (h : hOk T U M f = true) : ∃ p, pv T U p ∧ p4 p ∧ SE M f p ∧ pos T U p = true := by
  obtain ⟨h1, h2⟩ := hOk_e oT oU h16 h
  have se : SE M f (stp M f) := by
    intro a b ha hb
    unfold stp
    rw [if_pos ha]
    rcases hiG_ok (f := fun i => !decide (f i = 0) && decide (hda (f i) = a)) M 0 with ⟨e, z⟩ | ⟨i, i1, i2, i3, e, -⟩
    · rw [e, if_pos rfl]
      constructor
      · intro q; omega
      · rintro ⟨i, hi, q⟩
        have y := z i (Nat.zero_le _) (by omega)
        have d := hd_n (a := a) hb
        rw [q, d.1] at y
        simp at y
    · rw [e, if_neg (by omega), Nat.add_sub_cancel]
      simp only [Bool.and_eq_true, Bool.not_eq_true', decide_eq_false_iff_not, decide_eq_true_eq] at i3
      constructor
      · intro q
        refine ⟨i, by omega, ?_⟩
        have y := hd_e i3.1
        rw [i3.2] at y; omega
      · rintro ⟨k, hk, q⟩
        have d := hd_n (a := a) hb
        have y := (h2 i k (by omega) hk i3.1 (by omega)).1
        rw [q, d.1, d.2] at y
        have := y.mp i3.2
        omega
  have p4' : p4 (stp M f) := fun i hi => by unfold stp; rw [if_neg (by omega)]
  have le4 : ∀ a, a < 4 → stp M f a ≤ 4 := fun a ha => by
    unfold stp; rw [if_pos ha]; split
    · omega
    · have : hdb (f (hiG (fun i => !decide (f i = 0) && decide (hda (f i) = a)) M 0 - 1)) < 4 := by unfold hdb; omega
      omega
  have of : ∀ a b, a < 4 → stp M f a = b + 1 → ∃ i, i < M ∧ f i = 1 + (4 * a + b) ∧ hda (f i) = a ∧ hdb (f i) = b := fun a b ha e => by
    have b4 : b < 4 := by have := le4 a ha; omega
    obtain ⟨i, hi, q⟩ := (se a b ha b4).mp e
    have d := hd_n (a := a) b4
    exact ⟨i, hi, q, by rw [q]; exact d.1, by rw [q]; exact d.2⟩
  have vv : pv T U (stp M f) := by
    refine ⟨fun a ha => ?_, fun a ha hF => ?_, fun a c ha hc hne h0 e => ?_⟩
    · cases e : stp M f a with
      | zero => exact Nat.zero_le _
      | succ b =>
        obtain ⟨i, hi, q, d1, d2⟩ := of a b ha e
        have := (h1 i hi (by omega)).2.1
        rw [d2] at this; exact this
    · cases e : stp M f a with
      | zero => rfl
      | succ b =>
        obtain ⟨i, hi, q, d1, d2⟩ := of a b ha e
        have := (h1 i hi (by omega)).1
        rw [d1] at this; omega
    · obtain ⟨b, eb⟩ : ∃ b, stp M f a = b + 1 := ⟨stp M f a - 1, by omega⟩
      obtain ⟨i, hi, q, d1, d2⟩ := of a b ha eb
      obtain ⟨k, hk, r, e1, e2⟩ := of c b hc (by rw [← e]; exact eb)
      have y := (h2 i k hi hk (by omega) (by omega)).1
      rw [d1, d2, e1, e2] at y
      exact hne (y.mpr rfl)
  refine ⟨stp M f, vv, p4', se, (pos_pr oT oU vv).mpr ⟨fun a b ha e => ?_, fun a b c d ha hc hne ea ec => ?_⟩⟩
  · obtain ⟨i, hi, q, d1, d2⟩ := of a b ha e
    have := (h1 i hi (by omega)).2.2
    rw [d1, d2] at this; exact this
  · obtain ⟨i, hi, q, d1, d2⟩ := of a b ha ea
    obtain ⟨k, hk, r, e1, e2⟩ := of c d hc ec
    have := (h2 i k hi hk (by omega) (by omega)).2
    rw [d1, d2, e1, e2] at this; exact this
theorem SE_ok {f p : Nat → Nat} {T : kT} {U : kT} {M : Nat} (oT : tOk T) (oU : tOk U) (h16 : ∀ i, i < M → f i ≤ 16) (hv : pv T U p) (se : SE M f p) (hp : pos T U p = true) : hOk T U M f = true := by
  obtain ⟨h1, h2⟩ := (pos_pr oT oU hv).mp hp
  have on : ∀ i, i < M → f i ≠ 0 → hda (f i) < 4 ∧ hdb (f i) < 4 ∧ p (hda (f i)) = hdb (f i) + 1 := fun i hi fi => by
    have d := hd_4 (h16 i hi)
    exact ⟨d.1, d.2, (se _ _ d.1 d.2).mpr ⟨i, hi, hd_e fi⟩⟩
  simp only [hOk, hLy, hAr, Bool.and_eq_true]
  refine ⟨alB_iff.mpr (fun i _ hi => ?_), alB_iff.mpr (fun i _ hi => ?_)⟩
  · by_cases c : f i = 0
    · simp [hL1, c]
    · obtain ⟨a4, b4, e⟩ := on i (by omega) c
      have l1 := hv.1 _ a4
      have l2 : hda (f i) < tF T := by
        by_cases z : hda (f i) < tF T
        · exact z
        · have := hv.2.1 _ a4 (by omega); omega
      simp [hL1, c, l2, show hdb (f i) < tF U by omega]
  · rw [Bool.and_eq_true]
    refine ⟨?_, alB_iff.mpr (fun k _ hk => ?_)⟩
    · by_cases c : f i = 0
      · simp [hO1, c]
      · obtain ⟨a4, b4, e⟩ := on i (by omega) c
        simp [hO1, c, h1 _ _ a4 e]
    · by_cases c : f i = 0
      · simp [hO2, c]
      · by_cases c2 : f k = 0
        · simp [hO2, c2]
        · obtain ⟨a4, b4, e⟩ := on i (by omega) c
          obtain ⟨c4, d4, e2⟩ := on k (by omega) c2
          have iff : hda (f i) = hda (f k) ↔ hdb (f i) = hdb (f k) := by
            constructor
            · intro z; rw [z, e2] at e; omega
            · intro z
              by_cases y : hda (f i) = hda (f k)
              · exact y
              · exact absurd (by rw [e, e2, z]) (hv.2.2 _ _ a4 c4 y (by omega))
          have ar : mAr T U (hda (f i)) (hda (f k)) (hdb (f i)) (hdb (f k)) = true := by
            by_cases y : hda (f i) = hda (f k)
            · rw [← y, ← iff.mp y]; exact mAr_d oT oU a4 b4
            · exact h2 _ _ _ _ a4 c4 y e e2
          simp only [hO2, c, c2, decide_false, Bool.false_or, ar, Bool.and_true, beq_iff_eq, decide_eq_decide]
          exact iff
theorem SE_eq {f p p2 : Nat → Nat} {T : kT} {U : kT} {M : Nat} (oU : tOk U) (h1 : pv T U p) (h2 : pv T U p2) (a1 : p4 p) (a2 : p4 p2) (s1 : SE M f p) (s2 : SE M f p2) : p = p2 := by
  have u4 := oU.f
  funext a
  by_cases c : a < 4
  · have l1 := h1.1 a c
    have l2 := h2.1 a c
    cases e : p a with
    | succ b => exact ((s2 a b c (by omega)).mpr ((s1 a b c (by omega)).mp e)).symm
    | zero =>
      cases e2 : p2 a with
      | zero => rfl
      | succ b =>
        have := (s1 a b c (by omega)).mpr ((s2 a b c (by omega)).mp e2)
        omega
  · rw [a1 a (by omega), a2 a (by omega)]
theorem SE_up {f p : Nat → Nat} {M i a b : Nat} (hi : i < M) (b4 : b < 4) (h0 : p a = 0) (se : SE M (uN1 f i 0) p) : SE M (uN1 f i (1 + (4 * a + b))) (uN1 p a (b + 1)) := by
  intro a' b' ha' hb'
  by_cases c : a' = a
  · subst c
    rw [uN1_s]
    constructor
    · intro e
      exact ⟨i, hi, by rw [uN1_s]; omega⟩
    · rintro ⟨k, hk, e⟩
      by_cases c2 : k = i
      · subst c2; rw [uN1_s] at e; omega
      · have := (se a' b' ha' hb').mpr ⟨k, hk, by rw [uN1_n c2] at e ⊢; exact e⟩
        omega
  · rw [uN1_n c, se a' b' ha' hb']
    constructor
    · rintro ⟨k, hk, e⟩
      have c2 : k ≠ i := by rintro rfl; rw [uN1_s] at e; omega
      exact ⟨k, hk, by rw [uN1_n c2] at e ⊢; exact e⟩
    · rintro ⟨k, hk, e⟩
      have c2 : k ≠ i := by rintro rfl; rw [uN1_s] at e; omega
      exact ⟨k, hk, by rw [uN1_n c2] at e ⊢; exact e⟩
theorem SE_dup {f p : Nat → Nat} {M i a b : Nat} (a4 : a < 4) (b4 : b < 4) (h0 : p a = b + 1) (se : SE M (uN1 f i 0) p) : SE M (uN1 f i (1 + (4 * a + b))) p := by
  intro a' b' ha' hb'
  rw [se a' b' ha' hb']
  constructor
  · rintro ⟨k, hk, e⟩
    have c2 : k ≠ i := by rintro rfl; rw [uN1_s] at e; omega
    exact ⟨k, hk, by rw [uN1_n c2] at e ⊢; exact e⟩
  · rintro ⟨k, hk, e⟩
    by_cases c2 : k = i
    · subst c2
      rw [uN1_s] at e
      have q1 : a' = a := by omega
      have q2 : b' = b := by omega
      rw [q1, q2]
      exact (se a b a4 b4).mp h0
    · exact ⟨k, hk, by rw [uN1_n c2] at e ⊢; exact e⟩
