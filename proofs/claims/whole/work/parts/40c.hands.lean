/-! hands: rows of hands and sets of pairs come to the same -/
theorem SE_g {f p : Nat → Nat} {M : Nat} (l4 : ∀ a, a < 4 → p a ≤ 4) (se : SE M f p) : ∀ a, a < 4 → p a ≠ 0 → hiG (fun i => decide (f i = 1 + (4 * a + (p a - 1)))) M 0 - 1 < M ∧ f (hiG (fun i => decide (f i = 1 + (4 * a + (p a - 1)))) M 0 - 1) = 1 + (4 * a + (p a - 1)) := by
  intro a ha h0
  have l := l4 a ha
  obtain ⟨i, hi, e⟩ := (se a (p a - 1) ha (by omega)).mp (by omega)
  rcases hiG_ok (f := fun i => decide (f i = 1 + (4 * a + (p a - 1)))) M 0 with ⟨-, z⟩ | ⟨k, k1, k2, k3, e2, -⟩
  · have y := z i (Nat.zero_le _) (by omega)
    rw [decide_eq_false_iff_not] at y; exact absurd e y
  · rw [e2, Nat.add_sub_cancel]
    exact ⟨by omega, by rw [decide_eq_true_eq] at k3; exact k3⟩
theorem SE_le {f p : Nat → Nat} {M : Nat} (l4 : ∀ a, a < 4 → p a ≤ 4) (se : SE M f p) : pMn p ≤ M := by
  rw [pMn_ct]
  refine ct_le_of M _ (fun a => hiG (fun i => decide (f i = 1 + (4 * a + (p a - 1)))) M 0 - 1) (fun a ha hs => ?_) (fun a b ha hb sa sb e => ?_)
  · exact (SE_g l4 se a ha (by simpa using hs)).1
  · have q1 := (SE_g l4 se a ha (by simpa using sa)).2
    have q2 := (SE_g l4 se b hb (by simpa using sb)).2
    have la := l4 a ha
    have lb := l4 b hb
    have e' : hiG (fun i => decide (f i = 1 + (4 * a + (p a - 1)))) M 0 - 1 = hiG (fun i => decide (f i = 1 + (4 * b + (p b - 1)))) M 0 - 1 := e
    rw [e'] at q1
    simp at sa sb
    omega
theorem SE_lt {f p : Nat → Nat} {M i : Nat} (l4 : ∀ a, a < 4 → p a ≤ 4) (hi : i < M) (h0 : f i = 0) (se : SE M f p) : pMn p < M := by
  have le : pMn p ≤ M - 1 := by
    rw [pMn_ct]
    have G := SE_g l4 se
    have ne : ∀ a, a < 4 → p a ≠ 0 → hiG (fun i => decide (f i = 1 + (4 * a + (p a - 1)))) M 0 - 1 ≠ i := fun a ha hp e => by
      have := (G a ha hp).2
      rw [e, h0] at this; omega
    refine ct_le_of (M - 1) _ (fun a => if i < hiG (fun i => decide (f i = 1 + (4 * a + (p a - 1)))) M 0 - 1 then hiG (fun i => decide (f i = 1 + (4 * a + (p a - 1)))) M 0 - 1 - 1 else hiG (fun i => decide (f i = 1 + (4 * a + (p a - 1)))) M 0 - 1) (fun a ha hs => ?_) (fun a b ha hb sa sb e => ?_)
    · have hs' : p a ≠ 0 := by simpa using hs
      have q1 := (G a ha hs').1
      have q2 := ne a ha hs'
      split <;> omega
    · have sa' : p a ≠ 0 := by simpa using sa
      have sb' : p b ≠ 0 := by simpa using sb
      have q1 := G a ha sa'
      have q2 := G b hb sb'
      have n1 := ne a ha sa'
      have n2 := ne b hb sb'
      have la := l4 a ha
      have lb := l4 b hb
      have e' : hiG (fun i => decide (f i = 1 + (4 * a + (p a - 1)))) M 0 - 1 = hiG (fun i => decide (f i = 1 + (4 * b + (p b - 1)))) M 0 - 1 := by
        revert e
        generalize hiG (fun i => decide (f i = 1 + (4 * a + (p a - 1)))) M 0 - 1 = x at *
        generalize hiG (fun i => decide (f i = 1 + (4 * b + (p b - 1)))) M 0 - 1 = y at *
        intro e
        split at e <;> split at e <;> omega
      have r1 := q1.2
      rw [e', q2.2] at r1
      omega
  omega
theorem uN1_id {p : Nat → Nat} {i : Nat} (h : p i = 0) : uN1 p i 0 = p := by
  funext k
  by_cases c : k = i
  · subst c; rw [uN1_s, h]
  · rw [uN1_n c]
theorem SE_nd {f p : Nat → Nat} {M i k : Nat} (hk : k < M) (hne : k ≠ i) (e : f k = f i) (se : SE M f p) : SE M (uN1 f i 0) p := by
  intro a b ha hb
  rw [se a b ha hb]
  constructor
  · rintro ⟨j, hj, q⟩
    by_cases c : j = i
    · subst c; exact ⟨k, hk, by rw [uN1_n hne, e]; exact q⟩
    · exact ⟨j, hj, by rw [uN1_n c]; exact q⟩
  · rintro ⟨j, hj, q⟩
    by_cases c : j = i
    · subst c; rw [uN1_s] at q; omega
    · rw [uN1_n c] at q; exact ⟨j, hj, q⟩
/-- a hand taken off -/
theorem SE_off {f p : Nat → Nat} {M i : Nat} (h16 : f i ≤ 16) (hi : i < M) (se : SE M f p) : SE M (uN1 f i 0) p ∨ ∃ a b, a < 4 ∧ b < 4 ∧ p a = b + 1 ∧ f i = 1 + (4 * a + b) ∧ SE M (uN1 f i 0) (uN1 p a 0) := by
  by_cases c : f i = 0
  · left; rw [uN1_id c]; exact se
  · by_cases c2 : ∃ k, k < M ∧ k ≠ i ∧ f k = f i
    · obtain ⟨k, k1, k2, k3⟩ := c2
      exact Or.inl (SE_nd k1 k2 k3 se)
    · right
      have d := hd_4 h16
      have e := hd_e c
      have pa := (se _ _ d.1 d.2).mpr ⟨i, hi, e⟩
      refine ⟨hda (f i), hdb (f i), d.1, d.2, pa, e, fun a' b' ha' hb' => ?_⟩
      by_cases q : a' = hda (f i)
      · subst q
        rw [uN1_s]
        constructor
        · intro z; omega
        · rintro ⟨k, hk, z⟩
          exfalso
          have ki : k ≠ i := by rintro rfl; rw [uN1_s] at z; omega
          rw [uN1_n ki] at z
          have := (se _ b' d.1 hb').mpr ⟨k, hk, z⟩
          exact c2 ⟨k, hk, ki, by omega⟩
      · rw [uN1_n q, se a' b' ha' hb']
        constructor
        · rintro ⟨k, hk, z⟩
          have ki : k ≠ i := by
            rintro rfl
            have := hd_n (a := a') hb'
            rw [← z] at this
            exact q this.1.symm
          exact ⟨k, hk, by rw [uN1_n ki]; exact z⟩
        · rintro ⟨k, hk, z⟩
          have ki : k ≠ i := by rintro rfl; rw [uN1_s] at z; omega
          rw [uN1_n ki] at z; exact ⟨k, hk, z⟩
/-- a hand that may be taken off -/
theorem SE_sp {f p : Nat → Nat} {M : Nat} (h16 : ∀ i, i < M → f i ≤ 16) (se : SE M f p) (hl : pMn p < M) : ∃ i, i < M ∧ SE M (uN1 f i 0) p := by
  by_cases c : ∃ i, i < M ∧ f i = 0
  · obtain ⟨i, hi, e⟩ := c
    exact ⟨i, hi, by rw [uN1_id e]; exact se⟩
  · by_cases c2 : ∃ i k, i < M ∧ k < M ∧ k ≠ i ∧ f k = f i
    · obtain ⟨i, k, i1, k1, k2, k3⟩ := c2
      exact ⟨i, i1, SE_nd k1 k2 k3 se⟩
    · exfalso
      have nz : ∀ i, i < M → f i ≠ 0 := fun i hi e => c ⟨i, hi, e⟩
      have on : ∀ i, i < M → p (hda (f i)) = hdb (f i) + 1 := fun i hi => by
        have d := hd_4 (h16 i hi)
        exact (se _ _ d.1 d.2).mpr ⟨i, hi, hd_e (nz i hi)⟩
      have := ct_ge_of (N := 4) M (fun a => !decide (p a = 0)) (fun i => hda (f i)) (fun i hi => ⟨(hd_4 (h16 i hi)).1, by
        have := on i hi
        simp; omega⟩) (fun i j hi hj e => by
        by_cases q : j = i
        · exact q.symm
        · exfalso
          have e' : hda (f i) = hda (f j) := e
          have a1 := on i hi
          have a2 := on j hj
          rw [e'] at a1
          have b1 := hd_e (nz i hi)
          have b2 := hd_e (nz j hj)
          exact c2 ⟨i, j, hi, hj, q, by omega⟩)
      rw [← pMn_ct] at this
      omega
theorem SE_fu {f p : Nat → Nat} {M a b : Nat} (l4 : ∀ a, a < 4 → p a ≤ 4) (h16 : ∀ i, i < M → f i ≤ 16) (a4 : a < 4) (b4 : b < 4) (e : p a = b + 1) (se : SE M f p) (hl : ¬ pMn p < M) : ∃ i, i < M ∧ SE M (uN1 f i 0) (uN1 p a 0) := by
  obtain ⟨i, hi, q⟩ := (se a b a4 b4).mp e
  rcases SE_off (h16 i hi) hi se with z | ⟨a', b', a1, b1, e1, e2, z⟩
  · exact absurd (SE_lt l4 hi uN1_s z) hl
  · have : a' = a := by omega
    subst this
    exact ⟨i, hi, z⟩
def sIH (T U : kT) (M n : Nat) : Prop := ∀ f p : Nat → Nat, (∀ i, i < M → f i ≤ 16) → hOk T U M f = true → pv T U p → p4 p → SE M f p → hR T U M n f = hF T U M n p
theorem u16 {f : Nat → Nat} {M i x : Nat} (h : ∀ i, i < M → f i ≤ 16) (hx : x ≤ 16) : ∀ k, k < M → uN1 f i x k ≤ 16 := fun k hk => by
  by_cases c : k = i
  · subst c; rw [uN1_s]; exact hx
  · rw [uN1_n c]; exact h k hk
theorem hx_16 {t w o : Nat} (hw : w < 4) (ho : o < 4) : hx t w o ≤ 16 := by unfold hx o1 o2; split <;> omega
/-- pointed out of a set: a hand put on -/
theorem hR_of {f q : Nat → Nat} {T : kT} {U : kT} {M n i : Nat} (oT : tOk T) (oU : tOk U) (IH : sIH T U M n) (h16 : ∀ i, i < M → f i ≤ 16) (hi : i < M) (hv : pv T U q) (h4 : p4 q) (se : SE M (uN1 f i 0) q) (h : hLo T U (hF T U M n) q = true) : hRs T U M (hR T U M n) f = true := by
  rw [hLo_iff oT oU] at h
  rw [hRs_iff oT oU]
  obtain ⟨t, w, ht, hw, hf, hall⟩ := h
  refine ⟨i, t, w, hi, ht, hw, fun o ho => ?_⟩
  have w4 : w < 4 := Nat.lt_of_lt_of_le hw (fk_4' oT oU)
  have o4 : o < 4 := Nat.lt_of_lt_of_le ho (fk_4' oT oU)
  have g16 := u16 (i := i) h16 (hx_16 (t := t) w4 o4)
  have main : ∀ a b, a < 4 → b < 4 → hx t w o = 1 + (4 * a + b) → a < tF T → b < tF U → q a = 0 → pLk q b = 0 → hF T U M n (uN1 q a (b + 1)) = true → hR T U M n (uN1 f i (hx t w o)) = true := fun a b a4 b4 eh aT bU q0 q1 hh => by
    have se2 : SE M (uN1 f i (hx t w o)) (uN1 q a (b + 1)) := by rw [eh]; exact SE_up hi b4 q0 se
    have hv2 := pv_u hv aT bU q1
    have h42 : p4 (uN1 q a (b + 1)) := p4_u h4 a4
    cases c : hOk T U M (uN1 f i (hx t w o)) with
    | false => exact hR_0 c n
    | true => rw [IH _ _ g16 c hv2 h42 se2]; exact hh
  have bad : ∀ a b, a < 4 → b < 4 → hx t w o = 1 + (4 * a + b) → (∃ a' b', a' < 4 ∧ b' < 4 ∧ q a' = b' + 1 ∧ ((a' = a ∧ b' ≠ b) ∨ (a' ≠ a ∧ b' = b))) → hR T U M n (uN1 f i (hx t w o)) = true := fun a b a4 b4 eh hq => by
    obtain ⟨a', b', a1, b1, e1, e2⟩ := hq
    refine hR_0 ?_ n
    cases c : hOk T U M (uN1 f i (hx t w o)) with
    | false => rfl
    | true =>
      exfalso
      obtain ⟨p3, v3, -, s3, -⟩ := hOk_p oT oU g16 c
      have x1 : p3 a = b + 1 := (s3 a b a4 b4).mpr ⟨i, hi, by rw [uN1_s]; exact eh⟩
      obtain ⟨k, hk, z⟩ := (se a' b' a1 b1).mp e1
      have ki : k ≠ i := by rintro rfl; rw [uN1_s] at z; omega
      have x2 : p3 a' = b' + 1 := (s3 a' b' a1 b1).mpr ⟨k, hk, by rw [uN1_n ki] at z ⊢; exact z⟩
      rcases e2 with ⟨r1, r2⟩ | ⟨r1, r2⟩
      · rw [r1] at x2; omega
      · exact v3.2.2 a' a a1 a4 r1 (by omega) (by rw [x1, x2, r2])
  rcases (show t = 0 ∨ t = 1 by omega) with rfl | rfl
  · have eh : hx 0 w o = 1 + (4 * w + o) := rfl
    have ho' : o < tF U := ho
    have hw' : w < tF T := hw
    by_cases c : pLk q o = 0
    · exact main w o w4 o4 eh hw' ho' (fr_0 hf) c (hall o ho (by simp [fr, c]))
    · refine bad w o w4 o4 eh ?_
      have : ∃ j, j < 4 ∧ q j = o + 1 := by
        by_cases z : ∃ j, j < 4 ∧ q j = o + 1
        · exact z
        · exact absurd (pLk_0.mpr (fun j hj e => z ⟨j, hj, e⟩)) c
      obtain ⟨j, j4, ej⟩ := this
      refine ⟨j, o, j4, o4, ej, Or.inr ⟨?_, rfl⟩⟩
      rintro rfl
      have := fr_0 hf
      omega
  · have eh : hx 1 w o = 1 + (4 * o + w) := rfl
    have ho' : o < tF T := ho
    have hw' : w < tF U := hw
    by_cases c : q o = 0
    · exact main o w o4 w4 eh ho' hw' c (fr_1 hf) (hall o ho (by simp [fr, c]))
    · refine bad o w o4 w4 eh ?_
      have u4 := oU.f
      have l := hv.1 o o4
      refine ⟨o, q o - 1, o4, by omega, by omega, Or.inl ⟨rfl, ?_⟩⟩
      intro e
      exact pLk_0.mp (fr_1 hf) o o4 (by omega)
theorem hF_of {f p : Nat → Nat} {T : kT} {U : kT} {M n : Nat} (oT : tOk T) (oU : tOk U) (IH : sIH T U M n) (h16 : ∀ i, i < M → f i ≤ 16) (hv : pv T U p) (h4 : p4 p) (se : SE M f p) (hp : pos T U p = true) (h : hRs T U M (hR T U M n) f = true) : hF T U M (n + 1) p = true := by
  rw [hRs_iff oT oU] at h
  obtain ⟨i, t, w, hi, ht, hw, hall⟩ := h
  have u4 := oU.f
  have w4 : w < 4 := Nat.lt_of_lt_of_le hw (fk_4' oT oU)
  have key : ∀ r : Nat → Nat, pv T U r → p4 r → pos T U r = true → SE M (uN1 f i 0) r → hF T U M (n + 1) r = true := fun r rv r4 rp rs => by
    have rl : pMn r < M := SE_lt (fun a ha => Nat.le_trans (rv.1 a ha) u4) hi uN1_s rs
    cases c : fr r t w with
    | true =>
      have lo : hLo T U (hF T U M n) r = true := by
        rw [hLo_iff oT oU]
        refine ⟨t, w, ht, hw, c, fun o ho hfo => ?_⟩
        have o4 : o < 4 := Nat.lt_of_lt_of_le ho (fk_4' oT oU)
        have g16 := u16 (i := i) h16 (hx_16 (t := t) w4 o4)
        have z := hall o ho
        have main : ∀ a b, a < 4 → b < 4 → hx t w o = 1 + (4 * a + b) → a < tF T → b < tF U → r a = 0 → pLk r b = 0 → hF T U M n (uN1 r a (b + 1)) = true := fun a b a4 b4 eh aT bU q0 q1 => by
          have se2 : SE M (uN1 f i (hx t w o)) (uN1 r a (b + 1)) := by rw [eh]; exact SE_up hi b4 q0 rs
          have hv2 := pv_u rv aT bU q1
          have h42 : p4 (uN1 r a (b + 1)) := p4_u r4 a4
          cases d : pos T U (uN1 r a (b + 1)) with
          | false => exact hF_0 (by simp [gth, d])
          | true =>
            have ok := SE_ok oT oU g16 hv2 se2 d
            rw [← IH _ _ g16 ok hv2 h42 se2]; exact z
        rcases (show t = 0 ∨ t = 1 by omega) with rfl | rfl
        · exact main w o w4 o4 rfl hw ho (fr_0 c) (fr_1 hfo)
        · exact main o w o4 w4 rfl ho hw (fr_0 hfo) (fr_1 c)
      show (hF T U M n r || (if pMn r < M then hLo T U (hF T U M n) r else hFl T U (hF T U M n) r)) = true
      rw [if_pos rl, lo, Bool.or_true]
    | false =>
      have dup : ∀ a b, a < 4 → b < 4 → r a = b + 1 → (∃ o, o < fk T U (1 - t) ∧ hx t w o = 1 + (4 * a + b)) → hF T U M n r = true := fun a b a4 b4 e ho => by
        obtain ⟨o, ho, eh⟩ := ho
        have o4 : o < 4 := Nat.lt_of_lt_of_le ho (fk_4' oT oU)
        have g16 := u16 (i := i) h16 (hx_16 (t := t) w4 o4)
        have se2 : SE M (uN1 f i (hx t w o)) r := by rw [eh]; exact SE_dup a4 b4 e rs
        have ok := SE_ok oT oU g16 rv se2 rp
        rw [← IH _ _ g16 ok rv r4 se2]; exact hall o ho
      refine hF_s ?_
      rcases (show t = 0 ∨ t = 1 by omega) with rfl | rfl
      · have e0 : r w ≠ 0 := by simpa [fr] using c
        have l := rv.1 w w4
        exact dup w (r w - 1) w4 (by omega) (by omega) ⟨r w - 1, show r w - 1 < tF U by omega, rfl⟩
      · have e0 : pLk r w ≠ 0 := by simpa [fr] using c
        have : ∃ j, j < 4 ∧ r j = w + 1 := by
          by_cases z : ∃ j, j < 4 ∧ r j = w + 1
          · exact z
          · exact absurd (pLk_0.mpr (fun j hj e => z ⟨j, hj, e⟩)) e0
        obtain ⟨j, j4, ej⟩ := this
        have jT : j < tF T := by
          by_cases z : j < tF T
          · exact z
          · have := rv.2.1 j j4 (by omega); omega
        exact dup j w j4 w4 ej ⟨j, jT, rfl⟩
  rcases SE_off (h16 i hi) hi se with z | ⟨a, b, a4, b4, e1, e2, z⟩
  · exact key p hv h4 hp z
  · have rv : pv T U (uN1 p a 0) := pv_t hv
    have back : uN1 (uN1 p a 0) a (b + 1) = p := by
      funext k
      by_cases c : k = a
      · subst c; rw [uN1_s, e1]
      · rw [uN1_n c, uN1_n c]
    have pu := pos_u (f := a) (o := b) oT oU rv a4 b4 uN1_s
    rw [back, hp] at pu
    have rp : pos T U (uN1 p a 0) = true := by
      cases d : pos T U (uN1 p a 0) with
      | true => rfl
      | false => rw [d] at pu; cases pu
    have hh := key (uN1 p a 0) rv (p4_u h4 a4) rp z
    have lk : pLk (uN1 p a 0) b = 0 := pLk_0.mpr (fun j hj e => by
      by_cases c : j = a
      · subst c; rw [uN1_s] at e; omega
      · rw [uN1_n c] at e
        exact hv.2.2 j a hj a4 c (by omega) (by rw [e, e1]))
    have aT : a < tF T := by
      by_cases y : a < tF T
      · exact y
      · have := hv.2.1 a a4 (by omega); omega
    have bU : b < tF U := by have := hv.1 a a4; omega
    have up := hF_up oT oU (n + 1) (uN1 p a 0) a b rv aT bU uN1_s lk (SE_lt (fun a ha => Nat.le_trans (rv.1 a ha) u4) hi uN1_s z) hh
    rw [back] at up; exact up
/-- the one and the other come to the same -/
theorem hR_hF {T : kT} {U : kT} {M : Nat} (oT : tOk T) (oU : tOk U) : ∀ n, sIH T U M n := by
  have u4 := oU.f
  have posp : ∀ f p : Nat → Nat, (∀ i, i < M → f i ≤ 16) → hOk T U M f = true → pv T U p → p4 p → SE M f p → pos T U p = true := fun f p h16 ok hv h4 se => by
    obtain ⟨p2, v2, f2, s2, q2⟩ := hOk_p oT oU h16 ok
    rw [SE_eq oU hv v2 h4 f2 se s2]; exact q2
  intro n
  induction n with
  | zero =>
    intro f p h16 ok hv h4 se
    show (!hOk T U M f) = !gth T U M p
    have g : gth T U M p = true := by
      simp [gth, posp f p h16 ok hv h4 se, SE_le (fun a ha => Nat.le_trans (hv.1 a ha) u4) se]
    rw [ok, g]
  | succ n ih =>
    intro f p h16 ok hv h4 se
    have hp := posp f p h16 ok hv h4 se
    have l4 : ∀ a, a < 4 → p a ≤ 4 := fun a ha => Nat.le_trans (hv.1 a ha) u4
    have g : gth T U M p = true := by simp [gth, hp, SE_le l4 se]
    rw [Bool.eq_iff_iff]
    constructor
    · intro h
      have h2 : (hR T U M n f || hRs T U M (hR T U M n) f) = true := h
      rw [Bool.or_eq_true] at h2
      rcases h2 with h2 | h2
      · rw [ih f p h16 ok hv h4 se] at h2; exact hF_s h2
      · exact hF_of oT oU ih h16 hv h4 se hp h2
    · intro h
      show (hR T U M n f || hRs T U M (hR T U M n) f) = true
      have h2 : (hF T U M n p || (if pMn p < M then hLo T U (hF T U M n) p else hFl T U (hF T U M n) p)) = true := h
      rw [Bool.or_eq_true] at h2
      rcases h2 with h2 | h2
      · rw [← ih f p h16 ok hv h4 se] at h2; rw [h2]; rfl
      · rw [Bool.or_eq_true]; right
        by_cases c : pMn p < M
        · rw [if_pos c] at h2
          obtain ⟨i, hi, sp⟩ := SE_sp h16 se c
          exact hR_of oT oU ih h16 hi hv h4 sp h2
        · rw [if_neg c] at h2
          unfold hFl at h2
          rw [exB_iff] at h2
          obtain ⟨a, -, a4, a3⟩ := h2
          simp only [hFl1, Bool.and_eq_true, Bool.not_eq_true', decide_eq_false_iff_not, Bool.or_eq_true] at a3
          have a4' : a < 4 := by omega
          have la := l4 a a4'
          obtain ⟨i, hi, sf⟩ := SE_fu (b := p a - 1) l4 h16 a4' (by omega) (by omega) se c
          have rv : pv T U (uN1 p a 0) := pv_t hv
          have r4 : p4 (uN1 p a 0) := p4_u h4 a4'
          have ll : pMn (uN1 p a 0) < M := SE_lt (fun a ha => Nat.le_trans (rv.1 a ha) u4) hi uN1_s sf
          have back : uN1 (uN1 p a 0) a (p a - 1 + 1) = p := by
            funext k
            by_cases c : k = a
            · subst c; rw [uN1_s]; omega
            · rw [uN1_n c, uN1_n c]
          have pu := pos_u (f := a) (o := p a - 1) oT oU rv a4' (by omega) uN1_s
          rw [back, hp] at pu
          have rp : pos T U (uN1 p a 0) = true := by
            cases d : pos T U (uN1 p a 0) with
            | true => rfl
            | false => rw [d] at pu; cases pu
          have rg : gth T U M (uN1 p a 0) = true := by simp [gth, rp]; omega
          rcases a3.2 with z | z
          · exact hR_of oT oU ih h16 hi rv r4 sf (hF_lo oT oU rg ll n z)
          · exact hR_of oT oU ih h16 hi rv r4 sf z
