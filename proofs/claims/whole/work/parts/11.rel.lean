/-! the real machine beside ours: values, locals, cells -/
def jV (ad : Nat → Nat) (v : Value) : Value := match v with
  | .ref n => .ref (ad n)
  | v => v
def jRv (ad : Nat → Nat) (r : Nat) : Value := if r = 9999 then .null else .ref (ad r)
def jFv (ad : Nat → Nat) (h : jM) (o c k : Nat) : Value := match jT c k with
  | 1 => .long (jL h o k)
  | 3 => jRv ad (jR h o k)
  | _ => .int (jI h o k)
def jF (ad : Nat → Nat) (h : jM) (o c : Nat) : List Value := (List.range (jNf c)).map (jFv ad h o c)
def jAr (ad : Nat → Nat) (h : jM) (o k : Nat) : (Nat → Int32) ⊕ (Nat → Int64) ⊕ (Nat → UInt32) ⊕ (Nat → UInt64) ⊕ (Nat → Option Nat) := match k with
  | 1 => .inr (.inl (jL h o))
  | 4 => .inr (.inr (.inr (.inr (fun j => if jR h o j = 9999 then none else some (ad (jR h o j))))))
  | _ => .inl (jI h o)
def jE (cA : Nat → ClassId) (ad : Nat → Nat) (h : jM) (o : Nat) : va_E := if (jS o).1 < 100 then .inr ((jS o).1, jF ad h o (jS o).1) else .inl (cA ((jS o).1 - 100), (jS o).2, jAr ad h o ((jS o).1 - 100))
def jW (cA : Nat → ClassId) (ad : Nat → Nat) (h : jM) : va_W := (List.range (jN h)).map (fun i => (ad i, jE cA ad h i))
def jTys (cA : Nat → ClassId) : List (ClassId × FieldType) := [(cA 0, .int), (cA 1, .long), (cA 2, .char), (cA 3, .boolean), (cA 4, .object "TwoTowns$State")]
theorem jW_get {cA : Nat → ClassId} {ad : Nat → Nat} {h : jM} {i : Nat} (hi : i < jN h) : (jW cA ad h)[i]? = some (ad i, jE cA ad h i) := by
  simp [jW, List.getElem?_map, List.getElem?_range hi]
theorem jW_len {cA : Nat → ClassId} {ad : Nat → Nat} {h : jM} : (jW cA ad h).length = jN h := by simp [jW]
theorem jW_of {cA : Nat → ClassId} {ad : Nat → Nat} {h : jM} {i : Nat} {q : Nat × va_E} (hq : (jW cA ad h)[i]? = some q) : i < jN h ∧ q = (ad i, jE cA ad h i) := by
  have hi : i < jN h := by have := (List.getElem?_eq_some_iff.mp hq).1; rwa [jW_len] at this
  rw [jW_get hi] at hq
  exact ⟨hi, (Option.some.inj hq).symm⟩
theorem jW_set {cA : Nat → ClassId} {ad : Nat → Nat} {h h' : jM} {o : Nat} {e : va_E} (hn : jN h' = jN h) (he : jE cA ad h' o = e) (hs : ∀ i, i ≠ o → jE cA ad h' i = jE cA ad h i) : (jW cA ad h).set o (ad o, e) = jW cA ad h' := by
  subst he
  apply List.ext_getElem?
  intro i
  rw [List.getElem?_set]
  by_cases hi : i < jN h
  · rw [jW_get (h := h') (by rw [hn]; exact hi)]
    by_cases ho : o = i
    · subst ho; simp [jW_len, hi]
    · simp [ho, jW_get hi, hs i (fun e => ho e.symm)]
  · have h1 : (jW cA ad h')[i]? = none := by rw [List.getElem?_eq_none]; rw [jW_len, hn]; omega
    have h2 : (jW cA ad h)[i]? = none := by rw [List.getElem?_eq_none]; rw [jW_len]; omega
    rw [h1, h2]
    by_cases ho : o = i
    · subst ho; simp [jW_len, hi]
    · simp [ho]
theorem jE_o {cA : Nat → ClassId} {ad : Nat → Nat} {h : jM} {o c : Nat} (hc : (jS o).1 = c) (hl : c < 100) : jE cA ad h o = .inr (c, jF ad h o c) := by
  subst hc; simp [jE, hl]
theorem jE_a {cA : Nat → ClassId} {ad : Nat → Nat} {h : jM} {o k : Nat} (hc : (jS o).1 = 100 + k) : jE cA ad h o = .inl (cA k, (jS o).2, jAr ad h o k) := by
  simp [jE, hc]
theorem jE_ne {cA : Nat → ClassId} {ad : Nat → Nat} {h h' : jM} {i : Nat} (h1 : jI h' i = jI h i) (h2 : jL h' i = jL h i) (h3 : jR h' i = jR h i) : jE cA ad h' i = jE cA ad h i := by
  have e1 : ∀ c, jF ad h' i c = jF ad h i c := by
    intro c; unfold jF; apply List.map_congr_left; intro k _; unfold jFv; rw [h1, h2, h3]
  have e2 : ∀ k, jAr ad h' i k = jAr ad h i k := by intro k; unfold jAr; rw [h1, h2, h3]
  unfold jE; rw [e1, e2]
theorem jU_row {α : Type} {f : Nat → Nat → α} {o k i : Nat} {v : α} (hi : i ≠ o) : jU f o k v i = f i := by funext b; simp [jU, hi]
theorem jF_len {ad : Nat → Nat} {h : jM} {o c : Nat} : (jF ad h o c).length = jNf c := by simp [jF]
theorem jF_get {ad : Nat → Nat} {h : jM} {o c k : Nat} (hk : k < jNf c) : (jF ad h o c)[k]? = some (jFv ad h o c k) := by simp [jF, List.getElem?_map, List.getElem?_range hk]
theorem jF_set {ad : Nat → Nat} {h h' : jM} {o c b : Nat} {v : Value} (hb : b < jNf c) (hv : jFv ad h' o c b = v) (hs : ∀ k, k ≠ b → jFv ad h' o c k = jFv ad h o c k) : jF ad h' o c = (jF ad h o c).set b v := by
  subst hv
  apply List.ext_getElem?
  intro i
  rw [List.getElem?_set]
  by_cases hi : i < jNf c
  · rw [jF_get hi]
    by_cases ho : b = i
    · subst ho; simp [jF_len, hi]
    · simp [ho, jF_get hi, hs i (fun e => ho e.symm)]
  · have h1 : (jF ad h' o c)[i]? = none := by rw [List.getElem?_eq_none]; rw [jF_len]; omega
    have h2 : (jF ad h o c)[i]? = none := by rw [List.getElem?_eq_none]; rw [jF_len]; omega
    rw [h1, h2]
    by_cases ho : b = i
    · subst ho; exact absurd hb hi
    · simp [ho]
/-- the cells are apart, and lie from z on -/
theorem jW_D {cA : Nat → ClassId} {ad : Nat → Nat} {h : jM} {z : Nat} (had : ∀ i, i < 1000 → ad i = z + i) (hn : jN h ≤ 120) : va_D (fun q => z ≤ q) (jW cA ad h) := by
  refine ⟨fun i j p q hp hq e => ?_, fun k q hq => ?_⟩
  · obtain ⟨h1, rfl⟩ := jW_of hp
    obtain ⟨h2, rfl⟩ := jW_of hq
    have e1 : ad i = ad j := e
    rw [had i (by omega), had j (by omega)] at e1
    omega
  · obtain ⟨h1, rfl⟩ := jW_of hq
    show z ≤ ad k
    rw [had k (by omega)]; omega
/-! locals -/
def jLv (ad : Nat → Nat) (ls : List Value) : List (Nat × Value) := (List.range ls.length).filterMap (fun i => if jGet ls i = .null then none else some (i, jV ad (jGet ls i)))
theorem jLv_mem {ad : Nat → Nat} {ls : List Value} {q : Nat × Value} : q ∈ jLv ad ls ↔ q.1 < ls.length ∧ jGet ls q.1 ≠ .null ∧ q.2 = jV ad (jGet ls q.1) := by
  unfold jLv
  rw [List.mem_filterMap]
  constructor
  · rintro ⟨i, hi, e⟩
    by_cases hn : jGet ls i = .null
    · simp [hn] at e
    · simp only [hn, if_false, Option.some.injEq] at e
      subst e
      exact ⟨List.mem_range.mp hi, hn, rfl⟩
  · rintro ⟨h1, h2, h3⟩
    refine ⟨q.1, List.mem_range.mpr h1, ?_⟩
    simp only [h2, if_false, Option.some.injEq]
    rw [← h3]
theorem jGet_lt {ls : List Value} {i : Nat} (h : jGet ls i ≠ .null) : i < ls.length := by
  rcases Nat.lt_or_ge i ls.length with q | q
  · exact q
  · exfalso; apply h; simp [jGet, List.getD_eq_getElem?_getD, List.getElem?_eq_none q]
theorem jLd {ad : Nat → Nat} {ls : List Value} {lsC : Array Slot} {n i : Nat} {v : Value} (h : lv_has lsC n (jLv ad ls)) (hv : jGet ls i = v) (hn : v ≠ .null) : lsC[i]? = some (.val (jV ad v)) := by
  subst hv
  exact h.2.2 (i, jV ad (jGet ls i)) (jLv_mem.mpr ⟨jGet_lt hn, hn, rfl⟩)
theorem jGet_set {ls : List Value} {i k : Nat} {v : Value} : jGet (ls.set i v) k = if k = i ∧ i < ls.length then v else jGet ls k := by
  unfold jGet
  rw [List.getD_eq_getElem?_getD, List.getD_eq_getElem?_getD, List.getElem?_set]
  by_cases h1 : i = k
  · subst h1
    by_cases h2 : i < ls.length
    · simp [h2]
    · simp [h2, List.getElem?_eq_none (Nat.le_of_not_lt h2)]
  · have h2 : ¬ k = i := fun e => h1 e.symm
    simp [h1, h2]
theorem jPut_len {ls : List Value} {i : Nat} {v : Value} : (jPut ls i v).length = ls.length := by
  cases i with
  | zero => simp [jPut]
  | succ j => simp only [jPut]; split <;> simp
theorem jPut2_len {ls : List Value} {i : Nat} {v : Value} : (jPut2 ls i v).length = ls.length := by simp [jPut2, jPut_len]
theorem jPut_get {ls : List Value} {i k : Nat} {v : Value} (hi : i < ls.length) : jGet (jPut ls i v) k = if k = i then v else if k + 1 = i ∧ (jGet ls k).category = 2 then .null else jGet ls k := by
  cases i with
  | zero => simp [jPut, jGet_set, hi]
  | succ j =>
    simp only [jPut, jCat2, beq_iff_eq]
    by_cases hc : (jGet ls j).category = 2
    · simp only [hc, if_true, jGet_set, List.length_set]
      by_cases h1 : k = j + 1
      · simp [h1, hi]
      · by_cases h2 : k = j
        · subst h2; simp [hc, hi]; omega
        · have h3 : ¬ k + 1 = j + 1 := by omega
          simp [h1, h2, h3]
    · simp only [hc, if_false, jGet_set]
      by_cases h1 : k = j + 1
      · simp [h1, hi]
      · by_cases h2 : k = j
        · subst h2; simp [hc]
        · have h3 : ¬ k + 1 = j + 1 := by omega
          simp [h1, h2, h3]
theorem jV_cat {ad : Nat → Nat} {v : Value} : (jV ad v).category = v.category := by cases v <;> rfl
theorem jLv_put {ad : Nat → Nat} {ls : List Value} {lsC : Array Slot} {n i : Nat} {v w : Value} (hi : i < ls.length) (hw : jV ad v = w) (h : lv_has lsC n ((i, w) :: (jLv ad ls).filter (fun q => !(q.1 == i) && !(q.1 + 1 == i && q.2.category == 2)))) : lv_has lsC n (jLv ad (jPut ls i v)) := by
  subst hw
  refine ⟨h.1, h.2.1, fun q hq => h.2.2 q ?_⟩
  obtain ⟨h1, h2, h3⟩ := jLv_mem.mp hq
  rw [jPut_len] at h1
  rw [jPut_get hi] at h2 h3
  by_cases e1 : q.1 = i
  · rw [if_pos e1] at h3
    rw [show q = (i, jV ad v) from Prod.ext e1 h3]
    exact List.mem_cons_self
  · rw [if_neg e1] at h2 h3
    by_cases e2 : q.1 + 1 = i ∧ (jGet ls q.1).category = 2
    · rw [if_pos e2] at h2; exact absurd rfl h2
    · rw [if_neg e2] at h2 h3
      refine List.mem_cons_of_mem _ (List.mem_filter.mpr ⟨jLv_mem.mpr ⟨h1, h2, h3⟩, ?_⟩)
      rw [h3, jV_cat]
      simp only [Bool.and_eq_true, Bool.not_eq_true', beq_eq_false_iff_ne, ne_eq, Bool.and_eq_false_iff, beq_iff_eq]
      refine ⟨e1, ?_⟩
      by_cases e3 : q.1 + 1 = i
      · exact Or.inr (fun e4 => e2 ⟨e3, e4⟩)
      · exact Or.inl e3
theorem jLv_put2 {ad : Nat → Nat} {ls : List Value} {lsC : Array Slot} {n i : Nat} {v w : Value} (hi : i + 1 < ls.length) (hw : jV ad v = w) (h : lv_has lsC n ((i, w) :: (jLv ad ls).filter (fun q => !(q.1 == i) && (!(q.1 == i + 1) && !(q.1 + 1 == i && q.2.category == 2))))) : lv_has lsC n (jLv ad (jPut2 ls i v)) := by
  subst hw
  refine ⟨h.1, h.2.1, fun q hq => h.2.2 q ?_⟩
  obtain ⟨h1, h2, h3⟩ := jLv_mem.mp hq
  rw [jPut2_len] at h1
  unfold jPut2 at h2 h3
  rw [jGet_set, jPut_len] at h2 h3
  by_cases e0 : q.1 = i + 1
  · rw [if_pos ⟨e0, hi⟩] at h2; exact absurd rfl h2
  · rw [if_neg (fun e => e0 e.1), jPut_get (by omega)] at h2 h3
    by_cases e1 : q.1 = i
    · rw [if_pos e1] at h3
      rw [show q = (i, jV ad v) from Prod.ext e1 h3]
      exact List.mem_cons_self
    · rw [if_neg e1] at h2 h3
      by_cases e2 : q.1 + 1 = i ∧ (jGet ls q.1).category = 2
      · rw [if_pos e2] at h2; exact absurd rfl h2
      · rw [if_neg e2] at h2 h3
        refine List.mem_cons_of_mem _ (List.mem_filter.mpr ⟨jLv_mem.mpr ⟨h1, h2, h3⟩, ?_⟩)
        rw [h3, jV_cat]
        simp only [Bool.and_eq_true, Bool.not_eq_true', beq_eq_false_iff_ne, ne_eq, Bool.and_eq_false_iff, beq_iff_eq]
        refine ⟨e1, e0, ?_⟩
        by_cases e3 : q.1 + 1 = i
        · exact Or.inr (fun e4 => e2 ⟨e3, e4⟩)
        · exact Or.inl e3
/-- at a method's start -/
theorem jLv_ent {ad : Nat → Nat} {n : Nat} {as : List Value} {lsC : Array Slot} (h : lv_has lsC n (lv_args 0 (as.map (jV ad)))) : lv_has lsC n (jLv ad (jEnt n as)) := by
  have key : ∀ (as : List Value) (k : Nat) (pre : List Value) (tl : List Value), pre.length = k → (∀ v ∈ tl, v = .null) → ∀ q, q ∈ jLv ad (pre ++ (jFlat as ++ tl)) → k ≤ q.1 → q ∈ lv_args k (as.map (jV ad)) := by
    intro as
    induction as with
    | nil =>
      intro k pre tl hk ht q hq hle
      exfalso
      obtain ⟨h1, h2, -⟩ := jLv_mem.mp hq
      apply h2
      simp only [jFlat, List.flatMap_nil, List.nil_append] at h1 ⊢
      have hm : jGet (pre ++ tl) q.1 ∈ tl := by
        unfold jGet
        rw [List.getD_eq_getElem?_getD, List.getElem?_append_right (by omega), List.getElem?_eq_getElem (by rw [List.length_append] at h1; omega)]
        exact List.getElem_mem _
      exact ht _ hm
    | cons a as ih =>
      intro k pre tl hk ht q hq hle
      have hsplit : jFlat (a :: as) = (if jCat2 a then [a, .null] else [a]) ++ jFlat as := by simp [jFlat]
      rw [hsplit] at hq
      obtain ⟨h1, h2, h3⟩ := jLv_mem.mp hq
      by_cases hc : jCat2 a = true
      · have hc2 : (jV ad a).category = 2 := by rw [jV_cat]; simpa [jCat2] using hc
        simp only [hc, if_true] at hq h1 h2 h3
        have e1 : pre ++ ([a, Value.null] ++ jFlat as ++ tl) = (pre ++ [a, .null]) ++ (jFlat as ++ tl) := by simp
        simp only [List.map_cons, lv_args, hc2, if_true]
        by_cases e : q.1 = k
        · have hg : jGet (pre ++ ([a, Value.null] ++ jFlat as ++ tl)) q.1 = a := by
            unfold jGet; rw [List.getD_eq_getElem?_getD, List.getElem?_append_right (by omega), e, hk]; simp
          rw [hg] at h3
          rw [show q = (k, jV ad a) from Prod.ext e h3]
          exact List.mem_cons_self
        · by_cases e' : q.1 = k + 1
          · exfalso; apply h2
            unfold jGet; rw [List.getD_eq_getElem?_getD, List.getElem?_append_right (by omega), e', hk]; simp
          · rw [e1] at hq
            exact List.mem_cons_of_mem _ (ih (k + 2) (pre ++ [a, .null]) tl (by simp [hk]) ht q hq (by omega))
      · have hc2 : ¬ (jV ad a).category = 2 := by rw [jV_cat]; simpa [jCat2] using hc
        simp only [hc, if_false, Bool.false_eq_true] at hq h1 h2 h3
        have e1 : pre ++ ([a] ++ jFlat as ++ tl) = (pre ++ [a]) ++ (jFlat as ++ tl) := by simp
        simp only [List.map_cons, lv_args, hc2, if_false]
        by_cases e : q.1 = k
        · have hg : jGet (pre ++ ([a] ++ jFlat as ++ tl)) q.1 = a := by
            unfold jGet; rw [List.getD_eq_getElem?_getD, List.getElem?_append_right (by omega), e, hk]; simp
          rw [hg] at h3
          rw [show q = (k, jV ad a) from Prod.ext e h3]
          exact List.mem_cons_self
        · rw [e1] at hq
          exact List.mem_cons_of_mem _ (ih (k + 1) (pre ++ [a]) tl (by simp [hk]) ht q hq (by omega))
  exact ⟨h.1, h.2.1, fun q hq => h.2.2 q (key as 0 [] _ rfl (fun v hv => List.eq_of_mem_replicate hv) q (by simpa [jEnt] using hq) (Nat.zero_le _))⟩
theorem jEnt_len {n : Nat} {as : List Value} (h : (jFlat as).length ≤ n) : (jEnt n as).length = n := by simp [jEnt]; omega
theorem jSum_map {ad : Nat → Nat} {st : List Value} : ((st.map (jV ad)).map fun v => v.category).sum = jSum st := by
  unfold jSum; rw [List.map_map]; congr 1; apply List.map_congr_left; intro v _; exact jV_cat
