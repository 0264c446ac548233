/-! rows (arrays), new cells, the calls that need no walk -/
section JARR
variable {p : Program} {l : Launch} {e : Env} {R : Room} {s : State} {m : MethodId} {args : Array Value} {below : List Frame} {meth : Method} {c0 : Code} {H : Heap} {locs : List Loc} {Q : State → Prop}
variable {M d z n0 e0 : Nat} {D : va_G} {cA : Nat → ClassId} {ad : Nat → Nat} {L : Nat} {xs : Nat → Int32} {pc a b c : Nat} {ls st ls' st' : List Value} {h h' : jM} {lsC : Array Slot}
theorem jArr_at {o k : Nat} {x} (ho : o < jN h) (hk : (jS o).1 = 100 + k) (hx : jAr ad h o k = x) : (jW cA ad h)[o]? = some (ad o, .inl (cA k, (jS o).2, x)) := by rw [jW_get ho, jE_a hk, hx]
theorem ow_iald (C : jCx M d z D cA ad L xs p R s m args meth c0) (hdc : decode (jBy M) pc = .ok (.iaload, 1)) (hop : jOp .iaload a b c ls st h = some (ls', st', h')) : jStepW p l e R s m args below meth c0 M z n0 e0 D cA ad L xs Q pc 1 ls st h ls' st' h' := by
  obtain ⟨hx, hb, hml, hown, hts, hnm, hK, hSt, had, hfr, hlo, hz⟩ := C
  intro lsC H locs hll hl hA hcc hcs kk
  simp only [jOp] at hop
  split at hop
  · split at hop
    · split at hop
      · rename_i ho
        cases hop
        simp only [List.map_cons, jV] at kk ⊢
        exact va_iald hx hb hK hA.1 _ 0 (jArr_at (k := 0) ho.1 ho.2.1 rfl) rfl ho.2.2 hdc (kk _ _ _ hll hl hA)
      · cases hop
    · split at hop
      · rename_i ho
        obtain ⟨rfl, ho⟩ := ho
        cases hop
        simp only [List.map_cons, jV] at kk ⊢
        exact va_ti hx hb hSt.2.1 hA.2.1 ho rfl hdc (kk _ _ _ hll hl hA)
      · cases hop
    · split at hop
      · rename_i ho
        obtain ⟨rfl, ho⟩ := ho
        cases hop
        simp only [List.map_cons, jV] at kk ⊢
        have hh := hA.2.2.2.2.2.1
        rw [hh.1] at ho
        rw [hh.2] at kk
        exact va_sld hx hb hSt.2.2.2.2.2.1 (Nat.lt_of_lt_of_le hSt.2.2.2.2.2.2.1 hz) (Nat.not_le.mpr hSt.2.2.2.2.2.2.1) hA.2.1 ho hdc (kk _ _ _ hll hl hA)
      · cases hop
  · cases hop
theorem ow_alen (C : jCx M d z D cA ad L xs p R s m args meth c0) (hdc : decode (jBy M) pc = .ok (.arraylength, 1)) (hop : jOp .arraylength a b c ls st h = some (ls', st', h')) : jStepW p l e R s m args below meth c0 M z n0 e0 D cA ad L xs Q pc 1 ls st h ls' st' h' := by
  obtain ⟨hx, hb, hml, hown, hts, hnm, hK, hSt, had, hfr, hlo, hz⟩ := C
  intro lsC H locs hll hl hA hcc hcs kk
  simp only [jOp] at hop
  split at hop
  · split at hop
    · split at hop
      · rename_i o r x ho
        cases hop
        simp only [List.map_cons, jV] at kk ⊢
        obtain ⟨k, hk⟩ : ∃ k, (jS o).1 = 100 + k := ⟨(jS o).1 - 100, by omega⟩
        have hk4 : k < 4 := by omega
        have hty : ∃ ty, (jTys cA)[k]? = some (cA k, ty) := by
          match k, hk4 with
          | 0, _ => exact ⟨_, rfl⟩
          | 1, _ => exact ⟨_, rfl⟩
          | 2, _ => exact ⟨_, rfl⟩
          | 3, _ => exact ⟨_, rfl⟩
          | q + 4, h9 => exact absurd h9 (by omega)
        obtain ⟨ty, hty⟩ := hty
        exact va_alen hx hb hK hA.1 _ k (jArr_at (k := k) ho.1 hk rfl) hty rfl hdc (kk _ _ _ hll hl hA)
      · cases hop
    · split at hop
      · rename_i ho
        subst ho
        cases hop
        simp only [List.map_cons, jV] at kk ⊢
        have hh := hA.2.2.2.2.2.1
        rw [hh.1] at kk
        exact va_slen hx hb hSt.2.2.2.2.2.1 (Nat.lt_of_lt_of_le hSt.2.2.2.2.2.2.1 hz) (Nat.not_le.mpr hSt.2.2.2.2.2.2.1) hA.2.1 hdc (kk _ _ _ hll hl hA)
      · cases hop
  · cases hop
theorem ow_cald (C : jCx M d z D cA ad L xs p R s m args meth c0) (hdc : decode (jBy M) pc = .ok (.caload, 1)) (hop : jOp .caload a b c ls st h = some (ls', st', h')) : jStepW p l e R s m args below meth c0 M z n0 e0 D cA ad L xs Q pc 1 ls st h ls' st' h' := by
  obtain ⟨hx, hb, hml, hown, hts, hnm, hK, hSt, had, hfr, hlo, hz⟩ := C
  intro lsC H locs hll hl hA hcc hcs kk
  simp only [jOp] at hop
  split at hop
  · split at hop
    · rename_i ho
      cases hop
      simp only [List.map_cons, jV] at kk ⊢
      exact va_cald hx hb hK hA.1 _ 2 (jArr_at (k := 2) ho.1 ho.2.1 rfl) rfl ho.2.2 hdc (kk _ _ _ hll hl hA)
    · cases hop
  · cases hop
theorem ow_bald (C : jCx M d z D cA ad L xs p R s m args meth c0) (hdc : decode (jBy M) pc = .ok (.baload, 1)) (hop : jOp .baload a b c ls st h = some (ls', st', h')) : jStepW p l e R s m args below meth c0 M z n0 e0 D cA ad L xs Q pc 1 ls st h ls' st' h' := by
  obtain ⟨hx, hb, hml, hown, hts, hnm, hK, hSt, had, hfr, hlo, hz⟩ := C
  intro lsC H locs hll hl hA hcc hcs kk
  simp only [jOp] at hop
  split at hop
  · split at hop
    · rename_i ho
      cases hop
      simp only [List.map_cons, jV] at kk ⊢
      exact va_zald hx hb hK hA.1 _ 3 (jArr_at (k := 3) ho.1 ho.2.1 rfl) rfl ho.2.2 hdc (kk _ _ _ hll hl hA)
    · cases hop
  · cases hop
theorem ow_lald (C : jCx M d z D cA ad L xs p R s m args meth c0) (hdc : decode (jBy M) pc = .ok (.laload, 1)) (hop : jOp .laload a b c ls st h = some (ls', st', h')) : jStepW p l e R s m args below meth c0 M z n0 e0 D cA ad L xs Q pc 1 ls st h ls' st' h' := by
  obtain ⟨hx, hb, hml, hown, hts, hnm, hK, hSt, had, hfr, hlo, hz⟩ := C
  intro lsC H locs hll hl hA hcc hcs kk
  simp only [jOp] at hop
  split at hop
  · split at hop
    · rename_i ho
      cases hop
      simp only [List.map_cons, jV] at kk ⊢
      exact va_lald hx hb hK hA.1 _ 1 (jArr_at (k := 1) ho.1 ho.2.1 rfl) rfl ho.2.2 hdc (kk _ _ _ hll hl hA)
    · cases hop
  · cases hop
theorem ow_aald (C : jCx M d z D cA ad L xs p R s m args meth c0) (hdc : decode (jBy M) pc = .ok (.aaload, 1)) (hop : jOp .aaload a b c ls st h = some (ls', st', h')) : jStepW p l e R s m args below meth c0 M z n0 e0 D cA ad L xs Q pc 1 ls st h ls' st' h' := by
  obtain ⟨hx, hb, hml, hown, hts, hnm, hK, hSt, had, hfr, hlo, hz⟩ := C
  intro lsC H locs hll hl hA hcc hcs kk
  simp only [jOp] at hop
  split at hop
  · split at hop
    · rename_i j o r ho
      cases hop
      simp only [List.map_cons, jV] at kk ⊢
      have h9 : jR h o j.toNatClampNeg ≠ 9999 := by have := hA.2.2.1; have := ho.2; omega
      refine va_aldq hx hb hK hA.1 _ 4 (jArr_at (k := 4) ho.1.1 ho.1.2.1 rfl) rfl ho.1.2.2 hdc ?_
      simp only [h9, if_false, va_rf]
      exact kk _ _ _ hll hl hA
    · cases hop
  · cases hop
theorem jsI_ar {o j k : Nat} {x y : Int32} (h1 : k ≠ 1) (h4 : k ≠ 4) (hy : y = x) : jAr ad (jsI h o j x) o k = .inl (upd (jI h o) j y) := by
  subst hy
  have e : jI (jsI h o j y) o = upd (jI h o) j y := by funext q; simp [jsI, jI, jU, upd]
  unfold jAr; split
  · exact absurd rfl h1
  · exact absurd rfl h4
  · rw [e]
theorem ow_iast (C : jCx M d z D cA ad L xs p R s m args meth c0) (hdc : decode (jBy M) pc = .ok (.iastore, 1)) (hop : jOp .iastore a b c ls st h = some (ls', st', h')) : jStepW p l e R s m args below meth c0 M z n0 e0 D cA ad L xs Q pc 1 ls st h ls' st' h' := by
  obtain ⟨hx, hb, hml, hown, hts, hnm, hK, hSt, had, hfr, hlo, hz⟩ := C
  intro lsC H locs hll hl hA hcc hcs kk
  simp only [jOp] at hop
  split at hop
  · split at hop
    · rename_i x j o r ho
      cases hop
      simp only [List.map_cons, jV] at kk ⊢
      exact va_iast hx hb hK hA.1 (jW_D had hA.2.2.1) hA.2.1 _ 0 (jArr_at (k := 0) ho.1 ho.2.1 rfl) rfl ho.2.2 hdc (fun H1 locs1 hP1 _ hS1 => kk _ _ _ hll hl (jPt_put (h' := jsI h o j.toNatClampNeg x) hA rfl rfl rfl rfl (by rw [jE_a (k := 0) ho.2.1, jsI_ar (by decide) (by decide) rfl]) (fun i hi => jRow_I hi) hP1 hS1))
    · cases hop
  · cases hop
theorem ow_cast (C : jCx M d z D cA ad L xs p R s m args meth c0) (hdc : decode (jBy M) pc = .ok (.castore, 1)) (hop : jOp .castore a b c ls st h = some (ls', st', h')) : jStepW p l e R s m args below meth c0 M z n0 e0 D cA ad L xs Q pc 1 ls st h ls' st' h' := by
  obtain ⟨hx, hb, hml, hown, hts, hnm, hK, hSt, had, hfr, hlo, hz⟩ := C
  intro lsC H locs hll hl hA hcc hcs kk
  simp only [jOp] at hop
  split at hop
  · split at hop
    · rename_i x j o r ho
      cases hop
      simp only [List.map_cons, jV] at kk ⊢
      exact va_cast hx hb hK hA.1 (jW_D had hA.2.2.1) hA.2.1 _ 2 (jArr_at (k := 2) ho.1 ho.2.1 rfl) rfl ho.2.2 hdc (fun H1 locs1 hP1 _ hS1 => kk _ _ _ hll hl (jPt_put (h' := jsI h o j.toNatClampNeg (vp_nar .char x)) hA rfl rfl rfl rfl (by rw [jE_a (k := 2) ho.2.1, jsI_ar (by decide) (by decide) rfl]) (fun i hi => jRow_I hi) hP1 hS1))
    · cases hop
  · cases hop
theorem ow_bast (C : jCx M d z D cA ad L xs p R s m args meth c0) (hdc : decode (jBy M) pc = .ok (.bastore, 1)) (hop : jOp .bastore a b c ls st h = some (ls', st', h')) : jStepW p l e R s m args below meth c0 M z n0 e0 D cA ad L xs Q pc 1 ls st h ls' st' h' := by
  obtain ⟨hx, hb, hml, hown, hts, hnm, hK, hSt, had, hfr, hlo, hz⟩ := C
  intro lsC H locs hll hl hA hcc hcs kk
  simp only [jOp] at hop
  split at hop
  · split at hop
    · rename_i x j o r ho
      cases hop
      simp only [List.map_cons, jV] at kk ⊢
      exact va_zast hx hb hK hA.1 (jW_D had hA.2.2.1) hA.2.1 _ 3 (jArr_at (k := 3) ho.1.1 ho.1.2.1 rfl) rfl ho.1.2.2 hdc (fun H1 locs1 hP1 _ hS1 => kk _ _ _ hll hl (jPt_put (h' := jsI h o j.toNatClampNeg x) hA rfl rfl rfl rfl (by rw [jE_a (k := 3) ho.1.2.1, jsI_ar (by decide) (by decide) (show vp_nar .boolean x = x by rcases ho.2 with rfl | rfl <;> decide)]) (fun i hi => jRow_I hi) hP1 hS1))
    · cases hop
  · cases hop
theorem ow_last (C : jCx M d z D cA ad L xs p R s m args meth c0) (hdc : decode (jBy M) pc = .ok (.lastore, 1)) (hop : jOp .lastore a b c ls st h = some (ls', st', h')) : jStepW p l e R s m args below meth c0 M z n0 e0 D cA ad L xs Q pc 1 ls st h ls' st' h' := by
  obtain ⟨hx, hb, hml, hown, hts, hnm, hK, hSt, had, hfr, hlo, hz⟩ := C
  intro lsC H locs hll hl hA hcc hcs kk
  simp only [jOp] at hop
  split at hop
  · split at hop
    · rename_i x j o r ho
      cases hop
      simp only [List.map_cons, jV] at kk ⊢
      have e : jL (jsL h o j.toNatClampNeg x) o = vp_updL (jL h o) j.toNatClampNeg x := by funext q; simp [jsL, jL, jU, vp_updL]
      exact va_last hx hb hK hA.1 (jW_D had hA.2.2.1) hA.2.1 _ 1 (jArr_at (k := 1) ho.1 ho.2.1 rfl) rfl ho.2.2 hdc (fun H1 locs1 hP1 _ hS1 => kk _ _ _ hll hl (jPt_put (h' := jsL h o j.toNatClampNeg x) hA rfl rfl rfl rfl (by rw [jE_a (k := 1) ho.2.1]; show Sum.inl (_, _, Sum.inr (Sum.inl (jL (jsL h o j.toNatClampNeg x) o))) = _; rw [e]) (fun i hi => jRow_L hi) hP1 hS1))
    · cases hop
  · cases hop
theorem ow_aast (C : jCx M d z D cA ad L xs p R s m args meth c0) (hdc : decode (jBy M) pc = .ok (.aastore, 1)) (hop : jOp .aastore a b c ls st h = some (ls', st', h')) : jStepW p l e R s m args below meth c0 M z n0 e0 D cA ad L xs Q pc 1 ls st h ls' st' h' := by
  obtain ⟨hx, hb, hml, hown, hts, hnm, hK, hSt, had, hfr, hlo, hz⟩ := C
  intro lsC H locs hll hl hA hcc hcs kk
  simp only [jOp] at hop
  split at hop
  · split at hop
    · rename_i x j o r ho
      cases hop
      simp only [List.map_cons, jV] at kk ⊢
      have hx9 : x ≠ 9999 := Nat.ne_of_lt (Nat.lt_of_lt_of_le ho.2.1 (Nat.le_trans hA.2.2.1 (by decide)))
      have e : (fun q => if jR (jsR h o j.toNatClampNeg x) o q = 9999 then none else some (ad (jR (jsR h o j.toNatClampNeg x) o q))) = va_up (fun q => if jR h o q = 9999 then none else some (ad (jR h o q))) j.toNatClampNeg (some (ad x)) := by
        funext q
        by_cases hq : q = j.toNatClampNeg
        · subst hq; simp [jsR, jR, jU, va_up, hx9]
        · simp [jsR, jR, jU, va_up, hq]; rfl
      have hxs : (jW cA ad h)[x]? = some (ad x, .inr (6, jF ad h x 6)) := by rw [jW_get ho.2.1, jE_o ho.2.2 (by decide)]
      exact va_astq hx hb hK hA.1 (jW_D had hA.2.2.1) hA.2.1 _ 4 x 6 (jArr_at (k := 4) ho.1.1 ho.1.2.1 rfl) rfl hxs (jC_at (a := 6) (by decide)) ho.1.2.2 hdc (fun H1 locs1 hP1 _ hS1 => kk _ _ _ hll hl (jPt_put (h' := jsR h o j.toNatClampNeg x) hA rfl rfl rfl rfl (by rw [jE_a (k := 4) ho.1.2.1]; show Sum.inl (_, _, Sum.inr (Sum.inr (Sum.inr (Sum.inr (fun q => if jR (jsR h o j.toNatClampNeg x) o q = 9999 then none else some (ad (jR (jsR h o j.toNatClampNeg x) o q))))))) = _; rw [e]) (fun i hi => jRow_R hi) hP1 hS1))
    · cases hop
  · cases hop
/-! new cells -/
theorem jS_lt {n q : Nat} (h : (jS n).1 = q) (hq : q < 999) : n < 120 := by
  rcases Nat.lt_or_ge n 120 with h1 | h1
  · exact h1
  · have : jS n = (999, 0) := by
      unfold jS
      rw [List.getD_eq_getElem?_getD, List.getElem?_eq_none (by show 120 ≤ n; exact h1)]; rfl
    rw [this] at h; simp at h; omega
theorem ck_shape : ∀ n, n < 120 → (jS n).1 < 12 → (jS n).2 = jNf (jS n).1 := by decide +kernel
theorem jW_nw : jW cA ad (jNw h) = jW cA ad h ++ [(ad (jN h), jE cA ad (jNw h) (jN h))] := by
  have e : jN (jNw h) = jN h + 1 := rfl
  unfold jW
  rw [e, List.range_succ, List.map_append]
  congr 1
  apply List.map_congr_left
  intro i hi
  have hi := List.mem_range.mp hi
  have hne : i ≠ jN h := by omega
  rw [jE_ne (h := h) (h' := jNw h) (i := i)]
  · funext k; simp [jNw, jI, jZ, hne]
  · funext k; simp [jNw, jL, jZ, hne]
  · funext k; simp [jNw, jR, jZ, hne]
theorem jPt_nw {H1 : Heap} (hA : jPt z n0 e0 D cA ad L xs s h H locs) (hN : jN h < 120) (hs : H.size = z + jN h) (had : ∀ i, i < 1000 → ad i = z + i) (z1 : H1.size = z + jN h + 1) (o1 : ∀ q, q < z + jN h → H1[q]? = H[q]?) (hnew : va_at D vwCl (ad (jN h), jE cA ad (jNw h) (jN h)) H1) : jPt z n0 e0 D cA ad L xs s (jNw h) H1 locs := by
  obtain ⟨hP, hS, h1, h2, h3, h4, h5, h6⟩ := hA
  refine ⟨?_, ⟨by have := hS.1; omega, fun q g1 g2 => (o1 q (by have := hS.1; omega)).trans (hS.2.1 q g1 g2), hS.2.2⟩, ?_, ?_, h3, h4, h5, fun _ => h6 hN⟩
  · rw [jW_nw]
    refine va_P.app (hP.kept fun k q hq => ?_) (fun k q hq => ?_)
    · obtain ⟨hk, rfl⟩ := jW_of hq
      exact o1 _ (by show ad k < _; rw [had k (by omega)]; omega)
    · have hz : k < 1 := (List.getElem?_eq_some_iff.mp hq).1
      rw [show k = 0 by omega] at hq
      cases hq
      exact hnew
  · show jN h + 1 ≤ 120; omega
  · show n0 ≤ jN h + 1; omega
theorem ow_new (C : jCx M d z D cA ad L xs p R s m args meth c0) {n : Nat} (hdc : decode (jBy M) pc = .ok (.new n, 3)) (ha : a < 12) (hw : Cond.classLink (jOwnS (jOn M)) n (jC a).1 ∈ jTbl) (hop : jOp (.new n) a b c ls st h = some (ls', st', h')) : jStepW p l e R s m args below meth c0 M z n0 e0 D cA ad L xs Q pc 3 ls st h ls' st' h' := by
  obtain ⟨hx, hb, hml, hown, hts, hnm, hK, hSt, had, hfr, hlo, hz⟩ := C
  intro lsC H locs hll hl hA hcc hcs kk
  simp only [jOp] at hop
  split at hop
  · rename_i hs
    cases hop
    simp only [List.map_cons, jV] at kk
    have hN : jN h < 120 := jS_lt hs (by omega)
    refine jSize fun hsz => ?_
    have hsz2 := jSizeEq had hz hA rfl hsz hN
    have hKn := hK.1 a _ (jC_at ha)
    have hnf := jC_n ha
    have hsl : (jS (jN h)).2 = jNf a := by
      have := ck_shape (jN h) hN
      rw [hs] at this
      exact this (by omega)
    have e1 : jK (jNw h) - (n0 + e0) = jK h - (n0 + e0) + 1 := by show jN h + 1 + jEx h - (n0 + e0) = jN h + jEx h - (n0 + e0) + 1; have := hA.2.2.2.1; have := hA.2.2.2.2.2.2.1; omega
    have e2 : jTt (jNw h) - (jTot n0 + 16 * e0) = jTt h - (jTot n0 + 16 * e0) + (jC a).2.2 := by
      show jTot (jN h + 1) + 16 * jEx h - _ = jTot (jN h) + 16 * jEx h - _ + _
      rw [jTot_s, hsl, hnf]; have := jTot_m hA.2.2.2.1; have := hA.2.2.2.2.2.2.1; omega
    rw [e1] at hcc; rw [e2] at hcs
    refine W.newcK hx hb hown (hts _ hw) (hts _ (jC_ins ha).1) (hts _ (jC_ins ha).2) rfl hdc hcc hcs hKn.2.1 hsz2 fun H1 kC hkC g1 g2 g3 => ?_
    rw [← e1, ← e2]
    have hadn : z + jN h = ad (jN h) := (had _ (by omega)).symm
    refine W.eq (g2 := F0 m (pc + 3) lsC (.ref (ad (jN h)) :: st.map (jV ad))) (by rw [hadn]) ?_
    refine kk _ _ _ hll hl (jPt_nw hA hN hsz2 had g2 g3 ?_)
    rw [jE_o hs (by omega)]
    refine ⟨_, jC_at ha, ?_⟩
    rw [← hadn]
    refine (u_born (jTy a) hts (jC_ws ha) hKn hkC g1 (jC_ty ha)).to (fun k hk => ?_)
    rw [hnf] at hk
    show _ = (jF ad (jNw h) (jN h) a).getD k .null
    rw [List.getD_eq_getElem?_getD, jF_get hk]
    show defaultValue (jTy a k) = jFv ad (jNw h) (jN h) a k
    rcases ck_tk a ha k hk with ⟨t1, t2⟩ | ⟨t1, t2⟩ | ⟨t1, t2⟩ | ⟨t1, t2⟩
    · rw [t2, jFv_int (by rw [t1]; decide) (by rw [t1]; decide)]; simp [jNw, jI, jZ, defaultValue]
    · rw [t2, jFv_long t1]; simp [jNw, jL, jZ, defaultValue]
    · rw [t2, jFv_int (by rw [t1]; decide) (by rw [t1]; decide)]; simp [jNw, jI, jZ, defaultValue]
    · have e : jFv ad (jNw h) (jN h) a k = .null := by unfold jFv; rw [t1]; simp [jRv, jNw, jR, jZ]
      rw [e]
      cases hty : jTy a k <;> rw [hty] at t2 <;> first | rfl | exact absurd t2 (by decide)
  · cases hop
end JARR
