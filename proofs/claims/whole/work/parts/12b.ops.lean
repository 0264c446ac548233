/-! fields and rows -/
theorem jC_at {a : Nat} (ha : a < 12) : vwCl[a]? = some ((jC a).1, (jC a).2.1, (jC a).2.2) := by
  match a, ha with
  | 0, _ => rfl
  | 1, _ => rfl
  | 2, _ => rfl
  | 3, _ => rfl
  | 4, _ => rfl
  | 5, _ => rfl
  | 6, _ => rfl
  | 7, _ => rfl
  | 8, _ => rfl
  | 9, _ => rfl
  | 10, _ => rfl
  | 11, _ => rfl
  | k + 12, h => exact absurd h (by omega)
theorem jC_n {a : Nat} (ha : a < 12) : (jC a).2.2 = jNf a := by
  match a, ha with
  | 0, _ => rfl
  | 1, _ => rfl
  | 2, _ => rfl
  | 3, _ => rfl
  | 4, _ => rfl
  | 5, _ => rfl
  | 6, _ => rfl
  | 7, _ => rfl
  | 8, _ => rfl
  | 9, _ => rfl
  | 10, _ => rfl
  | 11, _ => rfl
  | k + 12, h => exact absurd h (by omega)
theorem jC_ty {a : Nat} (ha : a < 12) : ∀ k, k < (jC a).2.2 → parseFieldDescriptor ((jC a).2.1 k).2.2.1 = some (jTy a k) := by
  match a, ha with
  | 0, _ => exact tyX0_ok
  | 1, _ => exact tyX1_ok
  | 2, _ => exact tyX2_ok
  | 3, _ => exact fun k h => absurd h (Nat.not_lt_zero k)
  | 4, _ => exact tyX4_ok
  | 5, _ => exact tyX5_ok
  | 6, _ => exact tyX6_ok
  | 7, _ => exact tyX7_ok
  | 8, _ => exact tyX8_ok
  | 9, _ => exact tyX9_ok
  | 10, _ => exact tyX10_ok
  | 11, _ => exact tyX11_ok
  | k + 12, h => exact absurd h (by omega)
theorem jC_nm {a : Nat} (ha : a < 12) : ∀ x, x < (jC a).2.2 → ∀ y, y < (jC a).2.2 → x ≠ y → ((jC a).2.1 x).2.1 ≠ ((jC a).2.1 y).2.1 := by
  match a, ha with
  | 0, _ => exact nmX0
  | 1, _ => exact nmX1
  | 2, _ => exact nmX2
  | 3, _ => exact fun k h => absurd h (Nat.not_lt_zero k)
  | 4, _ => exact nmX4
  | 5, _ => exact nmX5
  | 6, _ => exact nmX6
  | 7, _ => exact nmX7
  | 8, _ => exact nmX8
  | 9, _ => exact nmX9
  | 10, _ => exact nmX10
  | 11, _ => exact nmX11
  | k + 12, h => exact absurd h (by omega)
theorem ck_lay : (List.range 12).all (fun c => (List.range (jNf c)).all (fun k => decide (lw_tbl[(jLayL.getD c []).getD k 0]? = some (u_lay (jC c).1 (jC c).2.1 k)) && decide (((jC c).2.1 k).1 = (jC c).1))) = true := by decide +kernel
theorem ck_cls : (List.range 12).all (fun c => decide (lw_tbl[jInsL.getD c 0]? = some (.instantiable (jC c).1 (jC c).2.2)) && decide (lw_tbl[jIniL.getD c 0]? = some (.initialized (jC c).1))) = true := by decide +kernel
def jIsRf (t : FieldType) : Bool := match t with | .object _ => true | .array _ => true | _ => false
theorem ck_tk : ∀ a, a < 12 → ∀ b, b < jNf a → (jT a b = 0 ∧ jTy a b = .int) ∨ (jT a b = 1 ∧ jTy a b = .long) ∨ (jT a b = 2 ∧ jTy a b = .boolean) ∨ (jT a b = 3 ∧ jIsRf (jTy a b) = true) := by decide +kernel
theorem u_lay_good (C : String) (T : u_T) (k : Nat) : goodWord (u_lay C T k) = true := by unfold u_lay; split <;> rfl
theorem jC_ws {a : Nat} (ha : a < 12) : ∀ w ∈ u_ws (jC a).1 (jC a).2.1 (jC a).2.2, w ∈ jTbl := by
  intro w hw
  rw [jC_n ha] at hw
  obtain ⟨k, hk, rfl⟩ := List.mem_map.mp hw
  have h1 := List.all_eq_true.mp (List.all_eq_true.mp ck_lay a (List.mem_range.mpr ha)) k hk
  simp only [Bool.and_eq_true, decide_eq_true_eq] at h1
  exact jTbl_in h1.1 (u_lay_good _ _ _)
theorem jC_decl {a b : Nat} (ha : a < 12) (hb : b < jNf a) : ((jC a).2.1 b).1 = (jC a).1 := by
  have h1 := List.all_eq_true.mp (List.all_eq_true.mp ck_lay a (List.mem_range.mpr ha)) b (List.mem_range.mpr hb)
  simp only [Bool.and_eq_true, decide_eq_true_eq] at h1
  exact h1.2
theorem jC_ins {a : Nat} (ha : a < 12) : Cond.instantiable (jC a).1 (jC a).2.2 ∈ jTbl ∧ Cond.initialized (jC a).1 ∈ jTbl := by
  have h1 := List.all_eq_true.mp ck_cls a (List.mem_range.mpr ha)
  simp only [Bool.and_eq_true, decide_eq_true_eq] at h1
  exact ⟨jTbl_in h1.1 rfl, jTbl_in h1.2 rfl⟩
section JMEM
variable {p : Program} {l : Launch} {e : Env} {R : Room} {s : State} {m : MethodId} {args : Array Value} {below : List Frame} {meth : Method} {c0 : Code} {H : Heap} {locs : List Loc} {Q : State → Prop}
variable {M d z n0 e0 : Nat} {D : va_G} {cA : Nat → ClassId} {ad : Nat → Nat} {L : Nat} {xs : Nat → Int32} {pc a b c : Nat} {ls st ls' st' : List Value} {h h' : jM} {lsC : Array Slot}
theorem jPt_put {o : Nat} {ex : va_E} {H1 : Heap} {locs1 : List Loc} (hA : jPt z n0 e0 D cA ad L xs s h H locs) (hn : jN h' = jN h) (hx1 : jXn h' = jXn h) (hx2 : jXs h' = jXs h) (hx3 : jEx h' = jEx h) (he : jE cA ad h' o = ex) (hs : ∀ i, i ≠ o → jI h' i = jI h i ∧ jL h' i = jL h i ∧ jR h' i = jR h i) (hP : va_P D vwCl ((jW cA ad h).set o (ad o, ex)) H1) (hS : va_S (fun q => z ≤ q) s.heap H1 locs1) : jPt z n0 e0 D cA ad L xs s h' H1 locs1 := by
  obtain ⟨-, -, h1, h2, h3, ⟨h4, h5⟩, h6, h7⟩ := hA
  rw [jW_set hn he (fun i hi => jE_ne (hs i hi).1 (hs i hi).2.1 (hs i hi).2.2)] at hP
  exact ⟨hP, hS, by rw [hn]; exact h1, by rw [hn]; exact h2, h3, ⟨by rw [hx1]; exact h4, by rw [hx2]; exact h5⟩, by rw [hx3]; exact h6, by rw [hn, hx3]; exact h7⟩
theorem jFv_sI {o b k : Nat} {x : Int32} (hk : k ≠ b) : jFv ad (jsI h o b x) o c k = jFv ad h o c k := by
  unfold jFv
  have : jI (jsI h o b x) o k = jI h o k := by simp [jsI, jI, jU, hk]
  rw [this]; rfl
theorem jFv_sL {o b k : Nat} {x : Int64} (hk : k ≠ b) : jFv ad (jsL h o b x) o c k = jFv ad h o c k := by
  unfold jFv
  have : jL (jsL h o b x) o k = jL h o k := by simp [jsL, jL, jU, hk]
  rw [this]; rfl
theorem jFv_sR {o b k : Nat} {x : Nat} (hk : k ≠ b) : jFv ad (jsR h o b x) o c k = jFv ad h o c k := by
  unfold jFv
  have : jR (jsR h o b x) o k = jR h o k := by simp [jsR, jR, jU, hk]
  rw [this]; rfl
theorem jRow_I {o b i : Nat} {x : Int32} (hi : i ≠ o) : jI (jsI h o b x) i = jI h i ∧ jL (jsI h o b x) i = jL h i ∧ jR (jsI h o b x) i = jR h i := ⟨jU_row hi, rfl, rfl⟩
theorem jRow_L {o b i : Nat} {x : Int64} (hi : i ≠ o) : jI (jsL h o b x) i = jI h i ∧ jL (jsL h o b x) i = jL h i ∧ jR (jsL h o b x) i = jR h i := ⟨rfl, jU_row hi, rfl⟩
theorem jRow_R {o b i : Nat} {x : Nat} (hi : i ≠ o) : jI (jsR h o b x) i = jI h i ∧ jL (jsR h o b x) i = jL h i ∧ jR (jsR h o b x) i = jR h i := ⟨rfl, rfl, jU_row hi⟩
/-- a field's kind says what is read -/
theorem jFv_int {o k : Nat} (h1 : jT c k ≠ 1) (h3 : jT c k ≠ 3) : jFv ad h o c k = .int (jI h o k) := by
  unfold jFv; split
  · rename_i q; exact absurd q h1
  · rename_i q; exact absurd q h3
  · rfl
theorem jFv_long {o k : Nat} (h1 : jT c k = 1) : jFv ad h o c k = .long (jL h o k) := by unfold jFv; rw [h1]; rfl
theorem jFv_ref {o k : Nat} (h1 : jT c k = 3) (hr : jR h o k ≠ 9999) : jFv ad h o c k = .ref (ad (jR h o k)) := by unfold jFv; rw [h1]; simp [jRv, hr]
/-- a read: by a link of one's own, or of a nest mate -/
theorem jGetW (C : jCx M d z D cA ad L xs p R s m args meth c0) {n o : Nat} {r : List Value} {v : Value} {cells slots : Nat} (hdc : decode (jBy M) pc = .ok (.getfield n, 3)) (ha : a < 12) (hb1 : b < jNf a) (hw : Cond.fieldLink (jOwnS (jOn M)) n (jC a).1 ((jC a).2.1 b).2.1 ((jC a).2.1 b).2.2.1 ∈ jTbl ∨ Cond.fieldLinkNest (jOwnS (jOn M)) n (jC a).1 ((jC a).2.1 b).2.1 ((jC a).2.1 b).2.2.1 "TwoTowns" ∈ tables_1)
    (hA : jPt z n0 e0 D cA ad L xs s h H locs) (ho : o < jN h) (hoc : (jS o).1 = a) (hv : jFv ad h o a b = v)
    (kk : W p l e R s m args below meth c0 H locs cells slots Q (F0 m (pc + 3) lsC (v :: r))) : W p l e R s m args below meth c0 H locs cells slots Q (F0 m pc lsC (.ref (ad o) :: r)) := by
  obtain ⟨hx, hb, hml, hown, hts, hnm, hK, hSt, had, hfr, hlo, hz⟩ := C
  have he : (jW cA ad h)[o]? = some (ad o, .inr (a, jF ad h o a)) := by rw [jW_get ho, jE_o hoc (by omega)]
  have hvv : (jF ad h o a)[b]? = some v := by rw [jF_get hb1, hv]
  have hsame : ∀ x, s.fieldFound? ((jC a).2.1 b).1 ((jC a).2.1 b).2.1 ((jC a).2.1 b).2.2.1 = some x → s.fieldFound? (jC a).1 ((jC a).2.1 b).2.1 ((jC a).2.1 b).2.2.1 = some x := by rw [jC_decl ha hb1]; exact fun _ h9 => h9
  rcases hw with hw | hw
  · exact va_get (D := D) (ci := a) (v := v) (C := (jC a).1) (T := (jC a).2.1) (N := (jC a).2.2) hx hb hts (jC_ws ha) hown hK hA.1 o he (jC_at ha) b (by rw [jC_n ha]; exact hb1) (hts _ hw) hsame hvv hdc kk
  · exact va_getN (D := D) (ci := a) (v := v) (C := (jC a).1) (T := (jC a).2.1) (N := (jC a).2.2) hx hb hts (jC_ws ha) hown hK hA.1 o he (jC_at ha) b (by rw [jC_n ha]; exact hb1) (va_Nw.use rfl (hSt.2.2.2.2.2.2.2.1 _ _ _ _ _ _ hw)) hsame hvv hdc kk
theorem ow_getf (C : jCx M d z D cA ad L xs p R s m args meth c0) {n : Nat} (hdc : decode (jBy M) pc = .ok (.getfield n, 3)) (ha : a < 12) (hb1 : b < jNf a) (hT : jT a b = c) (hw : Cond.fieldLink (jOwnS (jOn M)) n (jC a).1 ((jC a).2.1 b).2.1 ((jC a).2.1 b).2.2.1 ∈ jTbl ∨ Cond.fieldLinkNest (jOwnS (jOn M)) n (jC a).1 ((jC a).2.1 b).2.1 ((jC a).2.1 b).2.2.1 "TwoTowns" ∈ tables_1)
    (hop : jOp (.getfield n) a b c ls st h = some (ls', st', h')) : jStepW p l e R s m args below meth c0 M z n0 e0 D cA ad L xs Q pc 3 ls st h ls' st' h' := by
  intro lsC H locs hll hl hA hcc hcs kk
  simp only [jOp] at hop
  split at hop
  · split at hop
    · rename_i ho
      split at hop
      · cases hop
        simp only [List.map_cons, jV] at kk ⊢
        exact jGetW C hdc ha hb1 hw hA ho.1 ho.2 (jFv_long hT) (kk _ _ _ hll hl hA)
      · split at hop
        · rename_i hr
          cases hop
          simp only [List.map_cons, jV] at kk ⊢
          exact jGetW C hdc ha hb1 hw hA ho.1 ho.2 (jFv_ref hT (by have := hA.2.2.1; omega)) (kk _ _ _ hll hl hA)
        · cases hop
      · rename_i h1 h3
        cases hop
        simp only [List.map_cons, jV] at kk ⊢
        exact jGetW C hdc ha hb1 hw hA ho.1 ho.2 (jFv_int (by rw [hT]; exact h1) (by rw [hT]; exact h3)) (kk _ _ _ hll hl hA)
    · cases hop
  · cases hop
/-- a write of a field -/
theorem jPutW (C : jCx M d z D cA ad L xs p R s m args meth c0) {n o : Nat} {r : List Value} {v : Value} {cells slots : Nat} (hdc : decode (jBy M) pc = .ok (.putfield n, 3)) (ha : a < 12) (hb1 : b < jNf a)
    (hw : (((jC a).2.1 b).2.2.2 = false ∧ (Cond.fieldLink (jOwnS (jOn M)) n (jC a).1 ((jC a).2.1 b).2.1 ((jC a).2.1 b).2.2.1 ∈ jTbl ∨ Cond.fieldLinkNest (jOwnS (jOn M)) n (jC a).1 ((jC a).2.1 b).2.1 ((jC a).2.1 b).2.2.1 "TwoTowns" ∈ tables_1)) ∨ (Cond.fieldLink (jOwnS (jOn M)) n (jC a).1 ((jC a).2.1 b).2.1 ((jC a).2.1 b).2.2.1 ∈ jTbl ∧ (jY M).name = "<init>" ∧ ((jC a).2.1 b).1 = jOwnS (jOn M)))
    (hA : jPt z n0 e0 D cA ad L xs s h H locs) (ho : o < jN h) (hoc : (jS o).1 = a) (hnr : narrow (jTy a b) v = v) (hft : fits (jTy a b) v = true) (hn : jN h' = jN h) (hx1 : jXn h' = jXn h) (hx2 : jXs h' = jXs h) (hx3 : jEx h' = jEx h) (hrow : ∀ i, i ≠ o → jI h' i = jI h i ∧ jL h' i = jL h i ∧ jR h' i = jR h i) (hF : jF ad h' o a = (jF ad h o a).set b v)
    (kk : ∀ (H' : Heap) (locs' : List Loc), jPt z n0 e0 D cA ad L xs s h' H' locs' → W p l e R s m args below meth c0 H' locs' cells slots Q (F0 m (pc + 3) lsC r)) : W p l e R s m args below meth c0 H locs cells slots Q (F0 m pc lsC (v :: .ref (ad o) :: r)) := by
  obtain ⟨hx, hb, hml, hown, hts, hnm, hK, hSt, had, hfr, hlo, hz⟩ := C
  have he : (jW cA ad h)[o]? = some (ad o, .inr (a, jF ad h o a)) := by rw [jW_get ho, jE_o hoc (by omega)]
  have hsame : ∀ x, s.fieldFound? ((jC a).2.1 b).1 ((jC a).2.1 b).2.1 ((jC a).2.1 b).2.2.1 = some x → s.fieldFound? (jC a).1 ((jC a).2.1 b).2.1 ((jC a).2.1 b).2.2.1 = some x := by rw [jC_decl ha hb1]; exact fun _ h9 => h9
  have hE : jE cA ad h' o = .inr (a, (jF ad h o a).set b v) := by rw [jE_o hoc (by omega), hF]
  have hD := jW_D (cA := cA) (h := h) had hA.2.2.1
  have hlt : b < (jC a).2.2 := by rw [jC_n ha]; exact hb1
  have hd := jC_ty ha b hlt
  by_cases hfin : ((jC a).2.1 b).2.2.2 = false
  · rcases hw with ⟨-, hw | hw⟩ | ⟨hw, -⟩
    · exact va_put (D := D) (ci := a) (v := v) (C := (jC a).1) (T := (jC a).2.1) (N := (jC a).2.2) hx hb hts (jC_ws ha) (jTy a) (jC_ty ha) (jC_nm ha) hown hK hA.1 hD hA.2.1 o he (jC_at ha) b hlt (hts _ hw) hsame hfin hd hnr hft (by rw [jF_len]; exact hb1) hdc (fun H1 locs1 hP1 _ hS1 => kk H1 locs1 (jPt_put hA hn hx1 hx2 hx3 hE hrow hP1 hS1))
    · exact va_putN (D := D) (ci := a) (v := v) (C := (jC a).1) (T := (jC a).2.1) (N := (jC a).2.2) hx hb hts (jC_ws ha) (jTy a) (jC_ty ha) (jC_nm ha) hown hK hA.1 hD hA.2.1 o he (jC_at ha) b hlt (va_Nw.use rfl (hSt.2.2.2.2.2.2.2.1 _ _ _ _ _ _ hw)) hsame hfin hd hnr hft (by rw [jF_len]; exact hb1) hdc (fun H1 locs1 hP1 _ hS1 => kk H1 locs1 (jPt_put hA hn hx1 hx2 hx3 hE hrow hP1 hS1))
    · exact va_put (D := D) (ci := a) (v := v) (C := (jC a).1) (T := (jC a).2.1) (N := (jC a).2.2) hx hb hts (jC_ws ha) (jTy a) (jC_ty ha) (jC_nm ha) hown hK hA.1 hD hA.2.1 o he (jC_at ha) b hlt (hts _ hw) hsame hfin hd hnr hft (by rw [jF_len]; exact hb1) hdc (fun H1 locs1 hP1 _ hS1 => kk H1 locs1 (jPt_put hA hn hx1 hx2 hx3 hE hrow hP1 hS1))
  · rcases hw with ⟨q, -⟩ | ⟨hw, hi, hdl⟩
    · exact absurd q hfin
    · exact va_putF (D := D) (ci := a) (v := v) (C := (jC a).1) (T := (jC a).2.1) (N := (jC a).2.2) hx hb hts (jC_ws ha) (jTy a) (jC_ty ha) (jC_nm ha) hown hK hA.1 hD hA.2.1 o he (jC_at ha) b hlt (hts _ hw) hsame (by simpa using hfin) (hnm hi) hdl hd hnr hft (by rw [jF_len]; exact hb1) hdc (fun H1 locs1 hP1 _ hS1 => kk H1 locs1 (jPt_put hA hn hx1 hx2 hx3 hE hrow hP1 hS1))
theorem ow_putf (C : jCx M d z D cA ad L xs p R s m args meth c0) {n : Nat} (hdc : decode (jBy M) pc = .ok (.putfield n, 3)) (ha : a < 12) (hb1 : b < jNf a) (hT : jT a b = c)
    (hw : (((jC a).2.1 b).2.2.2 = false ∧ (Cond.fieldLink (jOwnS (jOn M)) n (jC a).1 ((jC a).2.1 b).2.1 ((jC a).2.1 b).2.2.1 ∈ jTbl ∨ Cond.fieldLinkNest (jOwnS (jOn M)) n (jC a).1 ((jC a).2.1 b).2.1 ((jC a).2.1 b).2.2.1 "TwoTowns" ∈ tables_1)) ∨ (Cond.fieldLink (jOwnS (jOn M)) n (jC a).1 ((jC a).2.1 b).2.1 ((jC a).2.1 b).2.2.1 ∈ jTbl ∧ (jY M).name = "<init>" ∧ ((jC a).2.1 b).1 = jOwnS (jOn M)))
    (hop : jOp (.putfield n) a b c ls st h = some (ls', st', h')) : jStepW p l e R s m args below meth c0 M z n0 e0 D cA ad L xs Q pc 3 ls st h ls' st' h' := by
  intro lsC H locs hll hl hA hcc hcs kk
  simp only [jOp] at hop
  rcases ck_tk a ha b hb1 with ⟨t1, t2⟩ | ⟨t1, t2⟩ | ⟨t1, t2⟩ | ⟨t1, t2⟩
  · rw [← hT, t1] at hop
    simp only at hop
    split at hop
    · split at hop
      · rename_i x o r ho
        cases hop
        simp only [List.map_cons, jV] at kk ⊢
        exact jPutW C (h' := jsI h o b x) hdc ha hb1 hw hA ho.1 ho.2 (by rw [t2]; rfl) (by rw [t2]; rfl) rfl rfl rfl rfl (fun i hi => jRow_I hi) (jF_set hb1 (by rw [jFv_int (by rw [t1]; decide) (by rw [t1]; decide)]; simp [jsI, jI, jU]) (fun k hk => jFv_sI hk)) (fun H' locs' hA' => kk _ _ _ hll hl hA')
      · cases hop
    · cases hop
  · rw [← hT, t1] at hop
    simp only at hop
    split at hop
    · split at hop
      · rename_i x o r ho
        cases hop
        simp only [List.map_cons, jV] at kk ⊢
        exact jPutW C (h' := jsL h o b x) hdc ha hb1 hw hA ho.1 ho.2 (by rw [t2]; rfl) (by rw [t2]; rfl) rfl rfl rfl rfl (fun i hi => jRow_L hi) (jF_set hb1 (by rw [jFv_long t1]; simp [jsL, jL, jU]) (fun k hk => jFv_sL hk)) (fun H' locs' hA' => kk _ _ _ hll hl hA')
      · cases hop
    · cases hop
  · rw [← hT, t1] at hop
    simp only at hop
    split at hop
    · split at hop
      · rename_i x o r ho
        cases hop
        simp only [List.map_cons, jV] at kk ⊢
        exact jPutW C (h' := jsI h o b x) hdc ha hb1 hw hA ho.1.1 ho.1.2 (by rw [t2]; rcases ho.2 with rfl | rfl <;> rfl) (by rw [t2]; rcases ho.2 with rfl | rfl <;> rfl) rfl rfl rfl rfl (fun i hi => jRow_I hi) (jF_set hb1 (by rw [jFv_int (by rw [t1]; decide) (by rw [t1]; decide)]; simp [jsI, jI, jU]) (fun k hk => jFv_sI hk)) (fun H' locs' hA' => kk _ _ _ hll hl hA')
      · cases hop
    · cases hop
  · rw [← hT, t1] at hop
    simp only at hop
    split at hop
    · split at hop
      · rename_i x o r ho
        cases hop
        simp only [List.map_cons, jV] at kk ⊢
        have hx9 : x ≠ 9999 := Nat.ne_of_lt (Nat.lt_of_lt_of_le ho.2 (Nat.le_trans hA.2.2.1 (by decide)))
        refine jPutW C (h' := jsR h o b x) hdc ha hb1 hw hA ho.1.1 ho.1.2 ?_ ?_ rfl rfl rfl rfl (fun i hi => jRow_R hi) (jF_set hb1 (by rw [jFv_ref t1 (by simpa [jsR, jR, jU] using hx9)]; simp [jsR, jR, jU]) (fun k hk => jFv_sR hk)) (fun H' locs' hA' => kk _ _ _ hll hl hA')
        · cases hty : jTy a b <;> rw [hty] at t2 <;> first | rfl | exact absurd t2 (by decide)
        · cases hty : jTy a b <;> rw [hty] at t2 <;> first | rfl | exact absurd t2 (by decide)
      · cases hop
    · cases hop
end JMEM
