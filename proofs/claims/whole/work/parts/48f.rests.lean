/-! the law's own call of rests -/
theorem jOfH {l : Launch} {y : MethodName} {ws ws' : List Cond} {rm : Room} {Pc : Array Value → State → Prop} {Qc : Array Value → State → Outcome → State → Prop} {mc ms : Nat} {free : Addr → Prop} {cc : ByteArray} {maxL : Nat} {ret : Option FieldType} {hh : List (Nat × Nat × Nat × Nat)} (hy : plainName y.cls = true) (hw : ws = Cond.codeWith y cc maxL ret hh :: ws')
    (body : ∀ p e s m args below meth c s₁, BodyLoose p l y (headSpec ws rm) cc maxL ret e s m args below meth c s₁ → c.maxLocals = maxL → Pc args s → W p l e (headSpec ws rm).room s m args below meth c s.heap [] 0 0 (MQ below Qc args s mc ms free) (entryFrame m args maxL)) : Met l y ws rm Pc Qc mc ms free := by
  refine MetFree.of_bodyS (code := cc) (maxLocals := maxL) (ret := ret) hy (fun args s m h hn => ?_) (fun p e s m args below meth c s₁ B hml hP _ => ?_)
  · obtain ⟨m9, meth, c, hn9, h1, h2, h3, h4, -, h5, h6, -⟩ := Cond.codeWith_spec (atoms_spec (ws := ws) h _ (by rw [hw]; exact List.mem_cons_self))
    cases hn.symm.trans hn9
    exact ⟨meth, c, h1, h2, h3, h4, h5, h6⟩
  · obtain ⟨t, a1, o, b1, b2, b3⟩ := body p e s m args below meth c s₁ B hml hP s₁ (by rw [B.state]; rfl) (Stand.of_body B)
    exact ⟨t, o, a1, b1, b2, ⟨b3.1, b3.2⟩⟩
def rmL (mc ms : Nat) : Room := { frames := 7, cells := mc, slots := ms, locals := 200 }
theorem lRstS {l : Launch} {z : Nat} {D : va_G} {cA : Nat → ClassId} {ad : Nat → Nat} {L : Nat} {xs : Nat → Int32} {h : jM} {o t : Nat} {p0 p1 p2 p3 : Int32} (ho : o < jN h ∧ (jS o).1 = 10) (ht : t < jN h ∧ (jS t).1 = 101 ∧ 0 < (jS t).2) (had : ∀ i, i < 1000 → ad i = z + i) (hn : jN h ≤ 120) (hx1 : jXn h = L) (hx2 : jXs h = xs) (hex : jN h < 120 → jEx h = 0) {v : Int32} (hv : jRests p0 p1 p2 p3 = some v) : Met l yLrs wLrs (rmL 0 0) (jPcv z D cA ad L xs [.ref o, .int p0, .int p1, .int p2, .int p3, .ref t] h) (jQcv z D cA ad L xs (some (.int 0)) (jsL h t 0 v.toInt64)) 0 0 (fun q => z ≤ q) := by
  refine jOfH (cc := method_3_code) (maxL := 7) (ret := some .int) (hh := [(0, 14, 17, 13)]) (by decide) rfl ?_
  intro p e s m args below meth c s₁ B hml hP0
  obtain ⟨rfl, hz, hsz, hP, hK, hSt⟩ := hP0
  have hx := B.exec
  have hb := B.bytes
  have hr := B.returns
  have hts := atoms_spec (ws := wLrs) B.pre
  have ht2 := fun w (hw : w ∈ jTbl) => hts w (List.mem_cons_of_mem _ hw)
  have hown : s.vm.findClass "TwoTownsLaw" = some m.cls := findClass_of_methodNamed B.named
  have hlocks := B.notSynchronized
  have hA : jPt z (jN h) (jEx h) D cA ad L xs s h s.heap [] := ⟨hP, va_S.rf, hn, Nat.le_refl _, hsz, ⟨hx1, hx2⟩, Nat.le_refl _, hex⟩
  have hrc := va_recv (ci := 10) hK hP (jC_at (a := 10) (by decide)) (show (jW cA ad h)[o]? = some (ad o, .inr (10, jF ad h o 10)) by rw [jW_get ho.1, jE_o ho.2 (by omega)])
  rw [show (jC 10).1 = "TwoTowns" by decide +kernel] at hrc
  have hl := lv_entry ([.ref o, .int p0, .int p1, .int p2, .int p3, .ref t].map (jV ad)) (n := 7) (Nat.le_of_ble_eq_true rfl)
  rw [lg_entry_eq]
  generalize (lg_sl ([.ref o, .int p0, .int p1, .int p2, .int p3, .ref t].map (jV ad)) ++ List.replicate (7 - (lg_sl ([.ref o, .int p0, .int p1, .int p2, .int p3, .ref t].map (jV ad))).length) Slot.unset).toArray = ls at hl ⊢
  have hl : lv_has ls 7 [(0, .ref (ad o)), (1, .int p0), (2, .int p1), (3, .int p2), (4, .int p3), (5, .ref (ad t))] := hl
  refine lv_aload hx hb (i := 5) (by decide +kernel) (lv_at hl 5 rfl) ?_
  refine lv_iconst hx hb (n := 0) (v := 0) (by decide +kernel) rfl ?_
  refine lv_aload_n hx hb (k := 0) (by decide +kernel) rfl (lv_at hl 0 rfl) ?_
  refine lv_iload_n hx hb (k := 1) (by decide +kernel) rfl (lv_at hl 1 rfl) ?_
  refine lv_iload_n hx hb (k := 2) (by decide +kernel) rfl (lv_at hl 2 rfl) ?_
  refine lv_iload_n hx hb (k := 3) (by decide +kernel) rfl (lv_at hl 3 rfl) ?_
  refine lv_iload hx hb (i := 4) (by decide +kernel) (lv_at hl 4 rfl) ?_
  refine jRdW (va_runV (As := [.int p0, .int p1, .int p2, .int p3]) (b := ad o) (rest := [.int 0, .ref (ad t)]) (n := 4) ⟨hx, hb, hml, hown, ht2⟩ (rRstS (l := l) (o := ad o) hv) ⟨callB_of 4 ht2 (gdIn (jTbl_any ck_t1.2.2.2.1)) rfl rfl rfl (ht2 _ (tAl_in (i := 6) rfl)) (ht2 _ (tAl_in (i := 7) rfl)) ⟨by decide, by decide, by decide⟩ ⟨Nat.le_of_ble_eq_true rfl, Nat.le_of_ble_eq_true rfl⟩, ht2 _ (tAl_in (i := 8) rfl), ht2 _ (tAl_in (i := 9) rfl)⟩ ⟨jPc0_blind, hrc, fun U hU hW => ⟨rfl, trivial⟩⟩ rfl rfl hl.1 rfl (lv_room (Nat.le_of_ble_eq_true rfl)) (show decode method_3_code 9 = .ok (.invokevirtual 7, 3) by decide +kernel) ⟨Nat.le_refl _, Nat.le_refl _⟩) ?_
  refine lv_i2l hx hb (v := v.toInt64) (by decide +kernel) rfl ?_
  have e9 : jL (jsL h t 0 v.toInt64) t = vp_updL (jL h t) (0 : Int32).toNatClampNeg v.toInt64 := by funext q; simp [jsL, jL, jU, vp_updL]
  refine va_last hx hb hK hA.1 (jW_D had hA.2.2.1) hA.2.1 _ 1 (jArr_at (k := 1) ht.1 ht.2.1 rfl) rfl (i := 0) (fun q => q.elim (fun q => absurd q (by decide)) (fun q => absurd ht.2.2 (Nat.not_lt.mpr q))) (by decide +kernel) (fun H1 locs1 hP1 _ hS1 => ?_)
  have hA1 : jPt z (jN h) (jEx h) D cA ad L xs s (jsL h t 0 v.toInt64) H1 locs1 := jPt_put (h' := jsL h t 0 v.toInt64) hA rfl rfl rfl rfl (by rw [jE_a (k := 1) ht.2.1]; show Sum.inl (_, _, Sum.inr (Sum.inl (jL (jsL h t 0 v.toInt64) t))) = _; rw [e9]) (fun i hi => jRow_L hi) hP1 hS1
  refine lv_goto hx hb (off := 7) (tgt := 21) (by decide +kernel) rfl ?_
  refine lv_iconst hx hb (n := 0) (v := 0) (by decide +kernel) rfl ?_
  exact W.iret hx hb hr (fun t ht _ => ⟨rfl, ⟨hA1.2.2.1, hA1.2.2.2.2.2.1, hA1.2.2.2.2.2.2.2⟩, by rw [ht]; exact hA1.1, hA1.2.1.F ht⟩) hA1.2.1.2.2 (by decide +kernel)
section JTHR
variable {p : Program} {l : Launch} {e : Env} {R : Room} {s : State} {m : MethodId} {args : Array Value} {below : List Frame} {meth : Method} {c : Code} {H : Heap} {locs : List Loc} {cells slots pc : Nat} {Q : State → Prop} {lsC : Array Slot} {st0 rest : List Value}
theorem jThrW (hr : vx_Run p l e R s m args below meth c H locs cells slots 1 6 (F0 m pc lsC st0) rest (fun _ _ _ => False) jXC (fun _ => False))
    (kk : ∀ (q : Addr) (H1 : Heap) (ce : Cell), H.size ≤ H1.size → (∀ i : Nat, i < H.size → H1[i]? = H[i]?) → H1[q]? = some ce → ce.vm = .none → s.vm.findClass nSee = some ce.cls → vx_W p l e R s m args below meth c H1 locs (cells + 1) (slots + 6) Q (F0 m pc lsC rest) q) : W p l e R s m args below meth c H locs cells slots Q (F0 m pc lsC st0) := by
  intro T hT X
  rcases hr T hT X with ⟨v, st₀, t, T', L9, h0, X', hL, e1, e2, hf, st⟩ | ⟨q, st₀, t, T', L9, E, ce, h0, X', hL, e1, e2, ⟨rfl, k1, k2⟩, hce, hcv, hcl, st⟩
  · exact hf.elim
  · have hL9 : L9 = [] := List.eq_nil_iff_forall_not_mem.mpr (fun z hz => hL z hz)
    subst hL9
    rw [List.append_nil] at X'
    rw [h0] at k1 k2
    obtain ⟨t2, a1, b1⟩ := kk q T'.heap ce (by rw [e1]; exact k1) (by rw [e1]; exact k2) (by rw [e1]; exact hce) hcv hcl T' rfl X'
    exact ⟨t2, st.trans a1, b1⟩
theorem jWid {g : JFrame} {k n : Nat} (h1 : cells ≤ k) (h2 : slots ≤ n) (kk : W p l e R s m args below meth c H locs k n Q g) : W p l e R s m args below meth c H locs cells slots Q g := fun T hT X => kk T hT (stand_widen X h1 h2)
end JTHR
theorem lRstN {l : Launch} {z : Nat} {D : va_G} {cA : Nat → ClassId} {ad : Nat → Nat} {L : Nat} {xs : Nat → Int32} {h : jM} {o t : Nat} {p0 p1 p2 p3 : Int32} (ho : o < jN h ∧ (jS o).1 = 10) (ht : t < jN h ∧ (jS t).1 = 101 ∧ 0 < (jS t).2) (had : ∀ i, i < 1000 → ad i = z + i) (hn : jN h ≤ 120) (hx1 : jXn h = L) (hx2 : jXs h = xs) (hex : jN h < 120 → jEx h = 0) (hst : l.stackTraces = false) (h120 : 120 ≤ jN h) (hv : jRests p0 p1 p2 p3 = none) : Met l yLrs wLrs (rmL 1 16) (jPcv z D cA ad L xs [.ref o, .int p0, .int p1, .int p2, .int p3, .ref t] h) (jQcv z D cA ad L xs (some (.int 1)) (jXp h)) 1 16 (fun q => z ≤ q) := by
  refine jOfH (cc := method_3_code) (maxL := 7) (ret := some .int) (hh := [(0, 14, 17, 13)]) (by decide) rfl ?_
  intro p e s m args below meth c s₁ B hml hP0
  obtain ⟨rfl, hz, hsz, hP, hK, hSt⟩ := hP0
  have hx := B.exec
  have hb := B.bytes
  have hr := B.returns
  have hts := atoms_spec (ws := wLrs) B.pre
  have ht2 := fun w (hw : w ∈ jTbl) => hts w (List.mem_cons_of_mem _ hw)
  have hown : s.vm.findClass "TwoTownsLaw" = some m.cls := findClass_of_methodNamed B.named
  have hlocks := B.notSynchronized
  have hA : jPt z (jN h) (jEx h) D cA ad L xs s h s.heap [] := ⟨hP, va_S.rf, hn, Nat.le_refl _, hsz, ⟨hx1, hx2⟩, Nat.le_refl _, hex⟩
  have hrc := va_recv (ci := 10) hK hP (jC_at (a := 10) (by decide)) (show (jW cA ad h)[o]? = some (ad o, .inr (10, jF ad h o 10)) by rw [jW_get ho.1, jE_o ho.2 (by omega)])
  rw [show (jC 10).1 = "TwoTowns" by decide +kernel] at hrc
  have hl := lv_entry ([.ref o, .int p0, .int p1, .int p2, .int p3, .ref t].map (jV ad)) (n := 7) (Nat.le_of_ble_eq_true rfl)
  rw [lg_entry_eq]
  generalize (lg_sl ([.ref o, .int p0, .int p1, .int p2, .int p3, .ref t].map (jV ad)) ++ List.replicate (7 - (lg_sl ([.ref o, .int p0, .int p1, .int p2, .int p3, .ref t].map (jV ad))).length) Slot.unset).toArray = ls at hl ⊢
  have hl : lv_has ls 7 [(0, .ref (ad o)), (1, .int p0), (2, .int p1), (3, .int p2), (4, .int p3), (5, .ref (ad t))] := hl
  have htab := vx_table (x := yLrs) B (hts _ List.mem_cons_self)
  refine lv_aload hx hb (i := 5) (by decide +kernel) (lv_at hl 5 rfl) ?_
  refine lv_iconst hx hb (n := 0) (v := 0) (by decide +kernel) rfl ?_
  refine lv_aload_n hx hb (k := 0) (by decide +kernel) rfl (lv_at hl 0 rfl) ?_
  refine lv_iload_n hx hb (k := 1) (by decide +kernel) rfl (lv_at hl 1 rfl) ?_
  refine lv_iload_n hx hb (k := 2) (by decide +kernel) rfl (lv_at hl 2 rfl) ?_
  refine lv_iload_n hx hb (k := 3) (by decide +kernel) rfl (lv_at hl 3 rfl) ?_
  refine lv_iload hx hb (i := 4) (by decide +kernel) (lv_at hl 4 rfl) ?_
  refine jThrW (vx_runV (As := [.int p0, .int p1, .int p2, .int p3]) (b := ad o) (rest := [.int 0, .ref (ad t)]) (n := 4) ⟨hx, hb, hml, hown, ht2⟩ (rRstN (l := l) (z := z) (o := ad o) hst hv) ⟨callB_of 4 ht2 (gdIn (jTbl_any ck_t1.2.2.2.1)) rfl rfl rfl (ht2 _ (tAl_in (i := 6) rfl)) (ht2 _ (tAl_in (i := 7) rfl)) ⟨by decide, by decide, by decide⟩ ⟨Nat.le_of_ble_eq_true rfl, Nat.le_of_ble_eq_true rfl⟩, ht2 _ (tAl_in (i := 8) rfl), ht2 _ (tAl_in (i := 9) rfl)⟩ ⟨jPcX_blind, hrc, fun U hU hW => ⟨rfl, ?_⟩⟩ rfl rfl hl.1 rfl (lv_room (Nat.le_of_ble_eq_true rfl)) (show decode method_3_code 9 = .ok (.invokevirtual 7, 3) by decide +kernel) ⟨Nat.le_of_ble_eq_true rfl, Nat.le_of_ble_eq_true rfl⟩) (fun q H1 ce k1 k2 k3 k4 k5 => ?_)
  · have h1 := (jS5.moved hW.alike hSt.2.2.2.2.1).2.2
    rw [← hU] at h1
    exact h1
  · refine jCatch (own := "TwoTownsLaw") (name := nSee) (E := nSee) hown ⟨0, 14, 17, 13⟩ [] htab (by decide) (by decide) (ht2 _ (tAl_in (i := 14) rfl)) (va_Nw.use rfl (hSt.2.2.2.2.1.2.2.2.2 (.castable nSee nSee) (by decide))) k3 k4 k5 ?_
    refine lv_astore hx hb (i := 6) (by decide +kernel) hl (by decide) rfl (fun ls1 hl1 => ?_)
    refine lv_iconst hx hb (n := 1) (v := 1) (by decide +kernel) rfl ?_
    refine jWid (k := 1) (n := 16) (Nat.le_of_ble_eq_true rfl) (Nat.le_of_ble_eq_true rfl) ?_
    have hP1 : va_P D vwCl (jW cA ad (jXp h)) H1 := va_P.kept (show va_P D vwCl (jW cA ad (jXp h)) s.heap from hP) (fun k q hk => k2 _ (vx_lt (show va_P D vwCl (jW cA ad (jXp h)) s.heap from hP) hk))
    exact W.iret hx hb hr (fun t ht _ => ⟨rfl, ⟨hn, ⟨hx1, hx2⟩, fun q => absurd q (Nat.not_lt.mpr h120)⟩, by rw [ht]; exact hP1, by rw [ht]; exact k1, fun q h1 _ => by rw [ht]; exact k2 q h1⟩) (fun q hq => by cases hq) (by decide +kernel)
section JRSW
variable {p : Program} {l : Launch} {e : Env} {R : Room} {s : State} {m : MethodId} {args : Array Value} {below : List Frame} {meth : Method} {c0 : Code} {Q : State → Prop}
variable {M d z n0 e0 : Nat} {D : va_G} {cA : Nat → ClassId} {ad : Nat → Nat} {L : Nat} {xs : Nat → Int32} {pc a b c : Nat} {ls st ls' st' : List Value} {h h' : jM} {lsC : Array Slot}
theorem jLrs_in {own : String} {n : Nat} (hw : Cond.methodLink own n yLrs ∈ jTbl) : GoodIn jTbl (va_wsS own n yLrs wLrs) := by
  intro w hw2
  have h1 : w ∈ jTbl := by
    unfold va_wsS wLrs at hw2
    simp only [List.cons_append, List.nil_append, List.mem_cons] at hw2
    rcases hw2 with rfl | rfl | rfl | rfl | h2
    · exact hw
    · exact tAl_in (i := 10) rfl
    · exact tAl_in (i := 11) rfl
    · exact jTbl_any ck_t1.2.2.2.2
    · exact h2
  exact ⟨h1, good_of_word (List.mem_filter.mp h1).2⟩
theorem ow_rests (hst : l.stackTraces = false) (C : jCx M d z D cA ad L xs p R s m args meth c0) {n : Nat} (hdc : decode (jBy M) pc = .ok (.invokestatic n, 3)) (hw : Cond.methodLink (jOwnS (jOn M)) n (jYb 1004) ∈ jTbl) (hop : jOp (.invokestatic n) 1004 b c ls st h = some (ls', st', h')) : jStepW p l e R s m args below meth c0 M z n0 e0 D cA ad L xs Q pc 3 ls st h ls' st' h' := by
  obtain ⟨hx, hb, hml, hown, hts, hnm, hK, hSt, had, hfr, hlo, hz⟩ := C
  intro lsC H locs hll hl hA hcc hcs kk
  simp only [jOp] at hop
  split at hop
  · split at hop
    · rename_i t p3 p2 p1 p0 o r hg
      obtain ⟨ho, ht1, ht2, ht3, hr8, h120⟩ := hg
      obtain ⟨hP, hS, hN, hn0, hsz0, hXX, he0, hex⟩ := id hA
      have hpcU : ∀ U : State, U.heap = H → s.WarmedH U.vm → jPcv z D cA ad L xs [.ref o, .int p0, .int p1, .int p2, .int p3, .ref t] h ([.ref o, .int p0, .int p1, .int p2, .int p3, .ref t].map (jV ad)).toArray U := by
        intro U hU hW
        exact ⟨rfl, by rw [hU]; exact Nat.le_trans hz hS.1, Or.inr (by omega), by rw [hU]; exact hP, va_K.moved hW.alike hK, by rw [hU]; exact jSt_mv hSt hz hS.2.1 hW⟩
      simp only [List.map_cons, jV] at kk ⊢
      split at hop
      · rename_i v hv
        cases hop
        exact jCallW (r := some (.int 0)) (vx_runSW (As := [.ref (ad o), .int p0, .int p1, .int p2, .int p3, .ref (ad t)]) (rest := r.map (jV ad)) (n := 6) ⟨hx, hb, hml, hown, hts⟩ (lRstS (D := D) (cA := cA) ho ⟨ht1, ht2, ht3⟩ had hN hXX.1 hXX.2 hex hv) (vx_cwSW 6 hts (jLrs_in hw) rfl rfl rfl ⟨by decide, by decide, by decide⟩ ⟨by simp only [rmL]; omega, by simp only [rmL]; omega⟩) ⟨jPcv_blind, hpcU⟩ rfl rfl (hl.1.trans hll) rfl (lv_room (by rw [jSum_map]; exact hr8)) hdc ⟨hcc, hcs⟩) hS (fun H1 locs1 hpu hP1 hS1 => kk _ _ _ hll hl ⟨hP1, hS1, hpu.1, hn0, hsz0, hpu.2.1, he0, hpu.2.2⟩)
      · rename_i hv
        cases hop
        have t1 := jTot_m hn0
        have e1 : jK (jXp h) - (n0 + e0) = jK h - (n0 + e0) + 1 := by
          show jN h + (jEx h + 1) - (n0 + e0) = jN h + jEx h - (n0 + e0) + 1
          omega
        have e2 : jTt (jXp h) - (jTot n0 + 16 * e0) = jTt h - (jTot n0 + 16 * e0) + 16 := by
          show jTot (jN h) + 16 * (jEx h + 1) - (jTot n0 + 16 * e0) = jTot (jN h) + 16 * jEx h - (jTot n0 + 16 * e0) + 16
          omega
        rw [e1] at hcc
        rw [e2] at hcs
        exact jCallW (r := some (.int 1)) (vx_runSW (As := [.ref (ad o), .int p0, .int p1, .int p2, .int p3, .ref (ad t)]) (rest := r.map (jV ad)) (n := 6) ⟨hx, hb, hml, hown, hts⟩ (lRstN (D := D) (cA := cA) ho ⟨ht1, ht2, ht3⟩ had hN hXX.1 hXX.2 hex hst h120 hv) (vx_cwSW 6 hts (jLrs_in hw) rfl rfl rfl ⟨by decide, by decide, by decide⟩ ⟨by simp only [rmL]; omega, by simp only [rmL]; omega⟩) ⟨jPcv_blind, hpcU⟩ rfl rfl (hl.1.trans hll) rfl (lv_room (by rw [jSum_map]; exact hr8)) hdc ⟨hcc, hcs⟩) hS (fun H1 locs1 hpu hP1 hS1 => by
          rw [← e1, ← e2]
          exact kk _ _ _ hll hl ⟨hP1, hS1, hpu.1, hn0, hsz0, hpu.2.1, by show e0 ≤ jEx h + 1; omega, hpu.2.2⟩)
    · cases hop
  · cases hop
end JRSW
theorem jBlt_ok {l : Launch} (hst : l.stackTraces = false) : jBlt l := by
  intro p e R s m args below meth c0 Q M d z n0 e0 D cA ad L xs pc a b c i ls st ls' st' h h' hi C hdc hop
  rcases hi with ⟨n, rfl, rfl | rfl, hw⟩ | ⟨n, rfl, rfl, hw⟩
  · exact ow_len C hdc hw hop
  · exact ow_chr C hdc hw hop
  · exact ow_rests hst C hdc hw hop
