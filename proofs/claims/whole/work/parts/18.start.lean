/-! the law, out of our machine's run of it -/
def jH0 (L : Nat) (xs : Nat → Int32) : jM := (fun _ _ => 0, fun _ _ => 0, fun _ _ => 9999, 0, L, xs, 0)
/-- THE PURE STATEMENT -/
def jPure : Prop := ∀ (L : Nat) (xs : Nat → Int32), L ≤ 448 → ∃ n h', jRun n 900 282 (jAt 282 0) (jEnt (jMth 282).2.1 [.ref 1002]) [] (jH0 L xs) = some (some (.int 1), h') ∧ jN h' ≤ 120 ∧ jEx h' ≤ 64
theorem ck_dg : Cond.isRef (.static "TwoTowns" "DIGITS" "[I") ∈ flatC (Jvm.Cond.and given_1 narrow_1) ∧ Cond.arrayOf (.static "TwoTowns" "DIGITS" "[I") .int ∈ flatC (Jvm.Cond.and given_1 narrow_1) ∧ Cond.eq (.length (.static "TwoTowns" "DIGITS" "[I")) (.int 4) ∈ flatC (Jvm.Cond.and given_1 narrow_1) := by decide +kernel
theorem ck_dge : ∀ j, j < 4 → Cond.eq (.elem (.static "TwoTowns" "DIGITS" "[I") (.int (Int32.ofNat j))) (.int (([1, 5, 25, 125] : List Int32).getD j 0)) ∈ flatC (Jvm.Cond.and given_1 narrow_1) := by decide +kernel
theorem ck_tx : Cond.exactly (.string "TwoTowns$Tape" 59) "java/lang/String" ∈ flatC (Jvm.Cond.and given_1 narrow_1) ∧ Cond.eq (.field (.string "TwoTowns$Tape" 59) "java/lang/String" "coder" "B") (.int 0) ∈ flatC (Jvm.Cond.and given_1 narrow_1) ∧ Cond.arrayOf (.field (.string "TwoTowns$Tape" 59) "java/lang/String" "value" "[B") .byte ∈ flatC (Jvm.Cond.and given_1 narrow_1) ∧ Cond.eq (.length (.field (.string "TwoTowns$Tape" 59) "java/lang/String" "value" "[B")) (.int (Int32.ofNat 67)) ∈ flatC (Jvm.Cond.and given_1 narrow_1) ∧ Cond.eq (.static "java/lang/String" "COMPACT_STRINGS" "Z") (.int 1) ∈ flatC (Jvm.Cond.and given_1 narrow_1) := by decide +kernel
theorem ck_txe : ∀ j, j < 67 → Cond.eq (.elem (.field (.string "TwoTowns$Tape" 59) "java/lang/String" "value" "[B") (.int (Int32.ofNat j))) (.int (jTxt.getD j 0)) ∈ flatC (Jvm.Cond.and given_1 narrow_1) := by decide +kernel
theorem ck_w : (Cond.laysStatic "TwoTowns" "DIGITS" "[I" ∈ lw_tbl ∧ Cond.initialized "TwoTowns" ∈ lw_tbl) ∧ (Cond.laysStatic "java/lang/String" "COMPACT_STRINGS" "Z" ∈ lw_tbl ∧ Cond.initialized "java/lang/String" ∈ lw_tbl) ∧ Cond.stringRef "TwoTowns$Tape" 59 jTx ∈ lw_tbl ∧ Cond.arrayOver (.object "TwoTowns$State") ∈ lw_tbl := by decide +kernel
theorem ck_ew : ∀ w ∈ jEw, w ∈ lw_tbl ∧ w.onTables = true := by decide +kernel
theorem ck_wq5 : (Cond.laysStatic "jdk/internal/util/Preconditions" "SIOOBE_FORMATTER" "Ljava/util/function/BiFunction;" ∈ lw_tbl ∧ Cond.initialized "jdk/internal/util/Preconditions" ∈ lw_tbl) ∧ (Cond.laysStatic "java/lang/Throwable" "UNASSIGNED_STACK" "[Ljava/lang/StackTraceElement;" ∈ lw_tbl ∧ Cond.laysStatic "java/lang/Throwable" "SUPPRESSED_SENTINEL" "Ljava/util/List;" ∈ lw_tbl) ∧ Cond.initialized "java/lang/Throwable" ∈ lw_tbl := by decide +kernel
theorem ck_rq5 : Cond.isRef (.static "jdk/internal/util/Preconditions" "SIOOBE_FORMATTER" "Ljava/util/function/BiFunction;") ∈ flatC (Jvm.Cond.and given_1 narrow_1) ∧ Cond.isRef (.static "java/lang/Throwable" "UNASSIGNED_STACK" "[Ljava/lang/StackTraceElement;") ∈ flatC (Jvm.Cond.and given_1 narrow_1) ∧ Cond.isRef (.static "java/lang/Throwable" "SUPPRESSED_SENTINEL" "Ljava/util/List;") ∈ flatC (Jvm.Cond.and given_1 narrow_1) := by decide +kernel
theorem jTot_120 : jTot 120 + 16 * 64 ≤ 7301098 := by decide +kernel
set_option maxHeartbeats 4000000 in
theorem whole_open {p : Program} {e : Env} {s : State} {m : MethodId} {below : List Frame} {meth : Method} {c : Code} {l : Launch} (hp : jPure) (hB : jBlt l) {b L : Nat} {xs : Nat → Int32} (hL : L ≤ 448) (C0 : lw_At p s m meth c b L xs) : W p l e room_1 s m #[Value.ref b] below meth c s.heap [] 0 0 (lw_Z below #[Value.ref b] s) (entryFrame m ([Value.ref b] : List Value).toArray 7) := by
  obtain ⟨hx, hb, hr, hml, hown, hts, hX, hbl, hlocks, hgv⟩ := C0
  have hts2 : ∀ w ∈ jTbl, w.before #[Value.ref b] s = true := fun w hw => hts w (List.mem_filter.mp hw).1
  have hs := flat_of_before _ hgv
  have hA : ∀ a : Nat, a < s.heap.size → ¬ (fun q => s.heap.size ≤ q) a := fun a ha => Nat.not_le.mpr ha
  have hcl : ∀ a, a < 12 → ∃ (cC : ClassId) (iS : Nat → Nat), u_Kn s (jC a).1 (jC a).2.1 (jC a).2.2 cC iS := fun a ha => u_known hts2 (jC_ws ha) (hts2 _ (jC_ins ha).1)
  obtain ⟨dC, dI, hKc⟩ : ∃ (dC : Nat → ClassId) (dI : Nat → Nat → Nat), ∀ a, a < 12 → u_Kn s (jC a).1 (jC a).2.1 (jC a).2.2 (dC a) (dI a) := by
    refine ⟨fun a => if h : a < 12 then (hcl a h).choose else 0, fun a => if h : a < 12 then (hcl a h).choose_spec.choose else fun _ => 0, fun a ha => ?_⟩
    simp only [dif_pos ha]
    exact (hcl a ha).choose_spec.choose_spec
  obtain ⟨cI, kI, oI, i1, i2, i3⟩ := Cond.arrayClass_spec (hts2 _ (jTbl_in ck_arr.1.1 rfl))
  obtain ⟨cJ, kJ, oJ, j1, j2, j3⟩ := Cond.arrayClass_spec (hts2 _ (jTbl_in ck_arr.1.2 rfl))
  obtain ⟨cC, kC, oC, c1, c2, c3⟩ := Cond.arrayClass_spec (hts2 _ (jTbl_in ck_arr.2.1 rfl))
  obtain ⟨cZ, kZ, oZ, z1, z2, z3⟩ := Cond.arrayClass_spec (hts2 _ (jTbl_in ck_arr.2.2 rfl))
  obtain ⟨oS, cS, kS, s1, -, s3, s4, s5⟩ := Cond.arrayOver_spec (hts _ ck_w.2.2.2)
  have hK : va_K (dC, dI) vwCl (jTys (fun k => match k with | 0 => cI | 1 => cJ | 2 => cC | 3 => cZ | _ => cS)) s := by
    refine ⟨fun k q hq => ?_, fun k q hq => ?_⟩
    · have hk : k < 12 := (List.getElem?_eq_some_iff.mp hq).1
      rw [jC_at hk] at hq
      cases hq
      exact hKc k hk
    · match k, hq with
      | 0, hq => cases hq; exact ⟨fun n z => ⟨fun k h => (by cases h), kI, i2, oI, i3⟩, i1⟩
      | 1, hq => cases hq; exact ⟨fun n z => ⟨fun k h => (by cases h), kJ, j2, oJ, j3⟩, j1⟩
      | 2, hq => cases hq; exact ⟨fun n z => ⟨fun k h => (by cases h), kC, c2, oC, c3⟩, c1⟩
      | 3, hq => cases hq; exact ⟨fun n z => ⟨fun k h => (by cases h), kZ, z2, oZ, z3⟩, z1⟩
      | 4, hq => cases hq; exact ⟨fun n z => ⟨fun k h => (by cases h), kS, s3, oS, s4⟩, kS, oS, s3, s4, s1, s5⟩
      | k + 5, hq => simp [jTys] at hq
  obtain ⟨dg, g1, g2⟩ := va_Tof (f := jDg) (A := fun q => s.heap.size ≤ q) (N := 4) (by decide) (hs _ ck_dg.2.1) (va_eqt (hs _ ck_dg.2.2)) (fun j hj => va_eqt (hs _ (ck_dge j hj))) hA
  obtain ⟨adK, adV, t1, t2⟩ := vk_Sof (N := 1) (tm := fun _ => .string "TwoTowns$Tape" 59) (len := [67]) (byt := [jTxt]) (A := fun q => s.heap.size ≤ q) (fun i hi => by match i, hi with | 0, _ => decide | k + 1, h => omega) (fun _ _ => hs _ ck_tx.1) (fun _ _ => hs _ ck_tx.2.1) (fun _ _ => hs _ ck_tx.2.2.1) (fun i hi => by match i, hi with | 0, _ => exact hs _ ck_tx.2.2.2.1 | k + 1, h => omega) (fun i hi j hj => by match i, hi with | 0, _ => exact hs _ (ck_txe j hj) | k + 1, h => omega) (fun i j hi hj hne => by omega) hA
  obtain ⟨n, h', hrun, hN, hex⟩ := hp L xs hL
  obtain ⟨ad, had⟩ : ∃ ad : Nat → Nat, ad = fun i => if i < 1000 then s.heap.size + i else if i = 1000 then dg else if i = 1001 then adK 0 else if i = 1002 then b else adV 0 := ⟨_, rfl⟩
  have ha0 : ad 1000 = dg := by rw [had]; rfl
  have ha1 : ad 1001 = adK 0 := by rw [had]; rfl
  have ha2 : ad 1002 = b := by rw [had]; rfl
  have ha3 : ad 1003 = adV 0 := by rw [had]; rfl
  have hadl : ∀ i, i < 1000 → ad i = s.heap.size + i := fun i hi => by rw [had]; simp [hi]
  have hSt : jSt s.heap.size ad L xs s s.heap := by
    refine ⟨by rw [ha0]; exact va_Zref (hts _ ck_w.1.1) (hts _ ck_w.1.2) g1 hA, by rw [ha0]; exact g2, by rw [ha1]; exact vk_R.of (hts _ ck_w.2.2.1) (t2 0 (by decide)), ?_, ⟨va_Zof (hts _ ck_w.2.1.1) (hts _ ck_w.2.1.2) (va_eqi (hs _ ck_tx.2.2.2.2)) hA, va_Zqof (hts _ ck_wq5.1.1) (hts _ ck_wq5.1.2) (hs _ ck_rq5.1) hA, vx_Zqof (hts _ ck_wq5.2.1.1) (hts _ ck_wq5.2.2) (hs _ ck_rq5.2.1) hA, vx_Zqof (hts _ ck_wq5.2.1.2) (hts _ ck_wq5.2.2) (hs _ ck_rq5.2.2) hA, fun w hw => va_Nw.of (ck_ew w hw).2 (hts _ (ck_ew w hw).1)⟩, by rw [ha2]; exact hX, by rw [ha2]; exact hbl, fun a i b n d x hm => va_Nw.of rfl (hts _ (List.mem_append_right _ hm)), fun a i y x hm => va_Nw.of rfl (hts _ (List.mem_append_right _ hm)), va_AO.of (hts _ ck_w.2.2.2)⟩
    rw [ha1, ha3]
    refine ⟨fun i hi => ?_, fun i j hi hj _ => by omega⟩
    have hi0 : i = 0 := by omega
    subst hi0
    exact t1.1 0 (by decide)
  have hCx : jCx 282 900 s.heap.size (dC, dI) (fun k => match k with | 0 => cI | 1 => cJ | 2 => cC | 3 => cZ | _ => cS) ad L xs p room_1 s m #[Value.ref b] meth c :=
    ⟨hx, hb, hml, hown, hts2, fun q => absurd q (by decide), hK, hSt, hadl, by decide, by decide, Nat.le_refl _⟩
  have hl := lv_entry ([Value.ref b] : List Value) (n := 7) (Nat.le_of_ble_eq_true rfl)
  rw [lg_entry_eq]
  generalize (lg_sl ([Value.ref b] : List Value) ++ List.replicate (7 - (lg_sl ([Value.ref b] : List Value)).length) Slot.unset).toArray = lsC at hl ⊢
  have hl2 : lv_has lsC 7 (lv_args 0 (([.ref 1002] : List Value).map (jV ad))) := by
    have e1 : ([.ref 1002] : List Value).map (jV ad) = [Value.ref b] := by rw [← ha2]; rfl
    rw [e1]; exact hl
  have hcc : jK h' - (0 + 0) ≤ room_1.cells := by show jN h' + jEx h' - 0 ≤ 600128; omega
  have hcs : jTt h' - (jTot 0 + 16 * 0) ≤ room_1.slots := by
    have h1 := jTot_m hN
    have h2 := jTot_120
    show jTot (jN h') + 16 * jEx h' - _ ≤ 7301098
    omega
  have key := jSound l jGood_ok hB n 900 282 (jAt 282 0) (jEnt (jMth 282).2.1 [.ref 1002]) [] (jH0 L xs) (some (.int 1)) h' hrun (by decide) (jAt_suf 282 0) p e room_1 s m #[Value.ref b] below meth c (lw_Z below #[Value.ref b] s) s.heap.size 0 0 (dC, dI) _ ad L xs hCx lsC s.heap [] rfl (jLv_ent hl2) ⟨fun k q hq => by simp [jW, jH0, jN] at hq, va_S.rf, Nat.zero_le _, Nat.le_refl _, Or.inl rfl, ⟨rfl, rfl⟩, Nat.le_refl _, fun _ => rfl⟩ hcc hcs ?_
  · have hpc : jPcOf (jAt 282 0) = 0 := by decide +kernel
    rw [hpc] at key
    exact key
  · intro i pc lsC' H' locs' st' hro hdc hret hA'
    have hby : jBy 282 = code := rfl
    rw [hby] at hdc
    cases i with
    | ireturn =>
      simp only [jRet] at hret
      split at hret
      · rename_i x
        have hx1 : x = 1 := by
          split at hret
          · split at hret
            · cases hret; rfl
            · cases hret
          · cases hret; rfl
        subst hx1
        refine va_forget (fun q hq => hA'.2.1.2.2 q hq) ?_
        refine W.widen (k := 600128) (n := 7301098) hcc hcs ?_
        exact lw_ret hx hb hr hlocks hdc
      · cases hret
    | lreturn => simp only [jRet] at hret; split at hret <;> cases hret
    | areturn => simp only [jRet] at hret; split at hret <;> cases hret
    | return_ => simp only [jRet] at hret; cases hret
    | _ => simp only [jRet] at hret; cases hret

