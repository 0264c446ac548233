/-! new rows, copies, the least calls -/
section JNEW
variable {p : Program} {l : Launch} {e : Env} {R : Room} {s : State} {m : MethodId} {args : Array Value} {below : List Frame} {meth : Method} {c0 : Code} {H : Heap} {locs : List Loc} {Q : State → Prop}
variable {M d z n0 e0 : Nat} {D : va_G} {cA : Nat → ClassId} {ad : Nat → Nat} {L : Nat} {xs : Nat → Int32} {pc a b c : Nat} {ls st ls' st' : List Value} {h h' : jM} {lsC : Array Slot}
theorem ck_arr : (lw_tbl[jNp + 119]? = some (.arrayClass .int) ∧ lw_tbl[jNp + 203]? = some (.arrayClass .long)) ∧ lw_tbl[jNp + 75]? = some (.arrayClass .char) ∧ lw_tbl[jNp + 202]? = some (.arrayClass .boolean) := by decide +kernel
theorem jArr_w {a : Nat} (ha : a < 4) {t : ArrayType} (ht : t = (match a with | 0 => ArrayType.int | 1 => .long | 2 => .char | _ => .boolean)) : Cond.arrayClass (newarray.typeOf t) ∈ jTbl ∧ (jTys cA)[a]? = some (cA a, newarray.typeOf t) := by
  subst ht
  match a, ha with
  | 0, _ => exact ⟨jTbl_in ck_arr.1.1 rfl, rfl⟩
  | 1, _ => exact ⟨jTbl_in ck_arr.1.2 rfl, rfl⟩
  | 2, _ => exact ⟨jTbl_in ck_arr.2.1 rfl, rfl⟩
  | 3, _ => exact ⟨jTbl_in ck_arr.2.2 rfl, rfl⟩
  | k + 4, h => exact absurd h (by omega)
theorem ck_len : ∀ n, n < 120 → (jS n).2 ≤ 5000 := by decide +kernel
theorem ow_newa (C : jCx M d z D cA ad L xs p R s m args meth c0) {t : ArrayType} (hdc : decode (jBy M) pc = .ok (.newarray t, 2)) (ha : a < 4) (ht : t = (match a with | 0 => ArrayType.int | 1 => .long | 2 => .char | _ => .boolean)) (hop : jOp (.newarray t) a b c ls st h = some (ls', st', h')) : jStepW p l e R s m args below meth c0 M z n0 e0 D cA ad L xs Q pc 2 ls st h ls' st' h' := by
  obtain ⟨hx, hb, hml, hown, hts, hnm, hK, hSt, had, hfr, hlo, hz⟩ := C
  intro lsC H locs hll hl hA hcc hcs kk
  simp only [jOp] at hop
  split at hop
  · split at hop
    · rename_i x r hs
      cases hop
      simp only [List.map_cons, jV] at kk ⊢
      have hN : jN h < 120 := jS_lt hs.1 (by omega)
      refine jSize fun hsz => ?_
      have hsz2 := jSizeEq had hz hA rfl hsz hN
      obtain ⟨hw, hty⟩ := jArr_w (cA := cA) ha ht
      have e1 : jK (jNw h) - (n0 + e0) = jK h - (n0 + e0) + 1 := by show jN h + 1 + jEx h - (n0 + e0) = jN h + jEx h - (n0 + e0) + 1; have := hA.2.2.2.1; have := hA.2.2.2.2.2.2.1; omega
      have e2 : jTt (jNw h) - (jTot n0 + 16 * e0) = jTt h - (jTot n0 + 16 * e0) + (jS (jN h)).2 := by
        show jTot (jN h + 1) + 16 * jEx h - _ = jTot (jN h) + 16 * jEx h - _ + _
        rw [jTot_s]; have := jTot_m hA.2.2.2.1; have := hA.2.2.2.2.2.2.1; omega
      rw [e1] at hcc; rw [e2] at hcs
      have hbyt : (jS (jN h)).2 * componentBytes (newarray.typeOf t) ≤ 536870912 := by
        have h5 := ck_len _ hN
        have h8 : componentBytes (newarray.typeOf t) ≤ 8 := by cases t <;> decide
        calc (jS (jN h)).2 * componentBytes (newarray.typeOf t) ≤ 5000 * 8 := Nat.mul_le_mul h5 h8
          _ ≤ 536870912 := by decide
      refine va_newaK hx hb (hts _ hw) rfl hdc rfl hs.2.1 hs.2.2 hbyt hcc hcs hsz2 fun H1 cB g1 g2 g3 g4 g5 => ?_
      rw [← e1, ← e2]
      have hadn : z + jN h = ad (jN h) := (had _ (by omega)).symm
      refine W.eq (g2 := F0 m (pc + 2) lsC (.ref (ad (jN h)) :: r.map (jV ad))) (by rw [hadn]) ?_
      refine kk _ _ _ hll hl (jPt_nw hA hN hsz2 had g2 g3 ?_)
      have hcB : cB = cA a := by
        have hr := (hK.2 a _ hty).2
        cases t <;> exact Option.some.inj (g5.symm.trans hr)
      subst hcB
      rw [jE_a (k := a) hs.1]
      show H1[ad (jN h)]? = some (vp_cell (cA a) ((jS (jN h)).2, jAr ad (jNw h) (jN h) a))
      rw [← hadn, g1]
      congr 1
      have z1 : jI (jNw h) (jN h) = fun _ => 0 := by funext q; simp [jNw, jI, jZ]
      have z2 : jL (jNw h) (jN h) = fun _ => 0 := by funext q; simp [jNw, jL, jZ]
      subst ht
      match a, ha with
      | 0, _ => show _ = vp_cell (cA 0) (_, .inl (jI (jNw h) (jN h))); rw [z1]; rfl
      | 1, _ => show _ = vp_cell (cA 1) (_, .inr (.inl (jL (jNw h) (jN h)))); rw [z2]; rfl
      | 2, _ => show _ = vp_cell (cA 2) (_, .inl (jI (jNw h) (jN h))); rw [z1]; rfl
      | 3, _ => show _ = vp_cell (cA 3) (_, .inl (jI (jNw h) (jN h))); rw [z1]; rfl
      | k + 4, h9 => exact absurd h9 (by omega)
    · cases hop
  · cases hop
theorem ow_anew (C : jCx M d z D cA ad L xs p R s m args meth c0) {n : Nat} (hdc : decode (jBy M) pc = .ok (.anewarray n, 3)) (hw : Cond.classLink (jOwnS (jOn M)) n (jC 6).1 ∈ jTbl) (hop : jOp (.anewarray n) a b c ls st h = some (ls', st', h')) : jStepW p l e R s m args below meth c0 M z n0 e0 D cA ad L xs Q pc 3 ls st h ls' st' h' := by
  obtain ⟨hx, hb, hml, hown, hts, hnm, hK, hSt, had, hfr, hlo, hz⟩ := C
  intro lsC H locs hll hl hA hcc hcs kk
  simp only [jOp] at hop
  split at hop
  · split at hop
    · rename_i x r hs
      cases hop
      simp only [List.map_cons, jV] at kk ⊢
      have hN : jN h < 120 := jS_lt hs.1 (by decide)
      refine jSize fun hsz => ?_
      have hsz2 := jSizeEq had hz hA rfl hsz hN
      have e1 : jK (jNw h) - (n0 + e0) = jK h - (n0 + e0) + 1 := by show jN h + 1 + jEx h - (n0 + e0) = jN h + jEx h - (n0 + e0) + 1; have := hA.2.2.2.1; have := hA.2.2.2.2.2.2.1; omega
      have e2 : jTt (jNw h) - (jTot n0 + 16 * e0) = jTt h - (jTot n0 + 16 * e0) + x.toNatClampNeg := by
        show jTot (jN h + 1) + 16 * jEx h - _ = jTot (jN h) + 16 * jEx h - _ + _
        rw [jTot_s, hs.2.2]; have := jTot_m hA.2.2.2.1; have := hA.2.2.2.2.2.2.1; omega
      rw [e1] at hcc; rw [e2] at hcs
      have hbyt : x.toNatClampNeg * 4 ≤ 536870912 := by rw [hs.2.2]; have h5 := ck_len _ hN; omega
      refine W.anew (C := "TwoTowns$State") hx hb hown (hts _ hw) (va_AO.use hSt.2.2.2.2.2.2.2.2.2) rfl hdc rfl hs.2.1 hbyt hcc hcs fun cB kA comp f1 f2 f3 f4 => ?_
      rw [← e1, ← e2]
      have hadn : H.size = ad (jN h) := by rw [hsz2]; exact (had _ (by omega)).symm
      refine W.eq (g2 := F0 m (pc + 3) lsC (.ref (ad (jN h)) :: r.map (jV ad))) (by rw [hadn]) ?_
      have hr := (hK.2 4 _ (show (jTys cA)[4]? = some (cA 4, .object "TwoTowns$State") from rfl)).2
      obtain ⟨kA', comp', -, -, -, hr4⟩ := hr
      have hcB : cB = cA 4 := Option.some.inj (f1.symm.trans hr4)
      subst hcB
      refine kk _ _ _ hll hl (jPt_nw hA hN hsz2 had (by rw [Array.size_push, hsz2]) (fun q hq => by rw [Array.getElem?_push, if_neg (by omega)]) ?_)
      rw [jE_a (k := 4) hs.1]
      show (H.push _)[ad (jN h)]? = some (vp_cell (cA 4) ((jS (jN h)).2, jAr ad (jNw h) (jN h) 4))
      rw [← hadn, Array.getElem?_push_size, arrV_new, hs.2.2]
      congr 1
      have z1 : jAr ad (jNw h) (jN h) 4 = .inr (.inr (.inr (.inr (fun _ => none)))) := by
        show Sum.inr (Sum.inr (Sum.inr (Sum.inr _))) = _
        congr 4; funext q; simp [jNw, jR, jZ]
      rw [z1]; rfl
    · cases hop
  · cases hop
theorem ck_blt : (lw_tbl[jNp + 32]? = some (.instanceMethod ⟨"java/lang/Object", "<init>", "()V"⟩) ∧ (match lw_tbl[jNp + 33]? with | some (.code y _ n r) => decide (y = ⟨"java/lang/Object", "<init>", "()V"⟩ ∧ n = 1 ∧ r = none) | _ => false) = true) := by decide +kernel
theorem ow_oinit (C : jCx M d z D cA ad L xs p R s m args meth c0) {n : Nat} (hdc : decode (jBy M) pc = .ok (.invokespecial n, 3)) (hw : Cond.methodLink (jOwnS (jOn M)) n (jYb 1000) ∈ jTbl) (hop : jOp (.invokespecial n) a b c ls st h = some (ls', st', h')) : jStepW p l e R s m args below meth c0 M z n0 e0 D cA ad L xs Q pc 3 ls st h ls' st' h' := by
  obtain ⟨hx, hb, hml, hown, hts, hnm, hK, hSt, had, hfr, hlo, hz⟩ := C
  intro lsC H locs hll hl hA hcc hcs kk
  simp only [jOp] at hop
  split at hop
  · split at hop
    · rename_i hs
      cases hop
      simp only [List.map_cons, jV] at kk ⊢
      refine W.objInit hx hb hown (hts _ hw) (hts _ (jTbl_in ck_blt.1 rfl)) (hts _ (jTbl_in (i := jNp + 33) rfl rfl)) rfl (by rw [hml, ← hll]; exact hl.1) rfl hdc (by omega) ?_ (kk _ _ _ hll hl hA)
      rw [jSum_map]; show 2 * 0 + _ + 12 ≤ _; omega
    · cases hop
  · cases hop
end JNEW
