/-! copies, the greater one, the lesser one -/
section JBLT
variable {p : Program} {l : Launch} {e : Env} {R : Room} {s : State} {m : MethodId} {args : Array Value} {below : List Frame} {meth : Method} {c0 : Code} {H : Heap} {locs : List Loc} {Q : State → Prop}
variable {M d z n0 e0 : Nat} {D : va_G} {cA : Nat → ClassId} {ad : Nat → Nat} {L : Nat} {xs : Nat → Int32} {pc a b c : Nat} {ls st ls' st' : List Value} {h h' : jM} {lsC : Array Slot}
theorem ck_cpy : lw_tbl.any (fun w => decide (w = .native arraycopyName) && goodWord w) = true ∧ lw_tbl.any (fun w => decide (w = .static arraycopyName) && goodWord w) = true ∧ lw_tbl.any (fun w => decide (w = .initialized "java/lang/System") && goodWord w) = true := by decide +kernel
theorem jTbl_any {c : Cond} (h : lw_tbl.any (fun w => decide (w = c) && goodWord w) = true) : c ∈ jTbl := by
  obtain ⟨w, h1, h2⟩ := List.any_eq_true.mp h
  simp only [Bool.and_eq_true, decide_eq_true_eq] at h2
  obtain ⟨rfl, h3⟩ := h2
  exact List.mem_filter.mpr ⟨h1, h3⟩
theorem ck_max : lw_tbl.any (fun w => decide (w = .static Lib.Math.max.name) && goodWord w) = true ∧ lw_tbl.any (fun w => decide (w = .initialized "java/lang/Math") && goodWord w) = true ∧ lw_tbl[jNp + 624]? = some (.code Lib.Math.max.name Lib.Math.max.code 2 (some .int)) := by decide +kernel
theorem ck_min : lw_tbl.any (fun w => decide (w = .static Lib.Math.min.name) && goodWord w) = true ∧ lw_tbl[jNp + 885]? = some (.code Lib.Math.min.name Lib.Math.min.code 2 (some .int)) := by decide +kernel
theorem ow_acopy (C : jCx M d z D cA ad L xs p R s m args meth c0) {n : Nat} (hdc : decode (jBy M) pc = .ok (.invokestatic n, 3)) (hw : Cond.methodLink (jOwnS (jOn M)) n (jYb 1001) ∈ jTbl) (hop : jOp (.invokestatic n) 1001 b c ls st h = some (ls', st', h')) : jStepW p l e R s m args below meth c0 M z n0 e0 D cA ad L xs Q pc 3 ls st h ls' st' h' := by
  obtain ⟨hx, hb, hml, hown, hts, hnm, hK, hSt, had, hfr, hlo, hz⟩ := C
  intro lsC H locs hll hl hA hcc hcs kk
  simp only [jOp] at hop
  split at hop
  · split at hop
    · rename_i n1 dp t sp o r ho
      cases hop
      simp only [List.map_cons, jV] at kk ⊢
      obtain ⟨⟨g1, g2, g3, g4⟩, g5, g6, g7, g8, g9, g10⟩ := ho
      refine va_copyi hx hb (by rw [hml, ← hll]; exact hl.1.symm) hown (hts _ hw) (hts _ (jTbl_any ck_cpy.1)) (hts _ (jTbl_any ck_cpy.2.1)) (hts _ (jTbl_any ck_cpy.2.2)) hK hA.1 (jW_D had hA.2.2.1) hA.2.1 o t 0 0 (jArr_at (k := 0) g1 g2 rfl) (jArr_at (k := 0) g3 g4 rfl) rfl rfl rfl g5 g6 g7 g8 g9 (fun _ _ => rfl) (by omega) ?_ hdc (fun H1 locs1 hP1 _ hS1 => kk _ _ _ hll hl (jPt_put (o := t) (h' := jCp h o sp.toNatClampNeg t dp.toNatClampNeg n1.toNatClampNeg) hA rfl rfl rfl rfl ?_ (fun i hi => ⟨?_, rfl, rfl⟩) hP1 hS1))
      · rw [jSum_map]
        have : nativeFrameWords "java/lang/System" "arraycopy" 5 + 11 ≤ 1000 := by decide
        omega
      · rw [jE_a (k := 0) g4]
        show Sum.inl (_, _, Sum.inl (jI (jCp h o sp.toNatClampNeg t dp.toNatClampNeg n1.toNatClampNeg) t)) = _
        congr 4
        funext q; simp [jCp, jI]
      · funext q
        show (if i = t then _ else _) = _
        rw [if_neg hi]
    · cases hop
  · cases hop
theorem ow_max (C : jCx M d z D cA ad L xs p R s m args meth c0) {n : Nat} (hdc : decode (jBy M) pc = .ok (.invokestatic n, 3)) (hw : Cond.methodLink (jOwnS (jOn M)) n (jYb 1005) ∈ jTbl) (hop : jOp (.invokestatic n) 1005 b c ls st h = some (ls', st', h')) : jStepW p l e R s m args below meth c0 M z n0 e0 D cA ad L xs Q pc 3 ls st h ls' st' h' := by
  obtain ⟨hx, hb, hml, hown, hts, hnm, hK, hSt, had, hfr, hlo, hz⟩ := C
  intro lsC H locs hll hl hA hcc hcs kk
  simp only [jOp] at hop
  split at hop
  · split at hop
    · cases hop
      simp only [List.map_cons, jV] at kk ⊢
      exact va_mmax hx hb (by rw [hml, ← hll]; exact hl.1.symm) hown (hts _ hw) (hts _ (jTbl_any ck_max.1)) (hts _ (jTbl_any ck_max.2.1)) (hts _ (jTbl_in ck_max.2.2 rfl)) (by omega) (by rw [jSum_map]; omega) hcc hcs hdc (kk _ _ _ hll hl hA)
    · cases hop
  · cases hop
theorem ow_min (C : jCx M d z D cA ad L xs p R s m args meth c0) {n : Nat} (hdc : decode (jBy M) pc = .ok (.invokestatic n, 3)) (hw : Cond.methodLink (jOwnS (jOn M)) n (jYb 1006) ∈ jTbl) (hop : jOp (.invokestatic n) 1006 b c ls st h = some (ls', st', h')) : jStepW p l e R s m args below meth c0 M z n0 e0 D cA ad L xs Q pc 3 ls st h ls' st' h' := by
  obtain ⟨hx, hb, hml, hown, hts, hnm, hK, hSt, had, hfr, hlo, hz⟩ := C
  intro lsC H locs hll hl hA hcc hcs kk
  simp only [jOp] at hop
  split at hop
  · split at hop
    · cases hop
      simp only [List.map_cons, jV] at kk ⊢
      exact va_mmin hx hb (by rw [hml, ← hll]; exact hl.1.symm) hown (hts _ hw) (hts _ (jTbl_any ck_min.1)) (hts _ (jTbl_any ck_max.2.1)) (hts _ (jTbl_in ck_min.2 rfl)) (by omega) (by rw [jSum_map]; omega) hcc hcs hdc (kk _ _ _ hll hl hA)
    · cases hop
  · cases hop
end JBLT
