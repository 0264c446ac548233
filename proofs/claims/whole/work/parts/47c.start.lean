/-! the start: what the constructors leave -/
theorem gd_out {α : Type} : ∀ (l : List α) (n : Nat) (d : α), l.length ≤ n → l.getD n d = d := by
  intro l
  induction l with
  | nil => intro n d _; rfl
  | cons x r ih =>
    intro n d h
    cases n with
    | zero => exact absurd h (by simp)
    | succ n =>
      have h' : r.length ≤ n := by simpa using h
      exact ih n d h'
def dE : eD := wN dC
def q0 : kQ := (54, 60, 71, 71, 86, 86)
theorem lk_no {α : Type} {d : α} {o k : Nat} : ∀ (l : eT α), (l.all fun x => decide (¬ x.1 = o)) = true → lk l d o k = d := by
  intro l
  induction l with
  | nil => intro _; rfl
  | cons x r ih =>
    intro h
    have h' : (decide (¬ x.1 = o) && r.all fun x => decide (¬ x.1 = o)) = true := h
    rw [Bool.and_eq_true, decide_eq_true_eq] at h'
    show (if o = x.1 ∧ k = x.2.1 then x.2.2 else lk r d o k) = d
    rw [if_neg (fun z => h'.1 z.1.symm)]
    exact ih h'.2
theorem lk_far {α : Type} {d : α} {n p : Nat} : ∀ (l : eT α), (l.all fun x => decide (x.1 < n ∧ x.2.1 < p)) = true → ∀ o k, (n ≤ o ∨ p ≤ k) → lk l d o k = d := by
  intro l
  induction l with
  | nil => intro _ o k _; rfl
  | cons x r ih =>
    intro h o k hk
    have h' : (decide (x.1 < n ∧ x.2.1 < p) && r.all fun x => decide (x.1 < n ∧ x.2.1 < p)) = true := h
    rw [Bool.and_eq_true, decide_eq_true_eq] at h'
    show (if o = x.1 ∧ k = x.2.1 then x.2.2 else lk r d o k) = d
    rw [if_neg (by have := h'.1; omega)]
    exact ih h'.2 o k hk
theorem st_R1 : ((eR dE).all fun x => decide (x.2.1 < (rTab.getD x.1 []).length)) = true := by decide +kernel
theorem st_R2 : ((List.range 120).all fun o => (List.range (rTab.getD o []).length).all fun k => decide (lk (eR dE) 9999 o k = rF q0 o k)) = true := by decide +kernel
theorem st_R3 : rTab.length = 120 ∧ 8 < (rTab.getD 0 []).length ∧ 1 < (rTab.getD 70 []).length ∧ 4 < (rTab.getD 82 []).length := by decide +kernel
theorem lk_row {α : Type} {d : α} {o k : Nat} {f : Nat → Nat} : ∀ (l : eT α), (l.all fun x => decide (x.2.1 < f x.1)) = true → f o ≤ k → lk l d o k = d := by
  intro l
  induction l with
  | nil => intro _ _; rfl
  | cons x r ih =>
    intro h hk
    have h' : (decide (x.2.1 < f x.1) && r.all fun x => decide (x.2.1 < f x.1)) = true := h
    rw [Bool.and_eq_true, decide_eq_true_eq] at h'
    show (if o = x.1 ∧ k = x.2.1 then x.2.2 else lk r d o k) = d
    rw [if_neg]
    · exact ih h'.2 hk
    · rintro ⟨rfl, rfl⟩
      have := h'.1
      omega
theorem st_R : lk (eR dE) 9999 = rF q0 := by
  have R1 := st_R1
  have R2 := st_R2
  generalize eR dE = l at *
  funext o k
  by_cases c : k < (rTab.getD o []).length
  · have ho : o < 120 := by
      apply Classical.byContradiction
      intro z
      rw [gd_out rTab o [] (by rw [st_R3.1]; omega)] at c
      exact absurd c (Nat.not_lt_zero _)
    rw [List.all_eq_true] at R2
    have R3 := R2 o (List.mem_range.mpr ho)
    rw [List.all_eq_true] at R3
    exact of_decide_eq_true (R3 k (List.mem_range.mpr c))
  · rw [lk_row (f := fun o => (rTab.getD o []).length) l R1 (by omega)]
    obtain ⟨-, s1, s2, s3⟩ := st_R3
    unfold rF
    rw [if_neg (by rintro ⟨rfl, rfl⟩; omega), if_neg (by rintro ⟨rfl, rfl⟩; omega), if_neg (by rintro ⟨rfl, rfl⟩; omega), if_neg (by rintro ⟨rfl, rfl⟩; omega), if_neg (by rintro ⟨rfl, rfl⟩; omega), if_neg (by rintro ⟨rfl, rfl⟩; omega)]
    exact (gd_out _ _ _ (by omega)).symm
theorem st_g0 {D : eD} {L : Nat} {xs : Nat → Int32} (n : eN D = 120) (r : lk (eR D) 9999 = rF q0) : gH (den D L xs) q0 := ⟨n, r⟩
theorem st_w : ∀ i, i < 17 → lk (eL dE) 0 98 i = lN (wds.getD i 0) := by decide +kernel
theorem st_109 : ∀ i, i < 4 → lk (eI dE) 0 109 i = nI 0 := by decide +kernel
theorem st_T : ∀ i, i < 4 → (lk (eI dE) 0 5 i = nI 0 ∧ lk (eI dE) 0 6 i = nI 0) ∧ (lk (eI dE) 0 8 i = nI 0 ∧ lk (eI dE) 0 9 i = nI 0) ∧ lk (eI dE) 0 10 i = pI 0 ∧ lk (eI dE) 0 52 i = bZ false ∧ lk (eI dE) 0 111 i = bZ false ∧ lk (eI dE) 0 110 (0 + 1 + i) = pI 0 := by decide +kernel
theorem st_a : (lk (eI dE) 0 1 1 = nI 0 ∧ lk (eI dE) 0 93 2 = nI 0) ∧ (lk (eI dE) 0 4 0 = nI 0 ∧ lk (eI dE) 0 4 1 = nI 0 ∧ lk (eI dE) 0 4 2 = nI 0) ∧ (lk (eI dE) 0 7 0 = nI 0 ∧ lk (eI dE) 0 7 1 = nI 0 ∧ lk (eI dE) 0 7 2 = nI 0) ∧ (lk (eI dE) 0 3 3 = nI 0 ∧ lk (eI dE) 0 3 4 = nI 0 ∧ lk (eL dE) 0 3 5 = lN (2 ^ 64 - 1) ∧ lk (eI dE) 0 3 6 = nI 2047) ∧ (lk (eI dE) 0 110 0 = bZ false ∧ lk (eI dE) 0 110 (0 + 25) = nI 0) ∧ (lk (eI dE) 0 99 0 = nI 0 ∧ lk (eI dE) 0 99 1 = nI 0) ∧ (lk (eI dE) 0 0 6 = nI 0 ∧ lk (eI dE) 0 93 28 = nI 0 ∧ lk (eI dE) 0 0 9 = nI 0 ∧ lk (eI dE) 0 93 18 = nI 0) ∧ lk (eI dE) 0 70 10 = nI 0 := by decide +kernel
theorem st_c : ∀ t, t < 2 → (lk (eI dE) 0 110 (0 + 5 + t) = nI 0 ∧ lk (eI dE) 0 110 (0 + 7 + t) = nI 0) ∧ ∀ f, f < 4 → lk (eI dE) 0 110 (0 + 9 + 4 * t + f) = nI 0 ∧ lk (eI dE) 0 110 (0 + 17 + 4 * t + f) = nI 0 := by decide +kernel
theorem st_d : ∀ j, j < 3 → lk (eI dE) 0 110 (0 + 26 + j) = nI 33554431 := by decide +kernel
theorem st_78 : ((eI dE).all fun x => decide (¬ x.1 = 78)) = true := by decide +kernel
theorem tw_0 {t : Nat} : tw T0 T0 t = T0 := by unfold tw; split <;> rfl
theorem st_I0 {D : eD} {L : Nat} {xs : Nat → Int32} (zg : gH (den D L xs) q0) (zst_w : ∀ i, i < 17 → lk (eL D) 0 98 i = lN (wds.getD i 0)) (zst_109 : ∀ i, i < 4 → lk (eI D) 0 109 i = nI 0) (zst_T : ∀ i, i < 4 → (lk (eI D) 0 5 i = nI 0 ∧ lk (eI D) 0 6 i = nI 0) ∧ (lk (eI D) 0 8 i = nI 0 ∧ lk (eI D) 0 9 i = nI 0) ∧ lk (eI D) 0 10 i = pI 0 ∧ lk (eI D) 0 52 i = bZ false ∧ lk (eI D) 0 111 i = bZ false ∧ lk (eI D) 0 110 (0 + 1 + i) = pI 0) (zst_a : (lk (eI D) 0 1 1 = nI 0 ∧ lk (eI D) 0 93 2 = nI 0) ∧ (lk (eI D) 0 4 0 = nI 0 ∧ lk (eI D) 0 4 1 = nI 0 ∧ lk (eI D) 0 4 2 = nI 0) ∧ (lk (eI D) 0 7 0 = nI 0 ∧ lk (eI D) 0 7 1 = nI 0 ∧ lk (eI D) 0 7 2 = nI 0) ∧ (lk (eI D) 0 3 3 = nI 0 ∧ lk (eI D) 0 3 4 = nI 0 ∧ lk (eL D) 0 3 5 = lN (2 ^ 64 - 1) ∧ lk (eI D) 0 3 6 = nI 2047) ∧ (lk (eI D) 0 110 0 = bZ false ∧ lk (eI D) 0 110 (0 + 25) = nI 0) ∧ (lk (eI D) 0 99 0 = nI 0 ∧ lk (eI D) 0 99 1 = nI 0) ∧ (lk (eI D) 0 0 6 = nI 0 ∧ lk (eI D) 0 93 28 = nI 0 ∧ lk (eI D) 0 0 9 = nI 0 ∧ lk (eI D) 0 93 18 = nI 0) ∧ lk (eI D) 0 70 10 = nI 0) (zst_c : ∀ t, t < 2 → (lk (eI D) 0 110 (0 + 5 + t) = nI 0 ∧ lk (eI D) 0 110 (0 + 7 + t) = nI 0) ∧ ∀ f, f < 4 → lk (eI D) 0 110 (0 + 9 + 4 * t + f) = nI 0 ∧ lk (eI D) 0 110 (0 + 17 + 4 * t + f) = nI 0) (zst_d : ∀ j, j < 3 → lk (eI D) 0 110 (0 + 26 + j) = nI 33554431) (zst_78 : ((eI D).all fun x => decide (¬ x.1 = 78)) = true) : Inv 0 (den D L xs) := by
  obtain ⟨⟨a1, a2⟩, ⟨b1, b2, b3⟩, ⟨c1, c2, c3⟩, ⟨d1, d2, d3, d4⟩, ⟨e1, e2⟩, ⟨f1, f2⟩, ⟨g1, g2, g3, g4⟩, h1⟩ := zst_a
  refine ⟨q0, ((0, p0), sB T0 T0, fun _ => sB T0 T0, fun _ => false, (0, p0, fun _ => su (sB T0 T0)), c0), 0, zg, ⟨⟨Or.inl ⟨rfl, rfl⟩, zst_w, zst_109⟩, ⟨Nat.zero_le _, a1, a2, fun i hi => absurd hi (Nat.not_lt_zero _)⟩, ⟨⟨⟨b1, b2, b3, fun i hi => (zst_T i hi).1.1, fun i hi => (zst_T i hi).1.2⟩, ⟨c1, c2, c3, fun i hi => (zst_T i hi).2.1.1, fun i hi => (zst_T i hi).2.1.2⟩, fun i hi => (zst_T i hi).2.2.1, d1, d2, d3, d4⟩, ⟨⟨e1, fun i hi => (zst_T i hi).2.2.2.2.2, fun t ht => ?_⟩, e2, fun j hj => ?_⟩, ⟨f1, f2⟩, sOk_B T0_ok T0_ok⟩, fun m hm => ⟨(zst_T m hm).2.2.2.1, (zst_T m hm).2.2.2.2.1, fun z => by cases z⟩, ⟨Nat.zero_le _, g1, g2, rfl, fun k hk => absurd hk (Nat.not_lt_zero _)⟩, ⟨g3, g4, fun z => absurd z (Nat.lt_irrefl 0)⟩⟩, ⟨h1, by omega, fun c hc => ⟨0, Nat.le_refl _, lk_no (eI D) zst_78⟩⟩, Nat.le_refl _⟩
  · show (_ = nI (tB (tw T0 T0 t)) ∧ _ = nI (tW (tw T0 T0 t))) ∧ ∀ f, f < 4 → _ = nI (tN (tw T0 T0 t) f) ∧ _ = nI (tO (tw T0 T0 t) f)
    rw [tw_0]
    exact zst_c t ht
  · show _ = nI (wd (sB T0 T0) j)
    rw [wd_B j hj]; exact zst_d j hj
theorem st_I {L : Nat} {xs : Nat → Int32} : Inv 0 (den dE L xs) := st_I0 (st_g0 rfl st_R) st_w st_109 st_T st_a st_c st_d st_78
theorem ok_A : eOk dA := ⟨fun x h => (by cases h), fun x h => (by cases h), fun x h => (by cases h)⟩
set_option maxRecDepth 100000 in
set_option maxHeartbeats 4000000 in
theorem st_go {L : Nat} {xs : Nat → Int32} {K : Option Value → jM → Prop} : jGo 900 282 (jAt 282 0) (jEnt (jMth 282).2.1 [.ref 1002]) [] (jH0 L xs) K = jGo 900 282 (jAt 282 23) (jLs (nI 0) .null .null) [] (den dE L xs) K := by
  have A0 : jH0 L xs = den (0, [], [], []) L xs := rfl
  have N0 : jNw (den (0, [], [], []) L xs) = den dA L xs := den_N ⟨fun x h => (by cases h), fun x h => (by cases h), fun x h => (by cases h)⟩
  have T1 := fun K => jCl_e (L := L) (xs := xs) (K := K) ok_A (chkD_ok run_T)
  have okB := (T1 (fun _ _ => True)).2
  have T2 : ∀ K, jCl 899 124 [.ref 0] (den dA L xs) K = K none (den dB L xs) := fun K => (T1 K).1
  have N1 := den_N (L := L) (xs := xs) okB
  have M1 := fun K => jCl_e (L := L) (xs := xs) (K := K) (ok_N okB) (chkD_ok run_M)
  have okC := (M1 (fun _ _ => True)).2
  have M2 : ∀ K, jCl 899 173 [.ref 93] (den (wN dB) L xs) K = K none (den dC L xs) := fun K => (M1 K).1
  have N2 : jNw (den dC L xs) = den dE L xs := den_N (L := L) (xs := xs) okC
  have n0 : jN (den (0, [], [], []) L xs) = 0 := rfl
  have nA : jN (den dA L xs) = 1 := rfl
  have nB : jN (den dB L xs) = 93 := rfl
  have nB2 : jN (den (wN dB) L xs) = 94 := rfl
  have nC : jN (den dC L xs) = 119 := rfl
  have en : jEnt (jMth 282).2.1 [.ref 1002] = [.ref 1002, .null, .null, .null, .null, .null, .null] := rfl
  rw [A0, en]
  generalize den (0, [], [], []) L xs = h0 at *
  generalize den dA L xs = hA at *
  generalize den dB L xs = hB at *
  generalize den (wN dB) L xs = hB2 at *
  generalize den dC L xs = hC at *
  generalize den dE L xs = hE at *
  (conv => lhs; rw [jb_282_0])
  simp (maxSteps := 1000000) (disch := omega) only [jMI_i, jML_l, jMA_a, jSum_n, jSum_i, jSum_a, jSum_l, jGet_0, jPut_0, jGet_1, jPut_1i, jPut_1a, jPut_1n, jPut_1l, jGet_2, jPut_2i, jPut_2a, jPut_2n, jPut_2l, jGet_3, jPut_3i, jPut_3a, jPut_3n, jPut_3l, jGet_4, jPut_4i, jPut_4a, jPut_4n, jPut_4l, jGet_5, jPut_5i, jPut_5a, jPut_5n, jPut_5l, jGet_6, jPut_6i, jPut_6a, jPut_6n, jPut_6l, jGet_7, jPut_7i, jPut_7a, jPut_7n, jPut_7l, jGet_8, jPut_8i, jPut_8a, jPut_8n, jPut_8l, jGet_9, jPut_9i, jPut_9a, jPut_9n, jPut_9l, jGet_10, jPut_10i, jPut_10a, jPut_10n, jPut_10l, jGet_11, jPut_11i, jPut_11a, jPut_11n, jPut_11l, jGet_12, jPut_12i, jPut_12a, jPut_12n, jPut_12l, jPut2_e, jSet_1, jSet_2, jSet_3, jSet_4, jSet_5, jSet_6, jSet_7, jSet_8, jSet_9, jSet_10, jSet_11, jSet_12, go_bipush_m2, go_bipush_10, go_bipush_11, go_bipush_12, go_bipush_120, go_bipush_122, go_bipush_126, go_bipush_127, go_bipush_13, go_bipush_14, go_bipush_15, go_bipush_16, go_bipush_17, go_bipush_20, go_bipush_21, go_bipush_22, go_bipush_24, go_bipush_25, go_bipush_26, go_bipush_29, go_bipush_30, go_bipush_32, go_bipush_40, go_bipush_44, go_bipush_48, go_bipush_56, go_bipush_57, go_bipush_59, go_bipush_6, go_bipush_60, go_bipush_63, go_bipush_64, go_bipush_7, go_bipush_75, go_bipush_8, go_bipush_9, go_bipush_96, go_bipush_97, go_bipush_99, go_iconst_m1, go_iconst_0, go_iconst_1, go_iconst_2, go_iconst_3, go_iconst_4, go_iconst_5, go_iinc_m1, go_iinc_m8, go_iinc_1, go_iinc_7, go_sipush_1000, go_sipush_1002, go_sipush_128, go_sipush_132, go_sipush_185, go_sipush_2040, go_sipush_2047, go_sipush_240, go_sipush_255, go_sipush_289, go_sipush_4913, go_sipush_609, go_sipush_625, go_sipush_638, go_sipush_9999, go_lconst_0, go_lconst_1, go_ldc, go_ldcs, go_ldcw, go_ldc2_0, go_ldc2_1, go_ldc2_2, go_ldc2_3, go_ldc2_4, go_ldc2_5, go_ldc2_6, go_ldc2_7, go_ldc2_8, go_ldc2_9, go_ldc2_10, go_ldc2_11, go_ldc2_12, go_ldc2_13, go_ldc2_14, go_ldc2_15, go_ldc2_16, go_ldc2_17, go_ldc2_18, go_ldc2_19, go_ldc2_20, go_ldc2_21, go_ldc2_22, go_ldc2_23, go_ldc2_24, go_ldc2_25, go_ldc2_26, go_ldc2_27, go_ldc2_28, go_ldc2_29, go_ldc2_30, go_ldc2_31, go_ldc2_32, go_ldc2_33, go_ldc2_34, go_ldc2_35, jCI_0, jCI_1, jCI_2, jCI_3, go_iload, go_iload_n, go_lload, go_lload_n, go_aload, go_aload_n, go_istore, go_istore_n, go_lstore, go_lstore_n, go_astore, go_astore_n, go_iadd, go_isub, go_imul, go_iand, go_ior, go_ixor, go_ishl, go_ishr, go_iushr, go_idiv, go_irem, go_ldiv, go_lrem, go_ineg, go_i2l, go_i2c, go_l2i, go_ladd, go_lsub, go_lmul, go_land, go_lor, go_lxor, go_lcmp, go_lshl, go_lshr, go_lushr, go_dup_i, go_dup_a, go_pop_i, go_pop_a, go_dup2, go_getstatic, go_getf_i, go_getf_z, go_getf_l, go_getf_a, go_putf_i, go_putf_l, go_putf_z, go_putf_a, go_iald, go_iald1, go_iald2, go_alen, go_alen2, go_cald, go_bald, go_lald, go_aald, go_iast, go_cast, go_bast, go_last, go_aast, go_new, go_newa, go_anew, go_objinit, go_max, go_min, go_strlen, go_charat, go_acopy, go_rests, go_goto, go_if_eq, go_ic_eq, go_if_ne, go_ic_ne, go_if_lt, go_ic_lt, go_if_ge, go_ic_ge, go_if_gt, go_ic_gt, go_if_le, go_ic_le, go_sw, go_ret, go_lret, go_aret, Nat.reduceAdd, Nat.reduceLT, Nat.reduceLeDiff, Nat.reduceEqDiff, Nat.reduceSub, and_true, true_and, if_true, if_false, and_self, Option.toList_some, Option.toList_none, List.cons_append, List.nil_append, List.length_cons, List.length_nil, Fin.isValue, Fin.reduceFinMk, Fin.val_zero, Fin.val_one, Fin.val_two, jFin3, jI_jsI, jI_jsL, jI_jsR, jL_jsI, jL_jsL, jL_jsR, jR_jsI, jR_jsL, jR_jsR, jN_jsI, jN_jsL, jN_jsR, jXn_jsI, jXn_jsL, jXn_jsR, jXs_jsI, jXs_jsL, jXs_jsR, jEx_jsI, jEx_jsL, jEx_jsR, jI_jXp, jL_jXp, jR_jXp, jN_jXp, jXn_jXp, jXs_jXp, jEx_jXp, cl_124, cl_173, js_0, js_1, js_2, js_3, js_4, js_5, js_6, js_7, js_8, js_9, js_10, js_11, js_12, js_13, js_14, js_15, js_16, js_17, js_18, js_19, js_20, js_21, js_22, js_23, js_24, js_25, js_26, js_27, js_28, js_29, js_30, js_31, js_32, js_33, js_34, js_35, js_36, js_37, js_38, js_39, js_40, js_41, js_42, js_43, js_44, js_45, js_46, js_47, js_48, js_49, js_50, js_51, js_52, js_53, js_54, js_55, js_56, js_57, js_58, js_59, js_60, js_61, js_62, js_63, js_64, js_65, js_66, js_67, js_68, js_69, js_70, js_71, js_72, js_73, js_74, js_75, js_76, js_77, js_78, js_79, js_80, js_81, js_82, js_83, js_84, js_85, js_86, js_87, js_88, js_89, js_90, js_91, js_92, js_93, js_94, js_95, js_96, js_97, js_98, js_99, js_100, js_101, js_102, js_103, js_104, js_105, js_106, js_107, js_108, js_109, js_110, js_111, js_112, js_113, js_114, js_115, js_116, js_117, js_118, js_119, lit_I, neg_1, jCl_nI, i_lt, i_le, i_eq, i_sub, i_div, n_rem, i_and31, i_shl, i_shr, i_bit, bI_1, bI_0, bI_2, bZ_1, bZ_0, bZ_in, bZ_2, nO_lt, nO_gt, nO_le, nO_ge, nO_eq, nO_qe, nO_self, nO_sele, nO_add, pI_0, pI_s, pI_nO, pI_lt0, pI_ge0, pI_eq, pI_add, nI_add, pk_mul, nx_and, fa_or, fb_xorI, Nat.reduceMul, Nat.reduceDiv, Nat.reduceMod, Nat.reducePow, Nat.reduceAnd, Nat.reduceOr, Nat.reduceXor, Nat.reduceShiftLeft, Nat.reduceShiftRight, eq_self, not_true_eq_false, not_false_eq_true, or_false, false_or, or_true, true_or, and_false, false_and, ↓reduceIte, Nat.zero_add, Nat.add_zero, Nat.not_lt_zero, Nat.zero_le, Bool.true_eq_false, Bool.false_eq_true, decide_true, decide_false, n_le_f, n_le_t, n_lt_f, n_lt_t, n_eq_f, bl_in, N0, T2, N1, M2, N2, n0, nA, nB, nB2, nC]
