/-! towns: what is read stands well -/
theorem tU_ok {a : kA} {D : kP} {t : Nat} {T : kT} (ok : DOk a D) (ht : t < 2) (o : tOk T) (e : tF T = tF (tw D.1 D.2.1 t)) : DOk a (tU D t T) := by
  refine ⟨?_, fun i hi z => ?_, fun i j hi hj zi zj => ?_⟩
  · unfold tU
    split
    · exact ⟨o, ok.1.2⟩
    · exact ⟨ok.1.1, o⟩
  · rw [inP_tU ht hi e] at z
    rw [tU_n]
    exact ok.2.1 i hi z
  · rw [inP_tU ht hi e] at zi
    rw [inP_tU ht hj e] at zj
    rw [tU_n]
    exact ok.2.2 i j hi hj zi zj
theorem mkO_ok {a : kA} {D : kP} {t k p : Nat} (ok : DOk a D) (ht : t < 2) (m : kMay (tw D.1 D.2.1 t) k) : DOk a (mkO D t k p).2.1 := by
  unfold mkO
  split
  · exact ok
  · exact tU_ok ok ht (tOk_ch (tw_ok ok.1.1 ok.1.2) m) tCh_F
theorem inP_e {D : kP} {i : Nat} (h : inP D i = true) : i % 4 < tF (tw D.1 D.2.1 (i / 4)) := by
  unfold inP at h; exact of_decide_eq_true h
theorem kMay_p {T : kT} {w f : Nat} (hw : w < 2) (h4 : f < 4) (hf : f < tF T) : kMay T (w * 4 + f) := ⟨by omega, fun _ => by (have : (w * 4 + f) % 4 = f := by omega); omega, fun z => by omega⟩
theorem kMay_l {T : kT} {w f o : Nat} (hw : w < 2) (h4 : f < 4) (ho4 : o < 4) (hf : f < tF T) (ho : o < tF T) (ne : ¬ f = o) : kMay T (lkN w f o) := by
  obtain ⟨e1, e2, e3, e4, e5⟩ := lkN_e hw h4 ho4
  exact ⟨e5, fun z => absurd z e4, fun _ => by rw [e1, e2]; exact ⟨hf, ho, ne⟩⟩
theorem ptP_ok {a : kA} {D : kP} {p w : Nat} (ok : DOk a D) (hw : w < 2) : DOk a (ptP a D p w).2.1 := by
  unfold ptP
  rcases oneW_ok (a := a) (D := D) (q := nx a p) with z | ⟨k, k8, kp, z⟩
  · rw [if_pos z]; exact ok
  · rw [if_neg (by omega), z]
    simp only [Nat.add_sub_cancel]
    exact mkO_ok ok (by omega) (kMay_p hw (by omega) (inP_e kp))
theorem lkP_ok {a : kA} {D : kP} {p w : Nat} (ok : DOk a D) (hw : w < 2) : DOk a (lkP a D p w).2.1 := by
  unfold lkP
  rcases oneW_ok (a := a) (D := D) (q := nx a p) with z | ⟨k, k8, kp, z⟩
  · rw [if_pos z]; exact ok
  · rw [if_neg (by omega), z]
    rcases oneW_ok (a := a) (D := D) (q := nx a (nx a p)) with y | ⟨j, j8, jp, y⟩
    · rw [if_pos y]; exact ok
    · rw [if_neg (by omega), y]
      simp only [Nat.add_sub_cancel]
      by_cases c : k + 1 = j + 1 ∨ ¬ k / 4 = j / 4
      · rw [if_pos c]; exact ok
      · rw [if_neg c]
        have e2 : k / 4 = j / 4 := by omega
        have j2 := inP_e jp
        rw [← e2] at j2
        exact mkO_ok ok (by omega) (kMay_l hw (by omega) (by omega) (inP_e kp) j2 (by omega))
theorem fs_0 {f : Nat → Bool} : ∀ n k, fs f n k = 0 → ∀ i, k ≤ i → i < k + n → f i = false := by
  intro n
  induction n with
  | zero => intro k _ i h1 h2; omega
  | succ n ih =>
    intro k h i h1 h2
    unfold fs at h
    cases c : f k with
    | true => rw [c, if_pos rfl] at h; omega
    | false =>
      rw [c, if_neg (by simp)] at h
      by_cases e : i = k
      · subst e; exact c
      · exact ih (k + 1) h i (by omega) (by omega)
theorem whoN_0 {a : kA} {D : kP} {p : Nat} (h : whoN a D p = 0) {i : Nat} (hi : i < 8) (z : inP D i = true) : ¬ wv a (D.2.2 i) = wv a p := by
  have := fs_0 8 0 h i (Nat.zero_le _) (by omega)
  rw [z, Bool.true_and] at this
  exact of_decide_eq_false this
theorem addT_ok {T : kT} (o : tOk T) (h : tF T < 4) : tOk (addT T) := by
  obtain ⟨a1, a2, a3, a4, a5, a6, a7⟩ := o
  have up : ∀ x, x < 2 ^ tF T → x < 2 ^ (tF T + 1) := fun x hx => by rw [Nat.pow_succ]; omega
  refine ⟨?_, up _ a2, up _ a3, fun i hi => ⟨up _ (a4 i hi).1, up _ (a4 i hi).2⟩, a5, a6, fun i hi h4 => a7 i ?_ h4⟩
  · show tF T + 1 ≤ 4; omega
  · have : tF T + 1 ≤ i := hi
    omega
theorem addP_in {D : kP} {t p i : Nat} (ht : t < 2) (hi : i < 8) (f4 : tF (tw D.1 D.2.1 t) < 4) : inP (addP D t p) i = (inP D i || decide (i = 4 * t + tF (tw D.1 D.2.1 t))) := by
  have key : ∀ (x F : Nat), F < 4 → x < 4 → decide (x < F + 1) = (decide (x < F) || decide (x = F)) := by
    intro x F h1 h2
    rw [Bool.eq_iff_iff, Bool.or_eq_true, decide_eq_true_eq, decide_eq_true_eq, decide_eq_true_eq]
    omega
  rcases (show t = 0 ∨ t = 1 by omega) with rfl | rfl
  · have e0 : tw D.1 D.2.1 0 = D.1 := rfl
    rw [e0] at f4 ⊢
    unfold inP addP tw
    rw [if_pos rfl]
    rcases (show i / 4 = 0 ∨ i / 4 = 1 by omega) with z | z
    · rw [z, if_pos rfl, if_pos rfl]
      show decide (i % 4 < tF D.1 + 1) = _
      rw [key _ _ f4 (by omega)]
      have : i % 4 = i := by omega
      rw [this, show 4 * 0 + tF D.1 = tF D.1 by omega]
    · rw [z, if_neg (by omega), if_neg (by omega)]
      have : ¬ i = 4 * 0 + tF D.1 := by omega
      rw [decide_eq_false this, Bool.or_false]
  · have e0 : tw D.1 D.2.1 1 = D.2.1 := rfl
    rw [e0] at f4 ⊢
    unfold inP addP tw
    rw [if_neg (show ¬ (1 : Nat) = 0 by omega)]
    rcases (show i / 4 = 0 ∨ i / 4 = 1 by omega) with z | z
    · rw [z, if_pos rfl, if_pos rfl]
      have : ¬ i = 4 * 1 + tF D.2.1 := by omega
      rw [decide_eq_false this, Bool.or_false]
    · rw [z, if_neg (by omega), if_neg (by omega)]
      show decide (i % 4 < tF D.2.1 + 1) = _
      rw [key _ _ f4 (by omega)]
      congr 1
      have : (i % 4 = tF D.2.1) = (i = 4 * 1 + tF D.2.1) := propext ⟨fun h => by omega, fun h => by omega⟩
      simp only [this]
theorem addP_n {D : kP} {t p i : Nat} (ht : t < 2) : (addP D t p).2.2 i = if i = 4 * t + tF (tw D.1 D.2.1 t) then p else D.2.2 i := by
  rcases (show t = 0 ∨ t = 1 by omega) with rfl | rfl
  · show uN1 D.2.2 (tF D.1) p i = if i = 4 * 0 + tF D.1 then p else D.2.2 i
    unfold uN1
    rw [show 4 * 0 + tF D.1 = tF D.1 by omega]
  · rfl
theorem addP_ok {a : kA} {D : kP} {t p : Nat} (ok : DOk a D) (ht : t < 2) (f4 : tF (tw D.1 D.2.1 t) < 4) (kp : kd a p = 1) (w0 : whoN a D p = 0) : DOk a (addP D t p) := by
  have pl := (wd_l kp).2.1
  refine ⟨?_, fun i hi z => ?_, fun i j hi hj zi zj e => ?_⟩
  · rcases (show t = 0 ∨ t = 1 by omega) with rfl | rfl
    · exact ⟨addT_ok ok.1.1 f4, ok.1.2⟩
    · exact ⟨ok.1.1, addT_ok ok.1.2 f4⟩
  · rw [addP_n ht]
    by_cases c : i = 4 * t + tF (tw D.1 D.2.1 t)
    · rw [if_pos c]; exact ⟨kp, pl⟩
    · rw [if_neg c]
      rw [addP_in ht hi f4, decide_eq_false c, Bool.or_false] at z
      exact ok.2.1 i hi z
  · rw [addP_n ht, addP_n ht] at e
    rw [addP_in ht hi f4] at zi
    rw [addP_in ht hj f4] at zj
    by_cases c : i = 4 * t + tF (tw D.1 D.2.1 t)
    · by_cases c2 : j = 4 * t + tF (tw D.1 D.2.1 t)
      · omega
      · rw [decide_eq_false c2, Bool.or_false] at zj
        rw [if_pos c, if_neg c2] at e
        exact absurd e.symm (whoN_0 w0 hj zj)
    · rw [decide_eq_false c, Bool.or_false] at zi
      by_cases c2 : j = 4 * t + tF (tw D.1 D.2.1 t)
      · rw [if_neg c, if_pos c2] at e
        exact absurd e (whoN_0 w0 hi zi)
      · rw [decide_eq_false c2, Bool.or_false] at zj
        rw [if_neg c, if_neg c2] at e
        exact ok.2.2 i j hi hj zi zj e
theorem fkP_ok {a : kA} {D : kP} {p : Nat} (ok : DOk a D) : DOk a (fkP a D p).2.1 := by
  unfold fkP
  cases b : isNm a (nx a p) with
  | false => rw [if_neg (by simp)]; exact ok
  | true =>
    rw [if_pos rfl]
    by_cases c1 : whoN a D (nx a p) = 0
    · rw [if_pos c1]
      by_cases c2 : rw' a (nx a (nx a p)) = 2
      · rw [if_pos c2]
        by_cases c3 : kd a (nx a (nx a (nx a p))) = 2
        · rw [if_pos c3]
          by_cases c4 : nm a (nx a (nx a (nx a p))) = 1 ∨ nm a (nx a (nx a (nx a p))) = 2
          · rw [if_pos c4]
            by_cases c5 : tF (tw D.1 D.2.1 (nm a (nx a (nx a (nx a p))) - 1)) < 4
            · rw [if_pos c5]; exact addP_ok ok (by omega) c5 (isNm_k b) c1
            · rw [if_neg c5]; exact ok
          · rw [if_neg c4]; exact ok
        · rw [if_neg c3]; exact ok
      · rw [if_neg c2]; exact ok
    · rw [if_neg c1]; exact ok
theorem stP_ok {a : kA} {D : kP} {p : Nat} (ok : DOk a D) : DOk a (stP a D p).2.1 := by
  unfold stP
  by_cases r1 : rw' a p = 1
  · rw [if_pos r1]; exact fkP_ok ok
  · rw [if_neg r1]
    by_cases r2 : rw' a p = 5 ∨ rw' a p = 6
    · rw [if_pos r2]; exact lkP_ok ok (by omega)
    · rw [if_neg r2]
      by_cases r3 : rw' a p = 3 ∨ rw' a p = 4
      · rw [if_pos r3]; exact ptP_ok ok (by omega)
      · rw [if_neg r3]; exact ok
theorem stF_ok {a : kA} {D : kP} {p : Nat} (ok : DOk a D) : DOk a (stF a D p).2.1 := by
  unfold stF
  have s := stP_ok (p := p) ok
  by_cases c : (stP a D p).1 = 0
  · rw [if_pos c]; split <;> exact s
  · rw [if_neg c]; exact s
theorem nx_ge {a : kA} {p : Nat} : en a p ≤ nx a p := sk_ge
theorem nx_gt {a : kA} {p : Nat} (h : p < a.1) : p < nx a p := Nat.lt_of_lt_of_le (en_gt h) nx_ge
theorem nx_ge' {a : kA} {p : Nat} : p ≤ nx a p := Nat.le_trans en_ge nx_ge
theorem stP_ge {a : kA} {D : kP} {p : Nat} : p ≤ (stP a D p).2.2 := by
  have h1 := nx_ge' (a := a) (p := p)
  have h2 := nx_ge' (a := a) (p := nx a p)
  have h3 := nx_ge' (a := a) (p := nx a (nx a p))
  unfold stP
  split
  · unfold fkP
    repeat' split
    all_goals (dsimp only; omega)
  · split
    · unfold lkP
      split
      · dsimp only; omega
      · split
        · dsimp only; omega
        · split
          · dsimp only; omega
          · rw [mkO_p]; omega
    · split
      · unfold ptP
        split
        · dsimp only; omega
        · rw [mkO_p]; omega
      · exact Nat.le_refl _
theorem kd_lt {a : kA} {p : Nat} (h : ¬ kd a p = 0) : p < a.1 := by
  apply Classical.byContradiction
  intro c
  apply h
  unfold kd
  rw [if_pos (by omega)]
/-- after a statement that is well told the tape is further on -/
theorem stF_gt {a : kA} {D : kP} {p : Nat} (hp : p ≤ a.1) (h : (stF a D p).1 = 0) : (stF a D p).2.2 ≤ a.1 ∧ p < nx a (stF a D p).2.2 ∧ nx a (stF a D p).2.2 ≤ a.1 ∧ kd a (stF a D p).2.2 = 3 := by
  have g1 := stP_ge (a := a) (D := D) (p := p)
  have l1 := stP_le (D := D) hp
  unfold stF at *
  by_cases c : (stP a D p).1 = 0
  · rw [if_pos c] at *
    by_cases k : kd a (nx a (stP a D p).2.2) = 3
    · rw [if_pos k] at *
      have l2 := nx_le l1
      have g2 := nx_ge' (a := a) (p := (stP a D p).2.2)
      have g3 := nx_gt (kd_lt (a := a) (p := nx a (stP a D p).2.2) (by omega))
      refine ⟨l2, ?_, nx_le l2, k⟩
      show p < nx a (nx a (stP a D p).2.2)
      omega
    · rw [if_neg k] at h
      exact absurd h (er_0 (by omega))
  · rw [if_neg c] at h
    exact absurd h c
/-- all statements from the token at p on -/
def rdA (a : kA) : Nat → kP → Nat → kO
  | 0, D, p => (0, D, p)
  | n + 1, D, p => if kd a p = 0 then (0, D, p) else if (stF a D p).1 = 0 then rdA a n (stF a D p).2.1 (nx a (stF a D p).2.2) else stF a D p
theorem rdA_s {a : kA} {n : Nat} {D : kP} {p : Nat} : rdA a (n + 1) D p = if kd a p = 0 then (0, D, p) else if (stF a D p).1 = 0 then rdA a n (stF a D p).2.1 (nx a (stF a D p).2.2) else stF a D p := rfl
def OR (h h' : jM) (a : kA) (R : kO) : Prop := clF h h' ∧ (R.1 = 0 → CD h' a R.2.1)
set_option maxRecDepth 100000 in
set_option maxHeartbeats 4000000 in
theorem R_rd_go {a : kA} {d : Nat} {q : kQ} : ∀ (n i p : Nat) (D : kP) (h : jM), i + n = 1000 → a.1 ≤ p + n → p ≤ a.1 → gH h q → rA1 h a → (∃ k, k ≤ a.1 ∧ sk a k = p ∧ jI h 1 3 = nI k) → CD h a D → DOk a D → ∃ h', (∀ K, jGo (d + 6) 115 (jAt 115 10) [.ref 66, .ref 1, .ref 11, .int (nI i)] [] h K = K (some (.int (nI (rdA a n D p).1))) h') ∧ OR h h' a (rdA a n D p) := by
  intro n
  induction n with
  | zero =>
    intro i p D h hi _ hp g x _ cd ok
    have ei : i = 1000 := by omega
    subst ei
    refine ⟨h, fun K => ?_, clF.rf, fun _ => cd⟩
    show _ = K (some (.int (nI 0))) h
    (conv => lhs; rw [jb_115_10])
    simp (maxSteps := 1000000) (disch := omega) only [jMI_i, jML_l, jMA_a, jSum_n, jSum_i, jSum_a, jSum_l, jGet_0, jPut_0, jGet_1, jPut_1i, jPut_1a, jPut_1n, jPut_1l, jGet_2, jPut_2i, jPut_2a, jPut_2n, jPut_2l, jGet_3, jPut_3i, jPut_3a, jPut_3n, jPut_3l, jGet_4, jPut_4i, jPut_4a, jPut_4n, jPut_4l, jGet_5, jPut_5i, jPut_5a, jPut_5n, jPut_5l, jGet_6, jPut_6i, jPut_6a, jPut_6n, jPut_6l, jGet_7, jPut_7i, jPut_7a, jPut_7n, jPut_7l, jGet_8, jPut_8i, jPut_8a, jPut_8n, jPut_8l, jGet_9, jPut_9i, jPut_9a, jPut_9n, jPut_9l, jGet_10, jPut_10i, jPut_10a, jPut_10n, jPut_10l, jGet_11, jPut_11i, jPut_11a, jPut_11n, jPut_11l, jGet_12, jPut_12i, jPut_12a, jPut_12n, jPut_12l, jPut2_e, jSet_1, jSet_2, jSet_3, jSet_4, jSet_5, jSet_6, jSet_7, jSet_8, jSet_9, jSet_10, jSet_11, jSet_12, go_bipush_m2, go_bipush_10, go_bipush_11, go_bipush_12, go_bipush_120, go_bipush_122, go_bipush_126, go_bipush_127, go_bipush_13, go_bipush_14, go_bipush_15, go_bipush_16, go_bipush_17, go_bipush_20, go_bipush_21, go_bipush_22, go_bipush_24, go_bipush_25, go_bipush_26, go_bipush_29, go_bipush_30, go_bipush_32, go_bipush_40, go_bipush_44, go_bipush_48, go_bipush_56, go_bipush_57, go_bipush_59, go_bipush_6, go_bipush_60, go_bipush_63, go_bipush_64, go_bipush_7, go_bipush_75, go_bipush_8, go_bipush_9, go_bipush_96, go_bipush_97, go_bipush_99, go_iconst_m1, go_iconst_0, go_iconst_1, go_iconst_2, go_iconst_3, go_iconst_4, go_iconst_5, go_iinc_m1, go_iinc_m8, go_iinc_1, go_iinc_7, go_sipush_1000, go_sipush_1002, go_sipush_128, go_sipush_132, go_sipush_185, go_sipush_2040, go_sipush_2047, go_sipush_240, go_sipush_255, go_sipush_289, go_sipush_4913, go_sipush_609, go_sipush_625, go_sipush_638, go_sipush_9999, go_lconst_0, go_lconst_1, go_ldc, go_ldcs, go_ldcw, go_ldc2_0, go_ldc2_1, go_ldc2_2, go_ldc2_3, go_ldc2_4, go_ldc2_5, go_ldc2_6, go_ldc2_7, go_ldc2_8, go_ldc2_9, go_ldc2_10, go_ldc2_11, go_ldc2_12, go_ldc2_13, go_ldc2_14, go_ldc2_15, go_ldc2_16, go_ldc2_17, go_ldc2_18, go_ldc2_19, go_ldc2_20, go_ldc2_21, go_ldc2_22, go_ldc2_23, go_ldc2_24, go_ldc2_25, go_ldc2_26, go_ldc2_27, go_ldc2_28, go_ldc2_29, go_ldc2_30, go_ldc2_31, go_ldc2_32, go_ldc2_33, go_ldc2_34, go_ldc2_35, jCI_0, jCI_1, jCI_2, jCI_3, go_iload, go_iload_n, go_lload, go_lload_n, go_aload, go_aload_n, go_istore, go_istore_n, go_lstore, go_lstore_n, go_astore, go_astore_n, go_iadd, go_isub, go_imul, go_iand, go_ior, go_ixor, go_ishl, go_ishr, go_iushr, go_idiv, go_irem, go_ldiv, go_lrem, go_ineg, go_i2l, go_i2c, go_l2i, go_ladd, go_lsub, go_lmul, go_land, go_lor, go_lxor, go_lcmp, go_lshl, go_lshr, go_lushr, go_dup_i, go_dup_a, go_pop_i, go_pop_a, go_dup2, go_getstatic, go_getf_i, go_getf_z, go_getf_l, go_getf_a, go_putf_i, go_putf_l, go_putf_z, go_putf_a, go_iald, go_iald1, go_iald2, go_alen, go_alen2, go_cald, go_bald, go_lald, go_aald, go_iast, go_cast, go_bast, go_last, go_aast, go_new, go_newa, go_anew, go_objinit, go_max, go_min, go_strlen, go_charat, go_acopy, go_rests, go_goto, go_if_eq, go_ic_eq, go_if_ne, go_ic_ne, go_if_lt, go_ic_lt, go_if_ge, go_ic_ge, go_if_gt, go_ic_gt, go_if_le, go_ic_le, go_sw, go_ret, go_lret, go_aret, Nat.reduceAdd, Nat.reduceLT, Nat.reduceLeDiff, Nat.reduceEqDiff, Nat.reduceSub, and_true, true_and, if_true, if_false, and_self, Option.toList_some, Option.toList_none, List.cons_append, List.nil_append, List.length_cons, List.length_nil, Fin.isValue, Fin.reduceFinMk, Fin.val_zero, Fin.val_one, Fin.val_two, jFin3, jI_jsI_n, jI_jsL_n, jI_jsR_n, jL_jsI_n, jL_jsL_n, jL_jsR_n, jR_jsI_n, jR_jsL_n, jR_jsR_n, jN_jsI_n, jN_jsL_n, jN_jsR_n, jXn_jsI_n, jXn_jsL_n, jXn_jsR_n, jXs_jsI_n, jXs_jsL_n, jXs_jsR_n, jEx_jsI_n, jEx_jsL_n, jEx_jsR_n, jI_jXp_n, jL_jXp_n, jR_jXp_n, jN_jXp_n, jXn_jXp_n, jXs_jXp_n, jEx_jXp_n, jb_115_50, cl_70, cl_82, cl_83, cl_116, rt_115, js_0, js_1, js_2, js_3, js_4, js_5, js_6, js_7, js_8, js_9, js_10, js_11, js_12, js_13, js_14, js_15, js_16, js_17, js_18, js_19, js_20, js_21, js_22, js_23, js_24, js_25, js_26, js_27, js_28, js_29, js_30, js_31, js_32, js_33, js_34, js_35, js_36, js_37, js_38, js_39, js_40, js_41, js_42, js_43, js_44, js_45, js_46, js_47, js_48, js_49, js_50, js_51, js_52, js_53, js_54, js_55, js_56, js_57, js_58, js_59, js_60, js_61, js_62, js_63, js_64, js_65, js_66, js_67, js_68, js_69, js_70, js_71, js_72, js_73, js_74, js_75, js_76, js_77, js_78, js_79, js_80, js_81, js_82, js_83, js_84, js_85, js_86, js_87, js_88, js_89, js_90, js_91, js_92, js_93, js_94, js_95, js_96, js_97, js_98, js_99, js_100, js_101, js_102, js_103, js_104, js_105, js_106, js_107, js_108, js_109, js_110, js_111, js_112, js_113, js_114, js_115, js_116, js_117, js_118, js_119, lit_I, neg_1, jCl_nI, i_lt, i_le, i_eq, i_sub, i_div, n_rem, i_and31, i_shl, i_shr, i_bit, bI_1, bI_0, bI_2, bZ_1, bZ_0, bZ_in, bZ_2, nO_lt, nO_gt, nO_le, nO_ge, nO_eq, nO_qe, nO_self, nO_sele, nO_add, pI_0, pI_s, pI_nO, pI_lt0, pI_ge0, pI_eq, pI_add, nI_add, pk_mul, nx_and, fa_or, fb_xorI, Nat.reduceMul, Nat.reduceDiv, Nat.reduceMod, Nat.reducePow, Nat.reduceAnd, Nat.reduceOr, Nat.reduceXor, Nat.reduceShiftLeft, Nat.reduceShiftRight, eq_self, not_true_eq_false, not_false_eq_true, or_false, false_or, or_true, true_or, and_false, false_and, ↓reduceIte, Nat.zero_add, Nat.add_zero, Nat.not_lt_zero, Nat.zero_le, Bool.true_eq_false, Bool.false_eq_true, decide_true, decide_false, bl_in, rF_t3, rF_t4, rF_0_0, rF_0_1, rF_0_2, rF_0_3, rF_0_4, rF_0_5, rF_0_7, rF_0_8, rF_0_10, rF_0_11, rF_0_12, rF_0_13, rF_0_14, rF_0_15, rF_0_16, rF_1_0, rF_3_0, rF_3_1, rF_3_2, rF_4_3, rF_4_4, rF_7_3, rF_7_4, rF_11_0, rF_11_1, rF_11_2, rF_12_3, rF_12_4, rF_15_3, rF_15_4, rF_19_0, rF_19_1, rF_19_2, rF_19_3, rF_20_0, rF_20_1, rF_20_2, rF_21_3, rF_21_4, rF_24_3, rF_24_4, rF_28_0, rF_28_1, rF_28_2, rF_29_3, rF_29_4, rF_32_3, rF_32_4, rF_36_0, rF_36_1, rF_36_2, rF_37_3, rF_37_4, rF_40_3, rF_40_4, rF_44_0, rF_44_1, rF_44_2, rF_45_3, rF_45_4, rF_48_3, rF_48_4, rF_54_0, rF_54_1, rF_54_2, rF_54_3, rF_54_4, rF_60_0, rF_60_1, rF_60_2, rF_60_3, rF_60_4, rF_66_0, rF_66_1, rF_70_0, rF_70_1, rF_70_2, rF_70_3, rF_70_7, rF_70_8, rF_70_9, rF_71_3, rF_71_4, rF_79_0, rF_79_1, rF_82_0, rF_82_1, rF_82_2, rF_82_3, rF_82_4, rF_86_3, rF_86_4, rF_90_3, rF_90_4, rF_93_1, rF_93_4, rF_93_5, rF_93_6, rF_93_9, rF_93_10, rF_93_11, rF_93_12, rF_93_14, rF_93_15, rF_93_16, rF_93_17, rF_93_20, rF_93_24, rF_93_25, rF_93_26, rF_93_27, rF_93_29, rF_93_31, rF_93_32, rF_93_33, rF_93_34, rF_93_35, rF_93_36, rF_93_37, g.1, g.2, Nat.le_refl, jN_mPn_n, jR_mPn_n, mTh_e_n, jN_mTh_n, jR_mTh_n, jI_mTh_n]
  | succ n ih =>
    intro i p D h hi hn hp g x hk cd ok
    obtain ⟨k, k1, k2, k3⟩ := hk
    have i1 : ¬ 1000 ≤ i := by omega
    obtain ⟨h1, r1, t1, f1, g1, x1⟩ := Tp_next (d := d + 3) g x k1 k3
    rw [k2] at t1
    have c1 := f1.c (by decide)
    have cd1 := cd.f f1
    have e4 := t1.2.1
    have k4 := kd_4 (a := a) (p := p)
    rw [rdA_s]
    by_cases z : kd a p = 0
    · rw [if_pos z]
      rw [z] at e4
      refine ⟨h1, fun K => ?_, c1, fun _ => cd1⟩
      show _ = K (some (.int (nI 0))) h1
      (conv => lhs; rw [jb_115_10])
      simp (maxSteps := 1000000) (disch := omega) only [jMI_i, jML_l, jMA_a, jSum_n, jSum_i, jSum_a, jSum_l, jGet_0, jPut_0, jGet_1, jPut_1i, jPut_1a, jPut_1n, jPut_1l, jGet_2, jPut_2i, jPut_2a, jPut_2n, jPut_2l, jGet_3, jPut_3i, jPut_3a, jPut_3n, jPut_3l, jGet_4, jPut_4i, jPut_4a, jPut_4n, jPut_4l, jGet_5, jPut_5i, jPut_5a, jPut_5n, jPut_5l, jGet_6, jPut_6i, jPut_6a, jPut_6n, jPut_6l, jGet_7, jPut_7i, jPut_7a, jPut_7n, jPut_7l, jGet_8, jPut_8i, jPut_8a, jPut_8n, jPut_8l, jGet_9, jPut_9i, jPut_9a, jPut_9n, jPut_9l, jGet_10, jPut_10i, jPut_10a, jPut_10n, jPut_10l, jGet_11, jPut_11i, jPut_11a, jPut_11n, jPut_11l, jGet_12, jPut_12i, jPut_12a, jPut_12n, jPut_12l, jPut2_e, jSet_1, jSet_2, jSet_3, jSet_4, jSet_5, jSet_6, jSet_7, jSet_8, jSet_9, jSet_10, jSet_11, jSet_12, go_bipush_m2, go_bipush_10, go_bipush_11, go_bipush_12, go_bipush_120, go_bipush_122, go_bipush_126, go_bipush_127, go_bipush_13, go_bipush_14, go_bipush_15, go_bipush_16, go_bipush_17, go_bipush_20, go_bipush_21, go_bipush_22, go_bipush_24, go_bipush_25, go_bipush_26, go_bipush_29, go_bipush_30, go_bipush_32, go_bipush_40, go_bipush_44, go_bipush_48, go_bipush_56, go_bipush_57, go_bipush_59, go_bipush_6, go_bipush_60, go_bipush_63, go_bipush_64, go_bipush_7, go_bipush_75, go_bipush_8, go_bipush_9, go_bipush_96, go_bipush_97, go_bipush_99, go_iconst_m1, go_iconst_0, go_iconst_1, go_iconst_2, go_iconst_3, go_iconst_4, go_iconst_5, go_iinc_m1, go_iinc_m8, go_iinc_1, go_iinc_7, go_sipush_1000, go_sipush_1002, go_sipush_128, go_sipush_132, go_sipush_185, go_sipush_2040, go_sipush_2047, go_sipush_240, go_sipush_255, go_sipush_289, go_sipush_4913, go_sipush_609, go_sipush_625, go_sipush_638, go_sipush_9999, go_lconst_0, go_lconst_1, go_ldc, go_ldcs, go_ldcw, go_ldc2_0, go_ldc2_1, go_ldc2_2, go_ldc2_3, go_ldc2_4, go_ldc2_5, go_ldc2_6, go_ldc2_7, go_ldc2_8, go_ldc2_9, go_ldc2_10, go_ldc2_11, go_ldc2_12, go_ldc2_13, go_ldc2_14, go_ldc2_15, go_ldc2_16, go_ldc2_17, go_ldc2_18, go_ldc2_19, go_ldc2_20, go_ldc2_21, go_ldc2_22, go_ldc2_23, go_ldc2_24, go_ldc2_25, go_ldc2_26, go_ldc2_27, go_ldc2_28, go_ldc2_29, go_ldc2_30, go_ldc2_31, go_ldc2_32, go_ldc2_33, go_ldc2_34, go_ldc2_35, jCI_0, jCI_1, jCI_2, jCI_3, go_iload, go_iload_n, go_lload, go_lload_n, go_aload, go_aload_n, go_istore, go_istore_n, go_lstore, go_lstore_n, go_astore, go_astore_n, go_iadd, go_isub, go_imul, go_iand, go_ior, go_ixor, go_ishl, go_ishr, go_iushr, go_idiv, go_irem, go_ldiv, go_lrem, go_ineg, go_i2l, go_i2c, go_l2i, go_ladd, go_lsub, go_lmul, go_land, go_lor, go_lxor, go_lcmp, go_lshl, go_lshr, go_lushr, go_dup_i, go_dup_a, go_pop_i, go_pop_a, go_dup2, go_getstatic, go_getf_i, go_getf_z, go_getf_l, go_getf_a, go_putf_i, go_putf_l, go_putf_z, go_putf_a, go_iald, go_iald1, go_iald2, go_alen, go_alen2, go_cald, go_bald, go_lald, go_aald, go_iast, go_cast, go_bast, go_last, go_aast, go_new, go_newa, go_anew, go_objinit, go_max, go_min, go_strlen, go_charat, go_acopy, go_rests, go_goto, go_if_eq, go_ic_eq, go_if_ne, go_ic_ne, go_if_lt, go_ic_lt, go_if_ge, go_ic_ge, go_if_gt, go_ic_gt, go_if_le, go_ic_le, go_sw, go_ret, go_lret, go_aret, Nat.reduceAdd, Nat.reduceLT, Nat.reduceLeDiff, Nat.reduceEqDiff, Nat.reduceSub, and_true, true_and, if_true, if_false, and_self, Option.toList_some, Option.toList_none, List.cons_append, List.nil_append, List.length_cons, List.length_nil, Fin.isValue, Fin.reduceFinMk, Fin.val_zero, Fin.val_one, Fin.val_two, jFin3, jI_jsI_n, jI_jsL_n, jI_jsR_n, jL_jsI_n, jL_jsL_n, jL_jsR_n, jR_jsI_n, jR_jsL_n, jR_jsR_n, jN_jsI_n, jN_jsL_n, jN_jsR_n, jXn_jsI_n, jXn_jsL_n, jXn_jsR_n, jXs_jsI_n, jXs_jsL_n, jXs_jsR_n, jEx_jsI_n, jEx_jsL_n, jEx_jsR_n, jI_jXp_n, jL_jXp_n, jR_jXp_n, jN_jXp_n, jXn_jXp_n, jXs_jXp_n, jEx_jXp_n, jb_115_0, cl_70, cl_82, cl_83, cl_116, rt_115, js_0, js_1, js_2, js_3, js_4, js_5, js_6, js_7, js_8, js_9, js_10, js_11, js_12, js_13, js_14, js_15, js_16, js_17, js_18, js_19, js_20, js_21, js_22, js_23, js_24, js_25, js_26, js_27, js_28, js_29, js_30, js_31, js_32, js_33, js_34, js_35, js_36, js_37, js_38, js_39, js_40, js_41, js_42, js_43, js_44, js_45, js_46, js_47, js_48, js_49, js_50, js_51, js_52, js_53, js_54, js_55, js_56, js_57, js_58, js_59, js_60, js_61, js_62, js_63, js_64, js_65, js_66, js_67, js_68, js_69, js_70, js_71, js_72, js_73, js_74, js_75, js_76, js_77, js_78, js_79, js_80, js_81, js_82, js_83, js_84, js_85, js_86, js_87, js_88, js_89, js_90, js_91, js_92, js_93, js_94, js_95, js_96, js_97, js_98, js_99, js_100, js_101, js_102, js_103, js_104, js_105, js_106, js_107, js_108, js_109, js_110, js_111, js_112, js_113, js_114, js_115, js_116, js_117, js_118, js_119, lit_I, neg_1, jCl_nI, i_lt, i_le, i_eq, i_sub, i_div, n_rem, i_and31, i_shl, i_shr, i_bit, bI_1, bI_0, bI_2, bZ_1, bZ_0, bZ_in, bZ_2, nO_lt, nO_gt, nO_le, nO_ge, nO_eq, nO_qe, nO_self, nO_sele, nO_add, pI_0, pI_s, pI_nO, pI_lt0, pI_ge0, pI_eq, pI_add, nI_add, pk_mul, nx_and, fa_or, fb_xorI, Nat.reduceMul, Nat.reduceDiv, Nat.reduceMod, Nat.reducePow, Nat.reduceAnd, Nat.reduceOr, Nat.reduceXor, Nat.reduceShiftLeft, Nat.reduceShiftRight, eq_self, not_true_eq_false, not_false_eq_true, or_false, false_or, or_true, true_or, and_false, false_and, ↓reduceIte, Nat.zero_add, Nat.add_zero, Nat.not_lt_zero, Nat.zero_le, Bool.true_eq_false, Bool.false_eq_true, decide_true, decide_false, bl_in, rF_t3, rF_t4, rF_0_0, rF_0_1, rF_0_2, rF_0_3, rF_0_4, rF_0_5, rF_0_7, rF_0_8, rF_0_10, rF_0_11, rF_0_12, rF_0_13, rF_0_14, rF_0_15, rF_0_16, rF_1_0, rF_3_0, rF_3_1, rF_3_2, rF_4_3, rF_4_4, rF_7_3, rF_7_4, rF_11_0, rF_11_1, rF_11_2, rF_12_3, rF_12_4, rF_15_3, rF_15_4, rF_19_0, rF_19_1, rF_19_2, rF_19_3, rF_20_0, rF_20_1, rF_20_2, rF_21_3, rF_21_4, rF_24_3, rF_24_4, rF_28_0, rF_28_1, rF_28_2, rF_29_3, rF_29_4, rF_32_3, rF_32_4, rF_36_0, rF_36_1, rF_36_2, rF_37_3, rF_37_4, rF_40_3, rF_40_4, rF_44_0, rF_44_1, rF_44_2, rF_45_3, rF_45_4, rF_48_3, rF_48_4, rF_54_0, rF_54_1, rF_54_2, rF_54_3, rF_54_4, rF_60_0, rF_60_1, rF_60_2, rF_60_3, rF_60_4, rF_66_0, rF_66_1, rF_70_0, rF_70_1, rF_70_2, rF_70_3, rF_70_7, rF_70_8, rF_70_9, rF_71_3, rF_71_4, rF_79_0, rF_79_1, rF_82_0, rF_82_1, rF_82_2, rF_82_3, rF_82_4, rF_86_3, rF_86_4, rF_90_3, rF_90_4, rF_93_1, rF_93_4, rF_93_5, rF_93_6, rF_93_9, rF_93_10, rF_93_11, rF_93_12, rF_93_14, rF_93_15, rF_93_16, rF_93_17, rF_93_20, rF_93_24, rF_93_25, rF_93_26, rF_93_27, rF_93_29, rF_93_31, rF_93_32, rF_93_33, rF_93_34, rF_93_35, rF_93_36, rF_93_37, g.1, g.2, i1, r1, g1.1, g1.2, e4, jN_mPn_n, jR_mPn_n, mTh_e_n, jN_mTh_n, jR_mTh_n, jI_mTh_n]
    · rw [if_neg z]
      obtain ⟨h2, r2, o2⟩ := R_statement (d := d) g1 x1 hp t1 cd1 ok
      have c2 := o2.1
      have g2 := c2.g g1
      by_cases y : (stF a D p).1 = 0
      · rw [if_pos y]
        obtain ⟨l1, l2, l3, l4⟩ := stF_gt hp y
        obtain ⟨tk2, cd2⟩ := o2.2.2 y
        obtain ⟨h3, r3, o3⟩ := ih (i + 1) (nx a (stF a D p).2.2) (stF a D p).2.1 h2 (by omega) (by omega) l3 g2 (c2.A x1) ⟨en a (stF a D p).2.2, en_le l1, rfl, tk2.1.2⟩ cd2 (stF_ok ok)
        refine ⟨h3, fun K => ?_, (c1.tr c2).tr o3.1, o3.2⟩
        rw [← r3 K]
        rw [decide_eq_true y, bZ_t] at r2
        generalize kd a p = kk at *
        (conv => lhs; rw [jb_115_10])
        simp (maxSteps := 1000000) (disch := omega) only [jMI_i, jML_l, jMA_a, jSum_n, jSum_i, jSum_a, jSum_l, jGet_0, jPut_0, jGet_1, jPut_1i, jPut_1a, jPut_1n, jPut_1l, jGet_2, jPut_2i, jPut_2a, jPut_2n, jPut_2l, jGet_3, jPut_3i, jPut_3a, jPut_3n, jPut_3l, jGet_4, jPut_4i, jPut_4a, jPut_4n, jPut_4l, jGet_5, jPut_5i, jPut_5a, jPut_5n, jPut_5l, jGet_6, jPut_6i, jPut_6a, jPut_6n, jPut_6l, jGet_7, jPut_7i, jPut_7a, jPut_7n, jPut_7l, jGet_8, jPut_8i, jPut_8a, jPut_8n, jPut_8l, jGet_9, jPut_9i, jPut_9a, jPut_9n, jPut_9l, jGet_10, jPut_10i, jPut_10a, jPut_10n, jPut_10l, jGet_11, jPut_11i, jPut_11a, jPut_11n, jPut_11l, jGet_12, jPut_12i, jPut_12a, jPut_12n, jPut_12l, jPut2_e, jSet_1, jSet_2, jSet_3, jSet_4, jSet_5, jSet_6, jSet_7, jSet_8, jSet_9, jSet_10, jSet_11, jSet_12, go_bipush_m2, go_bipush_10, go_bipush_11, go_bipush_12, go_bipush_120, go_bipush_122, go_bipush_126, go_bipush_127, go_bipush_13, go_bipush_14, go_bipush_15, go_bipush_16, go_bipush_17, go_bipush_20, go_bipush_21, go_bipush_22, go_bipush_24, go_bipush_25, go_bipush_26, go_bipush_29, go_bipush_30, go_bipush_32, go_bipush_40, go_bipush_44, go_bipush_48, go_bipush_56, go_bipush_57, go_bipush_59, go_bipush_6, go_bipush_60, go_bipush_63, go_bipush_64, go_bipush_7, go_bipush_75, go_bipush_8, go_bipush_9, go_bipush_96, go_bipush_97, go_bipush_99, go_iconst_m1, go_iconst_0, go_iconst_1, go_iconst_2, go_iconst_3, go_iconst_4, go_iconst_5, go_iinc_m1, go_iinc_m8, go_iinc_1, go_iinc_7, go_sipush_1000, go_sipush_1002, go_sipush_128, go_sipush_132, go_sipush_185, go_sipush_2040, go_sipush_2047, go_sipush_240, go_sipush_255, go_sipush_289, go_sipush_4913, go_sipush_609, go_sipush_625, go_sipush_638, go_sipush_9999, go_lconst_0, go_lconst_1, go_ldc, go_ldcs, go_ldcw, go_ldc2_0, go_ldc2_1, go_ldc2_2, go_ldc2_3, go_ldc2_4, go_ldc2_5, go_ldc2_6, go_ldc2_7, go_ldc2_8, go_ldc2_9, go_ldc2_10, go_ldc2_11, go_ldc2_12, go_ldc2_13, go_ldc2_14, go_ldc2_15, go_ldc2_16, go_ldc2_17, go_ldc2_18, go_ldc2_19, go_ldc2_20, go_ldc2_21, go_ldc2_22, go_ldc2_23, go_ldc2_24, go_ldc2_25, go_ldc2_26, go_ldc2_27, go_ldc2_28, go_ldc2_29, go_ldc2_30, go_ldc2_31, go_ldc2_32, go_ldc2_33, go_ldc2_34, go_ldc2_35, jCI_0, jCI_1, jCI_2, jCI_3, go_iload, go_iload_n, go_lload, go_lload_n, go_aload, go_aload_n, go_istore, go_istore_n, go_lstore, go_lstore_n, go_astore, go_astore_n, go_iadd, go_isub, go_imul, go_iand, go_ior, go_ixor, go_ishl, go_ishr, go_iushr, go_idiv, go_irem, go_ldiv, go_lrem, go_ineg, go_i2l, go_i2c, go_l2i, go_ladd, go_lsub, go_lmul, go_land, go_lor, go_lxor, go_lcmp, go_lshl, go_lshr, go_lushr, go_dup_i, go_dup_a, go_pop_i, go_pop_a, go_dup2, go_getstatic, go_getf_i, go_getf_z, go_getf_l, go_getf_a, go_putf_i, go_putf_l, go_putf_z, go_putf_a, go_iald, go_iald1, go_iald2, go_alen, go_alen2, go_cald, go_bald, go_lald, go_aald, go_iast, go_cast, go_bast, go_last, go_aast, go_new, go_newa, go_anew, go_objinit, go_max, go_min, go_strlen, go_charat, go_acopy, go_rests, go_goto, go_if_eq, go_ic_eq, go_if_ne, go_ic_ne, go_if_lt, go_ic_lt, go_if_ge, go_ic_ge, go_if_gt, go_ic_gt, go_if_le, go_ic_le, go_sw, go_ret, go_lret, go_aret, Nat.reduceAdd, Nat.reduceLT, Nat.reduceLeDiff, Nat.reduceEqDiff, Nat.reduceSub, and_true, true_and, if_true, if_false, and_self, Option.toList_some, Option.toList_none, List.cons_append, List.nil_append, List.length_cons, List.length_nil, Fin.isValue, Fin.reduceFinMk, Fin.val_zero, Fin.val_one, Fin.val_two, jFin3, jI_jsI_n, jI_jsL_n, jI_jsR_n, jL_jsI_n, jL_jsL_n, jL_jsR_n, jR_jsI_n, jR_jsL_n, jR_jsR_n, jN_jsI_n, jN_jsL_n, jN_jsR_n, jXn_jsI_n, jXn_jsL_n, jXn_jsR_n, jXs_jsI_n, jXs_jsL_n, jXs_jsR_n, jEx_jsI_n, jEx_jsL_n, jEx_jsR_n, jI_jXp_n, jL_jXp_n, jR_jXp_n, jN_jXp_n, jXn_jXp_n, jXs_jXp_n, jEx_jXp_n, jb_115_30, jb_115_44, cl_70, cl_82, cl_83, cl_116, rt_115, js_0, js_1, js_2, js_3, js_4, js_5, js_6, js_7, js_8, js_9, js_10, js_11, js_12, js_13, js_14, js_15, js_16, js_17, js_18, js_19, js_20, js_21, js_22, js_23, js_24, js_25, js_26, js_27, js_28, js_29, js_30, js_31, js_32, js_33, js_34, js_35, js_36, js_37, js_38, js_39, js_40, js_41, js_42, js_43, js_44, js_45, js_46, js_47, js_48, js_49, js_50, js_51, js_52, js_53, js_54, js_55, js_56, js_57, js_58, js_59, js_60, js_61, js_62, js_63, js_64, js_65, js_66, js_67, js_68, js_69, js_70, js_71, js_72, js_73, js_74, js_75, js_76, js_77, js_78, js_79, js_80, js_81, js_82, js_83, js_84, js_85, js_86, js_87, js_88, js_89, js_90, js_91, js_92, js_93, js_94, js_95, js_96, js_97, js_98, js_99, js_100, js_101, js_102, js_103, js_104, js_105, js_106, js_107, js_108, js_109, js_110, js_111, js_112, js_113, js_114, js_115, js_116, js_117, js_118, js_119, lit_I, neg_1, jCl_nI, i_lt, i_le, i_eq, i_sub, i_div, n_rem, i_and31, i_shl, i_shr, i_bit, bI_1, bI_0, bI_2, bZ_1, bZ_0, bZ_in, bZ_2, nO_lt, nO_gt, nO_le, nO_ge, nO_eq, nO_qe, nO_self, nO_sele, nO_add, pI_0, pI_s, pI_nO, pI_lt0, pI_ge0, pI_eq, pI_add, nI_add, pk_mul, nx_and, fa_or, fb_xorI, Nat.reduceMul, Nat.reduceDiv, Nat.reduceMod, Nat.reducePow, Nat.reduceAnd, Nat.reduceOr, Nat.reduceXor, Nat.reduceShiftLeft, Nat.reduceShiftRight, eq_self, not_true_eq_false, not_false_eq_true, or_false, false_or, or_true, true_or, and_false, false_and, ↓reduceIte, Nat.zero_add, Nat.add_zero, Nat.not_lt_zero, Nat.zero_le, Bool.true_eq_false, Bool.false_eq_true, decide_true, decide_false, bl_in, rF_t3, rF_t4, rF_0_0, rF_0_1, rF_0_2, rF_0_3, rF_0_4, rF_0_5, rF_0_7, rF_0_8, rF_0_10, rF_0_11, rF_0_12, rF_0_13, rF_0_14, rF_0_15, rF_0_16, rF_1_0, rF_3_0, rF_3_1, rF_3_2, rF_4_3, rF_4_4, rF_7_3, rF_7_4, rF_11_0, rF_11_1, rF_11_2, rF_12_3, rF_12_4, rF_15_3, rF_15_4, rF_19_0, rF_19_1, rF_19_2, rF_19_3, rF_20_0, rF_20_1, rF_20_2, rF_21_3, rF_21_4, rF_24_3, rF_24_4, rF_28_0, rF_28_1, rF_28_2, rF_29_3, rF_29_4, rF_32_3, rF_32_4, rF_36_0, rF_36_1, rF_36_2, rF_37_3, rF_37_4, rF_40_3, rF_40_4, rF_44_0, rF_44_1, rF_44_2, rF_45_3, rF_45_4, rF_48_3, rF_48_4, rF_54_0, rF_54_1, rF_54_2, rF_54_3, rF_54_4, rF_60_0, rF_60_1, rF_60_2, rF_60_3, rF_60_4, rF_66_0, rF_66_1, rF_70_0, rF_70_1, rF_70_2, rF_70_3, rF_70_7, rF_70_8, rF_70_9, rF_71_3, rF_71_4, rF_79_0, rF_79_1, rF_82_0, rF_82_1, rF_82_2, rF_82_3, rF_82_4, rF_86_3, rF_86_4, rF_90_3, rF_90_4, rF_93_1, rF_93_4, rF_93_5, rF_93_6, rF_93_9, rF_93_10, rF_93_11, rF_93_12, rF_93_14, rF_93_15, rF_93_16, rF_93_17, rF_93_20, rF_93_24, rF_93_25, rF_93_26, rF_93_27, rF_93_29, rF_93_31, rF_93_32, rF_93_33, rF_93_34, rF_93_35, rF_93_36, rF_93_37, g.1, g.2, i1, r1, g1.1, g1.2, e4, z, r2, g2.1, g2.2, jN_mPn_n, jR_mPn_n, mTh_e_n, jN_mTh_n, jR_mTh_n, jI_mTh_n]
      · rw [if_neg y]
        have e7 := o2.2.1 y
        refine ⟨h2, fun K => ?_, c1.tr c2, fun w => absurd w y⟩
        rw [decide_eq_false y, bZ_f] at r2
        generalize kd a p = kk at *
        generalize (stF a D p).1 = F at *
        (conv => lhs; rw [jb_115_10])
        simp (maxSteps := 1000000) (disch := omega) only [jMI_i, jML_l, jMA_a, jSum_n, jSum_i, jSum_a, jSum_l, jGet_0, jPut_0, jGet_1, jPut_1i, jPut_1a, jPut_1n, jPut_1l, jGet_2, jPut_2i, jPut_2a, jPut_2n, jPut_2l, jGet_3, jPut_3i, jPut_3a, jPut_3n, jPut_3l, jGet_4, jPut_4i, jPut_4a, jPut_4n, jPut_4l, jGet_5, jPut_5i, jPut_5a, jPut_5n, jPut_5l, jGet_6, jPut_6i, jPut_6a, jPut_6n, jPut_6l, jGet_7, jPut_7i, jPut_7a, jPut_7n, jPut_7l, jGet_8, jPut_8i, jPut_8a, jPut_8n, jPut_8l, jGet_9, jPut_9i, jPut_9a, jPut_9n, jPut_9l, jGet_10, jPut_10i, jPut_10a, jPut_10n, jPut_10l, jGet_11, jPut_11i, jPut_11a, jPut_11n, jPut_11l, jGet_12, jPut_12i, jPut_12a, jPut_12n, jPut_12l, jPut2_e, jSet_1, jSet_2, jSet_3, jSet_4, jSet_5, jSet_6, jSet_7, jSet_8, jSet_9, jSet_10, jSet_11, jSet_12, go_bipush_m2, go_bipush_10, go_bipush_11, go_bipush_12, go_bipush_120, go_bipush_122, go_bipush_126, go_bipush_127, go_bipush_13, go_bipush_14, go_bipush_15, go_bipush_16, go_bipush_17, go_bipush_20, go_bipush_21, go_bipush_22, go_bipush_24, go_bipush_25, go_bipush_26, go_bipush_29, go_bipush_30, go_bipush_32, go_bipush_40, go_bipush_44, go_bipush_48, go_bipush_56, go_bipush_57, go_bipush_59, go_bipush_6, go_bipush_60, go_bipush_63, go_bipush_64, go_bipush_7, go_bipush_75, go_bipush_8, go_bipush_9, go_bipush_96, go_bipush_97, go_bipush_99, go_iconst_m1, go_iconst_0, go_iconst_1, go_iconst_2, go_iconst_3, go_iconst_4, go_iconst_5, go_iinc_m1, go_iinc_m8, go_iinc_1, go_iinc_7, go_sipush_1000, go_sipush_1002, go_sipush_128, go_sipush_132, go_sipush_185, go_sipush_2040, go_sipush_2047, go_sipush_240, go_sipush_255, go_sipush_289, go_sipush_4913, go_sipush_609, go_sipush_625, go_sipush_638, go_sipush_9999, go_lconst_0, go_lconst_1, go_ldc, go_ldcs, go_ldcw, go_ldc2_0, go_ldc2_1, go_ldc2_2, go_ldc2_3, go_ldc2_4, go_ldc2_5, go_ldc2_6, go_ldc2_7, go_ldc2_8, go_ldc2_9, go_ldc2_10, go_ldc2_11, go_ldc2_12, go_ldc2_13, go_ldc2_14, go_ldc2_15, go_ldc2_16, go_ldc2_17, go_ldc2_18, go_ldc2_19, go_ldc2_20, go_ldc2_21, go_ldc2_22, go_ldc2_23, go_ldc2_24, go_ldc2_25, go_ldc2_26, go_ldc2_27, go_ldc2_28, go_ldc2_29, go_ldc2_30, go_ldc2_31, go_ldc2_32, go_ldc2_33, go_ldc2_34, go_ldc2_35, jCI_0, jCI_1, jCI_2, jCI_3, go_iload, go_iload_n, go_lload, go_lload_n, go_aload, go_aload_n, go_istore, go_istore_n, go_lstore, go_lstore_n, go_astore, go_astore_n, go_iadd, go_isub, go_imul, go_iand, go_ior, go_ixor, go_ishl, go_ishr, go_iushr, go_idiv, go_irem, go_ldiv, go_lrem, go_ineg, go_i2l, go_i2c, go_l2i, go_ladd, go_lsub, go_lmul, go_land, go_lor, go_lxor, go_lcmp, go_lshl, go_lshr, go_lushr, go_dup_i, go_dup_a, go_pop_i, go_pop_a, go_dup2, go_getstatic, go_getf_i, go_getf_z, go_getf_l, go_getf_a, go_putf_i, go_putf_l, go_putf_z, go_putf_a, go_iald, go_iald1, go_iald2, go_alen, go_alen2, go_cald, go_bald, go_lald, go_aald, go_iast, go_cast, go_bast, go_last, go_aast, go_new, go_newa, go_anew, go_objinit, go_max, go_min, go_strlen, go_charat, go_acopy, go_rests, go_goto, go_if_eq, go_ic_eq, go_if_ne, go_ic_ne, go_if_lt, go_ic_lt, go_if_ge, go_ic_ge, go_if_gt, go_ic_gt, go_if_le, go_ic_le, go_sw, go_ret, go_lret, go_aret, Nat.reduceAdd, Nat.reduceLT, Nat.reduceLeDiff, Nat.reduceEqDiff, Nat.reduceSub, and_true, true_and, if_true, if_false, and_self, Option.toList_some, Option.toList_none, List.cons_append, List.nil_append, List.length_cons, List.length_nil, Fin.isValue, Fin.reduceFinMk, Fin.val_zero, Fin.val_one, Fin.val_two, jFin3, jI_jsI_n, jI_jsL_n, jI_jsR_n, jL_jsI_n, jL_jsL_n, jL_jsR_n, jR_jsI_n, jR_jsL_n, jR_jsR_n, jN_jsI_n, jN_jsL_n, jN_jsR_n, jXn_jsI_n, jXn_jsL_n, jXn_jsR_n, jXs_jsI_n, jXs_jsL_n, jXs_jsR_n, jEx_jsI_n, jEx_jsL_n, jEx_jsR_n, jI_jXp_n, jL_jXp_n, jR_jXp_n, jN_jXp_n, jXn_jXp_n, jXs_jXp_n, jEx_jXp_n, jb_115_30, cl_70, cl_82, cl_83, cl_116, rt_115, js_0, js_1, js_2, js_3, js_4, js_5, js_6, js_7, js_8, js_9, js_10, js_11, js_12, js_13, js_14, js_15, js_16, js_17, js_18, js_19, js_20, js_21, js_22, js_23, js_24, js_25, js_26, js_27, js_28, js_29, js_30, js_31, js_32, js_33, js_34, js_35, js_36, js_37, js_38, js_39, js_40, js_41, js_42, js_43, js_44, js_45, js_46, js_47, js_48, js_49, js_50, js_51, js_52, js_53, js_54, js_55, js_56, js_57, js_58, js_59, js_60, js_61, js_62, js_63, js_64, js_65, js_66, js_67, js_68, js_69, js_70, js_71, js_72, js_73, js_74, js_75, js_76, js_77, js_78, js_79, js_80, js_81, js_82, js_83, js_84, js_85, js_86, js_87, js_88, js_89, js_90, js_91, js_92, js_93, js_94, js_95, js_96, js_97, js_98, js_99, js_100, js_101, js_102, js_103, js_104, js_105, js_106, js_107, js_108, js_109, js_110, js_111, js_112, js_113, js_114, js_115, js_116, js_117, js_118, js_119, lit_I, neg_1, jCl_nI, i_lt, i_le, i_eq, i_sub, i_div, n_rem, i_and31, i_shl, i_shr, i_bit, bI_1, bI_0, bI_2, bZ_1, bZ_0, bZ_in, bZ_2, nO_lt, nO_gt, nO_le, nO_ge, nO_eq, nO_qe, nO_self, nO_sele, nO_add, pI_0, pI_s, pI_nO, pI_lt0, pI_ge0, pI_eq, pI_add, nI_add, pk_mul, nx_and, fa_or, fb_xorI, Nat.reduceMul, Nat.reduceDiv, Nat.reduceMod, Nat.reducePow, Nat.reduceAnd, Nat.reduceOr, Nat.reduceXor, Nat.reduceShiftLeft, Nat.reduceShiftRight, eq_self, not_true_eq_false, not_false_eq_true, or_false, false_or, or_true, true_or, and_false, false_and, ↓reduceIte, Nat.zero_add, Nat.add_zero, Nat.not_lt_zero, Nat.zero_le, Bool.true_eq_false, Bool.false_eq_true, decide_true, decide_false, bl_in, rF_t3, rF_t4, rF_0_0, rF_0_1, rF_0_2, rF_0_3, rF_0_4, rF_0_5, rF_0_7, rF_0_8, rF_0_10, rF_0_11, rF_0_12, rF_0_13, rF_0_14, rF_0_15, rF_0_16, rF_1_0, rF_3_0, rF_3_1, rF_3_2, rF_4_3, rF_4_4, rF_7_3, rF_7_4, rF_11_0, rF_11_1, rF_11_2, rF_12_3, rF_12_4, rF_15_3, rF_15_4, rF_19_0, rF_19_1, rF_19_2, rF_19_3, rF_20_0, rF_20_1, rF_20_2, rF_21_3, rF_21_4, rF_24_3, rF_24_4, rF_28_0, rF_28_1, rF_28_2, rF_29_3, rF_29_4, rF_32_3, rF_32_4, rF_36_0, rF_36_1, rF_36_2, rF_37_3, rF_37_4, rF_40_3, rF_40_4, rF_44_0, rF_44_1, rF_44_2, rF_45_3, rF_45_4, rF_48_3, rF_48_4, rF_54_0, rF_54_1, rF_54_2, rF_54_3, rF_54_4, rF_60_0, rF_60_1, rF_60_2, rF_60_3, rF_60_4, rF_66_0, rF_66_1, rF_70_0, rF_70_1, rF_70_2, rF_70_3, rF_70_7, rF_70_8, rF_70_9, rF_71_3, rF_71_4, rF_79_0, rF_79_1, rF_82_0, rF_82_1, rF_82_2, rF_82_3, rF_82_4, rF_86_3, rF_86_4, rF_90_3, rF_90_4, rF_93_1, rF_93_4, rF_93_5, rF_93_6, rF_93_9, rF_93_10, rF_93_11, rF_93_12, rF_93_14, rF_93_15, rF_93_16, rF_93_17, rF_93_20, rF_93_24, rF_93_25, rF_93_26, rF_93_27, rF_93_29, rF_93_31, rF_93_32, rF_93_33, rF_93_34, rF_93_35, rF_93_36, rF_93_37, g.1, g.2, i1, r1, g1.1, g1.2, e4, z, r2, g2.1, g2.2, e7, jN_mPn_n, jR_mPn_n, mTh_e_n, jN_mTh_n, jR_mTh_n, jI_mTh_n]
