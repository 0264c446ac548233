/-! towns: the class reads a mark, a link -/
abbrev kO : Type := Nat × kP × Nat
def tU (D : kP) (t : Nat) (T : kT) : kP := if t = 0 then (T, D.2.1, D.2.2) else (D.1, T, D.2.2)
def mkO (D : kP) (t k p : Nat) : kO := if tIs (tw D.1 D.2.1 t) k then (er 3 p, D, p) else (0, tU D t (tCh (tw D.1 D.2.1 t) k), p)
def ptP (a : kA) (D : kP) (p w : Nat) : kO := if oneW a D (nx a p) = 0 then (oneF a (nx a p), D, nx a p) else mkO D ((oneW a D (nx a p) - 1) / 4) (w * 4 + (oneW a D (nx a p) - 1) % 4) (nx a p)
def lkP (a : kA) (D : kP) (p w : Nat) : kO := if oneW a D (nx a p) = 0 then (oneF a (nx a p), D, nx a p) else if oneW a D (nx a (nx a p)) = 0 then (oneF a (nx a (nx a p)), D, nx a (nx a p)) else if oneW a D (nx a p) = oneW a D (nx a (nx a p)) ∨ ¬ (oneW a D (nx a p) - 1) / 4 = (oneW a D (nx a (nx a p)) - 1) / 4 then (er 3 (nx a (nx a p)), D, nx a (nx a p)) else mkO D ((oneW a D (nx a p) - 1) / 4) (lkN w ((oneW a D (nx a p) - 1) % 4) ((oneW a D (nx a (nx a p)) - 1) % 4)) (nx a (nx a p))
def cS : List Nat := [1, 12, 13, 14, 15, 16, 17, 67, 68]
def clF (h h' : jM) : Prop := fI cS h h' ∧ jI h' 1 1 = jI h 1 1
theorem clF.rf {h : jM} : clF h h := ⟨fI.rf, rfl⟩
theorem clF.tr {h : jM} {h1 : jM} {h2 : jM} (a : clF h h1) (b : clF h1 h2) : clF h h2 := ⟨a.1.tr b.1, b.2.trans a.2⟩
theorem fT.c {S : List Nat} {h : jM} {h1 : jM} (f : fT S h h1) (n : 1 ∉ S) : clF h h1 := ⟨f.1.mo (by decide), f.2 1 n⟩
theorem clF.A {a : kA} {h : jM} {h1 : jM} (f : clF h h1) (x : rA1 h a) : rA1 h1 a := by
  obtain ⟨x1, x2, x3⟩ := x
  refine ⟨x1, by rw [f.2]; exact x2, fun i hi => ?_⟩
  rw [f.1.i (by decide)]
  exact x3 i hi
theorem clF.g {h : jM} {h1 : jM} {q : kQ} (f : clF h h1) (g : gH h q) : gH h1 q := f.1.g g
def OC (h h' : jM) (a : kA) (R : kO) : Prop := clF h h' ∧ (¬ R.1 = 0 → jI h' 1 7 = nI R.1) ∧ (R.1 = 0 → TK h' a R.2.2 ∧ CD h' a R.2.1)
theorem dA_s {t : Nat} (ht : t < 2) : dAd t = 12 ∧ t = 0 ∨ dAd t = 15 ∧ t = 1 := by
  rcases (show t = 0 ∨ t = 1 by omega) with rfl | rfl
  · exact Or.inl ⟨rfl, rfl⟩
  · exact Or.inr ⟨rfl, rfl⟩
theorem fI.d {t : Nat} {h : jM} {h1 : jM} (ht : t < 2) (f : fI [dAd t, dAd t + 1, dAd t + 2] h h1) : fI cS h h1 := f.mo (fun o ho => by
  rcases dA_s ht with ⟨e, -⟩ | ⟨e, -⟩ <;> rw [e] at ho <;> simp only [List.mem_cons, List.not_mem_nil, or_false] at ho <;> rcases ho with rfl | rfl | rfl <;> decide)
theorem inP_tU {D : kP} {t i : Nat} {T : kT} (ht : t < 2) (hi : i < 8) (e : tF T = tF (tw D.1 D.2.1 t)) : inP (tU D t T) i = inP D i := by
  unfold inP tU
  rcases (show t = 0 ∨ t = 1 by omega) with rfl | rfl
  · rw [if_pos rfl]
    unfold tw at *
    rcases (show i / 4 = 0 ∨ i / 4 = 1 by omega) with z | z
    · rw [z, if_pos rfl, if_pos rfl]
      rw [if_pos rfl] at e
      show decide (i % 4 < tF T) = _
      rw [e]
    · rw [z, if_neg (by omega), if_neg (by omega)]
  · rw [if_neg (by omega)]
    unfold tw at *
    rcases (show i / 4 = 0 ∨ i / 4 = 1 by omega) with z | z
    · rw [z, if_pos rfl, if_pos rfl]
    · rw [z, if_neg (by omega), if_neg (by omega)]
      rw [if_neg (by omega)] at e
      show decide (i % 4 < tF T) = _
      rw [e]
theorem tU_n {D : kP} {t : Nat} {T : kT} : (tU D t T).2.2 = D.2.2 := by unfold tU; split <;> rfl
/-- a change of a town of the draft -/
theorem mCh_CD {a : kA} {D : kP} {h : jM} {t : Nat} {k : Nat} (x : CD h a D) (ht : t < 2) (hk : cOk k) : CD (mCh h (tw D.1 D.2.1 t) (dAd t) k) a (tU D t (tCh (tw D.1 D.2.1 t) k)) := by
  have f := mCh_f (t := dAd t) (h := h) (T := tw D.1 D.2.1 t) (k := k)
  have r := mCh_T (x.t ht) hk
  have nm : ∀ i, i < 8 → inP (tU D t (tCh (tw D.1 D.2.1 t) k)) i = true → jI (mCh h (tw D.1 D.2.1 t) (dAd t) k) 67 i = nI ((tU D t (tCh (tw D.1 D.2.1 t) k)).2.2 i) ∧ jI (mCh h (tw D.1 D.2.1 t) (dAd t) k) 68 i = nI (en a ((tU D t (tCh (tw D.1 D.2.1 t) k)).2.2 i)) := fun i hi e => by
    rw [inP_tU ht hi tCh_F] at e
    rw [tU_n]
    have n1 : (67 : Nat) ∉ [dAd t, dAd t + 1, dAd t + 2] := by
      rcases dA_s ht with ⟨e, -⟩ | ⟨e, -⟩ <;> rw [e] <;> decide
    have n2 : (68 : Nat) ∉ [dAd t, dAd t + 1, dAd t + 2] := by
      rcases dA_s ht with ⟨e, -⟩ | ⟨e, -⟩ <;> rw [e] <;> decide
    rw [f.i n1, f.i n2]
    exact x.2 i hi e
  refine ⟨?_, nm⟩
  rcases dA_s ht with ⟨e, rfl⟩ | ⟨e, rfl⟩
  · rw [e] at f r ⊢
    exact ⟨r, f.T (by decide) (by decide) (by decide) x.1.2⟩
  · rw [e] at f r ⊢
    exact ⟨f.T (by decide) (by decide) (by decide) x.1.1, r⟩
set_option maxRecDepth 100000 in
set_option maxHeartbeats 4000000 in
theorem R_makeOnce {a : kA} {D : kP} {d : Nat} {h : jM} {q : kQ} {t : Nat} {k : Nat} {p : Nat} (g : gH h q) (tk : TK h a p) (cd : CD h a D) (ok : DOk a D) (ht : t < 2) (hk : cOk k) : ∃ h', (∀ K, jCl (d + 2) 121 [.ref 66, .ref 1, .ref (dAd t), .int (nI k)] h K = K (some (.int (bZ (decide ((mkO D t k p).1 = 0))))) h') ∧ OC h h' a (mkO D t k p) := by
  have IC := fun K => T_isChanged (d := d) (K := K) g (dAd_in (t := t)) (cd.t ht) (tw_ok ok.1.1 ok.1.2) hk.1
  have TC := fun K => T_change (d := d) (K := K) g (dAd_in (t := t)) (cd.t ht) hk
  have d9 := tn_9 (dAd_in (t := t))
  have ds := tn_s (dAd_in (t := t))
  unfold mkO
  cases b : tIs (tw D.1 D.2.1 t) k with
  | true =>
    rw [b] at IC
    rw [if_pos rfl]
    have WR := fun K => Tp_wrong (d := d + 1) (K := K) (w := 3) g tk
    have f2 : fT [7] h (jsI h 1 7 (nI (er 3 p))) := fT_w (by decide)
    have e0 : ¬ er 3 p = 0 := by unfold er; omega
    refine ⟨jsI h 1 7 (nI (er 3 p)), fun K => ?_, f2.c (by decide), fun _ => by rw [jI_jsI, if_pos ⟨rfl, rfl⟩], fun z => absurd z e0⟩
    rw [decide_eq_false e0, bZ_f]
    generalize er 3 p = e at *
    generalize dAd t = ta at *
    simp (maxSteps := 1000000) (disch := omega) only [jMI_i, jML_l, jMA_a, jSum_n, jSum_i, jSum_a, jSum_l, jGet_0, jPut_0, jGet_1, jPut_1i, jPut_1a, jPut_1n, jPut_1l, jGet_2, jPut_2i, jPut_2a, jPut_2n, jPut_2l, jGet_3, jPut_3i, jPut_3a, jPut_3n, jPut_3l, jGet_4, jPut_4i, jPut_4a, jPut_4n, jPut_4l, jGet_5, jPut_5i, jPut_5a, jPut_5n, jPut_5l, jGet_6, jPut_6i, jPut_6a, jPut_6n, jPut_6l, jGet_7, jPut_7i, jPut_7a, jPut_7n, jPut_7l, jGet_8, jPut_8i, jPut_8a, jPut_8n, jPut_8l, jGet_9, jPut_9i, jPut_9a, jPut_9n, jPut_9l, jGet_10, jPut_10i, jPut_10a, jPut_10n, jPut_10l, jGet_11, jPut_11i, jPut_11a, jPut_11n, jPut_11l, jGet_12, jPut_12i, jPut_12a, jPut_12n, jPut_12l, jPut2_e, jSet_1, jSet_2, jSet_3, jSet_4, jSet_5, jSet_6, jSet_7, jSet_8, jSet_9, jSet_10, jSet_11, jSet_12, go_bipush_m2, go_bipush_10, go_bipush_11, go_bipush_12, go_bipush_120, go_bipush_122, go_bipush_126, go_bipush_127, go_bipush_13, go_bipush_14, go_bipush_15, go_bipush_16, go_bipush_17, go_bipush_20, go_bipush_21, go_bipush_22, go_bipush_24, go_bipush_25, go_bipush_26, go_bipush_29, go_bipush_30, go_bipush_32, go_bipush_40, go_bipush_44, go_bipush_48, go_bipush_56, go_bipush_57, go_bipush_59, go_bipush_6, go_bipush_60, go_bipush_63, go_bipush_64, go_bipush_7, go_bipush_75, go_bipush_8, go_bipush_9, go_bipush_96, go_bipush_97, go_bipush_99, go_iconst_m1, go_iconst_0, go_iconst_1, go_iconst_2, go_iconst_3, go_iconst_4, go_iconst_5, go_iinc_m1, go_iinc_m8, go_iinc_1, go_iinc_7, go_sipush_1000, go_sipush_1002, go_sipush_128, go_sipush_132, go_sipush_185, go_sipush_2040, go_sipush_2047, go_sipush_240, go_sipush_255, go_sipush_289, go_sipush_4913, go_sipush_609, go_sipush_625, go_sipush_638, go_sipush_9999, go_lconst_0, go_lconst_1, go_ldc, go_ldcs, go_ldcw, go_ldc2_0, go_ldc2_1, go_ldc2_2, go_ldc2_3, go_ldc2_4, go_ldc2_5, go_ldc2_6, go_ldc2_7, go_ldc2_8, go_ldc2_9, go_ldc2_10, go_ldc2_11, go_ldc2_12, go_ldc2_13, go_ldc2_14, go_ldc2_15, go_ldc2_16, go_ldc2_17, go_ldc2_18, go_ldc2_19, go_ldc2_20, go_ldc2_21, go_ldc2_22, go_ldc2_23, go_ldc2_24, go_ldc2_25, go_ldc2_26, go_ldc2_27, go_ldc2_28, go_ldc2_29, go_ldc2_30, go_ldc2_31, go_ldc2_32, go_ldc2_33, go_ldc2_34, go_ldc2_35, jCI_0, jCI_1, jCI_2, jCI_3, go_iload, go_iload_n, go_lload, go_lload_n, go_aload, go_aload_n, go_istore, go_istore_n, go_lstore, go_lstore_n, go_astore, go_astore_n, go_iadd, go_isub, go_imul, go_iand, go_ior, go_ixor, go_ishl, go_ishr, go_iushr, go_idiv, go_irem, go_ldiv, go_lrem, go_ineg, go_i2l, go_i2c, go_l2i, go_ladd, go_lsub, go_lmul, go_land, go_lor, go_lxor, go_lcmp, go_lshl, go_lshr, go_lushr, go_dup_i, go_dup_a, go_pop_i, go_pop_a, go_dup2, go_getstatic, go_getf_i, go_getf_z, go_getf_l, go_getf_a, go_putf_i, go_putf_l, go_putf_z, go_putf_a, go_iald, go_iald1, go_iald2, go_alen, go_alen2, go_cald, go_bald, go_lald, go_aald, go_iast, go_cast, go_bast, go_last, go_aast, go_new, go_newa, go_anew, go_objinit, go_max, go_min, go_strlen, go_charat, go_acopy, go_rests, go_goto, go_if_eq, go_ic_eq, go_if_ne, go_ic_ne, go_if_lt, go_ic_lt, go_if_ge, go_ic_ge, go_if_gt, go_ic_gt, go_if_le, go_ic_le, go_sw, go_ret, go_lret, go_aret, Nat.reduceAdd, Nat.reduceLT, Nat.reduceLeDiff, Nat.reduceEqDiff, Nat.reduceSub, and_true, true_and, if_true, if_false, and_self, Option.toList_some, Option.toList_none, List.cons_append, List.nil_append, List.length_cons, List.length_nil, Fin.isValue, Fin.reduceFinMk, Fin.val_zero, Fin.val_one, Fin.val_two, jFin3, jI_jsI_n, jI_jsL_n, jI_jsR_n, jL_jsI_n, jL_jsL_n, jL_jsR_n, jR_jsI_n, jR_jsL_n, jR_jsR_n, jN_jsI_n, jN_jsL_n, jN_jsR_n, jXn_jsI_n, jXn_jsL_n, jXn_jsR_n, jXs_jsI_n, jXs_jsL_n, jXs_jsR_n, jEx_jsI_n, jEx_jsL_n, jEx_jsR_n, jI_jXp_n, jL_jXp_n, jR_jXp_n, jN_jXp_n, jXn_jXp_n, jXs_jXp_n, jEx_jXp_n, jb_121_0, cl_89, cl_107, cl_108, rt_121, en_121, js_0, js_1, js_2, js_3, js_4, js_5, js_6, js_7, js_8, js_9, js_10, js_11, js_12, js_13, js_14, js_15, js_16, js_17, js_18, js_19, js_20, js_21, js_22, js_23, js_24, js_25, js_26, js_27, js_28, js_29, js_30, js_31, js_32, js_33, js_34, js_35, js_36, js_37, js_38, js_39, js_40, js_41, js_42, js_43, js_44, js_45, js_46, js_47, js_48, js_49, js_50, js_51, js_52, js_53, js_54, js_55, js_56, js_57, js_58, js_59, js_60, js_61, js_62, js_63, js_64, js_65, js_66, js_67, js_68, js_69, js_70, js_71, js_72, js_73, js_74, js_75, js_76, js_77, js_78, js_79, js_80, js_81, js_82, js_83, js_84, js_85, js_86, js_87, js_88, js_89, js_90, js_91, js_92, js_93, js_94, js_95, js_96, js_97, js_98, js_99, js_100, js_101, js_102, js_103, js_104, js_105, js_106, js_107, js_108, js_109, js_110, js_111, js_112, js_113, js_114, js_115, js_116, js_117, js_118, js_119, lit_I, neg_1, jCl_nI, i_lt, i_le, i_eq, i_sub, i_div, n_rem, i_and31, i_shl, i_shr, i_bit, bI_1, bI_0, bI_2, bZ_1, bZ_0, bZ_in, bZ_2, nO_lt, nO_gt, nO_le, nO_ge, nO_eq, nO_qe, nO_self, nO_sele, nO_add, pI_0, pI_s, pI_nO, pI_lt0, pI_ge0, pI_eq, pI_add, nI_add, pk_mul, nx_and, fa_or, fb_xorI, Nat.reduceMul, Nat.reduceDiv, Nat.reduceMod, Nat.reducePow, Nat.reduceAnd, Nat.reduceOr, Nat.reduceXor, Nat.reduceShiftLeft, Nat.reduceShiftRight, eq_self, not_true_eq_false, not_false_eq_true, or_false, false_or, or_true, true_or, and_false, false_and, ↓reduceIte, Nat.zero_add, Nat.add_zero, Nat.not_lt_zero, Nat.zero_le, Bool.true_eq_false, Bool.false_eq_true, decide_true, decide_false, bl_in, rF_t3, rF_t4, rF_0_0, rF_0_1, rF_0_2, rF_0_3, rF_0_4, rF_0_5, rF_0_7, rF_0_8, rF_0_10, rF_0_11, rF_0_12, rF_0_13, rF_0_14, rF_0_15, rF_0_16, rF_1_0, rF_3_0, rF_3_1, rF_3_2, rF_4_3, rF_4_4, rF_7_3, rF_7_4, rF_11_0, rF_11_1, rF_11_2, rF_12_3, rF_12_4, rF_15_3, rF_15_4, rF_19_0, rF_19_1, rF_19_2, rF_19_3, rF_20_0, rF_20_1, rF_20_2, rF_21_3, rF_21_4, rF_24_3, rF_24_4, rF_28_0, rF_28_1, rF_28_2, rF_29_3, rF_29_4, rF_32_3, rF_32_4, rF_36_0, rF_36_1, rF_36_2, rF_37_3, rF_37_4, rF_40_3, rF_40_4, rF_44_0, rF_44_1, rF_44_2, rF_45_3, rF_45_4, rF_48_3, rF_48_4, rF_54_0, rF_54_1, rF_54_2, rF_54_3, rF_54_4, rF_60_0, rF_60_1, rF_60_2, rF_60_3, rF_60_4, rF_66_0, rF_66_1, rF_70_0, rF_70_1, rF_70_2, rF_70_3, rF_70_7, rF_70_8, rF_70_9, rF_71_3, rF_71_4, rF_79_0, rF_79_1, rF_82_0, rF_82_1, rF_82_2, rF_82_3, rF_82_4, rF_86_3, rF_86_4, rF_90_3, rF_90_4, rF_93_1, rF_93_4, rF_93_5, rF_93_6, rF_93_9, rF_93_10, rF_93_11, rF_93_12, rF_93_14, rF_93_15, rF_93_16, rF_93_17, rF_93_20, rF_93_24, rF_93_25, rF_93_26, rF_93_27, rF_93_29, rF_93_31, rF_93_32, rF_93_33, rF_93_34, rF_93_35, rF_93_36, rF_93_37, g.1, g.2, IC, bZ_t, WR, d9, ds, jN_mPn_n, jR_mPn_n, mTh_e_n, jN_mTh_n, jR_mTh_n, jI_mTh_n]
  | false =>
    rw [b] at IC
    rw [if_neg (by simp)]
    have cd2 := mCh_CD cd ht hk
    have f2 := mCh_f (t := dAd t) (h := h) (T := tw D.1 D.2.1 t) (k := k)
    have n1 : (1 : Nat) ∉ [dAd t, dAd t + 1, dAd t + 2] := by
      rcases dA_s ht with ⟨e, -⟩ | ⟨e, -⟩ <;> rw [e] <;> decide
    have tk2 : TK (mCh h (tw D.1 D.2.1 t) (dAd t) k) a p := by unfold TK; rw [f2.i n1]; exact tk
    have c2 : clF h (mCh h (tw D.1 D.2.1 t) (dAd t) k) := ⟨f2.d ht, by rw [f2.i n1]⟩
    refine ⟨mCh h (tw D.1 D.2.1 t) (dAd t) k, fun K => ?_, c2, fun z => absurd rfl z, fun _ => ⟨tk2, cd2⟩⟩
    have b1 : bZ (decide ((0 : Nat) = 0)) = nI 1 := rfl
    show _ = K (some (.int (bZ (decide ((0 : Nat) = 0))))) _
    rw [b1]
    generalize mCh h (tw D.1 D.2.1 t) (dAd t) k = h2 at *
    generalize dAd t = ta at *
    simp (maxSteps := 1000000) (disch := omega) only [jMI_i, jML_l, jMA_a, jSum_n, jSum_i, jSum_a, jSum_l, jGet_0, jPut_0, jGet_1, jPut_1i, jPut_1a, jPut_1n, jPut_1l, jGet_2, jPut_2i, jPut_2a, jPut_2n, jPut_2l, jGet_3, jPut_3i, jPut_3a, jPut_3n, jPut_3l, jGet_4, jPut_4i, jPut_4a, jPut_4n, jPut_4l, jGet_5, jPut_5i, jPut_5a, jPut_5n, jPut_5l, jGet_6, jPut_6i, jPut_6a, jPut_6n, jPut_6l, jGet_7, jPut_7i, jPut_7a, jPut_7n, jPut_7l, jGet_8, jPut_8i, jPut_8a, jPut_8n, jPut_8l, jGet_9, jPut_9i, jPut_9a, jPut_9n, jPut_9l, jGet_10, jPut_10i, jPut_10a, jPut_10n, jPut_10l, jGet_11, jPut_11i, jPut_11a, jPut_11n, jPut_11l, jGet_12, jPut_12i, jPut_12a, jPut_12n, jPut_12l, jPut2_e, jSet_1, jSet_2, jSet_3, jSet_4, jSet_5, jSet_6, jSet_7, jSet_8, jSet_9, jSet_10, jSet_11, jSet_12, go_bipush_m2, go_bipush_10, go_bipush_11, go_bipush_12, go_bipush_120, go_bipush_122, go_bipush_126, go_bipush_127, go_bipush_13, go_bipush_14, go_bipush_15, go_bipush_16, go_bipush_17, go_bipush_20, go_bipush_21, go_bipush_22, go_bipush_24, go_bipush_25, go_bipush_26, go_bipush_29, go_bipush_30, go_bipush_32, go_bipush_40, go_bipush_44, go_bipush_48, go_bipush_56, go_bipush_57, go_bipush_59, go_bipush_6, go_bipush_60, go_bipush_63, go_bipush_64, go_bipush_7, go_bipush_75, go_bipush_8, go_bipush_9, go_bipush_96, go_bipush_97, go_bipush_99, go_iconst_m1, go_iconst_0, go_iconst_1, go_iconst_2, go_iconst_3, go_iconst_4, go_iconst_5, go_iinc_m1, go_iinc_m8, go_iinc_1, go_iinc_7, go_sipush_1000, go_sipush_1002, go_sipush_128, go_sipush_132, go_sipush_185, go_sipush_2040, go_sipush_2047, go_sipush_240, go_sipush_255, go_sipush_289, go_sipush_4913, go_sipush_609, go_sipush_625, go_sipush_638, go_sipush_9999, go_lconst_0, go_lconst_1, go_ldc, go_ldcs, go_ldcw, go_ldc2_0, go_ldc2_1, go_ldc2_2, go_ldc2_3, go_ldc2_4, go_ldc2_5, go_ldc2_6, go_ldc2_7, go_ldc2_8, go_ldc2_9, go_ldc2_10, go_ldc2_11, go_ldc2_12, go_ldc2_13, go_ldc2_14, go_ldc2_15, go_ldc2_16, go_ldc2_17, go_ldc2_18, go_ldc2_19, go_ldc2_20, go_ldc2_21, go_ldc2_22, go_ldc2_23, go_ldc2_24, go_ldc2_25, go_ldc2_26, go_ldc2_27, go_ldc2_28, go_ldc2_29, go_ldc2_30, go_ldc2_31, go_ldc2_32, go_ldc2_33, go_ldc2_34, go_ldc2_35, jCI_0, jCI_1, jCI_2, jCI_3, go_iload, go_iload_n, go_lload, go_lload_n, go_aload, go_aload_n, go_istore, go_istore_n, go_lstore, go_lstore_n, go_astore, go_astore_n, go_iadd, go_isub, go_imul, go_iand, go_ior, go_ixor, go_ishl, go_ishr, go_iushr, go_idiv, go_irem, go_ldiv, go_lrem, go_ineg, go_i2l, go_i2c, go_l2i, go_ladd, go_lsub, go_lmul, go_land, go_lor, go_lxor, go_lcmp, go_lshl, go_lshr, go_lushr, go_dup_i, go_dup_a, go_pop_i, go_pop_a, go_dup2, go_getstatic, go_getf_i, go_getf_z, go_getf_l, go_getf_a, go_putf_i, go_putf_l, go_putf_z, go_putf_a, go_iald, go_iald1, go_iald2, go_alen, go_alen2, go_cald, go_bald, go_lald, go_aald, go_iast, go_cast, go_bast, go_last, go_aast, go_new, go_newa, go_anew, go_objinit, go_max, go_min, go_strlen, go_charat, go_acopy, go_rests, go_goto, go_if_eq, go_ic_eq, go_if_ne, go_ic_ne, go_if_lt, go_ic_lt, go_if_ge, go_ic_ge, go_if_gt, go_ic_gt, go_if_le, go_ic_le, go_sw, go_ret, go_lret, go_aret, Nat.reduceAdd, Nat.reduceLT, Nat.reduceLeDiff, Nat.reduceEqDiff, Nat.reduceSub, and_true, true_and, if_true, if_false, and_self, Option.toList_some, Option.toList_none, List.cons_append, List.nil_append, List.length_cons, List.length_nil, Fin.isValue, Fin.reduceFinMk, Fin.val_zero, Fin.val_one, Fin.val_two, jFin3, jI_jsI_n, jI_jsL_n, jI_jsR_n, jL_jsI_n, jL_jsL_n, jL_jsR_n, jR_jsI_n, jR_jsL_n, jR_jsR_n, jN_jsI_n, jN_jsL_n, jN_jsR_n, jXn_jsI_n, jXn_jsL_n, jXn_jsR_n, jXs_jsI_n, jXs_jsL_n, jXs_jsR_n, jEx_jsI_n, jEx_jsL_n, jEx_jsR_n, jI_jXp_n, jL_jXp_n, jR_jXp_n, jN_jXp_n, jXn_jXp_n, jXs_jXp_n, jEx_jXp_n, jb_121_0, jb_121_14, cl_89, cl_107, cl_108, rt_121, en_121, js_0, js_1, js_2, js_3, js_4, js_5, js_6, js_7, js_8, js_9, js_10, js_11, js_12, js_13, js_14, js_15, js_16, js_17, js_18, js_19, js_20, js_21, js_22, js_23, js_24, js_25, js_26, js_27, js_28, js_29, js_30, js_31, js_32, js_33, js_34, js_35, js_36, js_37, js_38, js_39, js_40, js_41, js_42, js_43, js_44, js_45, js_46, js_47, js_48, js_49, js_50, js_51, js_52, js_53, js_54, js_55, js_56, js_57, js_58, js_59, js_60, js_61, js_62, js_63, js_64, js_65, js_66, js_67, js_68, js_69, js_70, js_71, js_72, js_73, js_74, js_75, js_76, js_77, js_78, js_79, js_80, js_81, js_82, js_83, js_84, js_85, js_86, js_87, js_88, js_89, js_90, js_91, js_92, js_93, js_94, js_95, js_96, js_97, js_98, js_99, js_100, js_101, js_102, js_103, js_104, js_105, js_106, js_107, js_108, js_109, js_110, js_111, js_112, js_113, js_114, js_115, js_116, js_117, js_118, js_119, lit_I, neg_1, jCl_nI, i_lt, i_le, i_eq, i_sub, i_div, n_rem, i_and31, i_shl, i_shr, i_bit, bI_1, bI_0, bI_2, bZ_1, bZ_0, bZ_in, bZ_2, nO_lt, nO_gt, nO_le, nO_ge, nO_eq, nO_qe, nO_self, nO_sele, nO_add, pI_0, pI_s, pI_nO, pI_lt0, pI_ge0, pI_eq, pI_add, nI_add, pk_mul, nx_and, fa_or, fb_xorI, Nat.reduceMul, Nat.reduceDiv, Nat.reduceMod, Nat.reducePow, Nat.reduceAnd, Nat.reduceOr, Nat.reduceXor, Nat.reduceShiftLeft, Nat.reduceShiftRight, eq_self, not_true_eq_false, not_false_eq_true, or_false, false_or, or_true, true_or, and_false, false_and, ↓reduceIte, Nat.zero_add, Nat.add_zero, Nat.not_lt_zero, Nat.zero_le, Bool.true_eq_false, Bool.false_eq_true, decide_true, decide_false, bl_in, rF_t3, rF_t4, rF_0_0, rF_0_1, rF_0_2, rF_0_3, rF_0_4, rF_0_5, rF_0_7, rF_0_8, rF_0_10, rF_0_11, rF_0_12, rF_0_13, rF_0_14, rF_0_15, rF_0_16, rF_1_0, rF_3_0, rF_3_1, rF_3_2, rF_4_3, rF_4_4, rF_7_3, rF_7_4, rF_11_0, rF_11_1, rF_11_2, rF_12_3, rF_12_4, rF_15_3, rF_15_4, rF_19_0, rF_19_1, rF_19_2, rF_19_3, rF_20_0, rF_20_1, rF_20_2, rF_21_3, rF_21_4, rF_24_3, rF_24_4, rF_28_0, rF_28_1, rF_28_2, rF_29_3, rF_29_4, rF_32_3, rF_32_4, rF_36_0, rF_36_1, rF_36_2, rF_37_3, rF_37_4, rF_40_3, rF_40_4, rF_44_0, rF_44_1, rF_44_2, rF_45_3, rF_45_4, rF_48_3, rF_48_4, rF_54_0, rF_54_1, rF_54_2, rF_54_3, rF_54_4, rF_60_0, rF_60_1, rF_60_2, rF_60_3, rF_60_4, rF_66_0, rF_66_1, rF_70_0, rF_70_1, rF_70_2, rF_70_3, rF_70_7, rF_70_8, rF_70_9, rF_71_3, rF_71_4, rF_79_0, rF_79_1, rF_82_0, rF_82_1, rF_82_2, rF_82_3, rF_82_4, rF_86_3, rF_86_4, rF_90_3, rF_90_4, rF_93_1, rF_93_4, rF_93_5, rF_93_6, rF_93_9, rF_93_10, rF_93_11, rF_93_12, rF_93_14, rF_93_15, rF_93_16, rF_93_17, rF_93_20, rF_93_24, rF_93_25, rF_93_26, rF_93_27, rF_93_29, rF_93_31, rF_93_32, rF_93_33, rF_93_34, rF_93_35, rF_93_36, rF_93_37, g.1, g.2, IC, bZ_f, TC, d9, ds, jN_mPn_n, jR_mPn_n, mTh_e_n, jN_mTh_n, jR_mTh_n, jI_mTh_n]
