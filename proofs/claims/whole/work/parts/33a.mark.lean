/-! mark -/
def mS3 (h : jM) (a b : Nat) : jM := jCp (mBe (mBe h (a + 1) (b + 1)) (a + 4) (b + 4)) (b + 7) 0 (a + 7) 0 4
def mSB (h : jM) (a b : Nat) : jM := jsI (jsL (jsI (jsI (mS3 h a b) a 3 (jI (mS3 h a b) b 3)) a 4 (jI (mS3 h a b) b 4)) a 5 (jL (mS3 h a b) b 5)) a 6 (jI (mS3 h a b) b 6)
theorem sn_dis : ∀ a, a ∈ snL → ∀ b, b ∈ snL → a ≠ b → a + 7 < b ∨ b + 7 < a := by decide +kernel
theorem mS3_f {h : jM} {a : Nat} {b : Nat} : fI [a + 1, a + 2, a + 3, a + 4, a + 5, a + 6, a + 7] h (mS3 h a b) := ((mBe_f.mo (by simp)).tr (mBe_f.mo (by simp))).tr (fI_c (by simp))
theorem mSB_f {h : jM} {a : Nat} {b : Nat} : fI [a, a + 1, a + 2, a + 3, a + 4, a + 5, a + 6, a + 7] h (mSB h a b) := ((((mS3_f.mo (by simp)).tr (fI_w (by simp))).tr (fI_w (by simp))).tr (fI_l (by simp))).tr (fI_w (by simp))
set_option maxRecDepth 100000 in
set_option maxHeartbeats 4000000 in
theorem S_become {s : kS} {d : Nat} {h : jM} {q : kQ} {a : Nat} {b : Nat} {K : Option Value → jM → Prop} (g : gH h q) (ha : a ∈ snL) (hb : b ∈ snL) (hne : a ≠ b) (hS : rS h b s) : jCl (d + 1) 71 [.ref a, .ref b] h K = K none (mSB h a b) := by
  have dis := sn_dis a ha b hb hne
  have a9 := sn_9 ha
  have b9 := sn_9 hb
  have ra := rF_s (q := q) ha
  have rb := rF_s (q := q) hb
  have g1 := (mBe_f (h := h) (t := a + 1) (u := b + 1)).g g
  have g2 := (mBe_f (h := mBe h (a + 1) (b + 1)) (t := a + 4) (u := b + 4)).g g1
  have g3 := mS3_f (h := h) (a := a) (b := b) |>.g g
  have e3 : jI (mS3 h a b) b 3 = bZ (sG s) := by
    rw [mS3_f.i (by simp; omega)]; exact hS.2.2.2.1
  have nb : ¬ b = a := fun z => hne z.symm
  have hz : bZ (sG s) = nI 0 ∨ bZ (sG s) = nI 1 := by cases sG s <;> simp [bZ]
  have T1 := fun K => T_become (d := d) (K := K) g (sn_1 ha) (sn_1 hb) (by omega)
  have T2 := fun K => T_become (d := d) (K := K) g1 (sn_2 ha) (sn_2 hb) (by omega)
  unfold mSB
  rw [e3]
  have em : ∃ h3, h3 = mS3 h a b := ⟨_, rfl⟩
  obtain ⟨h3, em⟩ := em
  rw [← em] at e3 g3 ⊢
  unfold mS3 at em
  revert T1 T2 g1 g2 em
  generalize mBe h (a + 1) (b + 1) = h1
  intro g1 g2 T1 T2 em
  revert T2 g2 em
  generalize mBe h1 (a + 4) (b + 4) = h2
  intro g2 T2 em
  have em := em.symm
  simp (maxSteps := 1000000) (disch := omega) only [jMI_i, jML_l, jMA_a, jSum_n, jSum_i, jSum_a, jSum_l, jGet_0, jPut_0, jGet_1, jPut_1i, jPut_1a, jPut_1n, jPut_1l, jGet_2, jPut_2i, jPut_2a, jPut_2n, jPut_2l, jGet_3, jPut_3i, jPut_3a, jPut_3n, jPut_3l, jGet_4, jPut_4i, jPut_4a, jPut_4n, jPut_4l, jGet_5, jPut_5i, jPut_5a, jPut_5n, jPut_5l, jGet_6, jPut_6i, jPut_6a, jPut_6n, jPut_6l, jGet_7, jPut_7i, jPut_7a, jPut_7n, jPut_7l, jGet_8, jPut_8i, jPut_8a, jPut_8n, jPut_8l, jGet_9, jPut_9i, jPut_9a, jPut_9n, jPut_9l, jGet_10, jPut_10i, jPut_10a, jPut_10n, jPut_10l, jGet_11, jPut_11i, jPut_11a, jPut_11n, jPut_11l, jGet_12, jPut_12i, jPut_12a, jPut_12n, jPut_12l, jPut2_e, jSet_1, jSet_2, jSet_3, jSet_4, jSet_5, jSet_6, jSet_7, jSet_8, jSet_9, jSet_10, jSet_11, jSet_12, go_bipush_m2, go_bipush_10, go_bipush_11, go_bipush_12, go_bipush_120, go_bipush_122, go_bipush_126, go_bipush_127, go_bipush_13, go_bipush_14, go_bipush_15, go_bipush_16, go_bipush_17, go_bipush_20, go_bipush_21, go_bipush_22, go_bipush_24, go_bipush_25, go_bipush_26, go_bipush_29, go_bipush_30, go_bipush_32, go_bipush_40, go_bipush_44, go_bipush_48, go_bipush_56, go_bipush_57, go_bipush_59, go_bipush_6, go_bipush_60, go_bipush_63, go_bipush_64, go_bipush_7, go_bipush_75, go_bipush_8, go_bipush_9, go_bipush_96, go_bipush_97, go_bipush_99, go_iconst_m1, go_iconst_0, go_iconst_1, go_iconst_2, go_iconst_3, go_iconst_4, go_iconst_5, go_iinc_m1, go_iinc_m8, go_iinc_1, go_iinc_7, go_sipush_1000, go_sipush_1002, go_sipush_128, go_sipush_132, go_sipush_185, go_sipush_2040, go_sipush_2047, go_sipush_240, go_sipush_255, go_sipush_289, go_sipush_4913, go_sipush_609, go_sipush_625, go_sipush_638, go_sipush_9999, go_lconst_0, go_lconst_1, go_ldc, go_ldcs, go_ldcw, go_ldc2_0, go_ldc2_1, go_ldc2_2, go_ldc2_3, go_ldc2_4, go_ldc2_5, go_ldc2_6, go_ldc2_7, go_ldc2_8, go_ldc2_9, go_ldc2_10, go_ldc2_11, go_ldc2_12, go_ldc2_13, go_ldc2_14, go_ldc2_15, go_ldc2_16, go_ldc2_17, go_ldc2_18, go_ldc2_19, go_ldc2_20, go_ldc2_21, go_ldc2_22, go_ldc2_23, go_ldc2_24, go_ldc2_25, go_ldc2_26, go_ldc2_27, go_ldc2_28, go_ldc2_29, go_ldc2_30, go_ldc2_31, go_ldc2_32, go_ldc2_33, go_ldc2_34, go_ldc2_35, jCI_0, jCI_1, jCI_2, jCI_3, go_iload, go_iload_n, go_lload, go_lload_n, go_aload, go_aload_n, go_istore, go_istore_n, go_lstore, go_lstore_n, go_astore, go_astore_n, go_iadd, go_isub, go_imul, go_iand, go_ior, go_ixor, go_ishl, go_ishr, go_iushr, go_idiv, go_irem, go_ldiv, go_lrem, go_ineg, go_i2l, go_i2c, go_l2i, go_ladd, go_lsub, go_lmul, go_land, go_lor, go_lxor, go_lcmp, go_lshl, go_lshr, go_lushr, go_dup_i, go_dup_a, go_pop_i, go_pop_a, go_dup2, go_getstatic, go_getf_i, go_getf_z, go_getf_l, go_getf_a, go_putf_i, go_putf_l, go_putf_z, go_putf_a, go_iald, go_iald1, go_iald2, go_alen, go_alen2, go_cald, go_bald, go_lald, go_aald, go_iast, go_cast, go_bast, go_last, go_aast, go_new, go_newa, go_anew, go_objinit, go_max, go_min, go_strlen, go_charat, go_acopy, go_rests, go_goto, go_if_eq, go_ic_eq, go_if_ne, go_ic_ne, go_if_lt, go_ic_lt, go_if_ge, go_ic_ge, go_if_gt, go_ic_gt, go_if_le, go_ic_le, go_sw, go_ret, go_lret, go_aret, Nat.reduceAdd, Nat.reduceLT, Nat.reduceLeDiff, Nat.reduceEqDiff, Nat.reduceSub, and_true, true_and, if_true, if_false, and_self, Option.toList_some, Option.toList_none, List.cons_append, List.nil_append, List.length_cons, List.length_nil, Fin.isValue, Fin.reduceFinMk, Fin.val_zero, Fin.val_one, Fin.val_two, jFin3, jI_jsI_n, jI_jsL_n, jI_jsR_n, jL_jsI_n, jL_jsL_n, jL_jsR_n, jR_jsI_n, jR_jsL_n, jR_jsR_n, jN_jsI_n, jN_jsL_n, jN_jsR_n, jXn_jsI_n, jXn_jsL_n, jXn_jsR_n, jXs_jsI_n, jXs_jsL_n, jXs_jsR_n, jEx_jsI_n, jEx_jsL_n, jEx_jsR_n, jI_jXp_n, jL_jXp_n, jR_jXp_n, jN_jXp_n, jXn_jXp_n, jXs_jXp_n, jEx_jXp_n, jb_71_0, cl_95, en_71, js_0, js_1, js_2, js_3, js_4, js_5, js_6, js_7, js_8, js_9, js_10, js_11, js_12, js_13, js_14, js_15, js_16, js_17, js_18, js_19, js_20, js_21, js_22, js_23, js_24, js_25, js_26, js_27, js_28, js_29, js_30, js_31, js_32, js_33, js_34, js_35, js_36, js_37, js_38, js_39, js_40, js_41, js_42, js_43, js_44, js_45, js_46, js_47, js_48, js_49, js_50, js_51, js_52, js_53, js_54, js_55, js_56, js_57, js_58, js_59, js_60, js_61, js_62, js_63, js_64, js_65, js_66, js_67, js_68, js_69, js_70, js_71, js_72, js_73, js_74, js_75, js_76, js_77, js_78, js_79, js_80, js_81, js_82, js_83, js_84, js_85, js_86, js_87, js_88, js_89, js_90, js_91, js_92, js_93, js_94, js_95, js_96, js_97, js_98, js_99, js_100, js_101, js_102, js_103, js_104, js_105, js_106, js_107, js_108, js_109, js_110, js_111, js_112, js_113, js_114, js_115, js_116, js_117, js_118, js_119, lit_I, neg_1, jCl_nI, i_lt, i_le, i_eq, i_sub, i_div, n_rem, i_and31, i_shl, i_shr, i_bit, bI_1, bI_0, bI_2, bZ_1, bZ_0, bZ_in, bZ_2, nO_lt, nO_gt, nO_le, nO_ge, nO_eq, nO_qe, nO_self, nO_sele, nO_add, pI_0, pI_s, pI_nO, pI_lt0, pI_ge0, pI_eq, pI_add, nI_add, pk_mul, nx_and, fa_or, fb_xorI, Nat.reduceMul, Nat.reduceDiv, Nat.reduceMod, Nat.reducePow, Nat.reduceAnd, Nat.reduceOr, Nat.reduceXor, Nat.reduceShiftLeft, Nat.reduceShiftRight, eq_self, not_true_eq_false, not_false_eq_true, or_false, false_or, or_true, true_or, and_false, false_and, ↓reduceIte, Nat.zero_add, Nat.add_zero, Nat.not_lt_zero, Nat.zero_le, Bool.true_eq_false, Bool.false_eq_true, decide_true, decide_false, bl_in, rF_t3, rF_t4, rF_0_0, rF_0_1, rF_0_2, rF_0_3, rF_0_4, rF_0_5, rF_0_7, rF_0_8, rF_0_10, rF_0_11, rF_0_12, rF_0_13, rF_0_14, rF_0_15, rF_0_16, rF_1_0, rF_3_0, rF_3_1, rF_3_2, rF_4_3, rF_4_4, rF_7_3, rF_7_4, rF_11_0, rF_11_1, rF_11_2, rF_12_3, rF_12_4, rF_15_3, rF_15_4, rF_19_0, rF_19_1, rF_19_2, rF_19_3, rF_20_0, rF_20_1, rF_20_2, rF_21_3, rF_21_4, rF_24_3, rF_24_4, rF_28_0, rF_28_1, rF_28_2, rF_29_3, rF_29_4, rF_32_3, rF_32_4, rF_36_0, rF_36_1, rF_36_2, rF_37_3, rF_37_4, rF_40_3, rF_40_4, rF_44_0, rF_44_1, rF_44_2, rF_45_3, rF_45_4, rF_48_3, rF_48_4, rF_54_0, rF_54_1, rF_54_2, rF_54_3, rF_54_4, rF_60_0, rF_60_1, rF_60_2, rF_60_3, rF_60_4, rF_66_0, rF_66_1, rF_70_0, rF_70_1, rF_70_2, rF_70_3, rF_70_7, rF_70_8, rF_70_9, rF_71_3, rF_71_4, rF_79_0, rF_79_1, rF_82_0, rF_82_1, rF_82_2, rF_82_3, rF_82_4, rF_86_3, rF_86_4, rF_90_3, rF_90_4, rF_93_1, rF_93_4, rF_93_5, rF_93_6, rF_93_9, rF_93_10, rF_93_11, rF_93_12, rF_93_14, rF_93_15, rF_93_16, rF_93_17, rF_93_20, rF_93_24, rF_93_25, rF_93_26, rF_93_27, rF_93_29, rF_93_31, rF_93_32, rF_93_33, rF_93_34, rF_93_35, rF_93_36, rF_93_37, g.1, g.2, sn_s ha, sn_s hb, sn_p ha, sn_p hb, tn_s (sn_1 ha), tn_s (sn_2 ha), tn_s (sn_1 hb), tn_s (sn_2 hb), a9, b9, ra, rb, T1, T2, g1.1, g1.2, g2.1, g2.2, em, g3.1, g3.2, e3, hz, nb, jN_mPn_n, jR_mPn_n, mTh_e_n, jN_mTh_n, jR_mTh_n, jI_mTh_n]
theorem mSB_S {s : kS} {h : jM} {a : Nat} {b : Nat} (ha : a ∈ snL) (hb : b ∈ snL) (hne : a ≠ b) (hS : rS h b s) : rS (mSB h a b) a s := by
  have dis := sn_dis a ha b hb hne
  obtain ⟨a1, a2, a3, a4, a5, a6, a7⟩ := hS
  have f0 : fI [a] (mS3 h a b) (mSB h a b) := (((fI_w (by simp)).tr (fI_w (by simp))).tr (fI_l (by simp))).tr (fI_w (by simp))
  have T1 : rT (mBe h (a + 1) (b + 1)) (a + 1) (s1 s) := mBe_T (by omega) a1
  have B2 : rT (mBe h (a + 1) (b + 1)) (b + 4) (s2 s) := mBe_f.T (by simp; omega) (by simp; omega) (by simp; omega) a2
  have T2 : rT (mBe (mBe h (a + 1) (b + 1)) (a + 4) (b + 4)) (a + 4) (s2 s) := mBe_T (by omega) B2
  have T3 : rT (mBe (mBe h (a + 1) (b + 1)) (a + 4) (b + 4)) (a + 1) (s1 s) := mBe_f.T (by simp) (by simp) (by simp) T1
  have fc : fI [a + 7] (mBe (mBe h (a + 1) (b + 1)) (a + 4) (b + 4)) (mS3 h a b) := fI_c (by simp)
  have T4 : rT (mS3 h a b) (a + 1) (s1 s) := fc.T (by simp) (by simp) (by simp) T3
  have T5 : rT (mS3 h a b) (a + 4) (s2 s) := fc.T (by simp) (by simp) (by simp) T2
  refine ⟨f0.T (by simp) (by simp; omega) (by simp; omega) T4, f0.T (by simp) (by simp; omega) (by simp; omega) T5, fun i hi => ?_, ?_, ?_, ?_, ?_⟩
  · rw [f0.i (by simp), mS3, jCp_I, if_pos rfl, if_pos (by omega)]
    have z : jI (mBe (mBe h (a + 1) (b + 1)) (a + 4) (b + 4)) (b + 7) = jI h (b + 7) := by
      rw [mBe_f.i (by simp; omega), mBe_f.i (by simp; omega)]
    rw [z, show 0 + (i - 0) = i by omega]; exact a3 i hi
  · rw [mSB, jI_jsI, if_neg (by omega), jI_jsL, jI_jsI, if_neg (by omega), jI_jsI, if_pos ⟨rfl, rfl⟩, mS3_f.i (by simp; omega)]; exact a4
  · rw [mSB, jI_jsI, if_neg (by omega), jI_jsL, jI_jsI, if_pos ⟨rfl, rfl⟩, mS3_f.i (by simp; omega)]; exact a5
  · rw [mSB, jL_jsI, jL_jsL, if_pos ⟨rfl, rfl⟩, mS3_f.l (by simp; omega)]; exact a6
  · rw [mSB, jI_jsI, if_pos ⟨rfl, rfl⟩, mS3_f.i (by simp; omega)]; exact a7
theorem rF_19 {q : kQ} {m : Nat} (hm : m < 4) : rF q 19 m = 20 + 8 * m := by
  rcases k4c hm with rfl | rfl | rfl | rfl <;> exact rF_c (by omega) (by decide +kernel)
theorem mk_sn {m : Nat} (hm : m < 4) : 20 + 8 * m ∈ snL ∧ 20 + 8 * m ≠ 3 := by rcases k4c hm with rfl | rfl | rfl | rfl <;> exact ⟨by decide, by decide⟩
/-- now as a mark -/
def Pb (o k : Nat) : Bool := imp o k && (!(decide (3 ≤ o) && decide (o ≤ 10)) && (!decide (o = 111) && (!(decide (o = 0) && decide (k = 6)) && (!(decide (o = 93) && decide (k = 28)) && !(decide (o = 110) && decide (k < 29))))))
def pbO (o : Nat) : Prop := o ∉ scrO ∧ o ≠ 93 ∧ o ≠ 110 ∧ o ≠ 0 ∧ o ≠ 111 ∧ ¬ (3 ≤ o ∧ o ≤ 10)
theorem Pb_o {o k : Nat} (h : pbO o) : Pb o k = true := by
  obtain ⟨a, b, c, d, e, f⟩ := h
  simp only [Pb, imp_o a b c, Bool.true_and, Bool.and_eq_true, Bool.not_eq_true', Bool.and_eq_false_iff, decide_eq_false_iff_not]
  omega
theorem Pb_93 {k : Nat} (h : k ∉ scrF) (h2 : k ≠ 28) : Pb 93 k = true := by simp [Pb, imp_93 h, h2]
theorem Pb_110 {k : Nat} (h : 29 ≤ k) (h2 : k < 609) : Pb 110 k = true := by
  rw [Pb, imp_110 (by omega)]
  simp
  omega
theorem Pb_0 {k : Nat} (h : k ≠ 6) : Pb 0 k = true := by
  rw [Pb, imp_o (by decide) (by decide) (by decide)]
  simp [h]
theorem Pb_m : ∀ m, m < 4 → ∀ i, i < 8 → pbO (20 + 8 * m + i) := by unfold pbO; decide +kernel
theorem Pb_c : ∀ i, i < 5 → pbO (54 + i) ∧ pbO (60 + i) := by unfold pbO; decide +kernel
theorem Pb_r : ∀ i, i < 4 → pbO (102 + i) := by unfold pbO; decide +kernel
theorem Pb_u : pbO 1 ∧ pbO 2 ∧ pbO 94 ∧ pbO 98 ∧ pbO 99 ∧ pbO 109 ∧ pbO 52 := by unfold pbO; refine ⟨?_, ?_, ?_, ?_, ?_, ?_, ?_⟩ <;> decide
/-- a mark as now -/
def Pl (m o k : Nat) : Bool := imp o k && (!(decide (20 + 8 * m ≤ o) && decide (o < 28 + 8 * m)) && (!(decide (o = 52) && decide (k = m)) && (!(decide (o = 111) && decide (k = m)) && !(decide (o = 110) && (decide (29 * (1 + m) ≤ k) && decide (k < 29 * (1 + m) + 29))))))
theorem Pl_o {m o k : Nat} (h : imp o k = true) (h2 : o ≠ 110) (h3 : o ≠ 52) (h4 : o ≠ 111) (h5 : o < 20 + 8 * m ∨ 28 + 8 * m ≤ o) : Pl m o k = true := by
  simp only [Pl, h, Bool.true_and, Bool.and_eq_true, Bool.not_eq_true', Bool.and_eq_false_iff, decide_eq_false_iff_not]
  omega
theorem Pl_110 {m k : Nat} (hm : m < 4) (h : k < 609) (h2 : k < 29 * (1 + m) ∨ 29 * (1 + m) + 29 ≤ k) : Pl m 110 k = true := by
  simp only [Pl, imp_110 h, Bool.true_and, Bool.and_eq_true, Bool.not_eq_true', Bool.and_eq_false_iff, decide_eq_false_iff_not]
  omega
theorem Pl_i {m o k : Nat} (h : imp o k = true) (h2 : o = 52 ∨ o = 111) (h3 : k ≠ m) (hm : m < 4) : Pl m o k = true := by
  simp only [Pl, h, Bool.true_and, Bool.and_eq_true, Bool.not_eq_true', Bool.and_eq_false_iff, decide_eq_false_iff_not]
  omega
