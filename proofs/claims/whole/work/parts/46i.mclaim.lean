/-! claim: the reference reads a sentence, of every depth -/
set_option maxRecDepth 100000 in
set_option maxHeartbeats 4000000 in
theorem M_r191 {h : jM} {q : kQ} {K : Option Value → jM → Prop} {H : jM} {E n w v : Nat} (g : gH h q) (e8 : jI h 93 8 = nI 0) (w8 : w < 8) (v5 : v = 5) (RD : ∀ K, jCl (E + 2) 196 [.ref 93, .int (nI (w + 1))] h K = K none H) (gH' : gH H q) : jGo (E + 3) 196 (jAt 196 191) [.ref 93, .int (nI w), .int (nI v), .int (nI (60 + n))] [] h K = jGo (E + 3) 196 (jAt 196 229) [.ref 93, .int (nI w), .int (nI v), .int (nI (60 + n))] [] H K := by
  subst v5
  (conv => lhs; rw [jb_196_191])
  simp (maxSteps := 1000000) (disch := omega) only [jMI_i, jML_l, jMA_a, jSum_n, jSum_i, jSum_a, jSum_l, jGet_0, jPut_0, jGet_1, jPut_1i, jPut_1a, jPut_1n, jPut_1l, jGet_2, jPut_2i, jPut_2a, jPut_2n, jPut_2l, jGet_3, jPut_3i, jPut_3a, jPut_3n, jPut_3l, jGet_4, jPut_4i, jPut_4a, jPut_4n, jPut_4l, jGet_5, jPut_5i, jPut_5a, jPut_5n, jPut_5l, jGet_6, jPut_6i, jPut_6a, jPut_6n, jPut_6l, jGet_7, jPut_7i, jPut_7a, jPut_7n, jPut_7l, jGet_8, jPut_8i, jPut_8a, jPut_8n, jPut_8l, jGet_9, jPut_9i, jPut_9a, jPut_9n, jPut_9l, jGet_10, jPut_10i, jPut_10a, jPut_10n, jPut_10l, jGet_11, jPut_11i, jPut_11a, jPut_11n, jPut_11l, jGet_12, jPut_12i, jPut_12a, jPut_12n, jPut_12l, jPut2_e, jSet_1, jSet_2, jSet_3, jSet_4, jSet_5, jSet_6, jSet_7, jSet_8, jSet_9, jSet_10, jSet_11, jSet_12, go_bipush_m2, go_bipush_10, go_bipush_11, go_bipush_12, go_bipush_120, go_bipush_122, go_bipush_126, go_bipush_127, go_bipush_13, go_bipush_14, go_bipush_15, go_bipush_16, go_bipush_17, go_bipush_20, go_bipush_21, go_bipush_22, go_bipush_24, go_bipush_25, go_bipush_26, go_bipush_29, go_bipush_30, go_bipush_32, go_bipush_40, go_bipush_44, go_bipush_48, go_bipush_56, go_bipush_57, go_bipush_59, go_bipush_6, go_bipush_60, go_bipush_63, go_bipush_64, go_bipush_7, go_bipush_75, go_bipush_8, go_bipush_9, go_bipush_96, go_bipush_97, go_bipush_99, go_iconst_m1, go_iconst_0, go_iconst_1, go_iconst_2, go_iconst_3, go_iconst_4, go_iconst_5, go_iinc_m1, go_iinc_m8, go_iinc_1, go_iinc_7, go_sipush_1000, go_sipush_1002, go_sipush_128, go_sipush_132, go_sipush_185, go_sipush_2040, go_sipush_2047, go_sipush_240, go_sipush_255, go_sipush_289, go_sipush_4913, go_sipush_609, go_sipush_625, go_sipush_638, go_sipush_9999, go_lconst_0, go_lconst_1, go_ldc, go_ldcs, go_ldcw, go_ldc2_0, go_ldc2_1, go_ldc2_2, go_ldc2_3, go_ldc2_4, go_ldc2_5, go_ldc2_6, go_ldc2_7, go_ldc2_8, go_ldc2_9, go_ldc2_10, go_ldc2_11, go_ldc2_12, go_ldc2_13, go_ldc2_14, go_ldc2_15, go_ldc2_16, go_ldc2_17, go_ldc2_18, go_ldc2_19, go_ldc2_20, go_ldc2_21, go_ldc2_22, go_ldc2_23, go_ldc2_24, go_ldc2_25, go_ldc2_26, go_ldc2_27, go_ldc2_28, go_ldc2_29, go_ldc2_30, go_ldc2_31, go_ldc2_32, go_ldc2_33, go_ldc2_34, go_ldc2_35, jCI_0, jCI_1, jCI_2, jCI_3, go_iload, go_iload_n, go_lload, go_lload_n, go_aload, go_aload_n, go_istore, go_istore_n, go_lstore, go_lstore_n, go_astore, go_astore_n, go_iadd, go_isub, go_imul, go_iand, go_ior, go_ixor, go_ishl, go_ishr, go_iushr, go_idiv, go_irem, go_ldiv, go_lrem, go_ineg, go_i2l, go_i2c, go_l2i, go_ladd, go_lsub, go_lmul, go_land, go_lor, go_lxor, go_lcmp, go_lshl, go_lshr, go_lushr, go_dup_i, go_dup_a, go_pop_i, go_pop_a, go_dup2, go_getstatic, go_getf_i, go_getf_z, go_getf_l, go_getf_a, go_putf_i, go_putf_l, go_putf_z, go_putf_a, go_iald, go_iald1, go_iald2, go_alen, go_alen2, go_cald, go_bald, go_lald, go_aald, go_iast, go_cast, go_bast, go_last, go_aast, go_new, go_newa, go_anew, go_objinit, go_max, go_min, go_strlen, go_charat, go_acopy, go_rests, go_goto, go_if_eq, go_ic_eq, go_if_ne, go_ic_ne, go_if_lt, go_ic_lt, go_if_ge, go_ic_ge, go_if_gt, go_ic_gt, go_if_le, go_ic_le, go_sw, go_ret, go_lret, go_aret, Nat.reduceAdd, Nat.reduceLT, Nat.reduceLeDiff, Nat.reduceEqDiff, Nat.reduceSub, and_true, true_and, if_true, if_false, and_self, Option.toList_some, Option.toList_none, List.cons_append, List.nil_append, List.length_cons, List.length_nil, Fin.isValue, Fin.reduceFinMk, Fin.val_zero, Fin.val_one, Fin.val_two, jFin3, jI_jsI_n, jI_jsL_n, jI_jsR_n, jL_jsI_n, jL_jsL_n, jL_jsR_n, jR_jsI_n, jR_jsL_n, jR_jsR_n, jN_jsI_n, jN_jsL_n, jN_jsR_n, jXn_jsI_n, jXn_jsL_n, jXn_jsR_n, jXs_jsI_n, jXs_jsL_n, jXs_jsR_n, jEx_jsI_n, jEx_jsL_n, jEx_jsR_n, jI_jXp_n, jL_jXp_n, jR_jXp_n, jN_jXp_n, jXn_jXp_n, jXs_jXp_n, jEx_jXp_n, jb_196_0, cl_179, cl_185, cl_187, cl_196, cl_197, cl_198, js_0, js_1, js_2, js_3, js_4, js_5, js_6, js_7, js_8, js_9, js_10, js_11, js_12, js_13, js_14, js_15, js_16, js_17, js_18, js_19, js_20, js_21, js_22, js_23, js_24, js_25, js_26, js_27, js_28, js_29, js_30, js_31, js_32, js_33, js_34, js_35, js_36, js_37, js_38, js_39, js_40, js_41, js_42, js_43, js_44, js_45, js_46, js_47, js_48, js_49, js_50, js_51, js_52, js_53, js_54, js_55, js_56, js_57, js_58, js_59, js_60, js_61, js_62, js_63, js_64, js_65, js_66, js_67, js_68, js_69, js_70, js_71, js_72, js_73, js_74, js_75, js_76, js_77, js_78, js_79, js_80, js_81, js_82, js_83, js_84, js_85, js_86, js_87, js_88, js_89, js_90, js_91, js_92, js_93, js_94, js_95, js_96, js_97, js_98, js_99, js_100, js_101, js_102, js_103, js_104, js_105, js_106, js_107, js_108, js_109, js_110, js_111, js_112, js_113, js_114, js_115, js_116, js_117, js_118, js_119, lit_I, neg_1, jCl_nI, i_lt, i_le, i_eq, i_sub, i_div, n_rem, i_and31, i_shl, i_shr, i_bit, bI_1, bI_0, bI_2, bZ_1, bZ_0, bZ_in, bZ_2, nO_lt, nO_gt, nO_le, nO_ge, nO_eq, nO_qe, nO_self, nO_sele, nO_add, pI_0, pI_s, pI_nO, pI_lt0, pI_ge0, pI_eq, pI_add, nI_add, pk_mul, nx_and, fa_or, fb_xorI, Nat.reduceMul, Nat.reduceDiv, Nat.reduceMod, Nat.reducePow, Nat.reduceAnd, Nat.reduceOr, Nat.reduceXor, Nat.reduceShiftLeft, Nat.reduceShiftRight, eq_self, not_true_eq_false, not_false_eq_true, or_false, false_or, or_true, true_or, and_false, false_and, ↓reduceIte, Nat.zero_add, Nat.add_zero, Nat.not_lt_zero, Nat.zero_le, Bool.true_eq_false, Bool.false_eq_true, decide_true, decide_false, bl_in, rF_t3, rF_t4, rF_0_0, rF_0_1, rF_0_2, rF_0_3, rF_0_4, rF_0_5, rF_0_7, rF_0_8, rF_0_10, rF_0_11, rF_0_12, rF_0_13, rF_0_14, rF_0_15, rF_0_16, rF_1_0, rF_3_0, rF_3_1, rF_3_2, rF_4_3, rF_4_4, rF_7_3, rF_7_4, rF_11_0, rF_11_1, rF_11_2, rF_12_3, rF_12_4, rF_15_3, rF_15_4, rF_19_0, rF_19_1, rF_19_2, rF_19_3, rF_20_0, rF_20_1, rF_20_2, rF_21_3, rF_21_4, rF_24_3, rF_24_4, rF_28_0, rF_28_1, rF_28_2, rF_29_3, rF_29_4, rF_32_3, rF_32_4, rF_36_0, rF_36_1, rF_36_2, rF_37_3, rF_37_4, rF_40_3, rF_40_4, rF_44_0, rF_44_1, rF_44_2, rF_45_3, rF_45_4, rF_48_3, rF_48_4, rF_54_0, rF_54_1, rF_54_2, rF_54_3, rF_54_4, rF_60_0, rF_60_1, rF_60_2, rF_60_3, rF_60_4, rF_66_0, rF_66_1, rF_70_0, rF_70_1, rF_70_2, rF_70_3, rF_70_7, rF_70_8, rF_70_9, rF_71_3, rF_71_4, rF_79_0, rF_79_1, rF_82_0, rF_82_1, rF_82_2, rF_82_3, rF_82_4, rF_86_3, rF_86_4, rF_90_3, rF_90_4, rF_93_1, rF_93_4, rF_93_5, rF_93_6, rF_93_9, rF_93_10, rF_93_11, rF_93_12, rF_93_14, rF_93_15, rF_93_16, rF_93_17, rF_93_20, rF_93_24, rF_93_25, rF_93_26, rF_93_27, rF_93_29, rF_93_31, rF_93_32, rF_93_33, rF_93_34, rF_93_35, rF_93_36, rF_93_37, g.1, g.2, e8, RD, gH'.1, gH'.2, jN_mPn_n, jR_mPn_n, mTh_e_n, jN_mTh_n, jR_mTh_n, jI_mTh_n]
set_option maxRecDepth 100000 in
set_option maxHeartbeats 4000000 in
theorem M_r191a {h : jM} {q : kQ} {K : Option Value → jM → Prop} {H : jM} {E n w v F : Nat} (g : gH h q) (e8 : jI h 93 8 = nI 0) (w8 : w < 8) (v5 : 5 < v) (v8 : v < 8) (RD : ∀ K, jCl (E + 2) 196 [.ref 93, .int (nI (w + 1))] h K = K none H) (gH' : gH H q) (f8 : jI H 93 8 = nI F) (f0 : ¬ F = 0) (fl : F < 20000) : jGo (E + 3) 196 (jAt 196 191) [.ref 93, .int (nI w), .int (nI v), .int (nI (60 + n))] [] h K = jGo (E + 3) 196 (jAt 196 229) [.ref 93, .int (nI w), .int (nI v), .int (nI (60 + n))] [] H K := by
  have v1 : ¬ v < 5 := by omega
  have v2 : ¬ v = 5 := by omega
  (conv => lhs; rw [jb_196_191])
  simp (maxSteps := 1000000) (disch := omega) only [jMI_i, jML_l, jMA_a, jSum_n, jSum_i, jSum_a, jSum_l, jGet_0, jPut_0, jGet_1, jPut_1i, jPut_1a, jPut_1n, jPut_1l, jGet_2, jPut_2i, jPut_2a, jPut_2n, jPut_2l, jGet_3, jPut_3i, jPut_3a, jPut_3n, jPut_3l, jGet_4, jPut_4i, jPut_4a, jPut_4n, jPut_4l, jGet_5, jPut_5i, jPut_5a, jPut_5n, jPut_5l, jGet_6, jPut_6i, jPut_6a, jPut_6n, jPut_6l, jGet_7, jPut_7i, jPut_7a, jPut_7n, jPut_7l, jGet_8, jPut_8i, jPut_8a, jPut_8n, jPut_8l, jGet_9, jPut_9i, jPut_9a, jPut_9n, jPut_9l, jGet_10, jPut_10i, jPut_10a, jPut_10n, jPut_10l, jGet_11, jPut_11i, jPut_11a, jPut_11n, jPut_11l, jGet_12, jPut_12i, jPut_12a, jPut_12n, jPut_12l, jPut2_e, jSet_1, jSet_2, jSet_3, jSet_4, jSet_5, jSet_6, jSet_7, jSet_8, jSet_9, jSet_10, jSet_11, jSet_12, go_bipush_m2, go_bipush_10, go_bipush_11, go_bipush_12, go_bipush_120, go_bipush_122, go_bipush_126, go_bipush_127, go_bipush_13, go_bipush_14, go_bipush_15, go_bipush_16, go_bipush_17, go_bipush_20, go_bipush_21, go_bipush_22, go_bipush_24, go_bipush_25, go_bipush_26, go_bipush_29, go_bipush_30, go_bipush_32, go_bipush_40, go_bipush_44, go_bipush_48, go_bipush_56, go_bipush_57, go_bipush_59, go_bipush_6, go_bipush_60, go_bipush_63, go_bipush_64, go_bipush_7, go_bipush_75, go_bipush_8, go_bipush_9, go_bipush_96, go_bipush_97, go_bipush_99, go_iconst_m1, go_iconst_0, go_iconst_1, go_iconst_2, go_iconst_3, go_iconst_4, go_iconst_5, go_iinc_m1, go_iinc_m8, go_iinc_1, go_iinc_7, go_sipush_1000, go_sipush_1002, go_sipush_128, go_sipush_132, go_sipush_185, go_sipush_2040, go_sipush_2047, go_sipush_240, go_sipush_255, go_sipush_289, go_sipush_4913, go_sipush_609, go_sipush_625, go_sipush_638, go_sipush_9999, go_lconst_0, go_lconst_1, go_ldc, go_ldcs, go_ldcw, go_ldc2_0, go_ldc2_1, go_ldc2_2, go_ldc2_3, go_ldc2_4, go_ldc2_5, go_ldc2_6, go_ldc2_7, go_ldc2_8, go_ldc2_9, go_ldc2_10, go_ldc2_11, go_ldc2_12, go_ldc2_13, go_ldc2_14, go_ldc2_15, go_ldc2_16, go_ldc2_17, go_ldc2_18, go_ldc2_19, go_ldc2_20, go_ldc2_21, go_ldc2_22, go_ldc2_23, go_ldc2_24, go_ldc2_25, go_ldc2_26, go_ldc2_27, go_ldc2_28, go_ldc2_29, go_ldc2_30, go_ldc2_31, go_ldc2_32, go_ldc2_33, go_ldc2_34, go_ldc2_35, jCI_0, jCI_1, jCI_2, jCI_3, go_iload, go_iload_n, go_lload, go_lload_n, go_aload, go_aload_n, go_istore, go_istore_n, go_lstore, go_lstore_n, go_astore, go_astore_n, go_iadd, go_isub, go_imul, go_iand, go_ior, go_ixor, go_ishl, go_ishr, go_iushr, go_idiv, go_irem, go_ldiv, go_lrem, go_ineg, go_i2l, go_i2c, go_l2i, go_ladd, go_lsub, go_lmul, go_land, go_lor, go_lxor, go_lcmp, go_lshl, go_lshr, go_lushr, go_dup_i, go_dup_a, go_pop_i, go_pop_a, go_dup2, go_getstatic, go_getf_i, go_getf_z, go_getf_l, go_getf_a, go_putf_i, go_putf_l, go_putf_z, go_putf_a, go_iald, go_iald1, go_iald2, go_alen, go_alen2, go_cald, go_bald, go_lald, go_aald, go_iast, go_cast, go_bast, go_last, go_aast, go_new, go_newa, go_anew, go_objinit, go_max, go_min, go_strlen, go_charat, go_acopy, go_rests, go_goto, go_if_eq, go_ic_eq, go_if_ne, go_ic_ne, go_if_lt, go_ic_lt, go_if_ge, go_ic_ge, go_if_gt, go_ic_gt, go_if_le, go_ic_le, go_sw, go_ret, go_lret, go_aret, Nat.reduceAdd, Nat.reduceLT, Nat.reduceLeDiff, Nat.reduceEqDiff, Nat.reduceSub, and_true, true_and, if_true, if_false, and_self, Option.toList_some, Option.toList_none, List.cons_append, List.nil_append, List.length_cons, List.length_nil, Fin.isValue, Fin.reduceFinMk, Fin.val_zero, Fin.val_one, Fin.val_two, jFin3, jI_jsI_n, jI_jsL_n, jI_jsR_n, jL_jsI_n, jL_jsL_n, jL_jsR_n, jR_jsI_n, jR_jsL_n, jR_jsR_n, jN_jsI_n, jN_jsL_n, jN_jsR_n, jXn_jsI_n, jXn_jsL_n, jXn_jsR_n, jXs_jsI_n, jXs_jsL_n, jXs_jsR_n, jEx_jsI_n, jEx_jsL_n, jEx_jsR_n, jI_jXp_n, jL_jXp_n, jR_jXp_n, jN_jXp_n, jXn_jXp_n, jXs_jXp_n, jEx_jXp_n, jb_196_0, cl_179, cl_185, cl_187, cl_196, cl_197, cl_198, js_0, js_1, js_2, js_3, js_4, js_5, js_6, js_7, js_8, js_9, js_10, js_11, js_12, js_13, js_14, js_15, js_16, js_17, js_18, js_19, js_20, js_21, js_22, js_23, js_24, js_25, js_26, js_27, js_28, js_29, js_30, js_31, js_32, js_33, js_34, js_35, js_36, js_37, js_38, js_39, js_40, js_41, js_42, js_43, js_44, js_45, js_46, js_47, js_48, js_49, js_50, js_51, js_52, js_53, js_54, js_55, js_56, js_57, js_58, js_59, js_60, js_61, js_62, js_63, js_64, js_65, js_66, js_67, js_68, js_69, js_70, js_71, js_72, js_73, js_74, js_75, js_76, js_77, js_78, js_79, js_80, js_81, js_82, js_83, js_84, js_85, js_86, js_87, js_88, js_89, js_90, js_91, js_92, js_93, js_94, js_95, js_96, js_97, js_98, js_99, js_100, js_101, js_102, js_103, js_104, js_105, js_106, js_107, js_108, js_109, js_110, js_111, js_112, js_113, js_114, js_115, js_116, js_117, js_118, js_119, lit_I, neg_1, jCl_nI, i_lt, i_le, i_eq, i_sub, i_div, n_rem, i_and31, i_shl, i_shr, i_bit, bI_1, bI_0, bI_2, bZ_1, bZ_0, bZ_in, bZ_2, nO_lt, nO_gt, nO_le, nO_ge, nO_eq, nO_qe, nO_self, nO_sele, nO_add, pI_0, pI_s, pI_nO, pI_lt0, pI_ge0, pI_eq, pI_add, nI_add, pk_mul, nx_and, fa_or, fb_xorI, Nat.reduceMul, Nat.reduceDiv, Nat.reduceMod, Nat.reducePow, Nat.reduceAnd, Nat.reduceOr, Nat.reduceXor, Nat.reduceShiftLeft, Nat.reduceShiftRight, eq_self, not_true_eq_false, not_false_eq_true, or_false, false_or, or_true, true_or, and_false, false_and, ↓reduceIte, Nat.zero_add, Nat.add_zero, Nat.not_lt_zero, Nat.zero_le, Bool.true_eq_false, Bool.false_eq_true, decide_true, decide_false, bl_in, rF_t3, rF_t4, rF_0_0, rF_0_1, rF_0_2, rF_0_3, rF_0_4, rF_0_5, rF_0_7, rF_0_8, rF_0_10, rF_0_11, rF_0_12, rF_0_13, rF_0_14, rF_0_15, rF_0_16, rF_1_0, rF_3_0, rF_3_1, rF_3_2, rF_4_3, rF_4_4, rF_7_3, rF_7_4, rF_11_0, rF_11_1, rF_11_2, rF_12_3, rF_12_4, rF_15_3, rF_15_4, rF_19_0, rF_19_1, rF_19_2, rF_19_3, rF_20_0, rF_20_1, rF_20_2, rF_21_3, rF_21_4, rF_24_3, rF_24_4, rF_28_0, rF_28_1, rF_28_2, rF_29_3, rF_29_4, rF_32_3, rF_32_4, rF_36_0, rF_36_1, rF_36_2, rF_37_3, rF_37_4, rF_40_3, rF_40_4, rF_44_0, rF_44_1, rF_44_2, rF_45_3, rF_45_4, rF_48_3, rF_48_4, rF_54_0, rF_54_1, rF_54_2, rF_54_3, rF_54_4, rF_60_0, rF_60_1, rF_60_2, rF_60_3, rF_60_4, rF_66_0, rF_66_1, rF_70_0, rF_70_1, rF_70_2, rF_70_3, rF_70_7, rF_70_8, rF_70_9, rF_71_3, rF_71_4, rF_79_0, rF_79_1, rF_82_0, rF_82_1, rF_82_2, rF_82_3, rF_82_4, rF_86_3, rF_86_4, rF_90_3, rF_90_4, rF_93_1, rF_93_4, rF_93_5, rF_93_6, rF_93_9, rF_93_10, rF_93_11, rF_93_12, rF_93_14, rF_93_15, rF_93_16, rF_93_17, rF_93_20, rF_93_24, rF_93_25, rF_93_26, rF_93_27, rF_93_29, rF_93_31, rF_93_32, rF_93_33, rF_93_34, rF_93_35, rF_93_36, rF_93_37, g.1, g.2, e8, RD, gH'.1, gH'.2, v1, v2, f8, f0, jN_mPn_n, jR_mPn_n, mTh_e_n, jN_mTh_n, jR_mTh_n, jI_mTh_n]
set_option maxRecDepth 100000 in
set_option maxHeartbeats 4000000 in
theorem M_r191b {h : jM} {q : kQ} {K : Option Value → jM → Prop} {H : jM} {H2 : jM} {E n w v : Nat} (g : gH h q) (e8 : jI h 93 8 = nI 0) (w8 : w < 8) (v5 : 5 < v) (v8 : v < 8) (RD : ∀ K, jCl (E + 2) 196 [.ref 93, .int (nI (w + 1))] h K = K none H) (gH' : gH H q) (f8 : jI H 93 8 = nI 0) (R2 : ∀ K, jCl (E + 2) 196 [.ref 93, .int (nI (w + 1))] H K = K none H2) (gH2 : gH H2 q) : jGo (E + 3) 196 (jAt 196 191) [.ref 93, .int (nI w), .int (nI v), .int (nI (60 + n))] [] h K = jGo (E + 3) 196 (jAt 196 229) [.ref 93, .int (nI w), .int (nI v), .int (nI (60 + n))] [] H2 K := by
  have v1 : ¬ v < 5 := by omega
  have v2 : ¬ v = 5 := by omega
  (conv => lhs; rw [jb_196_191])
  simp (maxSteps := 1000000) (disch := omega) only [jMI_i, jML_l, jMA_a, jSum_n, jSum_i, jSum_a, jSum_l, jGet_0, jPut_0, jGet_1, jPut_1i, jPut_1a, jPut_1n, jPut_1l, jGet_2, jPut_2i, jPut_2a, jPut_2n, jPut_2l, jGet_3, jPut_3i, jPut_3a, jPut_3n, jPut_3l, jGet_4, jPut_4i, jPut_4a, jPut_4n, jPut_4l, jGet_5, jPut_5i, jPut_5a, jPut_5n, jPut_5l, jGet_6, jPut_6i, jPut_6a, jPut_6n, jPut_6l, jGet_7, jPut_7i, jPut_7a, jPut_7n, jPut_7l, jGet_8, jPut_8i, jPut_8a, jPut_8n, jPut_8l, jGet_9, jPut_9i, jPut_9a, jPut_9n, jPut_9l, jGet_10, jPut_10i, jPut_10a, jPut_10n, jPut_10l, jGet_11, jPut_11i, jPut_11a, jPut_11n, jPut_11l, jGet_12, jPut_12i, jPut_12a, jPut_12n, jPut_12l, jPut2_e, jSet_1, jSet_2, jSet_3, jSet_4, jSet_5, jSet_6, jSet_7, jSet_8, jSet_9, jSet_10, jSet_11, jSet_12, go_bipush_m2, go_bipush_10, go_bipush_11, go_bipush_12, go_bipush_120, go_bipush_122, go_bipush_126, go_bipush_127, go_bipush_13, go_bipush_14, go_bipush_15, go_bipush_16, go_bipush_17, go_bipush_20, go_bipush_21, go_bipush_22, go_bipush_24, go_bipush_25, go_bipush_26, go_bipush_29, go_bipush_30, go_bipush_32, go_bipush_40, go_bipush_44, go_bipush_48, go_bipush_56, go_bipush_57, go_bipush_59, go_bipush_6, go_bipush_60, go_bipush_63, go_bipush_64, go_bipush_7, go_bipush_75, go_bipush_8, go_bipush_9, go_bipush_96, go_bipush_97, go_bipush_99, go_iconst_m1, go_iconst_0, go_iconst_1, go_iconst_2, go_iconst_3, go_iconst_4, go_iconst_5, go_iinc_m1, go_iinc_m8, go_iinc_1, go_iinc_7, go_sipush_1000, go_sipush_1002, go_sipush_128, go_sipush_132, go_sipush_185, go_sipush_2040, go_sipush_2047, go_sipush_240, go_sipush_255, go_sipush_289, go_sipush_4913, go_sipush_609, go_sipush_625, go_sipush_638, go_sipush_9999, go_lconst_0, go_lconst_1, go_ldc, go_ldcs, go_ldcw, go_ldc2_0, go_ldc2_1, go_ldc2_2, go_ldc2_3, go_ldc2_4, go_ldc2_5, go_ldc2_6, go_ldc2_7, go_ldc2_8, go_ldc2_9, go_ldc2_10, go_ldc2_11, go_ldc2_12, go_ldc2_13, go_ldc2_14, go_ldc2_15, go_ldc2_16, go_ldc2_17, go_ldc2_18, go_ldc2_19, go_ldc2_20, go_ldc2_21, go_ldc2_22, go_ldc2_23, go_ldc2_24, go_ldc2_25, go_ldc2_26, go_ldc2_27, go_ldc2_28, go_ldc2_29, go_ldc2_30, go_ldc2_31, go_ldc2_32, go_ldc2_33, go_ldc2_34, go_ldc2_35, jCI_0, jCI_1, jCI_2, jCI_3, go_iload, go_iload_n, go_lload, go_lload_n, go_aload, go_aload_n, go_istore, go_istore_n, go_lstore, go_lstore_n, go_astore, go_astore_n, go_iadd, go_isub, go_imul, go_iand, go_ior, go_ixor, go_ishl, go_ishr, go_iushr, go_idiv, go_irem, go_ldiv, go_lrem, go_ineg, go_i2l, go_i2c, go_l2i, go_ladd, go_lsub, go_lmul, go_land, go_lor, go_lxor, go_lcmp, go_lshl, go_lshr, go_lushr, go_dup_i, go_dup_a, go_pop_i, go_pop_a, go_dup2, go_getstatic, go_getf_i, go_getf_z, go_getf_l, go_getf_a, go_putf_i, go_putf_l, go_putf_z, go_putf_a, go_iald, go_iald1, go_iald2, go_alen, go_alen2, go_cald, go_bald, go_lald, go_aald, go_iast, go_cast, go_bast, go_last, go_aast, go_new, go_newa, go_anew, go_objinit, go_max, go_min, go_strlen, go_charat, go_acopy, go_rests, go_goto, go_if_eq, go_ic_eq, go_if_ne, go_ic_ne, go_if_lt, go_ic_lt, go_if_ge, go_ic_ge, go_if_gt, go_ic_gt, go_if_le, go_ic_le, go_sw, go_ret, go_lret, go_aret, Nat.reduceAdd, Nat.reduceLT, Nat.reduceLeDiff, Nat.reduceEqDiff, Nat.reduceSub, and_true, true_and, if_true, if_false, and_self, Option.toList_some, Option.toList_none, List.cons_append, List.nil_append, List.length_cons, List.length_nil, Fin.isValue, Fin.reduceFinMk, Fin.val_zero, Fin.val_one, Fin.val_two, jFin3, jI_jsI_n, jI_jsL_n, jI_jsR_n, jL_jsI_n, jL_jsL_n, jL_jsR_n, jR_jsI_n, jR_jsL_n, jR_jsR_n, jN_jsI_n, jN_jsL_n, jN_jsR_n, jXn_jsI_n, jXn_jsL_n, jXn_jsR_n, jXs_jsI_n, jXs_jsL_n, jXs_jsR_n, jEx_jsI_n, jEx_jsL_n, jEx_jsR_n, jI_jXp_n, jL_jXp_n, jR_jXp_n, jN_jXp_n, jXn_jXp_n, jXs_jXp_n, jEx_jXp_n, jb_196_0, cl_179, cl_185, cl_187, cl_196, cl_197, cl_198, js_0, js_1, js_2, js_3, js_4, js_5, js_6, js_7, js_8, js_9, js_10, js_11, js_12, js_13, js_14, js_15, js_16, js_17, js_18, js_19, js_20, js_21, js_22, js_23, js_24, js_25, js_26, js_27, js_28, js_29, js_30, js_31, js_32, js_33, js_34, js_35, js_36, js_37, js_38, js_39, js_40, js_41, js_42, js_43, js_44, js_45, js_46, js_47, js_48, js_49, js_50, js_51, js_52, js_53, js_54, js_55, js_56, js_57, js_58, js_59, js_60, js_61, js_62, js_63, js_64, js_65, js_66, js_67, js_68, js_69, js_70, js_71, js_72, js_73, js_74, js_75, js_76, js_77, js_78, js_79, js_80, js_81, js_82, js_83, js_84, js_85, js_86, js_87, js_88, js_89, js_90, js_91, js_92, js_93, js_94, js_95, js_96, js_97, js_98, js_99, js_100, js_101, js_102, js_103, js_104, js_105, js_106, js_107, js_108, js_109, js_110, js_111, js_112, js_113, js_114, js_115, js_116, js_117, js_118, js_119, lit_I, neg_1, jCl_nI, i_lt, i_le, i_eq, i_sub, i_div, n_rem, i_and31, i_shl, i_shr, i_bit, bI_1, bI_0, bI_2, bZ_1, bZ_0, bZ_in, bZ_2, nO_lt, nO_gt, nO_le, nO_ge, nO_eq, nO_qe, nO_self, nO_sele, nO_add, pI_0, pI_s, pI_nO, pI_lt0, pI_ge0, pI_eq, pI_add, nI_add, pk_mul, nx_and, fa_or, fb_xorI, Nat.reduceMul, Nat.reduceDiv, Nat.reduceMod, Nat.reducePow, Nat.reduceAnd, Nat.reduceOr, Nat.reduceXor, Nat.reduceShiftLeft, Nat.reduceShiftRight, eq_self, not_true_eq_false, not_false_eq_true, or_false, false_or, or_true, true_or, and_false, false_and, ↓reduceIte, Nat.zero_add, Nat.add_zero, Nat.not_lt_zero, Nat.zero_le, Bool.true_eq_false, Bool.false_eq_true, decide_true, decide_false, bl_in, rF_t3, rF_t4, rF_0_0, rF_0_1, rF_0_2, rF_0_3, rF_0_4, rF_0_5, rF_0_7, rF_0_8, rF_0_10, rF_0_11, rF_0_12, rF_0_13, rF_0_14, rF_0_15, rF_0_16, rF_1_0, rF_3_0, rF_3_1, rF_3_2, rF_4_3, rF_4_4, rF_7_3, rF_7_4, rF_11_0, rF_11_1, rF_11_2, rF_12_3, rF_12_4, rF_15_3, rF_15_4, rF_19_0, rF_19_1, rF_19_2, rF_19_3, rF_20_0, rF_20_1, rF_20_2, rF_21_3, rF_21_4, rF_24_3, rF_24_4, rF_28_0, rF_28_1, rF_28_2, rF_29_3, rF_29_4, rF_32_3, rF_32_4, rF_36_0, rF_36_1, rF_36_2, rF_37_3, rF_37_4, rF_40_3, rF_40_4, rF_44_0, rF_44_1, rF_44_2, rF_45_3, rF_45_4, rF_48_3, rF_48_4, rF_54_0, rF_54_1, rF_54_2, rF_54_3, rF_54_4, rF_60_0, rF_60_1, rF_60_2, rF_60_3, rF_60_4, rF_66_0, rF_66_1, rF_70_0, rF_70_1, rF_70_2, rF_70_3, rF_70_7, rF_70_8, rF_70_9, rF_71_3, rF_71_4, rF_79_0, rF_79_1, rF_82_0, rF_82_1, rF_82_2, rF_82_3, rF_82_4, rF_86_3, rF_86_4, rF_90_3, rF_90_4, rF_93_1, rF_93_4, rF_93_5, rF_93_6, rF_93_9, rF_93_10, rF_93_11, rF_93_12, rF_93_14, rF_93_15, rF_93_16, rF_93_17, rF_93_20, rF_93_24, rF_93_25, rF_93_26, rF_93_27, rF_93_29, rF_93_31, rF_93_32, rF_93_33, rF_93_34, rF_93_35, rF_93_36, rF_93_37, g.1, g.2, e8, RD, gH'.1, gH'.2, v1, v2, f8, R2, gH2.1, gH2.2, jN_mPn_n, jR_mPn_n, mTh_e_n, jN_mTh_n, jR_mTh_n, jI_mTh_n]
set_option maxRecDepth 100000 in
set_option maxHeartbeats 4000000 in
theorem M_r114 {h : jM} {q : kQ} {K : Option Value → jM → Prop} {H : jM} {E n w v x b : Nat} {z : Int32} (g : gH h q) (n60 : n < 60) (x4 : x < 4) (w8 : w < 8) (v8 : 8 ≤ v) (v10 : v ≤ 10) (e8 : jI h 93 8 = nI 0) (e6 : jI h 106 x = nI b) (hb : b ≤ 9) (RD : ∀ K, jCl (E + 2) 196 [.ref 93, .int (nI (w + 1))] (jsI (jsI (jsI h 103 (60 + n) (nI x)) 104 (60 + n) (nI 0)) 106 x (nI (b + 1))) K = K none H) (gH' : gH H q) (f3 : jI H 103 (60 + n) = nI x) (f6 : jI H 106 x = z) : jGo (E + 3) 196 (jAt 196 114) [.ref 93, .int (nI w), .int (nI v), .int (nI (60 + n))] [.int (nI x), .int (nI (60 + n)), .ref 103] h K = jGo (E + 3) 196 (jAt 196 229) [.ref 93, .int (nI w), .int (nI v), .int (nI (60 + n))] [] (jsI H 106 x (z - nI 1)) K := by
  have i60 : ¬ 120 ≤ 60 + n := by omega
  have x4' : ¬ 4 ≤ x := by omega
  have v8' : ¬ v < 8 := by omega
  have WI := fun h K => M_within24 (d := E + 2) (h := h) (K := K) (show v < 11 by omega)
  rw [decide_eq_false (show ¬ (2 ≤ v ∧ v ≤ 4) by omega)] at WI
  (conv => lhs; rw [jb_196_114])
  simp (maxSteps := 1000000) (disch := omega) only [jMI_i, jML_l, jMA_a, jSum_n, jSum_i, jSum_a, jSum_l, jGet_0, jPut_0, jGet_1, jPut_1i, jPut_1a, jPut_1n, jPut_1l, jGet_2, jPut_2i, jPut_2a, jPut_2n, jPut_2l, jGet_3, jPut_3i, jPut_3a, jPut_3n, jPut_3l, jGet_4, jPut_4i, jPut_4a, jPut_4n, jPut_4l, jGet_5, jPut_5i, jPut_5a, jPut_5n, jPut_5l, jGet_6, jPut_6i, jPut_6a, jPut_6n, jPut_6l, jGet_7, jPut_7i, jPut_7a, jPut_7n, jPut_7l, jGet_8, jPut_8i, jPut_8a, jPut_8n, jPut_8l, jGet_9, jPut_9i, jPut_9a, jPut_9n, jPut_9l, jGet_10, jPut_10i, jPut_10a, jPut_10n, jPut_10l, jGet_11, jPut_11i, jPut_11a, jPut_11n, jPut_11l, jGet_12, jPut_12i, jPut_12a, jPut_12n, jPut_12l, jPut2_e, jSet_1, jSet_2, jSet_3, jSet_4, jSet_5, jSet_6, jSet_7, jSet_8, jSet_9, jSet_10, jSet_11, jSet_12, go_bipush_m2, go_bipush_10, go_bipush_11, go_bipush_12, go_bipush_120, go_bipush_122, go_bipush_126, go_bipush_127, go_bipush_13, go_bipush_14, go_bipush_15, go_bipush_16, go_bipush_17, go_bipush_20, go_bipush_21, go_bipush_22, go_bipush_24, go_bipush_25, go_bipush_26, go_bipush_29, go_bipush_30, go_bipush_32, go_bipush_40, go_bipush_44, go_bipush_48, go_bipush_56, go_bipush_57, go_bipush_59, go_bipush_6, go_bipush_60, go_bipush_63, go_bipush_64, go_bipush_7, go_bipush_75, go_bipush_8, go_bipush_9, go_bipush_96, go_bipush_97, go_bipush_99, go_iconst_m1, go_iconst_0, go_iconst_1, go_iconst_2, go_iconst_3, go_iconst_4, go_iconst_5, go_iinc_m1, go_iinc_m8, go_iinc_1, go_iinc_7, go_sipush_1000, go_sipush_1002, go_sipush_128, go_sipush_132, go_sipush_185, go_sipush_2040, go_sipush_2047, go_sipush_240, go_sipush_255, go_sipush_289, go_sipush_4913, go_sipush_609, go_sipush_625, go_sipush_638, go_sipush_9999, go_lconst_0, go_lconst_1, go_ldc, go_ldcs, go_ldcw, go_ldc2_0, go_ldc2_1, go_ldc2_2, go_ldc2_3, go_ldc2_4, go_ldc2_5, go_ldc2_6, go_ldc2_7, go_ldc2_8, go_ldc2_9, go_ldc2_10, go_ldc2_11, go_ldc2_12, go_ldc2_13, go_ldc2_14, go_ldc2_15, go_ldc2_16, go_ldc2_17, go_ldc2_18, go_ldc2_19, go_ldc2_20, go_ldc2_21, go_ldc2_22, go_ldc2_23, go_ldc2_24, go_ldc2_25, go_ldc2_26, go_ldc2_27, go_ldc2_28, go_ldc2_29, go_ldc2_30, go_ldc2_31, go_ldc2_32, go_ldc2_33, go_ldc2_34, go_ldc2_35, jCI_0, jCI_1, jCI_2, jCI_3, go_iload, go_iload_n, go_lload, go_lload_n, go_aload, go_aload_n, go_istore, go_istore_n, go_lstore, go_lstore_n, go_astore, go_astore_n, go_iadd, go_isub, go_imul, go_iand, go_ior, go_ixor, go_ishl, go_ishr, go_iushr, go_idiv, go_irem, go_ldiv, go_lrem, go_ineg, go_i2l, go_i2c, go_l2i, go_ladd, go_lsub, go_lmul, go_land, go_lor, go_lxor, go_lcmp, go_lshl, go_lshr, go_lushr, go_dup_i, go_dup_a, go_pop_i, go_pop_a, go_dup2, go_getstatic, go_getf_i, go_getf_z, go_getf_l, go_getf_a, go_putf_i, go_putf_l, go_putf_z, go_putf_a, go_iald, go_iald1, go_iald2, go_alen, go_alen2, go_cald, go_bald, go_lald, go_aald, go_iast, go_cast, go_bast, go_last, go_aast, go_new, go_newa, go_anew, go_objinit, go_max, go_min, go_strlen, go_charat, go_acopy, go_rests, go_goto, go_if_eq, go_ic_eq, go_if_ne, go_ic_ne, go_if_lt, go_ic_lt, go_if_ge, go_ic_ge, go_if_gt, go_ic_gt, go_if_le, go_ic_le, go_sw, go_ret, go_lret, go_aret, Nat.reduceAdd, Nat.reduceLT, Nat.reduceLeDiff, Nat.reduceEqDiff, Nat.reduceSub, and_true, true_and, if_true, if_false, and_self, Option.toList_some, Option.toList_none, List.cons_append, List.nil_append, List.length_cons, List.length_nil, Fin.isValue, Fin.reduceFinMk, Fin.val_zero, Fin.val_one, Fin.val_two, jFin3, jI_jsI_n, jI_jsL_n, jI_jsR_n, jL_jsI_n, jL_jsL_n, jL_jsR_n, jR_jsI_n, jR_jsL_n, jR_jsR_n, jN_jsI_n, jN_jsL_n, jN_jsR_n, jXn_jsI_n, jXn_jsL_n, jXn_jsR_n, jXs_jsI_n, jXs_jsL_n, jXs_jsR_n, jEx_jsI_n, jEx_jsL_n, jEx_jsR_n, jI_jXp_n, jL_jXp_n, jR_jXp_n, jN_jXp_n, jXn_jXp_n, jXs_jXp_n, jEx_jXp_n, jb_196_136, jb_196_137, cl_179, cl_185, cl_187, cl_196, cl_197, cl_198, js_0, js_1, js_2, js_3, js_4, js_5, js_6, js_7, js_8, js_9, js_10, js_11, js_12, js_13, js_14, js_15, js_16, js_17, js_18, js_19, js_20, js_21, js_22, js_23, js_24, js_25, js_26, js_27, js_28, js_29, js_30, js_31, js_32, js_33, js_34, js_35, js_36, js_37, js_38, js_39, js_40, js_41, js_42, js_43, js_44, js_45, js_46, js_47, js_48, js_49, js_50, js_51, js_52, js_53, js_54, js_55, js_56, js_57, js_58, js_59, js_60, js_61, js_62, js_63, js_64, js_65, js_66, js_67, js_68, js_69, js_70, js_71, js_72, js_73, js_74, js_75, js_76, js_77, js_78, js_79, js_80, js_81, js_82, js_83, js_84, js_85, js_86, js_87, js_88, js_89, js_90, js_91, js_92, js_93, js_94, js_95, js_96, js_97, js_98, js_99, js_100, js_101, js_102, js_103, js_104, js_105, js_106, js_107, js_108, js_109, js_110, js_111, js_112, js_113, js_114, js_115, js_116, js_117, js_118, js_119, lit_I, neg_1, jCl_nI, i_lt, i_le, i_eq, i_sub, i_div, n_rem, i_and31, i_shl, i_shr, i_bit, bI_1, bI_0, bI_2, bZ_1, bZ_0, bZ_in, bZ_2, nO_lt, nO_gt, nO_le, nO_ge, nO_eq, nO_qe, nO_self, nO_sele, nO_add, pI_0, pI_s, pI_nO, pI_lt0, pI_ge0, pI_eq, pI_add, nI_add, pk_mul, nx_and, fa_or, fb_xorI, Nat.reduceMul, Nat.reduceDiv, Nat.reduceMod, Nat.reducePow, Nat.reduceAnd, Nat.reduceOr, Nat.reduceXor, Nat.reduceShiftLeft, Nat.reduceShiftRight, eq_self, not_true_eq_false, not_false_eq_true, or_false, false_or, or_true, true_or, and_false, false_and, ↓reduceIte, Nat.zero_add, Nat.add_zero, Nat.not_lt_zero, Nat.zero_le, Bool.true_eq_false, Bool.false_eq_true, decide_true, decide_false, bl_in, rF_t3, rF_t4, rF_0_0, rF_0_1, rF_0_2, rF_0_3, rF_0_4, rF_0_5, rF_0_7, rF_0_8, rF_0_10, rF_0_11, rF_0_12, rF_0_13, rF_0_14, rF_0_15, rF_0_16, rF_1_0, rF_3_0, rF_3_1, rF_3_2, rF_4_3, rF_4_4, rF_7_3, rF_7_4, rF_11_0, rF_11_1, rF_11_2, rF_12_3, rF_12_4, rF_15_3, rF_15_4, rF_19_0, rF_19_1, rF_19_2, rF_19_3, rF_20_0, rF_20_1, rF_20_2, rF_21_3, rF_21_4, rF_24_3, rF_24_4, rF_28_0, rF_28_1, rF_28_2, rF_29_3, rF_29_4, rF_32_3, rF_32_4, rF_36_0, rF_36_1, rF_36_2, rF_37_3, rF_37_4, rF_40_3, rF_40_4, rF_44_0, rF_44_1, rF_44_2, rF_45_3, rF_45_4, rF_48_3, rF_48_4, rF_54_0, rF_54_1, rF_54_2, rF_54_3, rF_54_4, rF_60_0, rF_60_1, rF_60_2, rF_60_3, rF_60_4, rF_66_0, rF_66_1, rF_70_0, rF_70_1, rF_70_2, rF_70_3, rF_70_7, rF_70_8, rF_70_9, rF_71_3, rF_71_4, rF_79_0, rF_79_1, rF_82_0, rF_82_1, rF_82_2, rF_82_3, rF_82_4, rF_86_3, rF_86_4, rF_90_3, rF_90_4, rF_93_1, rF_93_4, rF_93_5, rF_93_6, rF_93_9, rF_93_10, rF_93_11, rF_93_12, rF_93_14, rF_93_15, rF_93_16, rF_93_17, rF_93_20, rF_93_24, rF_93_25, rF_93_26, rF_93_27, rF_93_29, rF_93_31, rF_93_32, rF_93_33, rF_93_34, rF_93_35, rF_93_36, rF_93_37, g.1, g.2, i60, v8', WI, bZ_f, e8, x4', e6, RD, gH'.1, gH'.2, f3, f6, jN_mPn_n, jR_mPn_n, mTh_e_n, jN_mTh_n, jR_mTh_n, jI_mTh_n]
set_option maxRecDepth 100000 in
set_option maxHeartbeats 4000000 in
theorem M_r114f {h : jM} {q : kQ} {K : Option Value → jM → Prop} {E n w v F : Nat} (g : gH h q) (n60 : n < 60) (v8 : 8 ≤ v) (v10 : v ≤ 10) (e8 : jI h 93 8 = nI F) (f0 : ¬ F = 0) (fl : F < 20000) : jGo (E + 3) 196 (jAt 196 114) [.ref 93, .int (nI w), .int (nI v), .int (nI (60 + n))] [.int (nI 0), .int (nI (60 + n)), .ref 103] h K = jGo (E + 3) 196 (jAt 196 229) [.ref 93, .int (nI w), .int (nI v), .int (nI (60 + n))] [] (jsI (jsI h 103 (60 + n) (nI 0)) 104 (60 + n) (nI 0)) K := by
  have i60 : ¬ 120 ≤ 60 + n := by omega
  have v8' : ¬ v < 8 := by omega
  have v5' : ¬ v < 5 := by omega
  have WI := fun h K => M_within24 (d := E + 2) (h := h) (K := K) (show v < 11 by omega)
  rw [decide_eq_false (show ¬ (2 ≤ v ∧ v ≤ 4) by omega)] at WI
  (conv => lhs; rw [jb_196_114])
  simp (maxSteps := 1000000) (disch := omega) only [jMI_i, jML_l, jMA_a, jSum_n, jSum_i, jSum_a, jSum_l, jGet_0, jPut_0, jGet_1, jPut_1i, jPut_1a, jPut_1n, jPut_1l, jGet_2, jPut_2i, jPut_2a, jPut_2n, jPut_2l, jGet_3, jPut_3i, jPut_3a, jPut_3n, jPut_3l, jGet_4, jPut_4i, jPut_4a, jPut_4n, jPut_4l, jGet_5, jPut_5i, jPut_5a, jPut_5n, jPut_5l, jGet_6, jPut_6i, jPut_6a, jPut_6n, jPut_6l, jGet_7, jPut_7i, jPut_7a, jPut_7n, jPut_7l, jGet_8, jPut_8i, jPut_8a, jPut_8n, jPut_8l, jGet_9, jPut_9i, jPut_9a, jPut_9n, jPut_9l, jGet_10, jPut_10i, jPut_10a, jPut_10n, jPut_10l, jGet_11, jPut_11i, jPut_11a, jPut_11n, jPut_11l, jGet_12, jPut_12i, jPut_12a, jPut_12n, jPut_12l, jPut2_e, jSet_1, jSet_2, jSet_3, jSet_4, jSet_5, jSet_6, jSet_7, jSet_8, jSet_9, jSet_10, jSet_11, jSet_12, go_bipush_m2, go_bipush_10, go_bipush_11, go_bipush_12, go_bipush_120, go_bipush_122, go_bipush_126, go_bipush_127, go_bipush_13, go_bipush_14, go_bipush_15, go_bipush_16, go_bipush_17, go_bipush_20, go_bipush_21, go_bipush_22, go_bipush_24, go_bipush_25, go_bipush_26, go_bipush_29, go_bipush_30, go_bipush_32, go_bipush_40, go_bipush_44, go_bipush_48, go_bipush_56, go_bipush_57, go_bipush_59, go_bipush_6, go_bipush_60, go_bipush_63, go_bipush_64, go_bipush_7, go_bipush_75, go_bipush_8, go_bipush_9, go_bipush_96, go_bipush_97, go_bipush_99, go_iconst_m1, go_iconst_0, go_iconst_1, go_iconst_2, go_iconst_3, go_iconst_4, go_iconst_5, go_iinc_m1, go_iinc_m8, go_iinc_1, go_iinc_7, go_sipush_1000, go_sipush_1002, go_sipush_128, go_sipush_132, go_sipush_185, go_sipush_2040, go_sipush_2047, go_sipush_240, go_sipush_255, go_sipush_289, go_sipush_4913, go_sipush_609, go_sipush_625, go_sipush_638, go_sipush_9999, go_lconst_0, go_lconst_1, go_ldc, go_ldcs, go_ldcw, go_ldc2_0, go_ldc2_1, go_ldc2_2, go_ldc2_3, go_ldc2_4, go_ldc2_5, go_ldc2_6, go_ldc2_7, go_ldc2_8, go_ldc2_9, go_ldc2_10, go_ldc2_11, go_ldc2_12, go_ldc2_13, go_ldc2_14, go_ldc2_15, go_ldc2_16, go_ldc2_17, go_ldc2_18, go_ldc2_19, go_ldc2_20, go_ldc2_21, go_ldc2_22, go_ldc2_23, go_ldc2_24, go_ldc2_25, go_ldc2_26, go_ldc2_27, go_ldc2_28, go_ldc2_29, go_ldc2_30, go_ldc2_31, go_ldc2_32, go_ldc2_33, go_ldc2_34, go_ldc2_35, jCI_0, jCI_1, jCI_2, jCI_3, go_iload, go_iload_n, go_lload, go_lload_n, go_aload, go_aload_n, go_istore, go_istore_n, go_lstore, go_lstore_n, go_astore, go_astore_n, go_iadd, go_isub, go_imul, go_iand, go_ior, go_ixor, go_ishl, go_ishr, go_iushr, go_idiv, go_irem, go_ldiv, go_lrem, go_ineg, go_i2l, go_i2c, go_l2i, go_ladd, go_lsub, go_lmul, go_land, go_lor, go_lxor, go_lcmp, go_lshl, go_lshr, go_lushr, go_dup_i, go_dup_a, go_pop_i, go_pop_a, go_dup2, go_getstatic, go_getf_i, go_getf_z, go_getf_l, go_getf_a, go_putf_i, go_putf_l, go_putf_z, go_putf_a, go_iald, go_iald1, go_iald2, go_alen, go_alen2, go_cald, go_bald, go_lald, go_aald, go_iast, go_cast, go_bast, go_last, go_aast, go_new, go_newa, go_anew, go_objinit, go_max, go_min, go_strlen, go_charat, go_acopy, go_rests, go_goto, go_if_eq, go_ic_eq, go_if_ne, go_ic_ne, go_if_lt, go_ic_lt, go_if_ge, go_ic_ge, go_if_gt, go_ic_gt, go_if_le, go_ic_le, go_sw, go_ret, go_lret, go_aret, Nat.reduceAdd, Nat.reduceLT, Nat.reduceLeDiff, Nat.reduceEqDiff, Nat.reduceSub, and_true, true_and, if_true, if_false, and_self, Option.toList_some, Option.toList_none, List.cons_append, List.nil_append, List.length_cons, List.length_nil, Fin.isValue, Fin.reduceFinMk, Fin.val_zero, Fin.val_one, Fin.val_two, jFin3, jI_jsI_n, jI_jsL_n, jI_jsR_n, jL_jsI_n, jL_jsL_n, jL_jsR_n, jR_jsI_n, jR_jsL_n, jR_jsR_n, jN_jsI_n, jN_jsL_n, jN_jsR_n, jXn_jsI_n, jXn_jsL_n, jXn_jsR_n, jXs_jsI_n, jXs_jsL_n, jXs_jsR_n, jEx_jsI_n, jEx_jsL_n, jEx_jsR_n, jI_jXp_n, jL_jXp_n, jR_jXp_n, jN_jXp_n, jXn_jXp_n, jXs_jXp_n, jEx_jXp_n, jb_196_136, jb_196_137, jb_196_191, cl_179, cl_185, cl_187, cl_196, cl_197, cl_198, js_0, js_1, js_2, js_3, js_4, js_5, js_6, js_7, js_8, js_9, js_10, js_11, js_12, js_13, js_14, js_15, js_16, js_17, js_18, js_19, js_20, js_21, js_22, js_23, js_24, js_25, js_26, js_27, js_28, js_29, js_30, js_31, js_32, js_33, js_34, js_35, js_36, js_37, js_38, js_39, js_40, js_41, js_42, js_43, js_44, js_45, js_46, js_47, js_48, js_49, js_50, js_51, js_52, js_53, js_54, js_55, js_56, js_57, js_58, js_59, js_60, js_61, js_62, js_63, js_64, js_65, js_66, js_67, js_68, js_69, js_70, js_71, js_72, js_73, js_74, js_75, js_76, js_77, js_78, js_79, js_80, js_81, js_82, js_83, js_84, js_85, js_86, js_87, js_88, js_89, js_90, js_91, js_92, js_93, js_94, js_95, js_96, js_97, js_98, js_99, js_100, js_101, js_102, js_103, js_104, js_105, js_106, js_107, js_108, js_109, js_110, js_111, js_112, js_113, js_114, js_115, js_116, js_117, js_118, js_119, lit_I, neg_1, jCl_nI, i_lt, i_le, i_eq, i_sub, i_div, n_rem, i_and31, i_shl, i_shr, i_bit, bI_1, bI_0, bI_2, bZ_1, bZ_0, bZ_in, bZ_2, nO_lt, nO_gt, nO_le, nO_ge, nO_eq, nO_qe, nO_self, nO_sele, nO_add, pI_0, pI_s, pI_nO, pI_lt0, pI_ge0, pI_eq, pI_add, nI_add, pk_mul, nx_and, fa_or, fb_xorI, Nat.reduceMul, Nat.reduceDiv, Nat.reduceMod, Nat.reducePow, Nat.reduceAnd, Nat.reduceOr, Nat.reduceXor, Nat.reduceShiftLeft, Nat.reduceShiftRight, eq_self, not_true_eq_false, not_false_eq_true, or_false, false_or, or_true, true_or, and_false, false_and, ↓reduceIte, Nat.zero_add, Nat.add_zero, Nat.not_lt_zero, Nat.zero_le, Bool.true_eq_false, Bool.false_eq_true, decide_true, decide_false, bl_in, rF_t3, rF_t4, rF_0_0, rF_0_1, rF_0_2, rF_0_3, rF_0_4, rF_0_5, rF_0_7, rF_0_8, rF_0_10, rF_0_11, rF_0_12, rF_0_13, rF_0_14, rF_0_15, rF_0_16, rF_1_0, rF_3_0, rF_3_1, rF_3_2, rF_4_3, rF_4_4, rF_7_3, rF_7_4, rF_11_0, rF_11_1, rF_11_2, rF_12_3, rF_12_4, rF_15_3, rF_15_4, rF_19_0, rF_19_1, rF_19_2, rF_19_3, rF_20_0, rF_20_1, rF_20_2, rF_21_3, rF_21_4, rF_24_3, rF_24_4, rF_28_0, rF_28_1, rF_28_2, rF_29_3, rF_29_4, rF_32_3, rF_32_4, rF_36_0, rF_36_1, rF_36_2, rF_37_3, rF_37_4, rF_40_3, rF_40_4, rF_44_0, rF_44_1, rF_44_2, rF_45_3, rF_45_4, rF_48_3, rF_48_4, rF_54_0, rF_54_1, rF_54_2, rF_54_3, rF_54_4, rF_60_0, rF_60_1, rF_60_2, rF_60_3, rF_60_4, rF_66_0, rF_66_1, rF_70_0, rF_70_1, rF_70_2, rF_70_3, rF_70_7, rF_70_8, rF_70_9, rF_71_3, rF_71_4, rF_79_0, rF_79_1, rF_82_0, rF_82_1, rF_82_2, rF_82_3, rF_82_4, rF_86_3, rF_86_4, rF_90_3, rF_90_4, rF_93_1, rF_93_4, rF_93_5, rF_93_6, rF_93_9, rF_93_10, rF_93_11, rF_93_12, rF_93_14, rF_93_15, rF_93_16, rF_93_17, rF_93_20, rF_93_24, rF_93_25, rF_93_26, rF_93_27, rF_93_29, rF_93_31, rF_93_32, rF_93_33, rF_93_34, rF_93_35, rF_93_36, rF_93_37, g.1, g.2, i60, v8', v5', WI, bZ_f, e8, f0, jN_mPn_n, jR_mPn_n, mTh_e_n, jN_mTh_n, jR_mTh_n, jI_mTh_n]
/-- the part's end is written -/
theorem MPo_fin {a : kA} {c c1 : kC} {h : jM} {h1 : jM} {h2 : jM} {q : kQ} {m d mm : Nat} {R : kR} (n1 : cN c1 = cN c + 1) (f : fPc (cN c) h h1) (p : MPo h1 h2 q a m c1 R) (e6 : jI h1 106 = jI h 106) (hd : R.1 = 0 → gdR a c1 d mm R) : MPo h (jsI h2 105 (60 + cN c) (jI h2 93 19)) q a m c (fnE R (cN c)) := by
  obtain ⟨p1, p2, p3, p4⟩ := p
  refine ⟨(f.tr (p1.mo (by omega))).tr (fPc_w (by omega)), g_w p2, fun z => ?_, fun z => ?_⟩
  · rw [fnE_1] at z ⊢
    obtain ⟨i, x⟩ := p3 z
    exact ⟨i, x.w (by omega)⟩
  · obtain ⟨r0, ee⟩ := fnE_0 z
    rw [ee]
    obtain ⟨i, ⟨x, px⟩, rc, b6, e5⟩ := p4 r0
    obtain ⟨-, ⟨i2, i3⟩, -⟩ := hd r0
    rw [n1] at e5 i2
    refine ⟨i, ⟨x.w (by omega), px⟩, RPc.w (c := R.2.1) rc (by omega), ?_, fun j j1 j2 => ?_⟩
    · funext j
      rw [jI_jsI, if_neg (by omega), b6, e6]
    · have j2' : j < cN R.2.1 := j2
      show _ = nI (uN1 (cE R.2.1) (cN c) (cN R.2.1) j)
      by_cases c2 : j = cN c
      · subst c2; rw [u_s, jI_jsI, if_pos ⟨rfl, rfl⟩]; exact rc.1
      · rw [u_n c2, jI_jsI, if_neg (by omega)]; exact e5 j (by omega) j2'
theorem BN.f {mm w : Nat} {h : jM} {h1 : jM} (x : BN h mm w) (e : jI h1 106 = jI h 106) : BN h1 mm w := fun v hv => by
  obtain ⟨b, b1, b2, b3⟩ := x v hv
  exact ⟨b, b1, by rw [e]; exact b2, b3⟩
theorem BN.m {mm w w2 : Nat} {h : jM} (x : BN h mm w) (e : w ≤ w2) : BN h mm w2 := fun v hv => by
  obtain ⟨b, b1, b2, b3⟩ := x v hv
  exact ⟨b, by omega, b2, b3⟩
theorem BN.i {mm w x b : Nat} {h : jM} (y : BN h mm w) (e : jI h 106 x = nI b) (hb : b ≤ w) : BN (jsI h 106 x (nI (b + 1))) (mm ||| 1 <<< x) (w + 1) := fun v hv => by
  by_cases c : v = x
  · subst c
    refine ⟨b + 1, by omega, by rw [jI_jsI, if_pos ⟨rfl, rfl⟩], ?_⟩
    rw [Nat.testBit_or, tb_sh, decide_eq_true rfl, Bool.or_true, decide_eq_true (by omega)]
  · obtain ⟨b', b1, b2, b3⟩ := y v hv
    refine ⟨b', by omega, by rw [jI_jsI, if_neg (by omega)]; exact b2, ?_⟩
    rw [Nat.testBit_or, tb_sh, decide_eq_false (fun z => c z.symm), Bool.or_false]; exact b3
set_option maxRecDepth 100000 in
set_option maxHeartbeats 4000000 in
theorem M_cl0 {a : kA} {q : kQ} {m : Nat} : MCn a q m 0 := by
  intro E w c i mm h hE hw hc hm x r bn
  obtain ⟨E', rfl⟩ : ∃ E', E = E' + 2 := ⟨E - 2, by omega⟩
  unfold rdC
  by_cases s : 3 ≤ rw' a (pt a i) ∧ rw' a (pt a i) ≤ 13
  · rw [if_pos s]; exact M_rc_5 x r hc (by omega) s (Or.inl (by omega))
  · rw [if_neg s]; exact M_rc_n x s
set_option maxRecDepth 100000 in
set_option maxHeartbeats 4000000 in
theorem M_cl {a : kA} {q : kQ} {m : Nat} : ∀ d, MCn a q m d := by
  intro d
  induction d with
  | zero => exact M_cl0
  | succ d ih =>
    intro E w c i mm h hE hw hc hm x r bn
    obtain ⟨E', rfl⟩ : ∃ E', E = E' + 4 := ⟨E - 4, by omega⟩
    rw [rdC_s]
    by_cases s : 3 ≤ rw' a (pt a i) ∧ rw' a (pt a i) ≤ 13
    · rw [if_pos s]
      by_cases n : 60 ≤ cN c
      · rw [if_pos n]; exact M_rc_5 (E := E' + 2) x r hc (by omega) s (Or.inr (by omega))
      · rw [if_neg n]
        obtain ⟨v, hv⟩ : ∃ v, rw' a (pt a i) = v + 2 + 1 := ⟨rw' a (pt a i) - 3, by omega⟩
        have nc : cN c < 60 := by omega
        have w8 : w < 8 := by omega
        have A := fun K => M_rc_a (E := E' + 2) (K := K) x r nc w8 hv (by omega)
        have hk : ¬ kd a (pt a i) = 0 := by rw [rw_k (by omega)]; omega
        have ev : rw' a (pt a i) - 3 = v := by omega
        have g := x.g
        have i1 := x.i
        have im := x.lt hk
        have e7 := x.2.2.2.1.1
        have e19 := r.1
        have hpt := pt_le (a := a) i
        have hp2 := nx_le hpt
        have cl : ∀ v, cN (cAdd c v) = cN c + 1 := fun _ => rfl
        unfold rdB
        rw [ev]
        by_cases va : rw' a (pt a i) ≤ 4
        · rw [if_pos va]
          obtain ⟨h1, r1, o1⟩ := M_at1 (E := E' + 1) (d := d) x r bn nc w8 hk (show v < 2 by omega)
          exact ⟨h1, fun K => by rw [A K, r1 K], o1⟩
        · rw [if_neg va]
          by_cases vb : rw' a (pt a i) ≤ 7
          · rw [if_pos vb]
            obtain ⟨h1, r1, o1⟩ := M_at2 (E := E' + 1) (d := d) x r bn nc w8 hk (show ¬ v < 2 by omega) (by omega)
            exact ⟨h1, fun K => by rw [A K, r1 K], o1⟩
          · rw [if_neg vb]
            have x1 := mOp_RS (n := cN c) (v := v) x im
            have b1 := mOp_B (i := i) (n := cN c) (v := v) bn
            have f1 := mOp_f (h := h) (i := i) (n := cN c) (v := v)
            by_cases vd : rw' a (pt a i) ≤ 10
            · have v5 : 5 ≤ v := by omega
              have v8 : v < 8 := by omega
              have B := fun K => M_s48b (E := E' + 1) (K := K) (w := w) g e7 e19 nc (by omega) v5 v8
              have C := fun K => M_s114 (E := E' + 1) (n := cN c) (w := w) (v := v) (y := nI 0) (K := K) x1.g nc v8 (by omega)
              have x3 := (x1.w (o := 103) (k := 60 + cN c) (y := nI 0) (by omega)).w (o := 104) (k := 60 + cN c) (y := nI 0) (by omega)
              have b3 := (b1.w (o := 103) (k := 60 + cN c) (y := nI 0) (by omega)).w (o := 104) (k := 60 + cN c) (y := nI 0) (by omega)
              have f3 : fPc (cN c) h (jsI (jsI (mOp h i (cN c) v) 103 (60 + cN c) (nI 0)) 104 (60 + cN c) (nI 0)) := (f1.tr (fPc_w (by omega))).tr (fPc_w (by omega))
              have r3 : RPc (jsI (jsI (mOp h i (cN c) v) 103 (60 + cN c) (nI 0)) 104 (60 + cN c) (nI 0)) (cAdd c v) := by
                refine RPc_add (c' := cAdd c v) r rfl (fun j hj => ⟨u_n (by omega), u_n (by omega), u_n (by omega)⟩) u_s u_s u_s ?_ ?_ ?_ ?_ (fun j hj => ⟨?_, ?_, ?_⟩)
                all_goals unfold mOp
                all_goals
                  repeat (first | rw [jI_jsI, if_pos ⟨rfl, rfl⟩] | rw [jI_jsI, if_neg (by omega)])
              have q3 : jI (jsI (jsI (mOp h i (cN c) v) 103 (60 + cN c) (nI 0)) 104 (60 + cN c) (nI 0)) 106 = jI h 106 := by
                unfold mOp
                funext j
                repeat (rw [jI_jsI, if_neg (by omega)])
              have D : ∀ K, jCl (E' + 4) 196 [.ref 93, .int (nI w)] h K = jGo (E' + 1 + 3) 196 (jAt 196 191) [.ref 93, .int (nI w), .int (nI v), .int (nI (60 + cN c))] [] (jsI (jsI (mOp h i (cN c) v) 103 (60 + cN c) (nI 0)) 104 (60 + cN c) (nI 0)) K := fun K => by rw [A K, B K, C K]
              generalize jsI (jsI (mOp h i (cN c) v) 103 (60 + cN c) (nI 0)) 104 (60 + cN c) (nI 0) = h3 at *
              have e8 := x3.2.2.2.1.2
              have ep : pt a (i + 1) = nx a (pt a i) := rfl
              obtain ⟨h4, r4, o4⟩ := ih (E' + 3) (w + 1) (cAdd c v) (i + 1) mm h3 (by omega) (by omega) (by rw [cl]; omega) hm x3 r3 (b3.m (by omega))
              rw [ep] at o4
              by_cases vc : rw' a (pt a i) = 8
              · rw [if_pos vc]
                have v5' : v = 5 := by omega
                subst v5'
                exact ⟨_, fun K => by rw [D K, M_r191 (E := E' + 1) x3.g e8 w8 rfl r4 o4.2.1, M_s229 o4.2.1 nc], MPo_fin (d := d) (mm := mm) (cl _) f3 o4 q3 (fun z => rdC_ok d _ _ _ hp2 (by rw [cl]; omega) z)⟩
              · rw [if_neg vc, if_pos vd]
                by_cases r0 : (rdC a d (cAdd c v) (nx a (pt a i)) mm).1 = 0
                · rw [if_pos r0]
                  have hd1 := rdC_ok d (cAdd c v) (nx a (pt a i)) mm hp2 (by rw [cl]; omega) r0
                  obtain ⟨p1, p2, p3, p4⟩ := o4
                  obtain ⟨i4, ⟨x4, px4⟩, rc4, b64, e54⟩ := p4 r0
                  generalize rdC a d (cAdd c v) (nx a (pt a i)) mm = R at *
                  obtain ⟨l1, ⟨l2, l3⟩, l4, -⟩ := hd1
                  rw [cl] at l2 e54
                  obtain ⟨h5, r5, o5⟩ := ih (E' + 3) (w + 1) R.2.1 i4 mm h4 (by omega) (by omega) l3 hm x4 rc4 ((b3.f b64).m (by omega))
                  rw [px4] at o5
                  have f8 := x4.2.2.2.1.2
                  have Z := fun K => M_r191b (E := E' + 1) (n := cN c) (K := K) x3.g e8 w8 (show 5 < v by omega) v8 r4 p2 f8 r5 o5.2.1
                  have hd2 := fun z => rdC_ok d R.2.1 (nx a R.2.2) mm (nx_le l1) l3 z
                  obtain ⟨s1, s2, s3, s4⟩ := o5
                  generalize rdC a d R.2.1 (nx a R.2.2) mm = Q at *
                  refine ⟨_, fun K => by rw [D K, Z K, M_s229 s2 nc], ((f3.tr (p1.mo (by rw [cl]; omega))).tr (s1.mo (by omega))).tr (fPc_w (by omega)), g_w s2, fun z => ?_, fun z => ?_⟩
                  · rw [fnE_1] at z ⊢
                    obtain ⟨j, xj⟩ := s3 z
                    exact ⟨j, xj.w (by omega)⟩
                  · obtain ⟨u0, ee⟩ := fnE_0 z
                    rw [ee]
                    obtain ⟨j, ⟨xj, pj⟩, rcj, b6j, e5j⟩ := s4 u0
                    obtain ⟨-, ⟨m2, m3⟩, m4, -⟩ := hd2 u0
                    refine ⟨j, ⟨xj.w (by omega), pj⟩, RPc.w (c := Q.2.1) rcj (by omega), ?_, fun t t1 t2 => ?_⟩
                    · funext t
                      rw [jI_jsI, if_neg (by omega), b6j, b64, q3]
                    · have t2' : t < cN Q.2.1 := t2
                      show _ = nI (uN1 (cE Q.2.1) (cN c) (cN Q.2.1) t)
                      by_cases t3 : t = cN c
                      · subst t3; rw [u_s, jI_jsI, if_pos ⟨rfl, rfl⟩]; exact rcj.1
                      · rw [u_n t3, jI_jsI, if_neg (by omega)]
                        by_cases t4 : t < cN R.2.1
                        · rw [(s1.2 t t4).2, (m4.2 t (Nat.zero_le _) t4).2.2.2]; exact e54 t (by omega) t4
                        · exact e5j t (by omega) t2'
                · rw [if_neg r0]
                  obtain ⟨p1, p2, p3, p4⟩ := o4
                  obtain ⟨j, xj⟩ := p3 r0
                  have f8 := xj.2.2.2.1.2
                  have fl := xj.2.2.2.2.2.1
                  exact ⟨_, fun K => by rw [D K, M_r191a (E := E' + 1) x3.g e8 w8 (show 5 < v by omega) v8 r4 p2 f8 r0 fl, M_s229 p2 nc], (f3.tr (p1.mo (by rw [cl]; omega))).tr (fPc_w (by omega)), g_w p2, fun _ => ⟨j, xj.w (by omega)⟩, fun z => absurd z r0⟩
            · rw [if_neg (by omega), if_neg vd]
              have v8 : 8 ≤ v := by omega
              have ep : pt a (i + 1) = nx a (pt a i) := rfl
              by_cases f : 14 ≤ rw' a (nx a (pt a i))
              · rw [if_pos f]
                have TA := fun K => M_ta1 (d := E' + 1) (K := K) x1 (by rw [ep]; exact f)
                rw [ep] at TA
                have im2 := x1.lt (by rw [ep, rw_k (by omega)]; omega)
                obtain ⟨z1, z2⟩ := rw_v f
                generalize vr a (nx a (pt a i)) = y at *
                have x2 := x1.n (j := i + 1 + 1) (by omega)
                have B := fun K => M_s48c (E := E' + 1) (K := K) (w := w) g e7 e19 nc (by omega) (by omega) v8 TA x2.g
                have b2 := b1.w (o := 93) (k := 7) (y := nI (i + 1 + 1)) (by omega)
                obtain ⟨bb, bb1, bb2, bb3⟩ := b2 y z2
                have x3 := ((x2.w (o := 103) (k := 60 + cN c) (y := nI y) (by omega)).w (o := 104) (k := 60 + cN c) (y := nI 0) (by omega)).w (o := 106) (k := y) (y := nI (bb + 1)) (by omega)
                have b3 := ((b2.w (o := 103) (k := 60 + cN c) (y := nI y) (by omega)).w (o := 104) (k := 60 + cN c) (y := nI 0) (by omega)).i (x := y) (b := bb) (by rw [jI_jsI, if_neg (by omega), jI_jsI, if_neg (by omega)]; exact bb2) bb1
                have f3 : fPc (cN c) h (jsI (jsI (jsI (jsI (mOp h i (cN c) v) 93 7 (nI (i + 1 + 1))) 103 (60 + cN c) (nI y)) 104 (60 + cN c) (nI 0)) 106 y (nI (bb + 1))) := (((f1.tr (fPc_w (by omega))).tr (fPc_w (by omega))).tr (fPc_w (by omega))).tr (fPc_w (by omega))
                have r3 : RPc (jsI (jsI (jsI (jsI (mOp h i (cN c) v) 93 7 (nI (i + 1 + 1))) 103 (60 + cN c) (nI y)) 104 (60 + cN c) (nI 0)) 106 y (nI (bb + 1))) (cSA (cAdd c v) (cN c) y) := by
                  refine RPc_add (c' := cSA (cAdd c v) (cN c) y) r rfl (fun j hj => ⟨u_n (by omega), (u_n (by omega)).trans (u_n (by omega)), u_n (by omega)⟩) u_s u_s u_s ?_ ?_ ?_ ?_ (fun j hj => ⟨?_, ?_, ?_⟩)
                  all_goals unfold mOp
                  all_goals
                    repeat (first | rw [jI_jsI, if_pos ⟨rfl, rfl⟩] | rw [jI_jsI, if_neg (by omega)])
                have q3 : ∀ t, jI (jsI (jsI (jsI (jsI (mOp h i (cN c) v) 93 7 (nI (i + 1 + 1))) 103 (60 + cN c) (nI y)) 104 (60 + cN c) (nI 0)) 106 y (nI (bb + 1))) 106 t = if t = y then nI (bb + 1) else jI h 106 t := fun t => by
                  unfold mOp
                  by_cases tt : t = y
                  · subst tt; rw [if_pos rfl, jI_jsI, if_pos ⟨rfl, rfl⟩]
                  · rw [if_neg tt]; repeat (rw [jI_jsI, if_neg (by omega)])
                have k3 : jI (jsI (jsI (jsI (jsI (mOp h i (cN c) v) 93 7 (nI (i + 1 + 1))) 103 (60 + cN c) (nI y)) 104 (60 + cN c) (nI 0)) 106 y (nI (bb + 1))) 103 (60 + cN c) = nI y := by
                  rw [jI_jsI, if_neg (by omega), jI_jsI, if_neg (by omega), jI_jsI, if_pos ⟨rfl, rfl⟩]
                have hb0 : jI h 106 y = nI bb := by
                  have := bb2
                  unfold mOp at this
                  rw [jI_jsI, if_neg (by omega), jI_jsI, if_neg (by omega), jI_jsI, if_neg (by omega), jI_jsI, if_neg (by omega)] at this
                  exact this
                have e8 := x2.2.2.2.1.2
                have cl2 : cN (cSA (cAdd c v) (cN c) y) = cN c + 1 := rfl
                have m16 : mm ||| 1 <<< y < 16 := or16 hm (sh16 z2)
                have ep3 : pt a (i + 1 + 1) = nx a (nx a (pt a i)) := rfl
                obtain ⟨h4, r4, o4⟩ := ih (E' + 3) (w + 1) (cSA (cAdd c v) (cN c) y) (i + 1 + 1) (mm ||| 1 <<< y) _ (by omega) (by omega) (by rw [cl2]; omega) m16 x3 r3 b3
                rw [ep3] at o4
                obtain ⟨p1, p2, p3, p4⟩ := o4
                have k4 : jI h4 103 (60 + cN c) = nI y := by rw [(p1.2 (cN c) (by rw [cl2]; omega)).1]; exact k3
                have Z := fun K => M_r114 (E := E' + 1) (K := K) (v := v) x2.g nc z2 w8 v8 (by omega) e8 bb2 (by omega) r4 p2 k4 rfl
                have g5 : gH (jsI h4 106 y (jI h4 106 y - nI 1)) q := g_w p2
                have hd := fun z => rdC_ok d (cSA (cAdd c v) (cN c) y) (nx a (nx a (pt a i))) (mm ||| 1 <<< y) (nx_le hp2) (by rw [cl2]; omega) z
                generalize rdC a d (cSA (cAdd c v) (cN c) y) (nx a (nx a (pt a i))) (mm ||| 1 <<< y) = R at *
                refine ⟨_, fun K => by rw [A K, B K, Z K, M_s229 g5 nc], ((f3.tr (p1.mo (by rw [cl2]; omega))).tr (fPc_w (by omega))).tr (fPc_w (by omega)), g_w g5, fun z => ?_, fun z => ?_⟩
                · rw [fnE_1] at z ⊢
                  obtain ⟨j, xj⟩ := p3 z
                  exact ⟨j, (xj.w (by omega)).w (by omega)⟩
                · obtain ⟨u0, ee⟩ := fnE_0 z
                  rw [ee]
                  obtain ⟨j, ⟨xj, pj⟩, rcj, b6j, e5j⟩ := p4 u0
                  obtain ⟨-, ⟨m2, m3⟩, -⟩ := hd u0
                  rw [cl2] at e5j m2
                  refine ⟨j, ⟨(xj.w (by omega)).w (by omega), pj⟩, (RPc.w (c := R.2.1) (rcj.w (by omega)) (by omega)), ?_, fun t t1 t2 => ?_⟩
                  · funext t
                    rw [jI_jsI, if_neg (by omega)]
                    by_cases tt : t = y
                    · subst tt
                      rw [jI_jsI, if_pos ⟨rfl, rfl⟩, b6j, q3, if_pos rfl, hb0, i_sub (by omega), show bb + 1 - 1 = bb by omega]
                    · rw [jI_jsI, if_neg (by omega), b6j, q3, if_neg tt]
                  · have t2' : t < cN R.2.1 := t2
                    show _ = nI (uN1 (cE R.2.1) (cN c) (cN R.2.1) t)
                    by_cases t3 : t = cN c
                    · subst t3; rw [u_s, jI_jsI, if_pos ⟨rfl, rfl⟩, jI_jsI, if_neg (by omega)]; exact rcj.1
                    · rw [u_n t3, jI_jsI, if_neg (by omega), jI_jsI, if_neg (by omega)]
                      exact e5j t (by omega) t2'
              · rw [if_neg f]
                have TA := fun K => M_ta0 (d := E' + 1) (K := K) x1 (by rw [ep]; exact f)
                rw [ep] at TA
                have fl := er_lt (w := 1) x1 (by omega)
                rw [ep] at fl
                have f0 : ¬ er 1 (nx a (pt a i)) = 0 := er_0 (by omega)
                have x2 := (x1.e fl).n (j := i + 1) (by omega)
                have B := fun K => M_s48c (E := E' + 1) (K := K) (w := w) g e7 e19 nc (by omega) (by omega) v8 TA x2.g
                have Z := fun K => M_r114f (E := E' + 1) (n := cN c) (w := w) (v := v) (K := K) x2.g nc v8 (by omega) x2.2.2.2.1.2 f0 fl
                have g3 : gH (jsI (jsI (jsI (jsI (mOp h i (cN c) v) 93 8 (nI (er 1 (nx a (pt a i))))) 93 7 (nI (i + 1))) 103 (60 + cN c) (nI 0)) 104 (60 + cN c) (nI 0)) q := g_w (g_w x2.g)
                exact ⟨_, fun K => by rw [A K, B K, Z K, M_s229 g3 nc], ((((f1.tr (fPc_w (by omega))).tr (fPc_w (by omega))).tr (fPc_w (by omega))).tr (fPc_w (by omega))).tr (fPc_w (by omega)), g_w g3, fun _ => ⟨i + 1, ((x2.w (by omega)).w (by omega)).w (by omega)⟩, fun y => absurd y f0⟩
    · rw [if_neg s]; exact M_rc_n (E := E' + 2) x s
