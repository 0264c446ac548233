/-! pairs laid and taken -/
theorem eq16 {a b : Nat} (ha : a < 16) (hb : b < 16) (h : ∀ i, i < 4 → a.testBit i = b.testBit i) : a = b := by
  apply Nat.eq_of_testBit_eq
  intro i
  by_cases hi : i < 4
  · exact h i hi
  · rw [Nat.testBit_lt_two_pow (Nat.lt_of_lt_of_le ha (Nat.pow_le_pow_right (n := 2) (i := 4) (by decide) (by omega))), Nat.testBit_lt_two_pow (Nat.lt_of_lt_of_le hb (Nat.pow_le_pow_right (n := 2) (i := 4) (by decide) (by omega)))]
theorem tb_sh {f i : Nat} : (1 <<< f).testBit i = decide (f = i) := by rw [Nat.one_shiftLeft, Nat.testBit_two_pow]
theorem uN1_s {p : Nat → Nat} {k : Nat} {v : Nat} : uN1 p k v k = v := if_pos rfl
theorem uN1_n {p : Nat → Nat} {k : Nat} {v : Nat} {i : Nat} (h : i ≠ k) : uN1 p k v i = p i := if_neg h
theorem pLk_0 {p : Nat → Nat} {w : Nat} : pLk p w = 0 ↔ ∀ i, i < 4 → p i ≠ w + 1 := by
  unfold pLk
  constructor
  · intro e i hi
    match i, hi with
    | 0, _ => intro q; simp [q] at e
    | 1, _ => intro q; simp [q] at e; split at e <;> simp at e
    | 2, _ => intro q; simp [q] at e; split at e <;> try simp at e
              split at e <;> simp at e
    | 3, _ => intro q; simp [q] at e; split at e <;> try simp at e
              split at e <;> try simp at e
              split at e <;> simp at e
  · intro e
    rw [if_neg (e 0 (by omega)), if_neg (e 1 (by omega)), if_neg (e 2 (by omega)), if_neg (e 3 (by omega))]
theorem pLk_u {p : Nat → Nat} {f : Nat} {o : Nat} {w : Nat} (hf : f < 4) (h0 : p f = 0) : pLk (uN1 p f (o + 1)) w = 0 ↔ pLk p w = 0 ∧ w ≠ o := by
  rw [pLk_0, pLk_0]
  constructor
  · intro e
    refine ⟨fun i hi => ?_, ?_⟩
    · by_cases c : i = f
      · subst c; rw [h0]; omega
      · have := e i hi; rw [uN1_n c] at this; exact this
    · intro q; subst q; exact e f hf uN1_s
  · rintro ⟨e, e2⟩ i hi
    by_cases c : i = f
    · subst c; rw [uN1_s]; omega
    · rw [uN1_n c]; exact e i hi
theorem pD_u {p : Nat → Nat} {f : Nat} {v : Nat} (hf : f < 4) : pD (uN1 p f (v + 1)) = pD p ||| 1 <<< f := by
  refine eq16 pD_16 (or16 pD_16 (sh16 hf)) (fun i hi => ?_)
  rw [pD_bit hi, Nat.testBit_or, pD_bit hi, tb_sh]
  by_cases c : i = f
  · subst c; simp [uN1_s]
  · rw [uN1_n c]; have : ¬ f = i := fun q => c q.symm
    simp [this]
theorem pR_u {p : Nat → Nat} {f : Nat} {o : Nat} (hf : f < 4) (ho : o < 4) (h0 : p f = 0) : pR (uN1 p f (o + 1)) = pR p ||| 1 <<< o := by
  refine eq16 pR_16 (or16 pR_16 (sh16 ho)) (fun i hi => ?_)
  rw [pR_bit hi, Nat.testBit_or, pR_bit hi, tb_sh]
  have := pLk_u (o := o) (w := i) hf h0
  by_cases c : o = i
  · subst c
    have e : ¬ pLk (uN1 p f (o + 1)) o = 0 := fun q => (this.mp q).2 rfl
    simp [e]
  · have e : (pLk (uN1 p f (o + 1)) i = 0) = (pLk p i = 0) := propext ⟨fun q => (this.mp q).1, fun q => this.mpr ⟨q, fun z => c z.symm⟩⟩
    simp [e, c]
theorem k4c {f : Nat} (hf : f < 4) : f = 0 ∨ f = 1 ∨ f = 2 ∨ f = 3 := by omega
theorem pC_u {p : Nat → Nat} {f : Nat} {v : Nat} (hf : f < 4) (h0 : p f = 0) : pC (uN1 p f v) = pC p + 5 ^ f * v := by
  rcases k4c hf with rfl | rfl | rfl | rfl <;> simp [pC, uN1, h0] <;> omega
/-- the pair of f is taken away -/
theorem pD_t {p : Nat → Nat} {f : Nat} (hf : f < 4) : pD (uN1 p f 0) = pD p &&& (15 ^^^ 1 <<< f) := by
  refine eq16 pD_16 (Nat.lt_of_le_of_lt Nat.and_le_left pD_16) (fun i hi => ?_)
  rw [pD_bit hi, Nat.testBit_and, pD_bit hi, Nat.testBit_xor, tb_sh]
  have e : (15 : Nat).testBit i = true := by rcases k4c hi with rfl | rfl | rfl | rfl <;> rfl
  rw [e]
  by_cases c : i = f
  · subst c; simp [uN1_s]
  · rw [uN1_n c]; have : ¬ f = i := fun q => c q.symm
    simp [this]
theorem pR_t {p : Nat → Nat} {f : Nat} {o : Nat} {T : kT} {U : kT} (hv : pv T U p) (hf : f < 4) (ho : o < 4) (h0 : p f = o + 1) : pR (uN1 p f 0) = pR p &&& (15 ^^^ 1 <<< o) := by
  refine eq16 pR_16 (Nat.lt_of_le_of_lt Nat.and_le_left pR_16) (fun i hi => ?_)
  rw [pR_bit hi, Nat.testBit_and, pR_bit hi, Nat.testBit_xor, tb_sh]
  have e : (15 : Nat).testBit i = true := by rcases k4c hi with rfl | rfl | rfl | rfl <;> rfl
  rw [e]
  by_cases c : o = i
  · subst c
    have e1 : pLk (uN1 p f 0) o = 0 := by
      rw [pLk_0]; intro j hj
      by_cases c2 : j = f
      · subst c2; rw [uN1_s]; omega
      · rw [uN1_n c2]; intro q; exact hv.2.2 f j hf hj (fun z => c2 z.symm) (by omega) (by omega)
    simp [e1]
  · have e1 : (pLk (uN1 p f 0) i = 0) = (pLk p i = 0) := by
      rw [pLk_0, pLk_0]
      apply propext
      constructor
      · intro z j hj
        by_cases c2 : j = f
        · subst c2; rw [h0]; omega
        · have := z j hj; rw [uN1_n c2] at this; exact this
      · intro z j hj
        by_cases c2 : j = f
        · subst c2; rw [uN1_s]; omega
        · rw [uN1_n c2]; exact z j hj
    simp [e1, c]
theorem pC_t {p : Nat → Nat} {f : Nat} (hf : f < 4) : pC (uN1 p f 0) + 5 ^ f * p f = pC p := by
  rcases k4c hf with rfl | rfl | rfl | rfl <;> simp [pC, uN1] <;> omega
theorem pv_u {T : kT} {U : kT} {p : Nat → Nat} {f : Nat} {o : Nat} (hv : pv T U p) (hf : f < tF T) (ho : o < tF U) (h1 : pLk p o = 0) : pv T U (uN1 p f (o + 1)) := by
  rw [pLk_0] at h1
  refine ⟨fun i hi => ?_, fun i hi h => ?_, fun i j hi hj hne h => ?_⟩
  · by_cases c : i = f
    · subst c; rw [uN1_s]; omega
    · rw [uN1_n c]; exact hv.1 i hi
  · rw [uN1_n (by omega)]; exact hv.2.1 i hi h
  · by_cases c : i = f
    · subst c; rw [uN1_s, uN1_n (fun z => hne z.symm)]; exact fun q => h1 j hj q.symm
    · rw [uN1_n c] at h ⊢
      by_cases c2 : j = f
      · subst c2; rw [uN1_s]; exact h1 i hi
      · rw [uN1_n c2]; exact hv.2.2 i j hi hj hne h
theorem pv_t {T : kT} {U : kT} {p : Nat → Nat} {f : Nat} (hv : pv T U p) : pv T U (uN1 p f 0) := by
  refine ⟨fun i hi => ?_, fun i hi h => ?_, fun i j hi hj hne h => ?_⟩
  · by_cases c : i = f
    · subst c; rw [uN1_s]; omega
    · rw [uN1_n c]; exact hv.1 i hi
  · by_cases c : i = f
    · subst c; rw [uN1_s]
    · rw [uN1_n c]; exact hv.2.1 i hi h
  · by_cases c : i = f
    · subst c; rw [uN1_s] at h; exact absurd rfl h
    · rw [uN1_n c] at h ⊢
      by_cases c2 : j = f
      · subst c2; rw [uN1_s]; exact h
      · rw [uN1_n c2]; exact hv.2.2 i j hi hj hne h
theorem uN1_back {p : Nat → Nat} {f : Nat} {v : Nat} (h : p f = 0) : uN1 (uN1 p f v) f 0 = p := by
  funext i
  by_cases c : i = f
  · subst c; rw [uN1_s, h]
  · rw [uN1_n c, uN1_n c]
/-- the board's memory: all but pairs stays -/
def fP (h h' : jM) : Prop := fI [70, 74, 75] h h' ∧ ∀ k, k ≠ 4 → jI h' 70 k = jI h 70 k
theorem fP.rf {h : jM} : fP h h := ⟨fI.rf, fun _ _ => rfl⟩
theorem fP.tr {h : jM} {h1 : jM} {h2 : jM} (a : fP h h1) (b : fP h1 h2) : fP h h2 := ⟨a.1.tr b.1, fun k hk => (b.2 k hk).trans (a.2 k hk)⟩
def mPl (h : jM) (p : Nat → Nat) (f o : Nat) : jM := jsI (jsI (jsI (jsI h 70 4 (nI (pC p + 5 ^ f * (o + 1)))) 74 f (nI o)) 75 0 (nI (pD p ||| 1 <<< f))) 75 1 (nI (pR p ||| 1 <<< o))
set_option maxRecDepth 100000 in
set_option maxHeartbeats 4000000 in
theorem B_place {d : Nat} {h : jM} {q : kQ} {T : kT} {U : kT} {p : Nat → Nat} {K : Option Value → jM → Prop} {f : Nat} {o : Nat} (b : BD h q T U p) (hf : f < 4) (ho : o < 4) : jCl d 11 [.ref 70, .int (nI f), .int (nI o)] h K = K none (mPl h p f o) := by
  have g := b.g
  have f4 : ¬ 4 ≤ f := by omega
  have o4 : ¬ 4 ≤ o := by omega
  have c := b.c
  simp (disch := omega) only [jMI_i, jML_l, jMA_a, jSum_n, jSum_i, jSum_a, jSum_l, jGet_0, jPut_0, jGet_1, jPut_1i, jPut_1a, jPut_1n, jPut_1l, jGet_2, jPut_2i, jPut_2a, jPut_2n, jPut_2l, jGet_3, jPut_3i, jPut_3a, jPut_3n, jPut_3l, jGet_4, jPut_4i, jPut_4a, jPut_4n, jPut_4l, jGet_5, jPut_5i, jPut_5a, jPut_5n, jPut_5l, jGet_6, jPut_6i, jPut_6a, jPut_6n, jPut_6l, jGet_7, jPut_7i, jPut_7a, jPut_7n, jPut_7l, jGet_8, jPut_8i, jPut_8a, jPut_8n, jPut_8l, jGet_9, jPut_9i, jPut_9a, jPut_9n, jPut_9l, jGet_10, jPut_10i, jPut_10a, jPut_10n, jPut_10l, jGet_11, jPut_11i, jPut_11a, jPut_11n, jPut_11l, jGet_12, jPut_12i, jPut_12a, jPut_12n, jPut_12l, jPut2_e, jSet_1, jSet_2, jSet_3, jSet_4, jSet_5, jSet_6, jSet_7, jSet_8, jSet_9, jSet_10, jSet_11, jSet_12, go_bipush_m2, go_bipush_10, go_bipush_11, go_bipush_12, go_bipush_120, go_bipush_122, go_bipush_126, go_bipush_127, go_bipush_13, go_bipush_14, go_bipush_15, go_bipush_16, go_bipush_17, go_bipush_20, go_bipush_21, go_bipush_22, go_bipush_24, go_bipush_25, go_bipush_26, go_bipush_29, go_bipush_30, go_bipush_32, go_bipush_40, go_bipush_44, go_bipush_48, go_bipush_56, go_bipush_57, go_bipush_59, go_bipush_6, go_bipush_60, go_bipush_63, go_bipush_64, go_bipush_7, go_bipush_75, go_bipush_8, go_bipush_9, go_bipush_96, go_bipush_97, go_bipush_99, go_iconst_m1, go_iconst_0, go_iconst_1, go_iconst_2, go_iconst_3, go_iconst_4, go_iconst_5, go_iinc_m1, go_iinc_m8, go_iinc_1, go_iinc_7, go_sipush_1000, go_sipush_1002, go_sipush_128, go_sipush_132, go_sipush_185, go_sipush_2040, go_sipush_2047, go_sipush_240, go_sipush_255, go_sipush_289, go_sipush_4913, go_sipush_609, go_sipush_625, go_sipush_638, go_sipush_9999, go_lconst_0, go_lconst_1, go_ldc, go_ldcs, go_ldcw, go_ldc2_0, go_ldc2_1, go_ldc2_2, go_ldc2_3, go_ldc2_4, go_ldc2_5, go_ldc2_6, go_ldc2_7, go_ldc2_8, go_ldc2_9, go_ldc2_10, go_ldc2_11, go_ldc2_12, go_ldc2_13, go_ldc2_14, go_ldc2_15, go_ldc2_16, go_ldc2_17, go_ldc2_18, go_ldc2_19, go_ldc2_20, go_ldc2_21, go_ldc2_22, go_ldc2_23, go_ldc2_24, go_ldc2_25, go_ldc2_26, go_ldc2_27, go_ldc2_28, go_ldc2_29, go_ldc2_30, go_ldc2_31, go_ldc2_32, go_ldc2_33, go_ldc2_34, go_ldc2_35, jCI_0, jCI_1, jCI_2, jCI_3, go_iload, go_iload_n, go_lload, go_lload_n, go_aload, go_aload_n, go_istore, go_istore_n, go_lstore, go_lstore_n, go_astore, go_astore_n, go_iadd, go_isub, go_imul, go_iand, go_ior, go_ixor, go_ishl, go_ishr, go_iushr, go_idiv, go_irem, go_ldiv, go_lrem, go_ineg, go_i2l, go_i2c, go_l2i, go_ladd, go_lsub, go_lmul, go_land, go_lor, go_lxor, go_lcmp, go_lshl, go_lshr, go_lushr, go_dup_i, go_dup_a, go_pop_i, go_pop_a, go_dup2, go_getstatic, go_getf_i, go_getf_z, go_getf_l, go_getf_a, go_putf_i, go_putf_l, go_putf_z, go_putf_a, go_iald, go_iald1, go_iald2, go_alen, go_alen2, go_cald, go_bald, go_lald, go_aald, go_iast, go_cast, go_bast, go_last, go_aast, go_new, go_newa, go_anew, go_objinit, go_max, go_min, go_strlen, go_charat, go_acopy, go_rests, go_goto, go_if_eq, go_ic_eq, go_if_ne, go_ic_ne, go_if_lt, go_ic_lt, go_if_ge, go_ic_ge, go_if_gt, go_ic_gt, go_if_le, go_ic_le, go_sw, go_ret, go_lret, go_aret, Nat.reduceAdd, Nat.reduceLT, Nat.reduceLeDiff, Nat.reduceEqDiff, Nat.reduceSub, and_true, true_and, if_true, if_false, and_self, Option.toList_some, Option.toList_none, List.cons_append, List.nil_append, List.length_cons, List.length_nil, Fin.isValue, Fin.reduceFinMk, Fin.val_zero, Fin.val_one, Fin.val_two, jFin3, jI_jsI, jI_jsL, jI_jsR, jL_jsI, jL_jsL, jL_jsR, jR_jsI, jR_jsL, jR_jsR, jN_jsI, jN_jsL, jN_jsR, jXn_jsI, jXn_jsL, jXn_jsR, jXs_jsI, jXs_jsL, jXs_jsR, jEx_jsI, jEx_jsL, jEx_jsR, jI_jXp, jL_jXp, jR_jXp, jN_jXp, jXn_jXp, jXs_jXp, jEx_jXp, jb_11_0, jb_11_18, jb_11_19, en_11, js_0, js_1, js_2, js_3, js_4, js_5, js_6, js_7, js_8, js_9, js_10, js_11, js_12, js_13, js_14, js_15, js_16, js_17, js_18, js_19, js_20, js_21, js_22, js_23, js_24, js_25, js_26, js_27, js_28, js_29, js_30, js_31, js_32, js_33, js_34, js_35, js_36, js_37, js_38, js_39, js_40, js_41, js_42, js_43, js_44, js_45, js_46, js_47, js_48, js_49, js_50, js_51, js_52, js_53, js_54, js_55, js_56, js_57, js_58, js_59, js_60, js_61, js_62, js_63, js_64, js_65, js_66, js_67, js_68, js_69, js_70, js_71, js_72, js_73, js_74, js_75, js_76, js_77, js_78, js_79, js_80, js_81, js_82, js_83, js_84, js_85, js_86, js_87, js_88, js_89, js_90, js_91, js_92, js_93, js_94, js_95, js_96, js_97, js_98, js_99, js_100, js_101, js_102, js_103, js_104, js_105, js_106, js_107, js_108, js_109, js_110, js_111, js_112, js_113, js_114, js_115, js_116, js_117, js_118, js_119, lit_I, neg_1, jCl_nI, i_lt, i_le, i_eq, i_sub, i_div, n_rem, i_and31, i_shl, i_shr, i_bit, bI_1, bI_0, bI_2, bZ_1, bZ_0, bZ_in, bZ_2, nO_lt, nO_gt, nO_le, nO_ge, nO_eq, nO_qe, nO_self, nO_sele, nO_add, pI_0, pI_s, pI_nO, pI_lt0, pI_ge0, pI_eq, pI_add, nI_add, pk_mul, nx_and, fa_or, fb_xorI, Nat.reduceMul, Nat.reduceDiv, Nat.reduceMod, Nat.reducePow, Nat.reduceAnd, Nat.reduceOr, Nat.reduceXor, Nat.reduceShiftLeft, Nat.reduceShiftRight, eq_self, not_true_eq_false, not_false_eq_true, or_false, false_or, or_true, true_or, and_false, false_and, ↓reduceIte, Nat.zero_add, Nat.add_zero, Nat.not_lt_zero, Nat.zero_le, Bool.true_eq_false, Bool.false_eq_true, decide_true, decide_false, bl_in, rF_t3, rF_t4, rF_0_0, rF_0_1, rF_0_2, rF_0_3, rF_0_4, rF_0_5, rF_0_7, rF_0_8, rF_0_10, rF_0_11, rF_0_12, rF_0_13, rF_0_14, rF_0_15, rF_0_16, rF_1_0, rF_3_0, rF_3_1, rF_3_2, rF_4_3, rF_4_4, rF_7_3, rF_7_4, rF_11_0, rF_11_1, rF_11_2, rF_12_3, rF_12_4, rF_15_3, rF_15_4, rF_19_0, rF_19_1, rF_19_2, rF_19_3, rF_20_0, rF_20_1, rF_20_2, rF_21_3, rF_21_4, rF_24_3, rF_24_4, rF_28_0, rF_28_1, rF_28_2, rF_29_3, rF_29_4, rF_32_3, rF_32_4, rF_36_0, rF_36_1, rF_36_2, rF_37_3, rF_37_4, rF_40_3, rF_40_4, rF_44_0, rF_44_1, rF_44_2, rF_45_3, rF_45_4, rF_48_3, rF_48_4, rF_54_0, rF_54_1, rF_54_2, rF_54_3, rF_54_4, rF_60_0, rF_60_1, rF_60_2, rF_60_3, rF_60_4, rF_66_0, rF_66_1, rF_70_0, rF_70_1, rF_70_2, rF_70_3, rF_70_7, rF_70_8, rF_70_9, rF_71_3, rF_71_4, rF_79_0, rF_79_1, rF_82_0, rF_82_1, rF_82_2, rF_82_3, rF_82_4, rF_86_3, rF_86_4, rF_90_3, rF_90_4, rF_93_1, rF_93_4, rF_93_5, rF_93_6, rF_93_9, rF_93_10, rF_93_11, rF_93_12, rF_93_14, rF_93_15, rF_93_16, rF_93_17, rF_93_20, rF_93_24, rF_93_25, rF_93_26, rF_93_27, rF_93_29, rF_93_31, rF_93_32, rF_93_33, rF_93_34, rF_93_35, rF_93_36, rF_93_37, g.1, g.2, c, dg_k f hf, f4, o4, ho, mPl]
def mTk (h : jM) (p : Nat → Nat) (f o : Nat) : jM := jsI (jsI (jsI (jsI h 70 4 (nI (pC p - 5 ^ f * (o + 1)))) 74 f nO) 75 0 (nI (pD p &&& (15 ^^^ 1 <<< f)))) 75 1 (nI (pR p &&& (15 ^^^ 1 <<< o)))
theorem cl16 : ∀ a, a < 16 → ∀ k, k < 4 → nI a &&& (nI (1 <<< k) ^^^ nO) = nI (a &&& (15 ^^^ 1 <<< k)) := by decide +kernel
set_option maxRecDepth 100000 in
set_option maxHeartbeats 4000000 in
theorem B_take {d : Nat} {h : jM} {q : kQ} {T : kT} {U : kT} {p : Nat → Nat} {K : Option Value → jM → Prop} {f : Nat} {o : Nat} (b : BD h q T U p) (hf : f < 4) (h0 : p f = o + 1) : jCl d 12 [.ref 70, .int (nI f)] h K = K none (mTk h p f o) := by
  have g := b.g
  have f4 : ¬ 4 ≤ f := by omega
  have l := b.le hf
  have o4 : o < 4 := by omega
  have c := b.c
  have e1 := pC_t (p := p) hf
  rw [h0] at e1
  have e2 : 5 ^ f * (o + 1) ≤ pC p := by omega
  have e3 := b.p hf
  rw [h0, pI_s] at e3
  have e4 : nI (pC p) - nI (5 ^ f * (o + 1)) = nI (pC p - 5 ^ f * (o + 1)) := i_sub e2
  clear e1 e2 l
  simp (disch := omega) only [jMI_i, jML_l, jMA_a, jSum_n, jSum_i, jSum_a, jSum_l, jGet_0, jPut_0, jGet_1, jPut_1i, jPut_1a, jPut_1n, jPut_1l, jGet_2, jPut_2i, jPut_2a, jPut_2n, jPut_2l, jGet_3, jPut_3i, jPut_3a, jPut_3n, jPut_3l, jGet_4, jPut_4i, jPut_4a, jPut_4n, jPut_4l, jGet_5, jPut_5i, jPut_5a, jPut_5n, jPut_5l, jGet_6, jPut_6i, jPut_6a, jPut_6n, jPut_6l, jGet_7, jPut_7i, jPut_7a, jPut_7n, jPut_7l, jGet_8, jPut_8i, jPut_8a, jPut_8n, jPut_8l, jGet_9, jPut_9i, jPut_9a, jPut_9n, jPut_9l, jGet_10, jPut_10i, jPut_10a, jPut_10n, jPut_10l, jGet_11, jPut_11i, jPut_11a, jPut_11n, jPut_11l, jGet_12, jPut_12i, jPut_12a, jPut_12n, jPut_12l, jPut2_e, jSet_1, jSet_2, jSet_3, jSet_4, jSet_5, jSet_6, jSet_7, jSet_8, jSet_9, jSet_10, jSet_11, jSet_12, go_bipush_m2, go_bipush_10, go_bipush_11, go_bipush_12, go_bipush_120, go_bipush_122, go_bipush_126, go_bipush_127, go_bipush_13, go_bipush_14, go_bipush_15, go_bipush_16, go_bipush_17, go_bipush_20, go_bipush_21, go_bipush_22, go_bipush_24, go_bipush_25, go_bipush_26, go_bipush_29, go_bipush_30, go_bipush_32, go_bipush_40, go_bipush_44, go_bipush_48, go_bipush_56, go_bipush_57, go_bipush_59, go_bipush_6, go_bipush_60, go_bipush_63, go_bipush_64, go_bipush_7, go_bipush_75, go_bipush_8, go_bipush_9, go_bipush_96, go_bipush_97, go_bipush_99, go_iconst_m1, go_iconst_0, go_iconst_1, go_iconst_2, go_iconst_3, go_iconst_4, go_iconst_5, go_iinc_m1, go_iinc_m8, go_iinc_1, go_iinc_7, go_sipush_1000, go_sipush_1002, go_sipush_128, go_sipush_132, go_sipush_185, go_sipush_2040, go_sipush_2047, go_sipush_240, go_sipush_255, go_sipush_289, go_sipush_4913, go_sipush_609, go_sipush_625, go_sipush_638, go_sipush_9999, go_lconst_0, go_lconst_1, go_ldc, go_ldcs, go_ldcw, go_ldc2_0, go_ldc2_1, go_ldc2_2, go_ldc2_3, go_ldc2_4, go_ldc2_5, go_ldc2_6, go_ldc2_7, go_ldc2_8, go_ldc2_9, go_ldc2_10, go_ldc2_11, go_ldc2_12, go_ldc2_13, go_ldc2_14, go_ldc2_15, go_ldc2_16, go_ldc2_17, go_ldc2_18, go_ldc2_19, go_ldc2_20, go_ldc2_21, go_ldc2_22, go_ldc2_23, go_ldc2_24, go_ldc2_25, go_ldc2_26, go_ldc2_27, go_ldc2_28, go_ldc2_29, go_ldc2_30, go_ldc2_31, go_ldc2_32, go_ldc2_33, go_ldc2_34, go_ldc2_35, jCI_0, jCI_1, jCI_2, jCI_3, go_iload, go_iload_n, go_lload, go_lload_n, go_aload, go_aload_n, go_istore, go_istore_n, go_lstore, go_lstore_n, go_astore, go_astore_n, go_iadd, go_isub, go_imul, go_iand, go_ior, go_ixor, go_ishl, go_ishr, go_iushr, go_idiv, go_irem, go_ldiv, go_lrem, go_ineg, go_i2l, go_i2c, go_l2i, go_ladd, go_lsub, go_lmul, go_land, go_lor, go_lxor, go_lcmp, go_lshl, go_lshr, go_lushr, go_dup_i, go_dup_a, go_pop_i, go_pop_a, go_dup2, go_getstatic, go_getf_i, go_getf_z, go_getf_l, go_getf_a, go_putf_i, go_putf_l, go_putf_z, go_putf_a, go_iald, go_iald1, go_iald2, go_alen, go_alen2, go_cald, go_bald, go_lald, go_aald, go_iast, go_cast, go_bast, go_last, go_aast, go_new, go_newa, go_anew, go_objinit, go_max, go_min, go_strlen, go_charat, go_acopy, go_rests, go_goto, go_if_eq, go_ic_eq, go_if_ne, go_ic_ne, go_if_lt, go_ic_lt, go_if_ge, go_ic_ge, go_if_gt, go_ic_gt, go_if_le, go_ic_le, go_sw, go_ret, go_lret, go_aret, Nat.reduceAdd, Nat.reduceLT, Nat.reduceLeDiff, Nat.reduceEqDiff, Nat.reduceSub, and_true, true_and, if_true, if_false, and_self, Option.toList_some, Option.toList_none, List.cons_append, List.nil_append, List.length_cons, List.length_nil, Fin.isValue, Fin.reduceFinMk, Fin.val_zero, Fin.val_one, Fin.val_two, jFin3, jI_jsI, jI_jsL, jI_jsR, jL_jsI, jL_jsL, jL_jsR, jR_jsI, jR_jsL, jR_jsR, jN_jsI, jN_jsL, jN_jsR, jXn_jsI, jXn_jsL, jXn_jsR, jXs_jsI, jXs_jsL, jXs_jsR, jEx_jsI, jEx_jsL, jEx_jsR, jI_jXp, jL_jXp, jR_jXp, jN_jXp, jXn_jXp, jXs_jXp, jEx_jXp, jb_12_0, jb_12_19, jb_12_20, en_12, js_0, js_1, js_2, js_3, js_4, js_5, js_6, js_7, js_8, js_9, js_10, js_11, js_12, js_13, js_14, js_15, js_16, js_17, js_18, js_19, js_20, js_21, js_22, js_23, js_24, js_25, js_26, js_27, js_28, js_29, js_30, js_31, js_32, js_33, js_34, js_35, js_36, js_37, js_38, js_39, js_40, js_41, js_42, js_43, js_44, js_45, js_46, js_47, js_48, js_49, js_50, js_51, js_52, js_53, js_54, js_55, js_56, js_57, js_58, js_59, js_60, js_61, js_62, js_63, js_64, js_65, js_66, js_67, js_68, js_69, js_70, js_71, js_72, js_73, js_74, js_75, js_76, js_77, js_78, js_79, js_80, js_81, js_82, js_83, js_84, js_85, js_86, js_87, js_88, js_89, js_90, js_91, js_92, js_93, js_94, js_95, js_96, js_97, js_98, js_99, js_100, js_101, js_102, js_103, js_104, js_105, js_106, js_107, js_108, js_109, js_110, js_111, js_112, js_113, js_114, js_115, js_116, js_117, js_118, js_119, lit_I, neg_1, jCl_nI, i_lt, i_le, i_eq, i_sub, i_div, n_rem, i_and31, i_shl, i_shr, i_bit, bI_1, bI_0, bI_2, bZ_1, bZ_0, bZ_in, bZ_2, nO_lt, nO_gt, nO_le, nO_ge, nO_eq, nO_qe, nO_self, nO_sele, nO_add, pI_0, pI_s, pI_nO, pI_lt0, pI_ge0, pI_eq, pI_add, nI_add, pk_mul, nx_and, fa_or, fb_xorI, Nat.reduceMul, Nat.reduceDiv, Nat.reduceMod, Nat.reducePow, Nat.reduceAnd, Nat.reduceOr, Nat.reduceXor, Nat.reduceShiftLeft, Nat.reduceShiftRight, eq_self, not_true_eq_false, not_false_eq_true, or_false, false_or, or_true, true_or, and_false, false_and, ↓reduceIte, Nat.zero_add, Nat.add_zero, Nat.not_lt_zero, Nat.zero_le, Bool.true_eq_false, Bool.false_eq_true, decide_true, decide_false, bl_in, rF_t3, rF_t4, rF_0_0, rF_0_1, rF_0_2, rF_0_3, rF_0_4, rF_0_5, rF_0_7, rF_0_8, rF_0_10, rF_0_11, rF_0_12, rF_0_13, rF_0_14, rF_0_15, rF_0_16, rF_1_0, rF_3_0, rF_3_1, rF_3_2, rF_4_3, rF_4_4, rF_7_3, rF_7_4, rF_11_0, rF_11_1, rF_11_2, rF_12_3, rF_12_4, rF_15_3, rF_15_4, rF_19_0, rF_19_1, rF_19_2, rF_19_3, rF_20_0, rF_20_1, rF_20_2, rF_21_3, rF_21_4, rF_24_3, rF_24_4, rF_28_0, rF_28_1, rF_28_2, rF_29_3, rF_29_4, rF_32_3, rF_32_4, rF_36_0, rF_36_1, rF_36_2, rF_37_3, rF_37_4, rF_40_3, rF_40_4, rF_44_0, rF_44_1, rF_44_2, rF_45_3, rF_45_4, rF_48_3, rF_48_4, rF_54_0, rF_54_1, rF_54_2, rF_54_3, rF_54_4, rF_60_0, rF_60_1, rF_60_2, rF_60_3, rF_60_4, rF_66_0, rF_66_1, rF_70_0, rF_70_1, rF_70_2, rF_70_3, rF_70_7, rF_70_8, rF_70_9, rF_71_3, rF_71_4, rF_79_0, rF_79_1, rF_82_0, rF_82_1, rF_82_2, rF_82_3, rF_82_4, rF_86_3, rF_86_4, rF_90_3, rF_90_4, rF_93_1, rF_93_4, rF_93_5, rF_93_6, rF_93_9, rF_93_10, rF_93_11, rF_93_12, rF_93_14, rF_93_15, rF_93_16, rF_93_17, rF_93_20, rF_93_24, rF_93_25, rF_93_26, rF_93_27, rF_93_29, rF_93_31, rF_93_32, rF_93_33, rF_93_34, rF_93_35, rF_93_36, rF_93_37, g.1, g.2, c, dg_k f hf, f4, e3, e4, cl16 _ pD_16 f hf, cl16 _ pR_16 o o4, mTk]
theorem mPl_f {h : jM} {p : Nat → Nat} {f : Nat} {o : Nat} : fP h (mPl h p f o) := ⟨(((fI_w (by simp)).tr (fI_w (by simp))).tr (fI_w (by simp))).tr (fI_w (by simp)), fun k hk => by simp [mPl, jI_jsI, hk]⟩
theorem mTk_f {h : jM} {p : Nat → Nat} {f : Nat} {o : Nat} : fP h (mTk h p f o) := ⟨(((fI_w (by simp)).tr (fI_w (by simp))).tr (fI_w (by simp))).tr (fI_w (by simp)), fun k hk => by simp [mTk, jI_jsI, hk]⟩
theorem tn_no {t : Nat} (ht : t ∈ tnL) : ∀ o, o ∈ [0, 1, 2, 3, 10, 11, 18, 52, 53, 54, 55, 56, 57, 58, 59, 60, 61, 62, 63, 64, 65, 70, 74, 75, 76, 77, 78, 79, 80, 81, 82, 83, 84, 85, 89] → ¬ t = o ∧ ¬ t + 1 = o ∧ ¬ t + 2 = o := by
  intro o ho
  exact tn_r ht (by revert o; decide)
theorem fP.bd {h : jM} {h1 : jM} {q : kQ} {T : kT} {U : kT} {p : Nat → Nat} {p2 : Nat → Nat} (b : BD h q T U p) (a : fP h h1) (hp : ∀ i, i < 4 → jI h1 74 i = pI (p2 i)) (hc : jI h1 75 0 = nI (pD p2) ∧ jI h1 75 1 = nI (pR p2) ∧ jI h1 70 4 = nI (pC p2)) (hv : pv T U p2) : BD h1 q T U p2 := by
  refine ⟨a.1.g b.g, b.2.1, ⟨?_, ?_⟩, b.2.2.2.1, hp, hc, hv⟩
  · have n := tn_no b.a
    refine a.1.T ?_ ?_ ?_ b.T <;> simp [n 70, n 74, n 75]
  · have n := tn_no b.b
    refine a.1.T ?_ ?_ ?_ b.U <;> simp [n 70, n 74, n 75]
theorem BD_place {h : jM} {q : kQ} {T : kT} {U : kT} {p : Nat → Nat} {f : Nat} {o : Nat} (b : BD h q T U p) (hf : f < tF T) (ho : o < tF U) (h0 : p f = 0) (h1 : pLk p o = 0) : BD (mPl h p f o) q T U (uN1 p f (o + 1)) := by
  have f4 : f < 4 := Nat.lt_of_lt_of_le hf b.oT.f
  have o4 : o < 4 := Nat.lt_of_lt_of_le ho b.oU.f
  refine mPl_f.bd b (fun i hi => ?_) ⟨?_, ?_, ?_⟩ (pv_u b.v hf ho h1)
  · by_cases c : i = f
    · subst c; simp [mPl, jI_jsI, uN1_s, pI_s]
    · simp [mPl, jI_jsI, uN1_n c, c, b.p hi]
  · rw [pD_u f4]; simp [mPl, jI_jsI]
  · rw [pR_u f4 o4 h0]; simp [mPl, jI_jsI]
  · rw [pC_u f4 h0]; simp [mPl, jI_jsI]
theorem BD_take {h : jM} {q : kQ} {T : kT} {U : kT} {p : Nat → Nat} {f : Nat} {o : Nat} (b : BD h q T U p) (hf : f < 4) (h0 : p f = o + 1) : BD (mTk h p f o) q T U (uN1 p f 0) := by
  have o4 : o < 4 := by have := b.le hf; omega
  refine mTk_f.bd b (fun i hi => ?_) ⟨?_, ?_, ?_⟩ (pv_t b.v)
  · by_cases c : i = f
    · subst c; simp [mTk, jI_jsI, uN1_s, pI_0]
    · simp [mTk, jI_jsI, uN1_n c, c, b.p hi]
  · rw [pD_t hf]; simp [mTk, jI_jsI]
  · rw [pR_t b.v hf o4 h0]; simp [mTk, jI_jsI]
  · have := pC_t (p := p) hf
    have e : pC (uN1 p f 0) = pC p - 5 ^ f * (o + 1) := by rw [h0] at this; omega
    rw [e]; simp [mTk, jI_jsI]
