/-! the law's loop -/
/-- rests: what the class answers, or that it throws, is what the reference says -/
def cs_32 (Inv : Nat → jM → Prop) : Prop := ∀ (n : Nat) (h : jM) (p0 p1 p2 p3 : Int32), n < 64 → Inv n h → ∃ (b : Int32) (h2 : jM), (∀ K, jCl 899 275 [.ref 93, .int p0, .int p1, .int p2, .int p3] h K = K (some (.int b)) h2) ∧ jFr h h2 ∧ jL h2 119 0 = jL h 119 0 ∧ jR h2 = jR h ∧ Inv (n + 1) h2 ∧ (∀ K, jCl 899 170 [.ref 93] h2 K = K (some (.int (if (jRests p0 p1 p2 p3).isSome then 0 else 1))) h2) ∧ ∀ v, jRests p0 p1 p2 p3 = some v → b = v
theorem lg_cmp_self (x : Int64) : lg_cmp x x = 0 := by simp [lg_cmp]
set_option maxHeartbeats 4000000 in
set_option maxRecDepth 100000 in
theorem lc_32 {Inv : Nat → jM → Prop} {n : Nat} (hn : n < 64) (H : cs_32 Inv) (ho : ∀ n h v, Inv n h → Inv n (jsL h 119 0 v)) (hxp : ∀ n h, Inv n h → Inv n (jXp h)) {h : jM} {K : Option Value → jM → Prop} {i : Int32} {u w : Value} {L : Nat} {xs : Nat → Int32} (hI : Inv n h) (hN : jN h = 120) (hXn : jXn h = L) (hXs : jXs h = xs) (g1 : ¬ (i + 1 < 0 ∨ L ≤ (i + 1).toNatClampNeg)) (g2 : ¬ (i + 2 < 0 ∨ L ≤ (i + 2).toNatClampNeg)) (g3 : ¬ (i + 3 < 0 ∨ L ≤ (i + 3).toNatClampNeg)) (g4 : ¬ (i + 4 < 0 ∨ L ≤ (i + 4).toNatClampNeg)) : ∃ h2 u2 w2, jN h2 = 120 ∧ jXn h2 = L ∧ jXs h2 = xs ∧ jEx h2 ≤ jEx h + 1 ∧ Inv (n + 1) h2 ∧ jGo 900 282 (jAt 282 1210) (jLs i u w) [] h K = jGo 900 282 (jAt 282 1429) (jLs i u2 w2) [] h2 K := by
  cases hr : jRests (xs (i + 1).toNatClampNeg) (xs (i + 2).toNatClampNeg) (xs (i + 3).toNatClampNeg) (xs (i + 4).toNatClampNeg) with
  | none =>
    obtain ⟨b, h2, e1, f1, l1, r1, i2, e2, -⟩ := H n (jXp h) (xs (i + 1).toNatClampNeg) (xs (i + 2).toNatClampNeg) (xs (i + 3).toNatClampNeg) (xs (i + 4).toNatClampNeg) hn (hxp n h hI)
    rw [hr] at e2
    refine ⟨h2, .int 1, .int b, by rw [f1.1]; exact hN, by rw [f1.2.1]; exact hXn, by rw [f1.2.2.1]; exact hXs, by rw [f1.2.2.2]; exact Nat.le_refl _, i2, ?_⟩
    have n1 : jN (jXp h) = 120 := hN
    have n2 : jXn (jXp h) = L := hXn
    have n3 : jXs (jXp h) = xs := hXs
    have n4 : jN h2 = 120 := by rw [f1.1]; exact n1
    have hne : ¬ (1 : Int32) = 0 := by decide
    simp only [jMI_i, jML_l, jMA_a, jSum_n, jSum_i, jSum_a, jSum_l, jGet_0, jPut_0, jGet_1, jPut_1i, jPut_1a, jPut_1n, jPut_1l, jGet_2, jPut_2i, jPut_2a, jPut_2n, jPut_2l, jGet_3, jPut_3i, jPut_3a, jPut_3n, jPut_3l, jGet_4, jPut_4i, jPut_4a, jPut_4n, jPut_4l, jGet_5, jPut_5i, jPut_5a, jPut_5n, jPut_5l, jGet_6, jPut_6i, jPut_6a, jPut_6n, jPut_6l, jGet_7, jPut_7i, jPut_7a, jPut_7n, jPut_7l, jGet_8, jPut_8i, jPut_8a, jPut_8n, jPut_8l, jGet_9, jPut_9i, jPut_9a, jPut_9n, jPut_9l, jGet_10, jPut_10i, jPut_10a, jPut_10n, jPut_10l, jGet_11, jPut_11i, jPut_11a, jPut_11n, jPut_11l, jGet_12, jPut_12i, jPut_12a, jPut_12n, jPut_12l, jPut2_e, jSet_1, jSet_2, jSet_3, jSet_4, jSet_5, jSet_6, jSet_7, jSet_8, jSet_9, jSet_10, jSet_11, jSet_12, go_bipush_m2, go_bipush_10, go_bipush_11, go_bipush_12, go_bipush_120, go_bipush_122, go_bipush_126, go_bipush_127, go_bipush_13, go_bipush_14, go_bipush_15, go_bipush_16, go_bipush_17, go_bipush_20, go_bipush_21, go_bipush_22, go_bipush_24, go_bipush_25, go_bipush_26, go_bipush_29, go_bipush_30, go_bipush_32, go_bipush_40, go_bipush_44, go_bipush_48, go_bipush_56, go_bipush_57, go_bipush_59, go_bipush_6, go_bipush_60, go_bipush_63, go_bipush_64, go_bipush_7, go_bipush_75, go_bipush_8, go_bipush_9, go_bipush_96, go_bipush_97, go_bipush_99, go_iconst_m1, go_iconst_0, go_iconst_1, go_iconst_2, go_iconst_3, go_iconst_4, go_iconst_5, go_iinc_m1, go_iinc_m8, go_iinc_1, go_iinc_7, go_sipush_1000, go_sipush_1002, go_sipush_128, go_sipush_132, go_sipush_185, go_sipush_2040, go_sipush_2047, go_sipush_240, go_sipush_255, go_sipush_289, go_sipush_4913, go_sipush_609, go_sipush_625, go_sipush_638, go_sipush_9999, go_lconst_0, go_lconst_1, go_ldc, go_ldcs, go_ldcw, go_ldc2_0, go_ldc2_1, go_ldc2_2, go_ldc2_3, go_ldc2_4, go_ldc2_5, go_ldc2_6, go_ldc2_7, go_ldc2_8, go_ldc2_9, go_ldc2_10, go_ldc2_11, go_ldc2_12, go_ldc2_13, go_ldc2_14, go_ldc2_15, go_ldc2_16, go_ldc2_17, go_ldc2_18, go_ldc2_19, go_ldc2_20, go_ldc2_21, go_ldc2_22, go_ldc2_23, go_ldc2_24, go_ldc2_25, go_ldc2_26, go_ldc2_27, go_ldc2_28, go_ldc2_29, go_ldc2_30, go_ldc2_31, go_ldc2_32, go_ldc2_33, go_ldc2_34, go_ldc2_35, jCI_0, jCI_1, jCI_2, jCI_3, go_iload, go_iload_n, go_lload, go_lload_n, go_aload, go_aload_n, go_istore, go_istore_n, go_lstore, go_lstore_n, go_astore, go_astore_n, go_iadd, go_isub, go_imul, go_iand, go_ior, go_ixor, go_ishl, go_ishr, go_iushr, go_idiv, go_irem, go_ldiv, go_lrem, go_ineg, go_i2l, go_i2c, go_l2i, go_ladd, go_lsub, go_lmul, go_land, go_lor, go_lxor, go_lcmp, go_lshl, go_lshr, go_lushr, go_dup_i, go_dup_a, go_pop_i, go_pop_a, go_dup2, go_getstatic, go_getf_i, go_getf_z, go_getf_l, go_getf_a, go_putf_i, go_putf_l, go_putf_z, go_putf_a, go_iald, go_iald1, go_iald2, go_alen, go_alen2, go_cald, go_bald, go_lald, go_aald, go_iast, go_cast, go_bast, go_last, go_aast, go_new, go_newa, go_anew, go_objinit, go_max, go_min, go_strlen, go_charat, go_acopy, go_rests, go_goto, go_if_eq, go_ic_eq, go_if_ne, go_ic_ne, go_if_lt, go_ic_lt, go_if_ge, go_ic_ge, go_if_gt, go_ic_gt, go_if_le, go_ic_le, go_sw, go_ret, go_lret, go_aret, Nat.reduceAdd, Nat.reduceLT, Nat.reduceLeDiff, Nat.reduceEqDiff, Nat.reduceSub, and_true, true_and, if_true, if_false, and_self, Option.toList_some, Option.toList_none, List.cons_append, List.nil_append, List.length_cons, List.length_nil, Fin.isValue, Fin.reduceFinMk, Fin.val_zero, Fin.val_one, Fin.val_two, jFin3, jI_jsI, jI_jsL, jI_jsR, jL_jsI, jL_jsL, jL_jsR, jR_jsI, jR_jsL, jR_jsR, jN_jsI, jN_jsL, jN_jsR, jXn_jsI, jXn_jsL, jXn_jsR, jXs_jsI, jXs_jsL, jXs_jsR, jEx_jsI, jEx_jsL, jEx_jsR, jI_jXp, jL_jXp, jR_jXp, jN_jXp, jXn_jXp, jXs_jXp, jEx_jXp, jb_282_1210, jb_282_1282, jb_282_1299, cl_275, cl_170, js_0, js_93, js_119, eq_self, hN, hXn, hXs, hr, n1, n2, n3, n4, e1, e2, not_false_eq_true, or_self, g1, g2, g3, g4, Option.isSome_none, Bool.false_eq_true, hne, Nat.le_refl, Nat.lt_irrefl, Nat.zero_lt_one]
  | some v =>
    obtain ⟨b, h2, e1, f1, l1, r1, i2, e2, hb⟩ := H n (jsL h 119 0 v.toInt64) (xs (i + 1).toNatClampNeg) (xs (i + 2).toNatClampNeg) (xs (i + 3).toNatClampNeg) (xs (i + 4).toNatClampNeg) hn (ho n h _ hI)
    rw [hr] at e2
    have hb := hb v hr
    subst hb
    refine ⟨h2, .int 0, .int b, by rw [f1.1]; exact hN, by rw [f1.2.1]; exact hXn, by rw [f1.2.2.1]; exact hXs, by rw [f1.2.2.2]; exact Nat.le_succ _, i2, ?_⟩
    have n1 : jN (jsL h 119 0 b.toInt64) = 120 := hN
    have n2 : jXn (jsL h 119 0 b.toInt64) = L := hXn
    have n3 : jXs (jsL h 119 0 b.toInt64) = xs := hXs
    have n4 : jN h2 = 120 := by rw [f1.1]; exact n1
    have l2 : jL h2 119 0 = b.toInt64 := by rw [l1]; simp [jsL, jL, jU]
    have z0 : ¬ ((0 : Int32) < 0 ∨ 1 ≤ (0 : Int32).toNatClampNeg) := by decide
    have z1 : (0 : Int32).toNatClampNeg = 0 := by decide
    have z2 : ¬ ((0 : Int32) < 0) := by decide
    simp only [jMI_i, jML_l, jMA_a, jSum_n, jSum_i, jSum_a, jSum_l, jGet_0, jPut_0, jGet_1, jPut_1i, jPut_1a, jPut_1n, jPut_1l, jGet_2, jPut_2i, jPut_2a, jPut_2n, jPut_2l, jGet_3, jPut_3i, jPut_3a, jPut_3n, jPut_3l, jGet_4, jPut_4i, jPut_4a, jPut_4n, jPut_4l, jGet_5, jPut_5i, jPut_5a, jPut_5n, jPut_5l, jGet_6, jPut_6i, jPut_6a, jPut_6n, jPut_6l, jGet_7, jPut_7i, jPut_7a, jPut_7n, jPut_7l, jGet_8, jPut_8i, jPut_8a, jPut_8n, jPut_8l, jGet_9, jPut_9i, jPut_9a, jPut_9n, jPut_9l, jGet_10, jPut_10i, jPut_10a, jPut_10n, jPut_10l, jGet_11, jPut_11i, jPut_11a, jPut_11n, jPut_11l, jGet_12, jPut_12i, jPut_12a, jPut_12n, jPut_12l, jPut2_e, jSet_1, jSet_2, jSet_3, jSet_4, jSet_5, jSet_6, jSet_7, jSet_8, jSet_9, jSet_10, jSet_11, jSet_12, go_bipush_m2, go_bipush_10, go_bipush_11, go_bipush_12, go_bipush_120, go_bipush_122, go_bipush_126, go_bipush_127, go_bipush_13, go_bipush_14, go_bipush_15, go_bipush_16, go_bipush_17, go_bipush_20, go_bipush_21, go_bipush_22, go_bipush_24, go_bipush_25, go_bipush_26, go_bipush_29, go_bipush_30, go_bipush_32, go_bipush_40, go_bipush_44, go_bipush_48, go_bipush_56, go_bipush_57, go_bipush_59, go_bipush_6, go_bipush_60, go_bipush_63, go_bipush_64, go_bipush_7, go_bipush_75, go_bipush_8, go_bipush_9, go_bipush_96, go_bipush_97, go_bipush_99, go_iconst_m1, go_iconst_0, go_iconst_1, go_iconst_2, go_iconst_3, go_iconst_4, go_iconst_5, go_iinc_m1, go_iinc_m8, go_iinc_1, go_iinc_7, go_sipush_1000, go_sipush_1002, go_sipush_128, go_sipush_132, go_sipush_185, go_sipush_2040, go_sipush_2047, go_sipush_240, go_sipush_255, go_sipush_289, go_sipush_4913, go_sipush_609, go_sipush_625, go_sipush_638, go_sipush_9999, go_lconst_0, go_lconst_1, go_ldc, go_ldcs, go_ldcw, go_ldc2_0, go_ldc2_1, go_ldc2_2, go_ldc2_3, go_ldc2_4, go_ldc2_5, go_ldc2_6, go_ldc2_7, go_ldc2_8, go_ldc2_9, go_ldc2_10, go_ldc2_11, go_ldc2_12, go_ldc2_13, go_ldc2_14, go_ldc2_15, go_ldc2_16, go_ldc2_17, go_ldc2_18, go_ldc2_19, go_ldc2_20, go_ldc2_21, go_ldc2_22, go_ldc2_23, go_ldc2_24, go_ldc2_25, go_ldc2_26, go_ldc2_27, go_ldc2_28, go_ldc2_29, go_ldc2_30, go_ldc2_31, go_ldc2_32, go_ldc2_33, go_ldc2_34, go_ldc2_35, jCI_0, jCI_1, jCI_2, jCI_3, go_iload, go_iload_n, go_lload, go_lload_n, go_aload, go_aload_n, go_istore, go_istore_n, go_lstore, go_lstore_n, go_astore, go_astore_n, go_iadd, go_isub, go_imul, go_iand, go_ior, go_ixor, go_ishl, go_ishr, go_iushr, go_idiv, go_irem, go_ldiv, go_lrem, go_ineg, go_i2l, go_i2c, go_l2i, go_ladd, go_lsub, go_lmul, go_land, go_lor, go_lxor, go_lcmp, go_lshl, go_lshr, go_lushr, go_dup_i, go_dup_a, go_pop_i, go_pop_a, go_dup2, go_getstatic, go_getf_i, go_getf_z, go_getf_l, go_getf_a, go_putf_i, go_putf_l, go_putf_z, go_putf_a, go_iald, go_iald1, go_iald2, go_alen, go_alen2, go_cald, go_bald, go_lald, go_aald, go_iast, go_cast, go_bast, go_last, go_aast, go_new, go_newa, go_anew, go_objinit, go_max, go_min, go_strlen, go_charat, go_acopy, go_rests, go_goto, go_if_eq, go_ic_eq, go_if_ne, go_ic_ne, go_if_lt, go_ic_lt, go_if_ge, go_ic_ge, go_if_gt, go_ic_gt, go_if_le, go_ic_le, go_sw, go_ret, go_lret, go_aret, Nat.reduceAdd, Nat.reduceLT, Nat.reduceLeDiff, Nat.reduceEqDiff, Nat.reduceSub, and_true, true_and, if_true, if_false, and_self, Option.toList_some, Option.toList_none, List.cons_append, List.nil_append, List.length_cons, List.length_nil, Fin.isValue, Fin.reduceFinMk, Fin.val_zero, Fin.val_one, Fin.val_two, jFin3, jI_jsI, jI_jsL, jI_jsR, jL_jsI, jL_jsL, jL_jsR, jR_jsI, jR_jsL, jR_jsR, jN_jsI, jN_jsL, jN_jsR, jXn_jsI, jXn_jsL, jXn_jsR, jXs_jsI, jXs_jsL, jXs_jsR, jEx_jsI, jEx_jsL, jEx_jsR, jI_jXp, jL_jXp, jR_jXp, jN_jXp, jXn_jXp, jXs_jXp, jEx_jXp, jb_282_1210, jb_282_1282, jb_282_1299, cl_275, cl_170, js_0, js_93, js_119, eq_self, hN, hXn, hXs, hr, n1, n2, n3, n4, e1, e2, not_false_eq_true, or_self, g1, g2, g3, g4, Option.isSome_some, l2, lg_cmp_self, z0, z1, z2, or_false, false_or, Nat.le_refl, Nat.lt_irrefl, not_true_eq_false, Nat.zero_lt_one]
def jCases (Inv : Nat → jM → Prop) : Prop := cs_0 Inv ∧ cs_1 Inv ∧ cs_2 Inv ∧ cs_3 Inv ∧ cs_4 Inv ∧ cs_5 Inv ∧ cs_6 Inv ∧ cs_7 Inv ∧ cs_8 Inv ∧ cs_9 Inv ∧ cs_10 Inv ∧ cs_11 Inv ∧ cs_12 Inv ∧ cs_13 Inv ∧ cs_14 Inv ∧ cs_15 Inv ∧ cs_16 Inv ∧ cs_17 Inv ∧ cs_18 Inv ∧ cs_19 Inv ∧ cs_20 Inv ∧ cs_21 Inv ∧ cs_22 Inv ∧ cs_23 Inv ∧ cs_24 Inv ∧ cs_25 Inv ∧ cs_26 Inv ∧ cs_27 Inv ∧ cs_28 Inv ∧ cs_29 Inv ∧ cs_30 Inv ∧ cs_31 Inv ∧ cs_32 Inv ∧ cs_33 Inv ∧ cs_34 Inv ∧ cs_35 Inv
def jSwT : List Nat := [200, 347, 360, 373, 422, 471, 520, 581, 594, 607, 620, 657, 670, 695, 744, 769, 794, 807, 832, 869, 894, 931, 980, 1005, 1030, 1055, 1080, 1105, 1118, 1131, 1172, 1197, 1210, 1302, 1351, 1404]
theorem sw_law : ∀ k, k < 64 → jSw 40 (.tableswitch 1389 0 35 #[160, 307, 320, 333, 382, 431, 480, 541, 554, 567, 580, 617, 630, 655, 704, 729, 754, 767, 792, 829, 854, 891, 940, 965, 990, 1015, 1040, 1065, 1078, 1091, 1132, 1157, 1170, 1262, 1311, 1364]) (nI k) = jSwT.getD k 1429 := by decide +kernel
theorem nI_in_c {j c L : Nat} (h : 7 * j + c < L) (hL : L ≤ 448) {y : Int32} (hy : y = nI c) : ¬ (nI (7 * j) + y < 0 ∨ L ≤ (nI (7 * j) + y).toNatClampNeg) := by
  subst hy; rw [nI_add]; exact nI_in h (by omega)
theorem law_end {j L : Nat} (h : L < 7 * j + 7) (hj : 7 * j ≤ 448) (hL : L ≤ 448) : Int32.ofNat L - 7 < nI (7 * j) := by
  have e : Int32.ofNat L - 7 = nI L - nI 7 := rfl
  rw [e, Int32.lt_iff_toInt_lt, pk_sub_toInt (by omega) (by omega), nI_toInt (by omega)]
  omega
theorem law_on {j L : Nat} (h : 7 * j + 7 ≤ L) (hL : L ≤ 448) : ¬ Int32.ofNat L - 7 < nI (7 * j) := by
  have e : Int32.ofNat L - 7 = nI L - nI 7 := rfl
  rw [e, Int32.lt_iff_toInt_lt, pk_sub_toInt (by omega) (by omega), nI_toInt (by omega)]
  omega
set_option maxHeartbeats 4000000 in
set_option maxRecDepth 100000 in
/-- the law's loop comes to its end with true, if each case keeps what is to be kept -/
theorem law_go {Inv : Nat → jM → Prop} (H : jCases Inv) (hmo : ∀ n h, Inv n h → Inv (n + 1) h) (ho : ∀ n h v, Inv n h → Inv n (jsL h 119 0 v)) (hxp : ∀ n h, Inv n h → Inv n (jXp h)) {L : Nat} {xs : Nat → Int32} (hL : L ≤ 448) : ∀ (n j : Nat) (h : jM) (u w : Value), L < 7 * (j + n) → 7 * j ≤ 448 → Inv j h → jN h = 120 → jXn h = L → jXs h = xs → jEx h ≤ j → jGo 900 282 (jAt 282 23) (jLs (nI (7 * j)) u w) [] h (fun r h' => r = some (.int 1) ∧ jN h' ≤ 120 ∧ jEx h' ≤ 64) := by
  obtain ⟨H0, H1, H2, H3, H4, H5, H6, H7, H8, H9, H10, H11, H12, H13, H14, H15, H16, H17, H18, H19, H20, H21, H22, H23, H24, H25, H26, H27, H28, H29, H30, H31, H32, H33, H34, H35⟩ := H
  intro n
  induction n with
  | zero =>
    intro j h u w hm hj hI hN hXn hXs hE
    have hend := law_end (j := j) (L := L) (by omega) hj hL
    simp only [jMI_i, jML_l, jMA_a, jSum_n, jSum_i, jSum_a, jSum_l, jGet_0, jPut_0, jGet_1, jPut_1i, jPut_1a, jPut_1n, jPut_1l, jGet_2, jPut_2i, jPut_2a, jPut_2n, jPut_2l, jGet_3, jPut_3i, jPut_3a, jPut_3n, jPut_3l, jGet_4, jPut_4i, jPut_4a, jPut_4n, jPut_4l, jGet_5, jPut_5i, jPut_5a, jPut_5n, jPut_5l, jGet_6, jPut_6i, jPut_6a, jPut_6n, jPut_6l, jGet_7, jPut_7i, jPut_7a, jPut_7n, jPut_7l, jGet_8, jPut_8i, jPut_8a, jPut_8n, jPut_8l, jGet_9, jPut_9i, jPut_9a, jPut_9n, jPut_9l, jGet_10, jPut_10i, jPut_10a, jPut_10n, jPut_10l, jGet_11, jPut_11i, jPut_11a, jPut_11n, jPut_11l, jGet_12, jPut_12i, jPut_12a, jPut_12n, jPut_12l, jPut2_e, jSet_1, jSet_2, jSet_3, jSet_4, jSet_5, jSet_6, jSet_7, jSet_8, jSet_9, jSet_10, jSet_11, jSet_12, go_bipush_m2, go_bipush_10, go_bipush_11, go_bipush_12, go_bipush_120, go_bipush_122, go_bipush_126, go_bipush_127, go_bipush_13, go_bipush_14, go_bipush_15, go_bipush_16, go_bipush_17, go_bipush_20, go_bipush_21, go_bipush_22, go_bipush_24, go_bipush_25, go_bipush_26, go_bipush_29, go_bipush_30, go_bipush_32, go_bipush_40, go_bipush_44, go_bipush_48, go_bipush_56, go_bipush_57, go_bipush_59, go_bipush_6, go_bipush_60, go_bipush_63, go_bipush_64, go_bipush_7, go_bipush_75, go_bipush_8, go_bipush_9, go_bipush_96, go_bipush_97, go_bipush_99, go_iconst_m1, go_iconst_0, go_iconst_1, go_iconst_2, go_iconst_3, go_iconst_4, go_iconst_5, go_iinc_m1, go_iinc_m8, go_iinc_1, go_iinc_7, go_sipush_1000, go_sipush_1002, go_sipush_128, go_sipush_132, go_sipush_185, go_sipush_2040, go_sipush_2047, go_sipush_240, go_sipush_255, go_sipush_289, go_sipush_4913, go_sipush_609, go_sipush_625, go_sipush_638, go_sipush_9999, go_lconst_0, go_lconst_1, go_ldc, go_ldcs, go_ldcw, go_ldc2_0, go_ldc2_1, go_ldc2_2, go_ldc2_3, go_ldc2_4, go_ldc2_5, go_ldc2_6, go_ldc2_7, go_ldc2_8, go_ldc2_9, go_ldc2_10, go_ldc2_11, go_ldc2_12, go_ldc2_13, go_ldc2_14, go_ldc2_15, go_ldc2_16, go_ldc2_17, go_ldc2_18, go_ldc2_19, go_ldc2_20, go_ldc2_21, go_ldc2_22, go_ldc2_23, go_ldc2_24, go_ldc2_25, go_ldc2_26, go_ldc2_27, go_ldc2_28, go_ldc2_29, go_ldc2_30, go_ldc2_31, go_ldc2_32, go_ldc2_33, go_ldc2_34, go_ldc2_35, jCI_0, jCI_1, jCI_2, jCI_3, go_iload, go_iload_n, go_lload, go_lload_n, go_aload, go_aload_n, go_istore, go_istore_n, go_lstore, go_lstore_n, go_astore, go_astore_n, go_iadd, go_isub, go_imul, go_iand, go_ior, go_ixor, go_ishl, go_ishr, go_iushr, go_idiv, go_irem, go_ldiv, go_lrem, go_ineg, go_i2l, go_i2c, go_l2i, go_ladd, go_lsub, go_lmul, go_land, go_lor, go_lxor, go_lcmp, go_lshl, go_lshr, go_lushr, go_dup_i, go_dup_a, go_pop_i, go_pop_a, go_dup2, go_getstatic, go_getf_i, go_getf_z, go_getf_l, go_getf_a, go_putf_i, go_putf_l, go_putf_z, go_putf_a, go_iald, go_iald1, go_iald2, go_alen, go_alen2, go_cald, go_bald, go_lald, go_aald, go_iast, go_cast, go_bast, go_last, go_aast, go_new, go_newa, go_anew, go_objinit, go_max, go_min, go_strlen, go_charat, go_acopy, go_rests, go_goto, go_if_eq, go_ic_eq, go_if_ne, go_ic_ne, go_if_lt, go_ic_lt, go_if_ge, go_ic_ge, go_if_gt, go_ic_gt, go_if_le, go_ic_le, go_sw, go_ret, go_lret, go_aret, Nat.reduceAdd, Nat.reduceLT, Nat.reduceLeDiff, Nat.reduceEqDiff, Nat.reduceSub, and_true, true_and, if_true, if_false, and_self, Option.toList_some, Option.toList_none, List.cons_append, List.nil_append, List.length_cons, List.length_nil, Fin.isValue, Fin.reduceFinMk, Fin.val_zero, Fin.val_one, Fin.val_two, jFin3, jI_jsI, jI_jsL, jI_jsR, jL_jsI, jL_jsL, jL_jsR, jR_jsI, jR_jsL, jR_jsR, jN_jsI, jN_jsL, jN_jsR, jXn_jsI, jXn_jsL, jXn_jsR, jXs_jsI, jXs_jsL, jXs_jsR, jEx_jsI, jEx_jsL, jEx_jsR, jI_jXp, jL_jXp, jR_jXp, jN_jXp, jXn_jXp, jXs_jXp, jEx_jXp, jb_282_23, jb_282_1435, rt_282, hXn, hend, eq_self, or_true, hN]
    omega
  | succ n ih =>
    intro j h u w hm hj hI hN hXn hXs hE
    rcases Nat.lt_or_ge L (7 * j + 7) with q | q
    · have hend := law_end (j := j) (L := L) (by omega) hj hL
      simp only [jMI_i, jML_l, jMA_a, jSum_n, jSum_i, jSum_a, jSum_l, jGet_0, jPut_0, jGet_1, jPut_1i, jPut_1a, jPut_1n, jPut_1l, jGet_2, jPut_2i, jPut_2a, jPut_2n, jPut_2l, jGet_3, jPut_3i, jPut_3a, jPut_3n, jPut_3l, jGet_4, jPut_4i, jPut_4a, jPut_4n, jPut_4l, jGet_5, jPut_5i, jPut_5a, jPut_5n, jPut_5l, jGet_6, jPut_6i, jPut_6a, jPut_6n, jPut_6l, jGet_7, jPut_7i, jPut_7a, jPut_7n, jPut_7l, jGet_8, jPut_8i, jPut_8a, jPut_8n, jPut_8l, jGet_9, jPut_9i, jPut_9a, jPut_9n, jPut_9l, jGet_10, jPut_10i, jPut_10a, jPut_10n, jPut_10l, jGet_11, jPut_11i, jPut_11a, jPut_11n, jPut_11l, jGet_12, jPut_12i, jPut_12a, jPut_12n, jPut_12l, jPut2_e, jSet_1, jSet_2, jSet_3, jSet_4, jSet_5, jSet_6, jSet_7, jSet_8, jSet_9, jSet_10, jSet_11, jSet_12, go_bipush_m2, go_bipush_10, go_bipush_11, go_bipush_12, go_bipush_120, go_bipush_122, go_bipush_126, go_bipush_127, go_bipush_13, go_bipush_14, go_bipush_15, go_bipush_16, go_bipush_17, go_bipush_20, go_bipush_21, go_bipush_22, go_bipush_24, go_bipush_25, go_bipush_26, go_bipush_29, go_bipush_30, go_bipush_32, go_bipush_40, go_bipush_44, go_bipush_48, go_bipush_56, go_bipush_57, go_bipush_59, go_bipush_6, go_bipush_60, go_bipush_63, go_bipush_64, go_bipush_7, go_bipush_75, go_bipush_8, go_bipush_9, go_bipush_96, go_bipush_97, go_bipush_99, go_iconst_m1, go_iconst_0, go_iconst_1, go_iconst_2, go_iconst_3, go_iconst_4, go_iconst_5, go_iinc_m1, go_iinc_m8, go_iinc_1, go_iinc_7, go_sipush_1000, go_sipush_1002, go_sipush_128, go_sipush_132, go_sipush_185, go_sipush_2040, go_sipush_2047, go_sipush_240, go_sipush_255, go_sipush_289, go_sipush_4913, go_sipush_609, go_sipush_625, go_sipush_638, go_sipush_9999, go_lconst_0, go_lconst_1, go_ldc, go_ldcs, go_ldcw, go_ldc2_0, go_ldc2_1, go_ldc2_2, go_ldc2_3, go_ldc2_4, go_ldc2_5, go_ldc2_6, go_ldc2_7, go_ldc2_8, go_ldc2_9, go_ldc2_10, go_ldc2_11, go_ldc2_12, go_ldc2_13, go_ldc2_14, go_ldc2_15, go_ldc2_16, go_ldc2_17, go_ldc2_18, go_ldc2_19, go_ldc2_20, go_ldc2_21, go_ldc2_22, go_ldc2_23, go_ldc2_24, go_ldc2_25, go_ldc2_26, go_ldc2_27, go_ldc2_28, go_ldc2_29, go_ldc2_30, go_ldc2_31, go_ldc2_32, go_ldc2_33, go_ldc2_34, go_ldc2_35, jCI_0, jCI_1, jCI_2, jCI_3, go_iload, go_iload_n, go_lload, go_lload_n, go_aload, go_aload_n, go_istore, go_istore_n, go_lstore, go_lstore_n, go_astore, go_astore_n, go_iadd, go_isub, go_imul, go_iand, go_ior, go_ixor, go_ishl, go_ishr, go_iushr, go_idiv, go_irem, go_ldiv, go_lrem, go_ineg, go_i2l, go_i2c, go_l2i, go_ladd, go_lsub, go_lmul, go_land, go_lor, go_lxor, go_lcmp, go_lshl, go_lshr, go_lushr, go_dup_i, go_dup_a, go_pop_i, go_pop_a, go_dup2, go_getstatic, go_getf_i, go_getf_z, go_getf_l, go_getf_a, go_putf_i, go_putf_l, go_putf_z, go_putf_a, go_iald, go_iald1, go_iald2, go_alen, go_alen2, go_cald, go_bald, go_lald, go_aald, go_iast, go_cast, go_bast, go_last, go_aast, go_new, go_newa, go_anew, go_objinit, go_max, go_min, go_strlen, go_charat, go_acopy, go_rests, go_goto, go_if_eq, go_ic_eq, go_if_ne, go_ic_ne, go_if_lt, go_ic_lt, go_if_ge, go_ic_ge, go_if_gt, go_ic_gt, go_if_le, go_ic_le, go_sw, go_ret, go_lret, go_aret, Nat.reduceAdd, Nat.reduceLT, Nat.reduceLeDiff, Nat.reduceEqDiff, Nat.reduceSub, and_true, true_and, if_true, if_false, and_self, Option.toList_some, Option.toList_none, List.cons_append, List.nil_append, List.length_cons, List.length_nil, Fin.isValue, Fin.reduceFinMk, Fin.val_zero, Fin.val_one, Fin.val_two, jFin3, jI_jsI, jI_jsL, jI_jsR, jL_jsI, jL_jsL, jL_jsR, jR_jsI, jR_jsL, jR_jsR, jN_jsI, jN_jsL, jN_jsR, jXn_jsI, jXn_jsL, jXn_jsR, jXs_jsI, jXs_jsL, jXs_jsR, jEx_jsI, jEx_jsL, jEx_jsR, jI_jXp, jL_jXp, jR_jXp, jN_jXp, jXn_jXp, jXs_jXp, jEx_jXp, jb_282_23, jb_282_1435, rt_282, hXn, hend, eq_self, or_true, hN]
      omega
    · have hon := law_on (j := j) (L := L) q hL
      have g0 : ¬ (nI (7 * j) < 0 ∨ L ≤ (nI (7 * j)).toNatClampNeg) := nI_in (by omega) (by omega)
      simp only [jMI_i, jML_l, jMA_a, jSum_n, jSum_i, jSum_a, jSum_l, jGet_0, jPut_0, jGet_1, jPut_1i, jPut_1a, jPut_1n, jPut_1l, jGet_2, jPut_2i, jPut_2a, jPut_2n, jPut_2l, jGet_3, jPut_3i, jPut_3a, jPut_3n, jPut_3l, jGet_4, jPut_4i, jPut_4a, jPut_4n, jPut_4l, jGet_5, jPut_5i, jPut_5a, jPut_5n, jPut_5l, jGet_6, jPut_6i, jPut_6a, jPut_6n, jPut_6l, jGet_7, jPut_7i, jPut_7a, jPut_7n, jPut_7l, jGet_8, jPut_8i, jPut_8a, jPut_8n, jPut_8l, jGet_9, jPut_9i, jPut_9a, jPut_9n, jPut_9l, jGet_10, jPut_10i, jPut_10a, jPut_10n, jPut_10l, jGet_11, jPut_11i, jPut_11a, jPut_11n, jPut_11l, jGet_12, jPut_12i, jPut_12a, jPut_12n, jPut_12l, jPut2_e, jSet_1, jSet_2, jSet_3, jSet_4, jSet_5, jSet_6, jSet_7, jSet_8, jSet_9, jSet_10, jSet_11, jSet_12, go_bipush_m2, go_bipush_10, go_bipush_11, go_bipush_12, go_bipush_120, go_bipush_122, go_bipush_126, go_bipush_127, go_bipush_13, go_bipush_14, go_bipush_15, go_bipush_16, go_bipush_17, go_bipush_20, go_bipush_21, go_bipush_22, go_bipush_24, go_bipush_25, go_bipush_26, go_bipush_29, go_bipush_30, go_bipush_32, go_bipush_40, go_bipush_44, go_bipush_48, go_bipush_56, go_bipush_57, go_bipush_59, go_bipush_6, go_bipush_60, go_bipush_63, go_bipush_64, go_bipush_7, go_bipush_75, go_bipush_8, go_bipush_9, go_bipush_96, go_bipush_97, go_bipush_99, go_iconst_m1, go_iconst_0, go_iconst_1, go_iconst_2, go_iconst_3, go_iconst_4, go_iconst_5, go_iinc_m1, go_iinc_m8, go_iinc_1, go_iinc_7, go_sipush_1000, go_sipush_1002, go_sipush_128, go_sipush_132, go_sipush_185, go_sipush_2040, go_sipush_2047, go_sipush_240, go_sipush_255, go_sipush_289, go_sipush_4913, go_sipush_609, go_sipush_625, go_sipush_638, go_sipush_9999, go_lconst_0, go_lconst_1, go_ldc, go_ldcs, go_ldcw, go_ldc2_0, go_ldc2_1, go_ldc2_2, go_ldc2_3, go_ldc2_4, go_ldc2_5, go_ldc2_6, go_ldc2_7, go_ldc2_8, go_ldc2_9, go_ldc2_10, go_ldc2_11, go_ldc2_12, go_ldc2_13, go_ldc2_14, go_ldc2_15, go_ldc2_16, go_ldc2_17, go_ldc2_18, go_ldc2_19, go_ldc2_20, go_ldc2_21, go_ldc2_22, go_ldc2_23, go_ldc2_24, go_ldc2_25, go_ldc2_26, go_ldc2_27, go_ldc2_28, go_ldc2_29, go_ldc2_30, go_ldc2_31, go_ldc2_32, go_ldc2_33, go_ldc2_34, go_ldc2_35, jCI_0, jCI_1, jCI_2, jCI_3, go_iload, go_iload_n, go_lload, go_lload_n, go_aload, go_aload_n, go_istore, go_istore_n, go_lstore, go_lstore_n, go_astore, go_astore_n, go_iadd, go_isub, go_imul, go_iand, go_ior, go_ixor, go_ishl, go_ishr, go_iushr, go_idiv, go_irem, go_ldiv, go_lrem, go_ineg, go_i2l, go_i2c, go_l2i, go_ladd, go_lsub, go_lmul, go_land, go_lor, go_lxor, go_lcmp, go_lshl, go_lshr, go_lushr, go_dup_i, go_dup_a, go_pop_i, go_pop_a, go_dup2, go_getstatic, go_getf_i, go_getf_z, go_getf_l, go_getf_a, go_putf_i, go_putf_l, go_putf_z, go_putf_a, go_iald, go_iald1, go_iald2, go_alen, go_alen2, go_cald, go_bald, go_lald, go_aald, go_iast, go_cast, go_bast, go_last, go_aast, go_new, go_newa, go_anew, go_objinit, go_max, go_min, go_strlen, go_charat, go_acopy, go_rests, go_goto, go_if_eq, go_ic_eq, go_if_ne, go_ic_ne, go_if_lt, go_ic_lt, go_if_ge, go_ic_ge, go_if_gt, go_ic_gt, go_if_le, go_ic_le, go_sw, go_ret, go_lret, go_aret, Nat.reduceAdd, Nat.reduceLT, Nat.reduceLeDiff, Nat.reduceEqDiff, Nat.reduceSub, and_true, true_and, if_true, if_false, and_self, Option.toList_some, Option.toList_none, List.cons_append, List.nil_append, List.length_cons, List.length_nil, Fin.isValue, Fin.reduceFinMk, Fin.val_zero, Fin.val_one, Fin.val_two, jFin3, jI_jsI, jI_jsL, jI_jsR, jL_jsI, jL_jsL, jL_jsR, jR_jsI, jR_jsL, jR_jsR, jN_jsI, jN_jsL, jN_jsR, jXn_jsI, jXn_jsL, jXn_jsR, jXs_jsI, jXs_jsL, jXs_jsR, jEx_jsI, jEx_jsL, jEx_jsR, jI_jXp, jL_jXp, jR_jXp, jN_jXp, jXn_jXp, jXs_jXp, jEx_jXp, jb_282_23, hXn, hXs, hon, g0, not_false_eq_true]
      obtain ⟨k, hk, ek⟩ := pk_andE (xs (nI (7 * j)).toNatClampNeg) (m := 63) 6 (by decide)
      rw [ek, sw_law k hk]
      have fin : ∀ (h2 : jM) (u2 w2 : Value), jN h2 = 120 → jXn h2 = L → jXs h2 = xs → jEx h2 ≤ j + 1 → Inv (j + 1) h2 → (jGo 900 282 (jAt 282 (jSwT.getD k 1429)) (jLs (nI (7 * j)) u w) [] h (fun r h' => r = some (.int 1) ∧ jN h' ≤ 120 ∧ jEx h' ≤ 64) = jGo 900 282 (jAt 282 1429) (jLs (nI (7 * j)) u2 w2) [] h2 (fun r h' => r = some (.int 1) ∧ jN h' ≤ 120 ∧ jEx h' ≤ 64)) → jGo 900 282 (jAt 282 (jSwT.getD k 1429)) (jLs (nI (7 * j)) u w) [] h (fun r h' => r = some (.int 1) ∧ jN h' ≤ 120 ∧ jEx h' ≤ 64) := by
        intro h2 u2 w2 c1 c2 c3 c4 c5 c6
        rw [c6]
        have e7 : nI (7 * j) + 7 = nI (7 * (j + 1)) := by
          show nI (7 * j) + nI 7 = _
          rw [nI_add]; rfl
        have key := ih (j + 1) h2 u2 w2 (by omega) (by omega) c5 c1 c2 c3 c4
        simp only [jMI_i, jML_l, jMA_a, jSum_n, jSum_i, jSum_a, jSum_l, jGet_0, jPut_0, jGet_1, jPut_1i, jPut_1a, jPut_1n, jPut_1l, jGet_2, jPut_2i, jPut_2a, jPut_2n, jPut_2l, jGet_3, jPut_3i, jPut_3a, jPut_3n, jPut_3l, jGet_4, jPut_4i, jPut_4a, jPut_4n, jPut_4l, jGet_5, jPut_5i, jPut_5a, jPut_5n, jPut_5l, jGet_6, jPut_6i, jPut_6a, jPut_6n, jPut_6l, jGet_7, jPut_7i, jPut_7a, jPut_7n, jPut_7l, jGet_8, jPut_8i, jPut_8a, jPut_8n, jPut_8l, jGet_9, jPut_9i, jPut_9a, jPut_9n, jPut_9l, jGet_10, jPut_10i, jPut_10a, jPut_10n, jPut_10l, jGet_11, jPut_11i, jPut_11a, jPut_11n, jPut_11l, jGet_12, jPut_12i, jPut_12a, jPut_12n, jPut_12l, jPut2_e, jSet_1, jSet_2, jSet_3, jSet_4, jSet_5, jSet_6, jSet_7, jSet_8, jSet_9, jSet_10, jSet_11, jSet_12, go_bipush_m2, go_bipush_10, go_bipush_11, go_bipush_12, go_bipush_120, go_bipush_122, go_bipush_126, go_bipush_127, go_bipush_13, go_bipush_14, go_bipush_15, go_bipush_16, go_bipush_17, go_bipush_20, go_bipush_21, go_bipush_22, go_bipush_24, go_bipush_25, go_bipush_26, go_bipush_29, go_bipush_30, go_bipush_32, go_bipush_40, go_bipush_44, go_bipush_48, go_bipush_56, go_bipush_57, go_bipush_59, go_bipush_6, go_bipush_60, go_bipush_63, go_bipush_64, go_bipush_7, go_bipush_75, go_bipush_8, go_bipush_9, go_bipush_96, go_bipush_97, go_bipush_99, go_iconst_m1, go_iconst_0, go_iconst_1, go_iconst_2, go_iconst_3, go_iconst_4, go_iconst_5, go_iinc_m1, go_iinc_m8, go_iinc_1, go_iinc_7, go_sipush_1000, go_sipush_1002, go_sipush_128, go_sipush_132, go_sipush_185, go_sipush_2040, go_sipush_2047, go_sipush_240, go_sipush_255, go_sipush_289, go_sipush_4913, go_sipush_609, go_sipush_625, go_sipush_638, go_sipush_9999, go_lconst_0, go_lconst_1, go_ldc, go_ldcs, go_ldcw, go_ldc2_0, go_ldc2_1, go_ldc2_2, go_ldc2_3, go_ldc2_4, go_ldc2_5, go_ldc2_6, go_ldc2_7, go_ldc2_8, go_ldc2_9, go_ldc2_10, go_ldc2_11, go_ldc2_12, go_ldc2_13, go_ldc2_14, go_ldc2_15, go_ldc2_16, go_ldc2_17, go_ldc2_18, go_ldc2_19, go_ldc2_20, go_ldc2_21, go_ldc2_22, go_ldc2_23, go_ldc2_24, go_ldc2_25, go_ldc2_26, go_ldc2_27, go_ldc2_28, go_ldc2_29, go_ldc2_30, go_ldc2_31, go_ldc2_32, go_ldc2_33, go_ldc2_34, go_ldc2_35, jCI_0, jCI_1, jCI_2, jCI_3, go_iload, go_iload_n, go_lload, go_lload_n, go_aload, go_aload_n, go_istore, go_istore_n, go_lstore, go_lstore_n, go_astore, go_astore_n, go_iadd, go_isub, go_imul, go_iand, go_ior, go_ixor, go_ishl, go_ishr, go_iushr, go_idiv, go_irem, go_ldiv, go_lrem, go_ineg, go_i2l, go_i2c, go_l2i, go_ladd, go_lsub, go_lmul, go_land, go_lor, go_lxor, go_lcmp, go_lshl, go_lshr, go_lushr, go_dup_i, go_dup_a, go_pop_i, go_pop_a, go_dup2, go_getstatic, go_getf_i, go_getf_z, go_getf_l, go_getf_a, go_putf_i, go_putf_l, go_putf_z, go_putf_a, go_iald, go_iald1, go_iald2, go_alen, go_alen2, go_cald, go_bald, go_lald, go_aald, go_iast, go_cast, go_bast, go_last, go_aast, go_new, go_newa, go_anew, go_objinit, go_max, go_min, go_strlen, go_charat, go_acopy, go_rests, go_goto, go_if_eq, go_ic_eq, go_if_ne, go_ic_ne, go_if_lt, go_ic_lt, go_if_ge, go_ic_ge, go_if_gt, go_ic_gt, go_if_le, go_ic_le, go_sw, go_ret, go_lret, go_aret, Nat.reduceAdd, Nat.reduceLT, Nat.reduceLeDiff, Nat.reduceEqDiff, Nat.reduceSub, and_true, true_and, if_true, if_false, and_self, Option.toList_some, Option.toList_none, List.cons_append, List.nil_append, List.length_cons, List.length_nil, Fin.isValue, Fin.reduceFinMk, Fin.val_zero, Fin.val_one, Fin.val_two, jFin3, jI_jsI, jI_jsL, jI_jsR, jL_jsI, jL_jsL, jL_jsR, jR_jsI, jR_jsL, jR_jsR, jN_jsI, jN_jsL, jN_jsR, jXn_jsI, jXn_jsL, jXn_jsR, jXs_jsI, jXs_jsL, jXs_jsR, jEx_jsI, jEx_jsL, jEx_jsR, jI_jXp, jL_jXp, jR_jXp, jN_jXp, jXn_jXp, jXs_jXp, jEx_jXp, jb_282_1429, e7]
        exact key
      clear ih
      revert fin
      match k, hk with
      | 0, _ =>
      intro fin
      obtain ⟨h2, b1, b5, b6⟩ := lc_0 (n := j) (by omega) H0 (K := fun r h' => r = some (.int 1) ∧ jN h' ≤ 120 ∧ jEx h' ≤ 64) (i := nI (7 * j)) (u := u) (w := w) hI hN hXn hXs (nI_in_c (c := 1) (by omega) hL rfl) (nI_in_c (c := 2) (by omega) hL rfl) (nI_in_c (c := 3) (by omega) hL rfl) (nI_in_c (c := 4) (by omega) hL rfl) (nI_in_c (c := 5) (by omega) hL rfl) (nI_in_c (c := 6) (by omega) hL rfl)
      exact fin h2 u w (b1.1.trans hN) (b1.2.1.trans hXn) (b1.2.2.1.trans hXs) (by rw [b1.2.2.2]; omega) b5 b6
      | 1, _ =>
      intro fin
      obtain ⟨h2, b1, b5, b6⟩ := lc_1 (n := j) (by omega) H1 (K := fun r h' => r = some (.int 1) ∧ jN h' ≤ 120 ∧ jEx h' ≤ 64) (i := nI (7 * j)) (u := u) (w := w) hI hN hXn hXs 
      exact fin h2 u w (b1.1.trans hN) (b1.2.1.trans hXn) (b1.2.2.1.trans hXs) (by rw [b1.2.2.2]; omega) b5 b6
      | 2, _ =>
      intro fin
      obtain ⟨h2, b1, b5, b6⟩ := lc_2 (n := j) (by omega) H2 (K := fun r h' => r = some (.int 1) ∧ jN h' ≤ 120 ∧ jEx h' ≤ 64) (i := nI (7 * j)) (u := u) (w := w) hI hN hXn hXs 
      exact fin h2 u w (b1.1.trans hN) (b1.2.1.trans hXn) (b1.2.2.1.trans hXs) (by rw [b1.2.2.2]; omega) b5 b6
      | 3, _ =>
      intro fin
      obtain ⟨h2, b1, b5, b6⟩ := lc_3 (n := j) (by omega) H3 (K := fun r h' => r = some (.int 1) ∧ jN h' ≤ 120 ∧ jEx h' ≤ 64) (i := nI (7 * j)) (u := u) (w := w) hI hN hXn hXs (nI_in_c (c := 1) (by omega) hL rfl) (nI_in_c (c := 2) (by omega) hL rfl) (nI_in_c (c := 3) (by omega) hL rfl)
      exact fin h2 u w (b1.1.trans hN) (b1.2.1.trans hXn) (b1.2.2.1.trans hXs) (by rw [b1.2.2.2]; omega) b5 b6
      | 4, _ =>
      intro fin
      obtain ⟨h2, b1, b5, b6⟩ := lc_4 (n := j) (by omega) H4 (K := fun r h' => r = some (.int 1) ∧ jN h' ≤ 120 ∧ jEx h' ≤ 64) (i := nI (7 * j)) (u := u) (w := w) hI hN hXn hXs (nI_in_c (c := 1) (by omega) hL rfl) (nI_in_c (c := 2) (by omega) hL rfl) (nI_in_c (c := 3) (by omega) hL rfl)
      exact fin h2 u w (b1.1.trans hN) (b1.2.1.trans hXn) (b1.2.2.1.trans hXs) (by rw [b1.2.2.2]; omega) b5 b6
      | 5, _ =>
      intro fin
      obtain ⟨h2, b1, b5, b6⟩ := lc_5 (n := j) (by omega) H5 (K := fun r h' => r = some (.int 1) ∧ jN h' ≤ 120 ∧ jEx h' ≤ 64) (i := nI (7 * j)) (u := u) (w := w) hI hN hXn hXs (nI_in_c (c := 1) (by omega) hL rfl) (nI_in_c (c := 2) (by omega) hL rfl) (nI_in_c (c := 3) (by omega) hL rfl)
      exact fin h2 u w (b1.1.trans hN) (b1.2.1.trans hXn) (b1.2.2.1.trans hXs) (by rw [b1.2.2.2]; omega) b5 b6
      | 6, _ =>
      intro fin
      obtain ⟨h2, b1, b5, b6⟩ := lc_6 (n := j) (by omega) H6 (K := fun r h' => r = some (.int 1) ∧ jN h' ≤ 120 ∧ jEx h' ≤ 64) (i := nI (7 * j)) (u := u) (w := w) hI hN hXn hXs (nI_in_c (c := 1) (by omega) hL rfl) (nI_in_c (c := 2) (by omega) hL rfl) (nI_in_c (c := 3) (by omega) hL rfl) (nI_in_c (c := 4) (by omega) hL rfl)
      exact fin h2 u w (b1.1.trans hN) (b1.2.1.trans hXn) (b1.2.2.1.trans hXs) (by rw [b1.2.2.2]; omega) b5 b6
      | 7, _ =>
      intro fin
      obtain ⟨h2, b1, b5, b6⟩ := lc_7 (n := j) (by omega) H7 (K := fun r h' => r = some (.int 1) ∧ jN h' ≤ 120 ∧ jEx h' ≤ 64) (i := nI (7 * j)) (u := u) (w := w) hI hN hXn hXs 
      exact fin h2 u w (b1.1.trans hN) (b1.2.1.trans hXn) (b1.2.2.1.trans hXs) (by rw [b1.2.2.2]; omega) b5 b6
      | 8, _ =>
      intro fin
      obtain ⟨h2, b1, b5, b6⟩ := lc_8 (n := j) (by omega) H8 (K := fun r h' => r = some (.int 1) ∧ jN h' ≤ 120 ∧ jEx h' ≤ 64) (i := nI (7 * j)) (u := u) (w := w) hI hN hXn hXs 
      exact fin h2 u w (b1.1.trans hN) (b1.2.1.trans hXn) (b1.2.2.1.trans hXs) (by rw [b1.2.2.2]; omega) b5 b6
      | 9, _ =>
      intro fin
      obtain ⟨h2, b1, b5, b6⟩ := lc_9 (n := j) (by omega) H9 (K := fun r h' => r = some (.int 1) ∧ jN h' ≤ 120 ∧ jEx h' ≤ 64) (i := nI (7 * j)) (u := u) (w := w) hI hN hXn hXs 
      exact fin h2 u w (b1.1.trans hN) (b1.2.1.trans hXn) (b1.2.2.1.trans hXs) (by rw [b1.2.2.2]; omega) b5 b6
      | 10, _ =>
      intro fin
      obtain ⟨h2, b1, b5, b6⟩ := lc_10 (n := j) (by omega) H10 (K := fun r h' => r = some (.int 1) ∧ jN h' ≤ 120 ∧ jEx h' ≤ 64) (i := nI (7 * j)) (u := u) (w := w) hI hN hXn hXs (nI_in_c (c := 1) (by omega) hL rfl) (nI_in_c (c := 2) (by omega) hL rfl)
      exact fin h2 u w (b1.1.trans hN) (b1.2.1.trans hXn) (b1.2.2.1.trans hXs) (by rw [b1.2.2.2]; omega) b5 b6
      | 11, _ =>
      intro fin
      obtain ⟨h2, b1, b5, b6⟩ := lc_11 (n := j) (by omega) H11 (K := fun r h' => r = some (.int 1) ∧ jN h' ≤ 120 ∧ jEx h' ≤ 64) (i := nI (7 * j)) (u := u) (w := w) hI hN hXn hXs 
      exact fin h2 u w (b1.1.trans hN) (b1.2.1.trans hXn) (b1.2.2.1.trans hXs) (by rw [b1.2.2.2]; omega) b5 b6
      | 12, _ =>
      intro fin
      obtain ⟨h2, b1, b5, b6⟩ := lc_12 (n := j) (by omega) H12 (K := fun r h' => r = some (.int 1) ∧ jN h' ≤ 120 ∧ jEx h' ≤ 64) (i := nI (7 * j)) (u := u) (w := w) hI hN hXn hXs (nI_in_c (c := 1) (by omega) hL rfl)
      exact fin h2 u w (b1.1.trans hN) (b1.2.1.trans hXn) (b1.2.2.1.trans hXs) (by rw [b1.2.2.2]; omega) b5 b6
      | 13, _ =>
      intro fin
      obtain ⟨h2, b1, b5, b6⟩ := lc_13 (n := j) (by omega) H13 (K := fun r h' => r = some (.int 1) ∧ jN h' ≤ 120 ∧ jEx h' ≤ 64) (i := nI (7 * j)) (u := u) (w := w) hI hN hXn hXs (nI_in_c (c := 1) (by omega) hL rfl) (nI_in_c (c := 2) (by omega) hL rfl) (nI_in_c (c := 3) (by omega) hL rfl)
      exact fin h2 u w (b1.1.trans hN) (b1.2.1.trans hXn) (b1.2.2.1.trans hXs) (by rw [b1.2.2.2]; omega) b5 b6
      | 14, _ =>
      intro fin
      obtain ⟨h2, b1, b5, b6⟩ := lc_14 (n := j) (by omega) H14 (K := fun r h' => r = some (.int 1) ∧ jN h' ≤ 120 ∧ jEx h' ≤ 64) (i := nI (7 * j)) (u := u) (w := w) hI hN hXn hXs (nI_in_c (c := 1) (by omega) hL rfl)
      exact fin h2 u w (b1.1.trans hN) (b1.2.1.trans hXn) (b1.2.2.1.trans hXs) (by rw [b1.2.2.2]; omega) b5 b6
      | 15, _ =>
      intro fin
      obtain ⟨h2, b1, b5, b6⟩ := lc_15 (n := j) (by omega) H15 (K := fun r h' => r = some (.int 1) ∧ jN h' ≤ 120 ∧ jEx h' ≤ 64) (i := nI (7 * j)) (u := u) (w := w) hI hN hXn hXs (nI_in_c (c := 1) (by omega) hL rfl)
      exact fin h2 u w (b1.1.trans hN) (b1.2.1.trans hXn) (b1.2.2.1.trans hXs) (by rw [b1.2.2.2]; omega) b5 b6
      | 16, _ =>
      intro fin
      obtain ⟨h2, b1, b5, b6⟩ := lc_16 (n := j) (by omega) H16 (K := fun r h' => r = some (.int 1) ∧ jN h' ≤ 120 ∧ jEx h' ≤ 64) (i := nI (7 * j)) (u := u) (w := w) hI hN hXn hXs 
      exact fin h2 u w (b1.1.trans hN) (b1.2.1.trans hXn) (b1.2.2.1.trans hXs) (by rw [b1.2.2.2]; omega) b5 b6
      | 17, _ =>
      intro fin
      obtain ⟨h2, b1, b5, b6⟩ := lc_17 (n := j) (by omega) H17 (K := fun r h' => r = some (.int 1) ∧ jN h' ≤ 120 ∧ jEx h' ≤ 64) (i := nI (7 * j)) (u := u) (w := w) hI hN hXn hXs (nI_in_c (c := 1) (by omega) hL rfl)
      exact fin h2 u w (b1.1.trans hN) (b1.2.1.trans hXn) (b1.2.2.1.trans hXs) (by rw [b1.2.2.2]; omega) b5 b6
      | 18, _ =>
      intro fin
      obtain ⟨h2, b1, b5, b6⟩ := lc_18 (n := j) (by omega) H18 (K := fun r h' => r = some (.int 1) ∧ jN h' ≤ 120 ∧ jEx h' ≤ 64) (i := nI (7 * j)) (u := u) (w := w) hI hN hXn hXs (nI_in_c (c := 1) (by omega) hL rfl) (nI_in_c (c := 2) (by omega) hL rfl)
      exact fin h2 u w (b1.1.trans hN) (b1.2.1.trans hXn) (b1.2.2.1.trans hXs) (by rw [b1.2.2.2]; omega) b5 b6
      | 19, _ =>
      intro fin
      obtain ⟨h2, b1, b5, b6⟩ := lc_19 (n := j) (by omega) H19 (K := fun r h' => r = some (.int 1) ∧ jN h' ≤ 120 ∧ jEx h' ≤ 64) (i := nI (7 * j)) (u := u) (w := w) hI hN hXn hXs (nI_in_c (c := 1) (by omega) hL rfl)
      exact fin h2 u w (b1.1.trans hN) (b1.2.1.trans hXn) (b1.2.2.1.trans hXs) (by rw [b1.2.2.2]; omega) b5 b6
      | 20, _ =>
      intro fin
      obtain ⟨h2, b1, b5, b6⟩ := lc_20 (n := j) (by omega) H20 (K := fun r h' => r = some (.int 1) ∧ jN h' ≤ 120 ∧ jEx h' ≤ 64) (i := nI (7 * j)) (u := u) (w := w) hI hN hXn hXs (nI_in_c (c := 1) (by omega) hL rfl) (nI_in_c (c := 2) (by omega) hL rfl)
      exact fin h2 u w (b1.1.trans hN) (b1.2.1.trans hXn) (b1.2.2.1.trans hXs) (by rw [b1.2.2.2]; omega) b5 b6
      | 21, _ =>
      intro fin
      obtain ⟨h2, b1, b5, b6⟩ := lc_21 (n := j) (by omega) H21 (K := fun r h' => r = some (.int 1) ∧ jN h' ≤ 120 ∧ jEx h' ≤ 64) (i := nI (7 * j)) (u := u) (w := w) hI hN hXn hXs (nI_in_c (c := 1) (by omega) hL rfl) (nI_in_c (c := 2) (by omega) hL rfl) (nI_in_c (c := 3) (by omega) hL rfl)
      exact fin h2 u w (b1.1.trans hN) (b1.2.1.trans hXn) (b1.2.2.1.trans hXs) (by rw [b1.2.2.2]; omega) b5 b6
      | 22, _ =>
      intro fin
      obtain ⟨h2, b1, b5, b6⟩ := lc_22 (n := j) (by omega) H22 (K := fun r h' => r = some (.int 1) ∧ jN h' ≤ 120 ∧ jEx h' ≤ 64) (i := nI (7 * j)) (u := u) (w := w) hI hN hXn hXs (nI_in_c (c := 1) (by omega) hL rfl)
      exact fin h2 u w (b1.1.trans hN) (b1.2.1.trans hXn) (b1.2.2.1.trans hXs) (by rw [b1.2.2.2]; omega) b5 b6
      | 23, _ =>
      intro fin
      obtain ⟨h2, b1, b5, b6⟩ := lc_23 (n := j) (by omega) H23 (K := fun r h' => r = some (.int 1) ∧ jN h' ≤ 120 ∧ jEx h' ≤ 64) (i := nI (7 * j)) (u := u) (w := w) hI hN hXn hXs (nI_in_c (c := 1) (by omega) hL rfl)
      exact fin h2 u w (b1.1.trans hN) (b1.2.1.trans hXn) (b1.2.2.1.trans hXs) (by rw [b1.2.2.2]; omega) b5 b6
      | 24, _ =>
      intro fin
      obtain ⟨h2, b1, b5, b6⟩ := lc_24 (n := j) (by omega) H24 (K := fun r h' => r = some (.int 1) ∧ jN h' ≤ 120 ∧ jEx h' ≤ 64) (i := nI (7 * j)) (u := u) (w := w) hI hN hXn hXs (nI_in_c (c := 1) (by omega) hL rfl)
      exact fin h2 u w (b1.1.trans hN) (b1.2.1.trans hXn) (b1.2.2.1.trans hXs) (by rw [b1.2.2.2]; omega) b5 b6
      | 25, _ =>
      intro fin
      obtain ⟨h2, b1, b5, b6⟩ := lc_25 (n := j) (by omega) H25 (K := fun r h' => r = some (.int 1) ∧ jN h' ≤ 120 ∧ jEx h' ≤ 64) (i := nI (7 * j)) (u := u) (w := w) hI hN hXn hXs (nI_in_c (c := 1) (by omega) hL rfl)
      exact fin h2 u w (b1.1.trans hN) (b1.2.1.trans hXn) (b1.2.2.1.trans hXs) (by rw [b1.2.2.2]; omega) b5 b6
      | 26, _ =>
      intro fin
      obtain ⟨h2, b1, b5, b6⟩ := lc_26 (n := j) (by omega) H26 (K := fun r h' => r = some (.int 1) ∧ jN h' ≤ 120 ∧ jEx h' ≤ 64) (i := nI (7 * j)) (u := u) (w := w) hI hN hXn hXs (nI_in_c (c := 1) (by omega) hL rfl)
      exact fin h2 u w (b1.1.trans hN) (b1.2.1.trans hXn) (b1.2.2.1.trans hXs) (by rw [b1.2.2.2]; omega) b5 b6
      | 27, _ =>
      intro fin
      obtain ⟨h2, b1, b5, b6⟩ := lc_27 (n := j) (by omega) H27 (K := fun r h' => r = some (.int 1) ∧ jN h' ≤ 120 ∧ jEx h' ≤ 64) (i := nI (7 * j)) (u := u) (w := w) hI hN hXn hXs 
      exact fin h2 u w (b1.1.trans hN) (b1.2.1.trans hXn) (b1.2.2.1.trans hXs) (by rw [b1.2.2.2]; omega) b5 b6
      | 28, _ =>
      intro fin
      obtain ⟨h2, b1, b5, b6⟩ := lc_28 (n := j) (by omega) H28 (K := fun r h' => r = some (.int 1) ∧ jN h' ≤ 120 ∧ jEx h' ≤ 64) (i := nI (7 * j)) (u := u) (w := w) hI hN hXn hXs 
      exact fin h2 u w (b1.1.trans hN) (b1.2.1.trans hXn) (b1.2.2.1.trans hXs) (by rw [b1.2.2.2]; omega) b5 b6
      | 29, _ =>
      intro fin
      obtain ⟨h2, b1, b5, b6⟩ := lc_29 (n := j) (by omega) H29 (K := fun r h' => r = some (.int 1) ∧ jN h' ≤ 120 ∧ jEx h' ≤ 64) (i := nI (7 * j)) (u := u) (w := w) hI hN hXn hXs (nI_in_c (c := 1) (by omega) hL rfl)
      exact fin h2 u w (b1.1.trans hN) (b1.2.1.trans hXn) (b1.2.2.1.trans hXs) (by rw [b1.2.2.2]; omega) b5 b6
      | 30, _ =>
      intro fin
      obtain ⟨h2, b1, b5, b6⟩ := lc_30 (n := j) (by omega) H30 (K := fun r h' => r = some (.int 1) ∧ jN h' ≤ 120 ∧ jEx h' ≤ 64) (i := nI (7 * j)) (u := u) (w := w) hI hN hXn hXs (nI_in_c (c := 1) (by omega) hL rfl)
      exact fin h2 u w (b1.1.trans hN) (b1.2.1.trans hXn) (b1.2.2.1.trans hXs) (by rw [b1.2.2.2]; omega) b5 b6
      | 31, _ =>
      intro fin
      obtain ⟨h2, b1, b5, b6⟩ := lc_31 (n := j) (by omega) H31 (K := fun r h' => r = some (.int 1) ∧ jN h' ≤ 120 ∧ jEx h' ≤ 64) (i := nI (7 * j)) (u := u) (w := w) hI hN hXn hXs 
      exact fin h2 u w (b1.1.trans hN) (b1.2.1.trans hXn) (b1.2.2.1.trans hXs) (by rw [b1.2.2.2]; omega) b5 b6
      | 32, _ =>
      intro fin
      obtain ⟨h2, u2, w2, b1, b2, b3, b4, b5, b6⟩ := lc_32 (n := j) (by omega) H32 ho hxp (K := fun r h' => r = some (.int 1) ∧ jN h' ≤ 120 ∧ jEx h' ≤ 64) (i := nI (7 * j)) (u := u) (w := w) hI hN hXn hXs (nI_in_c (c := 1) (by omega) hL rfl) (nI_in_c (c := 2) (by omega) hL rfl) (nI_in_c (c := 3) (by omega) hL rfl) (nI_in_c (c := 4) (by omega) hL rfl)
      exact fin h2 u2 w2 b1 b2 b3 (by omega) b5 b6
      | 33, _ =>
      intro fin
      obtain ⟨h2, b1, b5, b6⟩ := lc_33 (n := j) (by omega) H33 (K := fun r h' => r = some (.int 1) ∧ jN h' ≤ 120 ∧ jEx h' ≤ 64) (i := nI (7 * j)) (u := u) (w := w) hI hN hXn hXs (nI_in_c (c := 1) (by omega) hL rfl) (nI_in_c (c := 2) (by omega) hL rfl) (nI_in_c (c := 3) (by omega) hL rfl)
      exact fin h2 u w (b1.1.trans hN) (b1.2.1.trans hXn) (b1.2.2.1.trans hXs) (by rw [b1.2.2.2]; omega) b5 b6
      | 34, _ =>
      intro fin
      obtain ⟨h2, b1, b5, b6⟩ := lc_34 (n := j) (by omega) H34 (K := fun r h' => r = some (.int 1) ∧ jN h' ≤ 120 ∧ jEx h' ≤ 64) (i := nI (7 * j)) (u := u) (w := w) hI hN hXn hXs (nI_in_c (c := 1) (by omega) hL rfl) (nI_in_c (c := 2) (by omega) hL rfl)
      exact fin h2 u w (b1.1.trans hN) (b1.2.1.trans hXn) (b1.2.2.1.trans hXs) (by rw [b1.2.2.2]; omega) b5 b6
      | 35, _ =>
      intro fin
      obtain ⟨h2, b1, b5, b6⟩ := lc_35 (n := j) (by omega) H35 (K := fun r h' => r = some (.int 1) ∧ jN h' ≤ 120 ∧ jEx h' ≤ 64) (i := nI (7 * j)) (u := u) (w := w) hI hN hXn hXs (nI_in_c (c := 1) (by omega) hL rfl)
      exact fin h2 u w (b1.1.trans hN) (b1.2.1.trans hXn) (b1.2.2.1.trans hXs) (by rw [b1.2.2.2]; omega) b5 b6
      | k + 36, hk =>
      intro fin
      have e36 : jSwT.getD (k + 36) 1429 = 1429 := rfl
      exact fin h u w hN hXn hXs (by omega) (hmo j h hI) (by rw [e36])
