/-! how many bits of a long -/
def lus (x : Int64) (k : Nat) : Int64 := (x.toUInt64 >>> ((nI k).toInt64.toUInt64 &&& Int64.toUInt64 63)).toInt64
def lc1 (x : Int64) : Int64 := x - (lus x 1 &&& 6148914691236517205)
def lc2 (x : Int64) : Int64 := (x &&& 3689348814741910323) + (lus x 2 &&& 3689348814741910323)
def lc3 (x : Int64) : Int64 := (x + lus x 4) &&& 1085102592571150095
def lc4 (x : Int64) (k : Nat) : Int64 := x + lus x k
def lcV (x : Int64) : Int32 := (lc4 (lc4 (lc4 (lc3 (lc2 (lc1 x))) 8) 16) 32).toInt32 &&& 127
set_option maxRecDepth 100000 in
set_option maxHeartbeats 4000000 in
theorem J_lc {d : Nat} {h : jM} {K : Option Value → jM → Prop} {x : Int64} : jCl d 284 [.long x] h K = K (some (.int (lcV x))) h := by
  simp only [jMI_i, jML_l, jMA_a, jSum_n, jSum_i, jSum_a, jSum_l, jGet_0, jPut_0, jGet_1, jPut_1i, jPut_1a, jPut_1n, jPut_1l, jGet_2, jPut_2i, jPut_2a, jPut_2n, jPut_2l, jGet_3, jPut_3i, jPut_3a, jPut_3n, jPut_3l, jGet_4, jPut_4i, jPut_4a, jPut_4n, jPut_4l, jGet_5, jPut_5i, jPut_5a, jPut_5n, jPut_5l, jGet_6, jPut_6i, jPut_6a, jPut_6n, jPut_6l, jGet_7, jPut_7i, jPut_7a, jPut_7n, jPut_7l, jGet_8, jPut_8i, jPut_8a, jPut_8n, jPut_8l, jGet_9, jPut_9i, jPut_9a, jPut_9n, jPut_9l, jGet_10, jPut_10i, jPut_10a, jPut_10n, jPut_10l, jGet_11, jPut_11i, jPut_11a, jPut_11n, jPut_11l, jGet_12, jPut_12i, jPut_12a, jPut_12n, jPut_12l, jPut2_e, jSet_1, jSet_2, jSet_3, jSet_4, jSet_5, jSet_6, jSet_7, jSet_8, jSet_9, jSet_10, jSet_11, jSet_12, go_bipush_m2, go_bipush_10, go_bipush_11, go_bipush_12, go_bipush_120, go_bipush_122, go_bipush_126, go_bipush_127, go_bipush_13, go_bipush_14, go_bipush_15, go_bipush_16, go_bipush_17, go_bipush_20, go_bipush_21, go_bipush_22, go_bipush_24, go_bipush_25, go_bipush_26, go_bipush_29, go_bipush_30, go_bipush_32, go_bipush_40, go_bipush_44, go_bipush_48, go_bipush_56, go_bipush_57, go_bipush_59, go_bipush_6, go_bipush_60, go_bipush_63, go_bipush_64, go_bipush_7, go_bipush_75, go_bipush_8, go_bipush_9, go_bipush_96, go_bipush_97, go_bipush_99, go_iconst_m1, go_iconst_0, go_iconst_1, go_iconst_2, go_iconst_3, go_iconst_4, go_iconst_5, go_iinc_m1, go_iinc_m8, go_iinc_1, go_iinc_7, go_sipush_1000, go_sipush_1002, go_sipush_128, go_sipush_132, go_sipush_185, go_sipush_2040, go_sipush_2047, go_sipush_240, go_sipush_255, go_sipush_289, go_sipush_4913, go_sipush_609, go_sipush_625, go_sipush_638, go_sipush_9999, go_lconst_0, go_lconst_1, go_ldc, go_ldcs, go_ldcw, go_ldc2_0, go_ldc2_1, go_ldc2_2, go_ldc2_3, go_ldc2_4, go_ldc2_5, go_ldc2_6, go_ldc2_7, go_ldc2_8, go_ldc2_9, go_ldc2_10, go_ldc2_11, go_ldc2_12, go_ldc2_13, go_ldc2_14, go_ldc2_15, go_ldc2_16, go_ldc2_17, go_ldc2_18, go_ldc2_19, go_ldc2_20, go_ldc2_21, go_ldc2_22, go_ldc2_23, go_ldc2_24, go_ldc2_25, go_ldc2_26, go_ldc2_27, go_ldc2_28, go_ldc2_29, go_ldc2_30, go_ldc2_31, go_ldc2_32, go_ldc2_33, go_ldc2_34, go_ldc2_35, jCI_0, jCI_1, jCI_2, jCI_3, go_iload, go_iload_n, go_lload, go_lload_n, go_aload, go_aload_n, go_istore, go_istore_n, go_lstore, go_lstore_n, go_astore, go_astore_n, go_iadd, go_isub, go_imul, go_iand, go_ior, go_ixor, go_ishl, go_ishr, go_iushr, go_idiv, go_irem, go_ldiv, go_lrem, go_ineg, go_i2l, go_i2c, go_l2i, go_ladd, go_lsub, go_lmul, go_land, go_lor, go_lxor, go_lcmp, go_lshl, go_lshr, go_lushr, go_dup_i, go_dup_a, go_pop_i, go_pop_a, go_dup2, go_getstatic, go_getf_i, go_getf_z, go_getf_l, go_getf_a, go_putf_i, go_putf_l, go_putf_z, go_putf_a, go_iald, go_iald1, go_iald2, go_alen, go_alen2, go_cald, go_bald, go_lald, go_aald, go_iast, go_cast, go_bast, go_last, go_aast, go_new, go_newa, go_anew, go_objinit, go_max, go_min, go_strlen, go_charat, go_acopy, go_rests, go_goto, go_if_eq, go_ic_eq, go_if_ne, go_ic_ne, go_if_lt, go_ic_lt, go_if_ge, go_ic_ge, go_if_gt, go_ic_gt, go_if_le, go_ic_le, go_sw, go_ret, go_lret, go_aret, Nat.reduceAdd, Nat.reduceLT, Nat.reduceLeDiff, Nat.reduceEqDiff, Nat.reduceSub, and_true, true_and, if_true, if_false, and_self, Option.toList_some, Option.toList_none, List.cons_append, List.nil_append, List.length_cons, List.length_nil, Fin.isValue, Fin.reduceFinMk, Fin.val_zero, Fin.val_one, Fin.val_two, jFin3, jI_jsI, jI_jsL, jI_jsR, jL_jsI, jL_jsL, jL_jsR, jR_jsI, jR_jsL, jR_jsR, jN_jsI, jN_jsL, jN_jsR, jXn_jsI, jXn_jsL, jXn_jsR, jXs_jsI, jXs_jsL, jXs_jsR, jEx_jsI, jEx_jsL, jEx_jsR, jI_jXp, jL_jXp, jR_jXp, jN_jXp, jXn_jXp, jXs_jXp, jEx_jXp, jb_284_0, rt_284, en_284, js_0, js_1, js_2, js_3, js_4, js_5, js_6, js_7, js_8, js_9, js_10, js_11, js_12, js_13, js_14, js_15, js_16, js_17, js_18, js_19, js_20, js_21, js_22, js_23, js_24, js_25, js_26, js_27, js_28, js_29, js_30, js_31, js_32, js_33, js_34, js_35, js_36, js_37, js_38, js_39, js_40, js_41, js_42, js_43, js_44, js_45, js_46, js_47, js_48, js_49, js_50, js_51, js_52, js_53, js_54, js_55, js_56, js_57, js_58, js_59, js_60, js_61, js_62, js_63, js_64, js_65, js_66, js_67, js_68, js_69, js_70, js_71, js_72, js_73, js_74, js_75, js_76, js_77, js_78, js_79, js_80, js_81, js_82, js_83, js_84, js_85, js_86, js_87, js_88, js_89, js_90, js_91, js_92, js_93, js_94, js_95, js_96, js_97, js_98, js_99, js_100, js_101, js_102, js_103, js_104, js_105, js_106, js_107, js_108, js_109, js_110, js_111, js_112, js_113, js_114, js_115, js_116, js_117, js_118, js_119]
  rfl
/-- a byte, so many times -/
def mkB (c : Nat) : Nat → Nat
  | 0 => 0
  | k + 1 => c + 256 * mkB c k
theorem mkB_s {c k : Nat} : mkB c (k + 1) = c + 256 * mkB c k := rfl
theorem and_s {x0 x1 y0 y1 : Nat} (hx : x0 < 256) (hy : y0 < 256) : (x0 + 256 * x1) &&& (y0 + 256 * y1) = (x0 &&& y0) + 256 * (x1 &&& y1) := by
  have e1 : ((x0 + 256 * x1) &&& (y0 + 256 * y1)) % 2 ^ 8 = x0 &&& y0 := by
    rw [Nat.and_mod_two_pow]
    congr 1 <;> omega
  have e2 : ((x0 + 256 * x1) &&& (y0 + 256 * y1)) / 2 ^ 8 = x1 &&& y1 := by
    rw [Nat.and_div_two_pow]
    congr 1 <;> omega
  omega
def n1 (k n : Nat) : Nat := n - (n / 2 &&& mkB 85 k)
def n2 (k n : Nat) : Nat := (n &&& mkB 51 k) + (n / 4 &&& mkB 51 k)
def n3 (k n : Nat) : Nat := (n + n / 16) &&& mkB 15 k
def b1 (a : Nat) : Nat := a - (a / 2 &&& 85)
def b2 (a : Nat) : Nat := (a &&& 51) + (a / 4 &&& 51)
theorem bA : ∀ a, a < 256 → ∀ e, e < 2 → (a / 2 + 128 * e) &&& 85 = a / 2 &&& 85 := by decide +kernel
theorem bB : ∀ a, a < 256 → ∀ e, e < 4 → (a / 4 + 64 * e) &&& 51 = a / 4 &&& 51 := by decide +kernel
theorem bC : ∀ a, a < 256 → b1 a < 256 ∧ b2 (b1 a) < 256 ∧ b2 (b1 a) % 16 ≤ 4 ∧ b2 (b1 a) / 16 ≤ 4 := by decide +kernel
theorem bD : ∀ a, a < 256 → ∀ e, e < 5 → (b2 (b1 a) + b2 (b1 a) / 16 + 16 * e) &&& 15 = ct (fun i => a.testBit i) 8 0 := by decide +kernel
theorem n1_s {k a m : Nat} (ha : a < 256) : n1 (k + 1) (a + 256 * m) = b1 a + 256 * n1 k m := by
  have e : (a + 256 * m) / 2 = (a / 2 + 128 * (m % 2)) + 256 * (m / 2) := by omega
  unfold n1 b1
  rw [mkB_s, e, and_s (by omega) (by omega), bA a ha _ (by omega)]
  have := Nat.and_le_left (n := a / 2) (m := 85)
  have := Nat.and_le_left (n := m / 2) (m := mkB 85 k)
  omega
theorem n2_s {k a m : Nat} (ha : a < 256) : n2 (k + 1) (a + 256 * m) = b2 a + 256 * n2 k m := by
  have e : (a + 256 * m) / 4 = (a / 4 + 64 * (m % 4)) + 256 * (m / 4) := by omega
  unfold n2 b2
  rw [mkB_s, e, and_s (by omega) (by omega), and_s (by omega) (by omega), bB a ha _ (by omega)]
  omega
def nF (k n : Nat) : Nat := n3 k (n2 k (n1 k n))
theorem n21_0 {m : Nat} : n2 0 m = 0 := by unfold n2 mkB; simp
theorem n2_4 {k m : Nat} : n2 k (n1 k m) % 16 ≤ 4 := by
  cases k with
  | zero => rw [n21_0]; omega
  | succ k =>
    have e : m = m % 256 + 256 * (m / 256) := by omega
    rw [e, n1_s (by omega), n2_s (bC _ (by omega)).1]
    have := (bC (m % 256) (by omega)).2.2.1
    omega
theorem nF_s {k a m : Nat} (ha : a < 256) : nF (k + 1) (a + 256 * m) = ct (fun i => a.testBit i) 8 0 + 256 * nF k m := by
  obtain ⟨c1, c2, c3, c4⟩ := bC a ha
  unfold nF
  rw [n1_s ha, n2_s c1]
  have c5 := n2_4 (k := k) (m := m)
  have d := fun e he => bD a ha e he
  generalize n2 k (n1 k m) = y at *
  generalize b2 (b1 a) = x at *
  have e : x + 256 * y + (x + 256 * y) / 16 = (x + x / 16 + 16 * (y % 16)) + 256 * (y + y / 16) := by omega
  unfold n3
  rw [mkB_s, e, and_s (by omega) (by omega), d _ (by omega)]
theorem nF_0 {m : Nat} : nF 0 m = 0 := by unfold nF n3 mkB; simp
theorem ct_tb {n : Nat} : ∀ (m k : Nat), ct (fun i => n.testBit i) m (8 + k) = ct (fun i => (n / 256).testBit i) m k := by
  intro m
  induction m with
  | zero => intro k; rfl
  | succ m ih =>
    intro k
    unfold ct
    rw [Nat.add_assoc, ih, show (256 : Nat) = 2 ^ 8 from rfl, Nat.testBit_div_two_pow, Nat.add_comm k 8]
theorem ct_tl {n : Nat} : ct (fun i => n.testBit i) 8 0 = ct (fun i => (n % 256).testBit i) 8 0 := ct_cg 8 0 (fun i _ hi => by
  show n.testBit i = (n % 2 ^ 8).testBit i
  rw [Nat.testBit_mod_two_pow, decide_eq_true (by omega), Bool.true_and])
theorem ct_s8 {n m : Nat} : ct (fun i => n.testBit i) (8 + m) 0 = ct (fun i => (n % 256).testBit i) 8 0 + ct (fun i => (n / 256).testBit i) m 0 := by
  rw [ct_add, ct_tl, Nat.zero_add, show (8 : Nat) = 8 + 0 from rfl, ct_tb]
theorem nF_e {k n : Nat} : nF (k + 1) n = ct (fun i => (n % 256).testBit i) 8 0 + 256 * nF k (n / 256) := by
  have e : n = n % 256 + 256 * (n / 256) := by omega
  have z := nF_s (k := k) (a := n % 256) (m := n / 256) (by omega)
  rw [← e] at z
  exact z
theorem s8a {p r : Nat} (h : p < 256) : (p + 256 * r) / 256 = r := by omega
theorem s8b {p r : Nat} (h : p < 65536) : (p + 65536 * r) / 65536 = r := by omega
theorem s8c {p r : Nat} (h : p < 4294967296) : (p + 4294967296 * r) / 4294967296 = r := by omega
theorem s8d {p r : Nat} (h : p ≤ 64) : (p + 256 * r) % 128 = p := by omega
theorem sum8 {p0 p1 p2 p3 p4 p5 p6 p7 r0 r1 r2 r3 r4 r5 r6 r7 : Nat} (h0 : p0 ≤ 8) (h1 : p1 ≤ 8) (h2 : p2 ≤ 8) (h3 : p3 ≤ 8) (h4 : p4 ≤ 8) (h5 : p5 ≤ 8) (h6 : p6 ≤ 8) (h7 : p7 ≤ 8) (e7 : r7 = p7) (e6 : r6 = p6 + 256 * r7) (e5 : r5 = p5 + 256 * r6) (e4 : r4 = p4 + 256 * r5) (e3 : r3 = p3 + 256 * r4) (e2 : r2 = p2 + 256 * r3) (e1 : r1 = p1 + 256 * r2) (e0 : r0 = p0 + 256 * r1) : r0 / 256 = r1 ∧ (r0 + r1) / 65536 = r2 + r3 ∧ (r0 + r1 + (r2 + r3)) / 4294967296 = r4 + r5 + (r6 + r7) ∧ (r0 + r1 + (r2 + r3) + (r4 + r5 + (r6 + r7))) % 128 = p0 + (p1 + (p2 + (p3 + (p4 + (p5 + (p6 + p7)))))) := by
  refine ⟨?_, ?_, ?_, ?_⟩
  · rw [e0, s8a (by omega)]
  · have z : r0 + r1 = (p0 + p1 + 256 * (p1 + p2)) + 65536 * (r2 + r3) := by
      clear e7 e6 e5 e4 e3
      omega
    rw [z, s8b (by omega)]
  · have z : r0 + r1 + (r2 + r3) = (p0 + p1 + p2 + p3 + 256 * (p1 + p2 + p3 + p4) + 65536 * (p2 + p3 + p4 + p5) + 16777216 * (p3 + p4 + p5 + p6)) + 4294967296 * (r4 + r5 + (r6 + r7)) := by
      clear e7 h0 h1 h2 h3 h4 h5 h6 h7
      subst e0 e1 e2 e3 e4 e5 e6
      omega
    rw [z, s8c (by clear z e7 e6 e5 e4 e3 e2 e1 e0; omega)]
  · have z : r0 + r1 + (r2 + r3) + (r4 + r5 + (r6 + r7)) = (p0 + (p1 + (p2 + (p3 + (p4 + (p5 + (p6 + p7))))))) + 256 * (r1 + r2 + r3 + r4 + r5 + r6 + r7) := by
      clear h0 h1 h2 h3 h4 h5 h6 h7
      rw [e0]
      generalize hp : p0 = a0
      rw [Nat.mul_add, Nat.mul_add, Nat.mul_add, Nat.mul_add, Nat.mul_add, Nat.mul_add]
      have f1 := e1
      have f2 := e2
      have f3 := e3
      have f4 := e4
      have f5 := e5
      have f6 := e6
      generalize 256 * r1 = a1 at *
      generalize 256 * r2 = a2 at *
      generalize 256 * r3 = a3 at *
      generalize 256 * r4 = a4 at *
      generalize 256 * r5 = a5 at *
      generalize 256 * r6 = a6 at *
      generalize 256 * r7 = a7 at *
      omega
    rw [z, s8d (by clear z e7 e6 e5 e4 e3 e2 e1 e0; omega)]
theorem bnd8 {p0 p1 p2 p3 p4 p5 p6 p7 r0 r1 r2 r3 r4 r5 r6 r7 : Nat} (h0 : p0 ≤ 8) (h1 : p1 ≤ 8) (h2 : p2 ≤ 8) (h3 : p3 ≤ 8) (h4 : p4 ≤ 8) (h5 : p5 ≤ 8) (h6 : p6 ≤ 8) (h7 : p7 ≤ 8) (e7 : r7 = p7) (e6 : r6 = p6 + 256 * r7) (e5 : r5 = p5 + 256 * r6) (e4 : r4 = p4 + 256 * r5) (e3 : r3 = p3 + 256 * r4) (e2 : r2 = p2 + 256 * r3) (e1 : r1 = p1 + 256 * r2) (e0 : r0 = p0 + 256 * r1) : r0 < 2 ^ 60 ∧ r0 + r1 < 2 ^ 61 ∧ r0 + r1 + (r2 + r3) < 2 ^ 62 ∧ r0 + r1 + (r2 + r3) + (r4 + r5 + (r6 + r7)) < 2 ^ 63 := by
  have b7 : r7 < 2 ^ 4 := by clear e6 e5 e4 e3 e2 e1 e0; omega
  clear e7
  have b6 : r6 < 2 ^ 12 := by clear e5 e4 e3 e2 e1 e0; omega
  clear e6
  have b5 : r5 < 2 ^ 20 := by clear e4 e3 e2 e1 e0; omega
  clear e5
  have b4 : r4 < 2 ^ 28 := by clear e3 e2 e1 e0; omega
  clear e4
  have b3 : r3 < 2 ^ 36 := by clear e2 e1 e0; omega
  clear e3
  have b2 : r2 < 2 ^ 44 := by clear e1 e0; omega
  clear e2
  have b1 : r1 < 2 ^ 52 := by clear e0; omega
  clear e1
  have b0 : r0 < 2 ^ 60 := by omega
  clear e0
  omega
