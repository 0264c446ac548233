/-! the game: whether it is not found out in so many rounds -/
def exB (f : Nat → Bool) : Nat → Nat → Bool
  | 0, _ => false
  | n + 1, k => f k || exB f n (k + 1)
def alB (f : Nat → Bool) : Nat → Nat → Bool
  | 0, _ => true
  | n + 1, k => f k && alB f n (k + 1)
theorem exB_iff {f : Nat → Bool} : ∀ {n k : Nat}, exB f n k = true ↔ ∃ i, k ≤ i ∧ i < k + n ∧ f i = true
  | 0, k => by simp [exB]; omega
  | n + 1, k => by
    rw [exB, Bool.or_eq_true, exB_iff]
    constructor
    · rintro (h | ⟨i, h1, h2, h3⟩)
      · exact ⟨k, Nat.le_refl _, by omega, h⟩
      · exact ⟨i, by omega, by omega, h3⟩
    · rintro ⟨i, h1, h2, h3⟩
      by_cases c : i = k
      · subst c; exact Or.inl h3
      · exact Or.inr ⟨i, by omega, by omega, h3⟩
theorem alB_iff {f : Nat → Bool} : ∀ {n k : Nat}, alB f n k = true ↔ ∀ i, k ≤ i → i < k + n → f i = true
  | 0, k => by simp [alB]; omega
  | n + 1, k => by
    rw [alB, Bool.and_eq_true, alB_iff]
    constructor
    · rintro ⟨h, h2⟩ i h3 h4
      by_cases c : i = k
      · subst c; exact h
      · exact h2 i (by omega) (by omega)
    · intro h
      exact ⟨h k (Nat.le_refl _) (by omega), fun i h1 h2 => h i (by omega) (by omega)⟩
theorem exB_cg {f f2 : Nat → Bool} : ∀ {n k : Nat}, (∀ i, k ≤ i → i < k + n → f i = f2 i) → exB f n k = exB f2 n k
  | 0, _, _ => rfl
  | n + 1, k, h => by rw [exB, exB, h k (Nat.le_refl _) (by omega), exB_cg (fun i h1 h2 => h i (by omega) (by omega))]
theorem alB_cg {f f2 : Nat → Bool} : ∀ {n k : Nat}, (∀ i, k ≤ i → i < k + n → f i = f2 i) → alB f n k = alB f2 n k
  | 0, _, _ => rfl
  | n + 1, k, h => by rw [alB, alB, h k (Nat.le_refl _) (by omega), alB_cg (fun i h1 h2 => h i (by omega) (by omega))]
def o1 (t w k : Nat) : Nat := if t = 0 then w else k
def o2 (t w k : Nat) : Nat := if t = 0 then k else w
/-- w of town t is pointed at: an answer k -/
def hA1 (T U : kT) (H : (Nat → Nat) → Bool) (p : Nat → Nat) (t w k : Nat) : Bool := fr p (1 - t) k && (ft T U p (o1 t w k) (o2 t w k) && H (uN1 p (o1 t w k) (o2 t w k + 1)))
def hAn (T U : kT) (H : (Nat → Nat) → Bool) (p : Nat → Nat) (t w : Nat) : Bool := exB (hA1 T U H p t w) (fk T U (1 - t)) 0
def hS1 (T U : kT) (H : (Nat → Nat) → Bool) (p : Nat → Nat) (t w : Nat) : Bool := !fr p t w || hAn T U H p t w
def hSd (T U : kT) (sd : Nat) (H : (Nat → Nat) → Bool) (p : Nat → Nat) (t : Nat) : Bool := !sd.testBit t || alB (hS1 T U H p t) (fk T U t) 0
def hold (T U : kT) (sd : Nat) : Nat → (Nat → Nat) → Bool
  | 0 => fun _ => true
  | r + 1 => fun p => hSd T U sd (hold T U sd r) p 0 && hSd T U sd (hold T U sd r) p 1
theorem hA1_mo {T : kT} {U : kT} {t : Nat} {w : Nat} {k : Nat} {p : Nat → Nat} {H H2 : (Nat → Nat) → Bool} (hh : ∀ x, H x = true → H2 x = true) (h : hA1 T U H p t w k = true) : hA1 T U H2 p t w k = true := by
  simp only [hA1, Bool.and_eq_true] at h ⊢
  exact ⟨h.1, h.2.1, hh _ h.2.2⟩
theorem hAn_mo {T : kT} {U : kT} {t : Nat} {w : Nat} {p : Nat → Nat} {H H2 : (Nat → Nat) → Bool} (hh : ∀ x, H x = true → H2 x = true) (h : hAn T U H p t w = true) : hAn T U H2 p t w = true := by
  unfold hAn at h ⊢
  rw [exB_iff] at h ⊢
  obtain ⟨i, h1, h2, h3⟩ := h
  exact ⟨i, h1, h2, hA1_mo hh h3⟩
theorem hSd_mo {T : kT} {U : kT} {sd : Nat} {t : Nat} {p : Nat → Nat} {H H2 : (Nat → Nat) → Bool} (hh : ∀ x, H x = true → H2 x = true) (h : hSd T U sd H p t = true) : hSd T U sd H2 p t = true := by
  simp only [hSd, Bool.or_eq_true] at h ⊢
  rcases h with h | h
  · exact Or.inl h
  · refine Or.inr ?_
    rw [alB_iff] at h ⊢
    intro i h1 h2
    have := h i h1 h2
    simp only [hS1, Bool.or_eq_true] at this ⊢
    rcases this with z | z
    · exact Or.inl z
    · exact Or.inr (hAn_mo hh z)
theorem hold_s {T : kT} {U : kT} {sd : Nat} : ∀ (r : Nat) (p : Nat → Nat), hold T U sd (r + 1) p = true → hold T U sd r p = true := by
  intro r
  induction r with
  | zero => intro p _; rfl
  | succ r ih =>
    intro p h
    simp only [hold, Bool.and_eq_true] at h ⊢
    exact ⟨hSd_mo ih h.1, hSd_mo ih h.2⟩
theorem hold_le {T : kT} {U : kT} {sd : Nat} {r : Nat} {r2 : Nat} {p : Nat → Nat} (hr : r ≤ r2) (h : hold T U sd r2 p = true) : hold T U sd r p = true := by
  induction r2 with
  | zero => have e : r = 0 := by omega
            subst e; exact h
  | succ r2 ih =>
    by_cases c : r = r2 + 1
    · subst c; exact h
    · exact ih (by omega) (hold_s r2 p h)
/-! the board's memory of what lasts: of this age alone -/
def p4 (p : Nat → Nat) : Prop := ∀ i, 4 ≤ i → p i = 0
theorem pC_inj {T : kT} {U : kT} {p : Nat → Nat} {p2 : Nat → Nat} (h1 : pv T U p) (h2 : pv T U p2) (u4 : tF U ≤ 4) (a : p4 p) (b : p4 p2) (e : pC p = pC p2) : p = p2 := by
  have x0 := Nat.le_trans (h1.1 0 (by omega)) u4
  have x1 := Nat.le_trans (h1.1 1 (by omega)) u4
  have x2 := Nat.le_trans (h1.1 2 (by omega)) u4
  have x3 := Nat.le_trans (h1.1 3 (by omega)) u4
  have y0 := Nat.le_trans (h2.1 0 (by omega)) u4
  have y1 := Nat.le_trans (h2.1 1 (by omega)) u4
  have y2 := Nat.le_trans (h2.1 2 (by omega)) u4
  have y3 := Nat.le_trans (h2.1 3 (by omega)) u4
  unfold pC at e
  funext i
  by_cases c : i < 4
  · rcases k4c c with rfl | rfl | rfl | rfl <;> omega
  · rw [a i (by omega), b i (by omega)]
theorem pC_lt {T : kT} {U : kT} {p : Nat → Nat} (h1 : pv T U p) (u4 : tF U ≤ 4) : pC p < 625 := by
  have x0 := Nat.le_trans (h1.1 0 (by omega)) u4
  have x1 := Nat.le_trans (h1.1 1 (by omega)) u4
  have x2 := Nat.le_trans (h1.1 2 (by omega)) u4
  have x3 := Nat.le_trans (h1.1 3 (by omega)) u4
  unfold pC
  omega
def MV (h : jM) (T U : kT) (sd a : Nat) : Prop := ∀ p, pv T U p → p4 p → jI h 78 (pC p) = nI a → ∃ l e, l ≤ 1000 ∧ e ≤ 1000 ∧ jI h 76 (pC p) = nI l ∧ jI h 77 (pC p) = nI e ∧ hold T U sd l p = true ∧ (e < 1000 → hold T U sd e p = false)
def AG (h : jM) (a : Nat) : Prop := jI h 70 10 = nI a ∧ a < 1000000 ∧ ∀ c, c < 625 → ∃ x, x ≤ a ∧ jI h 78 c = nI x
def GB (h : jM) (q : kQ) (T U : kT) (sd a : Nat) (p : Nat → Nat) : Prop := BD h q T U p ∧ p4 p ∧ (jI h 70 6 = nI sd ∧ sd < 4) ∧ AG h a ∧ MV h T U sd a
def fH (h h' : jM) : Prop := fI [70, 74, 75, 76, 77, 78] h h' ∧ (∀ k, k ≠ 4 → jI h' 70 k = jI h 70 k) ∧ ∀ c, jI h 78 c = jI h 70 10 → jI h' 78 c = jI h 70 10
theorem fH.rf {h : jM} : fH h h := ⟨fI.rf, fun _ _ => rfl, fun _ e => e⟩
theorem fH.tr {h : jM} {h1 : jM} {h2 : jM} (a : fH h h1) (b : fH h1 h2) : fH h h2 := ⟨a.1.tr b.1, fun k hk => (b.2.1 k hk).trans (a.2.1 k hk), fun c e => (b.2.2 c ((a.2.2 c e).trans (a.2.1 10 (by omega)).symm)).trans (a.2.1 10 (by omega))⟩
theorem fP.h {h : jM} {h1 : jM} (a : fP h h1) : fH h h1 := ⟨a.1.mo (by simp), a.2, fun c e => by rw [a.1.i (by simp)]; exact e⟩
theorem fP.gb {h : jM} {h1 : jM} {q : kQ} {T : kT} {U : kT} {sd : Nat} {a : Nat} {p : Nat → Nat} {p2 : Nat → Nat} (m : GB h q T U sd a p) (f : fP h h1) (b : BD h1 q T U p2) (h4 : p4 p2) : GB h1 q T U sd a p2 := by
  obtain ⟨-, -, m3, m4, m5⟩ := m
  refine ⟨b, h4, ⟨by rw [f.2 6 (by omega)]; exact m3.1, m3.2⟩, ⟨by rw [f.2 10 (by omega)]; exact m4.1, m4.2.1, fun c hc => ?_⟩, fun x h1 h2 h3 => ?_⟩
  · rw [f.1.i (by simp)]; exact m4.2.2 c hc
  · rw [f.1.i (by simp)] at h3
    obtain ⟨l, e, z⟩ := m5 x h1 h2 h3
    refine ⟨l, e, z.1, z.2.1, ?_, ?_, z.2.2.2.2⟩
    · rw [f.1.i (by simp)]; exact z.2.2.1
    · rw [f.1.i (by simp)]; exact z.2.2.2.1
theorem p4_u {p : Nat → Nat} {f : Nat} {v : Nat} (h : p4 p) (hf : f < 4) : p4 (uN1 p f v) := fun i hi => by rw [uN1_n (by omega)]; exact h i hi
/-- what is owed of so many rounds -/
def hP (q : kQ) (T U : kT) (sd a r : Nat) : Prop := ∀ (D : Nat) (h : jM) (p : Nat → Nat), 4 * r + 3 ≤ D → GB h q T U sd a p → ∃ h', (∀ K, jCl D 17 [.ref 70, .int (nI r)] h K = K (some (.int (bZ (hold T U sd r p)))) h') ∧ GB h' q T U sd a p ∧ fH h h'
set_option maxRecDepth 100000 in
set_option maxHeartbeats 4000000 in
theorem B_hw {q : kQ} {T : kT} {U : kT} {sd : Nat} {a : Nat} {r : Nat} {D : Nat} {h : jM} {p : Nat → Nat} {f : Nat} {o : Nat} (P : hP q T U sd a r) (hD : 4 * r + 4 ≤ D) (m : GB h q T U sd a p) (hf : f < tF T) (ho : o < tF U) (h0 : p f = 0) (h1 : pLk p o = 0) : ∃ h', (∀ K, jCl D 20 [.ref 70, .int (nI f), .int (nI o), .int (nI r)] h K = K (some (.int (bZ (hold T U sd r (uN1 p f (o + 1)))))) h') ∧ GB h' q T U sd a p ∧ fH h h' := by
  obtain ⟨D, rfl⟩ : ∃ E, D = E + 1 := ⟨D - 1, by omega⟩
  have b := m.1
  have g := b.g
  have f4 : f < 4 := Nat.lt_of_lt_of_le hf b.oT.f
  have o4 : o < 4 := Nat.lt_of_lt_of_le ho b.oU.f
  have b1 := BD_place b hf ho h0 h1
  have m1 := mPl_f.gb m b1 (p4_u m.2.1 f4)
  obtain ⟨h2, e2, m2, f2⟩ := P D _ _ (by omega) m1
  have b3 := BD_take m2.1 f4 uN1_s
  rw [uN1_back h0] at b3
  have m3 := mTk_f.gb m2 b3 m.2.1
  refine ⟨_, fun K => ?_, m3, (mPl_f.h.tr f2).tr mTk_f.h⟩
  have g2 := m2.1.g
  have n1 : jN (mPl h p f o) = 120 := b1.g.1
  have n2 : jR (mPl h p f o) = rF q := b1.g.2
  have n3 : jN (mTk h2 (uN1 p f (o + 1)) f o) = 120 := b3.g.1
  simp (disch := omega) only [jMI_i, jML_l, jMA_a, jSum_n, jSum_i, jSum_a, jSum_l, jGet_0, jPut_0, jGet_1, jPut_1i, jPut_1a, jPut_1n, jPut_1l, jGet_2, jPut_2i, jPut_2a, jPut_2n, jPut_2l, jGet_3, jPut_3i, jPut_3a, jPut_3n, jPut_3l, jGet_4, jPut_4i, jPut_4a, jPut_4n, jPut_4l, jGet_5, jPut_5i, jPut_5a, jPut_5n, jPut_5l, jGet_6, jPut_6i, jPut_6a, jPut_6n, jPut_6l, jGet_7, jPut_7i, jPut_7a, jPut_7n, jPut_7l, jGet_8, jPut_8i, jPut_8a, jPut_8n, jPut_8l, jGet_9, jPut_9i, jPut_9a, jPut_9n, jPut_9l, jGet_10, jPut_10i, jPut_10a, jPut_10n, jPut_10l, jGet_11, jPut_11i, jPut_11a, jPut_11n, jPut_11l, jGet_12, jPut_12i, jPut_12a, jPut_12n, jPut_12l, jPut2_e, jSet_1, jSet_2, jSet_3, jSet_4, jSet_5, jSet_6, jSet_7, jSet_8, jSet_9, jSet_10, jSet_11, jSet_12, go_bipush_m2, go_bipush_10, go_bipush_11, go_bipush_12, go_bipush_120, go_bipush_122, go_bipush_126, go_bipush_127, go_bipush_13, go_bipush_14, go_bipush_15, go_bipush_16, go_bipush_17, go_bipush_20, go_bipush_21, go_bipush_22, go_bipush_24, go_bipush_25, go_bipush_26, go_bipush_29, go_bipush_30, go_bipush_32, go_bipush_40, go_bipush_44, go_bipush_48, go_bipush_56, go_bipush_57, go_bipush_59, go_bipush_6, go_bipush_60, go_bipush_63, go_bipush_64, go_bipush_7, go_bipush_75, go_bipush_8, go_bipush_9, go_bipush_96, go_bipush_97, go_bipush_99, go_iconst_m1, go_iconst_0, go_iconst_1, go_iconst_2, go_iconst_3, go_iconst_4, go_iconst_5, go_iinc_m1, go_iinc_m8, go_iinc_1, go_iinc_7, go_sipush_1000, go_sipush_1002, go_sipush_128, go_sipush_132, go_sipush_185, go_sipush_2040, go_sipush_2047, go_sipush_240, go_sipush_255, go_sipush_289, go_sipush_4913, go_sipush_609, go_sipush_625, go_sipush_638, go_sipush_9999, go_lconst_0, go_lconst_1, go_ldc, go_ldcs, go_ldcw, go_ldc2_0, go_ldc2_1, go_ldc2_2, go_ldc2_3, go_ldc2_4, go_ldc2_5, go_ldc2_6, go_ldc2_7, go_ldc2_8, go_ldc2_9, go_ldc2_10, go_ldc2_11, go_ldc2_12, go_ldc2_13, go_ldc2_14, go_ldc2_15, go_ldc2_16, go_ldc2_17, go_ldc2_18, go_ldc2_19, go_ldc2_20, go_ldc2_21, go_ldc2_22, go_ldc2_23, go_ldc2_24, go_ldc2_25, go_ldc2_26, go_ldc2_27, go_ldc2_28, go_ldc2_29, go_ldc2_30, go_ldc2_31, go_ldc2_32, go_ldc2_33, go_ldc2_34, go_ldc2_35, jCI_0, jCI_1, jCI_2, jCI_3, go_iload, go_iload_n, go_lload, go_lload_n, go_aload, go_aload_n, go_istore, go_istore_n, go_lstore, go_lstore_n, go_astore, go_astore_n, go_iadd, go_isub, go_imul, go_iand, go_ior, go_ixor, go_ishl, go_ishr, go_iushr, go_idiv, go_irem, go_ldiv, go_lrem, go_ineg, go_i2l, go_i2c, go_l2i, go_ladd, go_lsub, go_lmul, go_land, go_lor, go_lxor, go_lcmp, go_lshl, go_lshr, go_lushr, go_dup_i, go_dup_a, go_pop_i, go_pop_a, go_dup2, go_getstatic, go_getf_i, go_getf_z, go_getf_l, go_getf_a, go_putf_i, go_putf_l, go_putf_z, go_putf_a, go_iald, go_iald1, go_iald2, go_alen, go_alen2, go_cald, go_bald, go_lald, go_aald, go_iast, go_cast, go_bast, go_last, go_aast, go_new, go_newa, go_anew, go_objinit, go_max, go_min, go_strlen, go_charat, go_acopy, go_rests, go_goto, go_if_eq, go_ic_eq, go_if_ne, go_ic_ne, go_if_lt, go_ic_lt, go_if_ge, go_ic_ge, go_if_gt, go_ic_gt, go_if_le, go_ic_le, go_sw, go_ret, go_lret, go_aret, Nat.reduceAdd, Nat.reduceLT, Nat.reduceLeDiff, Nat.reduceEqDiff, Nat.reduceSub, and_true, true_and, if_true, if_false, and_self, Option.toList_some, Option.toList_none, List.cons_append, List.nil_append, List.length_cons, List.length_nil, Fin.isValue, Fin.reduceFinMk, Fin.val_zero, Fin.val_one, Fin.val_two, jFin3, jI_jsI, jI_jsL, jI_jsR, jL_jsI, jL_jsL, jL_jsR, jR_jsI, jR_jsL, jR_jsR, jN_jsI, jN_jsL, jN_jsR, jXn_jsI, jXn_jsL, jXn_jsR, jXs_jsI, jXs_jsL, jXs_jsR, jEx_jsI, jEx_jsL, jEx_jsR, jI_jXp, jL_jXp, jR_jXp, jN_jXp, jXn_jXp, jXs_jXp, jEx_jXp, jb_20_0, cl_11, cl_12, cl_17, rt_20, en_20, js_0, js_1, js_2, js_3, js_4, js_5, js_6, js_7, js_8, js_9, js_10, js_11, js_12, js_13, js_14, js_15, js_16, js_17, js_18, js_19, js_20, js_21, js_22, js_23, js_24, js_25, js_26, js_27, js_28, js_29, js_30, js_31, js_32, js_33, js_34, js_35, js_36, js_37, js_38, js_39, js_40, js_41, js_42, js_43, js_44, js_45, js_46, js_47, js_48, js_49, js_50, js_51, js_52, js_53, js_54, js_55, js_56, js_57, js_58, js_59, js_60, js_61, js_62, js_63, js_64, js_65, js_66, js_67, js_68, js_69, js_70, js_71, js_72, js_73, js_74, js_75, js_76, js_77, js_78, js_79, js_80, js_81, js_82, js_83, js_84, js_85, js_86, js_87, js_88, js_89, js_90, js_91, js_92, js_93, js_94, js_95, js_96, js_97, js_98, js_99, js_100, js_101, js_102, js_103, js_104, js_105, js_106, js_107, js_108, js_109, js_110, js_111, js_112, js_113, js_114, js_115, js_116, js_117, js_118, js_119, lit_I, neg_1, jCl_nI, i_lt, i_le, i_eq, i_sub, i_div, n_rem, i_and31, i_shl, i_shr, i_bit, bI_1, bI_0, bI_2, bZ_1, bZ_0, bZ_in, bZ_2, nO_lt, nO_gt, nO_le, nO_ge, nO_eq, nO_qe, nO_self, nO_sele, nO_add, pI_0, pI_s, pI_nO, pI_lt0, pI_ge0, pI_eq, pI_add, nI_add, pk_mul, nx_and, fa_or, fb_xorI, Nat.reduceMul, Nat.reduceDiv, Nat.reduceMod, Nat.reducePow, Nat.reduceAnd, Nat.reduceOr, Nat.reduceXor, Nat.reduceShiftLeft, Nat.reduceShiftRight, eq_self, not_true_eq_false, not_false_eq_true, or_false, false_or, or_true, true_or, and_false, false_and, ↓reduceIte, Nat.zero_add, Nat.add_zero, Nat.not_lt_zero, Nat.zero_le, Bool.true_eq_false, Bool.false_eq_true, decide_true, decide_false, bl_in, rF_t3, rF_t4, rF_0_0, rF_0_1, rF_0_2, rF_0_3, rF_0_4, rF_0_5, rF_0_7, rF_0_8, rF_0_10, rF_0_11, rF_0_12, rF_0_13, rF_0_14, rF_0_15, rF_0_16, rF_1_0, rF_3_0, rF_3_1, rF_3_2, rF_4_3, rF_4_4, rF_7_3, rF_7_4, rF_11_0, rF_11_1, rF_11_2, rF_12_3, rF_12_4, rF_15_3, rF_15_4, rF_19_0, rF_19_1, rF_19_2, rF_19_3, rF_20_0, rF_20_1, rF_20_2, rF_21_3, rF_21_4, rF_24_3, rF_24_4, rF_28_0, rF_28_1, rF_28_2, rF_29_3, rF_29_4, rF_32_3, rF_32_4, rF_36_0, rF_36_1, rF_36_2, rF_37_3, rF_37_4, rF_40_3, rF_40_4, rF_44_0, rF_44_1, rF_44_2, rF_45_3, rF_45_4, rF_48_3, rF_48_4, rF_54_0, rF_54_1, rF_54_2, rF_54_3, rF_54_4, rF_60_0, rF_60_1, rF_60_2, rF_60_3, rF_60_4, rF_66_0, rF_66_1, rF_70_0, rF_70_1, rF_70_2, rF_70_3, rF_70_7, rF_70_8, rF_70_9, rF_71_3, rF_71_4, rF_79_0, rF_79_1, rF_82_0, rF_82_1, rF_82_2, rF_82_3, rF_82_4, rF_86_3, rF_86_4, rF_90_3, rF_90_4, rF_93_1, rF_93_4, rF_93_5, rF_93_6, rF_93_9, rF_93_10, rF_93_11, rF_93_12, rF_93_14, rF_93_15, rF_93_16, rF_93_17, rF_93_20, rF_93_24, rF_93_25, rF_93_26, rF_93_27, rF_93_29, rF_93_31, rF_93_32, rF_93_33, rF_93_34, rF_93_35, rF_93_36, rF_93_37, g.1, g.2, B_place b f4 o4, n1, n2, n3, g2.1, g2.2, e2, B_take m2.1 f4 uN1_s]
