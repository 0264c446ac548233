/-! paint, link: a change made in both -/
def Pd (o k : Nat) : Bool := imp o k && (!(decide (3 ≤ o) && decide (o ≤ 10)) && (!decide (o = 53) && (!(decide (o = 0) && decide (k = 6)) && (!(decide (o = 93) && decide (k = 28)) && !(decide (o = 110) && (decide (k < 25) || decide (145 ≤ k)))))))
def pdO (o : Nat) : Prop := o ∉ scrO ∧ o ≠ 93 ∧ o ≠ 110 ∧ o ≠ 0 ∧ o ≠ 53 ∧ ¬ (3 ≤ o ∧ o ≤ 10)
theorem Pd_o {o k : Nat} (h : pdO o) : Pd o k = true := by
  obtain ⟨a, b, c, d, e, f⟩ := h
  simp only [Pd, imp_o a b c, Bool.true_and, Bool.and_eq_true, Bool.not_eq_true', Bool.and_eq_false_iff, decide_eq_false_iff_not]
  omega
theorem Pd_93 {k : Nat} (h : k ∉ scrF) (h2 : k ≠ 28) : Pd 93 k = true := by simp [Pd, imp_93 h, h2]
theorem Pd_110 {k : Nat} (h : 25 ≤ k) (h2 : k < 145) : Pd 110 k = true := by
  rw [Pd, imp_110 (by omega)]
  simp
  omega
theorem Pd_0 {k : Nat} (h : k ≠ 6) : Pd 0 k = true := by
  rw [Pd, imp_o (by decide) (by decide) (by decide)]
  simp [h]
theorem Pd_m : ∀ m, m < 4 → ∀ i, i < 8 → pdO (20 + 8 * m + i) := by unfold pdO; decide +kernel
theorem Pd_c : ∀ i, i < 5 → pdO (54 + i) ∧ pdO (60 + i) := by unfold pdO; decide +kernel
theorem Pd_r : ∀ i, i < 4 → pdO (102 + i) := by unfold pdO; decide +kernel
theorem Pd_u : pdO 1 ∧ pdO 2 ∧ pdO 94 ∧ pdO 98 ∧ pdO 99 ∧ pdO 109 ∧ pdO 52 ∧ pdO 111 := by unfold pdO; refine ⟨?_, ?_, ?_, ?_, ?_, ?_, ?_, ?_⟩ <;> decide
theorem Pd_imp : ∀ o k, Pd o k = true → imp o k = true := fun o k h => by
  simp only [Pd, Bool.and_eq_true] at h; exact h.1
/-- what is kept when now and what was done change -/
theorem Inv.d {w : kW} {s : kS} {D : kD} {n : Nat} {h : jM} {h2 : jM} {q : kQ} {q2 : kQ} {a2 : Nat} (x : rW h q w) (a : smP Pd h h2) (e : sq q q2) (g : gH h2 q2) (ag : AG h2 a2) (ha : a2 ≤ 1000 * (n + 1)) (F1 : tF (s1 s) = tF (s1 (wS w))) (F2 : tF (s2 s) = tF (s2 (wS w))) (N : rNw h2 s) (Dn : rDn h2 s D) : Inv (n + 1) h2 := by
  obtain ⟨u1, u2, u3, u4, u5, u6, u7, u8⟩ := Pd_u
  refine ⟨q2, (wA w, s, wM w, wL w, D, wC w), a2, g, ⟨(a.Ct (fun _ => Pd_o u4) (fun _ => Pd_o u6) x.1).q e, a.A (Pd_o u1) (Pd_93 (by decide) (by decide)) (fun _ => Pd_o u2) (fun _ => Pd_o u3) x.2.1, N, fun m hm => ?_, Dn, (a.K x.c (Pd_0 (by decide)) (Pd_93 (by decide) (by decide)) (fun i hi _ => Pd_o (Pd_c i hi).1) (fun i hi _ => Pd_o (Pd_c i hi).2) (fun i hi _ => Pd_o (Pd_r i hi)) x.2.2.2.2.2).q e⟩, ag, ha⟩
  have y : rM1 h (tF (s1 (wS w))) (tF (s2 (wS w))) m (wM w m) (wL w m) := x.2.2.2.1 m hm
  have z := a.M1 (h1 := h2) (Pd_o u7) (Pd_o u8) (fun i hi _ => Pd_o (Pd_m m hm i hi)) (fun k hk => Pd_110 (by omega) (by omega)) y
  rw [← F1, ← F2] at z
  exact z
/-! the reference changes a town -/
def mRc (h : jM) (b t : Nat) (T : kT) (k : Nat) : jM :=
  if k < 4 then jsI h 110 (b + 5 + t) (nI (tB T ^^^ 1 <<< k))
  else if k < 8 then jsI h 110 (b + 7 + t) (nI (tW T ^^^ 1 <<< (k - 4)))
  else if 24 ≤ k then jsI h 110 (b + 17 + 4 * t + (k - 8) / 4 % 4) (nI (tO T ((k - 8) / 4 % 4) ^^^ 1 <<< ((k - 8) % 4)))
  else jsI (jsI h 110 (b + 9 + 4 * t + (k - 8) / 4 % 4) (nI (tN T ((k - 8) / 4 % 4) ^^^ 1 <<< ((k - 8) % 4)))) 110 (b + 9 + 4 * t + (k - 8) % 4) (nI (tN T ((k - 8) % 4) ^^^ 1 <<< ((k - 8) / 4 % 4)))
theorem mRc_g {h : jM} {q : kQ} {b : Nat} {t : Nat} {T : kT} {k : Nat} (g : gH h q) : gH (mRc h b t T k) q := by
  unfold mRc; split
  · exact g
  · split
    · exact g
    · split
      · exact g
      · exact g
theorem mRc_f {P : Nat → Nat → Bool} {h : jM} {b : Nat} {t : Nat} {T : kT} {k : Nat} (ht : t < 2) (e : ∀ i, 5 ≤ i → i < 25 → P 110 (b + i) = false) : smP P h (mRc h b t T k) := by
  unfold mRc; split
  · exact smP_w (by rw [Nat.add_assoc]; exact e _ (by omega) (by omega))
  · split
    · exact smP_w (by rw [Nat.add_assoc]; exact e _ (by omega) (by omega))
    · split
      · exact smP_w (by rw [Nat.add_assoc, Nat.add_assoc]; exact e _ (by omega) (by omega))
      · exact (smP_w (by rw [Nat.add_assoc, Nat.add_assoc]; exact e _ (by omega) (by omega))).tr (smP_w (by rw [Nat.add_assoc, Nat.add_assoc]; exact e _ (by omega) (by omega)))
theorem MT_rc {h : jM} {b : Nat} {t : Nat} {T : kT} {U : kT} {k : Nat} {T2 U2 : kT} (ht : t < 2) (hk : cOk k) (M : MT h b T U) (hX : ∀ i, i < 2 → tw T2 U2 i = if i = t then tCh (tw T U t) k else tw T U i) : MT (mRc h b t (tw T U t) k) b T2 U2 := by
  intro i hi
  rw [hX i hi]
  obtain ⟨⟨m1, m2⟩, m3⟩ := M i hi
  have hk1 := hk.1
  by_cases c : i = t
  · subst c
    rw [if_pos rfl]
    unfold mRc tCh
    by_cases c1 : k < 4
    · simp only [c1, if_true]
      refine ⟨⟨?_, ?_⟩, fun f hf => ⟨?_, ?_⟩⟩
      · simp [jI_jsI, tB]
      · rw [jI_jsI, if_neg (by omega)]; exact m2
      · rw [jI_jsI, if_neg (by omega)]; exact (m3 f hf).1
      · rw [jI_jsI, if_neg (by omega)]; exact (m3 f hf).2
    · by_cases c2 : k < 8
      · simp only [c1, c2, if_true, if_false]
        refine ⟨⟨?_, ?_⟩, fun f hf => ⟨?_, ?_⟩⟩
        · rw [jI_jsI, if_neg (by omega)]; exact m1
        · simp [jI_jsI, tW]
        · rw [jI_jsI, if_neg (by omega)]; exact (m3 f hf).1
        · rw [jI_jsI, if_neg (by omega)]; exact (m3 f hf).2
      · by_cases c3 : 24 ≤ k
        · simp only [c1, c2, c3, if_true, if_false]
          have j1 : (k - 8) / 4 % 4 < 4 := by omega
          have j2 : (k - 8) % 4 < 4 := by omega
          revert j1 j2
          generalize (k - 8) / 4 % 4 = u
          generalize (k - 8) % 4 = v
          intro j1 j2
          refine ⟨⟨?_, ?_⟩, fun f hf => ⟨?_, ?_⟩⟩
          · rw [jI_jsI, if_neg (by omega)]; exact m1
          · rw [jI_jsI, if_neg (by omega)]; exact m2
          · rw [jI_jsI, if_neg (by omega)]; exact (m3 f hf).1
          · show _ = nI (uN1 _ u _ f)
            by_cases z : f = u
            · subst z; rw [jI_jsI, if_pos ⟨rfl, rfl⟩, uN1_s]
            · rw [jI_jsI, if_neg (by omega), uN1_n z]; exact (m3 f hf).2
        · have h7 := hk.2 (by omega) (by omega)
          simp only [c1, c2, c3, if_false]
          have j1 : (k - 8) / 4 % 4 < 4 := by omega
          have j2 : (k - 8) % 4 < 4 := by omega
          revert j1 j2 h7
          generalize (k - 8) / 4 % 4 = u
          generalize (k - 8) % 4 = v
          intro h7 j1 j2
          refine ⟨⟨?_, ?_⟩, fun f hf => ⟨?_, ?_⟩⟩
          · rw [jI_jsI, if_neg (by omega), jI_jsI, if_neg (by omega)]; exact m1
          · rw [jI_jsI, if_neg (by omega), jI_jsI, if_neg (by omega)]; exact m2
          · show _ = nI (uN1 (uN1 _ u _) v _ f)
            by_cases z : f = v
            · subst z; rw [jI_jsI, if_pos ⟨rfl, rfl⟩, uN1_s]
            · rw [jI_jsI, if_neg (by omega), uN1_n z]
              by_cases y : f = u
              · subst y; rw [jI_jsI, if_pos ⟨rfl, rfl⟩, uN1_s]
              · rw [jI_jsI, if_neg (by omega), uN1_n y]; exact (m3 f hf).1
          · rw [jI_jsI, if_neg (by omega), jI_jsI, if_neg (by omega)]; exact (m3 f hf).2
  · rw [if_neg c]
    have key : ∀ (o z : Nat) (v : Int32) (H : jM), o ≠ z → jI (jsI H 110 z v) 110 o = jI H 110 o := fun o z v H hne => by rw [jI_jsI, if_neg (by omega)]
    have j1 : (k - 8) / 4 % 4 < 4 := by omega
    have j2 : (k - 8) % 4 < 4 := by omega
    unfold mRc
    revert j1 j2
    generalize (k - 8) / 4 % 4 = u
    generalize (k - 8) % 4 = v
    intro j1 j2
    split
    · refine ⟨⟨?_, ?_⟩, fun f hf => ⟨?_, ?_⟩⟩ <;> rw [key _ _ _ _ (by omega)]
      · exact m1
      · exact m2
      · exact (m3 f hf).1
      · exact (m3 f hf).2
    · split
      · refine ⟨⟨?_, ?_⟩, fun f hf => ⟨?_, ?_⟩⟩ <;> rw [key _ _ _ _ (by omega)]
        · exact m1
        · exact m2
        · exact (m3 f hf).1
        · exact (m3 f hf).2
      · split
        · refine ⟨⟨?_, ?_⟩, fun f hf => ⟨?_, ?_⟩⟩ <;> rw [key _ _ _ _ (by omega)]
          · exact m1
          · exact m2
          · exact (m3 f hf).1
          · exact (m3 f hf).2
        · refine ⟨⟨?_, ?_⟩, fun f hf => ⟨?_, ?_⟩⟩ <;> rw [key _ _ _ _ (by omega), key _ _ _ _ (by omega)]
          · exact m1
          · exact m2
          · exact (m3 f hf).1
          · exact (m3 f hf).2
def lkN (w f o : Nat) : Nat := 8 + (w * 4 + f) * 4 + o
theorem lkN_e {w f o : Nat} (hw : w < 2) (hf : f < 4) (ho : o < 4) : (lkN w f o - 8) / 4 % 4 = f ∧ (lkN w f o - 8) % 4 = o ∧ (24 ≤ lkN w f o ↔ w = 1) ∧ ¬ lkN w f o < 8 ∧ lkN w f o < 40 := by unfold lkN; omega
set_option maxRecDepth 100000 in
set_option maxHeartbeats 4000000 in
theorem M_links {d : Nat} {h : jM} {q : kQ} {b : Nat} {t : Nat} {T : kT} {U : kT} {f : Nat} {o : Nat} {w : Nat} {K : Option Value → jM → Prop} (g : gH h q) (M : MT h b T U) (oT : tOk T) (oU : tOk U) (hb : b ≤ 609) (ht : t < 2) (hf : f < 4) (ho : o < 4) (hw : w < 2) (hne : f ≠ o) : jCl d 229 [.ref 93, .int (nI b), .int (nI t), .int (nI f), .int (nI o), .int (nI w)] h K = K none (mRc h b t (tw T U t) (lkN w f o)) := by
  obtain ⟨l1, l2, l3, l4, l5⟩ := lkN_e hw hf ho
  have l6 : ¬ lkN w f o < 4 := by omega
  have a1 := ((M t ht).2 f hf).1
  have a2 := ((M t ht).2 f hf).2
  have a3 := ((M t ht).2 o ho).1
  have n1 : ¬ b + 9 + 4 * t + o = b + 9 + 4 * t + f := by omega
  have n2 : ¬ b + 9 + 4 * t + o = b + 17 + 4 * t + f := by omega
  have i1 : ¬ 638 ≤ b + 9 + 4 * t + f := by omega
  have i2 : ¬ 638 ≤ b + 17 + 4 * t + f := by omega
  have i3 : ¬ 638 ≤ b + 9 + 4 * t + o := by omega
  have o1 := (tw_ok (t := t) oT oU).n hf
  have o2 := (tw_ok (t := t) oT oU).n ho
  have o3 := (tw_ok (t := t) oT oU).o hf
  unfold mRc
  rw [l1, l2]
  simp only [l4, l6, if_false]
  rcases (show w = 0 ∨ w = 1 by omega) with rfl | rfl
  · have l7 : ¬ 24 ≤ lkN 0 f o := by rw [l3]; omega
    simp only [l7, if_false]
    simp (disch := omega) only [jMI_i, jML_l, jMA_a, jSum_n, jSum_i, jSum_a, jSum_l, jGet_0, jPut_0, jGet_1, jPut_1i, jPut_1a, jPut_1n, jPut_1l, jGet_2, jPut_2i, jPut_2a, jPut_2n, jPut_2l, jGet_3, jPut_3i, jPut_3a, jPut_3n, jPut_3l, jGet_4, jPut_4i, jPut_4a, jPut_4n, jPut_4l, jGet_5, jPut_5i, jPut_5a, jPut_5n, jPut_5l, jGet_6, jPut_6i, jPut_6a, jPut_6n, jPut_6l, jGet_7, jPut_7i, jPut_7a, jPut_7n, jPut_7l, jGet_8, jPut_8i, jPut_8a, jPut_8n, jPut_8l, jGet_9, jPut_9i, jPut_9a, jPut_9n, jPut_9l, jGet_10, jPut_10i, jPut_10a, jPut_10n, jPut_10l, jGet_11, jPut_11i, jPut_11a, jPut_11n, jPut_11l, jGet_12, jPut_12i, jPut_12a, jPut_12n, jPut_12l, jPut2_e, jSet_1, jSet_2, jSet_3, jSet_4, jSet_5, jSet_6, jSet_7, jSet_8, jSet_9, jSet_10, jSet_11, jSet_12, go_bipush_m2, go_bipush_10, go_bipush_11, go_bipush_12, go_bipush_120, go_bipush_122, go_bipush_126, go_bipush_127, go_bipush_13, go_bipush_14, go_bipush_15, go_bipush_16, go_bipush_17, go_bipush_20, go_bipush_21, go_bipush_22, go_bipush_24, go_bipush_25, go_bipush_26, go_bipush_29, go_bipush_30, go_bipush_32, go_bipush_40, go_bipush_44, go_bipush_48, go_bipush_56, go_bipush_57, go_bipush_59, go_bipush_6, go_bipush_60, go_bipush_63, go_bipush_64, go_bipush_7, go_bipush_75, go_bipush_8, go_bipush_9, go_bipush_96, go_bipush_97, go_bipush_99, go_iconst_m1, go_iconst_0, go_iconst_1, go_iconst_2, go_iconst_3, go_iconst_4, go_iconst_5, go_iinc_m1, go_iinc_m8, go_iinc_1, go_iinc_7, go_sipush_1000, go_sipush_1002, go_sipush_128, go_sipush_132, go_sipush_185, go_sipush_2040, go_sipush_2047, go_sipush_240, go_sipush_255, go_sipush_289, go_sipush_4913, go_sipush_609, go_sipush_625, go_sipush_638, go_sipush_9999, go_lconst_0, go_lconst_1, go_ldc, go_ldcs, go_ldcw, go_ldc2_0, go_ldc2_1, go_ldc2_2, go_ldc2_3, go_ldc2_4, go_ldc2_5, go_ldc2_6, go_ldc2_7, go_ldc2_8, go_ldc2_9, go_ldc2_10, go_ldc2_11, go_ldc2_12, go_ldc2_13, go_ldc2_14, go_ldc2_15, go_ldc2_16, go_ldc2_17, go_ldc2_18, go_ldc2_19, go_ldc2_20, go_ldc2_21, go_ldc2_22, go_ldc2_23, go_ldc2_24, go_ldc2_25, go_ldc2_26, go_ldc2_27, go_ldc2_28, go_ldc2_29, go_ldc2_30, go_ldc2_31, go_ldc2_32, go_ldc2_33, go_ldc2_34, go_ldc2_35, jCI_0, jCI_1, jCI_2, jCI_3, go_iload, go_iload_n, go_lload, go_lload_n, go_aload, go_aload_n, go_istore, go_istore_n, go_lstore, go_lstore_n, go_astore, go_astore_n, go_iadd, go_isub, go_imul, go_iand, go_ior, go_ixor, go_ishl, go_ishr, go_iushr, go_idiv, go_irem, go_ldiv, go_lrem, go_ineg, go_i2l, go_i2c, go_l2i, go_ladd, go_lsub, go_lmul, go_land, go_lor, go_lxor, go_lcmp, go_lshl, go_lshr, go_lushr, go_dup_i, go_dup_a, go_pop_i, go_pop_a, go_dup2, go_getstatic, go_getf_i, go_getf_z, go_getf_l, go_getf_a, go_putf_i, go_putf_l, go_putf_z, go_putf_a, go_iald, go_iald1, go_iald2, go_alen, go_alen2, go_cald, go_bald, go_lald, go_aald, go_iast, go_cast, go_bast, go_last, go_aast, go_new, go_newa, go_anew, go_objinit, go_max, go_min, go_strlen, go_charat, go_acopy, go_rests, go_goto, go_if_eq, go_ic_eq, go_if_ne, go_ic_ne, go_if_lt, go_ic_lt, go_if_ge, go_ic_ge, go_if_gt, go_ic_gt, go_if_le, go_ic_le, go_sw, go_ret, go_lret, go_aret, Nat.reduceAdd, Nat.reduceLT, Nat.reduceLeDiff, Nat.reduceEqDiff, Nat.reduceSub, and_true, true_and, if_true, if_false, and_self, Option.toList_some, Option.toList_none, List.cons_append, List.nil_append, List.length_cons, List.length_nil, Fin.isValue, Fin.reduceFinMk, Fin.val_zero, Fin.val_one, Fin.val_two, jFin3, jI_jsI, jI_jsL, jI_jsR, jL_jsI, jL_jsL, jL_jsR, jR_jsI, jR_jsL, jR_jsR, jN_jsI, jN_jsL, jN_jsR, jXn_jsI, jXn_jsL, jXn_jsR, jXs_jsI, jXs_jsL, jXs_jsR, jEx_jsI, jEx_jsL, jEx_jsR, jI_jXp, jL_jXp, jR_jXp, jN_jXp, jXn_jXp, jXs_jXp, jEx_jXp, jb_229_0, jb_229_15, jb_229_17, jb_229_60, jb_229_61, en_229, js_0, js_1, js_2, js_3, js_4, js_5, js_6, js_7, js_8, js_9, js_10, js_11, js_12, js_13, js_14, js_15, js_16, js_17, js_18, js_19, js_20, js_21, js_22, js_23, js_24, js_25, js_26, js_27, js_28, js_29, js_30, js_31, js_32, js_33, js_34, js_35, js_36, js_37, js_38, js_39, js_40, js_41, js_42, js_43, js_44, js_45, js_46, js_47, js_48, js_49, js_50, js_51, js_52, js_53, js_54, js_55, js_56, js_57, js_58, js_59, js_60, js_61, js_62, js_63, js_64, js_65, js_66, js_67, js_68, js_69, js_70, js_71, js_72, js_73, js_74, js_75, js_76, js_77, js_78, js_79, js_80, js_81, js_82, js_83, js_84, js_85, js_86, js_87, js_88, js_89, js_90, js_91, js_92, js_93, js_94, js_95, js_96, js_97, js_98, js_99, js_100, js_101, js_102, js_103, js_104, js_105, js_106, js_107, js_108, js_109, js_110, js_111, js_112, js_113, js_114, js_115, js_116, js_117, js_118, js_119, lit_I, neg_1, jCl_nI, i_lt, i_le, i_eq, i_sub, i_div, n_rem, i_and31, i_shl, i_shr, i_bit, bI_1, bI_0, bI_2, bZ_1, bZ_0, bZ_in, bZ_2, nO_lt, nO_gt, nO_le, nO_ge, nO_eq, nO_qe, nO_self, nO_sele, nO_add, pI_0, pI_s, pI_nO, pI_lt0, pI_ge0, pI_eq, pI_add, nI_add, pk_mul, nx_and, fa_or, fb_xorI, Nat.reduceMul, Nat.reduceDiv, Nat.reduceMod, Nat.reducePow, Nat.reduceAnd, Nat.reduceOr, Nat.reduceXor, Nat.reduceShiftLeft, Nat.reduceShiftRight, eq_self, not_true_eq_false, not_false_eq_true, or_false, false_or, or_true, true_or, and_false, false_and, ↓reduceIte, Nat.zero_add, Nat.add_zero, Nat.not_lt_zero, Nat.zero_le, Bool.true_eq_false, Bool.false_eq_true, decide_true, decide_false, bl_in, rF_t3, rF_t4, rF_0_0, rF_0_1, rF_0_2, rF_0_3, rF_0_4, rF_0_5, rF_0_7, rF_0_8, rF_0_10, rF_0_11, rF_0_12, rF_0_13, rF_0_14, rF_0_15, rF_0_16, rF_1_0, rF_3_0, rF_3_1, rF_3_2, rF_4_3, rF_4_4, rF_7_3, rF_7_4, rF_11_0, rF_11_1, rF_11_2, rF_12_3, rF_12_4, rF_15_3, rF_15_4, rF_19_0, rF_19_1, rF_19_2, rF_19_3, rF_20_0, rF_20_1, rF_20_2, rF_21_3, rF_21_4, rF_24_3, rF_24_4, rF_28_0, rF_28_1, rF_28_2, rF_29_3, rF_29_4, rF_32_3, rF_32_4, rF_36_0, rF_36_1, rF_36_2, rF_37_3, rF_37_4, rF_40_3, rF_40_4, rF_44_0, rF_44_1, rF_44_2, rF_45_3, rF_45_4, rF_48_3, rF_48_4, rF_54_0, rF_54_1, rF_54_2, rF_54_3, rF_54_4, rF_60_0, rF_60_1, rF_60_2, rF_60_3, rF_60_4, rF_66_0, rF_66_1, rF_70_0, rF_70_1, rF_70_2, rF_70_3, rF_70_7, rF_70_8, rF_70_9, rF_71_3, rF_71_4, rF_79_0, rF_79_1, rF_82_0, rF_82_1, rF_82_2, rF_82_3, rF_82_4, rF_86_3, rF_86_4, rF_90_3, rF_90_4, rF_93_1, rF_93_4, rF_93_5, rF_93_6, rF_93_9, rF_93_10, rF_93_11, rF_93_12, rF_93_14, rF_93_15, rF_93_16, rF_93_17, rF_93_20, rF_93_24, rF_93_25, rF_93_26, rF_93_27, rF_93_29, rF_93_31, rF_93_32, rF_93_33, rF_93_34, rF_93_35, rF_93_36, rF_93_37, g.1, g.2, a1, a3, n1, i1, i3]
  · have l7 : 24 ≤ lkN 1 f o := by rw [l3]
    simp only [l7, if_true]
    have e : jsI (jsI h 110 (b + 17 + 4 * t + f) (nI (tO (tw T U t) f ^^^ 1 <<< o))) 110 (b + 9 + 4 * t + o) (nI (tN (tw T U t) o)) = jsI h 110 (b + 17 + 4 * t + f) (nI (tO (tw T U t) f ^^^ 1 <<< o)) := jsI_s (by rw [jI_jsI, if_neg (by omega)]; exact a3)
    simp (disch := omega) only [jMI_i, jML_l, jMA_a, jSum_n, jSum_i, jSum_a, jSum_l, jGet_0, jPut_0, jGet_1, jPut_1i, jPut_1a, jPut_1n, jPut_1l, jGet_2, jPut_2i, jPut_2a, jPut_2n, jPut_2l, jGet_3, jPut_3i, jPut_3a, jPut_3n, jPut_3l, jGet_4, jPut_4i, jPut_4a, jPut_4n, jPut_4l, jGet_5, jPut_5i, jPut_5a, jPut_5n, jPut_5l, jGet_6, jPut_6i, jPut_6a, jPut_6n, jPut_6l, jGet_7, jPut_7i, jPut_7a, jPut_7n, jPut_7l, jGet_8, jPut_8i, jPut_8a, jPut_8n, jPut_8l, jGet_9, jPut_9i, jPut_9a, jPut_9n, jPut_9l, jGet_10, jPut_10i, jPut_10a, jPut_10n, jPut_10l, jGet_11, jPut_11i, jPut_11a, jPut_11n, jPut_11l, jGet_12, jPut_12i, jPut_12a, jPut_12n, jPut_12l, jPut2_e, jSet_1, jSet_2, jSet_3, jSet_4, jSet_5, jSet_6, jSet_7, jSet_8, jSet_9, jSet_10, jSet_11, jSet_12, go_bipush_m2, go_bipush_10, go_bipush_11, go_bipush_12, go_bipush_120, go_bipush_122, go_bipush_126, go_bipush_127, go_bipush_13, go_bipush_14, go_bipush_15, go_bipush_16, go_bipush_17, go_bipush_20, go_bipush_21, go_bipush_22, go_bipush_24, go_bipush_25, go_bipush_26, go_bipush_29, go_bipush_30, go_bipush_32, go_bipush_40, go_bipush_44, go_bipush_48, go_bipush_56, go_bipush_57, go_bipush_59, go_bipush_6, go_bipush_60, go_bipush_63, go_bipush_64, go_bipush_7, go_bipush_75, go_bipush_8, go_bipush_9, go_bipush_96, go_bipush_97, go_bipush_99, go_iconst_m1, go_iconst_0, go_iconst_1, go_iconst_2, go_iconst_3, go_iconst_4, go_iconst_5, go_iinc_m1, go_iinc_m8, go_iinc_1, go_iinc_7, go_sipush_1000, go_sipush_1002, go_sipush_128, go_sipush_132, go_sipush_185, go_sipush_2040, go_sipush_2047, go_sipush_240, go_sipush_255, go_sipush_289, go_sipush_4913, go_sipush_609, go_sipush_625, go_sipush_638, go_sipush_9999, go_lconst_0, go_lconst_1, go_ldc, go_ldcs, go_ldcw, go_ldc2_0, go_ldc2_1, go_ldc2_2, go_ldc2_3, go_ldc2_4, go_ldc2_5, go_ldc2_6, go_ldc2_7, go_ldc2_8, go_ldc2_9, go_ldc2_10, go_ldc2_11, go_ldc2_12, go_ldc2_13, go_ldc2_14, go_ldc2_15, go_ldc2_16, go_ldc2_17, go_ldc2_18, go_ldc2_19, go_ldc2_20, go_ldc2_21, go_ldc2_22, go_ldc2_23, go_ldc2_24, go_ldc2_25, go_ldc2_26, go_ldc2_27, go_ldc2_28, go_ldc2_29, go_ldc2_30, go_ldc2_31, go_ldc2_32, go_ldc2_33, go_ldc2_34, go_ldc2_35, jCI_0, jCI_1, jCI_2, jCI_3, go_iload, go_iload_n, go_lload, go_lload_n, go_aload, go_aload_n, go_istore, go_istore_n, go_lstore, go_lstore_n, go_astore, go_astore_n, go_iadd, go_isub, go_imul, go_iand, go_ior, go_ixor, go_ishl, go_ishr, go_iushr, go_idiv, go_irem, go_ldiv, go_lrem, go_ineg, go_i2l, go_i2c, go_l2i, go_ladd, go_lsub, go_lmul, go_land, go_lor, go_lxor, go_lcmp, go_lshl, go_lshr, go_lushr, go_dup_i, go_dup_a, go_pop_i, go_pop_a, go_dup2, go_getstatic, go_getf_i, go_getf_z, go_getf_l, go_getf_a, go_putf_i, go_putf_l, go_putf_z, go_putf_a, go_iald, go_iald1, go_iald2, go_alen, go_alen2, go_cald, go_bald, go_lald, go_aald, go_iast, go_cast, go_bast, go_last, go_aast, go_new, go_newa, go_anew, go_objinit, go_max, go_min, go_strlen, go_charat, go_acopy, go_rests, go_goto, go_if_eq, go_ic_eq, go_if_ne, go_ic_ne, go_if_lt, go_ic_lt, go_if_ge, go_ic_ge, go_if_gt, go_ic_gt, go_if_le, go_ic_le, go_sw, go_ret, go_lret, go_aret, Nat.reduceAdd, Nat.reduceLT, Nat.reduceLeDiff, Nat.reduceEqDiff, Nat.reduceSub, and_true, true_and, if_true, if_false, and_self, Option.toList_some, Option.toList_none, List.cons_append, List.nil_append, List.length_cons, List.length_nil, Fin.isValue, Fin.reduceFinMk, Fin.val_zero, Fin.val_one, Fin.val_two, jFin3, jI_jsI, jI_jsL, jI_jsR, jL_jsI, jL_jsL, jL_jsR, jR_jsI, jR_jsL, jR_jsR, jN_jsI, jN_jsL, jN_jsR, jXn_jsI, jXn_jsL, jXn_jsR, jXs_jsI, jXs_jsL, jXs_jsR, jEx_jsI, jEx_jsL, jEx_jsR, jI_jXp, jL_jXp, jR_jXp, jN_jXp, jXn_jXp, jXs_jXp, jEx_jXp, jb_229_0, jb_229_15, jb_229_17, jb_229_60, jb_229_61, en_229, js_0, js_1, js_2, js_3, js_4, js_5, js_6, js_7, js_8, js_9, js_10, js_11, js_12, js_13, js_14, js_15, js_16, js_17, js_18, js_19, js_20, js_21, js_22, js_23, js_24, js_25, js_26, js_27, js_28, js_29, js_30, js_31, js_32, js_33, js_34, js_35, js_36, js_37, js_38, js_39, js_40, js_41, js_42, js_43, js_44, js_45, js_46, js_47, js_48, js_49, js_50, js_51, js_52, js_53, js_54, js_55, js_56, js_57, js_58, js_59, js_60, js_61, js_62, js_63, js_64, js_65, js_66, js_67, js_68, js_69, js_70, js_71, js_72, js_73, js_74, js_75, js_76, js_77, js_78, js_79, js_80, js_81, js_82, js_83, js_84, js_85, js_86, js_87, js_88, js_89, js_90, js_91, js_92, js_93, js_94, js_95, js_96, js_97, js_98, js_99, js_100, js_101, js_102, js_103, js_104, js_105, js_106, js_107, js_108, js_109, js_110, js_111, js_112, js_113, js_114, js_115, js_116, js_117, js_118, js_119, lit_I, neg_1, jCl_nI, i_lt, i_le, i_eq, i_sub, i_div, n_rem, i_and31, i_shl, i_shr, i_bit, bI_1, bI_0, bI_2, bZ_1, bZ_0, bZ_in, bZ_2, nO_lt, nO_gt, nO_le, nO_ge, nO_eq, nO_qe, nO_self, nO_sele, nO_add, pI_0, pI_s, pI_nO, pI_lt0, pI_ge0, pI_eq, pI_add, nI_add, pk_mul, nx_and, fa_or, fb_xorI, Nat.reduceMul, Nat.reduceDiv, Nat.reduceMod, Nat.reducePow, Nat.reduceAnd, Nat.reduceOr, Nat.reduceXor, Nat.reduceShiftLeft, Nat.reduceShiftRight, eq_self, not_true_eq_false, not_false_eq_true, or_false, false_or, or_true, true_or, and_false, false_and, ↓reduceIte, Nat.zero_add, Nat.add_zero, Nat.not_lt_zero, Nat.zero_le, Bool.true_eq_false, Bool.false_eq_true, decide_true, decide_false, bl_in, rF_t3, rF_t4, rF_0_0, rF_0_1, rF_0_2, rF_0_3, rF_0_4, rF_0_5, rF_0_7, rF_0_8, rF_0_10, rF_0_11, rF_0_12, rF_0_13, rF_0_14, rF_0_15, rF_0_16, rF_1_0, rF_3_0, rF_3_1, rF_3_2, rF_4_3, rF_4_4, rF_7_3, rF_7_4, rF_11_0, rF_11_1, rF_11_2, rF_12_3, rF_12_4, rF_15_3, rF_15_4, rF_19_0, rF_19_1, rF_19_2, rF_19_3, rF_20_0, rF_20_1, rF_20_2, rF_21_3, rF_21_4, rF_24_3, rF_24_4, rF_28_0, rF_28_1, rF_28_2, rF_29_3, rF_29_4, rF_32_3, rF_32_4, rF_36_0, rF_36_1, rF_36_2, rF_37_3, rF_37_4, rF_40_3, rF_40_4, rF_44_0, rF_44_1, rF_44_2, rF_45_3, rF_45_4, rF_48_3, rF_48_4, rF_54_0, rF_54_1, rF_54_2, rF_54_3, rF_54_4, rF_60_0, rF_60_1, rF_60_2, rF_60_3, rF_60_4, rF_66_0, rF_66_1, rF_70_0, rF_70_1, rF_70_2, rF_70_3, rF_70_7, rF_70_8, rF_70_9, rF_71_3, rF_71_4, rF_79_0, rF_79_1, rF_82_0, rF_82_1, rF_82_2, rF_82_3, rF_82_4, rF_86_3, rF_86_4, rF_90_3, rF_90_4, rF_93_1, rF_93_4, rF_93_5, rF_93_6, rF_93_9, rF_93_10, rF_93_11, rF_93_12, rF_93_14, rF_93_15, rF_93_16, rF_93_17, rF_93_20, rF_93_24, rF_93_25, rF_93_26, rF_93_27, rF_93_29, rF_93_31, rF_93_32, rF_93_33, rF_93_34, rF_93_35, rF_93_36, rF_93_37, g.1, g.2, a2, a3, n2, i2, i3, Nat.xor_zero, e]
/-! both sides of a change -/
def chS (s : kS) (t k : Nat) : kS := if t = 0 then (tCh (s1 s) k, s2 s, sP s, sG s, sRe s, sL3 s, sLF s) else (s1 s, tCh (s2 s) k, sP s, sG s, sRe s, sL3 s, sLF s)
def tAd (t : Nat) : Nat := if t = 0 then 4 else 7
theorem tAd_in {t : Nat} : tAd t ∈ tnL := by unfold tAd; split <;> decide
theorem rNw.xt {s : kS} {h : jM} {t : Nat} (N : rNw h s) : rT h (tAd t) (tw (s1 s) (s2 s) t) := by
  unfold tAd tw; split
  · exact N.T
  · exact N.U
theorem chS_tw {s : kS} {t : Nat} {k : Nat} (ht : t < 2) : ∀ i, i < 2 → tw (s1 (chS s t k)) (s2 (chS s t k)) i = if i = t then tCh (tw (s1 s) (s2 s) t) k else tw (s1 s) (s2 s) i := by
  intro i hi
  rcases (show t = 0 ∨ t = 1 by omega) with rfl | rfl <;> rcases (show i = 0 ∨ i = 1 by omega) with rfl | rfl <;> rfl
theorem chS_F {s : kS} {t : Nat} {k : Nat} : tF (s1 (chS s t k)) = tF (s1 s) ∧ tF (s2 (chS s t k)) = tF (s2 s) := by
  unfold chS; split
  · exact ⟨tCh_F, rfl⟩
  · exact ⟨rfl, tCh_F⟩
theorem chS_ok {s : kS} {t : Nat} {k : Nat} (ht : t < 2) (x : sOk (tF (s1 s)) (tF (s2 s)) s) (hk : kMay (tw (s1 s) (s2 s) t) k) : sOk (tF (s1 s)) (tF (s2 s)) (chS s t k) := by
  obtain ⟨⟨⟨o1, o2⟩, v, p, -, -⟩, r⟩ := x
  have vv : ∀ {T U T2 U2 : kT} {p : Nat → Nat}, tF T2 = tF T → tF U2 = tF U → pv T U p → pv T2 U2 p := fun e1 e2 v => by
    unfold pv; rw [e1, e2]; exact v
  rcases (show t = 0 ∨ t = 1 by omega) with rfl | rfl
  · exact ⟨⟨⟨tOk_ch o1 hk, o2⟩, vv tCh_F rfl v, p, tCh_F, rfl⟩, r⟩
  · exact ⟨⟨⟨o1, tOk_ch o2 hk⟩, vv rfl tCh_F v, p, rfl, tCh_F⟩, r⟩
theorem chS_rv {s : kS} {t : Nat} {k : Nat} (ht : t < 2) (hk : cOk k) : rvU (t * 64 + k) (su (chS s t k)) = su s := by
  have h1 := hk.1
  rcases (show t = 0 ∨ t = 1 by omega) with rfl | rfl
  · rw [rvU, if_neg (by omega), if_neg (by omega), if_neg (by omega)]
    show (tCh (tCh (s1 s) k) (0 * 64 + k), s2 s, sP s, sG s) = _
    rw [Nat.zero_mul, Nat.zero_add, tCh_2 hk]; rfl
  · rw [rvU, if_neg (by omega), if_neg (by omega), if_pos (by omega)]
    show (s1 s, tCh (tCh (s2 s) k) (1 * 64 + k - 64), sP s, sG s) = _
    rw [show 1 * 64 + k - 64 = k by omega, tCh_2 hk]; rfl
set_option maxRecDepth 100000 in
set_option maxHeartbeats 4000000 in
theorem T_makeChange {s : kS} {d : Nat} {h : jM} {q : kQ} {t : Nat} {k : Nat} {n : Nat} {K : Option Value → jM → Prop} (g : gH h q) (N : rNw h s) (ht : t < 2) (hk : cOk k) (hn : n ≤ 16) (e : jI h 0 6 = nI n) : jCl (d + 2) 164 [.ref 0, .int (nI t), .int (nI k)] h K = K none (mNo (mCh h (tw (s1 s) (s2 s) t) (tAd t) k) n (t * 64 + k)) := by
  have hk1 := hk.1
  have f := mCh_f (h := h) (T := tw (s1 s) (s2 s) t) (t := tAd t) (k := k)
  have g1 := f.g g
  have e1 : jI (mCh h (tw (s1 s) (s2 s) t) (tAd t) k) 0 6 = nI n := by
    rw [f.i]
    · exact e
    · unfold tAd; split <;> decide
  have e2 : (if t = 0 then 3 + 1 else 3 + 4) = tAd t := by unfold tAd; split <;> rfl
  have h9 := tn_9 (tAd_in (t := t))
  simp (disch := omega) only [jMI_i, jML_l, jMA_a, jSum_n, jSum_i, jSum_a, jSum_l, jGet_0, jPut_0, jGet_1, jPut_1i, jPut_1a, jPut_1n, jPut_1l, jGet_2, jPut_2i, jPut_2a, jPut_2n, jPut_2l, jGet_3, jPut_3i, jPut_3a, jPut_3n, jPut_3l, jGet_4, jPut_4i, jPut_4a, jPut_4n, jPut_4l, jGet_5, jPut_5i, jPut_5a, jPut_5n, jPut_5l, jGet_6, jPut_6i, jPut_6a, jPut_6n, jPut_6l, jGet_7, jPut_7i, jPut_7a, jPut_7n, jPut_7l, jGet_8, jPut_8i, jPut_8a, jPut_8n, jPut_8l, jGet_9, jPut_9i, jPut_9a, jPut_9n, jPut_9l, jGet_10, jPut_10i, jPut_10a, jPut_10n, jPut_10l, jGet_11, jPut_11i, jPut_11a, jPut_11n, jPut_11l, jGet_12, jPut_12i, jPut_12a, jPut_12n, jPut_12l, jPut2_e, jSet_1, jSet_2, jSet_3, jSet_4, jSet_5, jSet_6, jSet_7, jSet_8, jSet_9, jSet_10, jSet_11, jSet_12, go_bipush_m2, go_bipush_10, go_bipush_11, go_bipush_12, go_bipush_120, go_bipush_122, go_bipush_126, go_bipush_127, go_bipush_13, go_bipush_14, go_bipush_15, go_bipush_16, go_bipush_17, go_bipush_20, go_bipush_21, go_bipush_22, go_bipush_24, go_bipush_25, go_bipush_26, go_bipush_29, go_bipush_30, go_bipush_32, go_bipush_40, go_bipush_44, go_bipush_48, go_bipush_56, go_bipush_57, go_bipush_59, go_bipush_6, go_bipush_60, go_bipush_63, go_bipush_64, go_bipush_7, go_bipush_75, go_bipush_8, go_bipush_9, go_bipush_96, go_bipush_97, go_bipush_99, go_iconst_m1, go_iconst_0, go_iconst_1, go_iconst_2, go_iconst_3, go_iconst_4, go_iconst_5, go_iinc_m1, go_iinc_m8, go_iinc_1, go_iinc_7, go_sipush_1000, go_sipush_1002, go_sipush_128, go_sipush_132, go_sipush_185, go_sipush_2040, go_sipush_2047, go_sipush_240, go_sipush_255, go_sipush_289, go_sipush_4913, go_sipush_609, go_sipush_625, go_sipush_638, go_sipush_9999, go_lconst_0, go_lconst_1, go_ldc, go_ldcs, go_ldcw, go_ldc2_0, go_ldc2_1, go_ldc2_2, go_ldc2_3, go_ldc2_4, go_ldc2_5, go_ldc2_6, go_ldc2_7, go_ldc2_8, go_ldc2_9, go_ldc2_10, go_ldc2_11, go_ldc2_12, go_ldc2_13, go_ldc2_14, go_ldc2_15, go_ldc2_16, go_ldc2_17, go_ldc2_18, go_ldc2_19, go_ldc2_20, go_ldc2_21, go_ldc2_22, go_ldc2_23, go_ldc2_24, go_ldc2_25, go_ldc2_26, go_ldc2_27, go_ldc2_28, go_ldc2_29, go_ldc2_30, go_ldc2_31, go_ldc2_32, go_ldc2_33, go_ldc2_34, go_ldc2_35, jCI_0, jCI_1, jCI_2, jCI_3, go_iload, go_iload_n, go_lload, go_lload_n, go_aload, go_aload_n, go_istore, go_istore_n, go_lstore, go_lstore_n, go_astore, go_astore_n, go_iadd, go_isub, go_imul, go_iand, go_ior, go_ixor, go_ishl, go_ishr, go_iushr, go_idiv, go_irem, go_ldiv, go_lrem, go_ineg, go_i2l, go_i2c, go_l2i, go_ladd, go_lsub, go_lmul, go_land, go_lor, go_lxor, go_lcmp, go_lshl, go_lshr, go_lushr, go_dup_i, go_dup_a, go_pop_i, go_pop_a, go_dup2, go_getstatic, go_getf_i, go_getf_z, go_getf_l, go_getf_a, go_putf_i, go_putf_l, go_putf_z, go_putf_a, go_iald, go_iald1, go_iald2, go_alen, go_alen2, go_cald, go_bald, go_lald, go_aald, go_iast, go_cast, go_bast, go_last, go_aast, go_new, go_newa, go_anew, go_objinit, go_max, go_min, go_strlen, go_charat, go_acopy, go_rests, go_goto, go_if_eq, go_ic_eq, go_if_ne, go_ic_ne, go_if_lt, go_ic_lt, go_if_ge, go_ic_ge, go_if_gt, go_ic_gt, go_if_le, go_ic_le, go_sw, go_ret, go_lret, go_aret, Nat.reduceAdd, Nat.reduceLT, Nat.reduceLeDiff, Nat.reduceEqDiff, Nat.reduceSub, and_true, true_and, if_true, if_false, and_self, Option.toList_some, Option.toList_none, List.cons_append, List.nil_append, List.length_cons, List.length_nil, Fin.isValue, Fin.reduceFinMk, Fin.val_zero, Fin.val_one, Fin.val_two, jFin3, jI_jsI, jI_jsL, jI_jsR, jL_jsI, jL_jsL, jL_jsR, jR_jsI, jR_jsL, jR_jsR, jN_jsI, jN_jsL, jN_jsR, jXn_jsI, jXn_jsL, jXn_jsR, jXs_jsI, jXs_jsL, jXs_jsR, jEx_jsI, jEx_jsL, jEx_jsR, jI_jXp, jL_jXp, jR_jXp, jN_jXp, jXn_jXp, jXs_jXp, jEx_jXp, jb_164_0, cl_72, cl_107, cl_165, en_164, js_0, js_1, js_2, js_3, js_4, js_5, js_6, js_7, js_8, js_9, js_10, js_11, js_12, js_13, js_14, js_15, js_16, js_17, js_18, js_19, js_20, js_21, js_22, js_23, js_24, js_25, js_26, js_27, js_28, js_29, js_30, js_31, js_32, js_33, js_34, js_35, js_36, js_37, js_38, js_39, js_40, js_41, js_42, js_43, js_44, js_45, js_46, js_47, js_48, js_49, js_50, js_51, js_52, js_53, js_54, js_55, js_56, js_57, js_58, js_59, js_60, js_61, js_62, js_63, js_64, js_65, js_66, js_67, js_68, js_69, js_70, js_71, js_72, js_73, js_74, js_75, js_76, js_77, js_78, js_79, js_80, js_81, js_82, js_83, js_84, js_85, js_86, js_87, js_88, js_89, js_90, js_91, js_92, js_93, js_94, js_95, js_96, js_97, js_98, js_99, js_100, js_101, js_102, js_103, js_104, js_105, js_106, js_107, js_108, js_109, js_110, js_111, js_112, js_113, js_114, js_115, js_116, js_117, js_118, js_119, lit_I, neg_1, jCl_nI, i_lt, i_le, i_eq, i_sub, i_div, n_rem, i_and31, i_shl, i_shr, i_bit, bI_1, bI_0, bI_2, bZ_1, bZ_0, bZ_in, bZ_2, nO_lt, nO_gt, nO_le, nO_ge, nO_eq, nO_qe, nO_self, nO_sele, nO_add, pI_0, pI_s, pI_nO, pI_lt0, pI_ge0, pI_eq, pI_add, nI_add, pk_mul, nx_and, fa_or, fb_xorI, Nat.reduceMul, Nat.reduceDiv, Nat.reduceMod, Nat.reducePow, Nat.reduceAnd, Nat.reduceOr, Nat.reduceXor, Nat.reduceShiftLeft, Nat.reduceShiftRight, eq_self, not_true_eq_false, not_false_eq_true, or_false, false_or, or_true, true_or, and_false, false_and, ↓reduceIte, Nat.zero_add, Nat.add_zero, Nat.not_lt_zero, Nat.zero_le, Bool.true_eq_false, Bool.false_eq_true, decide_true, decide_false, bl_in, rF_t3, rF_t4, rF_0_0, rF_0_1, rF_0_2, rF_0_3, rF_0_4, rF_0_5, rF_0_7, rF_0_8, rF_0_10, rF_0_11, rF_0_12, rF_0_13, rF_0_14, rF_0_15, rF_0_16, rF_1_0, rF_3_0, rF_3_1, rF_3_2, rF_4_3, rF_4_4, rF_7_3, rF_7_4, rF_11_0, rF_11_1, rF_11_2, rF_12_3, rF_12_4, rF_15_3, rF_15_4, rF_19_0, rF_19_1, rF_19_2, rF_19_3, rF_20_0, rF_20_1, rF_20_2, rF_21_3, rF_21_4, rF_24_3, rF_24_4, rF_28_0, rF_28_1, rF_28_2, rF_29_3, rF_29_4, rF_32_3, rF_32_4, rF_36_0, rF_36_1, rF_36_2, rF_37_3, rF_37_4, rF_40_3, rF_40_4, rF_44_0, rF_44_1, rF_44_2, rF_45_3, rF_45_4, rF_48_3, rF_48_4, rF_54_0, rF_54_1, rF_54_2, rF_54_3, rF_54_4, rF_60_0, rF_60_1, rF_60_2, rF_60_3, rF_60_4, rF_66_0, rF_66_1, rF_70_0, rF_70_1, rF_70_2, rF_70_3, rF_70_7, rF_70_8, rF_70_9, rF_71_3, rF_71_4, rF_79_0, rF_79_1, rF_82_0, rF_82_1, rF_82_2, rF_82_3, rF_82_4, rF_86_3, rF_86_4, rF_90_3, rF_90_4, rF_93_1, rF_93_4, rF_93_5, rF_93_6, rF_93_9, rF_93_10, rF_93_11, rF_93_12, rF_93_14, rF_93_15, rF_93_16, rF_93_17, rF_93_20, rF_93_24, rF_93_25, rF_93_26, rF_93_27, rF_93_29, rF_93_31, rF_93_32, rF_93_33, rF_93_34, rF_93_35, rF_93_36, rF_93_37, g.1, g.2, S_town g (show 3 ∈ snL by decide) ht, e2, h9, tn_s (tAd_in (t := t)), T_change g (tAd_in (t := t)) N.xt hk, g1.1, g1.2, T_note g1 hn e1]
/-- after a change, the class's now -/
theorem ch_cl {s : kS} {c : Nat} {h : jM} {t : Nat} {k : Nat} {n : Nat} (N : rNw h s) (ht : t < 2) (hk : cOk k) : rS (mNo (mCh h (tw (s1 s) (s2 s) t) (tAd t) k) n c) 3 (chS s t k) := by
  have f := mCh_f (h := h) (T := tw (s1 s) (s2 s) t) (t := tAd t) (k := k)
  have f2 := mNo_f (h := mCh h (tw (s1 s) (s2 s) t) (tAd t) k) (n := n) (c := c)
  have T2 := mCh_T (h := h) (t := tAd t) (k := k) (N.xt (t := t)) hk
  obtain ⟨a1, a2, a3, a4, a5, a6, a7⟩ := N.1
  rcases (show t = 0 ∨ t = 1 by omega) with rfl | rfl
  · refine ⟨f2.T (by decide) (by decide) (by decide) T2, f2.T (by decide) (by decide) (by decide) (f.T (by decide) (by decide) (by decide) a2), ?_, ?_, ?_, ?_, ?_⟩
    · rw [f2.i (by decide), f.i (by decide)]; exact a3
    · rw [f2.i (by decide), f.i (by decide)]; exact a4
    · rw [f2.i (by decide), f.i (by decide)]; exact a5
    · rw [f2.l (by decide), f.l (by decide)]; exact a6
    · rw [f2.i (by decide), f.i (by decide)]; exact a7
  · refine ⟨f2.T (by decide) (by decide) (by decide) (f.T (by decide) (by decide) (by decide) a1), f2.T (by decide) (by decide) (by decide) T2, ?_, ?_, ?_, ?_, ?_⟩
    · rw [f2.i (by decide), f.i (by decide)]; exact a3
    · rw [f2.i (by decide), f.i (by decide)]; exact a4
    · rw [f2.i (by decide), f.i (by decide)]; exact a5
    · rw [f2.l (by decide), f.l (by decide)]; exact a6
    · rw [f2.i (by decide), f.i (by decide)]; exact a7
theorem fr_lo {S : List Nat} {h : jM} {h1 : jM} (a : fX S h h1) (e : ∀ o, o ∈ S → o < 93) {o : Nat} (ho : 93 ≤ o) : jI h1 o = jI h o ∧ jL h1 o = jL h o := by
  have n : o ∉ S := fun q => by have := e o q; omega
  exact ⟨a.i n, a.l n⟩
/-- the reference's now under a frame of the class's -/
theorem rV.lo {s : kS} {S : List Nat} {h : jM} {h1 : jM} {b : Nat} (a : fX S h h1) (e : ∀ o, o ∈ S → o < 93) (x : rV h b s) : rV h1 b s := by
  unfold rV rU MT; rw [(fr_lo a e (o := 110) (by omega)).1]; exact x
theorem rU.lo {u : kU} {S : List Nat} {h : jM} {h1 : jM} {b : Nat} (a : fX S h h1) (e : ∀ o, o ∈ S → o < 93) (x : rU h b u) : rU h1 b u := by
  unfold rU MT; rw [(fr_lo a e (o := 110) (by omega)).1]; exact x
/-- the class's now under a frame of the reference's -/
def pHi (o _ : Nat) : Bool := decide (o < 93)
theorem hi_w {h : jM} {o : Nat} {k : Nat} {x : Int32} (ho : 93 ≤ o) : smP pHi h (jsI h o k x) := smP_w (by simp [pHi]; omega)
theorem hi_S {s : kS} {h : jM} {h1 : jM} {o : Nat} (a : smP pHi h h1) (ho : o < 80) (x : rS h o s) : rS h1 o s := a.S (fun i hi k => by simp [pHi]; omega) x
theorem mKe_hi {h : jM} {n : Nat} : smP pHi h (mKe h n) := by
  have m : ∀ j, smP pHi h (mSh h j) := by
    intro j
    induction j with
    | zero => exact smP.rf
    | succ j ih => exact ih.tr (smP_c (fun k h1 h2 => by simp [pHi]))
  unfold mKe
  split
  · exact (((m 15).tr (smP_w (by simp [pHi]))).tr (smP_c (fun k h1 h2 => by simp [pHi]))).tr (smP_w (by simp [pHi]))
  · exact (smP_c (fun k h1 h2 => by simp [pHi])).tr (smP_w (by simp [pHi]))
