/-! hands: what is gathered -/
theorem gk_mem {G : (Nat → Nat) → List (Nat → Nat)} {T : kT} {U : kT} {p : Nat → Nat} {i : Nat} {p2 : Nat → Nat} : ∀ {j k : Nat}, p2 ∈ gk T U G p i j k ↔ ∃ o, k ≤ o ∧ o < k + j ∧ fr p 1 o = true ∧ ft T U p i o = true ∧ p2 ∈ G (uN1 p i (o + 1))
  | 0, k => by
    rw [gk]
    constructor
    · intro h; cases h
    · rintro ⟨o, h1, h2, -⟩; omega
  | j + 1, k => by
    rw [gk, List.mem_append, gk_mem]
    constructor
    · rintro (h | ⟨o, a, b, c⟩)
      · by_cases z : (fr p 1 k && ft T U p i k) = true
        · rw [if_pos z] at h
          rw [Bool.and_eq_true] at z
          exact ⟨k, Nat.le_refl _, by omega, z.1, z.2, h⟩
        · rw [if_neg z] at h; cases h
      · exact ⟨o, by omega, by omega, c⟩
    · rintro ⟨o, a, b, c, d, e⟩
      by_cases z : o = k
      · subst z
        left; rw [if_pos (by rw [c, d]; rfl)]; exact e
      · exact Or.inr ⟨o, by omega, by omega, c, d, e⟩
def vOk (T U : kT) (M : Nat) (p : Nat → Nat) : Prop := pv T U p ∧ p4 p ∧ pos T U p = true ∧ pMn p ≤ M
theorem gl_ok {T : kT} {U : kT} {M : Nat} (oT : tOk T) (oU : tOk U) : ∀ (n i m : Nat) (p : Nat → Nat), i + n = tF T → (∀ j, i ≤ j → p j = 0) → vOk T U M p → pMn p + m ≤ M → ∀ p2, p2 ∈ gl T U n i m p → vOk T U M p2 := by
  intro n
  induction n with
  | zero => intro i m p _ _ v _ p2 h
            have : p2 ∈ [p] := h
            rw [List.mem_singleton] at this; subst this; exact v
  | succ n ih =>
    intro i m p hi hp v hm p2 h
    have t4 := oT.f
    have e : gl T U (n + 1) i m p = gl T U n (i + 1) m p ++ (if 0 < m then gk T U (gl T U n (i + 1) (m - 1)) p i (tF U) 0 else []) := rfl
    rw [e, List.mem_append] at h
    rcases h with h | h
    · exact ih (i + 1) m p (by omega) (fun j hj => hp j (by omega)) v hm p2 h
    · by_cases c : 0 < m
      · rw [if_pos c, gk_mem] at h
        obtain ⟨o, -, b, d, f, z⟩ := h
        have i4 : i < 4 := by omega
        have h0 := hp i (Nat.le_refl _)
        have oU' : o < tF U := by omega
        have mm := pMn_u (o := o) i4 h0
        have pu := pos_u (f := i) (o := o) oT oU v.1 i4 (Nat.lt_of_lt_of_le oU' oU.f) h0
        rw [v.2.2.1, f] at pu
        exact ih (i + 1) (m - 1) (uN1 p i (o + 1)) (by omega) (fun j hj => by rw [uN1_n (by omega)]; exact hp j (by omega)) ⟨pv_u v.1 (by omega) oU' (fr_1 d), p4_u v.2.1 i4, pu, by omega⟩ (by omega) p2 z
      · rw [if_neg c] at h; cases h
theorem alF_mo {T : kT} {U : kT} {p : Nat → Nat} {k : Nat} (h : alF T U p (k + 1) = true) : alF T U p k = true := by
  rw [alF] at h
  split at h
  · exact h
  · rw [Bool.and_eq_true] at h; exact h.1
theorem alF_le {T : kT} {U : kT} {p : Nat → Nat} {k : Nat} : ∀ {n : Nat}, alF T U p (k + n) = true → alF T U p k = true
  | 0, h => h
  | n + 1, h => alF_le (n := n) (alF_mo h)
theorem pk_4 {p : Nat → Nat} (h : p4 p) : pk p 4 = p := by
  funext i
  unfold pk
  by_cases c : i < 4
  · rw [if_pos c]
  · rw [if_neg c, h i (by omega)]
theorem pos_pk {T : kT} {U : kT} {p : Nat → Nat} {k : Nat} (oT : tOk T) (oU : tOk U) (hv : pv T U p) (h4 : p4 p) (hp : pos T U p = true) (hk : k ≤ 4) : pos T U (pk p k) = true := by
  rw [← alF_pos oT oU hv k hk]
  have e : alF T U p 4 = true := by rw [alF_pos oT oU hv 4 (Nat.le_refl _), pk_4 h4]; exact hp
  exact alF_le (n := 4 - k) (by rw [show k + (4 - k) = 4 by omega]; exact e)
theorem pMn_pk {p : Nat → Nat} {k : Nat} : pMn (pk p k) ≤ pMn p := by
  have key : ∀ i, (if pk p k i = 0 then 0 else 1) ≤ if p i = 0 then 0 else 1 := fun i => by
    unfold pk
    by_cases c : i < k
    · rw [if_pos c]; exact Nat.le_refl _
    · rw [if_neg c]; simp
  have a := key 0
  have b := key 1
  have c := key 2
  have d := key 3
  unfold pMn
  omega
theorem gl_all {T : kT} {U : kT} {M : Nat} (oT : tOk T) (oU : tOk U) {p2 : Nat → Nat} (v : vOk T U M p2) : ∀ (n i : Nat), i + n = tF T → p2 ∈ gl T U n i (M - pMn (pk p2 i)) (pk p2 i) := by
  obtain ⟨hv, h4, hp, hm⟩ := v
  have t4 := oT.f
  have u4 := oU.f
  intro n
  induction n with
  | zero =>
    intro i hi
    show p2 ∈ [pk p2 i]
    rw [List.mem_singleton, pk_all hv (by omega) h4]
  | succ n ih =>
    intro i hi
    have e : gl T U (n + 1) i (M - pMn (pk p2 i)) (pk p2 i) = gl T U n (i + 1) (M - pMn (pk p2 i)) (pk p2 i) ++ (if 0 < M - pMn (pk p2 i) then gk T U (gl T U n (i + 1) (M - pMn (pk p2 i) - 1)) (pk p2 i) i (tF U) 0 else []) := rfl
    rw [e, List.mem_append]
    have z := ih (i + 1) (by omega)
    by_cases c : p2 i = 0
    · left; rw [pk_z c]; exact z
    · right
      have i4 : i < 4 := by omega
      have l := hv.1 i i4
      have e0 : pk p2 i i = 0 := by simp [pk]
      have ps := pk_s (p := p2) (k := i) c
      have mm := pMn_u (p := pk p2 i) (o := p2 i - 1) i4 e0
      rw [ps] at mm
      have mp := pMn_pk (p := p2) (k := i + 1)
      have pvk : pv T U (pk p2 i) := ⟨fun j hj => by unfold pk; split; exact hv.1 j hj; exact Nat.zero_le _, fun j hj hF => by unfold pk; split; exact hv.2.1 j hj hF; rfl, fun a b ha hb hne h0 => by
        unfold pk at h0 ⊢
        by_cases q1 : a < i
        · rw [if_pos q1] at h0 ⊢
          by_cases q2 : b < i
          · rw [if_pos q2]; exact hv.2.2 a b ha hb hne h0
          · rw [if_neg q2]; exact h0
        · rw [if_neg q1] at h0; exact absurd rfl h0⟩
      have pu := pos_u (f := i) (o := p2 i - 1) oT oU pvk i4 (by omega) e0
      rw [ps, pos_pk oT oU hv h4 hp (by omega), pos_pk oT oU hv h4 hp (by omega), Bool.true_and] at pu
      rw [if_pos (by omega), gk_mem]
      refine ⟨p2 i - 1, Nat.zero_le _, by omega, by simp [fr, pk_free hv i4 c], pu.symm, ?_⟩
      rw [ps, show M - pMn (pk p2 i) - 1 = M - pMn (pk p2 (i + 1)) by omega]
      exact z
/-! how soon it is found out, as it is kept -/
def fX0 (T U : kT) (M r : Nat) (p : Nat → Nat) : Nat := hiG (fun s => hF T U M (s + 1) p) r 0
def fV (T U : kT) (M r : Nat) (p : Nat → Nat) : Nat := if gth T U M p = true then (if fX0 T U M r p = 0 then 1000 else fX0 T U M r p) else 0
theorem fV_c {T : kT} {U : kT} {p : Nat → Nat} {M r : Nat} (hr : r < 1000) : (hF T U M r p = true ∧ fV T U M r p ≤ r) ∨ (hF T U M r p = false ∧ fV T U M r p = 1000) := by
  unfold fV fX0
  cases g : gth T U M p with
  | false => left; rw [if_neg (by decide)]; exact ⟨hF_0 g, Nat.zero_le _⟩
  | true =>
    rw [if_pos rfl]
    rcases hiG_ok (f := fun s => hF T U M (s + 1) p) r 0 with ⟨e, z⟩ | ⟨i, i1, i2, i3, e, -⟩
    · right
      rw [e, if_pos rfl]
      refine ⟨?_, rfl⟩
      cases r with
      | zero => show (!gth T U M p) = false; rw [g]; rfl
      | succ s => exact z s (Nat.zero_le _) (by omega)
    · left
      rw [e, if_neg (by omega)]
      have := hF_le (k := r - (i + 1)) i3
      rw [show i + 1 + (r - (i + 1)) = r by omega] at this
      exact ⟨this, by omega⟩
theorem hiG_s {f : Nat → Bool} : ∀ (n k : Nat), hiG f (n + 1) k = if hiG f n k = 0 then (if f (k + n) then k + n + 1 else 0) else hiG f n k
  | 0, k => by simp [hiG]
  | n + 1, k => by
    have ih := hiG_s (f := f) n (k + 1)
    have e1 : hiG f (n + 1 + 1) k = if f k then k + 1 else hiG f (n + 1) (k + 1) := rfl
    have e2 : hiG f (n + 1) k = if f k then k + 1 else hiG f n (k + 1) := rfl
    rw [e1, e2]
    cases c : f k with
    | true => simp
    | false =>
      simp only [Bool.false_eq_true, if_false]
      rw [ih, show k + 1 + n = k + (n + 1) by omega]
theorem fV_s {T : kT} {U : kT} {p : Nat → Nat} {M r : Nat} (hr : r < 999) : fV T U M (r + 1) p = if hF T U M r p = true then fV T U M r p else if hF T U M (r + 1) p = true then r + 1 else 1000 := by
  rcases fV_c (T := T) (U := U) (p := p) (M := M) (r := r) (by omega) with ⟨a, b⟩ | ⟨a, b⟩
  · rw [a, if_pos rfl]
    unfold fV fX0 at b ⊢
    cases g : gth T U M p with
    | false => rfl
    | true =>
      rw [g, if_pos rfl] at b
      rw [if_pos rfl, if_pos rfl, hiG_s]
      generalize hiG (fun s => hF T U M (s + 1) p) r 0 = x at *
      by_cases c : x = 0
      · rw [if_pos c] at b; omega
      · rw [if_neg c]
  · rw [a, if_neg (by decide)]
    unfold fV fX0 at b ⊢
    cases g : gth T U M p with
    | false => rw [hF_0 g] at a; cases a
    | true =>
      rw [g, if_pos rfl] at b
      rw [if_pos rfl, hiG_s]
      have x0 : hiG (fun s => hF T U M (s + 1) p) r 0 = 0 := by
        by_cases c : hiG (fun s => hF T U M (s + 1) p) r 0 = 0
        · exact c
        · rw [if_neg c] at b
          rcases hiG_ok (f := fun s => hF T U M (s + 1) p) r 0 with ⟨e, -⟩ | ⟨i, i1, i2, i3, e, -⟩
          · exact e
          · omega
      rw [x0, if_pos rfl, Nat.zero_add]
      cases d : hF T U M (r + 1) p with
      | true => simp
      | false => simp
theorem fV_le {T : kT} {U : kT} {p : Nat → Nat} {M r : Nat} (hr : r < 1000) : fV T U M r p ≤ 1000 := by
  rcases fV_c (T := T) (U := U) (p := p) (M := M) hr with ⟨-, b⟩ | ⟨-, b⟩ <;> omega
theorem pC_0 : pC p0 = 0 := rfl
theorem pc4_pD {p : Nat → Nat} : pc4 (pD p) = pMn p := by
  unfold pc4
  rw [bI_ite, bI_ite, bI_ite, bI_ite, pD_bit (by omega), pD_bit (by omega), pD_bit (by omega), pD_bit (by omega)]
  unfold pMn
  by_cases c0 : p 0 = 0 <;> by_cases c1 : p 1 = 0 <;> by_cases c2 : p 2 = 0 <;> by_cases c3 : p 3 = 0 <;> simp [c0, c1, c2, c3]
/-! a position shown -/
theorem BD_cp {h : jM} {q : kQ} {T : kT} {U : kT} {p : Nat → Nat} (b : BD h q T U p) : BD (mCP h) q T U p0 ∧ fP h (mCP h) := by
  have f : fP h (mCP h) := ⟨(((fI_f (by simp)).tr (fI_w (by simp))).tr (fI_w (by simp))).tr (fI_w (by simp)), fun k hk => by simp [mCP, jI_jsI, jI_jFl, hk]⟩
  refine ⟨f.bd b (fun i hi => ?_) ⟨?_, ?_, ?_⟩ pv_0, f⟩
  · simp [mCP, jI_jsI, jI_jFl, hi, p0, pI_0]
  · simp [mCP, jI_jsI]; rfl
  · simp [mCP, jI_jsI]; rfl
  · simp [mCP, jI_jsI]; rfl
theorem pC_dg {p : Nat → Nat} (l4 : ∀ i, i < 4 → p i ≤ 4) {i : Nat} (hi : i < 4) : pC p / 5 ^ i % 5 = p i := by
  have a := l4 0 (by omega)
  have b := l4 1 (by omega)
  have c := l4 2 (by omega)
  have d := l4 3 (by omega)
  unfold pC
  rcases k4c hi with rfl | rfl | rfl | rfl
  · show (p 0 + 5 * p 1 + 25 * p 2 + 125 * p 3) / 1 % 5 = _; omega
  · show (p 0 + 5 * p 1 + 25 * p 2 + 125 * p 3) / 5 % 5 = _; omega
  · show (p 0 + 5 * p 1 + 25 * p 2 + 125 * p 3) / 25 % 5 = _; omega
  · show (p 0 + 5 * p 1 + 25 * p 2 + 125 * p 3) / 125 % 5 = _; omega
theorem n0_1 : nI 0 - nI 1 = nO := by decide
set_option maxRecDepth 100000 in
set_option maxHeartbeats 4000000 in
theorem B_sh_go {d : Nat} {q : kQ} {T : kT} {U : kT} {p : Nat → Nat} (hv : pv T U p) (h4 : p4 p) (u4 : tF U ≤ 4) : ∀ (n i : Nat) (h : jM) (u : Value), i + n = 4 → BD h q T U (pk p i) → ∃ h', (∀ K, jGo (d + 1) 4 (jAt 4 6) [.ref 70, .int (nI (pC p)), .int (nI i), u] [] h K = K none h') ∧ BD h' q T U p ∧ fP h h' := by
  intro n
  induction n with
  | zero =>
    intro i h u hi b
    have g := b.g
    have e : i = 4 := by omega
    subst e
    rw [pk_4 h4] at b
    refine ⟨h, fun K => ?_, b, fP.rf⟩
    (conv => lhs; rw [jb_4_6])
    simp (maxSteps := 1000000) (disch := omega) only [jMI_i, jML_l, jMA_a, jSum_n, jSum_i, jSum_a, jSum_l, jGet_0, jPut_0, jGet_1, jPut_1i, jPut_1a, jPut_1n, jPut_1l, jGet_2, jPut_2i, jPut_2a, jPut_2n, jPut_2l, jGet_3, jPut_3i, jPut_3a, jPut_3n, jPut_3l, jGet_4, jPut_4i, jPut_4a, jPut_4n, jPut_4l, jGet_5, jPut_5i, jPut_5a, jPut_5n, jPut_5l, jGet_6, jPut_6i, jPut_6a, jPut_6n, jPut_6l, jGet_7, jPut_7i, jPut_7a, jPut_7n, jPut_7l, jGet_8, jPut_8i, jPut_8a, jPut_8n, jPut_8l, jGet_9, jPut_9i, jPut_9a, jPut_9n, jPut_9l, jGet_10, jPut_10i, jPut_10a, jPut_10n, jPut_10l, jGet_11, jPut_11i, jPut_11a, jPut_11n, jPut_11l, jGet_12, jPut_12i, jPut_12a, jPut_12n, jPut_12l, jPut2_e, jSet_1, jSet_2, jSet_3, jSet_4, jSet_5, jSet_6, jSet_7, jSet_8, jSet_9, jSet_10, jSet_11, jSet_12, go_bipush_m2, go_bipush_10, go_bipush_11, go_bipush_12, go_bipush_120, go_bipush_122, go_bipush_126, go_bipush_127, go_bipush_13, go_bipush_14, go_bipush_15, go_bipush_16, go_bipush_17, go_bipush_20, go_bipush_21, go_bipush_22, go_bipush_24, go_bipush_25, go_bipush_26, go_bipush_29, go_bipush_30, go_bipush_32, go_bipush_40, go_bipush_44, go_bipush_48, go_bipush_56, go_bipush_57, go_bipush_59, go_bipush_6, go_bipush_60, go_bipush_63, go_bipush_64, go_bipush_7, go_bipush_75, go_bipush_8, go_bipush_9, go_bipush_96, go_bipush_97, go_bipush_99, go_iconst_m1, go_iconst_0, go_iconst_1, go_iconst_2, go_iconst_3, go_iconst_4, go_iconst_5, go_iinc_m1, go_iinc_m8, go_iinc_1, go_iinc_7, go_sipush_1000, go_sipush_1002, go_sipush_128, go_sipush_132, go_sipush_185, go_sipush_2040, go_sipush_2047, go_sipush_240, go_sipush_255, go_sipush_289, go_sipush_4913, go_sipush_609, go_sipush_625, go_sipush_638, go_sipush_9999, go_lconst_0, go_lconst_1, go_ldc, go_ldcs, go_ldcw, go_ldc2_0, go_ldc2_1, go_ldc2_2, go_ldc2_3, go_ldc2_4, go_ldc2_5, go_ldc2_6, go_ldc2_7, go_ldc2_8, go_ldc2_9, go_ldc2_10, go_ldc2_11, go_ldc2_12, go_ldc2_13, go_ldc2_14, go_ldc2_15, go_ldc2_16, go_ldc2_17, go_ldc2_18, go_ldc2_19, go_ldc2_20, go_ldc2_21, go_ldc2_22, go_ldc2_23, go_ldc2_24, go_ldc2_25, go_ldc2_26, go_ldc2_27, go_ldc2_28, go_ldc2_29, go_ldc2_30, go_ldc2_31, go_ldc2_32, go_ldc2_33, go_ldc2_34, go_ldc2_35, jCI_0, jCI_1, jCI_2, jCI_3, go_iload, go_iload_n, go_lload, go_lload_n, go_aload, go_aload_n, go_istore, go_istore_n, go_lstore, go_lstore_n, go_astore, go_astore_n, go_iadd, go_isub, go_imul, go_iand, go_ior, go_ixor, go_ishl, go_ishr, go_iushr, go_idiv, go_irem, go_ldiv, go_lrem, go_ineg, go_i2l, go_i2c, go_l2i, go_ladd, go_lsub, go_lmul, go_land, go_lor, go_lxor, go_lcmp, go_lshl, go_lshr, go_lushr, go_dup_i, go_dup_a, go_pop_i, go_pop_a, go_dup2, go_getstatic, go_getf_i, go_getf_z, go_getf_l, go_getf_a, go_putf_i, go_putf_l, go_putf_z, go_putf_a, go_iald, go_iald1, go_iald2, go_alen, go_alen2, go_cald, go_bald, go_lald, go_aald, go_iast, go_cast, go_bast, go_last, go_aast, go_new, go_newa, go_anew, go_objinit, go_max, go_min, go_strlen, go_charat, go_acopy, go_rests, go_goto, go_if_eq, go_ic_eq, go_if_ne, go_ic_ne, go_if_lt, go_ic_lt, go_if_ge, go_ic_ge, go_if_gt, go_ic_gt, go_if_le, go_ic_le, go_sw, go_ret, go_lret, go_aret, Nat.reduceAdd, Nat.reduceLT, Nat.reduceLeDiff, Nat.reduceEqDiff, Nat.reduceSub, and_true, true_and, if_true, if_false, and_self, Option.toList_some, Option.toList_none, List.cons_append, List.nil_append, List.length_cons, List.length_nil, Fin.isValue, Fin.reduceFinMk, Fin.val_zero, Fin.val_one, Fin.val_two, jFin3, jI_jsI_n, jI_jsL_n, jI_jsR_n, jL_jsI_n, jL_jsL_n, jL_jsR_n, jR_jsI_n, jR_jsL_n, jR_jsR_n, jN_jsI_n, jN_jsL_n, jN_jsR_n, jXn_jsI_n, jXn_jsL_n, jXn_jsR_n, jXs_jsI_n, jXs_jsL_n, jXs_jsR_n, jEx_jsI_n, jEx_jsL_n, jEx_jsR_n, jI_jXp_n, jL_jXp_n, jR_jXp_n, jN_jXp_n, jXn_jXp_n, jXs_jXp_n, jEx_jXp_n, jb_4_39, cl_3, cl_11, js_0, js_1, js_2, js_3, js_4, js_5, js_6, js_7, js_8, js_9, js_10, js_11, js_12, js_13, js_14, js_15, js_16, js_17, js_18, js_19, js_20, js_21, js_22, js_23, js_24, js_25, js_26, js_27, js_28, js_29, js_30, js_31, js_32, js_33, js_34, js_35, js_36, js_37, js_38, js_39, js_40, js_41, js_42, js_43, js_44, js_45, js_46, js_47, js_48, js_49, js_50, js_51, js_52, js_53, js_54, js_55, js_56, js_57, js_58, js_59, js_60, js_61, js_62, js_63, js_64, js_65, js_66, js_67, js_68, js_69, js_70, js_71, js_72, js_73, js_74, js_75, js_76, js_77, js_78, js_79, js_80, js_81, js_82, js_83, js_84, js_85, js_86, js_87, js_88, js_89, js_90, js_91, js_92, js_93, js_94, js_95, js_96, js_97, js_98, js_99, js_100, js_101, js_102, js_103, js_104, js_105, js_106, js_107, js_108, js_109, js_110, js_111, js_112, js_113, js_114, js_115, js_116, js_117, js_118, js_119, lit_I, neg_1, jCl_nI, i_lt, i_le, i_eq, i_sub, i_div, n_rem, i_and31, i_shl, i_shr, i_bit, bI_1, bI_0, bI_2, bZ_1, bZ_0, bZ_in, bZ_2, nO_lt, nO_gt, nO_le, nO_ge, nO_eq, nO_qe, nO_self, nO_sele, nO_add, pI_0, pI_s, pI_nO, pI_lt0, pI_ge0, pI_eq, pI_add, nI_add, pk_mul, nx_and, fa_or, fb_xorI, Nat.reduceMul, Nat.reduceDiv, Nat.reduceMod, Nat.reducePow, Nat.reduceAnd, Nat.reduceOr, Nat.reduceXor, Nat.reduceShiftLeft, Nat.reduceShiftRight, eq_self, not_true_eq_false, not_false_eq_true, or_false, false_or, or_true, true_or, and_false, false_and, ↓reduceIte, Nat.zero_add, Nat.add_zero, Nat.not_lt_zero, Nat.zero_le, Bool.true_eq_false, Bool.false_eq_true, decide_true, decide_false, bl_in, rF_t3, rF_t4, rF_0_0, rF_0_1, rF_0_2, rF_0_3, rF_0_4, rF_0_5, rF_0_7, rF_0_8, rF_0_10, rF_0_11, rF_0_12, rF_0_13, rF_0_14, rF_0_15, rF_0_16, rF_1_0, rF_3_0, rF_3_1, rF_3_2, rF_4_3, rF_4_4, rF_7_3, rF_7_4, rF_11_0, rF_11_1, rF_11_2, rF_12_3, rF_12_4, rF_15_3, rF_15_4, rF_19_0, rF_19_1, rF_19_2, rF_19_3, rF_20_0, rF_20_1, rF_20_2, rF_21_3, rF_21_4, rF_24_3, rF_24_4, rF_28_0, rF_28_1, rF_28_2, rF_29_3, rF_29_4, rF_32_3, rF_32_4, rF_36_0, rF_36_1, rF_36_2, rF_37_3, rF_37_4, rF_40_3, rF_40_4, rF_44_0, rF_44_1, rF_44_2, rF_45_3, rF_45_4, rF_48_3, rF_48_4, rF_54_0, rF_54_1, rF_54_2, rF_54_3, rF_54_4, rF_60_0, rF_60_1, rF_60_2, rF_60_3, rF_60_4, rF_66_0, rF_66_1, rF_70_0, rF_70_1, rF_70_2, rF_70_3, rF_70_7, rF_70_8, rF_70_9, rF_71_3, rF_71_4, rF_79_0, rF_79_1, rF_82_0, rF_82_1, rF_82_2, rF_82_3, rF_82_4, rF_86_3, rF_86_4, rF_90_3, rF_90_4, rF_93_1, rF_93_4, rF_93_5, rF_93_6, rF_93_9, rF_93_10, rF_93_11, rF_93_12, rF_93_14, rF_93_15, rF_93_16, rF_93_17, rF_93_20, rF_93_24, rF_93_25, rF_93_26, rF_93_27, rF_93_29, rF_93_31, rF_93_32, rF_93_33, rF_93_34, rF_93_35, rF_93_36, rF_93_37, g.1, g.2, jN_mPn_n, jR_mPn_n, mTh_e_n, jN_mTh_n, jR_mTh_n, jI_mTh_n]
  | succ n ih =>
    intro i h u hi b
    have g := b.g
    have i4 : i < 4 := by omega
    have i4' : ¬ 4 ≤ i := by omega
    have c625 := pC_lt hv u4
    have dg := pC_dg (fun i hi => Nat.le_trans (hv.1 i hi) u4) i4
    have d1 : 0 < 5 ^ i := Nat.pow_pos (by decide)
    have d2 : 5 ^ i < 2147483648 := by rcases k4c i4 with rfl | rfl | rfl | rfl <;> decide
    have DK := dg_k i i4
    have DV := i_div (a := pC p) (d := 5 ^ i) (by omega) d1 d2
    have DN : ¬ nI (5 ^ i) = nI 0 := by rw [i_eq (by omega) (by omega)]; omega
    have q5 : pC p / 5 ^ i < 625 := Nat.lt_of_le_of_lt (Nat.div_le_self _ _) c625
    have DR : nI (pC p / 5 ^ i) - nI (pC p / 5 ^ i / 5 * 5) = nI (p i) := by
      rw [i_rem (by omega) (by omega) (by omega), dg]
    generalize pC p / 5 ^ i = x at *
    cases e : p i with
    | zero =>
      rw [pk_z e] at b
      rw [e] at DR
      obtain ⟨h1, e1, b1, f1⟩ := ih (i + 1) h (.int nO) (by omega) b
      refine ⟨h1, fun K => ?_, b1, f1⟩
      rw [← e1 K]
      (conv => lhs; rw [jb_4_6])
      simp (maxSteps := 1000000) (disch := omega) only [jMI_i, jML_l, jMA_a, jSum_n, jSum_i, jSum_a, jSum_l, jGet_0, jPut_0, jGet_1, jPut_1i, jPut_1a, jPut_1n, jPut_1l, jGet_2, jPut_2i, jPut_2a, jPut_2n, jPut_2l, jGet_3, jPut_3i, jPut_3a, jPut_3n, jPut_3l, jGet_4, jPut_4i, jPut_4a, jPut_4n, jPut_4l, jGet_5, jPut_5i, jPut_5a, jPut_5n, jPut_5l, jGet_6, jPut_6i, jPut_6a, jPut_6n, jPut_6l, jGet_7, jPut_7i, jPut_7a, jPut_7n, jPut_7l, jGet_8, jPut_8i, jPut_8a, jPut_8n, jPut_8l, jGet_9, jPut_9i, jPut_9a, jPut_9n, jPut_9l, jGet_10, jPut_10i, jPut_10a, jPut_10n, jPut_10l, jGet_11, jPut_11i, jPut_11a, jPut_11n, jPut_11l, jGet_12, jPut_12i, jPut_12a, jPut_12n, jPut_12l, jPut2_e, jSet_1, jSet_2, jSet_3, jSet_4, jSet_5, jSet_6, jSet_7, jSet_8, jSet_9, jSet_10, jSet_11, jSet_12, go_bipush_m2, go_bipush_10, go_bipush_11, go_bipush_12, go_bipush_120, go_bipush_122, go_bipush_126, go_bipush_127, go_bipush_13, go_bipush_14, go_bipush_15, go_bipush_16, go_bipush_17, go_bipush_20, go_bipush_21, go_bipush_22, go_bipush_24, go_bipush_25, go_bipush_26, go_bipush_29, go_bipush_30, go_bipush_32, go_bipush_40, go_bipush_44, go_bipush_48, go_bipush_56, go_bipush_57, go_bipush_59, go_bipush_6, go_bipush_60, go_bipush_63, go_bipush_64, go_bipush_7, go_bipush_75, go_bipush_8, go_bipush_9, go_bipush_96, go_bipush_97, go_bipush_99, go_iconst_m1, go_iconst_0, go_iconst_1, go_iconst_2, go_iconst_3, go_iconst_4, go_iconst_5, go_iinc_m1, go_iinc_m8, go_iinc_1, go_iinc_7, go_sipush_1000, go_sipush_1002, go_sipush_128, go_sipush_132, go_sipush_185, go_sipush_2040, go_sipush_2047, go_sipush_240, go_sipush_255, go_sipush_289, go_sipush_4913, go_sipush_609, go_sipush_625, go_sipush_638, go_sipush_9999, go_lconst_0, go_lconst_1, go_ldc, go_ldcs, go_ldcw, go_ldc2_0, go_ldc2_1, go_ldc2_2, go_ldc2_3, go_ldc2_4, go_ldc2_5, go_ldc2_6, go_ldc2_7, go_ldc2_8, go_ldc2_9, go_ldc2_10, go_ldc2_11, go_ldc2_12, go_ldc2_13, go_ldc2_14, go_ldc2_15, go_ldc2_16, go_ldc2_17, go_ldc2_18, go_ldc2_19, go_ldc2_20, go_ldc2_21, go_ldc2_22, go_ldc2_23, go_ldc2_24, go_ldc2_25, go_ldc2_26, go_ldc2_27, go_ldc2_28, go_ldc2_29, go_ldc2_30, go_ldc2_31, go_ldc2_32, go_ldc2_33, go_ldc2_34, go_ldc2_35, jCI_0, jCI_1, jCI_2, jCI_3, go_iload, go_iload_n, go_lload, go_lload_n, go_aload, go_aload_n, go_istore, go_istore_n, go_lstore, go_lstore_n, go_astore, go_astore_n, go_iadd, go_isub, go_imul, go_iand, go_ior, go_ixor, go_ishl, go_ishr, go_iushr, go_idiv, go_irem, go_ldiv, go_lrem, go_ineg, go_i2l, go_i2c, go_l2i, go_ladd, go_lsub, go_lmul, go_land, go_lor, go_lxor, go_lcmp, go_lshl, go_lshr, go_lushr, go_dup_i, go_dup_a, go_pop_i, go_pop_a, go_dup2, go_getstatic, go_getf_i, go_getf_z, go_getf_l, go_getf_a, go_putf_i, go_putf_l, go_putf_z, go_putf_a, go_iald, go_iald1, go_iald2, go_alen, go_alen2, go_cald, go_bald, go_lald, go_aald, go_iast, go_cast, go_bast, go_last, go_aast, go_new, go_newa, go_anew, go_objinit, go_max, go_min, go_strlen, go_charat, go_acopy, go_rests, go_goto, go_if_eq, go_ic_eq, go_if_ne, go_ic_ne, go_if_lt, go_ic_lt, go_if_ge, go_ic_ge, go_if_gt, go_ic_gt, go_if_le, go_ic_le, go_sw, go_ret, go_lret, go_aret, Nat.reduceAdd, Nat.reduceLT, Nat.reduceLeDiff, Nat.reduceEqDiff, Nat.reduceSub, and_true, true_and, if_true, if_false, and_self, Option.toList_some, Option.toList_none, List.cons_append, List.nil_append, List.length_cons, List.length_nil, Fin.isValue, Fin.reduceFinMk, Fin.val_zero, Fin.val_one, Fin.val_two, jFin3, jI_jsI_n, jI_jsL_n, jI_jsR_n, jL_jsI_n, jL_jsL_n, jL_jsR_n, jR_jsI_n, jR_jsL_n, jR_jsR_n, jN_jsI_n, jN_jsL_n, jN_jsR_n, jXn_jsI_n, jXn_jsL_n, jXn_jsR_n, jXs_jsI_n, jXs_jsL_n, jXs_jsR_n, jEx_jsI_n, jEx_jsL_n, jEx_jsR_n, jI_jXp_n, jL_jXp_n, jR_jXp_n, jN_jXp_n, jXn_jXp_n, jXs_jXp_n, jEx_jXp_n, jb_4_33, cl_3, cl_11, js_0, js_1, js_2, js_3, js_4, js_5, js_6, js_7, js_8, js_9, js_10, js_11, js_12, js_13, js_14, js_15, js_16, js_17, js_18, js_19, js_20, js_21, js_22, js_23, js_24, js_25, js_26, js_27, js_28, js_29, js_30, js_31, js_32, js_33, js_34, js_35, js_36, js_37, js_38, js_39, js_40, js_41, js_42, js_43, js_44, js_45, js_46, js_47, js_48, js_49, js_50, js_51, js_52, js_53, js_54, js_55, js_56, js_57, js_58, js_59, js_60, js_61, js_62, js_63, js_64, js_65, js_66, js_67, js_68, js_69, js_70, js_71, js_72, js_73, js_74, js_75, js_76, js_77, js_78, js_79, js_80, js_81, js_82, js_83, js_84, js_85, js_86, js_87, js_88, js_89, js_90, js_91, js_92, js_93, js_94, js_95, js_96, js_97, js_98, js_99, js_100, js_101, js_102, js_103, js_104, js_105, js_106, js_107, js_108, js_109, js_110, js_111, js_112, js_113, js_114, js_115, js_116, js_117, js_118, js_119, lit_I, neg_1, jCl_nI, i_lt, i_le, i_eq, i_sub, i_div, n_rem, i_and31, i_shl, i_shr, i_bit, bI_1, bI_0, bI_2, bZ_1, bZ_0, bZ_in, bZ_2, nO_lt, nO_gt, nO_le, nO_ge, nO_eq, nO_qe, nO_self, nO_sele, nO_add, pI_0, pI_s, pI_nO, pI_lt0, pI_ge0, pI_eq, pI_add, nI_add, pk_mul, nx_and, fa_or, fb_xorI, Nat.reduceMul, Nat.reduceDiv, Nat.reduceMod, Nat.reducePow, Nat.reduceAnd, Nat.reduceOr, Nat.reduceXor, Nat.reduceShiftLeft, Nat.reduceShiftRight, eq_self, not_true_eq_false, not_false_eq_true, or_false, false_or, or_true, true_or, and_false, false_and, ↓reduceIte, Nat.zero_add, Nat.add_zero, Nat.not_lt_zero, Nat.zero_le, Bool.true_eq_false, Bool.false_eq_true, decide_true, decide_false, bl_in, rF_t3, rF_t4, rF_0_0, rF_0_1, rF_0_2, rF_0_3, rF_0_4, rF_0_5, rF_0_7, rF_0_8, rF_0_10, rF_0_11, rF_0_12, rF_0_13, rF_0_14, rF_0_15, rF_0_16, rF_1_0, rF_3_0, rF_3_1, rF_3_2, rF_4_3, rF_4_4, rF_7_3, rF_7_4, rF_11_0, rF_11_1, rF_11_2, rF_12_3, rF_12_4, rF_15_3, rF_15_4, rF_19_0, rF_19_1, rF_19_2, rF_19_3, rF_20_0, rF_20_1, rF_20_2, rF_21_3, rF_21_4, rF_24_3, rF_24_4, rF_28_0, rF_28_1, rF_28_2, rF_29_3, rF_29_4, rF_32_3, rF_32_4, rF_36_0, rF_36_1, rF_36_2, rF_37_3, rF_37_4, rF_40_3, rF_40_4, rF_44_0, rF_44_1, rF_44_2, rF_45_3, rF_45_4, rF_48_3, rF_48_4, rF_54_0, rF_54_1, rF_54_2, rF_54_3, rF_54_4, rF_60_0, rF_60_1, rF_60_2, rF_60_3, rF_60_4, rF_66_0, rF_66_1, rF_70_0, rF_70_1, rF_70_2, rF_70_3, rF_70_7, rF_70_8, rF_70_9, rF_71_3, rF_71_4, rF_79_0, rF_79_1, rF_82_0, rF_82_1, rF_82_2, rF_82_3, rF_82_4, rF_86_3, rF_86_4, rF_90_3, rF_90_4, rF_93_1, rF_93_4, rF_93_5, rF_93_6, rF_93_9, rF_93_10, rF_93_11, rF_93_12, rF_93_14, rF_93_15, rF_93_16, rF_93_17, rF_93_20, rF_93_24, rF_93_25, rF_93_26, rF_93_27, rF_93_29, rF_93_31, rF_93_32, rF_93_33, rF_93_34, rF_93_35, rF_93_36, rF_93_37, g.1, g.2, i4', DK, DV, DN, DR, n0_1]
    | succ k =>
      have e0 : pk p i i = 0 := by simp [pk]
      have l := hv.1 i i4
      have iT : i < tF T := by
        by_cases z : i < tF T
        · exact z
        · have := hv.2.1 i i4 (by omega); omega
      have lk := pk_free hv i4 (by omega)
      rw [e, Nat.add_sub_cancel] at lk
      have bp := BD_place b iT (show k < tF U by omega) e0 lk
      have ps := pk_s (p := p) (k := i) (by omega)
      rw [e, Nat.add_sub_cancel] at ps
      rw [ps] at bp
      have fp := (mPl_f (h := h) (p := pk p i) (f := i) (o := k))
      have PL := fun K => B_place (d := d) (K := K) b i4 (show k < 4 by omega)
      generalize mPl h (pk p i) i k = h1 at bp fp PL
      have g1 := bp.g
      rw [e] at DR
      obtain ⟨h2, e2, b2, f2⟩ := ih (i + 1) h1 (.int (nI k)) (by omega) bp
      refine ⟨h2, fun K => ?_, b2, fp.tr f2⟩
      rw [← e2 K]
      have k0 : ¬ k < 0 := by omega
      (conv => lhs; rw [jb_4_6])
      simp (maxSteps := 1000000) (disch := omega) only [jMI_i, jML_l, jMA_a, jSum_n, jSum_i, jSum_a, jSum_l, jGet_0, jPut_0, jGet_1, jPut_1i, jPut_1a, jPut_1n, jPut_1l, jGet_2, jPut_2i, jPut_2a, jPut_2n, jPut_2l, jGet_3, jPut_3i, jPut_3a, jPut_3n, jPut_3l, jGet_4, jPut_4i, jPut_4a, jPut_4n, jPut_4l, jGet_5, jPut_5i, jPut_5a, jPut_5n, jPut_5l, jGet_6, jPut_6i, jPut_6a, jPut_6n, jPut_6l, jGet_7, jPut_7i, jPut_7a, jPut_7n, jPut_7l, jGet_8, jPut_8i, jPut_8a, jPut_8n, jPut_8l, jGet_9, jPut_9i, jPut_9a, jPut_9n, jPut_9l, jGet_10, jPut_10i, jPut_10a, jPut_10n, jPut_10l, jGet_11, jPut_11i, jPut_11a, jPut_11n, jPut_11l, jGet_12, jPut_12i, jPut_12a, jPut_12n, jPut_12l, jPut2_e, jSet_1, jSet_2, jSet_3, jSet_4, jSet_5, jSet_6, jSet_7, jSet_8, jSet_9, jSet_10, jSet_11, jSet_12, go_bipush_m2, go_bipush_10, go_bipush_11, go_bipush_12, go_bipush_120, go_bipush_122, go_bipush_126, go_bipush_127, go_bipush_13, go_bipush_14, go_bipush_15, go_bipush_16, go_bipush_17, go_bipush_20, go_bipush_21, go_bipush_22, go_bipush_24, go_bipush_25, go_bipush_26, go_bipush_29, go_bipush_30, go_bipush_32, go_bipush_40, go_bipush_44, go_bipush_48, go_bipush_56, go_bipush_57, go_bipush_59, go_bipush_6, go_bipush_60, go_bipush_63, go_bipush_64, go_bipush_7, go_bipush_75, go_bipush_8, go_bipush_9, go_bipush_96, go_bipush_97, go_bipush_99, go_iconst_m1, go_iconst_0, go_iconst_1, go_iconst_2, go_iconst_3, go_iconst_4, go_iconst_5, go_iinc_m1, go_iinc_m8, go_iinc_1, go_iinc_7, go_sipush_1000, go_sipush_1002, go_sipush_128, go_sipush_132, go_sipush_185, go_sipush_2040, go_sipush_2047, go_sipush_240, go_sipush_255, go_sipush_289, go_sipush_4913, go_sipush_609, go_sipush_625, go_sipush_638, go_sipush_9999, go_lconst_0, go_lconst_1, go_ldc, go_ldcs, go_ldcw, go_ldc2_0, go_ldc2_1, go_ldc2_2, go_ldc2_3, go_ldc2_4, go_ldc2_5, go_ldc2_6, go_ldc2_7, go_ldc2_8, go_ldc2_9, go_ldc2_10, go_ldc2_11, go_ldc2_12, go_ldc2_13, go_ldc2_14, go_ldc2_15, go_ldc2_16, go_ldc2_17, go_ldc2_18, go_ldc2_19, go_ldc2_20, go_ldc2_21, go_ldc2_22, go_ldc2_23, go_ldc2_24, go_ldc2_25, go_ldc2_26, go_ldc2_27, go_ldc2_28, go_ldc2_29, go_ldc2_30, go_ldc2_31, go_ldc2_32, go_ldc2_33, go_ldc2_34, go_ldc2_35, jCI_0, jCI_1, jCI_2, jCI_3, go_iload, go_iload_n, go_lload, go_lload_n, go_aload, go_aload_n, go_istore, go_istore_n, go_lstore, go_lstore_n, go_astore, go_astore_n, go_iadd, go_isub, go_imul, go_iand, go_ior, go_ixor, go_ishl, go_ishr, go_iushr, go_idiv, go_irem, go_ldiv, go_lrem, go_ineg, go_i2l, go_i2c, go_l2i, go_ladd, go_lsub, go_lmul, go_land, go_lor, go_lxor, go_lcmp, go_lshl, go_lshr, go_lushr, go_dup_i, go_dup_a, go_pop_i, go_pop_a, go_dup2, go_getstatic, go_getf_i, go_getf_z, go_getf_l, go_getf_a, go_putf_i, go_putf_l, go_putf_z, go_putf_a, go_iald, go_iald1, go_iald2, go_alen, go_alen2, go_cald, go_bald, go_lald, go_aald, go_iast, go_cast, go_bast, go_last, go_aast, go_new, go_newa, go_anew, go_objinit, go_max, go_min, go_strlen, go_charat, go_acopy, go_rests, go_goto, go_if_eq, go_ic_eq, go_if_ne, go_ic_ne, go_if_lt, go_ic_lt, go_if_ge, go_ic_ge, go_if_gt, go_ic_gt, go_if_le, go_ic_le, go_sw, go_ret, go_lret, go_aret, Nat.reduceAdd, Nat.reduceLT, Nat.reduceLeDiff, Nat.reduceEqDiff, Nat.reduceSub, and_true, true_and, if_true, if_false, and_self, Option.toList_some, Option.toList_none, List.cons_append, List.nil_append, List.length_cons, List.length_nil, Fin.isValue, Fin.reduceFinMk, Fin.val_zero, Fin.val_one, Fin.val_two, jFin3, jI_jsI_n, jI_jsL_n, jI_jsR_n, jL_jsI_n, jL_jsL_n, jL_jsR_n, jR_jsI_n, jR_jsL_n, jR_jsR_n, jN_jsI_n, jN_jsL_n, jN_jsR_n, jXn_jsI_n, jXn_jsL_n, jXn_jsR_n, jXs_jsI_n, jXs_jsL_n, jXs_jsR_n, jEx_jsI_n, jEx_jsL_n, jEx_jsR_n, jI_jXp_n, jL_jXp_n, jR_jXp_n, jN_jXp_n, jXn_jXp_n, jXs_jXp_n, jEx_jXp_n, jb_4_33, cl_3, cl_11, js_0, js_1, js_2, js_3, js_4, js_5, js_6, js_7, js_8, js_9, js_10, js_11, js_12, js_13, js_14, js_15, js_16, js_17, js_18, js_19, js_20, js_21, js_22, js_23, js_24, js_25, js_26, js_27, js_28, js_29, js_30, js_31, js_32, js_33, js_34, js_35, js_36, js_37, js_38, js_39, js_40, js_41, js_42, js_43, js_44, js_45, js_46, js_47, js_48, js_49, js_50, js_51, js_52, js_53, js_54, js_55, js_56, js_57, js_58, js_59, js_60, js_61, js_62, js_63, js_64, js_65, js_66, js_67, js_68, js_69, js_70, js_71, js_72, js_73, js_74, js_75, js_76, js_77, js_78, js_79, js_80, js_81, js_82, js_83, js_84, js_85, js_86, js_87, js_88, js_89, js_90, js_91, js_92, js_93, js_94, js_95, js_96, js_97, js_98, js_99, js_100, js_101, js_102, js_103, js_104, js_105, js_106, js_107, js_108, js_109, js_110, js_111, js_112, js_113, js_114, js_115, js_116, js_117, js_118, js_119, lit_I, neg_1, jCl_nI, i_lt, i_le, i_eq, i_sub, i_div, n_rem, i_and31, i_shl, i_shr, i_bit, bI_1, bI_0, bI_2, bZ_1, bZ_0, bZ_in, bZ_2, nO_lt, nO_gt, nO_le, nO_ge, nO_eq, nO_qe, nO_self, nO_sele, nO_add, pI_0, pI_s, pI_nO, pI_lt0, pI_ge0, pI_eq, pI_add, nI_add, pk_mul, nx_and, fa_or, fb_xorI, Nat.reduceMul, Nat.reduceDiv, Nat.reduceMod, Nat.reducePow, Nat.reduceAnd, Nat.reduceOr, Nat.reduceXor, Nat.reduceShiftLeft, Nat.reduceShiftRight, eq_self, not_true_eq_false, not_false_eq_true, or_false, false_or, or_true, true_or, and_false, false_and, ↓reduceIte, Nat.zero_add, Nat.add_zero, Nat.not_lt_zero, Nat.zero_le, Bool.true_eq_false, Bool.false_eq_true, decide_true, decide_false, bl_in, rF_t3, rF_t4, rF_0_0, rF_0_1, rF_0_2, rF_0_3, rF_0_4, rF_0_5, rF_0_7, rF_0_8, rF_0_10, rF_0_11, rF_0_12, rF_0_13, rF_0_14, rF_0_15, rF_0_16, rF_1_0, rF_3_0, rF_3_1, rF_3_2, rF_4_3, rF_4_4, rF_7_3, rF_7_4, rF_11_0, rF_11_1, rF_11_2, rF_12_3, rF_12_4, rF_15_3, rF_15_4, rF_19_0, rF_19_1, rF_19_2, rF_19_3, rF_20_0, rF_20_1, rF_20_2, rF_21_3, rF_21_4, rF_24_3, rF_24_4, rF_28_0, rF_28_1, rF_28_2, rF_29_3, rF_29_4, rF_32_3, rF_32_4, rF_36_0, rF_36_1, rF_36_2, rF_37_3, rF_37_4, rF_40_3, rF_40_4, rF_44_0, rF_44_1, rF_44_2, rF_45_3, rF_45_4, rF_48_3, rF_48_4, rF_54_0, rF_54_1, rF_54_2, rF_54_3, rF_54_4, rF_60_0, rF_60_1, rF_60_2, rF_60_3, rF_60_4, rF_66_0, rF_66_1, rF_70_0, rF_70_1, rF_70_2, rF_70_3, rF_70_7, rF_70_8, rF_70_9, rF_71_3, rF_71_4, rF_79_0, rF_79_1, rF_82_0, rF_82_1, rF_82_2, rF_82_3, rF_82_4, rF_86_3, rF_86_4, rF_90_3, rF_90_4, rF_93_1, rF_93_4, rF_93_5, rF_93_6, rF_93_9, rF_93_10, rF_93_11, rF_93_12, rF_93_14, rF_93_15, rF_93_16, rF_93_17, rF_93_20, rF_93_24, rF_93_25, rF_93_26, rF_93_27, rF_93_29, rF_93_31, rF_93_32, rF_93_33, rF_93_34, rF_93_35, rF_93_36, rF_93_37, g.1, g.2, i4', DK, DV, DN, DR, PL, g1.1, g1.2, k0, Nat.add_sub_cancel]
set_option maxRecDepth 100000 in
set_option maxHeartbeats 4000000 in
theorem B_show {d : Nat} {h : jM} {q : kQ} {T : kT} {U : kT} {p : Nat → Nat} {p2 : Nat → Nat} (b : BD h q T U p2) (hv : pv T U p) (h4 : p4 p) : ∃ h', (∀ K, jCl (d + 2) 4 [.ref 70, .int (nI (pC p))] h K = K none h') ∧ BD h' q T U p ∧ fP h h' := by
  have g := b.g
  obtain ⟨b1, f1⟩ := BD_cp b
  have CP := fun K => B_clearPairs (d := d) (K := K) g
  have pk0 := pk_0 (p := p)
  rw [← pk0] at b1
  generalize mCP h = h1 at *
  have g1 := b1.g
  obtain ⟨h2, e2, b2, f2⟩ := B_sh_go (d := d + 1) hv h4 b.oU.f 4 0 h1 .null (by omega) b1
  refine ⟨h2, fun K => ?_, b2, f1.tr f2⟩
  rw [← e2 K]
  simp (maxSteps := 1000000) (disch := omega) only [jMI_i, jML_l, jMA_a, jSum_n, jSum_i, jSum_a, jSum_l, jGet_0, jPut_0, jGet_1, jPut_1i, jPut_1a, jPut_1n, jPut_1l, jGet_2, jPut_2i, jPut_2a, jPut_2n, jPut_2l, jGet_3, jPut_3i, jPut_3a, jPut_3n, jPut_3l, jGet_4, jPut_4i, jPut_4a, jPut_4n, jPut_4l, jGet_5, jPut_5i, jPut_5a, jPut_5n, jPut_5l, jGet_6, jPut_6i, jPut_6a, jPut_6n, jPut_6l, jGet_7, jPut_7i, jPut_7a, jPut_7n, jPut_7l, jGet_8, jPut_8i, jPut_8a, jPut_8n, jPut_8l, jGet_9, jPut_9i, jPut_9a, jPut_9n, jPut_9l, jGet_10, jPut_10i, jPut_10a, jPut_10n, jPut_10l, jGet_11, jPut_11i, jPut_11a, jPut_11n, jPut_11l, jGet_12, jPut_12i, jPut_12a, jPut_12n, jPut_12l, jPut2_e, jSet_1, jSet_2, jSet_3, jSet_4, jSet_5, jSet_6, jSet_7, jSet_8, jSet_9, jSet_10, jSet_11, jSet_12, go_bipush_m2, go_bipush_10, go_bipush_11, go_bipush_12, go_bipush_120, go_bipush_122, go_bipush_126, go_bipush_127, go_bipush_13, go_bipush_14, go_bipush_15, go_bipush_16, go_bipush_17, go_bipush_20, go_bipush_21, go_bipush_22, go_bipush_24, go_bipush_25, go_bipush_26, go_bipush_29, go_bipush_30, go_bipush_32, go_bipush_40, go_bipush_44, go_bipush_48, go_bipush_56, go_bipush_57, go_bipush_59, go_bipush_6, go_bipush_60, go_bipush_63, go_bipush_64, go_bipush_7, go_bipush_75, go_bipush_8, go_bipush_9, go_bipush_96, go_bipush_97, go_bipush_99, go_iconst_m1, go_iconst_0, go_iconst_1, go_iconst_2, go_iconst_3, go_iconst_4, go_iconst_5, go_iinc_m1, go_iinc_m8, go_iinc_1, go_iinc_7, go_sipush_1000, go_sipush_1002, go_sipush_128, go_sipush_132, go_sipush_185, go_sipush_2040, go_sipush_2047, go_sipush_240, go_sipush_255, go_sipush_289, go_sipush_4913, go_sipush_609, go_sipush_625, go_sipush_638, go_sipush_9999, go_lconst_0, go_lconst_1, go_ldc, go_ldcs, go_ldcw, go_ldc2_0, go_ldc2_1, go_ldc2_2, go_ldc2_3, go_ldc2_4, go_ldc2_5, go_ldc2_6, go_ldc2_7, go_ldc2_8, go_ldc2_9, go_ldc2_10, go_ldc2_11, go_ldc2_12, go_ldc2_13, go_ldc2_14, go_ldc2_15, go_ldc2_16, go_ldc2_17, go_ldc2_18, go_ldc2_19, go_ldc2_20, go_ldc2_21, go_ldc2_22, go_ldc2_23, go_ldc2_24, go_ldc2_25, go_ldc2_26, go_ldc2_27, go_ldc2_28, go_ldc2_29, go_ldc2_30, go_ldc2_31, go_ldc2_32, go_ldc2_33, go_ldc2_34, go_ldc2_35, jCI_0, jCI_1, jCI_2, jCI_3, go_iload, go_iload_n, go_lload, go_lload_n, go_aload, go_aload_n, go_istore, go_istore_n, go_lstore, go_lstore_n, go_astore, go_astore_n, go_iadd, go_isub, go_imul, go_iand, go_ior, go_ixor, go_ishl, go_ishr, go_iushr, go_idiv, go_irem, go_ldiv, go_lrem, go_ineg, go_i2l, go_i2c, go_l2i, go_ladd, go_lsub, go_lmul, go_land, go_lor, go_lxor, go_lcmp, go_lshl, go_lshr, go_lushr, go_dup_i, go_dup_a, go_pop_i, go_pop_a, go_dup2, go_getstatic, go_getf_i, go_getf_z, go_getf_l, go_getf_a, go_putf_i, go_putf_l, go_putf_z, go_putf_a, go_iald, go_iald1, go_iald2, go_alen, go_alen2, go_cald, go_bald, go_lald, go_aald, go_iast, go_cast, go_bast, go_last, go_aast, go_new, go_newa, go_anew, go_objinit, go_max, go_min, go_strlen, go_charat, go_acopy, go_rests, go_goto, go_if_eq, go_ic_eq, go_if_ne, go_ic_ne, go_if_lt, go_ic_lt, go_if_ge, go_ic_ge, go_if_gt, go_ic_gt, go_if_le, go_ic_le, go_sw, go_ret, go_lret, go_aret, Nat.reduceAdd, Nat.reduceLT, Nat.reduceLeDiff, Nat.reduceEqDiff, Nat.reduceSub, and_true, true_and, if_true, if_false, and_self, Option.toList_some, Option.toList_none, List.cons_append, List.nil_append, List.length_cons, List.length_nil, Fin.isValue, Fin.reduceFinMk, Fin.val_zero, Fin.val_one, Fin.val_two, jFin3, jI_jsI_n, jI_jsL_n, jI_jsR_n, jL_jsI_n, jL_jsL_n, jL_jsR_n, jR_jsI_n, jR_jsL_n, jR_jsR_n, jN_jsI_n, jN_jsL_n, jN_jsR_n, jXn_jsI_n, jXn_jsL_n, jXn_jsR_n, jXs_jsI_n, jXs_jsL_n, jXs_jsR_n, jEx_jsI_n, jEx_jsL_n, jEx_jsR_n, jI_jXp_n, jL_jXp_n, jR_jXp_n, jN_jXp_n, jXn_jXp_n, jXs_jXp_n, jEx_jXp_n, jb_4_0, cl_3, cl_11, en_4, js_0, js_1, js_2, js_3, js_4, js_5, js_6, js_7, js_8, js_9, js_10, js_11, js_12, js_13, js_14, js_15, js_16, js_17, js_18, js_19, js_20, js_21, js_22, js_23, js_24, js_25, js_26, js_27, js_28, js_29, js_30, js_31, js_32, js_33, js_34, js_35, js_36, js_37, js_38, js_39, js_40, js_41, js_42, js_43, js_44, js_45, js_46, js_47, js_48, js_49, js_50, js_51, js_52, js_53, js_54, js_55, js_56, js_57, js_58, js_59, js_60, js_61, js_62, js_63, js_64, js_65, js_66, js_67, js_68, js_69, js_70, js_71, js_72, js_73, js_74, js_75, js_76, js_77, js_78, js_79, js_80, js_81, js_82, js_83, js_84, js_85, js_86, js_87, js_88, js_89, js_90, js_91, js_92, js_93, js_94, js_95, js_96, js_97, js_98, js_99, js_100, js_101, js_102, js_103, js_104, js_105, js_106, js_107, js_108, js_109, js_110, js_111, js_112, js_113, js_114, js_115, js_116, js_117, js_118, js_119, lit_I, neg_1, jCl_nI, i_lt, i_le, i_eq, i_sub, i_div, n_rem, i_and31, i_shl, i_shr, i_bit, bI_1, bI_0, bI_2, bZ_1, bZ_0, bZ_in, bZ_2, nO_lt, nO_gt, nO_le, nO_ge, nO_eq, nO_qe, nO_self, nO_sele, nO_add, pI_0, pI_s, pI_nO, pI_lt0, pI_ge0, pI_eq, pI_add, nI_add, pk_mul, nx_and, fa_or, fb_xorI, Nat.reduceMul, Nat.reduceDiv, Nat.reduceMod, Nat.reducePow, Nat.reduceAnd, Nat.reduceOr, Nat.reduceXor, Nat.reduceShiftLeft, Nat.reduceShiftRight, eq_self, not_true_eq_false, not_false_eq_true, or_false, false_or, or_true, true_or, and_false, false_and, ↓reduceIte, Nat.zero_add, Nat.add_zero, Nat.not_lt_zero, Nat.zero_le, Bool.true_eq_false, Bool.false_eq_true, decide_true, decide_false, bl_in, rF_t3, rF_t4, rF_0_0, rF_0_1, rF_0_2, rF_0_3, rF_0_4, rF_0_5, rF_0_7, rF_0_8, rF_0_10, rF_0_11, rF_0_12, rF_0_13, rF_0_14, rF_0_15, rF_0_16, rF_1_0, rF_3_0, rF_3_1, rF_3_2, rF_4_3, rF_4_4, rF_7_3, rF_7_4, rF_11_0, rF_11_1, rF_11_2, rF_12_3, rF_12_4, rF_15_3, rF_15_4, rF_19_0, rF_19_1, rF_19_2, rF_19_3, rF_20_0, rF_20_1, rF_20_2, rF_21_3, rF_21_4, rF_24_3, rF_24_4, rF_28_0, rF_28_1, rF_28_2, rF_29_3, rF_29_4, rF_32_3, rF_32_4, rF_36_0, rF_36_1, rF_36_2, rF_37_3, rF_37_4, rF_40_3, rF_40_4, rF_44_0, rF_44_1, rF_44_2, rF_45_3, rF_45_4, rF_48_3, rF_48_4, rF_54_0, rF_54_1, rF_54_2, rF_54_3, rF_54_4, rF_60_0, rF_60_1, rF_60_2, rF_60_3, rF_60_4, rF_66_0, rF_66_1, rF_70_0, rF_70_1, rF_70_2, rF_70_3, rF_70_7, rF_70_8, rF_70_9, rF_71_3, rF_71_4, rF_79_0, rF_79_1, rF_82_0, rF_82_1, rF_82_2, rF_82_3, rF_82_4, rF_86_3, rF_86_4, rF_90_3, rF_90_4, rF_93_1, rF_93_4, rF_93_5, rF_93_6, rF_93_9, rF_93_10, rF_93_11, rF_93_12, rF_93_14, rF_93_15, rF_93_16, rF_93_17, rF_93_20, rF_93_24, rF_93_25, rF_93_26, rF_93_27, rF_93_29, rF_93_31, rF_93_32, rF_93_33, rF_93_34, rF_93_35, rF_93_36, rF_93_37, g.1, g.2, CP, g1.1, g1.2, jN_mPn_n, jR_mPn_n, mTh_e_n, jN_mTh_n, jR_mTh_n, jI_mTh_n]
