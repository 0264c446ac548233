/-! the looked-up tables, as they are used -/
theorem jNp_len : (k2_sels lw_privs).length = jNp := by decide +kernel
theorem jLk_t {i : Nat} {c : Cond} (h : lw_tbl[jNp + i]? = some c) : c ∈ tables_1 := by
  unfold lw_tbl at h
  rw [List.getElem?_append_right (by rw [jNp_len]; omega)] at h
  exact List.mem_of_getElem? h
theorem lk_get {o k a b : Nat} (h : jFL.any (fun e => e.1 == o && e.2.1 == k && e.2.2.1 == a && e.2.2.2.1 == b) = true) : b < jNf a ∧ (Cond.fieldLink (jOwnS o) k (jC a).1 ((jC a).2.1 b).2.1 ((jC a).2.1 b).2.2.1 ∈ jTbl ∨ Cond.fieldLinkNest (jOwnS o) k (jC a).1 ((jC a).2.1 b).2.1 ((jC a).2.1 b).2.2.1 "TwoTowns" ∈ tables_1) := by
  obtain ⟨e, he, hq⟩ := List.any_eq_true.mp h
  simp only [Bool.and_eq_true, beq_iff_eq] at hq
  obtain ⟨⟨⟨rfl, rfl⟩, rfl⟩, rfl⟩ := hq
  have h1 := List.all_eq_true.mp ck_fl e he
  simp only [Bool.and_eq_true, decide_eq_true_eq] at h1
  refine ⟨h1.2, ?_⟩
  have h2 := h1.1
  unfold jFlC at h2
  split at h2
  · exact Or.inl (jTbl_in h2 rfl)
  · exact Or.inr (jLk_t h2)
theorem lk_put {M o k a b : Nat} (h : jFL.any (fun e => e.1 == o && e.2.1 == k && e.2.2.1 == a && e.2.2.2.1 == b && (decide (((jC a).2.1 b).2.2.2 = false) || (e.2.2.2.2.1 == 0 && decide ((jY M).name = "<init>") && decide (((jC a).2.1 b).1 = jOwnS o)))) = true) : b < jNf a ∧ ((((jC a).2.1 b).2.2.2 = false ∧ (Cond.fieldLink (jOwnS o) k (jC a).1 ((jC a).2.1 b).2.1 ((jC a).2.1 b).2.2.1 ∈ jTbl ∨ Cond.fieldLinkNest (jOwnS o) k (jC a).1 ((jC a).2.1 b).2.1 ((jC a).2.1 b).2.2.1 "TwoTowns" ∈ tables_1)) ∨ (Cond.fieldLink (jOwnS o) k (jC a).1 ((jC a).2.1 b).2.1 ((jC a).2.1 b).2.2.1 ∈ jTbl ∧ (jY M).name = "<init>" ∧ ((jC a).2.1 b).1 = jOwnS o)) := by
  obtain ⟨e, he, hq⟩ := List.any_eq_true.mp h
  simp only [Bool.and_eq_true, Bool.or_eq_true, beq_iff_eq, decide_eq_true_eq] at hq
  obtain ⟨⟨⟨⟨rfl, rfl⟩, rfl⟩, rfl⟩, hf⟩ := hq
  have h1 := List.all_eq_true.mp ck_fl e he
  simp only [Bool.and_eq_true, decide_eq_true_eq] at h1
  refine ⟨h1.2, ?_⟩
  have h2 := h1.1
  unfold jFlC at h2
  rcases hf with hf | ⟨⟨h3, h4⟩, h5⟩
  · left
    refine ⟨hf, ?_⟩
    split at h2
    · exact Or.inl (jTbl_in h2 rfl)
    · exact Or.inr (jLk_t h2)
  · right
    rw [if_pos h3] at h2
    exact ⟨jTbl_in h2 rfl, h4, h5⟩
theorem lk_stat {o k : Nat} (h : jZL.any (fun e => e.1 == o && e.2.1 == k) = true) : Cond.fieldLink (jOwnS o) k "TwoTowns" "DIGITS" "[I" ∈ jTbl ∨ Cond.fieldLinkNest (jOwnS o) k "TwoTowns" "DIGITS" "[I" "TwoTowns" ∈ tables_1 := by
  obtain ⟨e, he, hq⟩ := List.any_eq_true.mp h
  simp only [Bool.and_eq_true, beq_iff_eq] at hq
  obtain ⟨rfl, rfl⟩ := hq
  have h1 := List.all_eq_true.mp ck_zl e he
  simp only [decide_eq_true_eq] at h1
  unfold jZlC at h1
  split at h1
  · exact Or.inl (jTbl_in h1 rfl)
  · exact Or.inr (jLk_t h1)
theorem ck_ml0 : jMLk.all (fun e => e.2.2.1 == 2 || e.2.2.2.2.1 == 0) = true := by decide +kernel
theorem lk_meth {o k q t : Nat} (h : jMLk.any (fun e => e.1 == o && e.2.1 == k && e.2.2.1 == q && e.2.2.2.1 == t) = true) : Cond.methodLink (jOwnS o) k (jYb t) ∈ jTbl ∨ (q = 2 ∧ Cond.methodLinkNest (jOwnS o) k (jYb t) "TwoTowns" ∈ tables_1) := by
  obtain ⟨e, he, hq⟩ := List.any_eq_true.mp h
  simp only [Bool.and_eq_true, beq_iff_eq] at hq
  obtain ⟨⟨⟨rfl, rfl⟩, rfl⟩, rfl⟩ := hq
  have h1 := List.all_eq_true.mp ck_ml e he
  have h0 := List.all_eq_true.mp ck_ml0 e he
  simp only [decide_eq_true_eq] at h1
  simp only [Bool.or_eq_true, beq_iff_eq] at h0
  unfold jMlC at h1
  split at h1
  · exact Or.inl (jTbl_in h1 rfl)
  · rename_i hn
    rcases h0 with h0 | h0
    · exact Or.inr ⟨h0, jLk_t h1⟩
    · exact absurd h0 hn
theorem ck_mln : jMLk.all (fun e => decide (e.2.2.2.1 < 1000) || e.2.2.2.2.1 == 0) = true := by decide +kernel
theorem lk_bltin {o k q t : Nat} (ht : 1000 ≤ t) (h : jMLk.any (fun e => e.1 == o && e.2.1 == k && e.2.2.1 == q && e.2.2.2.1 == t) = true) : Cond.methodLink (jOwnS o) k (jYb t) ∈ jTbl := by
  obtain ⟨e, he, hq⟩ := List.any_eq_true.mp h
  simp only [Bool.and_eq_true, beq_iff_eq] at hq
  obtain ⟨⟨⟨rfl, rfl⟩, rfl⟩, rfl⟩ := hq
  have h1 := List.all_eq_true.mp ck_ml e he
  have h0 := List.all_eq_true.mp ck_mln e he
  simp only [decide_eq_true_eq] at h1
  simp only [Bool.or_eq_true, beq_iff_eq, decide_eq_true_eq] at h0
  have h2 : e.2.2.2.2.1 = 0 := h0.resolve_left (by omega)
  unfold jMlC at h1
  rw [if_pos h2] at h1
  exact jTbl_in h1 rfl
theorem lk_cls {o k a : Nat} (h : jCLk.any (fun e => e.1 == o && e.2.1 == k && e.2.2.1 == a) = true) : Cond.classLink (jOwnS o) k (jC a).1 ∈ jTbl := by
  obtain ⟨e, he, hq⟩ := List.any_eq_true.mp h
  simp only [Bool.and_eq_true, beq_iff_eq] at hq
  obtain ⟨⟨rfl, rfl⟩, rfl⟩ := hq
  have h1 := List.all_eq_true.mp ck_cl e he
  simp only [decide_eq_true_eq] at h1
  exact jTbl_in h1 rfl
theorem lk_kl {o k a : Nat} (h : jKL.any (fun e => e.1 == o && e.2.1 == k && e.2.2.1 == a) = true) : Cond.constantLong (jOwnS o) k (jCL.getD a 0) ∈ jTbl := by
  obtain ⟨e, he, hq⟩ := List.any_eq_true.mp h
  simp only [Bool.and_eq_true, beq_iff_eq] at hq
  obtain ⟨⟨rfl, rfl⟩, rfl⟩ := hq
  have h1 := List.all_eq_true.mp ck_kl e he
  simp only [decide_eq_true_eq] at h1
  exact jTbl_in h1 rfl
theorem lk_ki {o k a : Nat} (h : jKI.any (fun e => e.1 == o && e.2.1 == k && e.2.2.1 == a) = true) : Cond.constant (jOwnS o) k (jCI.getD a 0) ∈ jTbl := by
  obtain ⟨e, he, hq⟩ := List.any_eq_true.mp h
  simp only [Bool.and_eq_true, beq_iff_eq] at hq
  obtain ⟨⟨rfl, rfl⟩, rfl⟩ := hq
  have h1 := List.all_eq_true.mp ck_ki e he
  simp only [decide_eq_true_eq] at h1
  exact jTbl_in h1 rfl
/-! the instructions that go on: all of them -/
section JALL
variable {p : Program} {l : Launch} {e : Env} {R : Room} {s : State} {m : MethodId} {args : Array Value} {below : List Frame} {meth : Method} {c0 : Code} {Q : State → Prop}
variable {M d z n0 e0 : Nat} {D : va_G} {cA : Nat → ClassId} {ad : Nat → Nat} {L : Nat} {xs : Nat → Int32} {pc a b c : Nat} {i : Instr} {ls st ls' st' : List Value} {h h' : jM}
/-- the three calls whose bodies are walked by hand -/
def jBlt (l : Launch) : Prop := ∀ (p : Program) (e : Env) (R : Room) (s : State) (m : MethodId) (args : Array Value) (below : List Frame) (meth : Method) (c0 : Code) (Q : State → Prop) (M d z n0 e0 : Nat) (D : va_G) (cA : Nat → ClassId) (ad : Nat → Nat) (L : Nat) (xs : Nat → Int32) (pc a b c : Nat) (i : Instr) (ls st ls' st' : List Value) (h h' : jM),
  ((∃ n, i = .invokevirtual n ∧ (a = 1002 ∨ a = 1003) ∧ Cond.methodLink (jOwnS (jOn M)) n (jYb a) ∈ jTbl) ∨ (∃ n, i = .invokestatic n ∧ a = 1004 ∧ Cond.methodLink (jOwnS (jOn M)) n (jYb a) ∈ jTbl)) →
  jCx M d z D cA ad L xs p R s m args meth c0 → decode (jBy M) pc = .ok (i, 3) → jOp i a b c ls st h = some (ls', st', h') → jStepW p l e R s m args below meth c0 M z n0 e0 D cA ad L xs Q pc 3 ls st h ls' st' h'
theorem jOp_W (hB : jBlt l) (C : jCx M d z D cA ad L xs p R s m args meth c0) (hk : jKind i a = 0) (hlk : jLkOk M (pc, i, a, b, c) = true) (hab : 1000 ≤ a → (∃ k, i = .invokevirtual k) → a = 1002 ∨ a = 1003) (hac : 1000 ≤ a → (∃ k, i = .invokestatic k) → a = 1001 ∨ a = 1004 ∨ a = 1005 ∨ a = 1006) (had : 1000 ≤ a → (∃ k, i = .invokespecial k) → a = 1000)
    (hdc : decode (jBy M) pc = .ok (i, jLn i)) (hop : jOp i a b c ls st h = some (ls', st', h')) : jStepW p l e R s m args below meth c0 M z n0 e0 D cA ad L xs Q pc (jLn i) ls st h ls' st' h' := by
  cases i with
  | iconst n => exact ow_iconst C hdc hop
  | bipush n => exact ow_bipush C hdc hop
  | sipush n => exact ow_sipush C hdc hop
  | lconst n => exact ow_lconst C hdc hop
  | ldc n =>
    simp only [jLkOk] at hlk
    by_cases h1 : b = 1
    · rw [if_pos h1] at hlk
      simp only [decide_eq_true_eq] at hlk
      obtain ⟨h2, rfl⟩ := hlk
      exact ow_ldcs C hdc h1 (by rw [h2]; rfl) hop
    · rw [if_neg h1] at hlk
      exact ow_ldc C hdc h1 (lk_ki hlk) hop
  | ldc_w n => exact ow_ldcw C hdc (lk_ki hlk) hop
  | ldc2_w n => exact ow_ldc2 C hdc (lk_kl hlk) hop
  | iload n => exact ow_iload C hdc hop
  | iload_n n => exact ow_iload_n C hdc hop
  | lload n => exact ow_lload C hdc hop
  | lload_n n => exact ow_lload_n C hdc hop
  | aload n => exact ow_aload C hdc hop
  | aload_n n => exact ow_aload_n C hdc hop
  | istore n => exact ow_istore C hdc hop
  | istore_n n => exact ow_istore_n C hdc hop
  | lstore n => exact ow_lstore C hdc hop
  | lstore_n n => exact ow_lstore_n C hdc hop
  | astore n => exact ow_astore C hdc hop
  | astore_n n => exact ow_astore_n C hdc hop
  | iinc n k => exact ow_iinc C hdc hop
  | iadd => exact ow_iadd C hdc hop
  | isub => exact ow_isub C hdc hop
  | imul => exact ow_imul C hdc hop
  | iand => exact ow_iand C hdc hop
  | ior => exact ow_ior C hdc hop
  | ixor => exact ow_ixor C hdc hop
  | ishl => exact ow_ishl C hdc hop
  | ishr => exact ow_ishr C hdc hop
  | iushr => exact ow_iushr C hdc hop
  | idiv => exact ow_idiv C hdc hop
  | irem => exact ow_irem C hdc hop
  | ineg => exact ow_ineg C hdc hop
  | i2l => exact ow_i2l C hdc hop
  | i2c => exact ow_i2c C hdc hop
  | l2i => exact ow_l2i C hdc hop
  | ladd => exact ow_ladd C hdc hop
  | lsub => exact ow_lsub C hdc hop
  | lmul => exact ow_lmul C hdc hop
  | land => exact ow_land C hdc hop
  | lor => exact ow_lor C hdc hop
  | lxor => exact ow_lxor C hdc hop
  | ldiv => exact ow_ldiv C hdc hop
  | lrem => exact ow_lrem C hdc hop
  | lcmp => exact ow_lcmp C hdc hop
  | lshl => exact ow_lshl C hdc hop
  | lshr => exact ow_lshr C hdc hop
  | lushr => exact ow_lushr C hdc hop
  | dup => exact ow_dup C hdc hop
  | pop => exact ow_pop C hdc hop
  | dup2 => exact ow_dup2 C hdc hop
  | getstatic n =>
    rcases lk_stat hlk with h1 | h1
    · exact ow_getstatic C hdc h1 hop
    · exact ow_getstaticN C hdc h1 hop
  | getfield n =>
    simp only [jLkOk, Bool.and_eq_true, beq_iff_eq, decide_eq_true_eq] at hlk
    obtain ⟨⟨h1, h2⟩, h3⟩ := hlk
    obtain ⟨h4, h5⟩ := lk_get (by simpa only [Bool.and_eq_true, beq_iff_eq] using h1)
    exact ow_getf C hdc h3 h4 h2 h5 hop
  | putfield n =>
    simp only [jLkOk] at hlk
    rw [Bool.and_eq_true, Bool.and_eq_true] at hlk
    obtain ⟨⟨h1, h2⟩, h3⟩ := hlk
    obtain ⟨h4, h5⟩ := lk_put h1
    exact ow_putf C hdc (of_decide_eq_true h3) h4 (eq_of_beq h2) h5 hop
  | iaload => exact ow_iald C hdc hop
  | arraylength => exact ow_alen C hdc hop
  | caload => exact ow_cald C hdc hop
  | baload => exact ow_bald C hdc hop
  | laload => exact ow_lald C hdc hop
  | aaload => exact ow_aald C hdc hop
  | iastore => exact ow_iast C hdc hop
  | castore => exact ow_cast C hdc hop
  | bastore => exact ow_bast C hdc hop
  | lastore => exact ow_last C hdc hop
  | aastore => exact ow_aast C hdc hop
  | new n =>
    simp only [jLkOk] at hlk
    rw [Bool.and_eq_true] at hlk
    exact ow_new C hdc (of_decide_eq_true hlk.2) (lk_cls hlk.1) hop
  | newarray t =>
    simp only [jLkOk] at hlk
    rw [Bool.and_eq_true] at hlk
    have ht := of_decide_eq_true hlk.1
    have ha4 : a < 4 := of_decide_eq_true hlk.2
    refine ow_newa C hdc ha4 ?_ hop
    clear hop hdc hlk hk hab hac had
    match a, ha4, ht with
    | 0, _, q => exact q
    | 1, _, q => exact q
    | 2, _, q => exact q
    | 3, _, q => exact q
    | k + 4, q, _ => exact absurd q (by omega)
  | anewarray n =>
    simp only [jLkOk] at hlk
    rw [Bool.and_eq_true] at hlk
    exact ow_anew C hdc (lk_cls hlk.1) hop
  | invokespecial n =>
    simp only [jKind] at hk
    have ha : 1000 ≤ a := by
      rcases Nat.lt_or_ge a 1000 with q | q
      · rw [if_pos q] at hk; cases hk
      · exact q
    have ha0 := had ha ⟨n, rfl⟩
    subst ha0
    simp only [jLkOk] at hlk
    rw [Bool.and_eq_true] at hlk
    exact ow_oinit C hdc (lk_bltin (by decide) hlk.1) hop
  | invokevirtual n =>
    simp only [jKind] at hk
    have ha : 1000 ≤ a := by
      rcases Nat.lt_or_ge a 1000 with q | q
      · rw [if_pos q] at hk; cases hk
      · exact q
    simp only [jLkOk] at hlk
    rw [Bool.and_eq_true] at hlk
    exact hB p e R s m args below meth c0 Q M d z n0 e0 D cA ad L xs pc a b c _ ls st ls' st' h h' (Or.inl ⟨n, rfl, hab ha ⟨n, rfl⟩, lk_bltin ha hlk.1⟩) C hdc hop
  | invokestatic n =>
    simp only [jKind] at hk
    have ha : 1000 ≤ a := by
      rcases Nat.lt_or_ge a 1000 with q | q
      · rw [if_pos q] at hk; cases hk
      · exact q
    simp only [jLkOk] at hlk
    rw [Bool.and_eq_true] at hlk
    have hw := lk_bltin ha hlk.1
    rcases hac ha ⟨n, rfl⟩ with h1 | h1 | h1 | h1
    · subst h1; exact ow_acopy C hdc hw hop
    · exact hB p e R s m args below meth c0 Q M d z n0 e0 D cA ad L xs pc a b c _ ls st ls' st' h h' (Or.inr ⟨n, rfl, h1, hw⟩) C hdc hop
    · subst h1; exact ow_max C hdc hw hop
    · subst h1; exact ow_min C hdc hw hop
  | _ => first | (simp [jOp] at hop; done) | (simp [jKind] at hk; done)
end JALL
