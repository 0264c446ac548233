/-! an instruction of ours is the machine's: what goes on by itself -/
def jDg (j : Nat) : Value := .int (([1, 5, 25, 125] : List Int32).getD j 0)
def jTx : String := "folk of baker widow near owes same not and or some all two x y z u "
/-- links of nest mates, and the rows of states: words that don't keep by themselves -/
def jNst (U : State) : Prop := (∀ (a : String) (i : Nat) (b n d x : String), Cond.fieldLinkNest a i b n d x ∈ tables_1 → va_Nw (.fieldLinkNest a i b n d x) U) ∧ (∀ (a : String) (i : Nat) (y : MethodName) (x : String), Cond.methodLinkNest a i y x ∈ tables_1 → va_Nw (.methodLinkNest a i y x) U) ∧ va_AO "TwoTowns$State" U
theorem jNst.mv {s U : State} (h : jNst s) (hW : s.WarmedH U.vm) : jNst U := ⟨fun a i b n d x hm => va_Nw.warmF hW (h.1 a i b n d x hm), fun a i y x hm => va_Nw.warmM hW (h.2.1 a i y x hm), va_AO.moved hW.alike h.2.2⟩
/-- of the JDK: the words on the exception that moves alone don't keep -/
def jEw : List Cond := [.declares { cls := "java/lang/RuntimeException", name := "<init>", desc := "()V" }, .declares { cls := "java/lang/Exception", name := "<init>", desc := "()V" }, .declares { cls := "java/lang/Throwable", name := "<init>", desc := "()V" }, .castable "java/util/NoSuchElementException" "java/util/NoSuchElementException"]
theorem jEw_mv {u U : State} (hvm : u.vm.Alike U.vm) (h : ∀ w ∈ jEw, va_Nw w u) : ∀ w ∈ jEw, va_Nw w U := by
  intro w hw
  have h1 := h w hw
  simp only [jEw, List.mem_cons, List.not_mem_nil, or_false] at hw
  rcases hw with rfl | rfl | rfl | rfl
  · exact va_tabs rfl (rfl : (u.setVm U.vm).vm = U.vm) (by rw [Cond.declares_setVm hvm]; exact h1)
  · exact va_tabs rfl (rfl : (u.setVm U.vm).vm = U.vm) (by rw [Cond.declares_setVm hvm]; exact h1)
  · exact va_tabs rfl (rfl : (u.setVm U.vm).vm = U.vm) (by rw [Cond.declares_setVm hvm]; exact h1)
  · exact va_tabs rfl (rfl : (u.setVm U.vm).vm = U.vm) (by rw [Cond.castable_setVm hvm]; exact h1)
/-- of the JDK: how texts are held; what is told of a wrong place, of a throw -/
def jS5 (z : Nat) (U : State) (H : Heap) : Prop := va_Z "java/lang/String" "COMPACT_STRINGS" "Z" (.int 1) (fun q => z ≤ q) U H ∧ va_Zq "jdk/internal/util/Preconditions" "SIOOBE_FORMATTER" "Ljava/util/function/BiFunction;" (fun q => z ≤ q) U H ∧ vx_Zq "java/lang/Throwable" "UNASSIGNED_STACK" "[Ljava/lang/StackTraceElement;" (fun q => z ≤ q) U H ∧ vx_Zq "java/lang/Throwable" "SUPPRESSED_SENTINEL" "Ljava/util/List;" (fun q => z ≤ q) U H ∧ ∀ w ∈ jEw, va_Nw w U
theorem jS5.moved {z : Nat} {u U : State} {H : Heap} (hvm : u.vm.Alike U.vm) (h : jS5 z u H) : jS5 z U H := ⟨va_Z.moved hvm h.1, va_Zq.moved hvm h.2.1, vx_Zq.moved hvm h.2.2.1, vx_Zq.moved hvm h.2.2.2.1, jEw_mv hvm h.2.2.2.2⟩
theorem jS5.kept {z : Nat} {U : State} {H H1 : Heap} (h : jS5 z U H) (hq : ∀ a : Nat, a < H.size → ¬ z ≤ a → H1[a]? = H[a]?) : jS5 z U H1 := ⟨h.1.kept hq, h.2.1.kept hq, h.2.2.1.kept hq, h.2.2.2.1.kept hq, h.2.2.2.2⟩
/-- what lies outside: the row DIGITS, the text (and how texts are held), the script -/
def jSt (z : Nat) (ad : Nat → Nat) (L : Nat) (xs : Nat → Int32) (U : State) (H : Heap) : Prop :=
  va_Z "TwoTowns" "DIGITS" "[I" (.ref (ad 1000)) (fun q => z ≤ q) U H ∧ va_T .int (ad 1000) 4 jDg (fun q => z ≤ q) U H ∧ vk_R "TwoTowns$Tape" 59 jTx (ad 1001) U ∧ vk_S 1 [67] [jTxt] (fun _ => ad 1001) (fun _ => ad 1003) (fun q => z ≤ q) U H ∧ jS5 z U H ∧ va_X (ad 1002) L xs U H ∧ ad 1002 < z ∧ jNst U
theorem jSt_mv {z : Nat} {ad : Nat → Nat} {L : Nat} {xs : Nat → Int32} {s U : State} {H : Heap} (h : jSt z ad L xs s s.heap) (hz : z ≤ s.heap.size) (hq : ∀ a : Nat, a < s.heap.size → ¬ z ≤ a → H[a]? = s.heap[a]?) (hW : s.WarmedH U.vm) : jSt z ad L xs U H := by
  obtain ⟨h1, h2, h3, h4, h5, h6, h7, h8⟩ := h
  refine ⟨(h1.moved hW.alike).kept hq, (h2.moved hW.alike).kept hq, h3.warm hW, (h4.moved hW.alike).kept hq, (h5.moved hW.alike).kept hq, (h6.moved hW.alike).kept (hq _ (by omega) (by omega)), h7, h8.mv hW⟩
def jTot (n : Nat) : Nat := ((List.range n).map (fun i => (jS i).2)).sum
theorem jTot_s (n : Nat) : jTot (n + 1) = jTot n + (jS n).2 := by simp [jTot, List.range_succ]
theorem jTot_m {a b : Nat} (h : a ≤ b) : jTot a ≤ jTot b := by
  induction h with
  | refl => exact Nat.le_refl _
  | step _ ih => rw [jTot_s]; omega
def jK (h : jM) : Nat := jN h + jEx h
def jTt (h : jM) : Nat := jTot (jN h) + 16 * jEx h
/-- the frame that a method of ours stands in -/
def jCx (M d z : Nat) (D : va_G) (cA : Nat → ClassId) (ad : Nat → Nat) (L : Nat) (xs : Nat → Int32) (p : Program) (R : Room) (s : State) (m : MethodId) (args : Array Value) (meth : Method) (c : Code) : Prop :=
  p.tables.exec = Jvm.exec ∧ c.code = jBy M ∧ c.maxLocals = (jMth M).2.1 ∧ s.vm.findClass (jOwnS (jOn M)) = some m.cls ∧ (∀ w ∈ jTbl, w.before args s = true) ∧ ((jY M).name = "<init>" → meth.name = "<init>") ∧ va_K D vwCl (jTys cA) s ∧ jSt z ad L xs s s.heap ∧ (∀ i, i < 1000 → ad i = z + i) ∧ d + 16 ≤ R.frames ∧ 64 * d + 2000 ≤ R.locals ∧ z ≤ s.heap.size
/-- the cells, at a point of a walk -/
def jPt (z n0 e0 : Nat) (D : va_G) (cA : Nat → ClassId) (ad : Nat → Nat) (L : Nat) (xs : Nat → Int32) (s : State) (h : jM) (H : Heap) (locs : List Loc) : Prop :=
  va_P D vwCl (jW cA ad h) H ∧ va_S (fun q => z ≤ q) s.heap H locs ∧ jN h ≤ 120 ∧ n0 ≤ jN h ∧ (s.heap.size = z + n0 ∨ n0 = 120) ∧ (jXn h = L ∧ jXs h = xs) ∧ e0 ≤ jEx h ∧ (jN h < 120 → jEx h = 0)
section JOP
variable {p : Program} {l : Launch} {e : Env} {R : Room} {s : State} {m : MethodId} {args : Array Value} {below : List Frame} {meth : Method} {c0 : Code} {H : Heap} {locs : List Loc} {Q : State → Prop}
variable {M d z n0 e0 : Nat} {D : va_G} {cA : Nat → ClassId} {ad : Nat → Nat} {L : Nat} {xs : Nat → Int32} {pc a b c : Nat} {ls st ls' st' : List Value} {h h' : jM} {lsC : Array Slot}
theorem jSize {locs : List Loc} {cells slots : Nat} {g : JFrame} (k : H.size ≤ s.heap.size + cells → W p l e R s m args below meth c0 H locs cells slots Q g) : W p l e R s m args below meth c0 H locs cells slots Q g := by
  intro T hT X
  exact k (by rw [← hT]; exact X.heapSize) T hT X
theorem jSizeEq {cells : Nat} (had : ∀ i, i < 1000 → ad i = z + i) (hz : z ≤ s.heap.size) (hA : jPt z n0 e0 D cA ad L xs s h H locs) (hc : cells = jK h - (n0 + e0)) (hl : H.size ≤ s.heap.size + cells) (hn : jN h < 120) : H.size = z + jN h := by
  obtain ⟨hP, hS, h1, h2, h3, -, h8, h9⟩ := hA
  have h4 := hS.1
  have h10 := h9 hn
  unfold jK at hc
  rcases h3 with h3 | h3
  · rcases Nat.eq_zero_or_pos (jN h) with h5 | h5
    · omega
    · have h6 := (hP (jN h - 1) _ (jW_get (by omega))).lt
      have h7 : ad (jN h - 1) < H.size := h6
      rw [had _ (by omega)] at h7
      omega
  · omega
/-- what a step of ours asks of the machine -/
def jStepW (p : Program) (l : Launch) (e : Env) (R : Room) (s : State) (m : MethodId) (args : Array Value) (below : List Frame) (meth : Method) (c0 : Code) (M z n0 e0 : Nat) (D : va_G) (cA : Nat → ClassId) (ad : Nat → Nat) (L : Nat) (xs : Nat → Int32) (Q : State → Prop) (pc n : Nat) (ls st : List Value) (h : jM) (ls' st' : List Value) (h' : jM) : Prop :=
  ∀ (lsC : Array Slot) (H : Heap) (locs : List Loc), ls.length = (jMth M).2.1 → lv_has lsC ls.length (jLv ad ls) → jPt z n0 e0 D cA ad L xs s h H locs → jK h' - (n0 + e0) ≤ R.cells → jTt h' - (jTot n0 + 16 * e0) ≤ R.slots →
  (∀ (lsC' : Array Slot) (H' : Heap) (locs' : List Loc), ls'.length = (jMth M).2.1 → lv_has lsC' ls'.length (jLv ad ls') → jPt z n0 e0 D cA ad L xs s h' H' locs' → W p l e R s m args below meth c0 H' locs' (jK h' - (n0 + e0)) (jTt h' - (jTot n0 + 16 * e0)) Q (F0 m (pc + n) lsC' (st'.map (jV ad)))) →
  W p l e R s m args below meth c0 H locs (jK h - (n0 + e0)) (jTt h - (jTot n0 + 16 * e0)) Q (F0 m pc lsC (st.map (jV ad)))
theorem ow_iadd (C : jCx M d z D cA ad L xs p R s m args meth c0) (hdc : decode (jBy M) pc = .ok (.iadd, 1)) (hop : jOp .iadd a b c ls st h = some (ls', st', h')) : jStepW p l e R s m args below meth c0 M z n0 e0 D cA ad L xs Q pc 1 ls st h ls' st' h' := by
  obtain ⟨hx, hb, hml, hown, hts, hnm, hK, hSt, had, hfr, hlo, hz⟩ := C
  intro lsC H locs hll hl hA hcc hcs kk
  simp only [jOp, jB2] at hop
  split at hop
  · cases hop
    simp only [List.map_cons, jV] at kk ⊢
    exact lv_iadd hx hb hdc (kk _ _ _ hll hl hA)
  · cases hop
theorem ow_isub (C : jCx M d z D cA ad L xs p R s m args meth c0) (hdc : decode (jBy M) pc = .ok (.isub, 1)) (hop : jOp .isub a b c ls st h = some (ls', st', h')) : jStepW p l e R s m args below meth c0 M z n0 e0 D cA ad L xs Q pc 1 ls st h ls' st' h' := by
  obtain ⟨hx, hb, hml, hown, hts, hnm, hK, hSt, had, hfr, hlo, hz⟩ := C
  intro lsC H locs hll hl hA hcc hcs kk
  simp only [jOp, jB2] at hop
  split at hop
  · cases hop
    simp only [List.map_cons, jV] at kk ⊢
    exact lv_isub hx hb hdc (kk _ _ _ hll hl hA)
  · cases hop
theorem ow_imul (C : jCx M d z D cA ad L xs p R s m args meth c0) (hdc : decode (jBy M) pc = .ok (.imul, 1)) (hop : jOp .imul a b c ls st h = some (ls', st', h')) : jStepW p l e R s m args below meth c0 M z n0 e0 D cA ad L xs Q pc 1 ls st h ls' st' h' := by
  obtain ⟨hx, hb, hml, hown, hts, hnm, hK, hSt, had, hfr, hlo, hz⟩ := C
  intro lsC H locs hll hl hA hcc hcs kk
  simp only [jOp, jB2] at hop
  split at hop
  · cases hop
    simp only [List.map_cons, jV] at kk ⊢
    exact lv_imul hx hb hdc (kk _ _ _ hll hl hA)
  · cases hop
theorem ow_iand (C : jCx M d z D cA ad L xs p R s m args meth c0) (hdc : decode (jBy M) pc = .ok (.iand, 1)) (hop : jOp .iand a b c ls st h = some (ls', st', h')) : jStepW p l e R s m args below meth c0 M z n0 e0 D cA ad L xs Q pc 1 ls st h ls' st' h' := by
  obtain ⟨hx, hb, hml, hown, hts, hnm, hK, hSt, had, hfr, hlo, hz⟩ := C
  intro lsC H locs hll hl hA hcc hcs kk
  simp only [jOp, jB2] at hop
  split at hop
  · cases hop
    simp only [List.map_cons, jV] at kk ⊢
    exact lv_iand hx hb hdc (kk _ _ _ hll hl hA)
  · cases hop
theorem ow_ior (C : jCx M d z D cA ad L xs p R s m args meth c0) (hdc : decode (jBy M) pc = .ok (.ior, 1)) (hop : jOp .ior a b c ls st h = some (ls', st', h')) : jStepW p l e R s m args below meth c0 M z n0 e0 D cA ad L xs Q pc 1 ls st h ls' st' h' := by
  obtain ⟨hx, hb, hml, hown, hts, hnm, hK, hSt, had, hfr, hlo, hz⟩ := C
  intro lsC H locs hll hl hA hcc hcs kk
  simp only [jOp, jB2] at hop
  split at hop
  · cases hop
    simp only [List.map_cons, jV] at kk ⊢
    exact lv_ior hx hb hdc (kk _ _ _ hll hl hA)
  · cases hop
theorem ow_ixor (C : jCx M d z D cA ad L xs p R s m args meth c0) (hdc : decode (jBy M) pc = .ok (.ixor, 1)) (hop : jOp .ixor a b c ls st h = some (ls', st', h')) : jStepW p l e R s m args below meth c0 M z n0 e0 D cA ad L xs Q pc 1 ls st h ls' st' h' := by
  obtain ⟨hx, hb, hml, hown, hts, hnm, hK, hSt, had, hfr, hlo, hz⟩ := C
  intro lsC H locs hll hl hA hcc hcs kk
  simp only [jOp, jB2] at hop
  split at hop
  · cases hop
    simp only [List.map_cons, jV] at kk ⊢
    exact lv_ixor hx hb hdc (kk _ _ _ hll hl hA)
  · cases hop
theorem ow_ishl (C : jCx M d z D cA ad L xs p R s m args meth c0) (hdc : decode (jBy M) pc = .ok (.ishl, 1)) (hop : jOp .ishl a b c ls st h = some (ls', st', h')) : jStepW p l e R s m args below meth c0 M z n0 e0 D cA ad L xs Q pc 1 ls st h ls' st' h' := by
  obtain ⟨hx, hb, hml, hown, hts, hnm, hK, hSt, had, hfr, hlo, hz⟩ := C
  intro lsC H locs hll hl hA hcc hcs kk
  simp only [jOp, jB2] at hop
  split at hop
  · cases hop
    simp only [List.map_cons, jV] at kk ⊢
    exact lv_ishl hx hb hdc (kk _ _ _ hll hl hA)
  · cases hop
theorem ow_ishr (C : jCx M d z D cA ad L xs p R s m args meth c0) (hdc : decode (jBy M) pc = .ok (.ishr, 1)) (hop : jOp .ishr a b c ls st h = some (ls', st', h')) : jStepW p l e R s m args below meth c0 M z n0 e0 D cA ad L xs Q pc 1 ls st h ls' st' h' := by
  obtain ⟨hx, hb, hml, hown, hts, hnm, hK, hSt, had, hfr, hlo, hz⟩ := C
  intro lsC H locs hll hl hA hcc hcs kk
  simp only [jOp, jB2] at hop
  split at hop
  · cases hop
    simp only [List.map_cons, jV] at kk ⊢
    exact lv_ishr hx hb hdc (kk _ _ _ hll hl hA)
  · cases hop
theorem ow_iushr (C : jCx M d z D cA ad L xs p R s m args meth c0) (hdc : decode (jBy M) pc = .ok (.iushr, 1)) (hop : jOp .iushr a b c ls st h = some (ls', st', h')) : jStepW p l e R s m args below meth c0 M z n0 e0 D cA ad L xs Q pc 1 ls st h ls' st' h' := by
  obtain ⟨hx, hb, hml, hown, hts, hnm, hK, hSt, had, hfr, hlo, hz⟩ := C
  intro lsC H locs hll hl hA hcc hcs kk
  simp only [jOp, jB2] at hop
  split at hop
  · cases hop
    simp only [List.map_cons, jV] at kk ⊢
    exact lv_iushr hx hb hdc rfl (kk _ _ _ hll hl hA)
  · cases hop
theorem ow_ineg (C : jCx M d z D cA ad L xs p R s m args meth c0) (hdc : decode (jBy M) pc = .ok (.ineg, 1)) (hop : jOp .ineg a b c ls st h = some (ls', st', h')) : jStepW p l e R s m args below meth c0 M z n0 e0 D cA ad L xs Q pc 1 ls st h ls' st' h' := by
  obtain ⟨hx, hb, hml, hown, hts, hnm, hK, hSt, had, hfr, hlo, hz⟩ := C
  intro lsC H locs hll hl hA hcc hcs kk
  simp only [jOp, jB1] at hop
  split at hop
  · cases hop
    simp only [List.map_cons, jV] at kk ⊢
    exact lv_ineg hx hb hdc (kk _ _ _ hll hl hA)
  · cases hop
theorem ow_i2l (C : jCx M d z D cA ad L xs p R s m args meth c0) (hdc : decode (jBy M) pc = .ok (.i2l, 1)) (hop : jOp .i2l a b c ls st h = some (ls', st', h')) : jStepW p l e R s m args below meth c0 M z n0 e0 D cA ad L xs Q pc 1 ls st h ls' st' h' := by
  obtain ⟨hx, hb, hml, hown, hts, hnm, hK, hSt, had, hfr, hlo, hz⟩ := C
  intro lsC H locs hll hl hA hcc hcs kk
  simp only [jOp, jB1] at hop
  split at hop
  · cases hop
    simp only [List.map_cons, jV] at kk ⊢
    exact lv_i2l hx hb hdc rfl (kk _ _ _ hll hl hA)
  · cases hop
theorem ow_i2c (C : jCx M d z D cA ad L xs p R s m args meth c0) (hdc : decode (jBy M) pc = .ok (.i2c, 1)) (hop : jOp .i2c a b c ls st h = some (ls', st', h')) : jStepW p l e R s m args below meth c0 M z n0 e0 D cA ad L xs Q pc 1 ls st h ls' st' h' := by
  obtain ⟨hx, hb, hml, hown, hts, hnm, hK, hSt, had, hfr, hlo, hz⟩ := C
  intro lsC H locs hll hl hA hcc hcs kk
  simp only [jOp, jB1] at hop
  split at hop
  · cases hop
    simp only [List.map_cons, jV] at kk ⊢
    exact lv_i2c hx hb hdc rfl (kk _ _ _ hll hl hA)
  · cases hop
theorem ow_l2i (C : jCx M d z D cA ad L xs p R s m args meth c0) (hdc : decode (jBy M) pc = .ok (.l2i, 1)) (hop : jOp .l2i a b c ls st h = some (ls', st', h')) : jStepW p l e R s m args below meth c0 M z n0 e0 D cA ad L xs Q pc 1 ls st h ls' st' h' := by
  obtain ⟨hx, hb, hml, hown, hts, hnm, hK, hSt, had, hfr, hlo, hz⟩ := C
  intro lsC H locs hll hl hA hcc hcs kk
  simp only [jOp, jC1] at hop
  split at hop
  · cases hop
    simp only [List.map_cons, jV] at kk ⊢
    exact lv_l2i hx hb hdc rfl (kk _ _ _ hll hl hA)
  · cases hop
theorem ow_ladd (C : jCx M d z D cA ad L xs p R s m args meth c0) (hdc : decode (jBy M) pc = .ok (.ladd, 1)) (hop : jOp .ladd a b c ls st h = some (ls', st', h')) : jStepW p l e R s m args below meth c0 M z n0 e0 D cA ad L xs Q pc 1 ls st h ls' st' h' := by
  obtain ⟨hx, hb, hml, hown, hts, hnm, hK, hSt, had, hfr, hlo, hz⟩ := C
  intro lsC H locs hll hl hA hcc hcs kk
  simp only [jOp, jC2] at hop
  split at hop
  · cases hop
    simp only [List.map_cons, jV] at kk ⊢
    exact lv_ladd hx hb hdc (kk _ _ _ hll hl hA)
  · cases hop
theorem ow_lsub (C : jCx M d z D cA ad L xs p R s m args meth c0) (hdc : decode (jBy M) pc = .ok (.lsub, 1)) (hop : jOp .lsub a b c ls st h = some (ls', st', h')) : jStepW p l e R s m args below meth c0 M z n0 e0 D cA ad L xs Q pc 1 ls st h ls' st' h' := by
  obtain ⟨hx, hb, hml, hown, hts, hnm, hK, hSt, had, hfr, hlo, hz⟩ := C
  intro lsC H locs hll hl hA hcc hcs kk
  simp only [jOp, jC2] at hop
  split at hop
  · cases hop
    simp only [List.map_cons, jV] at kk ⊢
    exact lv_lsub hx hb hdc (kk _ _ _ hll hl hA)
  · cases hop
theorem ow_lmul (C : jCx M d z D cA ad L xs p R s m args meth c0) (hdc : decode (jBy M) pc = .ok (.lmul, 1)) (hop : jOp .lmul a b c ls st h = some (ls', st', h')) : jStepW p l e R s m args below meth c0 M z n0 e0 D cA ad L xs Q pc 1 ls st h ls' st' h' := by
  obtain ⟨hx, hb, hml, hown, hts, hnm, hK, hSt, had, hfr, hlo, hz⟩ := C
  intro lsC H locs hll hl hA hcc hcs kk
  simp only [jOp, jC2] at hop
  split at hop
  · cases hop
    simp only [List.map_cons, jV] at kk ⊢
    exact lv_lmul hx hb hdc (kk _ _ _ hll hl hA)
  · cases hop
theorem ow_land (C : jCx M d z D cA ad L xs p R s m args meth c0) (hdc : decode (jBy M) pc = .ok (.land, 1)) (hop : jOp .land a b c ls st h = some (ls', st', h')) : jStepW p l e R s m args below meth c0 M z n0 e0 D cA ad L xs Q pc 1 ls st h ls' st' h' := by
  obtain ⟨hx, hb, hml, hown, hts, hnm, hK, hSt, had, hfr, hlo, hz⟩ := C
  intro lsC H locs hll hl hA hcc hcs kk
  simp only [jOp, jC2] at hop
  split at hop
  · cases hop
    simp only [List.map_cons, jV] at kk ⊢
    exact lv_land hx hb hdc (kk _ _ _ hll hl hA)
  · cases hop
theorem ow_lor (C : jCx M d z D cA ad L xs p R s m args meth c0) (hdc : decode (jBy M) pc = .ok (.lor, 1)) (hop : jOp .lor a b c ls st h = some (ls', st', h')) : jStepW p l e R s m args below meth c0 M z n0 e0 D cA ad L xs Q pc 1 ls st h ls' st' h' := by
  obtain ⟨hx, hb, hml, hown, hts, hnm, hK, hSt, had, hfr, hlo, hz⟩ := C
  intro lsC H locs hll hl hA hcc hcs kk
  simp only [jOp, jC2] at hop
  split at hop
  · cases hop
    simp only [List.map_cons, jV] at kk ⊢
    exact lv_lor hx hb hdc (kk _ _ _ hll hl hA)
  · cases hop
theorem ow_lxor (C : jCx M d z D cA ad L xs p R s m args meth c0) (hdc : decode (jBy M) pc = .ok (.lxor, 1)) (hop : jOp .lxor a b c ls st h = some (ls', st', h')) : jStepW p l e R s m args below meth c0 M z n0 e0 D cA ad L xs Q pc 1 ls st h ls' st' h' := by
  obtain ⟨hx, hb, hml, hown, hts, hnm, hK, hSt, had, hfr, hlo, hz⟩ := C
  intro lsC H locs hll hl hA hcc hcs kk
  simp only [jOp, jC2] at hop
  split at hop
  · cases hop
    simp only [List.map_cons, jV] at kk ⊢
    exact lv_lxor hx hb hdc (kk _ _ _ hll hl hA)
  · cases hop
theorem ow_lcmp (C : jCx M d z D cA ad L xs p R s m args meth c0) (hdc : decode (jBy M) pc = .ok (.lcmp, 1)) (hop : jOp .lcmp a b c ls st h = some (ls', st', h')) : jStepW p l e R s m args below meth c0 M z n0 e0 D cA ad L xs Q pc 1 ls st h ls' st' h' := by
  obtain ⟨hx, hb, hml, hown, hts, hnm, hK, hSt, had, hfr, hlo, hz⟩ := C
  intro lsC H locs hll hl hA hcc hcs kk
  simp only [jOp, jC2] at hop
  split at hop
  · cases hop
    simp only [List.map_cons, jV] at kk ⊢
    exact W.lcmp hx hb hdc (kk _ _ _ hll hl hA)
  · cases hop
theorem ow_lshl (C : jCx M d z D cA ad L xs p R s m args meth c0) (hdc : decode (jBy M) pc = .ok (.lshl, 1)) (hop : jOp .lshl a b c ls st h = some (ls', st', h')) : jStepW p l e R s m args below meth c0 M z n0 e0 D cA ad L xs Q pc 1 ls st h ls' st' h' := by
  obtain ⟨hx, hb, hml, hown, hts, hnm, hK, hSt, had, hfr, hlo, hz⟩ := C
  intro lsC H locs hll hl hA hcc hcs kk
  simp only [jOp, jCS] at hop
  split at hop
  · cases hop
    simp only [List.map_cons, jV] at kk ⊢
    exact lv_lshl hx hb hdc rfl (kk _ _ _ hll hl hA)
  · cases hop
theorem ow_lshr (C : jCx M d z D cA ad L xs p R s m args meth c0) (hdc : decode (jBy M) pc = .ok (.lshr, 1)) (hop : jOp .lshr a b c ls st h = some (ls', st', h')) : jStepW p l e R s m args below meth c0 M z n0 e0 D cA ad L xs Q pc 1 ls st h ls' st' h' := by
  obtain ⟨hx, hb, hml, hown, hts, hnm, hK, hSt, had, hfr, hlo, hz⟩ := C
  intro lsC H locs hll hl hA hcc hcs kk
  simp only [jOp, jCS] at hop
  split at hop
  · cases hop
    simp only [List.map_cons, jV] at kk ⊢
    exact lv_lshr hx hb hdc rfl (kk _ _ _ hll hl hA)
  · cases hop
theorem ow_lushr (C : jCx M d z D cA ad L xs p R s m args meth c0) (hdc : decode (jBy M) pc = .ok (.lushr, 1)) (hop : jOp .lushr a b c ls st h = some (ls', st', h')) : jStepW p l e R s m args below meth c0 M z n0 e0 D cA ad L xs Q pc 1 ls st h ls' st' h' := by
  obtain ⟨hx, hb, hml, hown, hts, hnm, hK, hSt, had, hfr, hlo, hz⟩ := C
  intro lsC H locs hll hl hA hcc hcs kk
  simp only [jOp, jCS] at hop
  split at hop
  · cases hop
    simp only [List.map_cons, jV] at kk ⊢
    exact lv_lushr hx hb hdc rfl (kk _ _ _ hll hl hA)
  · cases hop
theorem ow_idiv (C : jCx M d z D cA ad L xs p R s m args meth c0) (hdc : decode (jBy M) pc = .ok (.idiv, 1)) (hop : jOp .idiv a b c ls st h = some (ls', st', h')) : jStepW p l e R s m args below meth c0 M z n0 e0 D cA ad L xs Q pc 1 ls st h ls' st' h' := by
  obtain ⟨hx, hb, hml, hown, hts, hnm, hK, hSt, had, hfr, hlo, hz⟩ := C
  intro lsC H locs hll hl hA hcc hcs kk
  simp only [jOp, jB3] at hop
  split at hop
  · split at hop
    · cases hop
    · rename_i hne
      cases hop
      simp only [List.map_cons, jV] at kk ⊢
      exact lv_idiv hx hb hdc hne (kk _ _ _ hll hl hA)
  · cases hop
theorem ow_irem (C : jCx M d z D cA ad L xs p R s m args meth c0) (hdc : decode (jBy M) pc = .ok (.irem, 1)) (hop : jOp .irem a b c ls st h = some (ls', st', h')) : jStepW p l e R s m args below meth c0 M z n0 e0 D cA ad L xs Q pc 1 ls st h ls' st' h' := by
  obtain ⟨hx, hb, hml, hown, hts, hnm, hK, hSt, had, hfr, hlo, hz⟩ := C
  intro lsC H locs hll hl hA hcc hcs kk
  simp only [jOp, jB3] at hop
  split at hop
  · split at hop
    · cases hop
    · rename_i hne
      cases hop
      simp only [List.map_cons, jV] at kk ⊢
      exact lv_irem hx hb hdc hne (kk _ _ _ hll hl hA)
  · cases hop
theorem ow_ldiv (C : jCx M d z D cA ad L xs p R s m args meth c0) (hdc : decode (jBy M) pc = .ok (.ldiv, 1)) (hop : jOp .ldiv a b c ls st h = some (ls', st', h')) : jStepW p l e R s m args below meth c0 M z n0 e0 D cA ad L xs Q pc 1 ls st h ls' st' h' := by
  obtain ⟨hx, hb, hml, hown, hts, hnm, hK, hSt, had, hfr, hlo, hz⟩ := C
  intro lsC H locs hll hl hA hcc hcs kk
  simp only [jOp, jC3] at hop
  split at hop
  · split at hop
    · cases hop
    · rename_i hne
      cases hop
      simp only [List.map_cons, jV] at kk ⊢
      exact lv_ldiv hx hb hdc hne (kk _ _ _ hll hl hA)
  · cases hop
theorem ow_lrem (C : jCx M d z D cA ad L xs p R s m args meth c0) (hdc : decode (jBy M) pc = .ok (.lrem, 1)) (hop : jOp .lrem a b c ls st h = some (ls', st', h')) : jStepW p l e R s m args below meth c0 M z n0 e0 D cA ad L xs Q pc 1 ls st h ls' st' h' := by
  obtain ⟨hx, hb, hml, hown, hts, hnm, hK, hSt, had, hfr, hlo, hz⟩ := C
  intro lsC H locs hll hl hA hcc hcs kk
  simp only [jOp, jC3] at hop
  split at hop
  · split at hop
    · cases hop
    · rename_i hne
      cases hop
      simp only [List.map_cons, jV] at kk ⊢
      exact lv_lrem hx hb hdc hne (kk _ _ _ hll hl hA)
  · cases hop
theorem ow_iconst (C : jCx M d z D cA ad L xs p R s m args meth c0) {n : Int} (hdc : decode (jBy M) pc = .ok (.iconst n, 1)) (hop : jOp (.iconst n) a b c ls st h = some (ls', st', h')) : jStepW p l e R s m args below meth c0 M z n0 e0 D cA ad L xs Q pc 1 ls st h ls' st' h' := by
  obtain ⟨hx, hb, hml, hown, hts, hnm, hK, hSt, had, hfr, hlo, hz⟩ := C
  intro lsC H locs hll hl hA hcc hcs kk
  simp only [jOp, jPush] at hop
  cases hop
  simp only [List.map_cons, jV] at kk
  exact lv_iconst hx hb hdc rfl (kk _ _ _ hll hl hA)
theorem ow_bipush (C : jCx M d z D cA ad L xs p R s m args meth c0) {n : Int} (hdc : decode (jBy M) pc = .ok (.bipush n, 2)) (hop : jOp (.bipush n) a b c ls st h = some (ls', st', h')) : jStepW p l e R s m args below meth c0 M z n0 e0 D cA ad L xs Q pc 2 ls st h ls' st' h' := by
  obtain ⟨hx, hb, hml, hown, hts, hnm, hK, hSt, had, hfr, hlo, hz⟩ := C
  intro lsC H locs hll hl hA hcc hcs kk
  simp only [jOp, jPush] at hop
  cases hop
  simp only [List.map_cons, jV] at kk
  exact lv_bipush hx hb hdc rfl (kk _ _ _ hll hl hA)
theorem ow_sipush (C : jCx M d z D cA ad L xs p R s m args meth c0) {n : Int} (hdc : decode (jBy M) pc = .ok (.sipush n, 3)) (hop : jOp (.sipush n) a b c ls st h = some (ls', st', h')) : jStepW p l e R s m args below meth c0 M z n0 e0 D cA ad L xs Q pc 3 ls st h ls' st' h' := by
  obtain ⟨hx, hb, hml, hown, hts, hnm, hK, hSt, had, hfr, hlo, hz⟩ := C
  intro lsC H locs hll hl hA hcc hcs kk
  simp only [jOp, jPush] at hop
  cases hop
  simp only [List.map_cons, jV] at kk
  exact lv_sipush hx hb hdc rfl (kk _ _ _ hll hl hA)
theorem ow_lconst (C : jCx M d z D cA ad L xs p R s m args meth c0) {n : Fin 2} (hdc : decode (jBy M) pc = .ok (.lconst n, 1)) (hop : jOp (.lconst n) a b c ls st h = some (ls', st', h')) : jStepW p l e R s m args below meth c0 M z n0 e0 D cA ad L xs Q pc 1 ls st h ls' st' h' := by
  obtain ⟨hx, hb, hml, hown, hts, hnm, hK, hSt, had, hfr, hlo, hz⟩ := C
  intro lsC H locs hll hl hA hcc hcs kk
  simp only [jOp, jPush] at hop
  cases hop
  simp only [List.map_cons, jV] at kk
  exact lv_lconst hx hb hdc rfl (kk _ _ _ hll hl hA)
theorem ow_ldc2 (C : jCx M d z D cA ad L xs p R s m args meth c0) {n : Nat} (hdc : decode (jBy M) pc = .ok (.ldc2_w n, 3)) (hw : Cond.constantLong (jOwnS (jOn M)) n (jCL.getD a 0) ∈ jTbl) (hop : jOp (.ldc2_w n) a b c ls st h = some (ls', st', h')) : jStepW p l e R s m args below meth c0 M z n0 e0 D cA ad L xs Q pc 3 ls st h ls' st' h' := by
  obtain ⟨hx, hb, hml, hown, hts, hnm, hK, hSt, had, hfr, hlo, hz⟩ := C
  intro lsC H locs hll hl hA hcc hcs kk
  simp only [jOp, jPush] at hop
  cases hop
  simp only [List.map_cons, jV] at kk
  exact lv_ldc2 hx hb hown (hts _ hw) hdc (kk _ _ _ hll hl hA)
theorem ow_ldcw (C : jCx M d z D cA ad L xs p R s m args meth c0) {n : Nat} (hdc : decode (jBy M) pc = .ok (.ldc_w n, 3)) (hw : Cond.constant (jOwnS (jOn M)) n (jCI.getD a 0) ∈ jTbl) (hop : jOp (.ldc_w n) a b c ls st h = some (ls', st', h')) : jStepW p l e R s m args below meth c0 M z n0 e0 D cA ad L xs Q pc 3 ls st h ls' st' h' := by
  obtain ⟨hx, hb, hml, hown, hts, hnm, hK, hSt, had, hfr, hlo, hz⟩ := C
  intro lsC H locs hll hl hA hcc hcs kk
  simp only [jOp, jPush] at hop
  cases hop
  simp only [List.map_cons, jV] at kk
  exact lv_ldcw hx hb hown (hts _ hw) hdc (kk _ _ _ hll hl hA)
theorem ow_ldc (C : jCx M d z D cA ad L xs p R s m args meth c0) {n : Nat} (hdc : decode (jBy M) pc = .ok (.ldc n, 2)) (hb1 : b ≠ 1) (hw : Cond.constant (jOwnS (jOn M)) n (jCI.getD a 0) ∈ jTbl) (hop : jOp (.ldc n) a b c ls st h = some (ls', st', h')) : jStepW p l e R s m args below meth c0 M z n0 e0 D cA ad L xs Q pc 2 ls st h ls' st' h' := by
  obtain ⟨hx, hb, hml, hown, hts, hnm, hK, hSt, had, hfr, hlo, hz⟩ := C
  intro lsC H locs hll hl hA hcc hcs kk
  simp only [jOp, jPush, if_neg hb1] at hop
  cases hop
  simp only [List.map_cons, jV] at kk
  exact lv_ldc hx hb hown (hts _ hw) hdc (kk _ _ _ hll hl hA)
theorem ow_ldcs (C : jCx M d z D cA ad L xs p R s m args meth c0)  (hdc : decode (jBy M) pc = .ok (.ldc 59, 2)) (hb1 : b = 1) (ho : jOwnS (jOn M) = "TwoTowns$Tape") (hop : jOp (.ldc 59) a b c ls st h = some (ls', st', h')) : jStepW p l e R s m args below meth c0 M z n0 e0 D cA ad L xs Q pc 2 ls st h ls' st' h' := by
  obtain ⟨hx, hb, hml, hown, hts, hnm, hK, hSt, had, hfr, hlo, hz⟩ := C
  intro lsC H locs hll hl hA hcc hcs kk
  simp only [jOp, jPush, if_pos hb1] at hop
  cases hop
  simp only [List.map_cons, jV] at kk
  exact va_ldcS hx hb (by rw [ho] at hown; exact hown) hSt.2.2.1 hdc (kk _ _ _ hll hl hA)
theorem ow_getstatic (C : jCx M d z D cA ad L xs p R s m args meth c0) {n : Nat} (hdc : decode (jBy M) pc = .ok (.getstatic n, 3)) (hw : Cond.fieldLink (jOwnS (jOn M)) n "TwoTowns" "DIGITS" "[I" ∈ jTbl) (hop : jOp (.getstatic n) a b c ls st h = some (ls', st', h')) : jStepW p l e R s m args below meth c0 M z n0 e0 D cA ad L xs Q pc 3 ls st h ls' st' h' := by
  obtain ⟨hx, hb, hml, hown, hts, hnm, hK, hSt, had, hfr, hlo, hz⟩ := C
  intro lsC H locs hll hl hA hcc hcs kk
  simp only [jOp, jPush] at hop
  cases hop
  simp only [List.map_cons, jV] at kk
  exact va_gets hx hb hSt.1 hA.2.1 hown (hts _ hw) (fun _ h9 => h9) hdc (kk _ _ _ hll hl hA)
theorem ow_getstaticN (C : jCx M d z D cA ad L xs p R s m args meth c0) {n : Nat} (hdc : decode (jBy M) pc = .ok (.getstatic n, 3)) (hw : Cond.fieldLinkNest (jOwnS (jOn M)) n "TwoTowns" "DIGITS" "[I" "TwoTowns" ∈ tables_1) (hop : jOp (.getstatic n) a b c ls st h = some (ls', st', h')) : jStepW p l e R s m args below meth c0 M z n0 e0 D cA ad L xs Q pc 3 ls st h ls' st' h' := by
  obtain ⟨hx, hb, hml, hown, hts, hnm, hK, hSt, had, hfr, hlo, hz⟩ := C
  intro lsC H locs hll hl hA hcc hcs kk
  simp only [jOp, jPush] at hop
  cases hop
  simp only [List.map_cons, jV] at kk
  exact va_getsN hx hb hSt.1 hA.2.1 hown (va_Nw.use rfl (hSt.2.2.2.2.2.2.2.1 _ _ _ _ _ _ hw)) (fun _ h9 => h9) hdc (kk _ _ _ hll hl hA)
theorem ow_iload (C : jCx M d z D cA ad L xs p R s m args meth c0) {n : Nat} (hdc : decode (jBy M) pc = .ok (.iload n, 2)) (hop : jOp (.iload n) a b c ls st h = some (ls', st', h')) : jStepW p l e R s m args below meth c0 M z n0 e0 D cA ad L xs Q pc 2 ls st h ls' st' h' := by
  obtain ⟨hx, hb, hml, hown, hts, hnm, hK, hSt, had, hfr, hlo, hz⟩ := C
  intro lsC H locs hll hl hA hcc hcs kk
  simp only [jOp, jLdi] at hop
  split at hop
  · rename_i hv
    cases hop
    simp only [List.map_cons, jV] at kk
    exact lv_iload hx hb hdc (jLd hl hv (by intro q; cases q)) (kk _ _ _ hll hl hA)
  · cases hop
theorem ow_iload_n (C : jCx M d z D cA ad L xs p R s m args meth c0) {n : Fin 4} (hdc : decode (jBy M) pc = .ok (.iload_n n, 1)) (hop : jOp (.iload_n n) a b c ls st h = some (ls', st', h')) : jStepW p l e R s m args below meth c0 M z n0 e0 D cA ad L xs Q pc 1 ls st h ls' st' h' := by
  obtain ⟨hx, hb, hml, hown, hts, hnm, hK, hSt, had, hfr, hlo, hz⟩ := C
  intro lsC H locs hll hl hA hcc hcs kk
  simp only [jOp, jLdi] at hop
  split at hop
  · rename_i hv
    cases hop
    simp only [List.map_cons, jV] at kk
    exact lv_iload_n hx hb hdc rfl (jLd hl hv (by intro q; cases q)) (kk _ _ _ hll hl hA)
  · cases hop
theorem ow_lload (C : jCx M d z D cA ad L xs p R s m args meth c0) {n : Nat} (hdc : decode (jBy M) pc = .ok (.lload n, 2)) (hop : jOp (.lload n) a b c ls st h = some (ls', st', h')) : jStepW p l e R s m args below meth c0 M z n0 e0 D cA ad L xs Q pc 2 ls st h ls' st' h' := by
  obtain ⟨hx, hb, hml, hown, hts, hnm, hK, hSt, had, hfr, hlo, hz⟩ := C
  intro lsC H locs hll hl hA hcc hcs kk
  simp only [jOp, jLdl] at hop
  split at hop
  · rename_i hv
    cases hop
    simp only [List.map_cons, jV] at kk
    exact lv_lload hx hb hdc (jLd hl hv (by intro q; cases q)) (kk _ _ _ hll hl hA)
  · cases hop
theorem ow_lload_n (C : jCx M d z D cA ad L xs p R s m args meth c0) {n : Fin 4} (hdc : decode (jBy M) pc = .ok (.lload_n n, 1)) (hop : jOp (.lload_n n) a b c ls st h = some (ls', st', h')) : jStepW p l e R s m args below meth c0 M z n0 e0 D cA ad L xs Q pc 1 ls st h ls' st' h' := by
  obtain ⟨hx, hb, hml, hown, hts, hnm, hK, hSt, had, hfr, hlo, hz⟩ := C
  intro lsC H locs hll hl hA hcc hcs kk
  simp only [jOp, jLdl] at hop
  split at hop
  · rename_i hv
    cases hop
    simp only [List.map_cons, jV] at kk
    exact lv_lload_n hx hb hdc rfl (jLd hl hv (by intro q; cases q)) (kk _ _ _ hll hl hA)
  · cases hop
theorem ow_aload (C : jCx M d z D cA ad L xs p R s m args meth c0) {n : Nat} (hdc : decode (jBy M) pc = .ok (.aload n, 2)) (hop : jOp (.aload n) a b c ls st h = some (ls', st', h')) : jStepW p l e R s m args below meth c0 M z n0 e0 D cA ad L xs Q pc 2 ls st h ls' st' h' := by
  obtain ⟨hx, hb, hml, hown, hts, hnm, hK, hSt, had, hfr, hlo, hz⟩ := C
  intro lsC H locs hll hl hA hcc hcs kk
  simp only [jOp, jLda] at hop
  split at hop
  · rename_i hv
    cases hop
    simp only [List.map_cons, jV] at kk
    exact lv_aload hx hb hdc (jLd hl hv (by intro q; cases q)) (kk _ _ _ hll hl hA)
  · cases hop
theorem ow_aload_n (C : jCx M d z D cA ad L xs p R s m args meth c0) {n : Fin 4} (hdc : decode (jBy M) pc = .ok (.aload_n n, 1)) (hop : jOp (.aload_n n) a b c ls st h = some (ls', st', h')) : jStepW p l e R s m args below meth c0 M z n0 e0 D cA ad L xs Q pc 1 ls st h ls' st' h' := by
  obtain ⟨hx, hb, hml, hown, hts, hnm, hK, hSt, had, hfr, hlo, hz⟩ := C
  intro lsC H locs hll hl hA hcc hcs kk
  simp only [jOp, jLda] at hop
  split at hop
  · rename_i hv
    cases hop
    simp only [List.map_cons, jV] at kk
    exact lv_aload_n hx hb hdc rfl (jLd hl hv (by intro q; cases q)) (kk _ _ _ hll hl hA)
  · cases hop
theorem ow_istore (C : jCx M d z D cA ad L xs p R s m args meth c0) {n : Nat} (hdc : decode (jBy M) pc = .ok (.istore n, 2)) (hop : jOp (.istore n) a b c ls st h = some (ls', st', h')) : jStepW p l e R s m args below meth c0 M z n0 e0 D cA ad L xs Q pc 2 ls st h ls' st' h' := by
  obtain ⟨hx, hb, hml, hown, hts, hnm, hK, hSt, had, hfr, hlo, hz⟩ := C
  intro lsC H locs hll hl hA hcc hcs kk
  simp only [jOp, jSti] at hop
  split at hop
  · split at hop
    · rename_i hi
      cases hop
      simp only [List.map_cons, jV] at kk ⊢
      exact lv_istore hx hb hdc hl hi rfl (fun ls2 hl2 => kk _ _ _ (by rw [jPut_len]; exact hll) (by rw [jPut_len]; exact jLv_put hi rfl hl2) hA)
    · cases hop
  · cases hop
theorem ow_istore_n (C : jCx M d z D cA ad L xs p R s m args meth c0) {n : Fin 4} (hdc : decode (jBy M) pc = .ok (.istore_n n, 1)) (hop : jOp (.istore_n n) a b c ls st h = some (ls', st', h')) : jStepW p l e R s m args below meth c0 M z n0 e0 D cA ad L xs Q pc 1 ls st h ls' st' h' := by
  obtain ⟨hx, hb, hml, hown, hts, hnm, hK, hSt, had, hfr, hlo, hz⟩ := C
  intro lsC H locs hll hl hA hcc hcs kk
  simp only [jOp, jSti] at hop
  split at hop
  · split at hop
    · rename_i hi
      cases hop
      simp only [List.map_cons, jV] at kk ⊢
      exact lv_istore_n hx hb hdc rfl hl hi rfl (fun ls2 hl2 => kk _ _ _ (by rw [jPut_len]; exact hll) (by rw [jPut_len]; exact jLv_put hi rfl hl2) hA)
    · cases hop
  · cases hop
theorem ow_lstore (C : jCx M d z D cA ad L xs p R s m args meth c0) {n : Nat} (hdc : decode (jBy M) pc = .ok (.lstore n, 2)) (hop : jOp (.lstore n) a b c ls st h = some (ls', st', h')) : jStepW p l e R s m args below meth c0 M z n0 e0 D cA ad L xs Q pc 2 ls st h ls' st' h' := by
  obtain ⟨hx, hb, hml, hown, hts, hnm, hK, hSt, had, hfr, hlo, hz⟩ := C
  intro lsC H locs hll hl hA hcc hcs kk
  simp only [jOp, jStl] at hop
  split at hop
  · split at hop
    · rename_i hi
      cases hop
      simp only [List.map_cons, jV] at kk ⊢
      exact lv_lstore hx hb hdc hl hi rfl (fun ls2 hl2 => kk _ _ _ (by rw [jPut2_len]; exact hll) (by rw [jPut2_len]; exact jLv_put2 hi rfl hl2) hA)
    · cases hop
  · cases hop
theorem ow_lstore_n (C : jCx M d z D cA ad L xs p R s m args meth c0) {n : Fin 4} (hdc : decode (jBy M) pc = .ok (.lstore_n n, 1)) (hop : jOp (.lstore_n n) a b c ls st h = some (ls', st', h')) : jStepW p l e R s m args below meth c0 M z n0 e0 D cA ad L xs Q pc 1 ls st h ls' st' h' := by
  obtain ⟨hx, hb, hml, hown, hts, hnm, hK, hSt, had, hfr, hlo, hz⟩ := C
  intro lsC H locs hll hl hA hcc hcs kk
  simp only [jOp, jStl] at hop
  split at hop
  · split at hop
    · rename_i hi
      cases hop
      simp only [List.map_cons, jV] at kk ⊢
      exact lv_lstore_n hx hb hdc rfl hl hi rfl (fun ls2 hl2 => kk _ _ _ (by rw [jPut2_len]; exact hll) (by rw [jPut2_len]; exact jLv_put2 hi rfl hl2) hA)
    · cases hop
  · cases hop
theorem ow_astore (C : jCx M d z D cA ad L xs p R s m args meth c0) {n : Nat} (hdc : decode (jBy M) pc = .ok (.astore n, 2)) (hop : jOp (.astore n) a b c ls st h = some (ls', st', h')) : jStepW p l e R s m args below meth c0 M z n0 e0 D cA ad L xs Q pc 2 ls st h ls' st' h' := by
  obtain ⟨hx, hb, hml, hown, hts, hnm, hK, hSt, had, hfr, hlo, hz⟩ := C
  intro lsC H locs hll hl hA hcc hcs kk
  simp only [jOp, jSta] at hop
  split at hop
  · split at hop
    · rename_i hi
      cases hop
      simp only [List.map_cons, jV] at kk ⊢
      exact lv_astore hx hb hdc hl hi rfl (fun ls2 hl2 => kk _ _ _ (by rw [jPut_len]; exact hll) (by rw [jPut_len]; exact jLv_put hi rfl hl2) hA)
    · cases hop
  · cases hop
theorem ow_astore_n (C : jCx M d z D cA ad L xs p R s m args meth c0) {n : Fin 4} (hdc : decode (jBy M) pc = .ok (.astore_n n, 1)) (hop : jOp (.astore_n n) a b c ls st h = some (ls', st', h')) : jStepW p l e R s m args below meth c0 M z n0 e0 D cA ad L xs Q pc 1 ls st h ls' st' h' := by
  obtain ⟨hx, hb, hml, hown, hts, hnm, hK, hSt, had, hfr, hlo, hz⟩ := C
  intro lsC H locs hll hl hA hcc hcs kk
  simp only [jOp, jSta] at hop
  split at hop
  · split at hop
    · rename_i hi
      cases hop
      simp only [List.map_cons, jV] at kk ⊢
      exact lv_astore_n hx hb hdc rfl hl hi rfl (fun ls2 hl2 => kk _ _ _ (by rw [jPut_len]; exact hll) (by rw [jPut_len]; exact jLv_put hi rfl hl2) hA)
    · cases hop
  · cases hop
theorem ow_iinc (C : jCx M d z D cA ad L xs p R s m args meth c0) {i : Nat} {n : Int} (hdc : decode (jBy M) pc = .ok (.iinc i n, 3)) (hop : jOp (.iinc i n) a b c ls st h = some (ls', st', h')) : jStepW p l e R s m args below meth c0 M z n0 e0 D cA ad L xs Q pc 3 ls st h ls' st' h' := by
  obtain ⟨hx, hb, hml, hown, hts, hnm, hK, hSt, had, hfr, hlo, hz⟩ := C
  intro lsC H locs hll hl hA hcc hcs kk
  simp only [jOp, jInc] at hop
  split at hop
  · rename_i x hv
    split at hop
    · rename_i hi
      cases hop
      obtain ⟨k, hk⟩ := List.getElem?_of_mem (jLv_mem (ad := ad) (ls := ls) (q := (i, .int x)) |>.mpr ⟨hi, (by rw [hv]; intro q; cases q), (by rw [hv]; rfl)⟩)
      exact lv_iinc hx hb hdc hl hk rfl hi rfl (fun ls2 hl2 => kk _ _ _ (by rw [jPut_len]; exact hll) (by rw [jPut_len]; exact jLv_put hi rfl hl2) hA)
    · cases hop
  · cases hop
theorem ow_dup (C : jCx M d z D cA ad L xs p R s m args meth c0) (hdc : decode (jBy M) pc = .ok (.dup, 1)) (hop : jOp .dup a b c ls st h = some (ls', st', h')) : jStepW p l e R s m args below meth c0 M z n0 e0 D cA ad L xs Q pc 1 ls st h ls' st' h' := by
  obtain ⟨hx, hb, hml, hown, hts, hnm, hK, hSt, had, hfr, hlo, hz⟩ := C
  intro lsC H locs hll hl hA hcc hcs kk
  simp only [jOp] at hop
  split at hop
  · cases hop
    simp only [List.map_cons, jV] at kk ⊢
    exact lv_dup hx hb hdc rfl (kk _ _ _ hll hl hA)
  · cases hop
    simp only [List.map_cons, jV] at kk ⊢
    exact lv_dup hx hb hdc rfl (kk _ _ _ hll hl hA)
  · cases hop
theorem ow_pop (C : jCx M d z D cA ad L xs p R s m args meth c0) (hdc : decode (jBy M) pc = .ok (.pop, 1)) (hop : jOp .pop a b c ls st h = some (ls', st', h')) : jStepW p l e R s m args below meth c0 M z n0 e0 D cA ad L xs Q pc 1 ls st h ls' st' h' := by
  obtain ⟨hx, hb, hml, hown, hts, hnm, hK, hSt, had, hfr, hlo, hz⟩ := C
  intro lsC H locs hll hl hA hcc hcs kk
  simp only [jOp] at hop
  split at hop
  · cases hop
    simp only [List.map_cons, jV] at kk ⊢
    exact lv_pop hx hb hdc rfl (kk _ _ _ hll hl hA)
  · cases hop
    simp only [List.map_cons, jV] at kk ⊢
    exact lv_pop hx hb hdc rfl (kk _ _ _ hll hl hA)
  · cases hop
theorem ow_dup2 (C : jCx M d z D cA ad L xs p R s m args meth c0) (hdc : decode (jBy M) pc = .ok (.dup2, 1)) (hop : jOp .dup2 a b c ls st h = some (ls', st', h')) : jStepW p l e R s m args below meth c0 M z n0 e0 D cA ad L xs Q pc 1 ls st h ls' st' h' := by
  obtain ⟨hx, hb, hml, hown, hts, hnm, hK, hSt, had, hfr, hlo, hz⟩ := C
  intro lsC H locs hll hl hA hcc hcs kk
  simp only [jOp] at hop
  split at hop
  · cases hop
    simp only [List.map_cons, jV] at kk ⊢
    exact lv_dup2_11 hx hb hdc rfl rfl (kk _ _ _ hll hl hA)
  · cases hop
end JOP
