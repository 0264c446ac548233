/-! SHOWING at rest: the class answers or throws; the law takes both -/
theorem rRstS {l : Launch} {o : Nat} {b y g w v : Int32} (hv : jRests b y g w = some v) : Met l yRst wRst (rmS 2) (jPc0 [.ref o, .int b, .int y, .int g, .int w]) (jQr (some (.int v))) 0 0 (fun _ => False) := by
  refine Met.ofW (cc := prog_1_method_36_code) (maxL := 7) (ret := some .int) (by decide) rfl ?_
  intro p e s m args below meth c s₁ B hml hP
  obtain ⟨rfl, -⟩ := hP
  have hx := B.exec
  have hb := B.bytes
  have hr := B.returns
  have hts := atoms_spec (ws := wRst) B.pre
  have ht2 := fun w (hw : w ∈ jTbl) => hts w (List.mem_cons_of_mem _ hw)
  have hown : s.vm.findClass "TwoTowns" = some m.cls := findClass_of_methodNamed B.named
  have hlocks := B.notSynchronized
  have hl := lv_entry ([.ref o, .int b, .int y, .int g, .int w]) (n := 7) (Nat.le_of_ble_eq_true rfl)
  rw [lg_entry_eq]
  generalize (lg_sl ([.ref o, .int b, .int y, .int g, .int w]) ++ List.replicate (7 - (lg_sl ([.ref o, .int b, .int y, .int g, .int w])).length) Slot.unset).toArray = ls at hl ⊢
  have hl : lv_has ls 7 [(0, .ref o), (1, .int b), (2, .int y), (3, .int g), (4, .int w)] := hl
  refine rWalk hx hb hml hown ht2 ⟨Nat.le_of_ble_eq_true rfl, Nat.le_of_ble_eq_true rfl⟩ ls hl (fun v2 pc ls2 h1 h2 => ?_) (fun h1 => ?_)
  · cases Option.some.inj (hv.symm.trans h1)
    rcases h2 with rfl | rfl
    · exact W.iret hx hb hr (fun t ht _ => ⟨rfl, ht⟩) (fun q hq => by cases hq) (by decide +kernel)
    · exact W.iret hx hb hr (fun t ht _ => ⟨rfl, ht⟩) (fun q hq => by cases hq) (by decide +kernel)
  · rw [hv] at h1; cases h1
def rmX : Room := { frames := 6, cells := 1, slots := 6, locals := 100 }
def jPcX (z : Nat) (as : List Value) : Array Value → State → Prop := va_Pc as (fun U => vx_Zq "java/lang/Throwable" "UNASSIGNED_STACK" "[Ljava/lang/StackTraceElement;" (fun q => z ≤ q) U U.heap ∧ vx_Zq "java/lang/Throwable" "SUPPRESSED_SENTINEL" "Ljava/util/List;" (fun q => z ≤ q) U U.heap ∧ ∀ w ∈ jEw, va_Nw w U)
theorem jPcX_blind {z : Nat} {as : List Value} : FrameBlind (jPcX z as) := by
  intro a U g mk q
  obtain ⟨q0, q1, q2, q3⟩ := q
  exact ⟨q0, vx_Zq.moved (u := U) (U := U.calling g mk a) (Vm.Alike.refl U.vm) q1, vx_Zq.moved (u := U) (U := U.calling g mk a) (Vm.Alike.refl U.vm) q2, jEw_mv (u := U) (U := U.calling g mk a) (Vm.Alike.refl U.vm) q3⟩
def jXC : String → State → State → Prop := fun E st t => E = nSee ∧ st.heap.size ≤ t.heap.size ∧ ∀ q : Nat, q < st.heap.size → t.heap[q]? = st.heap[q]?
def xAt : List Cond := vx_at0 "TwoTowns" 330 nSee ["java/lang/RuntimeException", "java/lang/Exception"]
theorem ck_xat : (xAt.all fun c => lw_tbl.any (fun w => decide (w = c) && goodWord w) || jEw.any (fun w => decide (w = c))) = true := by decide +kernel
theorem ck_xot : ((Cond.classLink "TwoTowns" 328 nSee :: Cond.initialized nSee :: xAt).all vx_ot) = true := by decide +kernel
theorem ck_eot : jEw.all (fun w => w.onTables) = true := by decide +kernel
theorem xAt_ok {args : Array Value} {s : State} (ht2 : ∀ w ∈ jTbl, w.before args s = true) (hE : ∀ w ∈ jEw, va_Nw w s) : ∀ w ∈ xAt, w.before args s = true := by
  intro w hw
  have h1 := List.all_eq_true.mp ck_xat w hw
  rw [Bool.or_eq_true] at h1
  rcases h1 with h1 | h1
  · exact ht2 w (jTbl_any h1)
  · obtain ⟨v, hv1, hv2⟩ := List.any_eq_true.mp h1
    have e : v = w := of_decide_eq_true hv2
    subst e
    exact va_Nw.use (List.all_eq_true.mp ck_eot v hv1) (hE v hv1)
theorem rRstN {l : Launch} (hst : l.stackTraces = false) {z o : Nat} {b y g w : Int32} (hv : jRests b y g w = none) : vx_Met l yRst wRst rmX (jPcX z [.ref o, .int b, .int y, .int g, .int w]) (fun _ _ _ _ => False) jXC 1 6 (fun _ => False) := by
  refine vx_ofW (cc := prog_1_method_36_code) (maxL := 7) (ret := some .int) (by decide) rfl ?_
  intro p e s m args below meth c s₁ B hml htb hP
  obtain ⟨rfl, hU, hN, hE⟩ := hP
  have hx := B.exec
  have hb := B.bytes
  have hts := atoms_spec (ws := wRst) B.pre
  have ht2 := fun w (hw : w ∈ jTbl) => hts w (List.mem_cons_of_mem _ hw)
  have hown : s.vm.findClass "TwoTowns" = some m.cls := findClass_of_methodNamed B.named
  have hlocks := B.notSynchronized
  have hS : va_S (fun q => z ≤ q) s.heap s.heap [] := va_S.rf
  have hl := lv_entry ([.ref o, .int b, .int y, .int g, .int w]) (n := 7) (Nat.le_of_ble_eq_true rfl)
  rw [lg_entry_eq]
  generalize (lg_sl ([.ref o, .int b, .int y, .int g, .int w]) ++ List.replicate (7 - (lg_sl ([.ref o, .int b, .int y, .int g, .int w])).length) Slot.unset).toArray = ls at hl ⊢
  have hl : lv_has ls 7 [(0, .ref o), (1, .int b), (2, .int y), (3, .int g), (4, .int w)] := hl
  refine rWalk hx hb hml hown ht2 ⟨Nat.le_of_ble_eq_true rfl, Nat.le_of_ble_eq_true rfl⟩ ls hl (fun v2 pc ls2 h1 h2 => ?_) (fun _ pc ls2 h2 h3 => ?_)
  · rw [hv] at h1; cases h1
  · have hot := List.all_eq_true.mp ck_xot
    rcases h2 with rfl | rfl
    · exact vx_throw0 (pc := 27) (names := ["java/lang/RuntimeException", "java/lang/Exception"]) hx hb hst hown (by decide +kernel) (by decide +kernel) (ht2 _ (tAl_in (i := 12) rfl)) (ht2 _ (tAl_in (i := 13) rfl)) (xAt_ok ht2 hE) hot hU hN hS (h3.trans hml.symm) (by decide +kernel) (by decide +kernel) (by decide +kernel) (by decide +kernel) (fun x hq => (htb x hq).elim) (Nat.le_of_ble_eq_true rfl) (Nat.le_of_ble_eq_true rfl) (Nat.le_of_ble_eq_true rfl) (Nat.le_of_ble_eq_true rfl) hlocks (fun t _ k1 k2 => ⟨rfl, k1, k2⟩) (fun q hq => by cases hq) (Nat.le_refl _) (Nat.le_refl _)
    · exact vx_throw0 (pc := 83) (names := ["java/lang/RuntimeException", "java/lang/Exception"]) hx hb hst hown (by decide +kernel) (by decide +kernel) (ht2 _ (tAl_in (i := 12) rfl)) (ht2 _ (tAl_in (i := 13) rfl)) (xAt_ok ht2 hE) hot hU hN hS (h3.trans hml.symm) (by decide +kernel) (by decide +kernel) (by decide +kernel) (by decide +kernel) (fun x hq => (htb x hq).elim) (Nat.le_of_ble_eq_true rfl) (Nat.le_of_ble_eq_true rfl) (Nat.le_of_ble_eq_true rfl) (Nat.le_of_ble_eq_true rfl) hlocks (fun t _ k1 k2 => ⟨rfl, k1, k2⟩) (fun q hq => by cases hq) (Nat.le_refl _) (Nat.le_refl _)
