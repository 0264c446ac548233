/-! the three calls walked by hand: the JDK's texts -/
def yLen : MethodName := { cls := "java/lang/String", name := "length", desc := "()I" }
def yCod : MethodName := { cls := "java/lang/String", name := "coder", desc := "()B" }
def yChr : MethodName := { cls := "java/lang/String", name := "charAt", desc := "(I)C" }
def yLat : MethodName := { cls := "java/lang/String", name := "isLatin1", desc := "()Z" }
def yLch : MethodName := { cls := "java/lang/StringLatin1", name := "charAt", desc := "([BI)C" }
def yChk : MethodName := { cls := "java/lang/String", name := "checkIndex", desc := "(II)V" }
def yPre : MethodName := { cls := "jdk/internal/util/Preconditions", name := "checkIndex", desc := "(IILjava/util/function/BiFunction;)I" }
def wLen : List Cond := Cond.code yLen prog_22_method_54_code 1 (some .int) :: jTbl
def wCod : List Cond := Cond.code yCod prog_22_method_152_code 1 (some .byte) :: jTbl
def wChr : List Cond := Cond.code yChr prog_22_method_56_code 2 (some .char) :: jTbl
def wLat : List Cond := Cond.code yLat prog_22_method_154_code 1 (some .boolean) :: jTbl
def wLch : List Cond := Cond.code yLch prog_23_method_2_code 2 (some .char) :: jTbl
def wChk : List Cond := Cond.code yChk prog_22_method_155_code 2 none :: jTbl
def wPre : List Cond := Cond.code yPre prog_31_method_11_code 3 (some .int) :: jTbl
theorem ck_s1 : lw_tbl.any (fun w => decide (w = Cond.code yLen prog_22_method_54_code 1 (some .int)) && goodWord w) = true ∧ lw_tbl.any (fun w => decide (w = Cond.code yCod prog_22_method_152_code 1 (some .byte)) && goodWord w) = true ∧ lw_tbl.any (fun w => decide (w = Cond.code yChr prog_22_method_56_code 2 (some .char)) && goodWord w) = true ∧ lw_tbl.any (fun w => decide (w = Cond.code yLat prog_22_method_154_code 1 (some .boolean)) && goodWord w) = true := by decide +kernel
theorem ck_s2 : lw_tbl.any (fun w => decide (w = Cond.code yLch prog_23_method_2_code 2 (some .char)) && goodWord w) = true ∧ lw_tbl.any (fun w => decide (w = Cond.code yChk prog_22_method_155_code 2 none) && goodWord w) = true ∧ lw_tbl.any (fun w => decide (w = Cond.code yPre prog_31_method_11_code 3 (some .int)) && goodWord w) = true := by decide +kernel
def wAl : List Cond := [.fieldLink "java/lang/String" 9 "java/lang/String" "value" "[B", .fieldLink "java/lang/String" 15 "java/lang/String" "coder" "B", .fieldLink "java/lang/String" 38 "java/lang/String" "COMPACT_STRINGS" "Z", .methodLink "java/lang/String" 335 yCod, .instanceMethod yCod, .selects "java/lang/String" yCod yCod, .methodLink "java/lang/String" 492 yLat, .instanceMethod yLat, .selects "java/lang/String" yLat yLat, .methodLink "java/lang/String" 495 yLch, .static yLch, .methodLink "java/lang/StringLatin1" 9 yChk, .static yChk, .fieldLink "java/lang/String" 1053 "jdk/internal/util/Preconditions" "SIOOBE_FORMATTER" "Ljava/util/function/BiFunction;", .methodLink "java/lang/String" 1059 yPre, .static yPre, .initialized "java/lang/String", .initialized "java/lang/StringLatin1", .initialized "jdk/internal/util/Preconditions", .instanceMethod yLen, .selects "java/lang/String" yLen yLen, .instanceMethod yChr, .selects "java/lang/String" yChr yChr]
theorem ck_al : (wAl.all fun c => lw_tbl.any (fun w => decide (w = c) && goodWord w)) = true := by decide +kernel
theorem wAl_in {i : Nat} {c : Cond} (h : wAl[i]? = some c) : c ∈ jTbl := jTbl_any (List.all_eq_true.mp ck_al c (List.mem_of_getElem? h))
theorem gdIn {c : Cond} (h : c ∈ jTbl) : GoodIn jTbl (c :: jTbl) := by
  intro w hw
  have h1 : w ∈ jTbl := by
    rcases List.mem_cons.mp hw with rfl | h2
    · exact h
    · exact h2
  exact ⟨h1, good_of_word (List.mem_filter.mp h1).2⟩
def rmS (k : Nat) : Room := { frames := k, cells := 0, slots := 0, locals := 40 * k }
/-- the text and how texts are held -/
def jTxS (z : Nat) (ad : Nat → Nat) (U : State) (H : Heap) : Prop := vk_S 1 [67] [jTxt] (fun _ => ad 1001) (fun _ => ad 1003) (fun q => z ≤ q) U H ∧ va_Z "java/lang/String" "COMPACT_STRINGS" "Z" (.int 1) (fun q => z ≤ q) U H ∧ va_Zq "jdk/internal/util/Preconditions" "SIOOBE_FORMATTER" "Ljava/util/function/BiFunction;" (fun q => z ≤ q) U H
theorem jTxS.moved {z : Nat} {ad : Nat → Nat} {u U : State} {H : Heap} (hvm : u.vm.Alike U.vm) (h : jTxS z ad u H) : jTxS z ad U H := ⟨vk_S.moved hvm h.1, va_Z.moved hvm h.2.1, va_Zq.moved hvm h.2.2⟩
def jPcS (z : Nat) (ad : Nat → Nat) (as : List Value) : Array Value → State → Prop := va_Pc as (fun U => jTxS z ad U U.heap)
def jQr (r : Option Value) : Array Value → State → Outcome → State → Prop := fun _ st oc t => oc = .returned r ∧ t.heap = st.heap
theorem jPcS_blind {z : Nat} {ad : Nat → Nat} {as : List Value} : FrameBlind (jPcS z ad as) := by
  intro a U g mk q
  obtain ⟨q0, q1⟩ := q
  exact ⟨q0, jTxS.moved (u := U) (U := U.calling g mk a) (Vm.Alike.refl U.vm) q1⟩
section JTXT
variable {p : Program} {l : Launch} {e : Env} {R : Room} {s : State} {m : MethodId} {args : Array Value} {below : List Frame} {meth : Method} {c0 : Code} {H : Heap} {locs : List Loc} {Q : State → Prop} {cells slots pc : Nat} {lsC : Array Slot} {st0 rest : List Value} {a : Array Value} {r : Option Value}
theorem jRdW (hr : va_Run p l e R s m args below meth c0 H locs cells slots 0 0 (F0 m pc lsC st0) rest (jQr r a) (fun _ => False))
    (kk : W p l e R s m args below meth c0 H locs cells slots Q (F0 m (pc + 3) lsC (r.toList ++ rest))) : W p l e R s m args below meth c0 H locs cells slots Q (F0 m pc lsC st0) := by
  intro T hT X
  obtain ⟨v, st₀, t, T', L9, h0, X', hL, e1, e2, ⟨hv, hh⟩, st⟩ := hr T hT X
  cases hv
  have hT' : T'.heap = H := by rw [e1, hh, h0]
  have hL9 : L9 = [] := List.eq_nil_iff_forall_not_mem.mpr (fun q hq => hL q hq)
  subst hL9
  rw [List.append_nil] at X'
  obtain ⟨t2, a1, b1⟩ := kk T' hT' X'
  exact ⟨t2, st t2 a1, b1⟩
end JTXT
theorem sCoder {l : Launch} {z : Nat} {ad : Nat → Nat} : Met l yCod wCod (rmS 0) (jPcS z ad [.ref (ad 1001)]) (jQr (some (.int 0))) 0 0 (fun _ => False) := by
  refine Met.ofW (cc := prog_22_method_152_code) (maxL := 1) (ret := some .byte) (by decide) rfl ?_
  intro p e s m args below meth c s₁ B hml hv
  obtain ⟨rfl, hT, hZ, -⟩ := hv
  have hx := B.exec
  have hb := B.bytes
  have hr := B.returns
  have hts := atoms_spec (ws := wCod) B.pre
  have hown : s.vm.findClass "java/lang/String" = some m.cls := findClass_of_methodNamed B.named
  have hlocks := B.notSynchronized
  have hS : va_S (fun q => z ≤ q) s.heap s.heap [] := va_S.rf
  have hl := lv_entry ([.ref (ad 1001)]) (n := 1) (Nat.le_of_ble_eq_true rfl)
  rw [lg_entry_eq]
  generalize (lg_sl ([.ref (ad 1001)]) ++ List.replicate (1 - (lg_sl ([.ref (ad 1001)])).length) Slot.unset).toArray = ls at hl ⊢
  have hl : lv_has ls 1 [(0, .ref (ad 1001))] := hl
  refine va_gets hx hb hZ hS hown (hts _ (List.mem_cons_of_mem _ (wAl_in (i := 2) rfl))) (fun _ h9 => h9) (index := 38) (by decide +kernel) ?_
  refine lv_if_eq hx hb (off := 10) (tgt := 13) (by decide +kernel) rfl (fun h => absurd h (by decide)) (fun _ => ?_)
  refine lv_aload_n hx hb (k := 0) (by decide +kernel) rfl (lv_at hl 0 rfl) ?_
  refine vk_getf hx hb (hT.1 0 (by decide)).2.1 hS hown (hts _ (List.mem_cons_of_mem _ (wAl_in (i := 1) rfl))) (fun _ h9 => h9) (index := 15) (by decide +kernel) ?_
  refine lv_goto hx hb (off := 4) (tgt := 14) (by decide +kernel) rfl ?_
  exact W.zret hx hb hr rfl (fun t ht _ => ⟨rfl, ht⟩) (fun q hq => by cases hq) (by decide +kernel)
