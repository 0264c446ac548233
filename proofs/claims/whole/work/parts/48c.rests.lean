/-! SHOWING at rest: the class's readers, walked -/
def yDig : MethodName := { cls := "TwoTowns", name := "isDigit", desc := "(I)Z" }
def yAtR : MethodName := { cls := "TwoTowns", name := "isAtRest", desc := "(IIII)Z" }
def yCon : MethodName := { cls := "TwoTowns", name := "isContent", desc := "(ZZIII)Z" }
def yRst : MethodName := { cls := "TwoTowns", name := "rests", desc := "(IIII)I" }
def yLrs : MethodName := { cls := "TwoTownsLaw", name := "rests", desc := "(LTwoTowns;IIII[J)I" }
def nSee : String := "java/util/NoSuchElementException"
def wDig : List Cond := Cond.code yDig prog_1_method_45_code 1 (some .boolean) :: jTbl
def wAtR : List Cond := Cond.code yAtR prog_1_method_46_code 6 (some .boolean) :: jTbl
def wCon : List Cond := Cond.code yCon prog_1_method_47_code 7 (some .boolean) :: jTbl
def wRst : List Cond := Cond.code yRst prog_1_method_36_code 7 (some .int) :: jTbl
def wLrs : List Cond := Cond.codeWith yLrs method_3_code 7 (some .int) [(0, 14, 17, 13)] :: jTbl
theorem ck_t1 : lw_tbl.any (fun w => decide (w = Cond.code yDig prog_1_method_45_code 1 (some .boolean)) && goodWord w) = true ∧ lw_tbl.any (fun w => decide (w = Cond.code yAtR prog_1_method_46_code 6 (some .boolean)) && goodWord w) = true ∧ lw_tbl.any (fun w => decide (w = Cond.code yCon prog_1_method_47_code 7 (some .boolean)) && goodWord w) = true ∧ lw_tbl.any (fun w => decide (w = Cond.code yRst prog_1_method_36_code 7 (some .int)) && goodWord w) = true ∧ lw_tbl.any (fun w => decide (w = Cond.codeWith yLrs method_3_code 7 (some .int) [(0, 14, 17, 13)]) && goodWord w) = true := by decide +kernel
def tAl : List Cond := [.methodLink "TwoTowns" 325 yDig, .static yDig, .methodLink "TwoTowns" 331 yAtR, .static yAtR, .methodLink "TwoTowns" 369 yCon, .static yCon, .initialized "TwoTowns", .methodLink "TwoTownsLaw" 7 yRst, .instanceMethod yRst, .selects "TwoTowns" yRst yRst, .static yLrs, .initialized "TwoTownsLaw", .classLink "TwoTowns" 328 nSee, .initialized nSee, .classLink "TwoTownsLaw" 13 nSee]
theorem ck_tal : (tAl.all fun c => lw_tbl.any (fun w => decide (w = c) && goodWord w)) = true := by decide +kernel
theorem tAl_in {i : Nat} {c : Cond} (h : tAl[i]? = some c) : c ∈ jTbl := jTbl_any (List.all_eq_true.mp ck_tal c (List.mem_of_getElem? h))
def jPc0 (as : List Value) : Array Value → State → Prop := va_Pc as (fun _ => True)
theorem jPc0_blind {as : List Value} : FrameBlind (jPc0 as) := by
  intro a U g mk q
  exact ⟨q.1, trivial⟩
def dgB (n : Int32) : Int32 := if n < 0 then 0 else if 9 < n then 0 else 1
def cnB (a b x y w : Int32) : Int32 := if a = 0 then (if (if b = 0 then 0 else w) < (if b = 0 then -y else x) then 0 else 1) else (if (if b = 0 then -y else x) < (if b = 0 then 0 else w) then 0 else 1)
def ptB (c : Int32) : Int32 := if c = 1 then 1 else 0
def atB (c x y w : Int32) : Int32 := if cnB (ptB (c / 2)) (ptB (c - c / 2 * 2)) x y w = 0 then 0 else if cnB (ptB (c - c / 2 * 2)) (ptB (c / 2)) x y w = 0 then 0 else 1
theorem rDig {l : Launch} {n : Int32} : Met l yDig wDig (rmS 0) (jPc0 [.int n]) (jQr (some (.int (dgB n)))) 0 0 (fun _ => False) := by
  refine Met.ofW (cc := prog_1_method_45_code) (maxL := 1) (ret := some .boolean) (by decide) rfl ?_
  intro p e s m args below meth c s₁ B hml hv
  obtain ⟨rfl, -⟩ := hv
  have hx := B.exec
  have hb := B.bytes
  have hr := B.returns
  have hts := atoms_spec (ws := wDig) B.pre
  have ht2 := fun w (hw : w ∈ jTbl) => hts w (List.mem_cons_of_mem _ hw)
  have hown : s.vm.findClass "TwoTowns" = some m.cls := findClass_of_methodNamed B.named
  have hlocks := B.notSynchronized
  have hl := lv_entry ([.int n]) (n := 1) (Nat.le_of_ble_eq_true rfl)
  rw [lg_entry_eq]
  generalize (lg_sl ([.int n]) ++ List.replicate (1 - (lg_sl ([.int n])).length) Slot.unset).toArray = ls at hl ⊢
  have hl : lv_has ls 1 [(0, .int n)] := hl
  refine lv_iload_n hx hb (k := 0) (by decide +kernel) rfl (lv_at hl 0 rfl) ?_
  have h0 : dgB n = 0 → W p l e (headSpec wDig (rmS 0)).room s m #[.int n] below meth c s.heap [] 0 0 (MQ below (jQr (some (.int (dgB n)))) #[.int n] s 0 0 (fun _ => False)) (F0 m 14 ls []) := by
    intro hd
    rw [hd]
    refine lv_iconst hx hb (n := 0) (v := 0) (by decide +kernel) rfl ?_
    exact W.zret hx hb hr rfl (fun t ht _ => ⟨rfl, ht⟩) (fun q hq => by cases hq) (by decide +kernel)
  refine lv_if_lt hx hb (off := 13) (tgt := 14) (by decide +kernel) rfl (fun h => h0 (by unfold dgB; rw [if_pos h])) (fun h => ?_)
  refine lv_iload_n hx hb (k := 0) (by decide +kernel) rfl (lv_at hl 0 rfl) ?_
  refine lv_bipush hx hb (n := 9) (v := 9) (by decide +kernel) (by decide) ?_
  refine lv_icmp_gt hx hb (off := 7) (tgt := 14) (by decide +kernel) rfl (fun h2 => h0 (by unfold dgB; rw [if_neg h, if_pos h2])) (fun h2 => ?_)
  rw [show dgB n = 1 by unfold dgB; rw [if_neg h, if_neg h2]]
  refine lv_iconst hx hb (n := 1) (v := 1) (by decide +kernel) rfl ?_
  refine lv_goto hx hb (off := 4) (tgt := 15) (by decide +kernel) rfl ?_
  exact W.zret hx hb hr rfl (fun t ht _ => ⟨rfl, ht⟩) (fun q hq => by cases hq) (by decide +kernel)
theorem rCon {l : Launch} {a b x y w : Int32} : Met l yCon wCon (rmS 0) (jPc0 [.int a, .int b, .int x, .int y, .int w]) (jQr (some (.int (cnB a b x y w)))) 0 0 (fun _ => False) := by
  refine Met.ofW (cc := prog_1_method_47_code) (maxL := 7) (ret := some .boolean) (by decide) rfl ?_
  intro p e s m args below meth c s₁ B hml hv
  obtain ⟨rfl, -⟩ := hv
  have hx := B.exec
  have hb := B.bytes
  have hr := B.returns
  have hts := atoms_spec (ws := wCon) B.pre
  have ht2 := fun w (hw : w ∈ jTbl) => hts w (List.mem_cons_of_mem _ hw)
  have hown : s.vm.findClass "TwoTowns" = some m.cls := findClass_of_methodNamed B.named
  have hlocks := B.notSynchronized
  have hl := lv_entry ([.int a, .int b, .int x, .int y, .int w]) (n := 7) (Nat.le_of_ble_eq_true rfl)
  rw [lg_entry_eq]
  generalize (lg_sl ([.int a, .int b, .int x, .int y, .int w]) ++ List.replicate (7 - (lg_sl ([.int a, .int b, .int x, .int y, .int w])).length) Slot.unset).toArray = ls at hl ⊢
  have hl : lv_has ls 7 [(0, .int a), (1, .int b), (2, .int x), (3, .int y), (4, .int w)] := hl
  have hend : ∀ (X Y : Int32) (ls2 : Array Slot), lv_has ls2 7 [(6, .int Y), (5, .int X), (0, .int a), (1, .int b), (2, .int x), (3, .int y), (4, .int w)] → (if a = 0 then (if Y < X then (0 : Int32) else 1) else (if X < Y then 0 else 1)) = cnB a b x y w → W p l e (headSpec wCon (rmS 0)).room s m #[.int a, .int b, .int x, .int y, .int w] below meth c s.heap [] 0 0 (MQ below (jQr (some (.int (cnB a b x y w)))) #[.int a, .int b, .int x, .int y, .int w] s 0 0 (fun _ => False)) (F0 m 24 ls2 []) := by
    intro X Y ls2 hl2 hv
    rw [← hv]
    have hz : ∀ v : Int32, (v = 0 ∨ v = 1) → (if a = 0 then (if Y < X then (0 : Int32) else 1) else (if X < Y then 0 else 1)) = v → W p l e (headSpec wCon (rmS 0)).room s m #[.int a, .int b, .int x, .int y, .int w] below meth c s.heap [] 0 0 (MQ below (jQr (some (.int (if a = 0 then (if Y < X then (0 : Int32) else 1) else (if X < Y then 0 else 1))))) #[.int a, .int b, .int x, .int y, .int w] s 0 0 (fun _ => False)) (F0 m 55 ls2 [.int v]) := by
      intro v hv1 hv2
      rw [hv2]
      rcases hv1 with rfl | rfl
      · exact W.zret hx hb hr rfl (fun t ht _ => ⟨rfl, ht⟩) (fun q hq => by cases hq) (by decide +kernel)
      · exact W.zret hx hb hr rfl (fun t ht _ => ⟨rfl, ht⟩) (fun q hq => by cases hq) (by decide +kernel)
    refine lv_iload_n hx hb (k := 0) (by decide +kernel) rfl (lv_at hl2 2 rfl) ?_
    refine lv_if_eq hx hb (off := 18) (tgt := 43) (by decide +kernel) rfl (fun ha => ?_) (fun ha => ?_)
    · refine lv_iload hx hb (i := 6) (by decide +kernel) (lv_at hl2 0 rfl) ?_
      refine lv_iload hx hb (i := 5) (by decide +kernel) (lv_at hl2 1 rfl) ?_
      refine lv_icmp_lt hx hb (off := 7) (tgt := 54) (by decide +kernel) rfl (fun hc => ?_) (fun hc => ?_)
      · refine lv_iconst hx hb (n := 0) (v := 0) (by decide +kernel) rfl ?_
        exact hz 0 (Or.inl rfl) (by rw [if_pos ha, if_pos hc])
      · refine lv_iconst hx hb (n := 1) (v := 1) (by decide +kernel) rfl ?_
        refine lv_goto hx hb (off := 4) (tgt := 55) (by decide +kernel) rfl ?_
        exact hz 1 (Or.inr rfl) (by rw [if_pos ha, if_neg hc])
    · refine lv_iload hx hb (i := 5) (by decide +kernel) (lv_at hl2 1 rfl) ?_
      refine lv_iload hx hb (i := 6) (by decide +kernel) (lv_at hl2 0 rfl) ?_
      refine lv_icmp_lt hx hb (off := 7) (tgt := 39) (by decide +kernel) rfl (fun hc => ?_) (fun hc => ?_)
      · refine lv_iconst hx hb (n := 0) (v := 0) (by decide +kernel) rfl ?_
        refine lv_goto hx hb (off := 15) (tgt := 55) (by decide +kernel) rfl ?_
        exact hz 0 (Or.inl rfl) (by rw [if_neg ha, if_pos hc])
      · refine lv_iconst hx hb (n := 1) (v := 1) (by decide +kernel) rfl ?_
        refine lv_goto hx hb (off := 19) (tgt := 55) (by decide +kernel) rfl ?_
        exact hz 1 (Or.inr rfl) (by rw [if_neg ha, if_neg hc])
  refine lv_iload_n hx hb (k := 1) (by decide +kernel) rfl (lv_at hl 1 rfl) ?_
  refine lv_if_eq hx hb (off := 7) (tgt := 8) (by decide +kernel) rfl (fun h => ?_) (fun h => ?_)
  · refine lv_iload_n hx hb (k := 3) (by decide +kernel) rfl (lv_at hl 3 rfl) ?_
    refine lv_ineg hx hb (by decide +kernel) ?_
    refine lv_istore hx hb (i := 5) (by decide +kernel) hl (by decide) rfl (fun ls1 hl1 => ?_)
    refine lv_iload_n hx hb (k := 1) (by decide +kernel) rfl (lv_at hl1 2 rfl) ?_
    refine lv_if_eq hx hb (off := 8) (tgt := 21) (by decide +kernel) rfl (fun _ => ?_) (fun h2 => absurd h h2)
    refine lv_iconst hx hb (n := 0) (v := 0) (by decide +kernel) rfl ?_
    refine lv_istore hx hb (i := 6) (by decide +kernel) hl1 (by decide) rfl (fun ls2 hl2 => ?_)
    exact hend (-y) 0 ls2 hl2 (by unfold cnB; rw [if_pos h, if_pos h])
  · refine lv_iload_n hx hb (k := 2) (by decide +kernel) rfl (lv_at hl 2 rfl) ?_
    refine lv_goto hx hb (off := 5) (tgt := 10) (by decide +kernel) rfl ?_
    refine lv_istore hx hb (i := 5) (by decide +kernel) hl (by decide) rfl (fun ls1 hl1 => ?_)
    refine lv_iload_n hx hb (k := 1) (by decide +kernel) rfl (lv_at hl1 2 rfl) ?_
    refine lv_if_eq hx hb (off := 8) (tgt := 21) (by decide +kernel) rfl (fun h2 => absurd h2 h) (fun _ => ?_)
    refine lv_iload hx hb (i := 4) (by decide +kernel) (lv_at hl1 5 rfl) ?_
    refine lv_goto hx hb (off := 4) (tgt := 22) (by decide +kernel) rfl ?_
    refine lv_istore hx hb (i := 6) (by decide +kernel) hl1 (by decide) rfl (fun ls2 hl2 => ?_)
    exact hend x w ls2 hl2 (by unfold cnB; rw [if_neg h, if_neg h])
theorem rAtR {l : Launch} {c0 x y w : Int32} : Met l yAtR wAtR (rmS 1) (jPc0 [.int c0, .int x, .int y, .int w]) (jQr (some (.int (atB c0 x y w)))) 0 0 (fun _ => False) := by
  refine Met.ofW (cc := prog_1_method_46_code) (maxL := 6) (ret := some .boolean) (by decide) rfl ?_
  intro p e s m args below meth c s₁ B hml hv
  obtain ⟨rfl, -⟩ := hv
  have hx := B.exec
  have hb := B.bytes
  have hr := B.returns
  have hts := atoms_spec (ws := wAtR) B.pre
  have ht2 := fun w (hw : w ∈ jTbl) => hts w (List.mem_cons_of_mem _ hw)
  have hown : s.vm.findClass "TwoTowns" = some m.cls := findClass_of_methodNamed B.named
  have hlocks := B.notSynchronized
  have hl := lv_entry ([.int c0, .int x, .int y, .int w]) (n := 6) (Nat.le_of_ble_eq_true rfl)
  rw [lg_entry_eq]
  generalize (lg_sl ([.int c0, .int x, .int y, .int w]) ++ List.replicate (6 - (lg_sl ([.int c0, .int x, .int y, .int w])).length) Slot.unset).toArray = ls at hl ⊢
  have hl : lv_has ls 6 [(0, .int c0), (1, .int x), (2, .int y), (3, .int w)] := hl
  have hend : ∀ (a b : Int32) (ls2 : Array Slot), lv_has ls2 6 [(5, .int b), (4, .int a), (0, .int c0), (1, .int x), (2, .int y), (3, .int w)] → (if cnB a b x y w = 0 then (0 : Int32) else if cnB b a x y w = 0 then 0 else 1) = atB c0 x y w → W p l e (headSpec wAtR (rmS 1)).room s m #[.int c0, .int x, .int y, .int w] below meth c s.heap [] 0 0 (MQ below (jQr (some (.int (atB c0 x y w)))) #[.int c0, .int x, .int y, .int w] s 0 0 (fun _ => False)) (F0 m 28 ls2 []) := by
    intro a b ls2 hl2 hv
    rw [← hv]
    have h0 : (if cnB a b x y w = 0 then (0 : Int32) else if cnB b a x y w = 0 then 0 else 1) = 0 → W p l e (headSpec wAtR (rmS 1)).room s m #[.int c0, .int x, .int y, .int w] below meth c s.heap [] 0 0 (MQ below (jQr (some (.int (if cnB a b x y w = 0 then (0 : Int32) else if cnB b a x y w = 0 then 0 else 1)))) #[.int c0, .int x, .int y, .int w] s 0 0 (fun _ => False)) (F0 m 58 ls2 []) := by
      intro hd
      rw [hd]
      refine lv_iconst hx hb (n := 0) (v := 0) (by decide +kernel) rfl ?_
      exact W.zret hx hb hr rfl (fun t ht _ => ⟨rfl, ht⟩) (fun q hq => by cases hq) (by decide +kernel)
    refine lv_iload hx hb (i := 4) (by decide +kernel) (lv_at hl2 1 rfl) ?_
    refine lv_iload hx hb (i := 5) (by decide +kernel) (lv_at hl2 0 rfl) ?_
    refine lv_iload_n hx hb (k := 1) (by decide +kernel) rfl (lv_at hl2 3 rfl) ?_
    refine lv_iload_n hx hb (k := 2) (by decide +kernel) rfl (lv_at hl2 4 rfl) ?_
    refine lv_iload_n hx hb (k := 3) (by decide +kernel) rfl (lv_at hl2 5 rfl) ?_
    refine jRdW (va_runS (As := [.int a, .int b, .int x, .int y, .int w]) (rest := []) (n := 5) ⟨hx, hb, hml, hown, ht2⟩ (rCon (l := l) (a := a) (b := b) (x := x) (y := y) (w := w)) ⟨callB_of 5 ht2 (gdIn (jTbl_any ck_t1.2.2.1)) rfl rfl rfl (ht2 _ (tAl_in (i := 6) rfl)) (ht2 _ (tAl_in (i := 4) rfl)) ⟨by decide, by decide, by decide⟩ ⟨Nat.le_of_ble_eq_true rfl, Nat.le_of_ble_eq_true rfl⟩, ht2 _ (tAl_in (i := 5) rfl)⟩ ⟨jPc0_blind, fun U hU hW => ⟨rfl, trivial⟩⟩ rfl rfl hl2.1 rfl (lv_room (by decide)) (show decode prog_1_method_46_code 35 = .ok (.invokestatic 369, 3) by decide +kernel) ⟨Nat.le_refl _, Nat.le_refl _⟩) ?_
    refine lv_if_eq hx hb (off := 20) (tgt := 58) (by decide +kernel) rfl (fun h => h0 (by rw [if_pos h])) (fun h => ?_)
    refine lv_iload hx hb (i := 5) (by decide +kernel) (lv_at hl2 0 rfl) ?_
    refine lv_iload hx hb (i := 4) (by decide +kernel) (lv_at hl2 1 rfl) ?_
    refine lv_iload_n hx hb (k := 1) (by decide +kernel) rfl (lv_at hl2 3 rfl) ?_
    refine lv_iload_n hx hb (k := 2) (by decide +kernel) rfl (lv_at hl2 4 rfl) ?_
    refine lv_iload_n hx hb (k := 3) (by decide +kernel) rfl (lv_at hl2 5 rfl) ?_
    refine jRdW (va_runS (As := [.int b, .int a, .int x, .int y, .int w]) (rest := []) (n := 5) ⟨hx, hb, hml, hown, ht2⟩ (rCon (l := l) (a := b) (b := a) (x := x) (y := y) (w := w)) ⟨callB_of 5 ht2 (gdIn (jTbl_any ck_t1.2.2.1)) rfl rfl rfl (ht2 _ (tAl_in (i := 6) rfl)) (ht2 _ (tAl_in (i := 4) rfl)) ⟨by decide, by decide, by decide⟩ ⟨Nat.le_of_ble_eq_true rfl, Nat.le_of_ble_eq_true rfl⟩, ht2 _ (tAl_in (i := 5) rfl)⟩ ⟨jPc0_blind, fun U hU hW => ⟨rfl, trivial⟩⟩ rfl rfl hl2.1 rfl (lv_room (by decide)) (show decode prog_1_method_46_code 48 = .ok (.invokestatic 369, 3) by decide +kernel) ⟨Nat.le_refl _, Nat.le_refl _⟩) ?_
    refine lv_if_eq hx hb (off := 7) (tgt := 58) (by decide +kernel) rfl (fun h2 => h0 (by rw [if_neg h, if_pos h2])) (fun h2 => ?_)
    rw [show (if cnB a b x y w = 0 then (0 : Int32) else if cnB b a x y w = 0 then 0 else 1) = 1 by rw [if_neg h, if_neg h2]]
    refine lv_iconst hx hb (n := 1) (v := 1) (by decide +kernel) rfl ?_
    refine lv_goto hx hb (off := 4) (tgt := 59) (by decide +kernel) rfl ?_
    exact W.zret hx hb hr rfl (fun t ht _ => ⟨rfl, ht⟩) (fun q hq => by cases hq) (by decide +kernel)
  have hmid : ∀ (a : Int32) (ls1 : Array Slot), a = ptB (c0 / 2) → lv_has ls1 6 [(4, .int a), (0, .int c0), (1, .int x), (2, .int y), (3, .int w)] → W p l e (headSpec wAtR (rmS 1)).room s m #[.int c0, .int x, .int y, .int w] below meth c s.heap [] 0 0 (MQ below (jQr (some (.int (atB c0 x y w)))) #[.int c0, .int x, .int y, .int w] s 0 0 (fun _ => False)) (F0 m 14 ls1 []) := by
    intro a ls1 ha hl1
    refine lv_iload_n hx hb (k := 0) (by decide +kernel) rfl (lv_at hl1 1 rfl) ?_
    refine lv_iconst hx hb (n := 2) (v := 2) (by decide +kernel) rfl ?_
    refine lv_irem hx hb (by decide +kernel) (by decide) ?_
    refine lv_iconst hx hb (n := 1) (v := 1) (by decide +kernel) rfl ?_
    refine lv_icmp_ne hx hb (off := 7) (tgt := 25) (by decide +kernel) rfl (fun h => ?_) (fun h => ?_)
    · refine lv_iconst hx hb (n := 0) (v := 0) (by decide +kernel) rfl ?_
      refine lv_istore hx hb (i := 5) (by decide +kernel) hl1 (by decide) rfl (fun ls2 hl2 => ?_)
      exact hend a 0 ls2 hl2 (by unfold atB; rw [← ha, show ptB (c0 - c0 / 2 * 2) = 0 by unfold ptB; rw [if_neg h]])
    · refine lv_iconst hx hb (n := 1) (v := 1) (by decide +kernel) rfl ?_
      refine lv_goto hx hb (off := 4) (tgt := 26) (by decide +kernel) rfl ?_
      refine lv_istore hx hb (i := 5) (by decide +kernel) hl1 (by decide) rfl (fun ls2 hl2 => ?_)
      exact hend a 1 ls2 hl2 (by unfold atB; rw [← ha, show ptB (c0 - c0 / 2 * 2) = 1 by unfold ptB; rw [if_pos h]])
  refine lv_iload_n hx hb (k := 0) (by decide +kernel) rfl (lv_at hl 0 rfl) ?_
  refine lv_iconst hx hb (n := 2) (v := 2) (by decide +kernel) rfl ?_
  refine lv_idiv hx hb (by decide +kernel) (by decide) ?_
  refine lv_iconst hx hb (n := 1) (v := 1) (by decide +kernel) rfl ?_
  refine lv_icmp_ne hx hb (off := 7) (tgt := 11) (by decide +kernel) rfl (fun h => ?_) (fun h => ?_)
  · refine lv_iconst hx hb (n := 0) (v := 0) (by decide +kernel) rfl ?_
    refine lv_istore hx hb (i := 4) (by decide +kernel) hl (by decide) rfl (fun ls1 hl1 => ?_)
    exact hmid 0 ls1 (by unfold ptB; rw [if_neg h]) hl1
  · refine lv_iconst hx hb (n := 1) (v := 1) (by decide +kernel) rfl ?_
    refine lv_goto hx hb (off := 4) (tgt := 12) (by decide +kernel) rfl ?_
    refine lv_istore hx hb (i := 4) (by decide +kernel) hl (by decide) rfl (fun ls1 hl1 => ?_)
    exact hmid 1 ls1 (by unfold ptB; rw [if_pos h]) hl1
