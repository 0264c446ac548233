/-! length and charAt of the one text -/
theorem sLat {l : Launch} {z : Nat} {ad : Nat → Nat} : Met l yLat wLat (rmS 0) (jPcS z ad [.ref (ad 1001)]) (jQr (some (.int 1))) 0 0 (fun _ => False) := by
  refine Met.ofW (cc := prog_22_method_154_code) (maxL := 1) (ret := some .boolean) (by decide) rfl ?_
  intro p e s m args below meth c s₁ B hml hv
  obtain ⟨rfl, hT, hZ, hF⟩ := hv
  have hx := B.exec
  have hb := B.bytes
  have hr := B.returns
  have hts := atoms_spec (ws := wLat) B.pre
  have ht2 := fun w (hw : w ∈ jTbl) => hts w (List.mem_cons_of_mem _ hw)
  have hown : s.vm.findClass "java/lang/String" = some m.cls := findClass_of_methodNamed B.named
  have hlocks := B.notSynchronized
  have hS : va_S (fun q => z ≤ q) s.heap s.heap [] := va_S.rf
  have hl := lv_entry ([.ref (ad 1001)]) (n := 1) (Nat.le_of_ble_eq_true rfl)
  rw [lg_entry_eq]
  generalize (lg_sl ([.ref (ad 1001)]) ++ List.replicate (1 - (lg_sl ([.ref (ad 1001)])).length) Slot.unset).toArray = ls at hl ⊢
  have hl : lv_has ls 1 [(0, .ref (ad 1001))] := hl
  refine va_gets hx hb hZ hS hown (ht2 _ (wAl_in (i := 2) rfl)) (fun _ h9 => h9) (index := 38) (by decide +kernel) ?_
  refine lv_if_eq hx hb (off := 14) (tgt := 17) (by decide +kernel) rfl (fun h => absurd h (by decide)) (fun _ => ?_)
  refine lv_aload_n hx hb (k := 0) (by decide +kernel) rfl (lv_at hl 0 rfl) ?_
  refine vk_getf hx hb (hT.1 0 (by decide)).2.1 hS hown (ht2 _ (wAl_in (i := 1) rfl)) (fun _ h9 => h9) (index := 15) (by decide +kernel) ?_
  refine lv_if_ne hx hb (off := 7) (tgt := 17) (by decide +kernel) rfl (fun h => absurd rfl h) (fun _ => ?_)
  refine lv_iconst hx hb (n := 1) (v := 1) (by decide +kernel) rfl ?_
  refine lv_goto hx hb (off := 4) (tgt := 18) (by decide +kernel) rfl ?_
  exact W.zret hx hb hr rfl (fun t ht _ => ⟨rfl, ht⟩) (fun q hq => by cases hq) (by decide +kernel)
theorem sLen {l : Launch} {z : Nat} {ad : Nat → Nat} : Met l yLen wLen (rmS 1) (jPcS z ad [.ref (ad 1001)]) (jQr (some (.int 67))) 0 0 (fun _ => False) := by
  refine Met.ofW (cc := prog_22_method_54_code) (maxL := 1) (ret := some .int) (by decide) rfl ?_
  intro p e s m args below meth c s₁ B hml hv
  obtain ⟨rfl, hT, hZ, hF⟩ := hv
  have hx := B.exec
  have hb := B.bytes
  have hr := B.returns
  have hts := atoms_spec (ws := wLen) B.pre
  have ht2 := fun w (hw : w ∈ jTbl) => hts w (List.mem_cons_of_mem _ hw)
  have hown : s.vm.findClass "java/lang/String" = some m.cls := findClass_of_methodNamed B.named
  have hlocks := B.notSynchronized
  have hS : va_S (fun q => z ≤ q) s.heap s.heap [] := va_S.rf
  have hl := lv_entry ([.ref (ad 1001)]) (n := 1) (Nat.le_of_ble_eq_true rfl)
  rw [lg_entry_eq]
  generalize (lg_sl ([.ref (ad 1001)]) ++ List.replicate (1 - (lg_sl ([.ref (ad 1001)])).length) Slot.unset).toArray = ls at hl ⊢
  have hl : lv_has ls 1 [(0, .ref (ad 1001))] := hl
  have hJ : jTxS z ad s s.heap := ⟨hT, hZ, hF⟩
  refine lv_aload_n hx hb (k := 0) (by decide +kernel) rfl (lv_at hl 0 rfl) ?_
  refine vk_getf hx hb (hT.1 0 (by decide)).2.2.1 hS hown (ht2 _ (wAl_in (i := 0) rfl)) (fun _ h9 => h9) (index := 9) (by decide +kernel) ?_
  refine va_tlen hx hb (v := 67) (hT.1 0 (by decide)).2.2.2 hS (by decide) (by decide +kernel) ?_
  refine lv_aload_n hx hb (k := 0) (by decide +kernel) rfl (lv_at hl 0 rfl) ?_
  refine jRdW (va_runV (As := []) (b := ad 1001) (rest := [.int 67]) (n := 0) ⟨hx, hb, hml, hown, ht2⟩ (sCoder (z := z) (ad := ad)) ⟨callB_of 0 ht2 (gdIn (jTbl_any ck_s1.2.1)) rfl rfl rfl (ht2 _ (wAl_in (i := 16) rfl)) (ht2 _ (wAl_in (i := 3) rfl)) ⟨by decide, by decide, by decide⟩ ⟨Nat.le_of_ble_eq_true rfl, Nat.le_of_ble_eq_true rfl⟩, ht2 _ (wAl_in (i := 4) rfl), ht2 _ (wAl_in (i := 5) rfl)⟩ ⟨jPcS_blind, vk_recv (adK := fun _ => ad 1001) (i := 0) hT (by decide) hS, fun U hU hW => ⟨rfl, jTxS.moved hW.alike (by rw [hU]; exact hJ)⟩⟩ rfl rfl hl.1 rfl (lv_room (by decide)) (show decode prog_22_method_54_code 6 = .ok (.invokevirtual 335, 3) by decide +kernel) ⟨Nat.le_refl _, Nat.le_refl _⟩) ?_
  refine lv_ishr hx hb (x := 67) (y := 0) (by decide +kernel) ?_
  exact W.iret hx hb hr (fun t ht _ => ⟨congrArg (fun v => Outcome.returned (some (Value.int v))) (by decide), ht⟩) (fun q hq => by cases hq) (by decide +kernel)
theorem sPreN {l : Launch} {z : Nat} {ad : Nat → Nat} {i n : Int32} (h0 : ¬ i < 0) (h1 : i < n) : Met l yPre wPre (rmS 0) (jPcS z ad [.int i, .int n, .null]) (jQr (some (.int i))) 0 0 (fun _ => False) := by
  refine Met.ofW (cc := prog_31_method_11_code) (maxL := 3) (ret := some .int) (by decide) rfl ?_
  intro p e s m args below meth c s₁ B hml hv
  obtain ⟨rfl, hT, hZ, hF⟩ := hv
  have hx := B.exec
  have hb := B.bytes
  have hr := B.returns
  have hts := atoms_spec (ws := wPre) B.pre
  have ht2 := fun w (hw : w ∈ jTbl) => hts w (List.mem_cons_of_mem _ hw)
  have hown : s.vm.findClass "jdk/internal/util/Preconditions" = some m.cls := findClass_of_methodNamed B.named
  have hlocks := B.notSynchronized
  have hS : va_S (fun q => z ≤ q) s.heap s.heap [] := va_S.rf
  have hl := lv_entry ([.int i, .int n, .null]) (n := 3) (Nat.le_of_ble_eq_true rfl)
  rw [lg_entry_eq]
  generalize (lg_sl ([.int i, .int n, .null]) ++ List.replicate (3 - (lg_sl ([.int i, .int n, .null])).length) Slot.unset).toArray = ls at hl ⊢
  have hl : lv_has ls 3 [(0, .int i), (1, .int n), (2, .null)] := hl
  refine lv_iload_n hx hb (k := 0) (by decide +kernel) rfl (lv_at hl 0 rfl) ?_
  refine lv_if_lt hx hb (off := 8) (tgt := 9) (by decide +kernel) rfl (fun h => absurd h h0) (fun _ => ?_)
  refine lv_iload_n hx hb (k := 0) (by decide +kernel) rfl (lv_at hl 0 rfl) ?_
  refine lv_iload_n hx hb (k := 1) (by decide +kernel) rfl (lv_at hl 1 rfl) ?_
  refine lv_icmp_lt hx hb (off := 10) (tgt := 16) (by decide +kernel) rfl (fun _ => ?_) (fun h => absurd h1 h)
  refine lv_iload_n hx hb (k := 0) (by decide +kernel) rfl (lv_at hl 0 rfl) ?_
  exact W.iret hx hb hr (fun t ht _ => ⟨rfl, ht⟩) (fun q hq => by cases hq) (by decide +kernel)
theorem sPreR {l : Launch} {z : Nat} {ad : Nat → Nat} {i n : Int32} {t : Nat} (h0 : ¬ i < 0) (h1 : i < n) : Met l yPre wPre (rmS 0) (jPcS z ad [.int i, .int n, .ref t]) (jQr (some (.int i))) 0 0 (fun _ => False) := by
  refine Met.ofW (cc := prog_31_method_11_code) (maxL := 3) (ret := some .int) (by decide) rfl ?_
  intro p e s m args below meth c s₁ B hml hv
  obtain ⟨rfl, hT, hZ, hF⟩ := hv
  have hx := B.exec
  have hb := B.bytes
  have hr := B.returns
  have hts := atoms_spec (ws := wPre) B.pre
  have ht2 := fun w (hw : w ∈ jTbl) => hts w (List.mem_cons_of_mem _ hw)
  have hown : s.vm.findClass "jdk/internal/util/Preconditions" = some m.cls := findClass_of_methodNamed B.named
  have hlocks := B.notSynchronized
  have hS : va_S (fun q => z ≤ q) s.heap s.heap [] := va_S.rf
  have hl := lv_entry ([.int i, .int n, .ref t]) (n := 3) (Nat.le_of_ble_eq_true rfl)
  rw [lg_entry_eq]
  generalize (lg_sl ([.int i, .int n, .ref t]) ++ List.replicate (3 - (lg_sl ([.int i, .int n, .ref t])).length) Slot.unset).toArray = ls at hl ⊢
  have hl : lv_has ls 3 [(0, .int i), (1, .int n), (2, .ref t)] := hl
  refine lv_iload_n hx hb (k := 0) (by decide +kernel) rfl (lv_at hl 0 rfl) ?_
  refine lv_if_lt hx hb (off := 8) (tgt := 9) (by decide +kernel) rfl (fun h => absurd h h0) (fun _ => ?_)
  refine lv_iload_n hx hb (k := 0) (by decide +kernel) rfl (lv_at hl 0 rfl) ?_
  refine lv_iload_n hx hb (k := 1) (by decide +kernel) rfl (lv_at hl 1 rfl) ?_
  refine lv_icmp_lt hx hb (off := 10) (tgt := 16) (by decide +kernel) rfl (fun _ => ?_) (fun h => absurd h1 h)
  refine lv_iload_n hx hb (k := 0) (by decide +kernel) rfl (lv_at hl 0 rfl) ?_
  exact W.iret hx hb hr (fun t ht _ => ⟨rfl, ht⟩) (fun q hq => by cases hq) (by decide +kernel)
theorem sChk {l : Launch} {z : Nat} {ad : Nat → Nat} {i n : Int32} (h0 : ¬ i < 0) (h1 : i < n) : Met l yChk wChk (rmS 1) (jPcS z ad [.int i, .int n]) (jQr (none)) 0 0 (fun _ => False) := by
  refine Met.ofW (cc := prog_22_method_155_code) (maxL := 2) (ret := none) (by decide) rfl ?_
  intro p e s m args below meth c s₁ B hml hv
  obtain ⟨rfl, hT, hZ, hF⟩ := hv
  have hx := B.exec
  have hb := B.bytes
  have hr := B.returns
  have hts := atoms_spec (ws := wChk) B.pre
  have ht2 := fun w (hw : w ∈ jTbl) => hts w (List.mem_cons_of_mem _ hw)
  have hown : s.vm.findClass "java/lang/String" = some m.cls := findClass_of_methodNamed B.named
  have hlocks := B.notSynchronized
  have hS : va_S (fun q => z ≤ q) s.heap s.heap [] := va_S.rf
  have hl := lv_entry ([.int i, .int n]) (n := 2) (Nat.le_of_ble_eq_true rfl)
  rw [lg_entry_eq]
  generalize (lg_sl ([.int i, .int n]) ++ List.replicate (2 - (lg_sl ([.int i, .int n])).length) Slot.unset).toArray = ls at hl ⊢
  have hl : lv_has ls 2 [(0, .int i), (1, .int n)] := hl
  have hJ : jTxS z ad s s.heap := ⟨hT, hZ, hF⟩
  refine lv_iload_n hx hb (k := 0) (by decide +kernel) rfl (lv_at hl 0 rfl) ?_
  refine lv_iload_n hx hb (k := 1) (by decide +kernel) rfl (lv_at hl 1 rfl) ?_
  rcases hF with hF | ⟨t, hF⟩
  · refine va_gets hx hb hF hS hown (ht2 _ (wAl_in (i := 13) rfl)) (fun _ h9 => h9) (index := 1053) (by decide +kernel) ?_
    refine jRdW (va_runS (As := [.int i, .int n, .null]) (rest := []) (n := 3) ⟨hx, hb, hml, hown, ht2⟩ (sPreN (z := z) (ad := ad) h0 h1) ⟨callB_of 3 ht2 (gdIn (jTbl_any ck_s2.2.2)) rfl rfl rfl (ht2 _ (wAl_in (i := 18) rfl)) (ht2 _ (wAl_in (i := 14) rfl)) ⟨by decide, by decide, by decide⟩ ⟨Nat.le_of_ble_eq_true rfl, Nat.le_of_ble_eq_true rfl⟩, ht2 _ (wAl_in (i := 15) rfl)⟩ ⟨jPcS_blind, fun U hU hW => ⟨rfl, jTxS.moved hW.alike (by rw [hU]; exact hJ)⟩⟩ rfl rfl hl.1 rfl (lv_room (by decide)) (show decode prog_22_method_155_code 5 = .ok (.invokestatic 1059, 3) by decide +kernel) ⟨Nat.le_refl _, Nat.le_refl _⟩) ?_
    refine lv_pop hx hb (by decide +kernel) rfl ?_
    exact W.vret hx hb hr (fun t ht _ => ⟨rfl, ht⟩) (fun q hq => by cases hq) (by decide +kernel)
  · refine va_gets hx hb hF hS hown (ht2 _ (wAl_in (i := 13) rfl)) (fun _ h9 => h9) (index := 1053) (by decide +kernel) ?_
    refine jRdW (va_runS (As := [.int i, .int n, .ref t]) (rest := []) (n := 3) ⟨hx, hb, hml, hown, ht2⟩ (sPreR (z := z) (ad := ad) (t := t) h0 h1) ⟨callB_of 3 ht2 (gdIn (jTbl_any ck_s2.2.2)) rfl rfl rfl (ht2 _ (wAl_in (i := 18) rfl)) (ht2 _ (wAl_in (i := 14) rfl)) ⟨by decide, by decide, by decide⟩ ⟨Nat.le_of_ble_eq_true rfl, Nat.le_of_ble_eq_true rfl⟩, ht2 _ (wAl_in (i := 15) rfl)⟩ ⟨jPcS_blind, fun U hU hW => ⟨rfl, jTxS.moved hW.alike (by rw [hU]; exact hJ)⟩⟩ rfl rfl hl.1 rfl (lv_room (by decide)) (show decode prog_22_method_155_code 5 = .ok (.invokestatic 1059, 3) by decide +kernel) ⟨Nat.le_refl _, Nat.le_refl _⟩) ?_
    refine lv_pop hx hb (by decide +kernel) rfl ?_
    exact W.vret hx hb hr (fun t ht _ => ⟨rfl, ht⟩) (fun q hq => by cases hq) (by decide +kernel)
theorem jLt67 {j : Int32} (h : ¬ (j < 0 ∨ 67 ≤ j.toNatClampNeg)) : ¬ j < 0 ∧ j < 67 := by
  refine ⟨fun q => h (Or.inl q), ?_⟩
  have h2 : ¬ 67 ≤ j.toNatClampNeg := fun q => h (Or.inr q)
  have h3 : j.toNatClampNeg = j.toInt.toNat := rfl
  have h4 : (67 : Int32).toInt = 67 := by decide
  rw [Int32.lt_iff_toInt_lt]
  omega
theorem ck_chr : ∀ k, k < 67 → ((jTxt.getD k 0 &&& 255).toUInt32 % 65536).toInt32 = jTxt.getD k 0 ∧ narrow .char (.int (jTxt.getD k 0)) = .int (jTxt.getD k 0) := by decide +kernel
theorem sLch {l : Launch} {z : Nat} {ad : Nat → Nat} {j : Int32} (h0 : ¬ (j < 0 ∨ 67 ≤ j.toNatClampNeg)) : Met l yLch wLch (rmS 2) (jPcS z ad [.ref (ad 1003), .int j]) (jQr (some (.int (jTxt.getD j.toNatClampNeg 0)))) 0 0 (fun _ => False) := by
  refine Met.ofW (cc := prog_23_method_2_code) (maxL := 2) (ret := some .char) (by decide) rfl ?_
  intro p e s m args below meth c s₁ B hml hv
  obtain ⟨rfl, hT, hZ, hF⟩ := hv
  have hx := B.exec
  have hb := B.bytes
  have hr := B.returns
  have hts := atoms_spec (ws := wLch) B.pre
  have ht2 := fun w (hw : w ∈ jTbl) => hts w (List.mem_cons_of_mem _ hw)
  have hown : s.vm.findClass "java/lang/StringLatin1" = some m.cls := findClass_of_methodNamed B.named
  have hlocks := B.notSynchronized
  have hS : va_S (fun q => z ≤ q) s.heap s.heap [] := va_S.rf
  have hl := lv_entry ([.ref (ad 1003), .int j]) (n := 2) (Nat.le_of_ble_eq_true rfl)
  rw [lg_entry_eq]
  generalize (lg_sl ([.ref (ad 1003), .int j]) ++ List.replicate (2 - (lg_sl ([.ref (ad 1003), .int j])).length) Slot.unset).toArray = ls at hl ⊢
  have hl : lv_has ls 2 [(0, .ref (ad 1003)), (1, .int j)] := hl
  have hJ : jTxS z ad s s.heap := ⟨hT, hZ, hF⟩
  have hk : j.toNatClampNeg < 67 := Nat.not_le.mp (fun q => h0 (Or.inr q))
  refine lv_iload_n hx hb (k := 1) (by decide +kernel) rfl (lv_at hl 1 rfl) ?_
  refine lv_aload_n hx hb (k := 0) (by decide +kernel) rfl (lv_at hl 0 rfl) ?_
  refine va_tlen hx hb (v := 67) (hT.1 0 (by decide)).2.2.2 hS (by decide) (by decide +kernel) ?_
  refine jRdW (va_runS (As := [.int j, .int 67]) (rest := []) (n := 2) ⟨hx, hb, hml, hown, ht2⟩ (sChk (z := z) (ad := ad) (jLt67 h0).1 (jLt67 h0).2) ⟨callB_of 2 ht2 (gdIn (jTbl_any ck_s2.2.1)) rfl rfl rfl (ht2 _ (wAl_in (i := 16) rfl)) (ht2 _ (wAl_in (i := 11) rfl)) ⟨by decide, by decide, by decide⟩ ⟨Nat.le_of_ble_eq_true rfl, Nat.le_of_ble_eq_true rfl⟩, ht2 _ (wAl_in (i := 12) rfl)⟩ ⟨jPcS_blind, fun U hU hW => ⟨rfl, jTxS.moved hW.alike (by rw [hU]; exact hJ)⟩⟩ rfl rfl hl.1 rfl (lv_room (by decide)) (show decode prog_23_method_2_code 3 = .ok (.invokestatic 9, 3) by decide +kernel) ⟨Nat.le_refl _, Nat.le_refl _⟩) ?_
  refine lv_aload_n hx hb (k := 0) (by decide +kernel) rfl (lv_at hl 0 rfl) ?_
  refine lv_iload_n hx hb (k := 1) (by decide +kernel) rfl (lv_at hl 1 rfl) ?_
  refine va_tb hx hb (v := .int (jTxt.getD j.toNatClampNeg 0)) (hT.1 0 (by decide)).2.2.2 hS h0 rfl (by decide +kernel) ?_
  refine lv_sipush hx hb (n := 255) (v := 255) (by decide +kernel) (by decide) ?_
  refine lv_iand hx hb (by decide +kernel) ?_
  refine lv_i2c hx hb (by decide +kernel) (ck_chr _ hk).1 ?_
  exact W.zret hx hb hr (ck_chr _ hk).2 (fun t ht _ => ⟨rfl, ht⟩) (fun q hq => by cases hq) (by decide +kernel)
theorem sChr {l : Launch} {z : Nat} {ad : Nat → Nat} {j : Int32} (h0 : ¬ (j < 0 ∨ 67 ≤ j.toNatClampNeg)) : Met l yChr wChr (rmS 3) (jPcS z ad [.ref (ad 1001), .int j]) (jQr (some (.int (jTxt.getD j.toNatClampNeg 0)))) 0 0 (fun _ => False) := by
  refine Met.ofW (cc := prog_22_method_56_code) (maxL := 2) (ret := some .char) (by decide) rfl ?_
  intro p e s m args below meth c s₁ B hml hv
  obtain ⟨rfl, hT, hZ, hF⟩ := hv
  have hx := B.exec
  have hb := B.bytes
  have hr := B.returns
  have hts := atoms_spec (ws := wChr) B.pre
  have ht2 := fun w (hw : w ∈ jTbl) => hts w (List.mem_cons_of_mem _ hw)
  have hown : s.vm.findClass "java/lang/String" = some m.cls := findClass_of_methodNamed B.named
  have hlocks := B.notSynchronized
  have hS : va_S (fun q => z ≤ q) s.heap s.heap [] := va_S.rf
  have hl := lv_entry ([.ref (ad 1001), .int j]) (n := 2) (Nat.le_of_ble_eq_true rfl)
  rw [lg_entry_eq]
  generalize (lg_sl ([.ref (ad 1001), .int j]) ++ List.replicate (2 - (lg_sl ([.ref (ad 1001), .int j])).length) Slot.unset).toArray = ls at hl ⊢
  have hl : lv_has ls 2 [(0, .ref (ad 1001)), (1, .int j)] := hl
  have hJ : jTxS z ad s s.heap := ⟨hT, hZ, hF⟩
  have hk : j.toNatClampNeg < 67 := Nat.not_le.mp (fun q => h0 (Or.inr q))
  refine lv_aload_n hx hb (k := 0) (by decide +kernel) rfl (lv_at hl 0 rfl) ?_
  refine jRdW (va_runV (As := []) (b := ad 1001) (rest := []) (n := 0) ⟨hx, hb, hml, hown, ht2⟩ (sLat (z := z) (ad := ad)) ⟨callB_of 0 ht2 (gdIn (jTbl_any ck_s1.2.2.2)) rfl rfl rfl (ht2 _ (wAl_in (i := 16) rfl)) (ht2 _ (wAl_in (i := 6) rfl)) ⟨by decide, by decide, by decide⟩ ⟨Nat.le_of_ble_eq_true rfl, Nat.le_of_ble_eq_true rfl⟩, ht2 _ (wAl_in (i := 7) rfl), ht2 _ (wAl_in (i := 8) rfl)⟩ ⟨jPcS_blind, vk_recv (adK := fun _ => ad 1001) (i := 0) hT (by decide) hS, fun U hU hW => ⟨rfl, jTxS.moved hW.alike (by rw [hU]; exact hJ)⟩⟩ rfl rfl hl.1 rfl (lv_room (by decide)) (show decode prog_22_method_56_code 1 = .ok (.invokevirtual 492, 3) by decide +kernel) ⟨Nat.le_refl _, Nat.le_refl _⟩) ?_
  refine lv_if_eq hx hb (off := 12) (tgt := 16) (by decide +kernel) rfl (fun h => absurd h (by decide)) (fun _ => ?_)
  refine lv_aload_n hx hb (k := 0) (by decide +kernel) rfl (lv_at hl 0 rfl) ?_
  refine vk_getf hx hb (hT.1 0 (by decide)).2.2.1 hS hown (ht2 _ (wAl_in (i := 0) rfl)) (fun _ h9 => h9) (index := 9) (by decide +kernel) ?_
  refine lv_iload_n hx hb (k := 1) (by decide +kernel) rfl (lv_at hl 1 rfl) ?_
  refine jRdW (va_runS (As := [.ref (ad 1003), .int j]) (rest := []) (n := 2) ⟨hx, hb, hml, hown, ht2⟩ (sLch (z := z) (ad := ad) h0) ⟨callB_of 2 ht2 (gdIn (jTbl_any ck_s2.1)) rfl rfl rfl (ht2 _ (wAl_in (i := 17) rfl)) (ht2 _ (wAl_in (i := 9) rfl)) ⟨by decide, by decide, by decide⟩ ⟨Nat.le_of_ble_eq_true rfl, Nat.le_of_ble_eq_true rfl⟩, ht2 _ (wAl_in (i := 10) rfl)⟩ ⟨jPcS_blind, fun U hU hW => ⟨rfl, jTxS.moved hW.alike (by rw [hU]; exact hJ)⟩⟩ rfl rfl hl.1 rfl (lv_room (by decide)) (show decode prog_22_method_56_code 12 = .ok (.invokestatic 495, 3) by decide +kernel) ⟨Nat.le_refl _, Nat.le_refl _⟩) ?_
  exact W.zret hx hb hr (ck_chr _ hk).2 (fun t ht _ => ⟨rfl, ht⟩) (fun q hq => by cases hq) (by decide +kernel)
section JTXW
variable {p : Program} {l : Launch} {e : Env} {R : Room} {s : State} {m : MethodId} {args : Array Value} {below : List Frame} {meth : Method} {c0 : Code} {H : Heap} {locs : List Loc} {Q : State → Prop}
variable {M d z n0 e0 : Nat} {D : va_G} {cA : Nat → ClassId} {ad : Nat → Nat} {L : Nat} {xs : Nat → Int32} {pc a b c : Nat} {ls st ls' st' : List Value} {h h' : jM} {lsC : Array Slot}
theorem jTxS_of {U : State} (hSt : jSt z ad L xs s s.heap) (hz : z ≤ s.heap.size) (hq : ∀ a : Nat, a < s.heap.size → ¬ z ≤ a → H[a]? = s.heap[a]?) (hU : U.heap = H) (hW : s.WarmedH U.vm) : jTxS z ad U U.heap := by
  have h1 := jSt_mv hSt hz hq hW
  rw [hU]
  exact ⟨h1.2.2.2.1, h1.2.2.2.2.1.1, h1.2.2.2.2.1.2.1⟩
theorem ow_len (C : jCx M d z D cA ad L xs p R s m args meth c0) {n : Nat} (hdc : decode (jBy M) pc = .ok (.invokevirtual n, 3)) (hw : Cond.methodLink (jOwnS (jOn M)) n (jYb 1002) ∈ jTbl) (hop : jOp (.invokevirtual n) 1002 b c ls st h = some (ls', st', h')) : jStepW p l e R s m args below meth c0 M z n0 e0 D cA ad L xs Q pc 3 ls st h ls' st' h' := by
  obtain ⟨hx, hb, hml, hown, hts, hnm, hK, hSt, had, hfr, hlo, hz⟩ := C
  intro lsC H locs hll hl hA hcc hcs kk
  simp only [jOp] at hop
  split at hop
  · split at hop
    · rename_i o r ho
      cases hop
      have ho1 := ho.1
      subst ho1
      simp only [List.map_cons, jV] at kk ⊢
      exact jRdW (r := some (.int 67)) (va_runV (As := []) (b := ad 1001) (rest := r.map (jV ad)) (n := 0) ⟨hx, hb, hml, hown, hts⟩ (sLen (z := z) (ad := ad)) ⟨callB_of 0 hts (gdIn (jTbl_any ck_s1.1)) rfl rfl rfl (hts _ (wAl_in (i := 16) rfl)) (hts _ hw) ⟨by decide, by decide, by decide⟩ ⟨by simp only [rmS]; omega, by simp only [rmS]; omega⟩, hts _ (wAl_in (i := 19) rfl), hts _ (wAl_in (i := 20) rfl)⟩ ⟨jPcS_blind, vk_recv (adK := fun _ => ad 1001) (i := 0) hSt.2.2.2.1 (by decide) hA.2.1, fun U hU hW => ⟨rfl, jTxS_of hSt hz hA.2.1.2.1 hU hW⟩⟩ rfl rfl (hl.1.trans hll) rfl (lv_room (by rw [jSum_map]; exact ho.2)) hdc ⟨hcc, hcs⟩) (kk _ _ _ hll hl hA)
    · cases hop
  · cases hop
theorem ow_chr (C : jCx M d z D cA ad L xs p R s m args meth c0) {n : Nat} (hdc : decode (jBy M) pc = .ok (.invokevirtual n, 3)) (hw : Cond.methodLink (jOwnS (jOn M)) n (jYb 1003) ∈ jTbl) (hop : jOp (.invokevirtual n) 1003 b c ls st h = some (ls', st', h')) : jStepW p l e R s m args below meth c0 M z n0 e0 D cA ad L xs Q pc 3 ls st h ls' st' h' := by
  obtain ⟨hx, hb, hml, hown, hts, hnm, hK, hSt, had, hfr, hlo, hz⟩ := C
  intro lsC H locs hll hl hA hcc hcs kk
  simp only [jOp] at hop
  split at hop
  · split at hop
    · rename_i j o r ho
      cases hop
      have ho1 := ho.1.1
      subst ho1
      simp only [List.map_cons, jV] at kk ⊢
      exact jRdW (r := some (.int (jTxt.getD j.toNatClampNeg 0))) (va_runV (As := [.int j]) (b := ad 1001) (rest := r.map (jV ad)) (n := 1) ⟨hx, hb, hml, hown, hts⟩ (sChr (z := z) (ad := ad) ho.1.2) ⟨callB_of 1 hts (gdIn (jTbl_any ck_s1.2.2.1)) rfl rfl rfl (hts _ (wAl_in (i := 16) rfl)) (hts _ hw) ⟨by decide, by decide, by decide⟩ ⟨by simp only [rmS]; omega, by simp only [rmS]; omega⟩, hts _ (wAl_in (i := 21) rfl), hts _ (wAl_in (i := 22) rfl)⟩ ⟨jPcS_blind, vk_recv (adK := fun _ => ad 1001) (i := 0) hSt.2.2.2.1 (by decide) hA.2.1, fun U hU hW => ⟨rfl, jTxS_of hSt hz hA.2.1.2.1 hU hW⟩⟩ rfl rfl (hl.1.trans hll) rfl (lv_room (by rw [jSum_map]; exact ho.2)) hdc ⟨hcc, hcs⟩) (kk _ _ _ hll hl hA)
    · cases hop
  · cases hop
end JTXW
