/-! all of it: every method of ours is as the bytes and the tables have it -/
theorem ck_r0 : ((List.range 26).map (· + 0)).all (fun m => (jMth m).1.all (jRtOk m)) = true := by decide +kernel
theorem ck_r1 : ((List.range 26).map (· + 26)).all (fun m => (jMth m).1.all (jRtOk m)) = true := by decide +kernel
theorem ck_r2 : ((List.range 26).map (· + 52)).all (fun m => (jMth m).1.all (jRtOk m)) = true := by decide +kernel
theorem ck_r3 : ((List.range 26).map (· + 78)).all (fun m => (jMth m).1.all (jRtOk m)) = true := by decide +kernel
theorem ck_r4 : ((List.range 26).map (· + 104)).all (fun m => (jMth m).1.all (jRtOk m)) = true := by decide +kernel
theorem ck_r5 : ((List.range 26).map (· + 130)).all (fun m => (jMth m).1.all (jRtOk m)) = true := by decide +kernel
theorem ck_r6 : ((List.range 26).map (· + 156)).all (fun m => (jMth m).1.all (jRtOk m)) = true := by decide +kernel
theorem ck_r7 : ((List.range 26).map (· + 182)).all (fun m => (jMth m).1.all (jRtOk m)) = true := by decide +kernel
theorem ck_r8 : ((List.range 26).map (· + 208)).all (fun m => (jMth m).1.all (jRtOk m)) = true := by decide +kernel
theorem ck_r9 : ((List.range 26).map (· + 234)).all (fun m => (jMth m).1.all (jRtOk m)) = true := by decide +kernel
theorem ck_r10 : ((List.range 26).map (· + 260)).all (fun m => (jMth m).1.all (jRtOk m)) = true := by decide +kernel
theorem ck_in {k w m : Nat} {f : Nat → Bool} (h : ((List.range w).map (· + k)).all f = true) (h1 : k ≤ m) (h2 : m < k + w) : f m = true :=
  List.all_eq_true.mp h m (List.mem_map.mpr ⟨m - k, List.mem_range.mpr (by omega), by omega⟩)
theorem ck_ch {α : Type} (l : List α) (f : α → Bool) (N : Nat) (h : ∀ k, k < N → ((l.drop (40 * k)).take 40).all f = true) (hl : l.length ≤ 40 * N) : ∀ x ∈ l, f x = true := by
  intro x hx
  obtain ⟨i, hi, rfl⟩ := List.getElem_of_mem hx
  refine List.all_eq_true.mp (h (i / 40) (by omega)) _ ?_
  rw [List.mem_iff_getElem?]
  refine ⟨i % 40, ?_⟩
  rw [List.getElem?_take, if_pos (Nat.mod_lt _ (by decide)), List.getElem?_drop, show 40 * (i / 40) + i % 40 = i from Nat.div_add_mod i 40]
  exact List.getElem?_eq_getElem hi
theorem jMok_all {m : Nat} (hm : m < 286) : jMok m = true := by
  rcases Nat.lt_or_ge m 24 with q24 | q24
  · exact ck_in ck_m0 (by omega) (by omega)
  rcases Nat.lt_or_ge m 48 with q48 | q48
  · exact ck_in ck_m1 (by omega) (by omega)
  rcases Nat.lt_or_ge m 72 with q72 | q72
  · exact ck_in ck_m2 (by omega) (by omega)
  rcases Nat.lt_or_ge m 96 with q96 | q96
  · exact ck_in ck_m3 (by omega) (by omega)
  rcases Nat.lt_or_ge m 120 with q120 | q120
  · exact ck_in ck_m4 (by omega) (by omega)
  rcases Nat.lt_or_ge m 144 with q144 | q144
  · exact ck_in ck_m5 (by omega) (by omega)
  rcases Nat.lt_or_ge m 168 with q168 | q168
  · exact ck_in ck_m6 (by omega) (by omega)
  rcases Nat.lt_or_ge m 192 with q192 | q192
  · exact ck_in ck_m7 (by omega) (by omega)
  rcases Nat.lt_or_ge m 216 with q216 | q216
  · exact ck_in ck_m8 (by omega) (by omega)
  rcases Nat.lt_or_ge m 240 with q240 | q240
  · exact ck_in ck_m9 (by omega) (by omega)
  rcases Nat.lt_or_ge m 264 with q264 | q264
  · exact ck_in ck_m10 (by omega) (by omega)
  rcases Nat.lt_or_ge m 286 with q286 | q286
  · exact ck_in ck_m11 (by omega) (by omega)
  · exact absurd hm (by omega)

theorem jRt_all {m : Nat} (hm : m < 286) : (jMth m).1.all (jRtOk m) = true := by
  rcases Nat.lt_or_ge m 26 with q26 | q26
  · exact ck_in (f := fun m => (jMth m).1.all (jRtOk m)) ck_r0 (by omega) (by omega)
  rcases Nat.lt_or_ge m 52 with q52 | q52
  · exact ck_in (f := fun m => (jMth m).1.all (jRtOk m)) ck_r1 (by omega) (by omega)
  rcases Nat.lt_or_ge m 78 with q78 | q78
  · exact ck_in (f := fun m => (jMth m).1.all (jRtOk m)) ck_r2 (by omega) (by omega)
  rcases Nat.lt_or_ge m 104 with q104 | q104
  · exact ck_in (f := fun m => (jMth m).1.all (jRtOk m)) ck_r3 (by omega) (by omega)
  rcases Nat.lt_or_ge m 130 with q130 | q130
  · exact ck_in (f := fun m => (jMth m).1.all (jRtOk m)) ck_r4 (by omega) (by omega)
  rcases Nat.lt_or_ge m 156 with q156 | q156
  · exact ck_in (f := fun m => (jMth m).1.all (jRtOk m)) ck_r5 (by omega) (by omega)
  rcases Nat.lt_or_ge m 182 with q182 | q182
  · exact ck_in (f := fun m => (jMth m).1.all (jRtOk m)) ck_r6 (by omega) (by omega)
  rcases Nat.lt_or_ge m 208 with q208 | q208
  · exact ck_in (f := fun m => (jMth m).1.all (jRtOk m)) ck_r7 (by omega) (by omega)
  rcases Nat.lt_or_ge m 234 with q234 | q234
  · exact ck_in (f := fun m => (jMth m).1.all (jRtOk m)) ck_r8 (by omega) (by omega)
  rcases Nat.lt_or_ge m 260 with q260 | q260
  · exact ck_in (f := fun m => (jMth m).1.all (jRtOk m)) ck_r9 (by omega) (by omega)
  rcases Nat.lt_or_ge m 286 with q286 | q286
  · exact ck_in (f := fun m => (jMth m).1.all (jRtOk m)) ck_r10 (by omega) (by omega)
  · exact absurd hm (by omega)

theorem jChk_all {m : Nat} (hm : m < 286) (hl : m ≠ jLaw) : jChk m = true := by
  rcases Nat.lt_or_ge m 5 with q5 | q5
  · exact ck_in ck_c0 (by omega) (by omega)
  rcases Nat.lt_or_ge m 9 with q9 | q9
  · exact ck_in ck_c1 (by omega) (by omega)
  rcases Nat.lt_or_ge m 11 with q11 | q11
  · exact ck_in ck_c2 (by omega) (by omega)
  rcases Nat.lt_or_ge m 16 with q16 | q16
  · exact ck_in ck_c3 (by omega) (by omega)
  rcases Nat.lt_or_ge m 19 with q19 | q19
  · exact ck_in ck_c4 (by omega) (by omega)
  rcases Nat.lt_or_ge m 23 with q23 | q23
  · exact ck_in ck_c5 (by omega) (by omega)
  rcases Nat.lt_or_ge m 27 with q27 | q27
  · exact ck_in ck_c6 (by omega) (by omega)
  rcases Nat.lt_or_ge m 32 with q32 | q32
  · exact ck_in ck_c7 (by omega) (by omega)
  rcases Nat.lt_or_ge m 35 with q35 | q35
  · exact ck_in ck_c8 (by omega) (by omega)
  rcases Nat.lt_or_ge m 38 with q38 | q38
  · exact ck_in ck_c9 (by omega) (by omega)
  rcases Nat.lt_or_ge m 41 with q41 | q41
  · exact ck_in ck_c10 (by omega) (by omega)
  rcases Nat.lt_or_ge m 45 with q45 | q45
  · exact ck_in ck_c11 (by omega) (by omega)
  rcases Nat.lt_or_ge m 48 with q48 | q48
  · exact ck_in ck_c12 (by omega) (by omega)
  rcases Nat.lt_or_ge m 49 with q49 | q49
  · exact ck_in ck_c13 (by omega) (by omega)
  rcases Nat.lt_or_ge m 53 with q53 | q53
  · exact ck_in ck_c14 (by omega) (by omega)
  rcases Nat.lt_or_ge m 57 with q57 | q57
  · exact ck_in ck_c15 (by omega) (by omega)
  rcases Nat.lt_or_ge m 60 with q60 | q60
  · exact ck_in ck_c16 (by omega) (by omega)
  rcases Nat.lt_or_ge m 63 with q63 | q63
  · exact ck_in ck_c17 (by omega) (by omega)
  rcases Nat.lt_or_ge m 66 with q66 | q66
  · exact ck_in ck_c18 (by omega) (by omega)
  rcases Nat.lt_or_ge m 71 with q71 | q71
  · exact ck_in ck_c19 (by omega) (by omega)
  rcases Nat.lt_or_ge m 78 with q78 | q78
  · exact ck_in ck_c20 (by omega) (by omega)
  rcases Nat.lt_or_ge m 83 with q83 | q83
  · exact ck_in ck_c21 (by omega) (by omega)
  rcases Nat.lt_or_ge m 85 with q85 | q85
  · exact ck_in ck_c22 (by omega) (by omega)
  rcases Nat.lt_or_ge m 87 with q87 | q87
  · exact ck_in ck_c23 (by omega) (by omega)
  rcases Nat.lt_or_ge m 95 with q95 | q95
  · exact ck_in ck_c24 (by omega) (by omega)
  rcases Nat.lt_or_ge m 105 with q105 | q105
  · exact ck_in ck_c25 (by omega) (by omega)
  rcases Nat.lt_or_ge m 108 with q108 | q108
  · exact ck_in ck_c26 (by omega) (by omega)
  rcases Nat.lt_or_ge m 112 with q112 | q112
  · exact ck_in ck_c27 (by omega) (by omega)
  rcases Nat.lt_or_ge m 117 with q117 | q117
  · exact ck_in ck_c28 (by omega) (by omega)
  rcases Nat.lt_or_ge m 120 with q120 | q120
  · exact ck_in ck_c29 (by omega) (by omega)
  rcases Nat.lt_or_ge m 124 with q124 | q124
  · exact ck_in ck_c30 (by omega) (by omega)
  rcases Nat.lt_or_ge m 127 with q127 | q127
  · exact ck_in ck_c31 (by omega) (by omega)
  rcases Nat.lt_or_ge m 130 with q130 | q130
  · exact ck_in ck_c32 (by omega) (by omega)
  rcases Nat.lt_or_ge m 133 with q133 | q133
  · exact ck_in ck_c33 (by omega) (by omega)
  rcases Nat.lt_or_ge m 139 with q139 | q139
  · exact ck_in ck_c34 (by omega) (by omega)
  rcases Nat.lt_or_ge m 144 with q144 | q144
  · exact ck_in ck_c35 (by omega) (by omega)
  rcases Nat.lt_or_ge m 152 with q152 | q152
  · exact ck_in ck_c36 (by omega) (by omega)
  rcases Nat.lt_or_ge m 157 with q157 | q157
  · exact ck_in ck_c37 (by omega) (by omega)
  rcases Nat.lt_or_ge m 160 with q160 | q160
  · exact ck_in ck_c38 (by omega) (by omega)
  rcases Nat.lt_or_ge m 168 with q168 | q168
  · exact ck_in ck_c39 (by omega) (by omega)
  rcases Nat.lt_or_ge m 173 with q173 | q173
  · exact ck_in ck_c40 (by omega) (by omega)
  rcases Nat.lt_or_ge m 174 with q174 | q174
  · exact ck_in ck_c41 (by omega) (by omega)
  rcases Nat.lt_or_ge m 178 with q178 | q178
  · exact ck_in ck_c42 (by omega) (by omega)
  rcases Nat.lt_or_ge m 179 with q179 | q179
  · exact ck_in ck_c43 (by omega) (by omega)
  rcases Nat.lt_or_ge m 188 with q188 | q188
  · exact ck_in ck_c44 (by omega) (by omega)
  rcases Nat.lt_or_ge m 192 with q192 | q192
  · exact ck_in ck_c45 (by omega) (by omega)
  rcases Nat.lt_or_ge m 193 with q193 | q193
  · exact ck_in ck_c46 (by omega) (by omega)
  rcases Nat.lt_or_ge m 194 with q194 | q194
  · exact ck_in ck_c47 (by omega) (by omega)
  rcases Nat.lt_or_ge m 195 with q195 | q195
  · exact ck_in ck_c48 (by omega) (by omega)
  rcases Nat.lt_or_ge m 196 with q196 | q196
  · exact ck_in ck_c49 (by omega) (by omega)
  rcases Nat.lt_or_ge m 197 with q197 | q197
  · exact ck_in ck_c50 (by omega) (by omega)
  rcases Nat.lt_or_ge m 199 with q199 | q199
  · exact ck_in ck_c51 (by omega) (by omega)
  rcases Nat.lt_or_ge m 200 with q200 | q200
  · exact ck_in ck_c52 (by omega) (by omega)
  rcases Nat.lt_or_ge m 203 with q203 | q203
  · exact ck_in ck_c53 (by omega) (by omega)
  rcases Nat.lt_or_ge m 205 with q205 | q205
  · exact ck_in ck_c54 (by omega) (by omega)
  rcases Nat.lt_or_ge m 209 with q209 | q209
  · exact ck_in ck_c55 (by omega) (by omega)
  rcases Nat.lt_or_ge m 214 with q214 | q214
  · exact ck_in ck_c56 (by omega) (by omega)
  rcases Nat.lt_or_ge m 218 with q218 | q218
  · exact ck_in ck_c57 (by omega) (by omega)
  rcases Nat.lt_or_ge m 223 with q223 | q223
  · exact ck_in ck_c58 (by omega) (by omega)
  rcases Nat.lt_or_ge m 226 with q226 | q226
  · exact ck_in ck_c59 (by omega) (by omega)
  rcases Nat.lt_or_ge m 227 with q227 | q227
  · exact ck_in ck_c60 (by omega) (by omega)
  rcases Nat.lt_or_ge m 229 with q229 | q229
  · exact ck_in ck_c61 (by omega) (by omega)
  rcases Nat.lt_or_ge m 234 with q234 | q234
  · exact ck_in ck_c62 (by omega) (by omega)
  rcases Nat.lt_or_ge m 238 with q238 | q238
  · exact ck_in ck_c63 (by omega) (by omega)
  rcases Nat.lt_or_ge m 239 with q239 | q239
  · exact ck_in ck_c64 (by omega) (by omega)
  rcases Nat.lt_or_ge m 241 with q241 | q241
  · exact ck_in ck_c65 (by omega) (by omega)
  rcases Nat.lt_or_ge m 243 with q243 | q243
  · exact ck_in ck_c66 (by omega) (by omega)
  rcases Nat.lt_or_ge m 245 with q245 | q245
  · exact ck_in ck_c67 (by omega) (by omega)
  rcases Nat.lt_or_ge m 247 with q247 | q247
  · exact ck_in ck_c68 (by omega) (by omega)
  rcases Nat.lt_or_ge m 250 with q250 | q250
  · exact ck_in ck_c69 (by omega) (by omega)
  rcases Nat.lt_or_ge m 251 with q251 | q251
  · exact ck_in ck_c70 (by omega) (by omega)
  rcases Nat.lt_or_ge m 255 with q255 | q255
  · exact ck_in ck_c71 (by omega) (by omega)
  rcases Nat.lt_or_ge m 257 with q257 | q257
  · exact ck_in ck_c72 (by omega) (by omega)
  rcases Nat.lt_or_ge m 261 with q261 | q261
  · exact ck_in ck_c73 (by omega) (by omega)
  rcases Nat.lt_or_ge m 264 with q264 | q264
  · exact ck_in ck_c74 (by omega) (by omega)
  rcases Nat.lt_or_ge m 267 with q267 | q267
  · exact ck_in ck_c75 (by omega) (by omega)
  rcases Nat.lt_or_ge m 272 with q272 | q272
  · exact ck_in ck_c76 (by omega) (by omega)
  rcases Nat.lt_or_ge m 275 with q275 | q275
  · exact ck_in ck_c77 (by omega) (by omega)
  rcases Nat.lt_or_ge m 277 with q277 | q277
  · exact ck_in ck_c78 (by omega) (by omega)
  rcases Nat.lt_or_ge m 280 with q280 | q280
  · exact ck_in ck_c79 (by omega) (by omega)
  rcases Nat.lt_or_ge m 282 with q282 | q282
  · exact ck_in ck_c80 (by omega) (by omega)
  rcases Nat.lt_or_ge m 283 with q283 | q283
  · exact absurd (show m = jLaw by show m = 282; omega) hl
  rcases Nat.lt_or_ge m 286 with q286 | q286
  · exact ck_in ck_c81 (by omega) (by omega)
  · exact absurd hm (by omega)

theorem jLaw_all : ∀ x ∈ (jMth jLaw).1, (jLkOk jLaw x && jDcOk jLaw x) = true := by
  refine ck_ch _ (fun x => jLkOk jLaw x && jDcOk jLaw x) 23 (fun k hk => ?_) (by decide +kernel)
  match k, hk with
  | 0, _ => exact ck_l0
  | 1, _ => exact ck_l1
  | 2, _ => exact ck_l2
  | 3, _ => exact ck_l3
  | 4, _ => exact ck_l4
  | 5, _ => exact ck_l5
  | 6, _ => exact ck_l6
  | 7, _ => exact ck_l7
  | 8, _ => exact ck_l8
  | 9, _ => exact ck_l9
  | 10, _ => exact ck_l10
  | 11, _ => exact ck_l11
  | 12, _ => exact ck_l12
  | 13, _ => exact ck_l13
  | 14, _ => exact ck_l14
  | 15, _ => exact ck_l15
  | 16, _ => exact ck_l16
  | 17, _ => exact ck_l17
  | 18, _ => exact ck_l18
  | 19, _ => exact ck_l19
  | 20, _ => exact ck_l20
  | 21, _ => exact ck_l21
  | 22, _ => exact ck_l22
  | q + 23, h => exact absurd h (by omega)
theorem jGood_ok : jGood := by
  intro m hm
  have hr := List.all_eq_true.mp (jRt_all hm)
  by_cases hl : m = jLaw
  · subst hl
    refine ⟨fun x hx => ?_, ck_ln, jMok_all hm⟩
    have h1 := jLaw_all x hx
    rw [Bool.and_eq_true] at h1
    exact ⟨h1.1, h1.2, hr x hx⟩
  · have h1 := jChk_all hm hl
    unfold jChk at h1
    rw [Bool.and_eq_true] at h1
    refine ⟨fun x hx => ?_, h1.2, jMok_all hm⟩
    have h2 := List.all_eq_true.mp h1.1 x hx
    rw [Bool.and_eq_true] at h2
    exact ⟨h2.1, h2.2, hr x hx⟩
