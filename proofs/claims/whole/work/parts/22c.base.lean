/-! numbers: every int that is not below 0 as nI of its number; -1 is nO -/
def nO : Int32 := -1
def bI (a k : Nat) : Nat := if a.testBit k then 1 else 0
def bZ (c : Bool) : Int32 := nI (if c then 1 else 0)
/-- nobody, or one: 0 is nobody, k + 1 is k -/
def pI (p : Nat) : Int32 := match p with | 0 => nO | k + 1 => nI k
theorem lit_I {n : Nat} : (OfNat.ofNat n : Int32) = nI (OfNat.ofNat n) := rfl
theorem neg_1 : -(nI 1) = nO := rfl
theorem jCl_nI {n : Nat} (h : n < 2147483648) : (nI n).toNatClampNeg = n := nI_clamp h
theorem i_lt {a b : Nat} (ha : a < 2147483648) (hb : b < 2147483648) : (nI a < nI b) = (a < b) := propext (nI_ltI ha hb)
theorem i_le {a b : Nat} (ha : a < 2147483648) (hb : b < 2147483648) : (nI a ≤ nI b) = (a ≤ b) := propext (nI_leI ha hb)
theorem i_eq {a b : Nat} (ha : a < 2147483648) (hb : b < 2147483648) : (nI a = nI b) = (a = b) := propext (nI_eq ha hb)
theorem i_sub {a b : Nat} (h : b ≤ a) : nI a - nI b = nI (a - b) := pk_sub h
theorem i_div {a d : Nat} (ha : a < 2147483648) (h0 : 0 < d) (hd : d < 2147483648) : nI a / nI d = nI (a / d) := pk_div ha h0 hd
theorem i_and31 {k : Nat} (h : k < 32) : k &&& 31 = k := by rw [show (31 : Nat) = 2 ^ 5 - 1 from rfl, Nat.and_two_pow_sub_one_eq_mod]; omega
theorem i_rem {a d : Nat} (ha : a < 2147483648) (h0 : 0 < d) (hd : d < 2147483648) : nI a - nI (a / d * d) = nI (a % d) := by
  rw [i_sub (Nat.div_mul_le_self a d)]
  congr 1
  have := Nat.div_add_mod' a d
  omega
theorem n_le_f {a b : Nat} (h : b < a) : (a ≤ b) = False := eq_false (Nat.not_le.mpr h)
theorem n_le_t {a b : Nat} (h : a ≤ b) : (a ≤ b) = True := eq_true h
theorem n_lt_f {a b : Nat} (h : b ≤ a) : (a < b) = False := eq_false (Nat.not_lt.mpr h)
theorem n_lt_t {a b : Nat} (h : a < b) : (a < b) = True := eq_true h
theorem n_eq_f {a b : Nat} (h : a ≠ b) : (a = b) = False := eq_false h
theorem n_rem {a d : Nat} : a - a / d * d = a % d := by
  have := Nat.div_add_mod' a d
  omega
theorem i_smod : ∀ k, k < 32 → ((nI k).toBitVec.smod 32).toNat = k := by decide +kernel
theorem i_shl {a k : Nat} (hk : k < 32) : nI a <<< nI k = nI (a <<< k) := by
  apply Int32.toBitVec_inj.mp
  apply BitVec.eq_of_toNat_eq
  rw [pk_shl (nI a) (nI k) k (i_smod k hk)]
  show (nI a).toBitVec.toNat * 2 ^ k % 2 ^ 32 = (BitVec.ofNat 32 (a <<< k)).toNat
  rw [BitVec.toNat_ofNat, Nat.shiftLeft_eq]
  show (a % 2 ^ 32) * 2 ^ k % 2 ^ 32 = _
  rw [Nat.mod_mul_mod]
theorem i_shr {a k : Nat} (ha : a < 2147483648) (hk : k < 32) : nI a >>> nI k = nI (a >>> k) := by
  rw [pk_shrN ha (nI k) k (i_smod k hk), Nat.shiftRight_eq_div_pow]
theorem i_bit {a k : Nat} : a >>> k &&& 1 = bI a k := by
  unfold bI
  rw [Nat.testBit_eq_decide_div_mod_eq, Nat.shiftRight_eq_div_pow, Nat.and_one_is_mod]
  have := Nat.mod_two_eq_zero_or_one (a / 2 ^ k)
  rcases this with q | q <;> simp [q]
theorem bI_lt (a k : Nat) : bI a k < 2 := by unfold bI; split <;> omega
theorem bI_1 {a k : Nat} : (nI (bI a k) = nI 1) = (a.testBit k = true) := by unfold bI; split <;> simp_all <;> decide
theorem bI_0 {a k : Nat} : (nI (bI a k) = nI 0) = (a.testBit k = false) := by unfold bI; split <;> simp_all <;> decide
theorem bI_2 {a k b l : Nat} : (nI (bI a k) = nI (bI b l)) = (a.testBit k = b.testBit l) := by
  unfold bI
  cases h1 : a.testBit k <;> cases h2 : b.testBit l <;> simp <;> decide
theorem bZ_1 {c : Bool} : (bZ c = nI 1) = (c = true) := by cases c <;> simp [bZ] <;> decide
theorem bZ_0 {c : Bool} : (bZ c = nI 0) = (c = false) := by cases c <;> simp [bZ] <;> decide
theorem bl_in {c : Bool} : (c = false ∨ c = true) = True := by cases c <;> simp
theorem bZ_t : bZ true = nI 1 := rfl
theorem bZ_f : bZ false = nI 0 := rfl
theorem bZ_in {c : Bool} : (bZ c = nI 0 ∨ bZ c = nI 1) = True := by cases c <;> simp [bZ]
theorem bZ_2 {c e : Bool} : (bZ c = bZ e) = (c = e) := by cases c <;> cases e <;> simp [bZ] <;> decide
theorem bZ_ite {c : Prop} [Decidable c] : (if c then nI 1 else nI 0) = bZ (decide c) := by unfold bZ; by_cases h : c <;> simp [h]
theorem bZ_itn {c : Prop} [Decidable c] : (if c then nI 0 else nI 1) = bZ (!decide c) := by unfold bZ; by_cases h : c <;> simp [h]
theorem nO_lt {k : Nat} (h : k < 2147483648) : (nI k < nO) = False := by
  apply eq_false; intro q
  rw [Int32.lt_iff_toInt_lt, nI_toInt h] at q
  have : nO.toInt = -1 := by decide
  omega
theorem nO_gt {k : Nat} (h : k < 2147483648) : (nO < nI k) = True := by
  apply eq_true
  rw [Int32.lt_iff_toInt_lt, nI_toInt h]
  have : nO.toInt = -1 := by decide
  omega
theorem nO_le {k : Nat} (h : k < 2147483648) : (nI k ≤ nO) = False := by
  apply eq_false; intro q
  rw [Int32.le_iff_toInt_le, nI_toInt h] at q
  have : nO.toInt = -1 := by decide
  omega
theorem nO_ge {k : Nat} (h : k < 2147483648) : (nO ≤ nI k) = True := by
  apply eq_true
  rw [Int32.le_iff_toInt_le, nI_toInt h]
  have : nO.toInt = -1 := by decide
  omega
theorem nO_eq {k : Nat} (h : k < 2147483648) : (nI k = nO) = False := by
  apply eq_false; intro q
  have e := congrArg Int32.toInt q
  rw [nI_toInt h] at e
  have : nO.toInt = -1 := by decide
  omega
theorem nO_qe {k : Nat} (h : k < 2147483648) : (nO = nI k) = False := by
  apply eq_false; intro q
  exact (nO_eq h).mp q.symm
theorem nO_self : (nO < nO) = False := by decide
theorem nO_sele : (nO ≤ nO) = True := by decide
theorem nO_add : nO + nI 1 = nI 0 := rfl
theorem pI_0 : pI 0 = nO := rfl
theorem pI_s {k : Nat} : pI (k + 1) = nI k := rfl
theorem pI_nO {p : Nat} (h : p < 2147483648) : (pI p = nO) = (p = 0) := by
  cases p with
  | zero => simp [pI]
  | succ k => simp [pI, nO_eq (show k < 2147483648 by omega)]
theorem pI_lt0 {p : Nat} (h : p < 2147483648) : (pI p < nI 0) = (p = 0) := by
  cases p with
  | zero => simp [pI, nO_gt]
  | succ k => simp [pI, i_lt (show k < 2147483648 by omega)]
theorem pI_ge0 {p : Nat} (h : p < 2147483648) : (nI 0 ≤ pI p) = ¬ (p = 0) := by
  cases p with
  | zero => simp [pI, nO_le]
  | succ k => simp [pI, i_le (show (0 : Nat) < 2147483648 by omega) (show k < 2147483648 by omega)]
theorem pI_eq {p k : Nat} (h : p < 2147483648) (hk : k < 2147483647) : (pI p = nI k) = (p = k + 1) := by
  cases p with
  | zero => simp [pI, nO_qe (show k < 2147483648 by omega)]
  | succ j => simp [pI, i_eq (show j < 2147483648 by omega) (show k < 2147483648 by omega)]
theorem pI_add {p : Nat} : pI p + nI 1 = nI p := by
  cases p with
  | zero => rfl
  | succ k => exact nI_1 k
theorem i_max {a b : Nat} (ha : a < 2147483648) (hb : b < 2147483648) : (if nI b ≤ nI a then nI a else nI b) = nI (max a b) := by
  simp only [i_le hb ha]; split <;> congr 1 <;> omega
/-- what no call touches -/
theorem jFr.rf {h : jM} : jFr h h := ⟨rfl, rfl, rfl, rfl⟩
theorem jFr.tr {h h1 h2 : jM} (a : jFr h h1) (b : jFr h1 h2) : jFr h h2 := ⟨b.1.trans a.1, b.2.1.trans a.2.1, b.2.2.1.trans a.2.2.1, b.2.2.2.trans a.2.2.2⟩
/-- a stretch of steps: what a loop does, again and again -/
def jFo {σ : Type} (f : Nat → σ → σ) : Nat → σ → σ
  | 0, s => s
  | n + 1, s => f n (jFo f n s)
theorem jFor {σ : Type} (S : Nat → σ → Prop) (I : Nat → σ → Prop) (n : Nat) (st : ∀ i s, i < n → I i s → (∀ s', I (i + 1) s' → S (i + 1) s') → S i s) (ex : ∀ s, I n s → S n s) : ∀ k i s, i + k = n → I i s → S i s := by
  intro k
  induction k with
  | zero => intro i s hi h; have e : i = n := by omega
            subst e; exact ex s h
  | succ k ih => intro i s hi h; exact st i s (by omega) h (fun s' h' => ih (i + 1) s' (by omega) h')
theorem jForE {σ : Type} (S : Nat → σ → Prop) (f : Nat → σ → σ) (n : Nat) (st : ∀ i s, i < n → S i s = S (i + 1) (f i s)) (s : σ) : ∀ i, i ≤ n → S 0 s = S i (jFo f i s) := by
  intro i
  induction i with
  | zero => intro _; rfl
  | succ i ih => intro hi; rw [ih (by omega), st i _ (by omega)]; rfl
/-- a run has one answer -/
theorem jCl_one {d m : Nat} {as : List Value} {h : jM} {P : Option Value → jM → Prop} (e : jCl d m as h P) : ∃ r h', P r h' ∧ ∀ K, jCl d m as h K = K r h' := by
  obtain ⟨n, r, h', e1, k⟩ := e
  exact ⟨r, h', k, fun K => jGo_det ⟨n, r, h', e1, rfl, rfl⟩⟩
theorem jGo_one {d m : Nat} {is : List jIns} {ls st : List Value} {h : jM} {P : Option Value → jM → Prop} (e : jGo d m is ls st h P) : ∃ r h', P r h' ∧ ∀ K, jGo d m is ls st h K = K r h' := by
  obtain ⟨n, r, h', e1, k⟩ := e
  exact ⟨r, h', k, fun K => jGo_det ⟨n, r, h', e1, rfl, rfl⟩⟩
theorem pI_ltn {m c : Nat} (hm : m < 2147483648) (hc : c < 2147483648) : (pI m < nI c) = (m ≤ c) := by
  cases m with
  | zero => simp [pI, nO_gt hc]
  | succ k => rw [pI_s, i_lt (by omega) hc]; simp [Nat.succ_le_iff]
theorem pI_len {m c : Nat} (hm : m < 2147483648) (hc : c < 2147483648) : (nI c ≤ pI m) = (c < m) := by
  cases m with
  | zero => simp [pI, nO_le hc]
  | succ k => rw [pI_s, i_le hc (by omega)]; simp [Nat.lt_succ_iff]
theorem or16 {a b : Nat} (ha : a < 16) (hb : b < 16) : a ||| b < 16 := Nat.or_lt_two_pow (n := 4) ha hb
theorem xor16 {a b : Nat} (ha : a < 16) (hb : b < 16) : a ^^^ b < 16 := Nat.xor_lt_two_pow (n := 4) ha hb
theorem sh16 {k : Nat} (h : k < 4) : 1 <<< k < 16 := by rw [Nat.one_shiftLeft]; exact Nat.lt_of_lt_of_le (Nat.pow_lt_pow_right (by decide) h) (by decide)
theorem bI_sh16 {a w k : Nat} (h : k < 4) : bI a w <<< k < 16 := by
  unfold bI; split
  · exact sh16 h
  · rw [Nat.zero_shiftLeft]; decide
def pc4 (x : Nat) : Nat := bI x 0 + bI x 1 + bI x 2 + bI x 3
/-! the JDK's: a row filled, bits counted -/
def jFl (h : jM) (o n : Nat) (v : Int32) : jM := (fun a b => if a = o ∧ b < n then v else jI h a b, jL h, jR h, jN h, jXn h, jXs h, jEx h)
theorem jI_jFl {h : jM} {o n a b : Nat} {v : Int32} : jI (jFl h o n v) a b = if a = o ∧ b < n then v else jI h a b := rfl
theorem jL_jFl {h : jM} {o n : Nat} {v : Int32} : jL (jFl h o n v) = jL h := rfl
theorem jR_jFl {h : jM} {o n : Nat} {v : Int32} : jR (jFl h o n v) = jR h := rfl
theorem jN_jFl {h : jM} {o n : Nat} {v : Int32} : jN (jFl h o n v) = jN h := rfl
theorem jXn_jFl {h : jM} {o n : Nat} {v : Int32} : jXn (jFl h o n v) = jXn h := rfl
theorem jXs_jFl {h : jM} {o n : Nat} {v : Int32} : jXs (jFl h o n v) = jXs h := rfl
theorem jEx_jFl {h : jM} {o n : Nat} {v : Int32} : jEx (jFl h o n v) = jEx h := rfl
theorem jFl_0 {h : jM} {o : Nat} {v : Int32} : jFl h o 0 v = h := by
  show (fun a b => if a = o ∧ b < 0 then v else jI h a b, _) = h
  have e : (fun a b => if a = o ∧ b < 0 then v else jI h a b) = jI h := by
    funext a b; rw [if_neg (by omega)]
  rw [e]; rfl
theorem jFl_s {h : jM} {o i : Nat} {v : Int32} : jsI (jFl h o i v) o i v = jFl h o (i + 1) v := by
  show (jU (jI (jFl h o i v)) o i v, _) = ((fun a b => if a = o ∧ b < i + 1 then v else jI h a b), _)
  have e : jU (jI (jFl h o i v)) o i v = fun a b => if a = o ∧ b < i + 1 then v else jI h a b := by
    funext a b
    show (if a = o ∧ b = i then v else if a = o ∧ b < i then v else jI h a b) = _
    by_cases h1 : a = o
    · by_cases h2 : b = i
      · rw [if_pos ⟨h1, h2⟩, if_pos ⟨h1, by omega⟩]
      · by_cases h3 : b < i
        · rw [if_neg (by omega), if_pos ⟨h1, h3⟩, if_pos ⟨h1, by omega⟩]
        · rw [if_neg (by omega), if_neg (by omega), if_neg (by omega)]
    · rw [if_neg (by omega), if_neg (by omega), if_neg (by omega)]
  rw [e]; rfl
theorem jCp_R {h : jM} {s i t j n : Nat} : jR (jCp h s i t j n) = jR h := rfl
theorem jCp_L {h : jM} {s i t j n : Nat} : jL (jCp h s i t j n) = jL h := rfl
theorem jCp_N {h : jM} {s i t j n : Nat} : jN (jCp h s i t j n) = jN h := rfl
theorem jCp_Xn {h : jM} {s i t j n : Nat} : jXn (jCp h s i t j n) = jXn h := rfl
theorem jCp_Xs {h : jM} {s i t j n : Nat} : jXs (jCp h s i t j n) = jXs h := rfl
theorem jCp_Ex {h : jM} {s i t j n : Nat} : jEx (jCp h s i t j n) = jEx h := rfl
theorem jCp_I {h : jM} {s i t j n a b : Nat} : jI (jCp h s i t j n) a b = if a = t then (if j ≤ b ∧ b < j + n then jI h s (i + (b - j)) else jI h t b) else jI h a b := rfl
set_option maxRecDepth 100000 in
set_option maxHeartbeats 4000000 in
theorem J_fill_it {d : Nat} {o : Nat} {i : Nat} {h : jM} {K : Option Value → jM → Prop} {v : Int32} (h0 : o < jN h) (h1 : (jS o).1 = 100) (h2 : (jS o).2 < 2147483648) (hi : i < (jS o).2) : jGo d 285 (jAt 285 5) [.ref o, .int v, .int (nI i), .int (nI (jS o).2)] [] (jFl h o i v) K = jGo d 285 (jAt 285 5) [.ref o, .int v, .int (nI (i + 1)), .int (nI (jS o).2)] [] (jFl h o (i + 1) v) K := by
  (conv => lhs; rw [jb_285_5])
  have h3 : ¬ (jS o).2 ≤ i := by omega
  simp (disch := omega) only [jMI_i, jML_l, jMA_a, jSum_n, jSum_i, jSum_a, jSum_l, jGet_0, jPut_0, jGet_1, jPut_1i, jPut_1a, jPut_1n, jPut_1l, jGet_2, jPut_2i, jPut_2a, jPut_2n, jPut_2l, jGet_3, jPut_3i, jPut_3a, jPut_3n, jPut_3l, jGet_4, jPut_4i, jPut_4a, jPut_4n, jPut_4l, jGet_5, jPut_5i, jPut_5a, jPut_5n, jPut_5l, jGet_6, jPut_6i, jPut_6a, jPut_6n, jPut_6l, jGet_7, jPut_7i, jPut_7a, jPut_7n, jPut_7l, jGet_8, jPut_8i, jPut_8a, jPut_8n, jPut_8l, jGet_9, jPut_9i, jPut_9a, jPut_9n, jPut_9l, jGet_10, jPut_10i, jPut_10a, jPut_10n, jPut_10l, jGet_11, jPut_11i, jPut_11a, jPut_11n, jPut_11l, jGet_12, jPut_12i, jPut_12a, jPut_12n, jPut_12l, jPut2_e, jSet_1, jSet_2, jSet_3, jSet_4, jSet_5, jSet_6, jSet_7, jSet_8, jSet_9, jSet_10, jSet_11, jSet_12, go_bipush_m2, go_bipush_10, go_bipush_11, go_bipush_12, go_bipush_120, go_bipush_122, go_bipush_126, go_bipush_127, go_bipush_13, go_bipush_14, go_bipush_15, go_bipush_16, go_bipush_17, go_bipush_20, go_bipush_21, go_bipush_22, go_bipush_24, go_bipush_25, go_bipush_26, go_bipush_29, go_bipush_30, go_bipush_32, go_bipush_40, go_bipush_44, go_bipush_48, go_bipush_56, go_bipush_57, go_bipush_59, go_bipush_6, go_bipush_60, go_bipush_63, go_bipush_64, go_bipush_7, go_bipush_75, go_bipush_8, go_bipush_9, go_bipush_96, go_bipush_97, go_bipush_99, go_iconst_m1, go_iconst_0, go_iconst_1, go_iconst_2, go_iconst_3, go_iconst_4, go_iconst_5, go_iinc_m1, go_iinc_m8, go_iinc_1, go_iinc_7, go_sipush_1000, go_sipush_1002, go_sipush_128, go_sipush_132, go_sipush_185, go_sipush_2040, go_sipush_2047, go_sipush_240, go_sipush_255, go_sipush_289, go_sipush_4913, go_sipush_609, go_sipush_625, go_sipush_638, go_sipush_9999, go_lconst_0, go_lconst_1, go_ldc, go_ldcs, go_ldcw, go_ldc2_0, go_ldc2_1, go_ldc2_2, go_ldc2_3, go_ldc2_4, go_ldc2_5, go_ldc2_6, go_ldc2_7, go_ldc2_8, go_ldc2_9, go_ldc2_10, go_ldc2_11, go_ldc2_12, go_ldc2_13, go_ldc2_14, go_ldc2_15, go_ldc2_16, go_ldc2_17, go_ldc2_18, go_ldc2_19, go_ldc2_20, go_ldc2_21, go_ldc2_22, go_ldc2_23, go_ldc2_24, go_ldc2_25, go_ldc2_26, go_ldc2_27, go_ldc2_28, go_ldc2_29, go_ldc2_30, go_ldc2_31, go_ldc2_32, go_ldc2_33, go_ldc2_34, go_ldc2_35, jCI_0, jCI_1, jCI_2, jCI_3, go_iload, go_iload_n, go_lload, go_lload_n, go_aload, go_aload_n, go_istore, go_istore_n, go_lstore, go_lstore_n, go_astore, go_astore_n, go_iadd, go_isub, go_imul, go_iand, go_ior, go_ixor, go_ishl, go_ishr, go_iushr, go_idiv, go_irem, go_ldiv, go_lrem, go_ineg, go_i2l, go_i2c, go_l2i, go_ladd, go_lsub, go_lmul, go_land, go_lor, go_lxor, go_lcmp, go_lshl, go_lshr, go_lushr, go_dup_i, go_dup_a, go_pop_i, go_pop_a, go_dup2, go_getstatic, go_getf_i, go_getf_z, go_getf_l, go_getf_a, go_putf_i, go_putf_l, go_putf_z, go_putf_a, go_iald, go_iald1, go_iald2, go_alen, go_alen2, go_cald, go_bald, go_lald, go_aald, go_iast, go_cast, go_bast, go_last, go_aast, go_new, go_newa, go_anew, go_objinit, go_max, go_min, go_strlen, go_charat, go_acopy, go_rests, go_goto, go_if_eq, go_ic_eq, go_if_ne, go_ic_ne, go_if_lt, go_ic_lt, go_if_ge, go_ic_ge, go_if_gt, go_ic_gt, go_if_le, go_ic_le, go_sw, go_ret, go_lret, go_aret, Nat.reduceAdd, Nat.reduceLT, Nat.reduceLeDiff, Nat.reduceEqDiff, Nat.reduceSub, and_true, true_and, if_true, if_false, and_self, Option.toList_some, Option.toList_none, List.cons_append, List.nil_append, List.length_cons, List.length_nil, Fin.isValue, Fin.reduceFinMk, Fin.val_zero, Fin.val_one, Fin.val_two, jFin3, jI_jsI, jI_jsL, jI_jsR, jL_jsI, jL_jsL, jL_jsR, jR_jsI, jR_jsL, jR_jsR, jN_jsI, jN_jsL, jN_jsR, jXn_jsI, jXn_jsL, jXn_jsR, jXs_jsI, jXs_jsL, jXs_jsR, jEx_jsI, jEx_jsL, jEx_jsR, jI_jXp, jL_jXp, jR_jXp, jN_jXp, jXn_jXp, jXs_jXp, jEx_jXp, jb_285_0, jb_285_20, en_285, js_0, js_1, js_2, js_3, js_4, js_5, js_6, js_7, js_8, js_9, js_10, js_11, js_12, js_13, js_14, js_15, js_16, js_17, js_18, js_19, js_20, js_21, js_22, js_23, js_24, js_25, js_26, js_27, js_28, js_29, js_30, js_31, js_32, js_33, js_34, js_35, js_36, js_37, js_38, js_39, js_40, js_41, js_42, js_43, js_44, js_45, js_46, js_47, js_48, js_49, js_50, js_51, js_52, js_53, js_54, js_55, js_56, js_57, js_58, js_59, js_60, js_61, js_62, js_63, js_64, js_65, js_66, js_67, js_68, js_69, js_70, js_71, js_72, js_73, js_74, js_75, js_76, js_77, js_78, js_79, js_80, js_81, js_82, js_83, js_84, js_85, js_86, js_87, js_88, js_89, js_90, js_91, js_92, js_93, js_94, js_95, js_96, js_97, js_98, js_99, js_100, js_101, js_102, js_103, js_104, js_105, js_106, js_107, js_108, js_109, js_110, js_111, js_112, js_113, js_114, js_115, js_116, js_117, js_118, js_119, lit_I, neg_1, jCl_nI, i_lt, i_le, i_eq, i_sub, i_div, n_rem, i_and31, i_shl, i_shr, i_bit, bI_1, bI_0, bI_2, bZ_1, bZ_0, bZ_in, bZ_2, nO_lt, nO_gt, nO_le, nO_ge, nO_eq, nO_qe, nO_self, nO_sele, nO_add, pI_0, pI_s, pI_nO, pI_lt0, pI_ge0, pI_eq, pI_add, nI_add, pk_mul, nx_and, fa_or, fb_xorI, Nat.reduceMul, Nat.reduceDiv, Nat.reduceMod, Nat.reducePow, Nat.reduceAnd, Nat.reduceOr, Nat.reduceXor, Nat.reduceShiftLeft, Nat.reduceShiftRight, eq_self, not_true_eq_false, not_false_eq_true, or_false, false_or, or_true, true_or, and_false, false_and, ↓reduceIte, Nat.zero_add, Nat.add_zero, Nat.not_lt_zero, Nat.zero_le, Bool.true_eq_false, Bool.false_eq_true, decide_true, decide_false, n_le_f, n_le_t, n_lt_f, n_lt_t, n_eq_f, bl_in, jN_jFl, h0, h1, h3, jFl_s]
set_option maxRecDepth 100000 in
set_option maxHeartbeats 4000000 in
theorem J_fill {d : Nat} {o : Nat} {h : jM} {K : Option Value → jM → Prop} {v : Int32} (h0 : o < jN h) (h1 : (jS o).1 = 100) (h2 : (jS o).2 < 2147483648) : jCl d 285 [.ref o, .int v] h K = K none (jFl h o (jS o).2 v) := by
  have e := jForE (fun i (_ : Unit) => jGo d 285 (jAt 285 5) [.ref o, .int v, .int (nI i), .int (nI (jS o).2)] [] (jFl h o i v) K) (fun _ s => s) (jS o).2 (fun i s hi => J_fill_it h0 h1 h2 hi) () (jS o).2 (Nat.le_refl _)
  simp only [jFl_0] at e
  have h3 : 100 ≤ (jS o).1 ∧ (jS o).1 < 104 := by omega
  have e1 : Int32.ofNat (jS o).2 = nI (jS o).2 := rfl
  simp (disch := omega) only [jMI_i, jML_l, jMA_a, jSum_n, jSum_i, jSum_a, jSum_l, jGet_0, jPut_0, jGet_1, jPut_1i, jPut_1a, jPut_1n, jPut_1l, jGet_2, jPut_2i, jPut_2a, jPut_2n, jPut_2l, jGet_3, jPut_3i, jPut_3a, jPut_3n, jPut_3l, jGet_4, jPut_4i, jPut_4a, jPut_4n, jPut_4l, jGet_5, jPut_5i, jPut_5a, jPut_5n, jPut_5l, jGet_6, jPut_6i, jPut_6a, jPut_6n, jPut_6l, jGet_7, jPut_7i, jPut_7a, jPut_7n, jPut_7l, jGet_8, jPut_8i, jPut_8a, jPut_8n, jPut_8l, jGet_9, jPut_9i, jPut_9a, jPut_9n, jPut_9l, jGet_10, jPut_10i, jPut_10a, jPut_10n, jPut_10l, jGet_11, jPut_11i, jPut_11a, jPut_11n, jPut_11l, jGet_12, jPut_12i, jPut_12a, jPut_12n, jPut_12l, jPut2_e, jSet_1, jSet_2, jSet_3, jSet_4, jSet_5, jSet_6, jSet_7, jSet_8, jSet_9, jSet_10, jSet_11, jSet_12, go_bipush_m2, go_bipush_10, go_bipush_11, go_bipush_12, go_bipush_120, go_bipush_122, go_bipush_126, go_bipush_127, go_bipush_13, go_bipush_14, go_bipush_15, go_bipush_16, go_bipush_17, go_bipush_20, go_bipush_21, go_bipush_22, go_bipush_24, go_bipush_25, go_bipush_26, go_bipush_29, go_bipush_30, go_bipush_32, go_bipush_40, go_bipush_44, go_bipush_48, go_bipush_56, go_bipush_57, go_bipush_59, go_bipush_6, go_bipush_60, go_bipush_63, go_bipush_64, go_bipush_7, go_bipush_75, go_bipush_8, go_bipush_9, go_bipush_96, go_bipush_97, go_bipush_99, go_iconst_m1, go_iconst_0, go_iconst_1, go_iconst_2, go_iconst_3, go_iconst_4, go_iconst_5, go_iinc_m1, go_iinc_m8, go_iinc_1, go_iinc_7, go_sipush_1000, go_sipush_1002, go_sipush_128, go_sipush_132, go_sipush_185, go_sipush_2040, go_sipush_2047, go_sipush_240, go_sipush_255, go_sipush_289, go_sipush_4913, go_sipush_609, go_sipush_625, go_sipush_638, go_sipush_9999, go_lconst_0, go_lconst_1, go_ldc, go_ldcs, go_ldcw, go_ldc2_0, go_ldc2_1, go_ldc2_2, go_ldc2_3, go_ldc2_4, go_ldc2_5, go_ldc2_6, go_ldc2_7, go_ldc2_8, go_ldc2_9, go_ldc2_10, go_ldc2_11, go_ldc2_12, go_ldc2_13, go_ldc2_14, go_ldc2_15, go_ldc2_16, go_ldc2_17, go_ldc2_18, go_ldc2_19, go_ldc2_20, go_ldc2_21, go_ldc2_22, go_ldc2_23, go_ldc2_24, go_ldc2_25, go_ldc2_26, go_ldc2_27, go_ldc2_28, go_ldc2_29, go_ldc2_30, go_ldc2_31, go_ldc2_32, go_ldc2_33, go_ldc2_34, go_ldc2_35, jCI_0, jCI_1, jCI_2, jCI_3, go_iload, go_iload_n, go_lload, go_lload_n, go_aload, go_aload_n, go_istore, go_istore_n, go_lstore, go_lstore_n, go_astore, go_astore_n, go_iadd, go_isub, go_imul, go_iand, go_ior, go_ixor, go_ishl, go_ishr, go_iushr, go_idiv, go_irem, go_ldiv, go_lrem, go_ineg, go_i2l, go_i2c, go_l2i, go_ladd, go_lsub, go_lmul, go_land, go_lor, go_lxor, go_lcmp, go_lshl, go_lshr, go_lushr, go_dup_i, go_dup_a, go_pop_i, go_pop_a, go_dup2, go_getstatic, go_getf_i, go_getf_z, go_getf_l, go_getf_a, go_putf_i, go_putf_l, go_putf_z, go_putf_a, go_iald, go_iald1, go_iald2, go_alen, go_alen2, go_cald, go_bald, go_lald, go_aald, go_iast, go_cast, go_bast, go_last, go_aast, go_new, go_newa, go_anew, go_objinit, go_max, go_min, go_strlen, go_charat, go_acopy, go_rests, go_goto, go_if_eq, go_ic_eq, go_if_ne, go_ic_ne, go_if_lt, go_ic_lt, go_if_ge, go_ic_ge, go_if_gt, go_ic_gt, go_if_le, go_ic_le, go_sw, go_ret, go_lret, go_aret, Nat.reduceAdd, Nat.reduceLT, Nat.reduceLeDiff, Nat.reduceEqDiff, Nat.reduceSub, and_true, true_and, if_true, if_false, and_self, Option.toList_some, Option.toList_none, List.cons_append, List.nil_append, List.length_cons, List.length_nil, Fin.isValue, Fin.reduceFinMk, Fin.val_zero, Fin.val_one, Fin.val_two, jFin3, jI_jsI, jI_jsL, jI_jsR, jL_jsI, jL_jsL, jL_jsR, jR_jsI, jR_jsL, jR_jsR, jN_jsI, jN_jsL, jN_jsR, jXn_jsI, jXn_jsL, jXn_jsR, jXs_jsI, jXs_jsL, jXs_jsR, jEx_jsI, jEx_jsL, jEx_jsR, jI_jXp, jL_jXp, jR_jXp, jN_jXp, jXn_jXp, jXs_jXp, jEx_jXp, jb_285_0, jb_285_20, en_285, js_0, js_1, js_2, js_3, js_4, js_5, js_6, js_7, js_8, js_9, js_10, js_11, js_12, js_13, js_14, js_15, js_16, js_17, js_18, js_19, js_20, js_21, js_22, js_23, js_24, js_25, js_26, js_27, js_28, js_29, js_30, js_31, js_32, js_33, js_34, js_35, js_36, js_37, js_38, js_39, js_40, js_41, js_42, js_43, js_44, js_45, js_46, js_47, js_48, js_49, js_50, js_51, js_52, js_53, js_54, js_55, js_56, js_57, js_58, js_59, js_60, js_61, js_62, js_63, js_64, js_65, js_66, js_67, js_68, js_69, js_70, js_71, js_72, js_73, js_74, js_75, js_76, js_77, js_78, js_79, js_80, js_81, js_82, js_83, js_84, js_85, js_86, js_87, js_88, js_89, js_90, js_91, js_92, js_93, js_94, js_95, js_96, js_97, js_98, js_99, js_100, js_101, js_102, js_103, js_104, js_105, js_106, js_107, js_108, js_109, js_110, js_111, js_112, js_113, js_114, js_115, js_116, js_117, js_118, js_119, lit_I, neg_1, jCl_nI, i_lt, i_le, i_eq, i_sub, i_div, n_rem, i_and31, i_shl, i_shr, i_bit, bI_1, bI_0, bI_2, bZ_1, bZ_0, bZ_in, bZ_2, nO_lt, nO_gt, nO_le, nO_ge, nO_eq, nO_qe, nO_self, nO_sele, nO_add, pI_0, pI_s, pI_nO, pI_lt0, pI_ge0, pI_eq, pI_add, nI_add, pk_mul, nx_and, fa_or, fb_xorI, Nat.reduceMul, Nat.reduceDiv, Nat.reduceMod, Nat.reducePow, Nat.reduceAnd, Nat.reduceOr, Nat.reduceXor, Nat.reduceShiftLeft, Nat.reduceShiftRight, eq_self, not_true_eq_false, not_false_eq_true, or_false, false_or, or_true, true_or, and_false, false_and, ↓reduceIte, Nat.zero_add, Nat.add_zero, Nat.not_lt_zero, Nat.zero_le, Bool.true_eq_false, Bool.false_eq_true, decide_true, decide_false, n_le_f, n_le_t, n_lt_f, n_lt_t, n_eq_f, bl_in, h0, h3, e1, e]
  (conv => lhs; rw [jb_285_5])
  simp (disch := omega) only [jMI_i, jML_l, jMA_a, jSum_n, jSum_i, jSum_a, jSum_l, jGet_0, jPut_0, jGet_1, jPut_1i, jPut_1a, jPut_1n, jPut_1l, jGet_2, jPut_2i, jPut_2a, jPut_2n, jPut_2l, jGet_3, jPut_3i, jPut_3a, jPut_3n, jPut_3l, jGet_4, jPut_4i, jPut_4a, jPut_4n, jPut_4l, jGet_5, jPut_5i, jPut_5a, jPut_5n, jPut_5l, jGet_6, jPut_6i, jPut_6a, jPut_6n, jPut_6l, jGet_7, jPut_7i, jPut_7a, jPut_7n, jPut_7l, jGet_8, jPut_8i, jPut_8a, jPut_8n, jPut_8l, jGet_9, jPut_9i, jPut_9a, jPut_9n, jPut_9l, jGet_10, jPut_10i, jPut_10a, jPut_10n, jPut_10l, jGet_11, jPut_11i, jPut_11a, jPut_11n, jPut_11l, jGet_12, jPut_12i, jPut_12a, jPut_12n, jPut_12l, jPut2_e, jSet_1, jSet_2, jSet_3, jSet_4, jSet_5, jSet_6, jSet_7, jSet_8, jSet_9, jSet_10, jSet_11, jSet_12, go_bipush_m2, go_bipush_10, go_bipush_11, go_bipush_12, go_bipush_120, go_bipush_122, go_bipush_126, go_bipush_127, go_bipush_13, go_bipush_14, go_bipush_15, go_bipush_16, go_bipush_17, go_bipush_20, go_bipush_21, go_bipush_22, go_bipush_24, go_bipush_25, go_bipush_26, go_bipush_29, go_bipush_30, go_bipush_32, go_bipush_40, go_bipush_44, go_bipush_48, go_bipush_56, go_bipush_57, go_bipush_59, go_bipush_6, go_bipush_60, go_bipush_63, go_bipush_64, go_bipush_7, go_bipush_75, go_bipush_8, go_bipush_9, go_bipush_96, go_bipush_97, go_bipush_99, go_iconst_m1, go_iconst_0, go_iconst_1, go_iconst_2, go_iconst_3, go_iconst_4, go_iconst_5, go_iinc_m1, go_iinc_m8, go_iinc_1, go_iinc_7, go_sipush_1000, go_sipush_1002, go_sipush_128, go_sipush_132, go_sipush_185, go_sipush_2040, go_sipush_2047, go_sipush_240, go_sipush_255, go_sipush_289, go_sipush_4913, go_sipush_609, go_sipush_625, go_sipush_638, go_sipush_9999, go_lconst_0, go_lconst_1, go_ldc, go_ldcs, go_ldcw, go_ldc2_0, go_ldc2_1, go_ldc2_2, go_ldc2_3, go_ldc2_4, go_ldc2_5, go_ldc2_6, go_ldc2_7, go_ldc2_8, go_ldc2_9, go_ldc2_10, go_ldc2_11, go_ldc2_12, go_ldc2_13, go_ldc2_14, go_ldc2_15, go_ldc2_16, go_ldc2_17, go_ldc2_18, go_ldc2_19, go_ldc2_20, go_ldc2_21, go_ldc2_22, go_ldc2_23, go_ldc2_24, go_ldc2_25, go_ldc2_26, go_ldc2_27, go_ldc2_28, go_ldc2_29, go_ldc2_30, go_ldc2_31, go_ldc2_32, go_ldc2_33, go_ldc2_34, go_ldc2_35, jCI_0, jCI_1, jCI_2, jCI_3, go_iload, go_iload_n, go_lload, go_lload_n, go_aload, go_aload_n, go_istore, go_istore_n, go_lstore, go_lstore_n, go_astore, go_astore_n, go_iadd, go_isub, go_imul, go_iand, go_ior, go_ixor, go_ishl, go_ishr, go_iushr, go_idiv, go_irem, go_ldiv, go_lrem, go_ineg, go_i2l, go_i2c, go_l2i, go_ladd, go_lsub, go_lmul, go_land, go_lor, go_lxor, go_lcmp, go_lshl, go_lshr, go_lushr, go_dup_i, go_dup_a, go_pop_i, go_pop_a, go_dup2, go_getstatic, go_getf_i, go_getf_z, go_getf_l, go_getf_a, go_putf_i, go_putf_l, go_putf_z, go_putf_a, go_iald, go_iald1, go_iald2, go_alen, go_alen2, go_cald, go_bald, go_lald, go_aald, go_iast, go_cast, go_bast, go_last, go_aast, go_new, go_newa, go_anew, go_objinit, go_max, go_min, go_strlen, go_charat, go_acopy, go_rests, go_goto, go_if_eq, go_ic_eq, go_if_ne, go_ic_ne, go_if_lt, go_ic_lt, go_if_ge, go_ic_ge, go_if_gt, go_ic_gt, go_if_le, go_ic_le, go_sw, go_ret, go_lret, go_aret, Nat.reduceAdd, Nat.reduceLT, Nat.reduceLeDiff, Nat.reduceEqDiff, Nat.reduceSub, and_true, true_and, if_true, if_false, and_self, Option.toList_some, Option.toList_none, List.cons_append, List.nil_append, List.length_cons, List.length_nil, Fin.isValue, Fin.reduceFinMk, Fin.val_zero, Fin.val_one, Fin.val_two, jFin3, jI_jsI, jI_jsL, jI_jsR, jL_jsI, jL_jsL, jL_jsR, jR_jsI, jR_jsL, jR_jsR, jN_jsI, jN_jsL, jN_jsR, jXn_jsI, jXn_jsL, jXn_jsR, jXs_jsI, jXs_jsL, jXs_jsR, jEx_jsI, jEx_jsL, jEx_jsR, jI_jXp, jL_jXp, jR_jXp, jN_jXp, jXn_jXp, jXs_jXp, jEx_jXp, jb_285_0, jb_285_20, en_285, js_0, js_1, js_2, js_3, js_4, js_5, js_6, js_7, js_8, js_9, js_10, js_11, js_12, js_13, js_14, js_15, js_16, js_17, js_18, js_19, js_20, js_21, js_22, js_23, js_24, js_25, js_26, js_27, js_28, js_29, js_30, js_31, js_32, js_33, js_34, js_35, js_36, js_37, js_38, js_39, js_40, js_41, js_42, js_43, js_44, js_45, js_46, js_47, js_48, js_49, js_50, js_51, js_52, js_53, js_54, js_55, js_56, js_57, js_58, js_59, js_60, js_61, js_62, js_63, js_64, js_65, js_66, js_67, js_68, js_69, js_70, js_71, js_72, js_73, js_74, js_75, js_76, js_77, js_78, js_79, js_80, js_81, js_82, js_83, js_84, js_85, js_86, js_87, js_88, js_89, js_90, js_91, js_92, js_93, js_94, js_95, js_96, js_97, js_98, js_99, js_100, js_101, js_102, js_103, js_104, js_105, js_106, js_107, js_108, js_109, js_110, js_111, js_112, js_113, js_114, js_115, js_116, js_117, js_118, js_119, lit_I, neg_1, jCl_nI, i_lt, i_le, i_eq, i_sub, i_div, n_rem, i_and31, i_shl, i_shr, i_bit, bI_1, bI_0, bI_2, bZ_1, bZ_0, bZ_in, bZ_2, nO_lt, nO_gt, nO_le, nO_ge, nO_eq, nO_qe, nO_self, nO_sele, nO_add, pI_0, pI_s, pI_nO, pI_lt0, pI_ge0, pI_eq, pI_add, nI_add, pk_mul, nx_and, fa_or, fb_xorI, Nat.reduceMul, Nat.reduceDiv, Nat.reduceMod, Nat.reducePow, Nat.reduceAnd, Nat.reduceOr, Nat.reduceXor, Nat.reduceShiftLeft, Nat.reduceShiftRight, eq_self, not_true_eq_false, not_false_eq_true, or_false, false_or, or_true, true_or, and_false, false_and, ↓reduceIte, Nat.zero_add, Nat.add_zero, Nat.not_lt_zero, Nat.zero_le, Bool.true_eq_false, Bool.false_eq_true, decide_true, decide_false, n_le_f, n_le_t, n_lt_f, n_lt_t, n_eq_f, bl_in, jN_jFl, h0, h1, Nat.le_refl]
def ush (x k : Int32) : Int32 := (x.toUInt32 >>> (k.toUInt32 &&& Int32.toUInt32 31)).toInt32
def bc1 (x : Int32) : Int32 := x - (ush x 1 &&& 1431655765)
def bc2 (x : Int32) : Int32 := (x &&& 858993459) + (ush x 2 &&& 858993459)
def bc3 (x : Int32) : Int32 := (x + ush x 4) &&& 252645135
def bc4 (x : Int32) : Int32 := x + ush x 8
def bc5 (x : Int32) : Int32 := x + ush x 16
def bcV (x : Int32) : Int32 := bc5 (bc4 (bc3 (bc2 (bc1 x)))) &&& 63
set_option maxRecDepth 100000 in
set_option maxHeartbeats 4000000 in
theorem J_bc {d : Nat} {x : Int32} {h : jM} {K : Option Value → jM → Prop} : jCl d 283 [.int x] h K = K (some (.int (bcV x))) h := by
  simp only [jMI_i, jML_l, jMA_a, jSum_n, jSum_i, jSum_a, jSum_l, jGet_0, jPut_0, jGet_1, jPut_1i, jPut_1a, jPut_1n, jPut_1l, jGet_2, jPut_2i, jPut_2a, jPut_2n, jPut_2l, jGet_3, jPut_3i, jPut_3a, jPut_3n, jPut_3l, jGet_4, jPut_4i, jPut_4a, jPut_4n, jPut_4l, jGet_5, jPut_5i, jPut_5a, jPut_5n, jPut_5l, jGet_6, jPut_6i, jPut_6a, jPut_6n, jPut_6l, jGet_7, jPut_7i, jPut_7a, jPut_7n, jPut_7l, jGet_8, jPut_8i, jPut_8a, jPut_8n, jPut_8l, jGet_9, jPut_9i, jPut_9a, jPut_9n, jPut_9l, jGet_10, jPut_10i, jPut_10a, jPut_10n, jPut_10l, jGet_11, jPut_11i, jPut_11a, jPut_11n, jPut_11l, jGet_12, jPut_12i, jPut_12a, jPut_12n, jPut_12l, jPut2_e, jSet_1, jSet_2, jSet_3, jSet_4, jSet_5, jSet_6, jSet_7, jSet_8, jSet_9, jSet_10, jSet_11, jSet_12, go_bipush_m2, go_bipush_10, go_bipush_11, go_bipush_12, go_bipush_120, go_bipush_122, go_bipush_126, go_bipush_127, go_bipush_13, go_bipush_14, go_bipush_15, go_bipush_16, go_bipush_17, go_bipush_20, go_bipush_21, go_bipush_22, go_bipush_24, go_bipush_25, go_bipush_26, go_bipush_29, go_bipush_30, go_bipush_32, go_bipush_40, go_bipush_44, go_bipush_48, go_bipush_56, go_bipush_57, go_bipush_59, go_bipush_6, go_bipush_60, go_bipush_63, go_bipush_64, go_bipush_7, go_bipush_75, go_bipush_8, go_bipush_9, go_bipush_96, go_bipush_97, go_bipush_99, go_iconst_m1, go_iconst_0, go_iconst_1, go_iconst_2, go_iconst_3, go_iconst_4, go_iconst_5, go_iinc_m1, go_iinc_m8, go_iinc_1, go_iinc_7, go_sipush_1000, go_sipush_1002, go_sipush_128, go_sipush_132, go_sipush_185, go_sipush_2040, go_sipush_2047, go_sipush_240, go_sipush_255, go_sipush_289, go_sipush_4913, go_sipush_609, go_sipush_625, go_sipush_638, go_sipush_9999, go_lconst_0, go_lconst_1, go_ldc, go_ldcs, go_ldcw, go_ldc2_0, go_ldc2_1, go_ldc2_2, go_ldc2_3, go_ldc2_4, go_ldc2_5, go_ldc2_6, go_ldc2_7, go_ldc2_8, go_ldc2_9, go_ldc2_10, go_ldc2_11, go_ldc2_12, go_ldc2_13, go_ldc2_14, go_ldc2_15, go_ldc2_16, go_ldc2_17, go_ldc2_18, go_ldc2_19, go_ldc2_20, go_ldc2_21, go_ldc2_22, go_ldc2_23, go_ldc2_24, go_ldc2_25, go_ldc2_26, go_ldc2_27, go_ldc2_28, go_ldc2_29, go_ldc2_30, go_ldc2_31, go_ldc2_32, go_ldc2_33, go_ldc2_34, go_ldc2_35, jCI_0, jCI_1, jCI_2, jCI_3, go_iload, go_iload_n, go_lload, go_lload_n, go_aload, go_aload_n, go_istore, go_istore_n, go_lstore, go_lstore_n, go_astore, go_astore_n, go_iadd, go_isub, go_imul, go_iand, go_ior, go_ixor, go_ishl, go_ishr, go_iushr, go_idiv, go_irem, go_ldiv, go_lrem, go_ineg, go_i2l, go_i2c, go_l2i, go_ladd, go_lsub, go_lmul, go_land, go_lor, go_lxor, go_lcmp, go_lshl, go_lshr, go_lushr, go_dup_i, go_dup_a, go_pop_i, go_pop_a, go_dup2, go_getstatic, go_getf_i, go_getf_z, go_getf_l, go_getf_a, go_putf_i, go_putf_l, go_putf_z, go_putf_a, go_iald, go_iald1, go_iald2, go_alen, go_alen2, go_cald, go_bald, go_lald, go_aald, go_iast, go_cast, go_bast, go_last, go_aast, go_new, go_newa, go_anew, go_objinit, go_max, go_min, go_strlen, go_charat, go_acopy, go_rests, go_goto, go_if_eq, go_ic_eq, go_if_ne, go_ic_ne, go_if_lt, go_ic_lt, go_if_ge, go_ic_ge, go_if_gt, go_ic_gt, go_if_le, go_ic_le, go_sw, go_ret, go_lret, go_aret, Nat.reduceAdd, Nat.reduceLT, Nat.reduceLeDiff, Nat.reduceEqDiff, Nat.reduceSub, and_true, true_and, if_true, if_false, and_self, Option.toList_some, Option.toList_none, List.cons_append, List.nil_append, List.length_cons, List.length_nil, Fin.isValue, Fin.reduceFinMk, Fin.val_zero, Fin.val_one, Fin.val_two, jFin3, jI_jsI, jI_jsL, jI_jsR, jL_jsI, jL_jsL, jL_jsR, jR_jsI, jR_jsL, jR_jsR, jN_jsI, jN_jsL, jN_jsR, jXn_jsI, jXn_jsL, jXn_jsR, jXs_jsI, jXs_jsL, jXs_jsR, jEx_jsI, jEx_jsL, jEx_jsR, jI_jXp, jL_jXp, jR_jXp, jN_jXp, jXn_jXp, jXs_jXp, jEx_jXp, jb_283_0, rt_283, en_283, js_0, js_1, js_2, js_3, js_4, js_5, js_6, js_7, js_8, js_9, js_10, js_11, js_12, js_13, js_14, js_15, js_16, js_17, js_18, js_19, js_20, js_21, js_22, js_23, js_24, js_25, js_26, js_27, js_28, js_29, js_30, js_31, js_32, js_33, js_34, js_35, js_36, js_37, js_38, js_39, js_40, js_41, js_42, js_43, js_44, js_45, js_46, js_47, js_48, js_49, js_50, js_51, js_52, js_53, js_54, js_55, js_56, js_57, js_58, js_59, js_60, js_61, js_62, js_63, js_64, js_65, js_66, js_67, js_68, js_69, js_70, js_71, js_72, js_73, js_74, js_75, js_76, js_77, js_78, js_79, js_80, js_81, js_82, js_83, js_84, js_85, js_86, js_87, js_88, js_89, js_90, js_91, js_92, js_93, js_94, js_95, js_96, js_97, js_98, js_99, js_100, js_101, js_102, js_103, js_104, js_105, js_106, js_107, js_108, js_109, js_110, js_111, js_112, js_113, js_114, js_115, js_116, js_117, js_118, js_119]
  rfl
theorem bcV_16 : ∀ x, x < 16 → bcV (nI x) = nI (pc4 x) := by decide +kernel
set_option maxRecDepth 100000 in
set_option maxHeartbeats 4000000 in
theorem J_bc16 {d : Nat} {h : jM} {K : Option Value → jM → Prop} {w : Nat} (hw : w < 16) : jCl d 283 [.int (nI w)] h K = K (some (.int (nI (pc4 w)))) h := by
  rw [J_bc, bcV_16 w hw]
