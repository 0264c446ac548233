/-! numbers: every int that is not below 0 as nI of its number; -1 is nO -/
def nO : Int32 := -1
def bI (a k : Nat) : Nat := if a.testBit k then 1 else 0
def bZ (c : Bool) : Int32 := nI (if c then 1 else 0)
/-- nobody, or one: 0 is nobody, k + 1 is k -/
def pI (p : Nat) : Int32 := match p with | 0 => nO | k + 1 => nI k
theorem lit_I {n : Nat} : (OfNat.ofNat n : Int32) = nI (OfNat.ofNat n) := rfl
theorem neg_1 : -(nI 1) = nO := rfl
theorem jCl_nI {n : Nat} (h : n < 2147483648) : (nI n).toNatClampNeg = n := nI_clamp h
theorem i_lt {a b : Nat} (ha : a < 2147483648) (hb : b < 2147483648) : (nI a < nI b) = (a < b) := propext (nI_ltI ha hb)
theorem i_le {a b : Nat} (ha : a < 2147483648) (hb : b < 2147483648) : (nI a ≤ nI b) = (a ≤ b) := propext (nI_leI ha hb)
theorem i_eq {a b : Nat} (ha : a < 2147483648) (hb : b < 2147483648) : (nI a = nI b) = (a = b) := propext (nI_eq ha hb)
theorem i_sub {a b : Nat} (h : b ≤ a) : nI a - nI b = nI (a - b) := pk_sub h
theorem i_div {a d : Nat} (ha : a < 2147483648) (h0 : 0 < d) (hd : d < 2147483648) : nI a / nI d = nI (a / d) := pk_div ha h0 hd
theorem i_and31 {k : Nat} (h : k < 32) : k &&& 31 = k := by rw [show (31 : Nat) = 2 ^ 5 - 1 from rfl, Nat.and_two_pow_sub_one_eq_mod]; omega
theorem i_rem {a d : Nat} (ha : a < 2147483648) (h0 : 0 < d) (hd : d < 2147483648) : nI a - nI (a / d * d) = nI (a % d) := by
  rw [i_sub (Nat.div_mul_le_self a d)]
  congr 1
  have := Nat.div_add_mod' a d
  omega
theorem i_smod : ∀ k, k < 32 → ((nI k).toBitVec.smod 32).toNat = k := by decide +kernel
theorem i_shl {a k : Nat} (hk : k < 32) : nI a <<< nI k = nI (a <<< k) := by
  apply Int32.toBitVec_inj.mp
  apply BitVec.eq_of_toNat_eq
  rw [pk_shl (nI a) (nI k) k (i_smod k hk)]
  show (nI a).toBitVec.toNat * 2 ^ k % 2 ^ 32 = (BitVec.ofNat 32 (a <<< k)).toNat
  rw [BitVec.toNat_ofNat, Nat.shiftLeft_eq]
  show (a % 2 ^ 32) * 2 ^ k % 2 ^ 32 = _
  rw [Nat.mod_mul_mod]
theorem i_shr {a k : Nat} (ha : a < 2147483648) (hk : k < 32) : nI a >>> nI k = nI (a >>> k) := by
  rw [pk_shrN ha (nI k) k (i_smod k hk), Nat.shiftRight_eq_div_pow]
theorem i_bit {a k : Nat} : a >>> k &&& 1 = bI a k := by
  unfold bI
  rw [Nat.testBit_eq_decide_div_mod_eq, Nat.shiftRight_eq_div_pow, Nat.and_one_is_mod]
  have := Nat.mod_two_eq_zero_or_one (a / 2 ^ k)
  rcases this with q | q <;> simp [q]
theorem bI_lt (a k : Nat) : bI a k < 2 := by unfold bI; split <;> omega
theorem bI_1 {a k : Nat} : (nI (bI a k) = nI 1) = (a.testBit k = true) := by unfold bI; split <;> simp_all <;> decide
theorem bI_0 {a k : Nat} : (nI (bI a k) = nI 0) = (a.testBit k = false) := by unfold bI; split <;> simp_all <;> decide
theorem bI_2 {a k b l : Nat} : (nI (bI a k) = nI (bI b l)) = (a.testBit k = b.testBit l) := by
  unfold bI
  cases h1 : a.testBit k <;> cases h2 : b.testBit l <;> simp <;> decide
theorem bZ_1 {c : Bool} : (bZ c = nI 1) = (c = true) := by cases c <;> simp [bZ] <;> decide
theorem bZ_0 {c : Bool} : (bZ c = nI 0) = (c = false) := by cases c <;> simp [bZ] <;> decide
theorem bZ_t : bZ true = nI 1 := rfl
theorem bZ_f : bZ false = nI 0 := rfl
theorem bZ_in {c : Bool} : (bZ c = nI 0 ∨ bZ c = nI 1) = True := by cases c <;> simp [bZ]
theorem bZ_2 {c e : Bool} : (bZ c = bZ e) = (c = e) := by cases c <;> cases e <;> simp [bZ] <;> decide
theorem bZ_ite {c : Prop} [Decidable c] : (if c then nI 1 else nI 0) = bZ (decide c) := by unfold bZ; by_cases h : c <;> simp [h]
theorem bZ_itn {c : Prop} [Decidable c] : (if c then nI 0 else nI 1) = bZ (!decide c) := by unfold bZ; by_cases h : c <;> simp [h]
theorem nO_lt {k : Nat} (h : k < 2147483648) : (nI k < nO) = False := by
  apply eq_false; intro q
  rw [Int32.lt_iff_toInt_lt, nI_toInt h] at q
  have : nO.toInt = -1 := by decide
  omega
theorem nO_gt {k : Nat} (h : k < 2147483648) : (nO < nI k) = True := by
  apply eq_true
  rw [Int32.lt_iff_toInt_lt, nI_toInt h]
  have : nO.toInt = -1 := by decide
  omega
theorem nO_le {k : Nat} (h : k < 2147483648) : (nI k ≤ nO) = False := by
  apply eq_false; intro q
  rw [Int32.le_iff_toInt_le, nI_toInt h] at q
  have : nO.toInt = -1 := by decide
  omega
theorem nO_ge {k : Nat} (h : k < 2147483648) : (nO ≤ nI k) = True := by
  apply eq_true
  rw [Int32.le_iff_toInt_le, nI_toInt h]
  have : nO.toInt = -1 := by decide
  omega
theorem nO_eq {k : Nat} (h : k < 2147483648) : (nI k = nO) = False := by
  apply eq_false; intro q
  have e := congrArg Int32.toInt q
  rw [nI_toInt h] at e
  have : nO.toInt = -1 := by decide
  omega
theorem nO_qe {k : Nat} (h : k < 2147483648) : (nO = nI k) = False := by
  apply eq_false; intro q
  exact (nO_eq h).mp q.symm
theorem nO_self : (nO < nO) = False := by decide
theorem nO_sele : (nO ≤ nO) = True := by decide
theorem nO_add : nO + nI 1 = nI 0 := rfl
theorem pI_0 : pI 0 = nO := rfl
theorem pI_s {k : Nat} : pI (k + 1) = nI k := rfl
theorem pI_nO {p : Nat} (h : p < 2147483648) : (pI p = nO) = (p = 0) := by
  cases p with
  | zero => simp [pI]
  | succ k => simp [pI, nO_eq (show k < 2147483648 by omega)]
theorem pI_lt0 {p : Nat} (h : p < 2147483648) : (pI p < nI 0) = (p = 0) := by
  cases p with
  | zero => simp [pI, nO_gt]
  | succ k => simp [pI, i_lt (show k < 2147483648 by omega)]
theorem pI_ge0 {p : Nat} (h : p < 2147483648) : (nI 0 ≤ pI p) = ¬ (p = 0) := by
  cases p with
  | zero => simp [pI, nO_le]
  | succ k => simp [pI, i_le (show (0 : Nat) < 2147483648 by omega) (show k < 2147483648 by omega)]
theorem pI_eq {p k : Nat} (h : p < 2147483648) (hk : k < 2147483647) : (pI p = nI k) = (p = k + 1) := by
  cases p with
  | zero => simp [pI, nO_qe (show k < 2147483648 by omega)]
  | succ j => simp [pI, i_eq (show j < 2147483648 by omega) (show k < 2147483648 by omega)]
theorem pI_add {p : Nat} : pI p + nI 1 = nI p := by
  cases p with
  | zero => rfl
  | succ k => exact nI_1 k
theorem i_max {a b : Nat} (ha : a < 2147483648) (hb : b < 2147483648) : (if nI b ≤ nI a then nI a else nI b) = nI (max a b) := by
  simp only [i_le hb ha]; split <;> congr 1 <;> omega
/-- what no call touches -/
theorem jFr.rf {h : jM} : jFr h h := ⟨rfl, rfl, rfl, rfl⟩
theorem jFr.tr {h h1 h2 : jM} (a : jFr h h1) (b : jFr h1 h2) : jFr h h2 := ⟨b.1.trans a.1, b.2.1.trans a.2.1, b.2.2.1.trans a.2.2.1, b.2.2.2.trans a.2.2.2⟩
/-- a stretch of steps: what a loop does, again and again -/
def jFo {σ : Type} (f : Nat → σ → σ) : Nat → σ → σ
  | 0, s => s
  | n + 1, s => f n (jFo f n s)
theorem jFor {σ : Type} (S : Nat → σ → Prop) (I : Nat → σ → Prop) (n : Nat) (st : ∀ i s, i < n → I i s → (∀ s', I (i + 1) s' → S (i + 1) s') → S i s) (ex : ∀ s, I n s → S n s) : ∀ k i s, i + k = n → I i s → S i s := by
  intro k
  induction k with
  | zero => intro i s hi h; have e : i = n := by omega
            subst e; exact ex s h
  | succ k ih => intro i s hi h; exact st i s (by omega) h (fun s' h' => ih (i + 1) s' (by omega) h')
theorem jForE {σ : Type} (S : Nat → σ → Prop) (f : Nat → σ → σ) (n : Nat) (st : ∀ i s, i < n → S i s = S (i + 1) (f i s)) (s : σ) : ∀ i, i ≤ n → S 0 s = S i (jFo f i s) := by
  intro i
  induction i with
  | zero => intro _; rfl
  | succ i ih => intro hi; rw [ih (by omega), st i _ (by omega)]; rfl
/-- a run has one answer -/
theorem jCl_one {d m : Nat} {as : List Value} {h : jM} {P : Option Value → jM → Prop} (e : jCl d m as h P) : ∃ r h', P r h' ∧ ∀ K, jCl d m as h K = K r h' := by
  obtain ⟨n, r, h', e1, k⟩ := e
  exact ⟨r, h', k, fun K => jGo_det ⟨n, r, h', e1, rfl, rfl⟩⟩
theorem jGo_one {d m : Nat} {is : List jIns} {ls st : List Value} {h : jM} {P : Option Value → jM → Prop} (e : jGo d m is ls st h P) : ∃ r h', P r h' ∧ ∀ K, jGo d m is ls st h K = K r h' := by
  obtain ⟨n, r, h', e1, k⟩ := e
  exact ⟨r, h', k, fun K => jGo_det ⟨n, r, h', e1, rfl, rfl⟩⟩
