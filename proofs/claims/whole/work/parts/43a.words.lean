/-! tokens: words and their values -/
def txN : List Nat := [102, 111, 108, 107, 32, 111, 102, 32, 98, 97, 107, 101, 114, 32, 119, 105, 100, 111, 119, 32, 110, 101, 97, 114, 32, 111, 119, 101, 115, 32, 115, 97, 109, 101, 32, 110, 111, 116, 32, 97, 110, 100, 32, 111, 114, 32, 115, 111, 109, 101, 32, 97, 108, 108, 32, 116, 119, 111, 32, 120, 32, 121, 32, 122, 32, 117, 32]
def tx (i : Nat) : Nat := txN.getD i 0
theorem tx_J : ∀ i, i < 67 → jTxt.getD i 0 = nI (tx i) := by decide
def wSt : List Nat := [0, 5, 8, 14, 20, 25, 30, 35, 39, 43, 46, 51, 55, 59, 61, 63, 65, 67]
def wLn : List Nat := [4, 2, 5, 5, 4, 4, 4, 3, 3, 2, 4, 3, 3, 1, 1, 1, 1]
/-- a word's value: base 37, a is 1 -/
def vW (g : Nat → Nat) : Nat → Nat
  | 0 => 0
  | L + 1 => 37 * vW g L + (g L - 96)
def isLt (c : Nat) : Bool := decide (97 ≤ c) && decide (c ≤ 122)
theorem isLt_e {c : Nat} : isLt c = true ↔ 97 ≤ c ∧ c ≤ 122 := by unfold isLt; rw [Bool.and_eq_true, decide_eq_true_eq, decide_eq_true_eq]
theorem vW_pos {g : Nat → Nat} {L : Nat} (h : ∀ j, j < L → isLt (g j) = true) (h0 : 0 < L) : 0 < vW g L := by
  obtain ⟨k, rfl⟩ : ∃ k, L = k + 1 := ⟨L - 1, by omega⟩
  have := isLt_e.mp (h k (by omega))
  unfold vW
  omega
theorem vW_inj : ∀ (L M : Nat) (g f : Nat → Nat), (∀ j, j < L → isLt (g j) = true) → (∀ j, j < M → isLt (f j) = true) → (vW g L = vW f M ↔ L = M ∧ ∀ j, j < L → g j = f j) := by
  intro L
  induction L with
  | zero =>
    intro M g f _ hf
    constructor
    · intro e
      cases M with
      | zero => exact ⟨rfl, fun j hj => by omega⟩
      | succ M =>
        have := vW_pos hf (by omega)
        have e0 : vW g 0 = 0 := rfl
        omega
    · rintro ⟨rfl, -⟩; rfl
  | succ L ih =>
    intro M g f hg hf
    cases M with
    | zero =>
      constructor
      · intro e
        have := vW_pos hg (by omega)
        have e0 : vW f 0 = 0 := rfl
        omega
      · rintro ⟨e, -⟩; omega
    | succ M =>
      have a := isLt_e.mp (hg L (by omega))
      have b := isLt_e.mp (hf M (by omega))
      have i := ih M g f (fun j hj => hg j (by omega)) (fun j hj => hf j (by omega))
      have e1 : vW g (L + 1) = 37 * vW g L + (g L - 96) := rfl
      have e2 : vW f (M + 1) = 37 * vW f M + (f M - 96) := rfl
      rw [e1, e2]
      constructor
      · intro e
        have v : vW g L = vW f M := by omega
        obtain ⟨rfl, z⟩ := i.mp v
        refine ⟨rfl, fun j hj => ?_⟩
        by_cases c : j = L
        · subst c; omega
        · exact z j (by omega)
      · rintro ⟨e, z⟩
        have e3 : L = M := by omega
        subst e3
        rw [i.mpr ⟨rfl, fun j hj => z j (by omega)⟩, z L (by omega)]
theorem w_tab : ∀ k, k < 17 → wSt.getD k 0 + wLn.getD k 0 + 1 = wSt.getD (k + 1) 0 ∧ tx (wSt.getD k 0 + wLn.getD k 0) = 32 ∧ (∀ j, j < wLn.getD k 0 → isLt (tx (wSt.getD k 0 + j)) = true) ∧ wds.getD k 0 = vW (fun j => tx (wSt.getD k 0 + j)) (wLn.getD k 0) ∧ 0 < wLn.getD k 0 := by decide +kernel
/-- which reserved word a value is: 0 none, else its number and 1 -/
def rJ (v : Nat) : Nat → Nat → Nat
  | 0, _ => 0
  | n + 1, k => if wds.getD k 0 = v then k + 1 else rJ v n (k + 1)
def rI (v : Nat) : Nat := rJ v 17 0
theorem rI_e : ∀ k, k < 17 → rI (wds.getD k 0) = k + 1 := by decide +kernel
theorem rJ_ok {v : Nat} : ∀ n k, rJ v n k = 0 ∨ ∃ j, k ≤ j ∧ j < k + n ∧ rJ v n k = j + 1 ∧ wds.getD j 0 = v := by
  intro n
  induction n with
  | zero => intro k; exact Or.inl rfl
  | succ n ih =>
    intro k
    unfold rJ
    by_cases c : wds.getD k 0 = v
    · rw [if_pos c]; exact Or.inr ⟨k, Nat.le_refl _, by omega, rfl, c⟩
    · rw [if_neg c]
      rcases ih (k + 1) with z | ⟨j, a, b, c, d⟩
      · exact Or.inl z
      · exact Or.inr ⟨j, by omega, by omega, c, d⟩
theorem rI_iff {v k : Nat} (hk : k < 17) : rI v = k + 1 ↔ v = wds.getD k 0 := by
  constructor
  · intro e
    rcases rJ_ok (v := v) 17 0 with z | ⟨j, -, b, c, d⟩
    · have : rI v = 0 := z
      omega
    · have : rI v = j + 1 := c
      have : j = k := by omega
      subst this; exact d.symm
  · intro e; subst e; exact rI_e k hk
theorem rI_le {v : Nat} : rI v ≤ 17 := by
  rcases rJ_ok (v := v) 17 0 with z | ⟨j, -, b, c, -⟩
  · have : rI v = 0 := z
    omega
  · have : rI v = j + 1 := c
    omega
/-- the class's search for a reserved word: where in the text, found so far, matched (0 no longer) -/
def rsv (L : Nat) (g : Nat → Nat) : Nat → Nat → Nat → Nat → Nat
  | 0, _, _, _ => 0
  | n + 1, i, fd, m => if tx i = 32 then (if m = L + 1 then fd + 1 else rsv L g n (i + 1) (fd + 1) 1) else rsv L g n (i + 1) fd (if m = 0 then 0 else if m - 1 < L ∧ g (m - 1) = tx i then m + 1 else 0)
theorem rsv_s {L : Nat} {g : Nat → Nat} {n i fd m : Nat} : rsv L g (n + 1) i fd m = if tx i = 32 then (if m = L + 1 then fd + 1 else rsv L g n (i + 1) (fd + 1) 1) else rsv L g n (i + 1) fd (if m = 0 then 0 else if m - 1 < L ∧ g (m - 1) = tx i then m + 1 else 0) := rfl
theorem rsv_w {L : Nat} {g : Nat → Nat} {l s fd n : Nat} (hw : ∀ j, j < l → isLt (tx (s + j)) = true) (hs : tx (s + l) = 32) : ∀ (r j m : Nat), j + r = l → (m = j + 1 ∧ j ≤ L ∧ (∀ i, i < j → g i = tx (s + i)) ∨ m = 0 ∧ ¬ (j ≤ L ∧ ∀ i, i < j → g i = tx (s + i))) → rsv L g (r + 1 + n) (s + j) fd m = if L = l ∧ ∀ i, i < l → g i = tx (s + i) then fd + 1 else rsv L g n (s + l + 1) (fd + 1) 1 := by
  intro r
  induction r with
  | zero =>
    intro j m hj hm
    have ej : j = l := by omega
    subst ej
    rw [show 0 + 1 + n = n + 1 by omega]
    rw [rsv_s, if_pos hs]
    rcases hm with ⟨rfl, a, b⟩ | ⟨rfl, a⟩
    · by_cases c : L = j
      · rw [if_pos (by omega), if_pos ⟨c, b⟩]
      · rw [if_neg (by omega), if_neg (fun z => c z.1)]
    · rw [if_neg (by omega), if_neg (fun z => a ⟨by omega, z.2⟩)]
  | succ r ih =>
    intro j m hj hm
    have w := isLt_e.mp (hw j (by omega))
    rw [show r + 1 + 1 + n = (r + 1 + n) + 1 by omega, rsv_s, if_neg (by omega), show s + j + 1 = s + (j + 1) by omega]
    apply ih (j + 1) _ (by omega)
    rcases hm with ⟨rfl, a, b⟩ | ⟨rfl, a⟩
    · rw [if_neg (by omega), show j + 1 - 1 = j by omega]
      by_cases c : j < L ∧ g j = tx (s + j)
      · rw [if_pos c]
        refine Or.inl ⟨rfl, by omega, fun i hi => ?_⟩
        by_cases e : i = j
        · subst e; exact c.2
        · exact b i (by omega)
      · rw [if_neg c]
        refine Or.inr ⟨rfl, fun z => c ⟨by omega, z.2 j (by omega)⟩⟩
    · rw [if_pos rfl]
      refine Or.inr ⟨rfl, fun z => a ⟨by omega, fun i hi => z.2 i (by omega)⟩⟩
theorem rsv_k {L : Nat} {g : Nat → Nat} (hg : ∀ j, j < L → isLt (g j) = true) : ∀ n k, k + n = 17 → rsv L g (67 - wSt.getD k 0) (wSt.getD k 0) k 1 = rJ (vW g L) n k := by
  intro n
  induction n with
  | zero =>
    intro k hk
    have : k = 17 := by omega
    subst this; rfl
  | succ n ih =>
    intro k hk
    obtain ⟨t1, t2, t3, t4, t5⟩ := w_tab k (by omega)
    have b : wSt.getD (k + 1) 0 ≤ 67 := by
      have : ∀ k, k < 17 → wSt.getD (k + 1) 0 ≤ 67 := by decide
      exact this k (by omega)
    have z := rsv_w (L := L) (g := g) (fd := k) (n := 67 - wSt.getD (k + 1) 0) t3 t2 (wLn.getD k 0) 0 1 (by omega) (Or.inl ⟨rfl, by omega, fun i hi => by omega⟩)
    rw [show wSt.getD k 0 + 0 = wSt.getD k 0 from rfl, show wLn.getD k 0 + 1 + (67 - wSt.getD (k + 1) 0) = 67 - wSt.getD k 0 by omega, t1, ih (k + 1) (by omega)] at z
    rw [z]
    have i := vW_inj L (wLn.getD k 0) g (fun j => tx (wSt.getD k 0 + j)) hg t3
    rw [← t4] at i
    show _ = if wds.getD k 0 = vW g L then k + 1 else rJ (vW g L) n (k + 1)
    by_cases c : vW g L = wds.getD k 0
    · obtain ⟨a1, a2⟩ := i.mp c
      have p1 : wds.getD k 0 = vW g L := c.symm
      have p2 : L = wLn.getD k 0 ∧ ∀ i, i < wLn.getD k 0 → g i = tx (wSt.getD k 0 + i) := ⟨a1, fun i hi => a2 i (by omega)⟩
      rw [if_pos p1, if_pos p2]
    · have n1 : ¬ (wds.getD k 0 = vW g L) := fun e => c e.symm
      have n2 : ¬ (L = wLn.getD k 0 ∧ ∀ i, i < wLn.getD k 0 → g i = tx (wSt.getD k 0 + i)) := fun a => c (i.mpr ⟨a.1, fun j hj => a.2 j (by omega)⟩)
      rw [if_neg n1, if_neg n2]
theorem rsv_e {L : Nat} {g : Nat → Nat} (hg : ∀ j, j < L → isLt (g j) = true) : rsv L g 67 0 0 1 = rI (vW g L) := rsv_k hg 17 0 rfl
