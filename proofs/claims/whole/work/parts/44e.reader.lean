/-! towns: the class reads folk -/
def addT (T : kT) : kT := (tF T + 1, tB T, tW T, tN T, tO T)
def addP (D : kP) (t p : Nat) : kP := if t = 0 then (addT D.1, D.2.1, uN1 D.2.2 (tF D.1) p) else (D.1, addT D.2.1, uN1 D.2.2 (4 + tF D.2.1) p)
def fkP (a : kA) (D : kP) (p : Nat) : kO := if isNm a (nx a p) then (if whoN a D (nx a p) = 0 then (if rw' a (nx a (nx a p)) = 2 then (if kd a (nx a (nx a (nx a p))) = 2 then (if nm a (nx a (nx a (nx a p))) = 1 ∨ nm a (nx a (nx a (nx a p))) = 2 then (if tF (tw D.1 D.2.1 (nm a (nx a (nx a (nx a p))) - 1)) < 4 then (0, addP D (nm a (nx a (nx a (nx a p))) - 1) (nx a p), nx a (nx a (nx a p))) else (er 5 (nx a (nx a (nx a p))), D, nx a (nx a (nx a p)))) else (er 4 (nx a (nx a (nx a p))), D, nx a (nx a (nx a p)))) else (er 1 (nx a (nx a (nx a p))), D, nx a (nx a (nx a p)))) else (er 1 (nx a (nx a p)), D, nx a (nx a p))) else (er 3 (nx a p), D, nx a p)) else (er 1 (nx a p), D, nx a p)
def mSe (h : jM) (a : kA) (t f p : Nat) : jM := jsI (jsI (jsI h 67 (t * 4 + f) (nI p)) 68 (t * 4 + f) (nI (en a p))) (dAd t) 0 (nI (f + 1))
theorem mSe_f {a : kA} {h : jM} {t : Nat} {f p : Nat} (ht : t < 2) : fI cS h (mSe h a t f p) := ((fI_w (by decide)).tr (fI_w (by decide))).tr (fI_w (by rcases dA_s ht with ⟨e, -⟩ | ⟨e, -⟩ <;> rw [e] <;> decide))
theorem mSe_1 {a : kA} {h : jM} {t : Nat} {f p : Nat} (ht : t < 2) : jI (mSe h a t f p) 1 = jI h 1 := by
  unfold mSe
  funext k
  rw [jI_jsI, if_neg (by rcases dA_s ht with ⟨e, -⟩ | ⟨e, -⟩ <;> rw [e] <;> omega), jI_jsI, if_neg (by omega), jI_jsI, if_neg (by omega)]
theorem mSe_CD {a : kA} {D : kP} {h : jM} {t : Nat} {p : Nat} (x : CD h a D) (ht : t < 2) (f4 : tF (tw D.1 D.2.1 t) < 4) : CD (mSe h a t (tF (tw D.1 D.2.1 t)) p) a (addP D t p) := by
  obtain ⟨⟨⟨a1, a2, a3, a4, a5⟩, ⟨b1, b2, b3, b4, b5⟩⟩, x3⟩ := x
  rcases (show t = 0 ∨ t = 1 by omega) with rfl | rfl
  · have e0 : tw D.1 D.2.1 0 = D.1 := rfl
    rw [e0] at f4 ⊢
    unfold addP mSe
    rw [if_pos rfl, show dAd 0 = 12 from rfl]
    refine ⟨⟨⟨?_, ?_, ?_, fun i hi => ?_, fun i hi => ?_⟩, ⟨?_, ?_, ?_, fun i hi => ?_, fun i hi => ?_⟩⟩, fun i hi e => ?_⟩
    · rw [jI_jsI, if_pos ⟨rfl, rfl⟩]; rfl
    · rw [jI_jsI, if_neg (by omega), jI_jsI, if_neg (by omega), jI_jsI, if_neg (by omega)]; exact a2
    · rw [jI_jsI, if_neg (by omega), jI_jsI, if_neg (by omega), jI_jsI, if_neg (by omega)]; exact a3
    · rw [jI_jsI, if_neg (by omega), jI_jsI, if_neg (by omega), jI_jsI, if_neg (by omega)]; exact a4 i hi
    · rw [jI_jsI, if_neg (by omega), jI_jsI, if_neg (by omega), jI_jsI, if_neg (by omega)]; exact a5 i hi
    · rw [jI_jsI, if_neg (by omega), jI_jsI, if_neg (by omega), jI_jsI, if_neg (by omega)]; exact b1
    · rw [jI_jsI, if_neg (by omega), jI_jsI, if_neg (by omega), jI_jsI, if_neg (by omega)]; exact b2
    · rw [jI_jsI, if_neg (by omega), jI_jsI, if_neg (by omega), jI_jsI, if_neg (by omega)]; exact b3
    · rw [jI_jsI, if_neg (by omega), jI_jsI, if_neg (by omega), jI_jsI, if_neg (by omega)]; exact b4 i hi
    · rw [jI_jsI, if_neg (by omega), jI_jsI, if_neg (by omega), jI_jsI, if_neg (by omega)]; exact b5 i hi
    · show jI (jsI _ 12 0 _) 67 i = nI (uN1 D.2.2 (tF D.1) p i) ∧ jI (jsI _ 12 0 _) 68 i = nI (en a (uN1 D.2.2 (tF D.1) p i))
      by_cases c : i = tF D.1
      · subst c
        rw [uN1_s]
        refine ⟨?_, ?_⟩
        · rw [jI_jsI, if_neg (by omega), jI_jsI, if_neg (by omega), jI_jsI, if_pos ⟨rfl, by omega⟩]
        · rw [jI_jsI, if_neg (by omega), jI_jsI, if_pos ⟨rfl, by omega⟩]
      · rw [uN1_n c]
        have eo : inP D i = true := by
          unfold inP tw at *
          rw [decide_eq_true_eq] at *
          rcases (show i / 4 = 0 ∨ i / 4 = 1 by omega) with z | z
          · rw [z, if_pos rfl] at e ⊢
            have e' : i % 4 < tF D.1 + 1 := e
            omega
          · rw [z, if_neg (by omega)] at e ⊢
            exact e
        obtain ⟨y1, y2⟩ := x3 i hi eo
        refine ⟨?_, ?_⟩
        · rw [jI_jsI, if_neg (by omega), jI_jsI, if_neg (by omega), jI_jsI, if_neg (by omega)]; exact y1
        · rw [jI_jsI, if_neg (by omega), jI_jsI, if_neg (by omega), jI_jsI, if_neg (by omega)]; exact y2
  · have e0 : tw D.1 D.2.1 1 = D.2.1 := rfl
    rw [e0] at f4 ⊢
    unfold addP mSe
    rw [if_neg (by omega), show dAd 1 = 15 from rfl]
    refine ⟨⟨⟨?_, ?_, ?_, fun i hi => ?_, fun i hi => ?_⟩, ⟨?_, ?_, ?_, fun i hi => ?_, fun i hi => ?_⟩⟩, fun i hi e => ?_⟩
    · rw [jI_jsI, if_neg (by omega), jI_jsI, if_neg (by omega), jI_jsI, if_neg (by omega)]; exact a1
    · rw [jI_jsI, if_neg (by omega), jI_jsI, if_neg (by omega), jI_jsI, if_neg (by omega)]; exact a2
    · rw [jI_jsI, if_neg (by omega), jI_jsI, if_neg (by omega), jI_jsI, if_neg (by omega)]; exact a3
    · rw [jI_jsI, if_neg (by omega), jI_jsI, if_neg (by omega), jI_jsI, if_neg (by omega)]; exact a4 i hi
    · rw [jI_jsI, if_neg (by omega), jI_jsI, if_neg (by omega), jI_jsI, if_neg (by omega)]; exact a5 i hi
    · rw [jI_jsI, if_pos ⟨rfl, rfl⟩]; rfl
    · rw [jI_jsI, if_neg (by omega), jI_jsI, if_neg (by omega), jI_jsI, if_neg (by omega)]; exact b2
    · rw [jI_jsI, if_neg (by omega), jI_jsI, if_neg (by omega), jI_jsI, if_neg (by omega)]; exact b3
    · rw [jI_jsI, if_neg (by omega), jI_jsI, if_neg (by omega), jI_jsI, if_neg (by omega)]; exact b4 i hi
    · rw [jI_jsI, if_neg (by omega), jI_jsI, if_neg (by omega), jI_jsI, if_neg (by omega)]; exact b5 i hi
    · show jI (jsI _ 15 0 _) 67 i = nI (uN1 D.2.2 (4 + tF D.2.1) p i) ∧ jI (jsI _ 15 0 _) 68 i = nI (en a (uN1 D.2.2 (4 + tF D.2.1) p i))
      by_cases c : i = 4 + tF D.2.1
      · subst c
        rw [uN1_s]
        refine ⟨?_, ?_⟩
        · rw [jI_jsI, if_neg (by omega), jI_jsI, if_neg (by omega), jI_jsI, if_pos ⟨rfl, by omega⟩]
        · rw [jI_jsI, if_neg (by omega), jI_jsI, if_pos ⟨rfl, by omega⟩]
      · rw [uN1_n c]
        have eo : inP D i = true := by
          unfold inP tw at *
          rw [decide_eq_true_eq] at *
          rcases (show i / 4 = 0 ∨ i / 4 = 1 by omega) with z | z
          · rw [z, if_pos rfl] at e ⊢
            exact e
          · rw [z, if_neg (by omega)] at e ⊢
            have e' : i % 4 < tF D.2.1 + 1 := e
            omega
        obtain ⟨y1, y2⟩ := x3 i hi eo
        refine ⟨?_, ?_⟩
        · rw [jI_jsI, if_neg (by omega), jI_jsI, if_neg (by omega), jI_jsI, if_neg (by omega)]; exact y1
        · rw [jI_jsI, if_neg (by omega), jI_jsI, if_neg (by omega), jI_jsI, if_neg (by omega)]; exact y2
