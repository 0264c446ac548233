/-! memory, read behind a write; the shapes of the names -/
theorem jI_jsI {h : jM} {o k a b : Nat} {v : Int32} : jI (jsI h o k v) a b = if a = o ∧ b = k then v else jI h a b := rfl
theorem jI_jsL {h : jM} {o k : Nat} {v : Int64} : jI (jsL h o k v) = jI h := rfl
theorem jI_jsR {h : jM} {o k : Nat} {v : Nat} : jI (jsR h o k v) = jI h := rfl
theorem jL_jsI {h : jM} {o k : Nat} {v : Int32} : jL (jsI h o k v) = jL h := rfl
theorem jL_jsL {h : jM} {o k a b : Nat} {v : Int64} : jL (jsL h o k v) a b = if a = o ∧ b = k then v else jL h a b := rfl
theorem jL_jsR {h : jM} {o k : Nat} {v : Nat} : jL (jsR h o k v) = jL h := rfl
theorem jR_jsI {h : jM} {o k : Nat} {v : Int32} : jR (jsI h o k v) = jR h := rfl
theorem jR_jsL {h : jM} {o k : Nat} {v : Int64} : jR (jsL h o k v) = jR h := rfl
theorem jR_jsR {h : jM} {o k a b : Nat} {v : Nat} : jR (jsR h o k v) a b = if a = o ∧ b = k then v else jR h a b := rfl
theorem jN_jsI {h : jM} {o k : Nat} {v : Int32} : jN (jsI h o k v) = jN h := rfl
theorem jN_jsL {h : jM} {o k : Nat} {v : Int64} : jN (jsL h o k v) = jN h := rfl
theorem jN_jsR {h : jM} {o k : Nat} {v : Nat} : jN (jsR h o k v) = jN h := rfl
theorem jXn_jsI {h : jM} {o k : Nat} {v : Int32} : jXn (jsI h o k v) = jXn h := rfl
theorem jXn_jsL {h : jM} {o k : Nat} {v : Int64} : jXn (jsL h o k v) = jXn h := rfl
theorem jXn_jsR {h : jM} {o k : Nat} {v : Nat} : jXn (jsR h o k v) = jXn h := rfl
theorem jXs_jsI {h : jM} {o k : Nat} {v : Int32} : jXs (jsI h o k v) = jXs h := rfl
theorem jXs_jsL {h : jM} {o k : Nat} {v : Int64} : jXs (jsL h o k v) = jXs h := rfl
theorem jXs_jsR {h : jM} {o k : Nat} {v : Nat} : jXs (jsR h o k v) = jXs h := rfl
theorem js_0 : jS 0 = (10, 17) := rfl
theorem js_1 : jS 1 = (7, 8) := rfl
theorem js_2 : jS 2 = (102, 1000) := rfl
theorem js_3 : jS 3 = (6, 7) := rfl
theorem js_4 : jS 4 = (8, 5) := rfl
theorem js_5 : jS 5 = (100, 4) := rfl
theorem js_6 : jS 6 = (100, 4) := rfl
theorem js_7 : jS 7 = (8, 5) := rfl
theorem js_8 : jS 8 = (100, 4) := rfl
theorem js_9 : jS 9 = (100, 4) := rfl
theorem js_10 : jS 10 = (100, 4) := rfl
theorem js_11 : jS 11 = (6, 7) := rfl
theorem js_12 : jS 12 = (8, 5) := rfl
theorem js_13 : jS 13 = (100, 4) := rfl
theorem js_14 : jS 14 = (100, 4) := rfl
theorem js_15 : jS 15 = (8, 5) := rfl
theorem js_16 : jS 16 = (100, 4) := rfl
theorem js_17 : jS 17 = (100, 4) := rfl
theorem js_18 : jS 18 = (100, 4) := rfl
theorem js_19 : jS 19 = (104, 4) := rfl
theorem js_20 : jS 20 = (6, 7) := rfl
theorem js_21 : jS 21 = (8, 5) := rfl
theorem js_22 : jS 22 = (100, 4) := rfl
theorem js_23 : jS 23 = (100, 4) := rfl
theorem js_24 : jS 24 = (8, 5) := rfl
theorem js_25 : jS 25 = (100, 4) := rfl
theorem js_26 : jS 26 = (100, 4) := rfl
theorem js_27 : jS 27 = (100, 4) := rfl
theorem js_28 : jS 28 = (6, 7) := rfl
theorem js_29 : jS 29 = (8, 5) := rfl
theorem js_30 : jS 30 = (100, 4) := rfl
theorem js_31 : jS 31 = (100, 4) := rfl
theorem js_32 : jS 32 = (8, 5) := rfl
theorem js_33 : jS 33 = (100, 4) := rfl
theorem js_34 : jS 34 = (100, 4) := rfl
theorem js_35 : jS 35 = (100, 4) := rfl
theorem js_36 : jS 36 = (6, 7) := rfl
theorem js_37 : jS 37 = (8, 5) := rfl
theorem js_38 : jS 38 = (100, 4) := rfl
theorem js_39 : jS 39 = (100, 4) := rfl
theorem js_40 : jS 40 = (8, 5) := rfl
theorem js_41 : jS 41 = (100, 4) := rfl
theorem js_42 : jS 42 = (100, 4) := rfl
theorem js_43 : jS 43 = (100, 4) := rfl
theorem js_44 : jS 44 = (6, 7) := rfl
theorem js_45 : jS 45 = (8, 5) := rfl
theorem js_46 : jS 46 = (100, 4) := rfl
theorem js_47 : jS 47 = (100, 4) := rfl
theorem js_48 : jS 48 = (8, 5) := rfl
theorem js_49 : jS 49 = (100, 4) := rfl
theorem js_50 : jS 50 = (100, 4) := rfl
theorem js_51 : jS 51 = (100, 4) := rfl
theorem js_52 : jS 52 = (103, 4) := rfl
theorem js_53 : jS 53 = (100, 16) := rfl
theorem js_54 : jS 54 = (2, 11) := rfl
theorem js_55 : jS 55 = (100, 60) := rfl
theorem js_56 : jS 56 = (100, 60) := rfl
theorem js_57 : jS 57 = (100, 60) := rfl
theorem js_58 : jS 58 = (100, 60) := rfl
theorem js_59 : jS 59 = (101, 240) := rfl
theorem js_60 : jS 60 = (2, 11) := rfl
theorem js_61 : jS 61 = (100, 60) := rfl
theorem js_62 : jS 62 = (100, 60) := rfl
theorem js_63 : jS 63 = (100, 60) := rfl
theorem js_64 : jS 64 = (100, 60) := rfl
theorem js_65 : jS 65 = (101, 240) := rfl
theorem js_66 : jS 66 = (9, 2) := rfl
theorem js_67 : jS 67 = (100, 8) := rfl
theorem js_68 : jS 68 = (100, 8) := rfl
theorem js_69 : jS 69 = (3, 0) := rfl
theorem js_70 : jS 70 = (0, 11) := rfl
theorem js_71 : jS 71 = (8, 5) := rfl
theorem js_72 : jS 72 = (100, 4) := rfl
theorem js_73 : jS 73 = (100, 4) := rfl
theorem js_74 : jS 74 = (100, 4) := rfl
theorem js_75 : jS 75 = (100, 2) := rfl
theorem js_76 : jS 76 = (100, 625) := rfl
theorem js_77 : jS 77 = (100, 625) := rfl
theorem js_78 : jS 78 = (100, 625) := rfl
theorem js_79 : jS 79 = (5, 3) := rfl
theorem js_80 : jS 80 = (100, 185) := rfl
theorem js_81 : jS 81 = (100, 625) := rfl
theorem js_82 : jS 82 = (4, 7) := rfl
theorem js_83 : jS 83 = (100, 8) := rfl
theorem js_84 : jS 84 = (100, 8) := rfl
theorem js_85 : jS 85 = (100, 16) := rfl
theorem js_86 : jS 86 = (8, 5) := rfl
theorem js_87 : jS 87 = (100, 4) := rfl
theorem js_88 : jS 88 = (100, 4) := rfl
theorem js_89 : jS 89 = (1, 3) := rfl
theorem js_90 : jS 90 = (8, 5) := rfl
theorem js_91 : jS 91 = (100, 4) := rfl
theorem js_92 : jS 92 = (100, 4) := rfl
theorem js_93 : jS 93 = (11, 39) := rfl
theorem js_94 : jS 94 = (100, 1000) := rfl
theorem js_95 : jS 95 = (100, 1002) := rfl
theorem js_96 : jS 96 = (100, 1002) := rfl
theorem js_97 : jS 97 = (101, 1002) := rfl
theorem js_98 : jS 98 = (101, 17) := rfl
theorem js_99 : jS 99 = (100, 44) := rfl
theorem js_100 : jS 100 = (101, 8) := rfl
theorem js_101 : jS 101 = (100, 8) := rfl
theorem js_102 : jS 102 = (100, 120) := rfl
theorem js_103 : jS 103 = (100, 120) := rfl
theorem js_104 : jS 104 = (100, 120) := rfl
theorem js_105 : jS 105 = (100, 120) := rfl
theorem js_106 : jS 106 = (100, 4) := rfl
theorem js_107 : jS 107 = (100, 4) := rfl
theorem js_108 : jS 108 = (100, 4) := rfl
theorem js_109 : jS 109 = (100, 4) := rfl
theorem js_110 : jS 110 = (100, 638) := rfl
theorem js_111 : jS 111 = (103, 4) := rfl
theorem js_112 : jS 112 = (100, 4) := rfl
theorem js_113 : jS 113 = (100, 4913) := rfl
theorem js_114 : jS 114 = (100, 3) := rfl
theorem js_115 : jS 115 = (100, 8) := rfl
theorem js_116 : jS 116 = (100, 8) := rfl
theorem js_117 : jS 117 = (100, 4) := rfl
theorem js_118 : jS 118 = (100, 4) := rfl
theorem js_119 : jS 119 = (101, 1) := rfl
theorem jFin3 : ((3 : Fin 4) : Nat) = 3 := rfl
theorem jEx_jsI {h : jM} {o k : Nat} {v : Int32} : jEx (jsI h o k v) = jEx h := rfl
theorem jEx_jsL {h : jM} {o k : Nat} {v : Int64} : jEx (jsL h o k v) = jEx h := rfl
theorem jEx_jsR {h : jM} {o k : Nat} {v : Nat} : jEx (jsR h o k v) = jEx h := rfl
theorem jI_jXp {h : jM} : jI (jXp h) = jI h := rfl
theorem jL_jXp {h : jM} : jL (jXp h) = jL h := rfl
theorem jR_jXp {h : jM} : jR (jXp h) = jR h := rfl
theorem jN_jXp {h : jM} : jN (jXp h) = jN h := rfl
theorem jXn_jXp {h : jM} : jXn (jXp h) = jXn h := rfl
theorem jXs_jXp {h : jM} : jXs (jXp h) = jXs h := rfl
theorem jEx_jXp {h : jM} : jEx (jXp h) = jEx h + 1 := rfl
