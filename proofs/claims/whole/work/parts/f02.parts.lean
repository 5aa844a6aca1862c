/-! Constructors of parts. -/
theorem ce_K {B B' : bm_H} {y v : Nat} (h : ce B B' y) (q : bm_K B y = v) : bm_K B' y = v := h.2.1.trans q
theorem ce_AL {B B' : bm_H} {y v : Nat} (h : ce B B' y) (q : bm_AL B y = v) : bm_AL B' y = v := h.2.2.1.trans q
theorem ce_FI {B B' : bm_H} {y c k : Nat} {v : Int32} (h : ce B B' y) (q : bm_FI B c k y = v) : bm_FI B' c k y = v := (h.2.2.2.1 c k).trans q
theorem ce_FR {B B' : bm_H} {y c k : Nat} {v : Option Nat} (h : ce B B' y) (q : bm_FR B c k y = v) : bm_FR B' c k y = v := (h.2.2.2.2.1 c k).trans q
theorem ce_AI {B B' : bm_H} {y : Nat} {v : Nat → Int32} (h : ce B B' y) (q : bm_AI B y = v) : bm_AI B' y = v := h.2.2.2.2.2.1.trans q
theorem ce_AR {B B' : bm_H} {y i : Nat} {v : Option Nat} (h : ce B B' y) (q : bm_AR B y i = v) : bm_AR B' y i = v := (congrFun h.2.2.2.2.2.2 i).trans q
theorem ars_step {B : bm_H} {a k : Nat} {f : Nat → Nat} (h : ∀ i, i < k → bm_AR B a i = some (f i)) : ∀ i, i < k + 1 → bm_AR (bm_setR B a k (some (f k))) a i = some (f i) := by
  intro i hi
  by_cases q : i = k
  · subst q; exact AR_set _ _ _ _
  · exact (AR_setj _ _ _ q).trans (h i (by omega))
/-- made: what lies from m on -/
def Mk (P : bm_H → Prop) (ln sl c : Nat) (B0 B' : bm_H) (m : Nat) : Prop := fr0 B0 B' ∧ (bm_n B' = m + ln ∧ bm_sl B' = bm_sl B0 + sl) ∧ stb P m (m + ln) B' ∧ m < bm_n B' ∧ bm_K B' m = c
def eIn : IB := (tz, tz, 0, [])
def eSe : SS := (eIn, tz, tz, tz, tz, 0, 0, false, tz, tz, false)
def eGv : GV := (eIn, 0, false)
def ePk : PK := (tz, 0, [])
def eMe : MM := (0, 0, 0, 0, tz, tz, 0, 0, false, fun _ => [])
def eDe (id : Tm) : DV := (id, ePk, ePk, [], 0, fun _ => [], fun _ => eMe)
def eSw : SW := (false, fun _ => false, fun _ _ => false)
def PIn (m : Nat) (B : bm_H) : Prop := ∀ T, tv T 0 tz → RIn B T m eIn
def PSe (m : Nat) (B : bm_H) : Prop := ∀ T, tv T 0 tz → RSe B T m eSe
def PGv (m : Nat) (B : bm_H) : Prop := ∀ T, tv T 0 tz → RGv B T m eGv
def PPk (m : Nat) (B : bm_H) : Prop := ∀ T, tv T 0 tz → RPk B T m ePk
def PMe (m : Nat) (B : bm_H) : Prop := ∀ T, tv T 0 tz → RMe B T m (fun _ => false) eMe
def PDe (m : Nat) (B : bm_H) : Prop := ∀ T, tv T 0 tz → RDe B T m eSw (eDe tz)
theorem oq_0 {m n : Nat} (h0 : n = m + 1 + 1) : n = m + 2 := by omega
theorem oq_1 {m n : Nat} (h0 : n = m) : n ≤ m := by omega
theorem oq_2 {m : Nat} : m ≤ m + 0 := by omega
theorem oq_3 {m : Nat} : m + 0 < m + 2 := by omega
theorem oq_4 {m : Nat} : m ≤ m + 1 := by omega
theorem oq_5 {m : Nat} : m + 1 < m + 2 := by omega
theorem oq_6 {m n : Nat} (h0 : n = m + 2) : n = m + 2 := by omega
theorem oq_7 {m n : Nat} (h0 : n = m + 1 + 2) : n = m + 3 := by omega
theorem oq_8 {m n : Nat} (h0 : n = m + 3) : m + 1 + 2 ≤ n := by omega
theorem oq_9 {m : Nat} : m < m + 1 ∨ m + 1 + 2 ≤ m := by omega
theorem oq_10 {m : Nat} : m + 0 < m + 3 := by omega
theorem oq_11 {m y : Nat} (h0 : m + 1 ≤ y) : m ≤ y := by omega
theorem oq_12 {m y : Nat} (h0 : y < m + 1 + 2) : y < m + 3 := by omega
theorem oq_13 {m n : Nat} (h0 : n = m + 3) : n = m + 3 := by omega
theorem oq_14 {m n : Nat} (h0 : n = m + 2 + 1) : n = m + 3 + 3 * 0 := by omega
theorem oq_15 {i m n : Nat} (h0 : n = m + 3 + 3 * 0) (h1 : i < 0) : m + 3 + 3 * i + 3 ≤ n := by omega
theorem oq_16 {i m : Nat} (h0 : i < 0) : m < m + 3 + 3 * i ∨ m + 3 + 3 * i + 3 ≤ m := by omega
theorem oq_17 {m n : Nat} (h0 : n = m + 3 + 3 * 0 + 3) : n = m + 3 + 3 * 1 := by omega
theorem oq_18 {i m n : Nat} (h0 : n = m + 3 + 3 * 1) (h1 : i < 1) : m + 3 + 3 * i + 3 ≤ n := by omega
theorem oq_19 {i m : Nat} (h0 : i < 1) : (m + 2) < m + 3 + 3 * i ∨ m + 3 + 3 * i + 3 ≤ (m + 2) := by omega
theorem oq_20 {m n : Nat} (h0 : n = m) : n ≤ m + 2 := by omega
theorem oq_21 {m n : Nat} (h0 : n = m + 3 + 3 * 1 + 3) : n = m + 3 + 3 * 2 := by omega
theorem oq_22 {i m n : Nat} (h0 : n = m + 3 + 3 * 2) (h1 : i < 2) : m + 3 + 3 * i + 3 ≤ n := by omega
theorem oq_23 {i m : Nat} (h0 : i < 2) : (m + 2) < m + 3 + 3 * i ∨ m + 3 + 3 * i + 3 ≤ (m + 2) := by omega
theorem oq_24 {m n : Nat} (h0 : n = m + 3 + 3 * 2 + 3) : n = m + 3 + 3 * 3 := by omega
theorem oq_25 {i m n : Nat} (h0 : n = m + 3 + 3 * 3) (h1 : i < 3) : m + 3 + 3 * i + 3 ≤ n := by omega
theorem oq_26 {i m : Nat} (h0 : i < 3) : (m + 2) < m + 3 + 3 * i ∨ m + 3 + 3 * i + 3 ≤ (m + 2) := by omega
theorem oq_27 {m n : Nat} (h0 : n = m + 3 + 3 * 3 + 3) : n = m + 3 + 3 * 4 := by omega
theorem oq_28 {i m n : Nat} (h0 : n = m + 3 + 3 * 4) (h1 : i < 4) : m + 3 + 3 * i + 3 ≤ n := by omega
theorem oq_29 {i m : Nat} (h0 : i < 4) : (m + 2) < m + 3 + 3 * i ∨ m + 3 + 3 * i + 3 ≤ (m + 2) := by omega
theorem oq_30 {m n : Nat} (h0 : n = m + 3 + 3 * 4 + 3) : n = m + 3 + 3 * 5 := by omega
theorem oq_31 {i m n : Nat} (h0 : n = m + 3 + 3 * 5) (h1 : i < 5) : m + 3 + 3 * i + 3 ≤ n := by omega
theorem oq_32 {i m : Nat} (h0 : i < 5) : (m + 2) < m + 3 + 3 * i ∨ m + 3 + 3 * i + 3 ≤ (m + 2) := by omega
theorem oq_33 {m n : Nat} (h0 : n = m + 3 + 3 * 5 + 3) : n = m + 3 + 3 * 6 := by omega
theorem oq_34 {i m n : Nat} (h0 : n = m + 3 + 3 * 6) (h1 : i < 6) : m + 3 + 3 * i + 3 ≤ n := by omega
theorem oq_35 {i m : Nat} (h0 : i < 6) : (m + 2) < m + 3 + 3 * i ∨ m + 3 + 3 * i + 3 ≤ (m + 2) := by omega
theorem oq_36 {m n : Nat} (h0 : n = m + 3 + 3 * 6 + 3) : n = m + 3 + 3 * 7 := by omega
theorem oq_37 {i m n : Nat} (h0 : n = m + 3 + 3 * 7) (h1 : i < 7) : m + 3 + 3 * i + 3 ≤ n := by omega
theorem oq_38 {i m : Nat} (h0 : i < 7) : (m + 2) < m + 3 + 3 * i ∨ m + 3 + 3 * i + 3 ≤ (m + 2) := by omega
theorem oq_39 {m n : Nat} (h0 : n = m + 3 + 3 * 7 + 3) : n = m + 3 + 3 * 8 := by omega
theorem oq_40 {i m n : Nat} (h0 : n = m + 3 + 3 * 8) (h1 : i < 8) : m + 3 + 3 * i + 3 ≤ n := by omega
theorem oq_41 {i m : Nat} (h0 : i < 8) : (m + 2) < m + 3 + 3 * i ∨ m + 3 + 3 * i + 3 ≤ (m + 2) := by omega
theorem oq_42 {m n : Nat} (h0 : n = m + 3 + 3 * 8 + 3) : n = m + 3 + 3 * 9 := by omega
theorem oq_43 {i m n : Nat} (h0 : n = m + 3 + 3 * 9) (h1 : i < 9) : m + 3 + 3 * i + 3 ≤ n := by omega
theorem oq_44 {i m : Nat} (h0 : i < 9) : (m + 2) < m + 3 + 3 * i ∨ m + 3 + 3 * i + 3 ≤ (m + 2) := by omega
theorem oq_45 {m n : Nat} (h0 : n = m + 3 + 3 * 9 + 3) : n = m + 3 + 3 * 10 := by omega
theorem oq_46 {i m n : Nat} (h0 : n = m + 3 + 3 * 10) (h1 : i < 10) : m + 3 + 3 * i + 3 ≤ n := by omega
theorem oq_47 {i m : Nat} (h0 : i < 10) : (m + 2) < m + 3 + 3 * i ∨ m + 3 + 3 * i + 3 ≤ (m + 2) := by omega
theorem oq_48 {m n : Nat} (h0 : n = m + 3 + 3 * 10 + 3) : n = m + 3 + 3 * 11 := by omega
theorem oq_49 {i m n : Nat} (h0 : n = m + 3 + 3 * 11) (h1 : i < 11) : m + 3 + 3 * i + 3 ≤ n := by omega
theorem oq_50 {i m : Nat} (h0 : i < 11) : (m + 2) < m + 3 + 3 * i ∨ m + 3 + 3 * i + 3 ≤ (m + 2) := by omega
theorem oq_51 {m n : Nat} (h0 : n = m + 3 + 3 * 11 + 3) : n = m + 39 := by omega
theorem oq_52 {i m n : Nat} (h0 : n = m + 39) (h1 : i < 12) : m + 3 + 3 * i + 3 ≤ n := by omega
theorem oq_53 {i m : Nat} (h0 : i < 12) : (m + 2) < m + 3 + 3 * i ∨ m + 3 + 3 * i + 3 ≤ (m + 2) := by omega
theorem oq_54 {m : Nat} : m + 0 < m + 39 := by omega
theorem oq_55 {m : Nat} : m + 1 < m + 39 := by omega
theorem oq_56 {m : Nat} : m ≤ m + 2 := by omega
theorem oq_57 {m : Nat} : m + 2 < m + 39 := by omega
theorem oq_58 {p : Nat} (h0 : p < 6) : 2 * p < 12 := by omega
theorem oq_59 {p : Nat} (h0 : p < 6) : 2 * p + 1 < 12 := by omega
theorem oq_60 {m p y : Nat} (h0 : m + 3 + 3 * (2 * p) ≤ y) : m ≤ y := by omega
theorem oq_61 {m p y : Nat} (h0 : p < 6) (h1 : y < m + 3 + 3 * (2 * p) + 3) : y < m + 39 := by omega
theorem oq_62 {m p y : Nat} (h0 : m + 3 + 3 * (2 * p + 1) ≤ y) : m ≤ y := by omega
theorem oq_63 {m p y : Nat} (h0 : p < 6) (h1 : y < m + 3 + 3 * (2 * p + 1) + 3) : y < m + 39 := by omega
theorem oq_64 {m n : Nat} (h0 : n = m + 39) : n = m + 39 := by omega
theorem oq_65 {m n : Nat} (h0 : n = m + 1 + 1) : n = m + 2 + 2 * 0 := by omega
theorem oq_66 {i m n : Nat} (h0 : n = m + 2 + 2 * 0) (h1 : i < 0) : m + 2 + 2 * i + 2 ≤ n := by omega
theorem oq_67 {m n : Nat} (h0 : n = m + 2 + 2 * 0 + 2) : n = m + 2 + 2 * 1 := by omega
theorem oq_68 {i m n : Nat} (h0 : n = m + 2 + 2 * 1) (h1 : i < 1) : m + 2 + 2 * i + 2 ≤ n := by omega
theorem oq_69 {i m : Nat} (h0 : i < 1) : (m + 1) < m + 2 + 2 * i ∨ m + 2 + 2 * i + 2 ≤ (m + 1) := by omega
theorem oq_70 {m n : Nat} (h0 : n = m) : n ≤ m + 1 := by omega
theorem oq_71 {m n : Nat} (h0 : n = m + 2 + 2 * 1 + 2) : n = m + 6 := by omega
theorem oq_72 {i m n : Nat} (h0 : n = m + 6) (h1 : i < 2) : m + 2 + 2 * i + 2 ≤ n := by omega
theorem oq_73 {i m : Nat} (h0 : i < 2) : (m + 1) < m + 2 + 2 * i ∨ m + 2 + 2 * i + 2 ≤ (m + 1) := by omega
theorem oq_74 {i m : Nat} (h0 : i < 2) : m < m + 2 + 2 * i ∨ m + 2 + 2 * i + 2 ≤ m := by omega
theorem oq_75 {m n : Nat} (h0 : n = m + 6 + 1) : n = m + 7 := by omega
theorem oq_76 {i m n : Nat} (h0 : n = m + 7) (h1 : i < 2) : m + 2 + 2 * i + 2 ≤ n := by omega
theorem oq_77 {m n : Nat} (h0 : n = m + 7 + 1) : n = m + 8 := by omega
theorem oq_78 {i m n : Nat} (h0 : n = m + 8) (h1 : i < 2) : m + 2 + 2 * i + 2 ≤ n := by omega
theorem oq_79 {m n : Nat} (h0 : n = m + 8 + 1) : n = m + 9 := by omega
theorem oq_80 {i m n : Nat} (h0 : n = m + 9) (h1 : i < 2) : m + 2 + 2 * i + 2 ≤ n := by omega
theorem oq_81 {m n : Nat} (h0 : n = m + 9 + 1) : n = m + 10 := by omega
theorem oq_82 {i m n : Nat} (h0 : n = m + 10) (h1 : i < 2) : m + 2 + 2 * i + 2 ≤ n := by omega
theorem oq_83 {i m n : Nat} (h0 : n = m + 10) (h1 : i < 0) : m + 11 + 3 * i + 3 ≤ n := by omega
theorem oq_84 {i m : Nat} (h0 : i < 0) : m < m + 11 + 3 * i ∨ m + 11 + 3 * i + 3 ≤ m := by omega
theorem oq_85 {m n : Nat} (h0 : n = m + 10 + 1) : n = m + 11 + 3 * 0 := by omega
theorem oq_86 {i m n : Nat} (h0 : n = m + 11 + 3 * 0) (h1 : i < 2) : m + 2 + 2 * i + 2 ≤ n := by omega
theorem oq_87 {i m n : Nat} (h0 : n = m + 11 + 3 * 0) (h1 : i < 0) : m + 11 + 3 * i + 3 ≤ n := by omega
theorem oq_88 {i m n : Nat} (h0 : n = m + 11 + 3 * 0) (h1 : i < 0) : m + 47 + 39 * i + 39 ≤ n := by omega
theorem oq_89 {i m : Nat} (h0 : i < 0) : m < m + 47 + 39 * i ∨ m + 47 + 39 * i + 39 ≤ m := by omega
theorem oq_90 {m n : Nat} (h0 : n = m + 11 + 3 * 0 + 3) : n = m + 11 + 3 * 1 := by omega
theorem oq_91 {i m n : Nat} (h0 : n = m + 11 + 3 * 1) (h1 : i < 2) : m + 2 + 2 * i + 2 ≤ n := by omega
theorem oq_92 {i m : Nat} (h0 : i < 2) : (m + 9) < m + 2 + 2 * i ∨ m + 2 + 2 * i + 2 ≤ (m + 9) := by omega
theorem oq_93 {m : Nat} : (m + 1) ≠ (m + 9) := by omega
theorem oq_94 {i m n : Nat} (h0 : n = m + 11 + 3 * 1) (h1 : i < 1) : m + 11 + 3 * i + 3 ≤ n := by omega
theorem oq_95 {i m : Nat} (h0 : i < 1) : (m + 9) < m + 11 + 3 * i ∨ m + 11 + 3 * i + 3 ≤ (m + 9) := by omega
theorem oq_96 {i m n : Nat} (h0 : n = m + 11 + 3 * 1) (h1 : i < 0) : m + 47 + 39 * i + 39 ≤ n := by omega
theorem oq_97 {i m : Nat} (h0 : i < 0) : (m + 9) < m + 47 + 39 * i ∨ m + 47 + 39 * i + 39 ≤ (m + 9) := by omega
theorem oq_98 {m : Nat} : (m + 10) ≠ (m + 9) := by omega
theorem oq_99 {m n : Nat} (h0 : n = m) : n ≤ m + 9 := by omega
theorem oq_100 {m n : Nat} (h0 : n = m + 11 + 3 * 1 + 3) : n = m + 11 + 3 * 2 := by omega
theorem oq_101 {i m n : Nat} (h0 : n = m + 11 + 3 * 2) (h1 : i < 2) : m + 2 + 2 * i + 2 ≤ n := by omega
theorem oq_102 {i m n : Nat} (h0 : n = m + 11 + 3 * 2) (h1 : i < 2) : m + 11 + 3 * i + 3 ≤ n := by omega
theorem oq_103 {i m : Nat} (h0 : i < 2) : (m + 9) < m + 11 + 3 * i ∨ m + 11 + 3 * i + 3 ≤ (m + 9) := by omega
theorem oq_104 {i m n : Nat} (h0 : n = m + 11 + 3 * 2) (h1 : i < 0) : m + 47 + 39 * i + 39 ≤ n := by omega
theorem oq_105 {m n : Nat} (h0 : n = m + 11 + 3 * 2 + 3) : n = m + 11 + 3 * 3 := by omega
theorem oq_106 {i m n : Nat} (h0 : n = m + 11 + 3 * 3) (h1 : i < 2) : m + 2 + 2 * i + 2 ≤ n := by omega
theorem oq_107 {i m n : Nat} (h0 : n = m + 11 + 3 * 3) (h1 : i < 3) : m + 11 + 3 * i + 3 ≤ n := by omega
theorem oq_108 {i m : Nat} (h0 : i < 3) : (m + 9) < m + 11 + 3 * i ∨ m + 11 + 3 * i + 3 ≤ (m + 9) := by omega
theorem oq_109 {i m n : Nat} (h0 : n = m + 11 + 3 * 3) (h1 : i < 0) : m + 47 + 39 * i + 39 ≤ n := by omega
theorem oq_110 {m n : Nat} (h0 : n = m + 11 + 3 * 3 + 3) : n = m + 11 + 3 * 4 := by omega
theorem oq_111 {i m n : Nat} (h0 : n = m + 11 + 3 * 4) (h1 : i < 2) : m + 2 + 2 * i + 2 ≤ n := by omega
theorem oq_112 {i m n : Nat} (h0 : n = m + 11 + 3 * 4) (h1 : i < 4) : m + 11 + 3 * i + 3 ≤ n := by omega
theorem oq_113 {i m : Nat} (h0 : i < 4) : (m + 9) < m + 11 + 3 * i ∨ m + 11 + 3 * i + 3 ≤ (m + 9) := by omega
theorem oq_114 {i m n : Nat} (h0 : n = m + 11 + 3 * 4) (h1 : i < 0) : m + 47 + 39 * i + 39 ≤ n := by omega
theorem oq_115 {m n : Nat} (h0 : n = m + 11 + 3 * 4 + 3) : n = m + 11 + 3 * 5 := by omega
theorem oq_116 {i m n : Nat} (h0 : n = m + 11 + 3 * 5) (h1 : i < 2) : m + 2 + 2 * i + 2 ≤ n := by omega
theorem oq_117 {i m n : Nat} (h0 : n = m + 11 + 3 * 5) (h1 : i < 5) : m + 11 + 3 * i + 3 ≤ n := by omega
theorem oq_118 {i m : Nat} (h0 : i < 5) : (m + 9) < m + 11 + 3 * i ∨ m + 11 + 3 * i + 3 ≤ (m + 9) := by omega
theorem oq_119 {i m n : Nat} (h0 : n = m + 11 + 3 * 5) (h1 : i < 0) : m + 47 + 39 * i + 39 ≤ n := by omega
theorem oq_120 {m n : Nat} (h0 : n = m + 11 + 3 * 5 + 3) : n = m + 11 + 3 * 6 := by omega
theorem oq_121 {i m n : Nat} (h0 : n = m + 11 + 3 * 6) (h1 : i < 2) : m + 2 + 2 * i + 2 ≤ n := by omega
theorem oq_122 {i m n : Nat} (h0 : n = m + 11 + 3 * 6) (h1 : i < 6) : m + 11 + 3 * i + 3 ≤ n := by omega
theorem oq_123 {i m : Nat} (h0 : i < 6) : (m + 9) < m + 11 + 3 * i ∨ m + 11 + 3 * i + 3 ≤ (m + 9) := by omega
theorem oq_124 {i m n : Nat} (h0 : n = m + 11 + 3 * 6) (h1 : i < 0) : m + 47 + 39 * i + 39 ≤ n := by omega
theorem oq_125 {m n : Nat} (h0 : n = m + 11 + 3 * 6 + 3) : n = m + 11 + 3 * 7 := by omega
theorem oq_126 {i m n : Nat} (h0 : n = m + 11 + 3 * 7) (h1 : i < 2) : m + 2 + 2 * i + 2 ≤ n := by omega
theorem oq_127 {i m n : Nat} (h0 : n = m + 11 + 3 * 7) (h1 : i < 7) : m + 11 + 3 * i + 3 ≤ n := by omega
theorem oq_128 {i m : Nat} (h0 : i < 7) : (m + 9) < m + 11 + 3 * i ∨ m + 11 + 3 * i + 3 ≤ (m + 9) := by omega
theorem oq_129 {i m n : Nat} (h0 : n = m + 11 + 3 * 7) (h1 : i < 0) : m + 47 + 39 * i + 39 ≤ n := by omega
theorem oq_130 {m n : Nat} (h0 : n = m + 11 + 3 * 7 + 3) : n = m + 11 + 3 * 8 := by omega
theorem oq_131 {i m n : Nat} (h0 : n = m + 11 + 3 * 8) (h1 : i < 2) : m + 2 + 2 * i + 2 ≤ n := by omega
theorem oq_132 {i m n : Nat} (h0 : n = m + 11 + 3 * 8) (h1 : i < 8) : m + 11 + 3 * i + 3 ≤ n := by omega
theorem oq_133 {i m : Nat} (h0 : i < 8) : (m + 9) < m + 11 + 3 * i ∨ m + 11 + 3 * i + 3 ≤ (m + 9) := by omega
theorem oq_134 {i m n : Nat} (h0 : n = m + 11 + 3 * 8) (h1 : i < 0) : m + 47 + 39 * i + 39 ≤ n := by omega
theorem oq_135 {m n : Nat} (h0 : n = m + 11 + 3 * 8 + 3) : n = m + 11 + 3 * 9 := by omega
theorem oq_136 {i m n : Nat} (h0 : n = m + 11 + 3 * 9) (h1 : i < 2) : m + 2 + 2 * i + 2 ≤ n := by omega
theorem oq_137 {i m n : Nat} (h0 : n = m + 11 + 3 * 9) (h1 : i < 9) : m + 11 + 3 * i + 3 ≤ n := by omega
theorem oq_138 {i m : Nat} (h0 : i < 9) : (m + 9) < m + 11 + 3 * i ∨ m + 11 + 3 * i + 3 ≤ (m + 9) := by omega
theorem oq_139 {i m n : Nat} (h0 : n = m + 11 + 3 * 9) (h1 : i < 0) : m + 47 + 39 * i + 39 ≤ n := by omega
theorem oq_140 {m n : Nat} (h0 : n = m + 11 + 3 * 9 + 3) : n = m + 11 + 3 * 10 := by omega
theorem oq_141 {i m n : Nat} (h0 : n = m + 11 + 3 * 10) (h1 : i < 2) : m + 2 + 2 * i + 2 ≤ n := by omega
theorem oq_142 {i m n : Nat} (h0 : n = m + 11 + 3 * 10) (h1 : i < 10) : m + 11 + 3 * i + 3 ≤ n := by omega
theorem oq_143 {i m : Nat} (h0 : i < 10) : (m + 9) < m + 11 + 3 * i ∨ m + 11 + 3 * i + 3 ≤ (m + 9) := by omega
theorem oq_144 {i m n : Nat} (h0 : n = m + 11 + 3 * 10) (h1 : i < 0) : m + 47 + 39 * i + 39 ≤ n := by omega
theorem oq_145 {m n : Nat} (h0 : n = m + 11 + 3 * 10 + 3) : n = m + 11 + 3 * 11 := by omega
theorem oq_146 {i m n : Nat} (h0 : n = m + 11 + 3 * 11) (h1 : i < 2) : m + 2 + 2 * i + 2 ≤ n := by omega
theorem oq_147 {i m n : Nat} (h0 : n = m + 11 + 3 * 11) (h1 : i < 11) : m + 11 + 3 * i + 3 ≤ n := by omega
theorem oq_148 {i m : Nat} (h0 : i < 11) : (m + 9) < m + 11 + 3 * i ∨ m + 11 + 3 * i + 3 ≤ (m + 9) := by omega
theorem oq_149 {i m n : Nat} (h0 : n = m + 11 + 3 * 11) (h1 : i < 0) : m + 47 + 39 * i + 39 ≤ n := by omega
theorem oq_150 {m n : Nat} (h0 : n = m + 11 + 3 * 11 + 3) : n = m + 47 + 39 * 0 := by omega
theorem oq_151 {i m n : Nat} (h0 : n = m + 47 + 39 * 0) (h1 : i < 2) : m + 2 + 2 * i + 2 ≤ n := by omega
theorem oq_152 {i m n : Nat} (h0 : n = m + 47 + 39 * 0) (h1 : i < 12) : m + 11 + 3 * i + 3 ≤ n := by omega
theorem oq_153 {i m : Nat} (h0 : i < 12) : (m + 9) < m + 11 + 3 * i ∨ m + 11 + 3 * i + 3 ≤ (m + 9) := by omega
theorem oq_154 {i m n : Nat} (h0 : n = m + 47 + 39 * 0) (h1 : i < 0) : m + 47 + 39 * i + 39 ≤ n := by omega
theorem oq_155 {m n : Nat} (h0 : n = m + 47 + 39 * 0 + 39) : n = m + 47 + 39 * 1 := by omega
theorem oq_156 {i m n : Nat} (h0 : n = m + 47 + 39 * 1) (h1 : i < 2) : m + 2 + 2 * i + 2 ≤ n := by omega
theorem oq_157 {i m : Nat} (h0 : i < 2) : (m + 10) < m + 2 + 2 * i ∨ m + 2 + 2 * i + 2 ≤ (m + 10) := by omega
theorem oq_158 {m : Nat} : (m + 1) ≠ (m + 10) := by omega
theorem oq_159 {i m n : Nat} (h0 : n = m + 47 + 39 * 1) (h1 : i < 12) : m + 11 + 3 * i + 3 ≤ n := by omega
theorem oq_160 {i m : Nat} (h0 : i < 12) : (m + 10) < m + 11 + 3 * i ∨ m + 11 + 3 * i + 3 ≤ (m + 10) := by omega
theorem oq_161 {i m n : Nat} (h0 : n = m + 47 + 39 * 1) (h1 : i < 1) : m + 47 + 39 * i + 39 ≤ n := by omega
theorem oq_162 {i m : Nat} (h0 : i < 1) : (m + 10) < m + 47 + 39 * i ∨ m + 47 + 39 * i + 39 ≤ (m + 10) := by omega
theorem oq_163 {m : Nat} : (m + 9) ≠ (m + 10) := by omega
theorem oq_164 {m n : Nat} (h0 : n = m) : n ≤ m + 10 := by omega
theorem oq_165 {m n : Nat} (h0 : n = m + 47 + 39 * 1 + 39) : n = m + 47 + 39 * 2 := by omega
theorem oq_166 {i m n : Nat} (h0 : n = m + 47 + 39 * 2) (h1 : i < 2) : m + 2 + 2 * i + 2 ≤ n := by omega
theorem oq_167 {i m n : Nat} (h0 : n = m + 47 + 39 * 2) (h1 : i < 12) : m + 11 + 3 * i + 3 ≤ n := by omega
theorem oq_168 {i m n : Nat} (h0 : n = m + 47 + 39 * 2) (h1 : i < 2) : m + 47 + 39 * i + 39 ≤ n := by omega
theorem oq_169 {i m : Nat} (h0 : i < 2) : (m + 10) < m + 47 + 39 * i ∨ m + 47 + 39 * i + 39 ≤ (m + 10) := by omega
theorem oq_170 {m n : Nat} (h0 : n = m + 47 + 39 * 2 + 39) : n = m + 47 + 39 * 3 := by omega
theorem oq_171 {i m n : Nat} (h0 : n = m + 47 + 39 * 3) (h1 : i < 2) : m + 2 + 2 * i + 2 ≤ n := by omega
theorem oq_172 {i m n : Nat} (h0 : n = m + 47 + 39 * 3) (h1 : i < 12) : m + 11 + 3 * i + 3 ≤ n := by omega
theorem oq_173 {i m n : Nat} (h0 : n = m + 47 + 39 * 3) (h1 : i < 3) : m + 47 + 39 * i + 39 ≤ n := by omega
theorem oq_174 {i m : Nat} (h0 : i < 3) : (m + 10) < m + 47 + 39 * i ∨ m + 47 + 39 * i + 39 ≤ (m + 10) := by omega
theorem oq_175 {m n : Nat} (h0 : n = m + 47 + 39 * 3 + 39) : n = m + 203 := by omega
theorem oq_176 {i m n : Nat} (h0 : n = m + 203) (h1 : i < 2) : m + 2 + 2 * i + 2 ≤ n := by omega
theorem oq_177 {i m n : Nat} (h0 : n = m + 203) (h1 : i < 12) : m + 11 + 3 * i + 3 ≤ n := by omega
theorem oq_178 {i m n : Nat} (h0 : n = m + 203) (h1 : i < 4) : m + 47 + 39 * i + 39 ≤ n := by omega
theorem oq_179 {i m : Nat} (h0 : i < 4) : (m + 10) < m + 47 + 39 * i ∨ m + 47 + 39 * i + 39 ≤ (m + 10) := by omega
theorem oq_180 {m : Nat} : m + 0 < m + 203 := by omega
theorem oq_181 {m : Nat} : m + 1 < m + 203 := by omega
theorem oq_182 {m : Nat} : m ≤ m + 6 := by omega
theorem oq_183 {m : Nat} : m + 6 < m + 203 := by omega
theorem oq_184 {m : Nat} : m ≤ m + 7 := by omega
theorem oq_185 {m : Nat} : m + 7 < m + 203 := by omega
theorem oq_186 {m : Nat} : m ≤ m + 8 := by omega
theorem oq_187 {m : Nat} : m + 8 < m + 203 := by omega
theorem oq_188 {m : Nat} : m ≤ m + 9 := by omega
theorem oq_189 {m : Nat} : m + 9 < m + 203 := by omega
theorem oq_190 {m : Nat} : m ≤ m + 10 := by omega
theorem oq_191 {m : Nat} : m + 10 < m + 203 := by omega
theorem oq_192 : 0 < 2 := by omega
theorem oq_193 : 1 < 2 := by omega
theorem oq_194 {m y : Nat} (h0 : m + 2 + 2 * 0 ≤ y) : m ≤ y := by omega
theorem oq_195 {m y : Nat} (h0 : y < m + 2 + 2 * 0 + 2) : y < m + 203 := by omega
theorem oq_196 {m y : Nat} (h0 : m + 2 + 2 * 1 ≤ y) : m ≤ y := by omega
theorem oq_197 {m y : Nat} (h0 : y < m + 2 + 2 * 1 + 2) : y < m + 203 := by omega
theorem oq_198 {q : Nat} (h0 : q < 4) : q < 4 := by omega
theorem oq_199 {m q y : Nat} (h0 : m + 47 + 39 * q ≤ y) : m ≤ y := by omega
theorem oq_200 {m q y : Nat} (h0 : q < 4) (h1 : y < m + 47 + 39 * q + 39) : y < m + 203 := by omega
theorem oq_201 {m p y : Nat} (h0 : m + 11 + 3 * (2 * p) ≤ y) : m ≤ y := by omega
theorem oq_202 {m p y : Nat} (h0 : p < 6) (h1 : y < m + 11 + 3 * (2 * p) + 3) : y < m + 203 := by omega
theorem oq_203 {m p y : Nat} (h0 : m + 11 + 3 * (2 * p + 1) ≤ y) : m ≤ y := by omega
theorem oq_204 {m p y : Nat} (h0 : p < 6) (h1 : y < m + 11 + 3 * (2 * p + 1) + 3) : y < m + 203 := by omega
theorem oq_205 {m n : Nat} (h0 : n = m + 203) : n = m + 203 := by omega
set_option maxRecDepth 100000 in
theorem i_In {sc : tm_X} {d m : Nat} {B0 B1 : bm_H} {Q : bm_H → Prop} (hm : bm_n B0 = m) (h : NwO B0 B1 m 2 5) (kk : ∀ B, Mk (PIn m) 2 29 2 B0 B m → Q B) : bm_Gv sc (d + 1) 10 [.ref m] B1 Q := by
  have h1 := h.2.1.1
  show bm_G _ _ _ 0 [(0, .ref m)] [] B1 _
  generalize elv : ([(0, .ref m)] : tm_L) = lv
  have l0 : lv.lookup 0 = some (.ref m) := by rw [← elv]; rfl
  clear elv
  refine g_ald (pc' := 1) cd_In_init rfl (Or.inr ⟨_, rfl, rfl, rfl⟩) l0 rfl rfl ?_
  refine n_super (pc' := 4) cd_In_init rfl rfl rfl rfl ?_
  refine g_ald (pc' := 5) cd_In_init rfl (Or.inr ⟨_, rfl, rfl, rfl⟩) l0 rfl rfl ?_
  refine g_k2 (v := 24) (pc' := 7) cd_In_init rfl (by decide) rfl ?_
  refine n_int 24 h1 cd_In_init rfl rfl (by decide) (by decide) (by decide) (fun B1 h1 => ?_)
  have hf2 := fr0_f h1.1
  have f3_0 := fr_lt hf2 h.2.2.1.1
  have g3_0 := (fr_K hf2 h.2.2.1.1).trans h.2.2.1.2
  have t4_0 : ∀ c k, bm_FI B1 c k m = 0 := fun c k => (fr_FI (fr0_f h1.1) h.2.2.1.1 (fun q => q) c k).trans (h.2.2.2.1 c k)
  have hn5 : bm_n B1 = (m + 2) := (oq_0 h1.2.1.1)
  have sl6 : bm_sl B1 = bm_sl B0 + 29 := by rw [h1.2.1.2, h.2.1.2]
  have f07 : fr0 B0 B1 := fr0_trans h.1 h1.1
  refine g_putR (v := some (m + 1)) (c := 2) (k := 0) (pc' := 12) rfl cd_In_init rfl rfl rfl rfl (by simp [tm_okV, narrow, fits]) (Or.inr ⟨rfl, rfl, rfl, rfl⟩) rfl (by decide) f3_0 g3_0 ?_
  have t8_0 : ∀ c k, bm_FI (bm_putR B1 2 0 m (some (m + 1))) c k m = 0 := t4_0
  have hn9 : bm_n (bm_putR B1 2 0 m (some (m + 1))) = (m + 2) := hn5
  have sl10 : bm_sl (bm_putR B1 2 0 m (some (m + 1))) = bm_sl B0 + 29 := sl6
  have f011 : fr0 B0 (bm_putR B1 2 0 m (some (m + 1))) := fr0_putR f07 (oq_1 hm)
  have hS : stb (PIn m) m (m + 2) (bm_putR B1 2 0 m (some (m + 1))) := by
    intro B2 g T hz
    have e0 := g (m + 0) oq_2 oq_3
    have e1 := g (m + 1) oq_4 oq_5
    exact ⟨⟨⟨e0.1, ce_K e0 g3_0⟩, ce_FR e0 (by simp [bm_putR, bm_up3, bm_FR]), e1.1, ce_K e1 h1.2.2.1.2.1, ce_AL e1 h1.2.2.1.2.2⟩, ⟨(ce_FI e0 (t8_0 2 1)), by decide⟩, ⟨tvq (ce_FI e0 (t8_0 2 2)) hz, tvq (ce_FI e0 (t8_0 2 3)) hz, (ce_FI e0 (t8_0 2 4))⟩, fun i e he => by simp [eIn] at he⟩
  exact g_retv cd_In_init rfl ⟨rfl, kk _ ⟨f011, ⟨(oq_6 hn9), sl10⟩, hS, f3_0, g3_0⟩⟩
set_option maxRecDepth 100000 in
theorem i_Pk {sc : tm_X} {d m : Nat} {B0 B1 : bm_H} {Q : bm_H → Prop} (hm : bm_n B0 = m) (h : NwO B0 B1 m 6 4) (kk : ∀ B, Mk (PPk m) 2 8 6 B0 B m → Q B) : bm_Gv sc (d + 1) 8 [.ref m] B1 Q := by
  have h1 := h.2.1.1
  show bm_G _ _ _ 0 [(0, .ref m)] [] B1 _
  generalize elv : ([(0, .ref m)] : tm_L) = lv
  have l0 : lv.lookup 0 = some (.ref m) := by rw [← elv]; rfl
  clear elv
  refine g_ald (pc' := 1) cd_Pk_init rfl (Or.inr ⟨_, rfl, rfl, rfl⟩) l0 rfl rfl ?_
  refine n_super (pc' := 4) cd_Pk_init rfl rfl rfl rfl ?_
  refine g_ald (pc' := 5) cd_Pk_init rfl (Or.inr ⟨_, rfl, rfl, rfl⟩) l0 rfl rfl ?_
  refine g_k1 (v := 4) (pc' := 6) cd_Pk_init rfl (by decide) rfl ?_
  refine n_int 4 h1 cd_Pk_init rfl rfl (by decide) (by decide) (by decide) (fun B12 h12 => ?_)
  have hf13 := fr0_f h12.1
  have f14_0 := fr_lt hf13 h.2.2.1.1
  have g14_0 := (fr_K hf13 h.2.2.1.1).trans h.2.2.1.2
  have t15_0 : ∀ c k, bm_FI B12 c k m = 0 := fun c k => (fr_FI (fr0_f h12.1) h.2.2.1.1 (fun q => q) c k).trans (h.2.2.2.1 c k)
  have hn16 : bm_n B12 = (m + 2) := (oq_0 h12.2.1.1)
  have sl17 : bm_sl B12 = bm_sl B0 + 8 := by rw [h12.2.1.2, h.2.1.2]
  have f018 : fr0 B0 B12 := fr0_trans h.1 h12.1
  refine g_putR (v := some (m + 1)) (c := 6) (k := 0) (pc' := 11) rfl cd_Pk_init rfl rfl rfl rfl (by simp [tm_okV, narrow, fits]) (Or.inr ⟨rfl, rfl, rfl, rfl⟩) rfl (by decide) f14_0 g14_0 ?_
  have t19_0 : ∀ c k, bm_FI (bm_putR B12 6 0 m (some (m + 1))) c k m = 0 := t15_0
  have hn20 : bm_n (bm_putR B12 6 0 m (some (m + 1))) = (m + 2) := hn16
  have sl21 : bm_sl (bm_putR B12 6 0 m (some (m + 1))) = bm_sl B0 + 8 := sl17
  have f022 : fr0 B0 (bm_putR B12 6 0 m (some (m + 1))) := fr0_putR f018 (oq_1 hm)
  have hS : stb (PPk m) m (m + 2) (bm_putR B12 6 0 m (some (m + 1))) := by
    intro B2 g T hz
    have e0 := g (m + 0) oq_2 oq_3
    have e1 := g (m + 1) oq_4 oq_5
    exact ⟨⟨⟨e0.1, ce_K e0 g14_0⟩, ce_FR e0 (by simp [bm_putR, bm_up3, bm_FR]), e1.1, ce_K e1 h12.2.2.1.2.1, ce_AL e1 h12.2.2.1.2.2⟩, ⟨tvq (ce_FI e0 (t19_0 6 2)) hz, (ce_FI e0 (t19_0 6 3)), (ce_FI e0 (t19_0 6 1)), by decide⟩, fun i e he => by simp [ePk] at he⟩
  exact g_retv cd_Pk_init rfl ⟨rfl, kk _ ⟨f022, ⟨(oq_6 hn20), sl21⟩, hS, f14_0, g14_0⟩⟩
set_option maxRecDepth 100000 in
theorem i_Se {sc : tm_X} {d m : Nat} {B0 B1 : bm_H} {Q : bm_H → Prop} (hm : bm_n B0 = m) (h : NwO B0 B1 m 7 11) (kk : ∀ B, Mk (PSe m) 3 40 7 B0 B m → Q B) : bm_Gv sc (d + 2) 9 [.ref m] B1 Q := by
  have h1 := h.2.1.1
  show bm_G _ _ _ 0 [(0, .ref m)] [] B1 _
  generalize elv : ([(0, .ref m)] : tm_L) = lv
  have l0 : lv.lookup 0 = some (.ref m) := by rw [← elv]; rfl
  clear elv
  refine g_ald (pc' := 1) cd_Se_init rfl (Or.inr ⟨_, rfl, rfl, rfl⟩) l0 rfl rfl ?_
  refine n_super (pc' := 4) cd_Se_init rfl rfl rfl rfl ?_
  refine g_ald (pc' := 5) cd_Se_init rfl (Or.inr ⟨_, rfl, rfl, rfl⟩) l0 rfl rfl ?_
  refine n_obj 5 h1 cd_Se_init rfl rfl rfl rfl (by decide) rfl (fun B23 h23 => ?_)
  have hf24 := fr0_f h23.1
  have f25_0 := fr_lt hf24 h.2.2.1.1
  have g25_0 := (fr_K hf24 h.2.2.1.1).trans h.2.2.1.2
  have t26_0 : ∀ c k, bm_FI B23 c k m = 0 := fun c k => (fr_FI (fr0_f h23.1) h.2.2.1.1 (fun q => q) c k).trans (h.2.2.2.1 c k)
  refine g_pure (pc' := 9) (st' := [.ref ((m + 1)), .ref ((m + 1)), .ref m]) cd_Se_init rfl rfl (fun _ _ => rfl) ?_
  refine g_callv (pc' := 12) cd_Se_init rfl rfl rfl rfl rfl (tm_invI rfl rfl cd_In_init rfl (Nat.le_of_ble_eq_true rfl)) (i_In h1 h23 (fun B27 h27 => ?_))
  have hf28 := fr0_f h27.1
  have f29_0 := fr_lt hf28 h.2.2.1.1
  have g29_0 := (fr_K hf28 h.2.2.1.1).trans h.2.2.1.2
  have t30_0 : ∀ c k, bm_FI B27 c k m = 0 := fun c k => (fr_FI (fr0_f h27.1) h.2.2.1.1 (fun q => q) c k).trans (h.2.2.2.1 c k)
  have hn31 : bm_n B27 = (m + 3) := (oq_7 h27.2.1.1)
  have sl32 : bm_sl B27 = bm_sl B0 + 40 := by rw [h27.2.1.2, h.2.1.2]
  have f033 : fr0 B0 B27 := fr0_trans h.1 h27.1
  show bm_G _ _ _ 12 _ [.ref ((m + 1)), .ref m] B27 _
  refine g_putR (v := some (m + 1)) (c := 7) (k := 0) (pc' := 15) rfl cd_Se_init rfl rfl rfl rfl (by simp [tm_okV, narrow, fits]) (Or.inr ⟨rfl, rfl, rfl, rfl⟩) rfl (by decide) f29_0 g29_0 ?_
  have t34_0 : ∀ c k, bm_FI (bm_putR B27 7 0 m (some (m + 1))) c k m = 0 := t30_0
  have t34_1 : stb (PIn ((m + 1))) ((m + 1)) ((m + 1) + 2) (bm_putR B27 7 0 m (some (m + 1))) := stb_putR h27.2.2.1 (oq_8 hn31) oq_9
  have hn35 : bm_n (bm_putR B27 7 0 m (some (m + 1))) = (m + 3) := hn31
  have sl36 : bm_sl (bm_putR B27 7 0 m (some (m + 1))) = bm_sl B0 + 40 := sl32
  have f037 : fr0 B0 (bm_putR B27 7 0 m (some (m + 1))) := fr0_putR f033 (oq_1 hm)
  have hS : stb (PSe m) m (m + 3) (bm_putR B27 7 0 m (some (m + 1))) := by
    intro B2 g T hz
    have e0 := g (m + 0) oq_2 oq_10
    exact ⟨⟨⟨e0.1, ce_K e0 g29_0⟩, ce_FR e0 (by simp [bm_putR, bm_up3, bm_FR])⟩, t34_1 B2 (fun y h1 h2 => g y (oq_11 h1) (oq_12 h2)) T hz, ⟨tvq (ce_FI e0 (t34_0 7 1)) hz, tvq (ce_FI e0 (t34_0 7 2)) hz, tvq (ce_FI e0 (t34_0 7 3)) hz, tvq (ce_FI e0 (t34_0 7 4)) hz⟩, ⟨(ce_FI e0 (t34_0 7 5)), (ce_FI e0 (t34_0 7 6))⟩, ⟨(ce_FI e0 (t34_0 7 7)), fun q => by simp at q⟩, (ce_FI e0 (t34_0 7 10))⟩
  exact g_retv cd_Se_init rfl ⟨rfl, kk _ ⟨f037, ⟨(oq_13 hn35), sl36⟩, hS, f29_0, g29_0⟩⟩
set_option maxRecDepth 100000 in
theorem i_Gi {sc : tm_X} {d m : Nat} {B0 B1 : bm_H} {Q : bm_H → Prop} (hm : bm_n B0 = m) (h : NwO B0 B1 m 1 3) (kk : ∀ B, Mk (PGv m) 3 32 1 B0 B m → Q B) : bm_Gv sc (d + 2) 12 [.ref m] B1 Q := by
  have h1 := h.2.1.1
  show bm_G _ _ _ 0 [(0, .ref m)] [] B1 _
  generalize elv : ([(0, .ref m)] : tm_L) = lv
  have l0 : lv.lookup 0 = some (.ref m) := by rw [← elv]; rfl
  clear elv
  refine g_ald (pc' := 1) cd_Gi_init rfl (Or.inr ⟨_, rfl, rfl, rfl⟩) l0 rfl rfl ?_
  refine n_super (pc' := 4) cd_Gi_init rfl rfl rfl rfl ?_
  refine g_ald (pc' := 5) cd_Gi_init rfl (Or.inr ⟨_, rfl, rfl, rfl⟩) l0 rfl rfl ?_
  refine n_obj 5 h1 cd_Gi_init rfl rfl rfl rfl (by decide) rfl (fun B38 h38 => ?_)
  have hf39 := fr0_f h38.1
  have f40_0 := fr_lt hf39 h.2.2.1.1
  have g40_0 := (fr_K hf39 h.2.2.1.1).trans h.2.2.1.2
  have t41_0 : ∀ c k, bm_FI B38 c k m = 0 := fun c k => (fr_FI (fr0_f h38.1) h.2.2.1.1 (fun q => q) c k).trans (h.2.2.2.1 c k)
  refine g_pure (pc' := 9) (st' := [.ref ((m + 1)), .ref ((m + 1)), .ref m]) cd_Gi_init rfl rfl (fun _ _ => rfl) ?_
  refine g_callv (pc' := 12) cd_Gi_init rfl rfl rfl rfl rfl (tm_invI rfl rfl cd_In_init rfl (Nat.le_of_ble_eq_true rfl)) (i_In h1 h38 (fun B42 h42 => ?_))
  have hf43 := fr0_f h42.1
  have f44_0 := fr_lt hf43 h.2.2.1.1
  have g44_0 := (fr_K hf43 h.2.2.1.1).trans h.2.2.1.2
  have t45_0 : ∀ c k, bm_FI B42 c k m = 0 := fun c k => (fr_FI (fr0_f h42.1) h.2.2.1.1 (fun q => q) c k).trans (h.2.2.2.1 c k)
  have hn46 : bm_n B42 = (m + 3) := (oq_7 h42.2.1.1)
  have sl47 : bm_sl B42 = bm_sl B0 + 32 := by rw [h42.2.1.2, h.2.1.2]
  have f048 : fr0 B0 B42 := fr0_trans h.1 h42.1
  show bm_G _ _ _ 12 _ [.ref ((m + 1)), .ref m] B42 _
  refine g_putR (v := some (m + 1)) (c := 1) (k := 0) (pc' := 15) rfl cd_Gi_init rfl rfl rfl rfl (by simp [tm_okV, narrow, fits]) (Or.inr ⟨rfl, rfl, rfl, rfl⟩) rfl (by decide) f44_0 g44_0 ?_
  have t49_0 : ∀ c k, bm_FI (bm_putR B42 1 0 m (some (m + 1))) c k m = 0 := t45_0
  have t49_1 : stb (PIn ((m + 1))) ((m + 1)) ((m + 1) + 2) (bm_putR B42 1 0 m (some (m + 1))) := stb_putR h42.2.2.1 (oq_8 hn46) oq_9
  have hn50 : bm_n (bm_putR B42 1 0 m (some (m + 1))) = (m + 3) := hn46
  have sl51 : bm_sl (bm_putR B42 1 0 m (some (m + 1))) = bm_sl B0 + 32 := sl47
  have f052 : fr0 B0 (bm_putR B42 1 0 m (some (m + 1))) := fr0_putR f048 (oq_1 hm)
  have hS : stb (PGv m) m (m + 3) (bm_putR B42 1 0 m (some (m + 1))) := by
    intro B2 g T hz
    have e0 := g (m + 0) oq_2 oq_10
    exact ⟨⟨⟨e0.1, ce_K e0 g44_0⟩, ce_FR e0 (by simp [bm_putR, bm_up3, bm_FR])⟩, t49_1 B2 (fun y h1 h2 => g y (oq_11 h1) (oq_12 h2)) T hz, (ce_FI e0 (t49_0 1 1)), (ce_FI e0 (t49_0 1 2))⟩
  exact g_retv cd_Gi_init rfl ⟨rfl, kk _ ⟨f052, ⟨(oq_13 hn50), sl51⟩, hS, f44_0, g44_0⟩⟩
set_option maxRecDepth 100000 in
theorem i_Me {sc : tm_X} {d m : Nat} {B0 B1 : bm_H} {Q : bm_H → Prop} (hm : bm_n B0 = m) (h : NwO B0 B1 m 5 11) (kk : ∀ B, Mk (PMe m) 39 413 5 B0 B m → Q B) : bm_Gv sc (d + 3) 11 [.ref m] B1 Q := by
  have h1 := h.2.1.1
  show bm_G _ _ _ 0 [(0, .ref m)] [] B1 _
  generalize elv : ([(0, .ref m)] : tm_L) = lv
  have l0 : lv.lookup 0 = some (.ref m) := by rw [← elv]; rfl
  clear elv
  refine g_ald (pc' := 1) cd_Me_init rfl (Or.inr ⟨_, rfl, rfl, rfl⟩) l0 rfl rfl ?_
  refine n_super (pc' := 4) cd_Me_init rfl rfl rfl rfl ?_
  refine g_ald (pc' := 5) cd_Me_init rfl (Or.inr ⟨_, rfl, rfl, rfl⟩) l0 rfl rfl ?_
  refine g_k2 (v := 6) (pc' := 7) cd_Me_init rfl (by decide) rfl ?_
  refine n_int 6 h1 cd_Me_init rfl rfl (by decide) (by decide) (by decide) (fun B53 h53 => ?_)
  have hf54 := fr0_f h53.1
  have f55_0 := fr_lt hf54 h.2.2.1.1
  have g55_0 := (fr_K hf54 h.2.2.1.1).trans h.2.2.1.2
  have t56_0 : ∀ c k, bm_FI B53 c k m = 0 := fun c k => (fr_FI (fr0_f h53.1) h.2.2.1.1 (fun q => q) c k).trans (h.2.2.2.1 c k)
  have hn57 : bm_n B53 = (m + 2) := (oq_0 h53.2.1.1)
  have sl58 : bm_sl B53 = bm_sl B0 + 17 := by rw [h53.2.1.2, h.2.1.2]
  have f059 : fr0 B0 B53 := fr0_trans h.1 h53.1
  refine g_putR (v := some (m + 1)) (c := 5) (k := 0) (pc' := 12) rfl cd_Me_init rfl rfl rfl rfl (by simp [tm_okV, narrow, fits]) (Or.inr ⟨rfl, rfl, rfl, rfl⟩) rfl (by decide) f55_0 g55_0 ?_
  have t60_0 : ∀ c k, bm_FI (bm_putR B53 5 0 m (some (m + 1))) c k m = 0 := t56_0
  have hn61 : bm_n (bm_putR B53 5 0 m (some (m + 1))) = (m + 2) := hn57
  have sl62 : bm_sl (bm_putR B53 5 0 m (some (m + 1))) = bm_sl B0 + 17 := sl58
  have f063 : fr0 B0 (bm_putR B53 5 0 m (some (m + 1))) := fr0_putR f059 (oq_1 hm)
  refine g_ald (pc' := 13) cd_Me_init rfl (Or.inr ⟨_, rfl, rfl, rfl⟩) l0 rfl rfl ?_
  refine g_k2 (v := 12) (pc' := 15) cd_Me_init rfl (by decide) rfl ?_
  refine n_ref 12 hn61 cd_Me_init rfl rfl rfl rfl (by decide) rfl (by decide) (by decide) (by decide) (fun B64 h64 => ?_)
  have hf65 := fr0_f h64.1
  have f66_0 := fr_lt hf65 f55_0
  have g66_0 := (fr_K hf65 f55_0).trans g55_0
  have f66_1 := fr_lt hf65 h53.2.2.1.1
  have g66_1 := (fr_K hf65 h53.2.2.1.1).trans h53.2.2.1.2.1
  have r66_0 : bm_FR B64 5 0 m = some (m + 1) := (fr_FR hf65 f55_0 (fun q => q) 5 0).trans (by simp [bm_putR, bm_up3, bm_FR])
  have u66_0 : bm_AI B64 (m + 1) = (fun _ => 0) := (fr_AI hf65 h53.2.2.1.1 (fun q => q)).trans h53.2.2.2.1
  have w66_0 : bm_AL B64 (m + 1) = 6 := (fr_AL hf65 h53.2.2.1.1).trans h53.2.2.1.2.2
  have t67_0 : ∀ c k, bm_FI B64 c k m = 0 := fun c k => (fr_FI (fr0_f h64.1) f55_0 (fun q => q) c k).trans (t60_0 c k)
  have hn68 : bm_n B64 = (m + 3 + 3 * 0) := (oq_14 h64.2.1.1)
  have sl69 : bm_sl B64 = bm_sl B0 + 29 := by rw [h64.2.1.2, sl62]
  have f070 : fr0 B0 B64 := fr0_trans f063 h64.1
  have F71 : ∀ i, i < 0 → stb (PGv (m + 3 + 3 * i)) (m + 3 + 3 * i) (m + 3 + 3 * i + 3) B64 := al_nil
  have R71 : ∀ i, i < 0 → bm_AR B64 ((m + 2)) i = some (m + 3 + 3 * i) := al_nil
  refine g_putR (v := some (m + 2)) (c := 5) (k := 1) (pc' := 21) rfl cd_Me_init rfl rfl rfl rfl (by simp [tm_okV, narrow, fits]) (Or.inr ⟨rfl, rfl, rfl, rfl⟩) rfl (by decide) f66_0 g66_0 ?_
  have t72_0 : ∀ c k, bm_FI (bm_putR B64 5 1 m (some (m + 2))) c k m = 0 := t67_0
  have t72_1 : ∀ i, i < 0 → stb (PGv (m + 3 + 3 * i)) (m + 3 + 3 * i) (m + 3 + 3 * i + 3) (bm_putR B64 5 1 m (some (m + 2))) := fun i hi => stb_putR (F71 i hi) (oq_15 hn68 hi) (oq_16 hi)
  have t72_2 : ∀ i, i < 0 → bm_AR (bm_putR B64 5 1 m (some (m + 2))) ((m + 2)) i = some (m + 3 + 3 * i) := R71
  have hn73 : bm_n (bm_putR B64 5 1 m (some (m + 2))) = (m + 3 + 3 * 0) := hn68
  have sl74 : bm_sl (bm_putR B64 5 1 m (some (m + 2))) = bm_sl B0 + 29 := sl69
  have f075 : fr0 B0 (bm_putR B64 5 1 m (some (m + 2))) := fr0_putR f070 (oq_1 hm)
  refine g_k1 (v := 0) (pc' := 22) cd_Me_init rfl (by decide) rfl ?_
  refine g_ist (pc' := 23) cd_Me_init rfl (Or.inr ⟨_, rfl, rfl, rfl⟩) (by decide) rfl (fun lv el => ?_)
  have l0 := tm_lk el l0 rfl (by decide)
  have l1 : lv.lookup 1 = some (.int 0) := tm_lks el
  clear el
  refine g_ild (pc' := 24) cd_Me_init rfl (Or.inr ⟨_, rfl, rfl, rfl⟩) l1 rfl ?_
  refine g_ald (pc' := 25) cd_Me_init rfl (Or.inr ⟨_, rfl, rfl, rfl⟩) l0 rfl rfl ?_
  refine g_fR (c := 5) (k := 1) (x := (m + 2)) (pc' := 28) cd_Me_init rfl rfl rfl rfl rfl (by decide) f66_0 g66_0 (by simp [bm_putR, bm_up3, bm_FR]) ?_
  refine g_al (x := 12) (pc' := 29) cd_Me_init rfl rfl h64.2.2.1.1 (by rw [show bm_K (bm_putR B64 5 1 m (some (m + 2))) (m + 2) = 20 from h64.2.2.1.2.1]; decide) (by rw [show bm_K (bm_putR B64 5 1 m (some (m + 2))) (m + 2) = 20 from h64.2.2.1.2.1]; decide) (by rw [show bm_AL (bm_putR B64 5 1 m (some (m + 2))) (m + 2) = 12 from h64.2.2.1.2.2]; rfl) ?_
  refine g_if2 (t := 51) (pc' := 32) cd_Me_init rfl rfl rfl (fun c29 => ?_) (fun c29 => ?_)
  · exact absurd (show (12 : Int32) ≤ 0 from c29) (by decide)
  · have c29 : ¬ (12 : Int32) ≤ 0 := c29
    refine g_ald (pc' := 33) cd_Me_init rfl (Or.inr ⟨_, rfl, rfl, rfl⟩) l0 rfl rfl ?_
    refine g_fR (c := 5) (k := 1) (x := (m + 2)) (pc' := 36) cd_Me_init rfl rfl rfl rfl rfl (by decide) f66_0 g66_0 (by simp [bm_putR, bm_up3, bm_FR]) ?_
    refine g_ild (pc' := 37) cd_Me_init rfl (Or.inr ⟨_, rfl, rfl, rfl⟩) l1 rfl ?_
    refine n_obj 3 hn73 cd_Me_init rfl rfl rfl rfl (by decide) rfl (fun B76 h76 => ?_)
    have hf77 := fr0_f h76.1
    have f78_0 := fr_lt hf77 f66_0
    have g78_0 := (fr_K hf77 f66_0).trans g66_0
    have f78_1 := fr_lt hf77 f66_1
    have g78_1 := (fr_K hf77 f66_1).trans g66_1
    have f78_2 := fr_lt hf77 h64.2.2.1.1
    have g78_2 := (fr_K hf77 h64.2.2.1.1).trans h64.2.2.1.2.1
    have r78_0 : bm_FR B76 5 0 m = some (m + 1) := (fr_FR hf77 f66_0 (fun q => q) 5 0).trans r66_0
    have r78_1 : bm_FR B76 5 1 m = some (m + 2) := (fr_FR hf77 f66_0 (fun q => q) 5 1).trans (by simp [bm_putR, bm_up3, bm_FR])
    have u78_0 : bm_AI B76 (m + 1) = (fun _ => 0) := (fr_AI hf77 f66_1 (fun q => q)).trans u66_0
    have w78_0 : bm_AL B76 (m + 1) = 6 := (fr_AL hf77 f66_1).trans w66_0
    have w78_1 : bm_AL B76 (m + 2) = 12 := (fr_AL hf77 h64.2.2.1.1).trans h64.2.2.1.2.2
    have t79_0 : ∀ c k, bm_FI B76 c k m = 0 := fun c k => (fr_FI (fr0_f h76.1) f66_0 (fun q => q) c k).trans (t72_0 c k)
    have t79_1 : ∀ i, i < 0 → stb (PGv (m + 3 + 3 * i)) (m + 3 + 3 * i) (m + 3 + 3 * i + 3) B76 := fun i hi => stb_fr0 (t72_1 i hi) h76.1 (oq_15 hn73 hi)
    have t79_2 : ∀ i, i < 0 → bm_AR B76 ((m + 2)) i = some (m + 3 + 3 * i) := fun i hi => (congrFun (fr_AR (fr0_f h76.1) h64.2.2.1.1 (fun q => q)) i).trans (t72_2 i hi)
    refine g_pure (pc' := 41) (st' := [.ref ((m + 3 + 3 * 0)), .ref ((m + 3 + 3 * 0)), .int 0, .ref ((m + 2))]) cd_Me_init rfl rfl (fun _ _ => rfl) ?_
    refine g_callv (pc' := 44) cd_Me_init rfl rfl rfl rfl rfl (tm_invI rfl rfl cd_Gi_init rfl (Nat.le_of_ble_eq_true rfl)) (i_Gi hn73 h76 (fun B80 h80 => ?_))
    have hf81 := fr0_f h80.1
    have f82_0 := fr_lt hf81 f66_0
    have g82_0 := (fr_K hf81 f66_0).trans g66_0
    have f82_1 := fr_lt hf81 f66_1
    have g82_1 := (fr_K hf81 f66_1).trans g66_1
    have f82_2 := fr_lt hf81 h64.2.2.1.1
    have g82_2 := (fr_K hf81 h64.2.2.1.1).trans h64.2.2.1.2.1
    have r82_0 : bm_FR B80 5 0 m = some (m + 1) := (fr_FR hf81 f66_0 (fun q => q) 5 0).trans r66_0
    have r82_1 : bm_FR B80 5 1 m = some (m + 2) := (fr_FR hf81 f66_0 (fun q => q) 5 1).trans (by simp [bm_putR, bm_up3, bm_FR])
    have u82_0 : bm_AI B80 (m + 1) = (fun _ => 0) := (fr_AI hf81 f66_1 (fun q => q)).trans u66_0
    have w82_0 : bm_AL B80 (m + 1) = 6 := (fr_AL hf81 f66_1).trans w66_0
    have w82_1 : bm_AL B80 (m + 2) = 12 := (fr_AL hf81 h64.2.2.1.1).trans h64.2.2.1.2.2
    have t83_0 : ∀ c k, bm_FI B80 c k m = 0 := fun c k => (fr_FI (fr0_f h80.1) f66_0 (fun q => q) c k).trans (t72_0 c k)
    have t83_1 : ∀ i, i < 0 → stb (PGv (m + 3 + 3 * i)) (m + 3 + 3 * i) (m + 3 + 3 * i + 3) B80 := fun i hi => stb_fr0 (t72_1 i hi) h80.1 (oq_15 hn73 hi)
    have t83_2 : ∀ i, i < 0 → bm_AR B80 ((m + 2)) i = some (m + 3 + 3 * i) := fun i hi => (congrFun (fr_AR (fr0_f h80.1) h64.2.2.1.1 (fun q => q)) i).trans (t72_2 i hi)
    have hn84 : bm_n B80 = (m + 3 + 3 * 1) := (oq_17 h80.2.1.1)
    have sl85 : bm_sl B80 = bm_sl B0 + 61 := by rw [h80.2.1.2, sl74]
    have f086 : fr0 B0 B80 := fr0_trans f075 h80.1
    have F87 : ∀ i, i < 1 → stb (PGv (m + 3 + 3 * i)) (m + 3 + 3 * i) (m + 3 + 3 * i + 3) B80 := al_step (P := fun i => stb (PGv (m + 3 + 3 * i)) (m + 3 + 3 * i) (m + 3 + 3 * i + 3) B80) t83_1 h80.2.2.1
    show bm_G _ _ _ 44 _ [.ref ((m + 3 + 3 * 0)), .int 0, .ref ((m + 2))] B80 _
    refine g_aast (t := 7) (pc' := 45) cd_Me_init rfl rfl f82_2 g82_2 (by decide) rfl rfl h80.2.2.2.1 h80.2.2.2.2 (by rw [show bm_AL B80 (m + 2) = 12 from w82_1]; exact vp_in_nI (n := 0) (by decide) (by decide)) ?_
    rw [show (0 : Int32).toNatClampNeg = 0 from by decide]
    have t88_0 : ∀ c k, bm_FI (bm_setR B80 (m + 2) 0 (some ((m + 3 + 3 * 0)))) c k m = 0 := t83_0
    have t88_1 : ∀ i, i < 1 → stb (PGv (m + 3 + 3 * i)) (m + 3 + 3 * i) (m + 3 + 3 * i + 3) (bm_setR B80 (m + 2) 0 (some ((m + 3 + 3 * 0)))) := fun i hi => stb_setR (F87 i hi) (oq_18 hn84 hi) (oq_19 hi)
    have hn89 : bm_n (bm_setR B80 (m + 2) 0 (some ((m + 3 + 3 * 0)))) = (m + 3 + 3 * 1) := hn84
    have sl90 : bm_sl (bm_setR B80 (m + 2) 0 (some ((m + 3 + 3 * 0)))) = bm_sl B0 + 61 := sl85
    have f091 : fr0 B0 (bm_setR B80 (m + 2) 0 (some ((m + 3 + 3 * 0)))) := fr0_setR f086 (oq_20 hm)
    have R92 : ∀ i, i < 1 → bm_AR (bm_setR B80 (m + 2) 0 (some ((m + 3 + 3 * 0)))) ((m + 2)) i = some (m + 3 + 3 * i) := ars_step (f := fun i => m + 3 + 3 * i) t83_2
    refine g_inc (y := 1) (pc' := 48) cd_Me_init rfl l1 (by decide) (by decide) rfl (fun lv el => ?_)
    have l0 := tm_lk el l0 rfl (by decide)
    have l1 : lv.lookup 1 = some (.int 1) := tm_lks el
    clear el
    refine g_pure (pc' := 23) (st' := []) cd_Me_init rfl rfl (fun _ _ => rfl) ?_
    refine g_ild (pc' := 24) cd_Me_init rfl (Or.inr ⟨_, rfl, rfl, rfl⟩) l1 rfl ?_
    refine g_ald (pc' := 25) cd_Me_init rfl (Or.inr ⟨_, rfl, rfl, rfl⟩) l0 rfl rfl ?_
    refine g_fR (c := 5) (k := 1) (x := (m + 2)) (pc' := 28) cd_Me_init rfl rfl rfl rfl rfl (by decide) f82_0 g82_0 r82_1 ?_
    refine g_al (x := 12) (pc' := 29) cd_Me_init rfl rfl f82_2 (by rw [show bm_K (bm_setR B80 (m + 2) 0 (some ((m + 3 + 3 * 0)))) (m + 2) = 20 from g82_2]; decide) (by rw [show bm_K (bm_setR B80 (m + 2) 0 (some ((m + 3 + 3 * 0)))) (m + 2) = 20 from g82_2]; decide) (by rw [show bm_AL (bm_setR B80 (m + 2) 0 (some ((m + 3 + 3 * 0)))) (m + 2) = 12 from w82_1]; rfl) ?_
    refine g_if2 (t := 51) (pc' := 32) cd_Me_init rfl rfl rfl (fun c29 => ?_) (fun c29 => ?_)
    · exact absurd (show (12 : Int32) ≤ 1 from c29) (by decide)
    · have c29 : ¬ (12 : Int32) ≤ 1 := c29
      refine g_ald (pc' := 33) cd_Me_init rfl (Or.inr ⟨_, rfl, rfl, rfl⟩) l0 rfl rfl ?_
      refine g_fR (c := 5) (k := 1) (x := (m + 2)) (pc' := 36) cd_Me_init rfl rfl rfl rfl rfl (by decide) f82_0 g82_0 r82_1 ?_
      refine g_ild (pc' := 37) cd_Me_init rfl (Or.inr ⟨_, rfl, rfl, rfl⟩) l1 rfl ?_
      refine n_obj 3 hn89 cd_Me_init rfl rfl rfl rfl (by decide) rfl (fun B93 h93 => ?_)
      have hf94 := fr0_f h93.1
      have f95_0 := fr_lt hf94 f82_0
      have g95_0 := (fr_K hf94 f82_0).trans g82_0
      have f95_1 := fr_lt hf94 f82_1
      have g95_1 := (fr_K hf94 f82_1).trans g82_1
      have f95_2 := fr_lt hf94 f82_2
      have g95_2 := (fr_K hf94 f82_2).trans g82_2
      have f95_3 := fr_lt hf94 h80.2.2.2.1
      have g95_3 := (fr_K hf94 h80.2.2.2.1).trans h80.2.2.2.2
      have r95_0 : bm_FR B93 5 0 m = some (m + 1) := (fr_FR hf94 f82_0 (fun q => q) 5 0).trans r82_0
      have r95_1 : bm_FR B93 5 1 m = some (m + 2) := (fr_FR hf94 f82_0 (fun q => q) 5 1).trans r82_1
      have u95_0 : bm_AI B93 (m + 1) = (fun _ => 0) := (fr_AI hf94 f82_1 (fun q => q)).trans u82_0
      have w95_0 : bm_AL B93 (m + 1) = 6 := (fr_AL hf94 f82_1).trans w82_0
      have w95_1 : bm_AL B93 (m + 2) = 12 := (fr_AL hf94 f82_2).trans w82_1
      have t96_0 : ∀ c k, bm_FI B93 c k m = 0 := fun c k => (fr_FI (fr0_f h93.1) f82_0 (fun q => q) c k).trans (t88_0 c k)
      have t96_1 : ∀ i, i < 1 → stb (PGv (m + 3 + 3 * i)) (m + 3 + 3 * i) (m + 3 + 3 * i + 3) B93 := fun i hi => stb_fr0 (t88_1 i hi) h93.1 (oq_18 hn89 hi)
      have t96_2 : ∀ i, i < 1 → bm_AR B93 ((m + 2)) i = some (m + 3 + 3 * i) := fun i hi => (congrFun (fr_AR (fr0_f h93.1) f82_2 (fun q => q)) i).trans (R92 i hi)
      refine g_pure (pc' := 41) (st' := [.ref ((m + 3 + 3 * 1)), .ref ((m + 3 + 3 * 1)), .int 1, .ref ((m + 2))]) cd_Me_init rfl rfl (fun _ _ => rfl) ?_
      refine g_callv (pc' := 44) cd_Me_init rfl rfl rfl rfl rfl (tm_invI rfl rfl cd_Gi_init rfl (Nat.le_of_ble_eq_true rfl)) (i_Gi hn89 h93 (fun B97 h97 => ?_))
      have hf98 := fr0_f h97.1
      have f99_0 := fr_lt hf98 f82_0
      have g99_0 := (fr_K hf98 f82_0).trans g82_0
      have f99_1 := fr_lt hf98 f82_1
      have g99_1 := (fr_K hf98 f82_1).trans g82_1
      have f99_2 := fr_lt hf98 f82_2
      have g99_2 := (fr_K hf98 f82_2).trans g82_2
      have f99_3 := fr_lt hf98 h80.2.2.2.1
      have g99_3 := (fr_K hf98 h80.2.2.2.1).trans h80.2.2.2.2
      have r99_0 : bm_FR B97 5 0 m = some (m + 1) := (fr_FR hf98 f82_0 (fun q => q) 5 0).trans r82_0
      have r99_1 : bm_FR B97 5 1 m = some (m + 2) := (fr_FR hf98 f82_0 (fun q => q) 5 1).trans r82_1
      have u99_0 : bm_AI B97 (m + 1) = (fun _ => 0) := (fr_AI hf98 f82_1 (fun q => q)).trans u82_0
      have w99_0 : bm_AL B97 (m + 1) = 6 := (fr_AL hf98 f82_1).trans w82_0
      have w99_1 : bm_AL B97 (m + 2) = 12 := (fr_AL hf98 f82_2).trans w82_1
      have t100_0 : ∀ c k, bm_FI B97 c k m = 0 := fun c k => (fr_FI (fr0_f h97.1) f82_0 (fun q => q) c k).trans (t88_0 c k)
      have t100_1 : ∀ i, i < 1 → stb (PGv (m + 3 + 3 * i)) (m + 3 + 3 * i) (m + 3 + 3 * i + 3) B97 := fun i hi => stb_fr0 (t88_1 i hi) h97.1 (oq_18 hn89 hi)
      have t100_2 : ∀ i, i < 1 → bm_AR B97 ((m + 2)) i = some (m + 3 + 3 * i) := fun i hi => (congrFun (fr_AR (fr0_f h97.1) f82_2 (fun q => q)) i).trans (R92 i hi)
      have hn101 : bm_n B97 = (m + 3 + 3 * 2) := (oq_21 h97.2.1.1)
      have sl102 : bm_sl B97 = bm_sl B0 + 93 := by rw [h97.2.1.2, sl90]
      have f0103 : fr0 B0 B97 := fr0_trans f091 h97.1
      have F104 : ∀ i, i < 2 → stb (PGv (m + 3 + 3 * i)) (m + 3 + 3 * i) (m + 3 + 3 * i + 3) B97 := al_step (P := fun i => stb (PGv (m + 3 + 3 * i)) (m + 3 + 3 * i) (m + 3 + 3 * i + 3) B97) t100_1 h97.2.2.1
      show bm_G _ _ _ 44 _ [.ref ((m + 3 + 3 * 1)), .int 1, .ref ((m + 2))] B97 _
      refine g_aast (t := 7) (pc' := 45) cd_Me_init rfl rfl f99_2 g99_2 (by decide) rfl rfl h97.2.2.2.1 h97.2.2.2.2 (by rw [show bm_AL B97 (m + 2) = 12 from w99_1]; exact vp_in_nI (n := 1) (by decide) (by decide)) ?_
      rw [show (1 : Int32).toNatClampNeg = 1 from by decide]
      have t105_0 : ∀ c k, bm_FI (bm_setR B97 (m + 2) 1 (some ((m + 3 + 3 * 1)))) c k m = 0 := t100_0
      have t105_1 : ∀ i, i < 2 → stb (PGv (m + 3 + 3 * i)) (m + 3 + 3 * i) (m + 3 + 3 * i + 3) (bm_setR B97 (m + 2) 1 (some ((m + 3 + 3 * 1)))) := fun i hi => stb_setR (F104 i hi) (oq_22 hn101 hi) (oq_23 hi)
      have hn106 : bm_n (bm_setR B97 (m + 2) 1 (some ((m + 3 + 3 * 1)))) = (m + 3 + 3 * 2) := hn101
      have sl107 : bm_sl (bm_setR B97 (m + 2) 1 (some ((m + 3 + 3 * 1)))) = bm_sl B0 + 93 := sl102
      have f0108 : fr0 B0 (bm_setR B97 (m + 2) 1 (some ((m + 3 + 3 * 1)))) := fr0_setR f0103 (oq_20 hm)
      have R109 : ∀ i, i < 2 → bm_AR (bm_setR B97 (m + 2) 1 (some ((m + 3 + 3 * 1)))) ((m + 2)) i = some (m + 3 + 3 * i) := ars_step (f := fun i => m + 3 + 3 * i) t100_2
      refine g_inc (y := 2) (pc' := 48) cd_Me_init rfl l1 (by decide) (by decide) rfl (fun lv el => ?_)
      have l0 := tm_lk el l0 rfl (by decide)
      have l1 : lv.lookup 1 = some (.int 2) := tm_lks el
      clear el
      refine g_pure (pc' := 23) (st' := []) cd_Me_init rfl rfl (fun _ _ => rfl) ?_
      refine g_ild (pc' := 24) cd_Me_init rfl (Or.inr ⟨_, rfl, rfl, rfl⟩) l1 rfl ?_
      refine g_ald (pc' := 25) cd_Me_init rfl (Or.inr ⟨_, rfl, rfl, rfl⟩) l0 rfl rfl ?_
      refine g_fR (c := 5) (k := 1) (x := (m + 2)) (pc' := 28) cd_Me_init rfl rfl rfl rfl rfl (by decide) f99_0 g99_0 r99_1 ?_
      refine g_al (x := 12) (pc' := 29) cd_Me_init rfl rfl f99_2 (by rw [show bm_K (bm_setR B97 (m + 2) 1 (some ((m + 3 + 3 * 1)))) (m + 2) = 20 from g99_2]; decide) (by rw [show bm_K (bm_setR B97 (m + 2) 1 (some ((m + 3 + 3 * 1)))) (m + 2) = 20 from g99_2]; decide) (by rw [show bm_AL (bm_setR B97 (m + 2) 1 (some ((m + 3 + 3 * 1)))) (m + 2) = 12 from w99_1]; rfl) ?_
      refine g_if2 (t := 51) (pc' := 32) cd_Me_init rfl rfl rfl (fun c29 => ?_) (fun c29 => ?_)
      · exact absurd (show (12 : Int32) ≤ 2 from c29) (by decide)
      · have c29 : ¬ (12 : Int32) ≤ 2 := c29
        refine g_ald (pc' := 33) cd_Me_init rfl (Or.inr ⟨_, rfl, rfl, rfl⟩) l0 rfl rfl ?_
        refine g_fR (c := 5) (k := 1) (x := (m + 2)) (pc' := 36) cd_Me_init rfl rfl rfl rfl rfl (by decide) f99_0 g99_0 r99_1 ?_
        refine g_ild (pc' := 37) cd_Me_init rfl (Or.inr ⟨_, rfl, rfl, rfl⟩) l1 rfl ?_
        refine n_obj 3 hn106 cd_Me_init rfl rfl rfl rfl (by decide) rfl (fun B110 h110 => ?_)
        have hf111 := fr0_f h110.1
        have f112_0 := fr_lt hf111 f99_0
        have g112_0 := (fr_K hf111 f99_0).trans g99_0
        have f112_1 := fr_lt hf111 f99_1
        have g112_1 := (fr_K hf111 f99_1).trans g99_1
        have f112_2 := fr_lt hf111 f99_2
        have g112_2 := (fr_K hf111 f99_2).trans g99_2
        have f112_3 := fr_lt hf111 f99_3
        have g112_3 := (fr_K hf111 f99_3).trans g99_3
        have f112_4 := fr_lt hf111 h97.2.2.2.1
        have g112_4 := (fr_K hf111 h97.2.2.2.1).trans h97.2.2.2.2
        have r112_0 : bm_FR B110 5 0 m = some (m + 1) := (fr_FR hf111 f99_0 (fun q => q) 5 0).trans r99_0
        have r112_1 : bm_FR B110 5 1 m = some (m + 2) := (fr_FR hf111 f99_0 (fun q => q) 5 1).trans r99_1
        have u112_0 : bm_AI B110 (m + 1) = (fun _ => 0) := (fr_AI hf111 f99_1 (fun q => q)).trans u99_0
        have w112_0 : bm_AL B110 (m + 1) = 6 := (fr_AL hf111 f99_1).trans w99_0
        have w112_1 : bm_AL B110 (m + 2) = 12 := (fr_AL hf111 f99_2).trans w99_1
        have t113_0 : ∀ c k, bm_FI B110 c k m = 0 := fun c k => (fr_FI (fr0_f h110.1) f99_0 (fun q => q) c k).trans (t105_0 c k)
        have t113_1 : ∀ i, i < 2 → stb (PGv (m + 3 + 3 * i)) (m + 3 + 3 * i) (m + 3 + 3 * i + 3) B110 := fun i hi => stb_fr0 (t105_1 i hi) h110.1 (oq_22 hn106 hi)
        have t113_2 : ∀ i, i < 2 → bm_AR B110 ((m + 2)) i = some (m + 3 + 3 * i) := fun i hi => (congrFun (fr_AR (fr0_f h110.1) f99_2 (fun q => q)) i).trans (R109 i hi)
        refine g_pure (pc' := 41) (st' := [.ref ((m + 3 + 3 * 2)), .ref ((m + 3 + 3 * 2)), .int 2, .ref ((m + 2))]) cd_Me_init rfl rfl (fun _ _ => rfl) ?_
        refine g_callv (pc' := 44) cd_Me_init rfl rfl rfl rfl rfl (tm_invI rfl rfl cd_Gi_init rfl (Nat.le_of_ble_eq_true rfl)) (i_Gi hn106 h110 (fun B114 h114 => ?_))
        have hf115 := fr0_f h114.1
        have f116_0 := fr_lt hf115 f99_0
        have g116_0 := (fr_K hf115 f99_0).trans g99_0
        have f116_1 := fr_lt hf115 f99_1
        have g116_1 := (fr_K hf115 f99_1).trans g99_1
        have f116_2 := fr_lt hf115 f99_2
        have g116_2 := (fr_K hf115 f99_2).trans g99_2
        have f116_3 := fr_lt hf115 f99_3
        have g116_3 := (fr_K hf115 f99_3).trans g99_3
        have f116_4 := fr_lt hf115 h97.2.2.2.1
        have g116_4 := (fr_K hf115 h97.2.2.2.1).trans h97.2.2.2.2
        have r116_0 : bm_FR B114 5 0 m = some (m + 1) := (fr_FR hf115 f99_0 (fun q => q) 5 0).trans r99_0
        have r116_1 : bm_FR B114 5 1 m = some (m + 2) := (fr_FR hf115 f99_0 (fun q => q) 5 1).trans r99_1
        have u116_0 : bm_AI B114 (m + 1) = (fun _ => 0) := (fr_AI hf115 f99_1 (fun q => q)).trans u99_0
        have w116_0 : bm_AL B114 (m + 1) = 6 := (fr_AL hf115 f99_1).trans w99_0
        have w116_1 : bm_AL B114 (m + 2) = 12 := (fr_AL hf115 f99_2).trans w99_1
        have t117_0 : ∀ c k, bm_FI B114 c k m = 0 := fun c k => (fr_FI (fr0_f h114.1) f99_0 (fun q => q) c k).trans (t105_0 c k)
        have t117_1 : ∀ i, i < 2 → stb (PGv (m + 3 + 3 * i)) (m + 3 + 3 * i) (m + 3 + 3 * i + 3) B114 := fun i hi => stb_fr0 (t105_1 i hi) h114.1 (oq_22 hn106 hi)
        have t117_2 : ∀ i, i < 2 → bm_AR B114 ((m + 2)) i = some (m + 3 + 3 * i) := fun i hi => (congrFun (fr_AR (fr0_f h114.1) f99_2 (fun q => q)) i).trans (R109 i hi)
        have hn118 : bm_n B114 = (m + 3 + 3 * 3) := (oq_24 h114.2.1.1)
        have sl119 : bm_sl B114 = bm_sl B0 + 125 := by rw [h114.2.1.2, sl107]
        have f0120 : fr0 B0 B114 := fr0_trans f0108 h114.1
        have F121 : ∀ i, i < 3 → stb (PGv (m + 3 + 3 * i)) (m + 3 + 3 * i) (m + 3 + 3 * i + 3) B114 := al_step (P := fun i => stb (PGv (m + 3 + 3 * i)) (m + 3 + 3 * i) (m + 3 + 3 * i + 3) B114) t117_1 h114.2.2.1
        show bm_G _ _ _ 44 _ [.ref ((m + 3 + 3 * 2)), .int 2, .ref ((m + 2))] B114 _
        refine g_aast (t := 7) (pc' := 45) cd_Me_init rfl rfl f116_2 g116_2 (by decide) rfl rfl h114.2.2.2.1 h114.2.2.2.2 (by rw [show bm_AL B114 (m + 2) = 12 from w116_1]; exact vp_in_nI (n := 2) (by decide) (by decide)) ?_
        rw [show (2 : Int32).toNatClampNeg = 2 from by decide]
        have t122_0 : ∀ c k, bm_FI (bm_setR B114 (m + 2) 2 (some ((m + 3 + 3 * 2)))) c k m = 0 := t117_0
        have t122_1 : ∀ i, i < 3 → stb (PGv (m + 3 + 3 * i)) (m + 3 + 3 * i) (m + 3 + 3 * i + 3) (bm_setR B114 (m + 2) 2 (some ((m + 3 + 3 * 2)))) := fun i hi => stb_setR (F121 i hi) (oq_25 hn118 hi) (oq_26 hi)
        have hn123 : bm_n (bm_setR B114 (m + 2) 2 (some ((m + 3 + 3 * 2)))) = (m + 3 + 3 * 3) := hn118
        have sl124 : bm_sl (bm_setR B114 (m + 2) 2 (some ((m + 3 + 3 * 2)))) = bm_sl B0 + 125 := sl119
        have f0125 : fr0 B0 (bm_setR B114 (m + 2) 2 (some ((m + 3 + 3 * 2)))) := fr0_setR f0120 (oq_20 hm)
        have R126 : ∀ i, i < 3 → bm_AR (bm_setR B114 (m + 2) 2 (some ((m + 3 + 3 * 2)))) ((m + 2)) i = some (m + 3 + 3 * i) := ars_step (f := fun i => m + 3 + 3 * i) t117_2
        refine g_inc (y := 3) (pc' := 48) cd_Me_init rfl l1 (by decide) (by decide) rfl (fun lv el => ?_)
        have l0 := tm_lk el l0 rfl (by decide)
        have l1 : lv.lookup 1 = some (.int 3) := tm_lks el
        clear el
        refine g_pure (pc' := 23) (st' := []) cd_Me_init rfl rfl (fun _ _ => rfl) ?_
        refine g_ild (pc' := 24) cd_Me_init rfl (Or.inr ⟨_, rfl, rfl, rfl⟩) l1 rfl ?_
        refine g_ald (pc' := 25) cd_Me_init rfl (Or.inr ⟨_, rfl, rfl, rfl⟩) l0 rfl rfl ?_
        refine g_fR (c := 5) (k := 1) (x := (m + 2)) (pc' := 28) cd_Me_init rfl rfl rfl rfl rfl (by decide) f116_0 g116_0 r116_1 ?_
        refine g_al (x := 12) (pc' := 29) cd_Me_init rfl rfl f116_2 (by rw [show bm_K (bm_setR B114 (m + 2) 2 (some ((m + 3 + 3 * 2)))) (m + 2) = 20 from g116_2]; decide) (by rw [show bm_K (bm_setR B114 (m + 2) 2 (some ((m + 3 + 3 * 2)))) (m + 2) = 20 from g116_2]; decide) (by rw [show bm_AL (bm_setR B114 (m + 2) 2 (some ((m + 3 + 3 * 2)))) (m + 2) = 12 from w116_1]; rfl) ?_
        refine g_if2 (t := 51) (pc' := 32) cd_Me_init rfl rfl rfl (fun c29 => ?_) (fun c29 => ?_)
        · exact absurd (show (12 : Int32) ≤ 3 from c29) (by decide)
        · have c29 : ¬ (12 : Int32) ≤ 3 := c29
          refine g_ald (pc' := 33) cd_Me_init rfl (Or.inr ⟨_, rfl, rfl, rfl⟩) l0 rfl rfl ?_
          refine g_fR (c := 5) (k := 1) (x := (m + 2)) (pc' := 36) cd_Me_init rfl rfl rfl rfl rfl (by decide) f116_0 g116_0 r116_1 ?_
          refine g_ild (pc' := 37) cd_Me_init rfl (Or.inr ⟨_, rfl, rfl, rfl⟩) l1 rfl ?_
          refine n_obj 3 hn123 cd_Me_init rfl rfl rfl rfl (by decide) rfl (fun B127 h127 => ?_)
          have hf128 := fr0_f h127.1
          have f129_0 := fr_lt hf128 f116_0
          have g129_0 := (fr_K hf128 f116_0).trans g116_0
          have f129_1 := fr_lt hf128 f116_1
          have g129_1 := (fr_K hf128 f116_1).trans g116_1
          have f129_2 := fr_lt hf128 f116_2
          have g129_2 := (fr_K hf128 f116_2).trans g116_2
          have f129_3 := fr_lt hf128 f116_3
          have g129_3 := (fr_K hf128 f116_3).trans g116_3
          have f129_4 := fr_lt hf128 f116_4
          have g129_4 := (fr_K hf128 f116_4).trans g116_4
          have f129_5 := fr_lt hf128 h114.2.2.2.1
          have g129_5 := (fr_K hf128 h114.2.2.2.1).trans h114.2.2.2.2
          have r129_0 : bm_FR B127 5 0 m = some (m + 1) := (fr_FR hf128 f116_0 (fun q => q) 5 0).trans r116_0
          have r129_1 : bm_FR B127 5 1 m = some (m + 2) := (fr_FR hf128 f116_0 (fun q => q) 5 1).trans r116_1
          have u129_0 : bm_AI B127 (m + 1) = (fun _ => 0) := (fr_AI hf128 f116_1 (fun q => q)).trans u116_0
          have w129_0 : bm_AL B127 (m + 1) = 6 := (fr_AL hf128 f116_1).trans w116_0
          have w129_1 : bm_AL B127 (m + 2) = 12 := (fr_AL hf128 f116_2).trans w116_1
          have t130_0 : ∀ c k, bm_FI B127 c k m = 0 := fun c k => (fr_FI (fr0_f h127.1) f116_0 (fun q => q) c k).trans (t122_0 c k)
          have t130_1 : ∀ i, i < 3 → stb (PGv (m + 3 + 3 * i)) (m + 3 + 3 * i) (m + 3 + 3 * i + 3) B127 := fun i hi => stb_fr0 (t122_1 i hi) h127.1 (oq_25 hn123 hi)
          have t130_2 : ∀ i, i < 3 → bm_AR B127 ((m + 2)) i = some (m + 3 + 3 * i) := fun i hi => (congrFun (fr_AR (fr0_f h127.1) f116_2 (fun q => q)) i).trans (R126 i hi)
          refine g_pure (pc' := 41) (st' := [.ref ((m + 3 + 3 * 3)), .ref ((m + 3 + 3 * 3)), .int 3, .ref ((m + 2))]) cd_Me_init rfl rfl (fun _ _ => rfl) ?_
          refine g_callv (pc' := 44) cd_Me_init rfl rfl rfl rfl rfl (tm_invI rfl rfl cd_Gi_init rfl (Nat.le_of_ble_eq_true rfl)) (i_Gi hn123 h127 (fun B131 h131 => ?_))
          have hf132 := fr0_f h131.1
          have f133_0 := fr_lt hf132 f116_0
          have g133_0 := (fr_K hf132 f116_0).trans g116_0
          have f133_1 := fr_lt hf132 f116_1
          have g133_1 := (fr_K hf132 f116_1).trans g116_1
          have f133_2 := fr_lt hf132 f116_2
          have g133_2 := (fr_K hf132 f116_2).trans g116_2
          have f133_3 := fr_lt hf132 f116_3
          have g133_3 := (fr_K hf132 f116_3).trans g116_3
          have f133_4 := fr_lt hf132 f116_4
          have g133_4 := (fr_K hf132 f116_4).trans g116_4
          have f133_5 := fr_lt hf132 h114.2.2.2.1
          have g133_5 := (fr_K hf132 h114.2.2.2.1).trans h114.2.2.2.2
          have r133_0 : bm_FR B131 5 0 m = some (m + 1) := (fr_FR hf132 f116_0 (fun q => q) 5 0).trans r116_0
          have r133_1 : bm_FR B131 5 1 m = some (m + 2) := (fr_FR hf132 f116_0 (fun q => q) 5 1).trans r116_1
          have u133_0 : bm_AI B131 (m + 1) = (fun _ => 0) := (fr_AI hf132 f116_1 (fun q => q)).trans u116_0
          have w133_0 : bm_AL B131 (m + 1) = 6 := (fr_AL hf132 f116_1).trans w116_0
          have w133_1 : bm_AL B131 (m + 2) = 12 := (fr_AL hf132 f116_2).trans w116_1
          have t134_0 : ∀ c k, bm_FI B131 c k m = 0 := fun c k => (fr_FI (fr0_f h131.1) f116_0 (fun q => q) c k).trans (t122_0 c k)
          have t134_1 : ∀ i, i < 3 → stb (PGv (m + 3 + 3 * i)) (m + 3 + 3 * i) (m + 3 + 3 * i + 3) B131 := fun i hi => stb_fr0 (t122_1 i hi) h131.1 (oq_25 hn123 hi)
          have t134_2 : ∀ i, i < 3 → bm_AR B131 ((m + 2)) i = some (m + 3 + 3 * i) := fun i hi => (congrFun (fr_AR (fr0_f h131.1) f116_2 (fun q => q)) i).trans (R126 i hi)
          have hn135 : bm_n B131 = (m + 3 + 3 * 4) := (oq_27 h131.2.1.1)
          have sl136 : bm_sl B131 = bm_sl B0 + 157 := by rw [h131.2.1.2, sl124]
          have f0137 : fr0 B0 B131 := fr0_trans f0125 h131.1
          have F138 : ∀ i, i < 4 → stb (PGv (m + 3 + 3 * i)) (m + 3 + 3 * i) (m + 3 + 3 * i + 3) B131 := al_step (P := fun i => stb (PGv (m + 3 + 3 * i)) (m + 3 + 3 * i) (m + 3 + 3 * i + 3) B131) t134_1 h131.2.2.1
          show bm_G _ _ _ 44 _ [.ref ((m + 3 + 3 * 3)), .int 3, .ref ((m + 2))] B131 _
          refine g_aast (t := 7) (pc' := 45) cd_Me_init rfl rfl f133_2 g133_2 (by decide) rfl rfl h131.2.2.2.1 h131.2.2.2.2 (by rw [show bm_AL B131 (m + 2) = 12 from w133_1]; exact vp_in_nI (n := 3) (by decide) (by decide)) ?_
          rw [show (3 : Int32).toNatClampNeg = 3 from by decide]
          have t139_0 : ∀ c k, bm_FI (bm_setR B131 (m + 2) 3 (some ((m + 3 + 3 * 3)))) c k m = 0 := t134_0
          have t139_1 : ∀ i, i < 4 → stb (PGv (m + 3 + 3 * i)) (m + 3 + 3 * i) (m + 3 + 3 * i + 3) (bm_setR B131 (m + 2) 3 (some ((m + 3 + 3 * 3)))) := fun i hi => stb_setR (F138 i hi) (oq_28 hn135 hi) (oq_29 hi)
          have hn140 : bm_n (bm_setR B131 (m + 2) 3 (some ((m + 3 + 3 * 3)))) = (m + 3 + 3 * 4) := hn135
          have sl141 : bm_sl (bm_setR B131 (m + 2) 3 (some ((m + 3 + 3 * 3)))) = bm_sl B0 + 157 := sl136
          have f0142 : fr0 B0 (bm_setR B131 (m + 2) 3 (some ((m + 3 + 3 * 3)))) := fr0_setR f0137 (oq_20 hm)
          have R143 : ∀ i, i < 4 → bm_AR (bm_setR B131 (m + 2) 3 (some ((m + 3 + 3 * 3)))) ((m + 2)) i = some (m + 3 + 3 * i) := ars_step (f := fun i => m + 3 + 3 * i) t134_2
          refine g_inc (y := 4) (pc' := 48) cd_Me_init rfl l1 (by decide) (by decide) rfl (fun lv el => ?_)
          have l0 := tm_lk el l0 rfl (by decide)
          have l1 : lv.lookup 1 = some (.int 4) := tm_lks el
          clear el
          refine g_pure (pc' := 23) (st' := []) cd_Me_init rfl rfl (fun _ _ => rfl) ?_
          refine g_ild (pc' := 24) cd_Me_init rfl (Or.inr ⟨_, rfl, rfl, rfl⟩) l1 rfl ?_
          refine g_ald (pc' := 25) cd_Me_init rfl (Or.inr ⟨_, rfl, rfl, rfl⟩) l0 rfl rfl ?_
          refine g_fR (c := 5) (k := 1) (x := (m + 2)) (pc' := 28) cd_Me_init rfl rfl rfl rfl rfl (by decide) f133_0 g133_0 r133_1 ?_
          refine g_al (x := 12) (pc' := 29) cd_Me_init rfl rfl f133_2 (by rw [show bm_K (bm_setR B131 (m + 2) 3 (some ((m + 3 + 3 * 3)))) (m + 2) = 20 from g133_2]; decide) (by rw [show bm_K (bm_setR B131 (m + 2) 3 (some ((m + 3 + 3 * 3)))) (m + 2) = 20 from g133_2]; decide) (by rw [show bm_AL (bm_setR B131 (m + 2) 3 (some ((m + 3 + 3 * 3)))) (m + 2) = 12 from w133_1]; rfl) ?_
          refine g_if2 (t := 51) (pc' := 32) cd_Me_init rfl rfl rfl (fun c29 => ?_) (fun c29 => ?_)
          · exact absurd (show (12 : Int32) ≤ 4 from c29) (by decide)
          · have c29 : ¬ (12 : Int32) ≤ 4 := c29
            refine g_ald (pc' := 33) cd_Me_init rfl (Or.inr ⟨_, rfl, rfl, rfl⟩) l0 rfl rfl ?_
            refine g_fR (c := 5) (k := 1) (x := (m + 2)) (pc' := 36) cd_Me_init rfl rfl rfl rfl rfl (by decide) f133_0 g133_0 r133_1 ?_
            refine g_ild (pc' := 37) cd_Me_init rfl (Or.inr ⟨_, rfl, rfl, rfl⟩) l1 rfl ?_
            refine n_obj 3 hn140 cd_Me_init rfl rfl rfl rfl (by decide) rfl (fun B144 h144 => ?_)
            have hf145 := fr0_f h144.1
            have f146_0 := fr_lt hf145 f133_0
            have g146_0 := (fr_K hf145 f133_0).trans g133_0
            have f146_1 := fr_lt hf145 f133_1
            have g146_1 := (fr_K hf145 f133_1).trans g133_1
            have f146_2 := fr_lt hf145 f133_2
            have g146_2 := (fr_K hf145 f133_2).trans g133_2
            have f146_3 := fr_lt hf145 f133_3
            have g146_3 := (fr_K hf145 f133_3).trans g133_3
            have f146_4 := fr_lt hf145 f133_4
            have g146_4 := (fr_K hf145 f133_4).trans g133_4
            have f146_5 := fr_lt hf145 f133_5
            have g146_5 := (fr_K hf145 f133_5).trans g133_5
            have f146_6 := fr_lt hf145 h131.2.2.2.1
            have g146_6 := (fr_K hf145 h131.2.2.2.1).trans h131.2.2.2.2
            have r146_0 : bm_FR B144 5 0 m = some (m + 1) := (fr_FR hf145 f133_0 (fun q => q) 5 0).trans r133_0
            have r146_1 : bm_FR B144 5 1 m = some (m + 2) := (fr_FR hf145 f133_0 (fun q => q) 5 1).trans r133_1
            have u146_0 : bm_AI B144 (m + 1) = (fun _ => 0) := (fr_AI hf145 f133_1 (fun q => q)).trans u133_0
            have w146_0 : bm_AL B144 (m + 1) = 6 := (fr_AL hf145 f133_1).trans w133_0
            have w146_1 : bm_AL B144 (m + 2) = 12 := (fr_AL hf145 f133_2).trans w133_1
            have t147_0 : ∀ c k, bm_FI B144 c k m = 0 := fun c k => (fr_FI (fr0_f h144.1) f133_0 (fun q => q) c k).trans (t139_0 c k)
            have t147_1 : ∀ i, i < 4 → stb (PGv (m + 3 + 3 * i)) (m + 3 + 3 * i) (m + 3 + 3 * i + 3) B144 := fun i hi => stb_fr0 (t139_1 i hi) h144.1 (oq_28 hn140 hi)
            have t147_2 : ∀ i, i < 4 → bm_AR B144 ((m + 2)) i = some (m + 3 + 3 * i) := fun i hi => (congrFun (fr_AR (fr0_f h144.1) f133_2 (fun q => q)) i).trans (R143 i hi)
            refine g_pure (pc' := 41) (st' := [.ref ((m + 3 + 3 * 4)), .ref ((m + 3 + 3 * 4)), .int 4, .ref ((m + 2))]) cd_Me_init rfl rfl (fun _ _ => rfl) ?_
            refine g_callv (pc' := 44) cd_Me_init rfl rfl rfl rfl rfl (tm_invI rfl rfl cd_Gi_init rfl (Nat.le_of_ble_eq_true rfl)) (i_Gi hn140 h144 (fun B148 h148 => ?_))
            have hf149 := fr0_f h148.1
            have f150_0 := fr_lt hf149 f133_0
            have g150_0 := (fr_K hf149 f133_0).trans g133_0
            have f150_1 := fr_lt hf149 f133_1
            have g150_1 := (fr_K hf149 f133_1).trans g133_1
            have f150_2 := fr_lt hf149 f133_2
            have g150_2 := (fr_K hf149 f133_2).trans g133_2
            have f150_3 := fr_lt hf149 f133_3
            have g150_3 := (fr_K hf149 f133_3).trans g133_3
            have f150_4 := fr_lt hf149 f133_4
            have g150_4 := (fr_K hf149 f133_4).trans g133_4
            have f150_5 := fr_lt hf149 f133_5
            have g150_5 := (fr_K hf149 f133_5).trans g133_5
            have f150_6 := fr_lt hf149 h131.2.2.2.1
            have g150_6 := (fr_K hf149 h131.2.2.2.1).trans h131.2.2.2.2
            have r150_0 : bm_FR B148 5 0 m = some (m + 1) := (fr_FR hf149 f133_0 (fun q => q) 5 0).trans r133_0
            have r150_1 : bm_FR B148 5 1 m = some (m + 2) := (fr_FR hf149 f133_0 (fun q => q) 5 1).trans r133_1
            have u150_0 : bm_AI B148 (m + 1) = (fun _ => 0) := (fr_AI hf149 f133_1 (fun q => q)).trans u133_0
            have w150_0 : bm_AL B148 (m + 1) = 6 := (fr_AL hf149 f133_1).trans w133_0
            have w150_1 : bm_AL B148 (m + 2) = 12 := (fr_AL hf149 f133_2).trans w133_1
            have t151_0 : ∀ c k, bm_FI B148 c k m = 0 := fun c k => (fr_FI (fr0_f h148.1) f133_0 (fun q => q) c k).trans (t139_0 c k)
            have t151_1 : ∀ i, i < 4 → stb (PGv (m + 3 + 3 * i)) (m + 3 + 3 * i) (m + 3 + 3 * i + 3) B148 := fun i hi => stb_fr0 (t139_1 i hi) h148.1 (oq_28 hn140 hi)
            have t151_2 : ∀ i, i < 4 → bm_AR B148 ((m + 2)) i = some (m + 3 + 3 * i) := fun i hi => (congrFun (fr_AR (fr0_f h148.1) f133_2 (fun q => q)) i).trans (R143 i hi)
            have hn152 : bm_n B148 = (m + 3 + 3 * 5) := (oq_30 h148.2.1.1)
            have sl153 : bm_sl B148 = bm_sl B0 + 189 := by rw [h148.2.1.2, sl141]
            have f0154 : fr0 B0 B148 := fr0_trans f0142 h148.1
            have F155 : ∀ i, i < 5 → stb (PGv (m + 3 + 3 * i)) (m + 3 + 3 * i) (m + 3 + 3 * i + 3) B148 := al_step (P := fun i => stb (PGv (m + 3 + 3 * i)) (m + 3 + 3 * i) (m + 3 + 3 * i + 3) B148) t151_1 h148.2.2.1
            show bm_G _ _ _ 44 _ [.ref ((m + 3 + 3 * 4)), .int 4, .ref ((m + 2))] B148 _
            refine g_aast (t := 7) (pc' := 45) cd_Me_init rfl rfl f150_2 g150_2 (by decide) rfl rfl h148.2.2.2.1 h148.2.2.2.2 (by rw [show bm_AL B148 (m + 2) = 12 from w150_1]; exact vp_in_nI (n := 4) (by decide) (by decide)) ?_
            rw [show (4 : Int32).toNatClampNeg = 4 from by decide]
            have t156_0 : ∀ c k, bm_FI (bm_setR B148 (m + 2) 4 (some ((m + 3 + 3 * 4)))) c k m = 0 := t151_0
            have t156_1 : ∀ i, i < 5 → stb (PGv (m + 3 + 3 * i)) (m + 3 + 3 * i) (m + 3 + 3 * i + 3) (bm_setR B148 (m + 2) 4 (some ((m + 3 + 3 * 4)))) := fun i hi => stb_setR (F155 i hi) (oq_31 hn152 hi) (oq_32 hi)
            have hn157 : bm_n (bm_setR B148 (m + 2) 4 (some ((m + 3 + 3 * 4)))) = (m + 3 + 3 * 5) := hn152
            have sl158 : bm_sl (bm_setR B148 (m + 2) 4 (some ((m + 3 + 3 * 4)))) = bm_sl B0 + 189 := sl153
            have f0159 : fr0 B0 (bm_setR B148 (m + 2) 4 (some ((m + 3 + 3 * 4)))) := fr0_setR f0154 (oq_20 hm)
            have R160 : ∀ i, i < 5 → bm_AR (bm_setR B148 (m + 2) 4 (some ((m + 3 + 3 * 4)))) ((m + 2)) i = some (m + 3 + 3 * i) := ars_step (f := fun i => m + 3 + 3 * i) t151_2
            refine g_inc (y := 5) (pc' := 48) cd_Me_init rfl l1 (by decide) (by decide) rfl (fun lv el => ?_)
            have l0 := tm_lk el l0 rfl (by decide)
            have l1 : lv.lookup 1 = some (.int 5) := tm_lks el
            clear el
            refine g_pure (pc' := 23) (st' := []) cd_Me_init rfl rfl (fun _ _ => rfl) ?_
            refine g_ild (pc' := 24) cd_Me_init rfl (Or.inr ⟨_, rfl, rfl, rfl⟩) l1 rfl ?_
            refine g_ald (pc' := 25) cd_Me_init rfl (Or.inr ⟨_, rfl, rfl, rfl⟩) l0 rfl rfl ?_
            refine g_fR (c := 5) (k := 1) (x := (m + 2)) (pc' := 28) cd_Me_init rfl rfl rfl rfl rfl (by decide) f150_0 g150_0 r150_1 ?_
            refine g_al (x := 12) (pc' := 29) cd_Me_init rfl rfl f150_2 (by rw [show bm_K (bm_setR B148 (m + 2) 4 (some ((m + 3 + 3 * 4)))) (m + 2) = 20 from g150_2]; decide) (by rw [show bm_K (bm_setR B148 (m + 2) 4 (some ((m + 3 + 3 * 4)))) (m + 2) = 20 from g150_2]; decide) (by rw [show bm_AL (bm_setR B148 (m + 2) 4 (some ((m + 3 + 3 * 4)))) (m + 2) = 12 from w150_1]; rfl) ?_
            refine g_if2 (t := 51) (pc' := 32) cd_Me_init rfl rfl rfl (fun c29 => ?_) (fun c29 => ?_)
            · exact absurd (show (12 : Int32) ≤ 5 from c29) (by decide)
            · have c29 : ¬ (12 : Int32) ≤ 5 := c29
              refine g_ald (pc' := 33) cd_Me_init rfl (Or.inr ⟨_, rfl, rfl, rfl⟩) l0 rfl rfl ?_
              refine g_fR (c := 5) (k := 1) (x := (m + 2)) (pc' := 36) cd_Me_init rfl rfl rfl rfl rfl (by decide) f150_0 g150_0 r150_1 ?_
              refine g_ild (pc' := 37) cd_Me_init rfl (Or.inr ⟨_, rfl, rfl, rfl⟩) l1 rfl ?_
              refine n_obj 3 hn157 cd_Me_init rfl rfl rfl rfl (by decide) rfl (fun B161 h161 => ?_)
              have hf162 := fr0_f h161.1
              have f163_0 := fr_lt hf162 f150_0
              have g163_0 := (fr_K hf162 f150_0).trans g150_0
              have f163_1 := fr_lt hf162 f150_1
              have g163_1 := (fr_K hf162 f150_1).trans g150_1
              have f163_2 := fr_lt hf162 f150_2
              have g163_2 := (fr_K hf162 f150_2).trans g150_2
              have f163_3 := fr_lt hf162 f150_3
              have g163_3 := (fr_K hf162 f150_3).trans g150_3
              have f163_4 := fr_lt hf162 f150_4
              have g163_4 := (fr_K hf162 f150_4).trans g150_4
              have f163_5 := fr_lt hf162 f150_5
              have g163_5 := (fr_K hf162 f150_5).trans g150_5
              have f163_6 := fr_lt hf162 f150_6
              have g163_6 := (fr_K hf162 f150_6).trans g150_6
              have f163_7 := fr_lt hf162 h148.2.2.2.1
              have g163_7 := (fr_K hf162 h148.2.2.2.1).trans h148.2.2.2.2
              have r163_0 : bm_FR B161 5 0 m = some (m + 1) := (fr_FR hf162 f150_0 (fun q => q) 5 0).trans r150_0
              have r163_1 : bm_FR B161 5 1 m = some (m + 2) := (fr_FR hf162 f150_0 (fun q => q) 5 1).trans r150_1
              have u163_0 : bm_AI B161 (m + 1) = (fun _ => 0) := (fr_AI hf162 f150_1 (fun q => q)).trans u150_0
              have w163_0 : bm_AL B161 (m + 1) = 6 := (fr_AL hf162 f150_1).trans w150_0
              have w163_1 : bm_AL B161 (m + 2) = 12 := (fr_AL hf162 f150_2).trans w150_1
              have t164_0 : ∀ c k, bm_FI B161 c k m = 0 := fun c k => (fr_FI (fr0_f h161.1) f150_0 (fun q => q) c k).trans (t156_0 c k)
              have t164_1 : ∀ i, i < 5 → stb (PGv (m + 3 + 3 * i)) (m + 3 + 3 * i) (m + 3 + 3 * i + 3) B161 := fun i hi => stb_fr0 (t156_1 i hi) h161.1 (oq_31 hn157 hi)
              have t164_2 : ∀ i, i < 5 → bm_AR B161 ((m + 2)) i = some (m + 3 + 3 * i) := fun i hi => (congrFun (fr_AR (fr0_f h161.1) f150_2 (fun q => q)) i).trans (R160 i hi)
              refine g_pure (pc' := 41) (st' := [.ref ((m + 3 + 3 * 5)), .ref ((m + 3 + 3 * 5)), .int 5, .ref ((m + 2))]) cd_Me_init rfl rfl (fun _ _ => rfl) ?_
              refine g_callv (pc' := 44) cd_Me_init rfl rfl rfl rfl rfl (tm_invI rfl rfl cd_Gi_init rfl (Nat.le_of_ble_eq_true rfl)) (i_Gi hn157 h161 (fun B165 h165 => ?_))
              have hf166 := fr0_f h165.1
              have f167_0 := fr_lt hf166 f150_0
              have g167_0 := (fr_K hf166 f150_0).trans g150_0
              have f167_1 := fr_lt hf166 f150_1
              have g167_1 := (fr_K hf166 f150_1).trans g150_1
              have f167_2 := fr_lt hf166 f150_2
              have g167_2 := (fr_K hf166 f150_2).trans g150_2
              have f167_3 := fr_lt hf166 f150_3
              have g167_3 := (fr_K hf166 f150_3).trans g150_3
              have f167_4 := fr_lt hf166 f150_4
              have g167_4 := (fr_K hf166 f150_4).trans g150_4
              have f167_5 := fr_lt hf166 f150_5
              have g167_5 := (fr_K hf166 f150_5).trans g150_5
              have f167_6 := fr_lt hf166 f150_6
              have g167_6 := (fr_K hf166 f150_6).trans g150_6
              have f167_7 := fr_lt hf166 h148.2.2.2.1
              have g167_7 := (fr_K hf166 h148.2.2.2.1).trans h148.2.2.2.2
              have r167_0 : bm_FR B165 5 0 m = some (m + 1) := (fr_FR hf166 f150_0 (fun q => q) 5 0).trans r150_0
              have r167_1 : bm_FR B165 5 1 m = some (m + 2) := (fr_FR hf166 f150_0 (fun q => q) 5 1).trans r150_1
              have u167_0 : bm_AI B165 (m + 1) = (fun _ => 0) := (fr_AI hf166 f150_1 (fun q => q)).trans u150_0
              have w167_0 : bm_AL B165 (m + 1) = 6 := (fr_AL hf166 f150_1).trans w150_0
              have w167_1 : bm_AL B165 (m + 2) = 12 := (fr_AL hf166 f150_2).trans w150_1
              have t168_0 : ∀ c k, bm_FI B165 c k m = 0 := fun c k => (fr_FI (fr0_f h165.1) f150_0 (fun q => q) c k).trans (t156_0 c k)
              have t168_1 : ∀ i, i < 5 → stb (PGv (m + 3 + 3 * i)) (m + 3 + 3 * i) (m + 3 + 3 * i + 3) B165 := fun i hi => stb_fr0 (t156_1 i hi) h165.1 (oq_31 hn157 hi)
              have t168_2 : ∀ i, i < 5 → bm_AR B165 ((m + 2)) i = some (m + 3 + 3 * i) := fun i hi => (congrFun (fr_AR (fr0_f h165.1) f150_2 (fun q => q)) i).trans (R160 i hi)
              have hn169 : bm_n B165 = (m + 3 + 3 * 6) := (oq_33 h165.2.1.1)
              have sl170 : bm_sl B165 = bm_sl B0 + 221 := by rw [h165.2.1.2, sl158]
              have f0171 : fr0 B0 B165 := fr0_trans f0159 h165.1
              have F172 : ∀ i, i < 6 → stb (PGv (m + 3 + 3 * i)) (m + 3 + 3 * i) (m + 3 + 3 * i + 3) B165 := al_step (P := fun i => stb (PGv (m + 3 + 3 * i)) (m + 3 + 3 * i) (m + 3 + 3 * i + 3) B165) t168_1 h165.2.2.1
              show bm_G _ _ _ 44 _ [.ref ((m + 3 + 3 * 5)), .int 5, .ref ((m + 2))] B165 _
              refine g_aast (t := 7) (pc' := 45) cd_Me_init rfl rfl f167_2 g167_2 (by decide) rfl rfl h165.2.2.2.1 h165.2.2.2.2 (by rw [show bm_AL B165 (m + 2) = 12 from w167_1]; exact vp_in_nI (n := 5) (by decide) (by decide)) ?_
              rw [show (5 : Int32).toNatClampNeg = 5 from by decide]
              have t173_0 : ∀ c k, bm_FI (bm_setR B165 (m + 2) 5 (some ((m + 3 + 3 * 5)))) c k m = 0 := t168_0
              have t173_1 : ∀ i, i < 6 → stb (PGv (m + 3 + 3 * i)) (m + 3 + 3 * i) (m + 3 + 3 * i + 3) (bm_setR B165 (m + 2) 5 (some ((m + 3 + 3 * 5)))) := fun i hi => stb_setR (F172 i hi) (oq_34 hn169 hi) (oq_35 hi)
              have hn174 : bm_n (bm_setR B165 (m + 2) 5 (some ((m + 3 + 3 * 5)))) = (m + 3 + 3 * 6) := hn169
              have sl175 : bm_sl (bm_setR B165 (m + 2) 5 (some ((m + 3 + 3 * 5)))) = bm_sl B0 + 221 := sl170
              have f0176 : fr0 B0 (bm_setR B165 (m + 2) 5 (some ((m + 3 + 3 * 5)))) := fr0_setR f0171 (oq_20 hm)
              have R177 : ∀ i, i < 6 → bm_AR (bm_setR B165 (m + 2) 5 (some ((m + 3 + 3 * 5)))) ((m + 2)) i = some (m + 3 + 3 * i) := ars_step (f := fun i => m + 3 + 3 * i) t168_2
              refine g_inc (y := 6) (pc' := 48) cd_Me_init rfl l1 (by decide) (by decide) rfl (fun lv el => ?_)
              have l0 := tm_lk el l0 rfl (by decide)
              have l1 : lv.lookup 1 = some (.int 6) := tm_lks el
              clear el
              refine g_pure (pc' := 23) (st' := []) cd_Me_init rfl rfl (fun _ _ => rfl) ?_
              refine g_ild (pc' := 24) cd_Me_init rfl (Or.inr ⟨_, rfl, rfl, rfl⟩) l1 rfl ?_
              refine g_ald (pc' := 25) cd_Me_init rfl (Or.inr ⟨_, rfl, rfl, rfl⟩) l0 rfl rfl ?_
              refine g_fR (c := 5) (k := 1) (x := (m + 2)) (pc' := 28) cd_Me_init rfl rfl rfl rfl rfl (by decide) f167_0 g167_0 r167_1 ?_
              refine g_al (x := 12) (pc' := 29) cd_Me_init rfl rfl f167_2 (by rw [show bm_K (bm_setR B165 (m + 2) 5 (some ((m + 3 + 3 * 5)))) (m + 2) = 20 from g167_2]; decide) (by rw [show bm_K (bm_setR B165 (m + 2) 5 (some ((m + 3 + 3 * 5)))) (m + 2) = 20 from g167_2]; decide) (by rw [show bm_AL (bm_setR B165 (m + 2) 5 (some ((m + 3 + 3 * 5)))) (m + 2) = 12 from w167_1]; rfl) ?_
              refine g_if2 (t := 51) (pc' := 32) cd_Me_init rfl rfl rfl (fun c29 => ?_) (fun c29 => ?_)
              · exact absurd (show (12 : Int32) ≤ 6 from c29) (by decide)
              · have c29 : ¬ (12 : Int32) ≤ 6 := c29
                refine g_ald (pc' := 33) cd_Me_init rfl (Or.inr ⟨_, rfl, rfl, rfl⟩) l0 rfl rfl ?_
                refine g_fR (c := 5) (k := 1) (x := (m + 2)) (pc' := 36) cd_Me_init rfl rfl rfl rfl rfl (by decide) f167_0 g167_0 r167_1 ?_
                refine g_ild (pc' := 37) cd_Me_init rfl (Or.inr ⟨_, rfl, rfl, rfl⟩) l1 rfl ?_
                refine n_obj 3 hn174 cd_Me_init rfl rfl rfl rfl (by decide) rfl (fun B178 h178 => ?_)
                have hf179 := fr0_f h178.1
                have f180_0 := fr_lt hf179 f167_0
                have g180_0 := (fr_K hf179 f167_0).trans g167_0
                have f180_1 := fr_lt hf179 f167_1
                have g180_1 := (fr_K hf179 f167_1).trans g167_1
                have f180_2 := fr_lt hf179 f167_2
                have g180_2 := (fr_K hf179 f167_2).trans g167_2
                have f180_3 := fr_lt hf179 f167_3
                have g180_3 := (fr_K hf179 f167_3).trans g167_3
                have f180_4 := fr_lt hf179 f167_4
                have g180_4 := (fr_K hf179 f167_4).trans g167_4
                have f180_5 := fr_lt hf179 f167_5
                have g180_5 := (fr_K hf179 f167_5).trans g167_5
                have f180_6 := fr_lt hf179 f167_6
                have g180_6 := (fr_K hf179 f167_6).trans g167_6
                have f180_7 := fr_lt hf179 f167_7
                have g180_7 := (fr_K hf179 f167_7).trans g167_7
                have f180_8 := fr_lt hf179 h165.2.2.2.1
                have g180_8 := (fr_K hf179 h165.2.2.2.1).trans h165.2.2.2.2
                have r180_0 : bm_FR B178 5 0 m = some (m + 1) := (fr_FR hf179 f167_0 (fun q => q) 5 0).trans r167_0
                have r180_1 : bm_FR B178 5 1 m = some (m + 2) := (fr_FR hf179 f167_0 (fun q => q) 5 1).trans r167_1
                have u180_0 : bm_AI B178 (m + 1) = (fun _ => 0) := (fr_AI hf179 f167_1 (fun q => q)).trans u167_0
                have w180_0 : bm_AL B178 (m + 1) = 6 := (fr_AL hf179 f167_1).trans w167_0
                have w180_1 : bm_AL B178 (m + 2) = 12 := (fr_AL hf179 f167_2).trans w167_1
                have t181_0 : ∀ c k, bm_FI B178 c k m = 0 := fun c k => (fr_FI (fr0_f h178.1) f167_0 (fun q => q) c k).trans (t173_0 c k)
                have t181_1 : ∀ i, i < 6 → stb (PGv (m + 3 + 3 * i)) (m + 3 + 3 * i) (m + 3 + 3 * i + 3) B178 := fun i hi => stb_fr0 (t173_1 i hi) h178.1 (oq_34 hn174 hi)
                have t181_2 : ∀ i, i < 6 → bm_AR B178 ((m + 2)) i = some (m + 3 + 3 * i) := fun i hi => (congrFun (fr_AR (fr0_f h178.1) f167_2 (fun q => q)) i).trans (R177 i hi)
                refine g_pure (pc' := 41) (st' := [.ref ((m + 3 + 3 * 6)), .ref ((m + 3 + 3 * 6)), .int 6, .ref ((m + 2))]) cd_Me_init rfl rfl (fun _ _ => rfl) ?_
                refine g_callv (pc' := 44) cd_Me_init rfl rfl rfl rfl rfl (tm_invI rfl rfl cd_Gi_init rfl (Nat.le_of_ble_eq_true rfl)) (i_Gi hn174 h178 (fun B182 h182 => ?_))
                have hf183 := fr0_f h182.1
                have f184_0 := fr_lt hf183 f167_0
                have g184_0 := (fr_K hf183 f167_0).trans g167_0
                have f184_1 := fr_lt hf183 f167_1
                have g184_1 := (fr_K hf183 f167_1).trans g167_1
                have f184_2 := fr_lt hf183 f167_2
                have g184_2 := (fr_K hf183 f167_2).trans g167_2
                have f184_3 := fr_lt hf183 f167_3
                have g184_3 := (fr_K hf183 f167_3).trans g167_3
                have f184_4 := fr_lt hf183 f167_4
                have g184_4 := (fr_K hf183 f167_4).trans g167_4
                have f184_5 := fr_lt hf183 f167_5
                have g184_5 := (fr_K hf183 f167_5).trans g167_5
                have f184_6 := fr_lt hf183 f167_6
                have g184_6 := (fr_K hf183 f167_6).trans g167_6
                have f184_7 := fr_lt hf183 f167_7
                have g184_7 := (fr_K hf183 f167_7).trans g167_7
                have f184_8 := fr_lt hf183 h165.2.2.2.1
                have g184_8 := (fr_K hf183 h165.2.2.2.1).trans h165.2.2.2.2
                have r184_0 : bm_FR B182 5 0 m = some (m + 1) := (fr_FR hf183 f167_0 (fun q => q) 5 0).trans r167_0
                have r184_1 : bm_FR B182 5 1 m = some (m + 2) := (fr_FR hf183 f167_0 (fun q => q) 5 1).trans r167_1
                have u184_0 : bm_AI B182 (m + 1) = (fun _ => 0) := (fr_AI hf183 f167_1 (fun q => q)).trans u167_0
                have w184_0 : bm_AL B182 (m + 1) = 6 := (fr_AL hf183 f167_1).trans w167_0
                have w184_1 : bm_AL B182 (m + 2) = 12 := (fr_AL hf183 f167_2).trans w167_1
                have t185_0 : ∀ c k, bm_FI B182 c k m = 0 := fun c k => (fr_FI (fr0_f h182.1) f167_0 (fun q => q) c k).trans (t173_0 c k)
                have t185_1 : ∀ i, i < 6 → stb (PGv (m + 3 + 3 * i)) (m + 3 + 3 * i) (m + 3 + 3 * i + 3) B182 := fun i hi => stb_fr0 (t173_1 i hi) h182.1 (oq_34 hn174 hi)
                have t185_2 : ∀ i, i < 6 → bm_AR B182 ((m + 2)) i = some (m + 3 + 3 * i) := fun i hi => (congrFun (fr_AR (fr0_f h182.1) f167_2 (fun q => q)) i).trans (R177 i hi)
                have hn186 : bm_n B182 = (m + 3 + 3 * 7) := (oq_36 h182.2.1.1)
                have sl187 : bm_sl B182 = bm_sl B0 + 253 := by rw [h182.2.1.2, sl175]
                have f0188 : fr0 B0 B182 := fr0_trans f0176 h182.1
                have F189 : ∀ i, i < 7 → stb (PGv (m + 3 + 3 * i)) (m + 3 + 3 * i) (m + 3 + 3 * i + 3) B182 := al_step (P := fun i => stb (PGv (m + 3 + 3 * i)) (m + 3 + 3 * i) (m + 3 + 3 * i + 3) B182) t185_1 h182.2.2.1
                show bm_G _ _ _ 44 _ [.ref ((m + 3 + 3 * 6)), .int 6, .ref ((m + 2))] B182 _
                refine g_aast (t := 7) (pc' := 45) cd_Me_init rfl rfl f184_2 g184_2 (by decide) rfl rfl h182.2.2.2.1 h182.2.2.2.2 (by rw [show bm_AL B182 (m + 2) = 12 from w184_1]; exact vp_in_nI (n := 6) (by decide) (by decide)) ?_
                rw [show (6 : Int32).toNatClampNeg = 6 from by decide]
                have t190_0 : ∀ c k, bm_FI (bm_setR B182 (m + 2) 6 (some ((m + 3 + 3 * 6)))) c k m = 0 := t185_0
                have t190_1 : ∀ i, i < 7 → stb (PGv (m + 3 + 3 * i)) (m + 3 + 3 * i) (m + 3 + 3 * i + 3) (bm_setR B182 (m + 2) 6 (some ((m + 3 + 3 * 6)))) := fun i hi => stb_setR (F189 i hi) (oq_37 hn186 hi) (oq_38 hi)
                have hn191 : bm_n (bm_setR B182 (m + 2) 6 (some ((m + 3 + 3 * 6)))) = (m + 3 + 3 * 7) := hn186
                have sl192 : bm_sl (bm_setR B182 (m + 2) 6 (some ((m + 3 + 3 * 6)))) = bm_sl B0 + 253 := sl187
                have f0193 : fr0 B0 (bm_setR B182 (m + 2) 6 (some ((m + 3 + 3 * 6)))) := fr0_setR f0188 (oq_20 hm)
                have R194 : ∀ i, i < 7 → bm_AR (bm_setR B182 (m + 2) 6 (some ((m + 3 + 3 * 6)))) ((m + 2)) i = some (m + 3 + 3 * i) := ars_step (f := fun i => m + 3 + 3 * i) t185_2
                refine g_inc (y := 7) (pc' := 48) cd_Me_init rfl l1 (by decide) (by decide) rfl (fun lv el => ?_)
                have l0 := tm_lk el l0 rfl (by decide)
                have l1 : lv.lookup 1 = some (.int 7) := tm_lks el
                clear el
                refine g_pure (pc' := 23) (st' := []) cd_Me_init rfl rfl (fun _ _ => rfl) ?_
                refine g_ild (pc' := 24) cd_Me_init rfl (Or.inr ⟨_, rfl, rfl, rfl⟩) l1 rfl ?_
                refine g_ald (pc' := 25) cd_Me_init rfl (Or.inr ⟨_, rfl, rfl, rfl⟩) l0 rfl rfl ?_
                refine g_fR (c := 5) (k := 1) (x := (m + 2)) (pc' := 28) cd_Me_init rfl rfl rfl rfl rfl (by decide) f184_0 g184_0 r184_1 ?_
                refine g_al (x := 12) (pc' := 29) cd_Me_init rfl rfl f184_2 (by rw [show bm_K (bm_setR B182 (m + 2) 6 (some ((m + 3 + 3 * 6)))) (m + 2) = 20 from g184_2]; decide) (by rw [show bm_K (bm_setR B182 (m + 2) 6 (some ((m + 3 + 3 * 6)))) (m + 2) = 20 from g184_2]; decide) (by rw [show bm_AL (bm_setR B182 (m + 2) 6 (some ((m + 3 + 3 * 6)))) (m + 2) = 12 from w184_1]; rfl) ?_
                refine g_if2 (t := 51) (pc' := 32) cd_Me_init rfl rfl rfl (fun c29 => ?_) (fun c29 => ?_)
                · exact absurd (show (12 : Int32) ≤ 7 from c29) (by decide)
                · have c29 : ¬ (12 : Int32) ≤ 7 := c29
                  refine g_ald (pc' := 33) cd_Me_init rfl (Or.inr ⟨_, rfl, rfl, rfl⟩) l0 rfl rfl ?_
                  refine g_fR (c := 5) (k := 1) (x := (m + 2)) (pc' := 36) cd_Me_init rfl rfl rfl rfl rfl (by decide) f184_0 g184_0 r184_1 ?_
                  refine g_ild (pc' := 37) cd_Me_init rfl (Or.inr ⟨_, rfl, rfl, rfl⟩) l1 rfl ?_
                  refine n_obj 3 hn191 cd_Me_init rfl rfl rfl rfl (by decide) rfl (fun B195 h195 => ?_)
                  have hf196 := fr0_f h195.1
                  have f197_0 := fr_lt hf196 f184_0
                  have g197_0 := (fr_K hf196 f184_0).trans g184_0
                  have f197_1 := fr_lt hf196 f184_1
                  have g197_1 := (fr_K hf196 f184_1).trans g184_1
                  have f197_2 := fr_lt hf196 f184_2
                  have g197_2 := (fr_K hf196 f184_2).trans g184_2
                  have f197_3 := fr_lt hf196 f184_3
                  have g197_3 := (fr_K hf196 f184_3).trans g184_3
                  have f197_4 := fr_lt hf196 f184_4
                  have g197_4 := (fr_K hf196 f184_4).trans g184_4
                  have f197_5 := fr_lt hf196 f184_5
                  have g197_5 := (fr_K hf196 f184_5).trans g184_5
                  have f197_6 := fr_lt hf196 f184_6
                  have g197_6 := (fr_K hf196 f184_6).trans g184_6
                  have f197_7 := fr_lt hf196 f184_7
                  have g197_7 := (fr_K hf196 f184_7).trans g184_7
                  have f197_8 := fr_lt hf196 f184_8
                  have g197_8 := (fr_K hf196 f184_8).trans g184_8
                  have f197_9 := fr_lt hf196 h182.2.2.2.1
                  have g197_9 := (fr_K hf196 h182.2.2.2.1).trans h182.2.2.2.2
                  have r197_0 : bm_FR B195 5 0 m = some (m + 1) := (fr_FR hf196 f184_0 (fun q => q) 5 0).trans r184_0
                  have r197_1 : bm_FR B195 5 1 m = some (m + 2) := (fr_FR hf196 f184_0 (fun q => q) 5 1).trans r184_1
                  have u197_0 : bm_AI B195 (m + 1) = (fun _ => 0) := (fr_AI hf196 f184_1 (fun q => q)).trans u184_0
                  have w197_0 : bm_AL B195 (m + 1) = 6 := (fr_AL hf196 f184_1).trans w184_0
                  have w197_1 : bm_AL B195 (m + 2) = 12 := (fr_AL hf196 f184_2).trans w184_1
                  have t198_0 : ∀ c k, bm_FI B195 c k m = 0 := fun c k => (fr_FI (fr0_f h195.1) f184_0 (fun q => q) c k).trans (t190_0 c k)
                  have t198_1 : ∀ i, i < 7 → stb (PGv (m + 3 + 3 * i)) (m + 3 + 3 * i) (m + 3 + 3 * i + 3) B195 := fun i hi => stb_fr0 (t190_1 i hi) h195.1 (oq_37 hn191 hi)
                  have t198_2 : ∀ i, i < 7 → bm_AR B195 ((m + 2)) i = some (m + 3 + 3 * i) := fun i hi => (congrFun (fr_AR (fr0_f h195.1) f184_2 (fun q => q)) i).trans (R194 i hi)
                  refine g_pure (pc' := 41) (st' := [.ref ((m + 3 + 3 * 7)), .ref ((m + 3 + 3 * 7)), .int 7, .ref ((m + 2))]) cd_Me_init rfl rfl (fun _ _ => rfl) ?_
                  refine g_callv (pc' := 44) cd_Me_init rfl rfl rfl rfl rfl (tm_invI rfl rfl cd_Gi_init rfl (Nat.le_of_ble_eq_true rfl)) (i_Gi hn191 h195 (fun B199 h199 => ?_))
                  have hf200 := fr0_f h199.1
                  have f201_0 := fr_lt hf200 f184_0
                  have g201_0 := (fr_K hf200 f184_0).trans g184_0
                  have f201_1 := fr_lt hf200 f184_1
                  have g201_1 := (fr_K hf200 f184_1).trans g184_1
                  have f201_2 := fr_lt hf200 f184_2
                  have g201_2 := (fr_K hf200 f184_2).trans g184_2
                  have f201_3 := fr_lt hf200 f184_3
                  have g201_3 := (fr_K hf200 f184_3).trans g184_3
                  have f201_4 := fr_lt hf200 f184_4
                  have g201_4 := (fr_K hf200 f184_4).trans g184_4
                  have f201_5 := fr_lt hf200 f184_5
                  have g201_5 := (fr_K hf200 f184_5).trans g184_5
                  have f201_6 := fr_lt hf200 f184_6
                  have g201_6 := (fr_K hf200 f184_6).trans g184_6
                  have f201_7 := fr_lt hf200 f184_7
                  have g201_7 := (fr_K hf200 f184_7).trans g184_7
                  have f201_8 := fr_lt hf200 f184_8
                  have g201_8 := (fr_K hf200 f184_8).trans g184_8
                  have f201_9 := fr_lt hf200 h182.2.2.2.1
                  have g201_9 := (fr_K hf200 h182.2.2.2.1).trans h182.2.2.2.2
                  have r201_0 : bm_FR B199 5 0 m = some (m + 1) := (fr_FR hf200 f184_0 (fun q => q) 5 0).trans r184_0
                  have r201_1 : bm_FR B199 5 1 m = some (m + 2) := (fr_FR hf200 f184_0 (fun q => q) 5 1).trans r184_1
                  have u201_0 : bm_AI B199 (m + 1) = (fun _ => 0) := (fr_AI hf200 f184_1 (fun q => q)).trans u184_0
                  have w201_0 : bm_AL B199 (m + 1) = 6 := (fr_AL hf200 f184_1).trans w184_0
                  have w201_1 : bm_AL B199 (m + 2) = 12 := (fr_AL hf200 f184_2).trans w184_1
                  have t202_0 : ∀ c k, bm_FI B199 c k m = 0 := fun c k => (fr_FI (fr0_f h199.1) f184_0 (fun q => q) c k).trans (t190_0 c k)
                  have t202_1 : ∀ i, i < 7 → stb (PGv (m + 3 + 3 * i)) (m + 3 + 3 * i) (m + 3 + 3 * i + 3) B199 := fun i hi => stb_fr0 (t190_1 i hi) h199.1 (oq_37 hn191 hi)
                  have t202_2 : ∀ i, i < 7 → bm_AR B199 ((m + 2)) i = some (m + 3 + 3 * i) := fun i hi => (congrFun (fr_AR (fr0_f h199.1) f184_2 (fun q => q)) i).trans (R194 i hi)
                  have hn203 : bm_n B199 = (m + 3 + 3 * 8) := (oq_39 h199.2.1.1)
                  have sl204 : bm_sl B199 = bm_sl B0 + 285 := by rw [h199.2.1.2, sl192]
                  have f0205 : fr0 B0 B199 := fr0_trans f0193 h199.1
                  have F206 : ∀ i, i < 8 → stb (PGv (m + 3 + 3 * i)) (m + 3 + 3 * i) (m + 3 + 3 * i + 3) B199 := al_step (P := fun i => stb (PGv (m + 3 + 3 * i)) (m + 3 + 3 * i) (m + 3 + 3 * i + 3) B199) t202_1 h199.2.2.1
                  show bm_G _ _ _ 44 _ [.ref ((m + 3 + 3 * 7)), .int 7, .ref ((m + 2))] B199 _
                  refine g_aast (t := 7) (pc' := 45) cd_Me_init rfl rfl f201_2 g201_2 (by decide) rfl rfl h199.2.2.2.1 h199.2.2.2.2 (by rw [show bm_AL B199 (m + 2) = 12 from w201_1]; exact vp_in_nI (n := 7) (by decide) (by decide)) ?_
                  rw [show (7 : Int32).toNatClampNeg = 7 from by decide]
                  have t207_0 : ∀ c k, bm_FI (bm_setR B199 (m + 2) 7 (some ((m + 3 + 3 * 7)))) c k m = 0 := t202_0
                  have t207_1 : ∀ i, i < 8 → stb (PGv (m + 3 + 3 * i)) (m + 3 + 3 * i) (m + 3 + 3 * i + 3) (bm_setR B199 (m + 2) 7 (some ((m + 3 + 3 * 7)))) := fun i hi => stb_setR (F206 i hi) (oq_40 hn203 hi) (oq_41 hi)
                  have hn208 : bm_n (bm_setR B199 (m + 2) 7 (some ((m + 3 + 3 * 7)))) = (m + 3 + 3 * 8) := hn203
                  have sl209 : bm_sl (bm_setR B199 (m + 2) 7 (some ((m + 3 + 3 * 7)))) = bm_sl B0 + 285 := sl204
                  have f0210 : fr0 B0 (bm_setR B199 (m + 2) 7 (some ((m + 3 + 3 * 7)))) := fr0_setR f0205 (oq_20 hm)
                  have R211 : ∀ i, i < 8 → bm_AR (bm_setR B199 (m + 2) 7 (some ((m + 3 + 3 * 7)))) ((m + 2)) i = some (m + 3 + 3 * i) := ars_step (f := fun i => m + 3 + 3 * i) t202_2
                  refine g_inc (y := 8) (pc' := 48) cd_Me_init rfl l1 (by decide) (by decide) rfl (fun lv el => ?_)
                  have l0 := tm_lk el l0 rfl (by decide)
                  have l1 : lv.lookup 1 = some (.int 8) := tm_lks el
                  clear el
                  refine g_pure (pc' := 23) (st' := []) cd_Me_init rfl rfl (fun _ _ => rfl) ?_
                  refine g_ild (pc' := 24) cd_Me_init rfl (Or.inr ⟨_, rfl, rfl, rfl⟩) l1 rfl ?_
                  refine g_ald (pc' := 25) cd_Me_init rfl (Or.inr ⟨_, rfl, rfl, rfl⟩) l0 rfl rfl ?_
                  refine g_fR (c := 5) (k := 1) (x := (m + 2)) (pc' := 28) cd_Me_init rfl rfl rfl rfl rfl (by decide) f201_0 g201_0 r201_1 ?_
                  refine g_al (x := 12) (pc' := 29) cd_Me_init rfl rfl f201_2 (by rw [show bm_K (bm_setR B199 (m + 2) 7 (some ((m + 3 + 3 * 7)))) (m + 2) = 20 from g201_2]; decide) (by rw [show bm_K (bm_setR B199 (m + 2) 7 (some ((m + 3 + 3 * 7)))) (m + 2) = 20 from g201_2]; decide) (by rw [show bm_AL (bm_setR B199 (m + 2) 7 (some ((m + 3 + 3 * 7)))) (m + 2) = 12 from w201_1]; rfl) ?_
                  refine g_if2 (t := 51) (pc' := 32) cd_Me_init rfl rfl rfl (fun c29 => ?_) (fun c29 => ?_)
                  · exact absurd (show (12 : Int32) ≤ 8 from c29) (by decide)
                  · have c29 : ¬ (12 : Int32) ≤ 8 := c29
                    refine g_ald (pc' := 33) cd_Me_init rfl (Or.inr ⟨_, rfl, rfl, rfl⟩) l0 rfl rfl ?_
                    refine g_fR (c := 5) (k := 1) (x := (m + 2)) (pc' := 36) cd_Me_init rfl rfl rfl rfl rfl (by decide) f201_0 g201_0 r201_1 ?_
                    refine g_ild (pc' := 37) cd_Me_init rfl (Or.inr ⟨_, rfl, rfl, rfl⟩) l1 rfl ?_
                    refine n_obj 3 hn208 cd_Me_init rfl rfl rfl rfl (by decide) rfl (fun B212 h212 => ?_)
                    have hf213 := fr0_f h212.1
                    have f214_0 := fr_lt hf213 f201_0
                    have g214_0 := (fr_K hf213 f201_0).trans g201_0
                    have f214_1 := fr_lt hf213 f201_1
                    have g214_1 := (fr_K hf213 f201_1).trans g201_1
                    have f214_2 := fr_lt hf213 f201_2
                    have g214_2 := (fr_K hf213 f201_2).trans g201_2
                    have f214_3 := fr_lt hf213 f201_3
                    have g214_3 := (fr_K hf213 f201_3).trans g201_3
                    have f214_4 := fr_lt hf213 f201_4
                    have g214_4 := (fr_K hf213 f201_4).trans g201_4
                    have f214_5 := fr_lt hf213 f201_5
                    have g214_5 := (fr_K hf213 f201_5).trans g201_5
                    have f214_6 := fr_lt hf213 f201_6
                    have g214_6 := (fr_K hf213 f201_6).trans g201_6
                    have f214_7 := fr_lt hf213 f201_7
                    have g214_7 := (fr_K hf213 f201_7).trans g201_7
                    have f214_8 := fr_lt hf213 f201_8
                    have g214_8 := (fr_K hf213 f201_8).trans g201_8
                    have f214_9 := fr_lt hf213 f201_9
                    have g214_9 := (fr_K hf213 f201_9).trans g201_9
                    have f214_10 := fr_lt hf213 h199.2.2.2.1
                    have g214_10 := (fr_K hf213 h199.2.2.2.1).trans h199.2.2.2.2
                    have r214_0 : bm_FR B212 5 0 m = some (m + 1) := (fr_FR hf213 f201_0 (fun q => q) 5 0).trans r201_0
                    have r214_1 : bm_FR B212 5 1 m = some (m + 2) := (fr_FR hf213 f201_0 (fun q => q) 5 1).trans r201_1
                    have u214_0 : bm_AI B212 (m + 1) = (fun _ => 0) := (fr_AI hf213 f201_1 (fun q => q)).trans u201_0
                    have w214_0 : bm_AL B212 (m + 1) = 6 := (fr_AL hf213 f201_1).trans w201_0
                    have w214_1 : bm_AL B212 (m + 2) = 12 := (fr_AL hf213 f201_2).trans w201_1
                    have t215_0 : ∀ c k, bm_FI B212 c k m = 0 := fun c k => (fr_FI (fr0_f h212.1) f201_0 (fun q => q) c k).trans (t207_0 c k)
                    have t215_1 : ∀ i, i < 8 → stb (PGv (m + 3 + 3 * i)) (m + 3 + 3 * i) (m + 3 + 3 * i + 3) B212 := fun i hi => stb_fr0 (t207_1 i hi) h212.1 (oq_40 hn208 hi)
                    have t215_2 : ∀ i, i < 8 → bm_AR B212 ((m + 2)) i = some (m + 3 + 3 * i) := fun i hi => (congrFun (fr_AR (fr0_f h212.1) f201_2 (fun q => q)) i).trans (R211 i hi)
                    refine g_pure (pc' := 41) (st' := [.ref ((m + 3 + 3 * 8)), .ref ((m + 3 + 3 * 8)), .int 8, .ref ((m + 2))]) cd_Me_init rfl rfl (fun _ _ => rfl) ?_
                    refine g_callv (pc' := 44) cd_Me_init rfl rfl rfl rfl rfl (tm_invI rfl rfl cd_Gi_init rfl (Nat.le_of_ble_eq_true rfl)) (i_Gi hn208 h212 (fun B216 h216 => ?_))
                    have hf217 := fr0_f h216.1
                    have f218_0 := fr_lt hf217 f201_0
                    have g218_0 := (fr_K hf217 f201_0).trans g201_0
                    have f218_1 := fr_lt hf217 f201_1
                    have g218_1 := (fr_K hf217 f201_1).trans g201_1
                    have f218_2 := fr_lt hf217 f201_2
                    have g218_2 := (fr_K hf217 f201_2).trans g201_2
                    have f218_3 := fr_lt hf217 f201_3
                    have g218_3 := (fr_K hf217 f201_3).trans g201_3
                    have f218_4 := fr_lt hf217 f201_4
                    have g218_4 := (fr_K hf217 f201_4).trans g201_4
                    have f218_5 := fr_lt hf217 f201_5
                    have g218_5 := (fr_K hf217 f201_5).trans g201_5
                    have f218_6 := fr_lt hf217 f201_6
                    have g218_6 := (fr_K hf217 f201_6).trans g201_6
                    have f218_7 := fr_lt hf217 f201_7
                    have g218_7 := (fr_K hf217 f201_7).trans g201_7
                    have f218_8 := fr_lt hf217 f201_8
                    have g218_8 := (fr_K hf217 f201_8).trans g201_8
                    have f218_9 := fr_lt hf217 f201_9
                    have g218_9 := (fr_K hf217 f201_9).trans g201_9
                    have f218_10 := fr_lt hf217 h199.2.2.2.1
                    have g218_10 := (fr_K hf217 h199.2.2.2.1).trans h199.2.2.2.2
                    have r218_0 : bm_FR B216 5 0 m = some (m + 1) := (fr_FR hf217 f201_0 (fun q => q) 5 0).trans r201_0
                    have r218_1 : bm_FR B216 5 1 m = some (m + 2) := (fr_FR hf217 f201_0 (fun q => q) 5 1).trans r201_1
                    have u218_0 : bm_AI B216 (m + 1) = (fun _ => 0) := (fr_AI hf217 f201_1 (fun q => q)).trans u201_0
                    have w218_0 : bm_AL B216 (m + 1) = 6 := (fr_AL hf217 f201_1).trans w201_0
                    have w218_1 : bm_AL B216 (m + 2) = 12 := (fr_AL hf217 f201_2).trans w201_1
                    have t219_0 : ∀ c k, bm_FI B216 c k m = 0 := fun c k => (fr_FI (fr0_f h216.1) f201_0 (fun q => q) c k).trans (t207_0 c k)
                    have t219_1 : ∀ i, i < 8 → stb (PGv (m + 3 + 3 * i)) (m + 3 + 3 * i) (m + 3 + 3 * i + 3) B216 := fun i hi => stb_fr0 (t207_1 i hi) h216.1 (oq_40 hn208 hi)
                    have t219_2 : ∀ i, i < 8 → bm_AR B216 ((m + 2)) i = some (m + 3 + 3 * i) := fun i hi => (congrFun (fr_AR (fr0_f h216.1) f201_2 (fun q => q)) i).trans (R211 i hi)
                    have hn220 : bm_n B216 = (m + 3 + 3 * 9) := (oq_42 h216.2.1.1)
                    have sl221 : bm_sl B216 = bm_sl B0 + 317 := by rw [h216.2.1.2, sl209]
                    have f0222 : fr0 B0 B216 := fr0_trans f0210 h216.1
                    have F223 : ∀ i, i < 9 → stb (PGv (m + 3 + 3 * i)) (m + 3 + 3 * i) (m + 3 + 3 * i + 3) B216 := al_step (P := fun i => stb (PGv (m + 3 + 3 * i)) (m + 3 + 3 * i) (m + 3 + 3 * i + 3) B216) t219_1 h216.2.2.1
                    show bm_G _ _ _ 44 _ [.ref ((m + 3 + 3 * 8)), .int 8, .ref ((m + 2))] B216 _
                    refine g_aast (t := 7) (pc' := 45) cd_Me_init rfl rfl f218_2 g218_2 (by decide) rfl rfl h216.2.2.2.1 h216.2.2.2.2 (by rw [show bm_AL B216 (m + 2) = 12 from w218_1]; exact vp_in_nI (n := 8) (by decide) (by decide)) ?_
                    rw [show (8 : Int32).toNatClampNeg = 8 from by decide]
                    have t224_0 : ∀ c k, bm_FI (bm_setR B216 (m + 2) 8 (some ((m + 3 + 3 * 8)))) c k m = 0 := t219_0
                    have t224_1 : ∀ i, i < 9 → stb (PGv (m + 3 + 3 * i)) (m + 3 + 3 * i) (m + 3 + 3 * i + 3) (bm_setR B216 (m + 2) 8 (some ((m + 3 + 3 * 8)))) := fun i hi => stb_setR (F223 i hi) (oq_43 hn220 hi) (oq_44 hi)
                    have hn225 : bm_n (bm_setR B216 (m + 2) 8 (some ((m + 3 + 3 * 8)))) = (m + 3 + 3 * 9) := hn220
                    have sl226 : bm_sl (bm_setR B216 (m + 2) 8 (some ((m + 3 + 3 * 8)))) = bm_sl B0 + 317 := sl221
                    have f0227 : fr0 B0 (bm_setR B216 (m + 2) 8 (some ((m + 3 + 3 * 8)))) := fr0_setR f0222 (oq_20 hm)
                    have R228 : ∀ i, i < 9 → bm_AR (bm_setR B216 (m + 2) 8 (some ((m + 3 + 3 * 8)))) ((m + 2)) i = some (m + 3 + 3 * i) := ars_step (f := fun i => m + 3 + 3 * i) t219_2
                    refine g_inc (y := 9) (pc' := 48) cd_Me_init rfl l1 (by decide) (by decide) rfl (fun lv el => ?_)
                    have l0 := tm_lk el l0 rfl (by decide)
                    have l1 : lv.lookup 1 = some (.int 9) := tm_lks el
                    clear el
                    refine g_pure (pc' := 23) (st' := []) cd_Me_init rfl rfl (fun _ _ => rfl) ?_
                    refine g_ild (pc' := 24) cd_Me_init rfl (Or.inr ⟨_, rfl, rfl, rfl⟩) l1 rfl ?_
                    refine g_ald (pc' := 25) cd_Me_init rfl (Or.inr ⟨_, rfl, rfl, rfl⟩) l0 rfl rfl ?_
                    refine g_fR (c := 5) (k := 1) (x := (m + 2)) (pc' := 28) cd_Me_init rfl rfl rfl rfl rfl (by decide) f218_0 g218_0 r218_1 ?_
                    refine g_al (x := 12) (pc' := 29) cd_Me_init rfl rfl f218_2 (by rw [show bm_K (bm_setR B216 (m + 2) 8 (some ((m + 3 + 3 * 8)))) (m + 2) = 20 from g218_2]; decide) (by rw [show bm_K (bm_setR B216 (m + 2) 8 (some ((m + 3 + 3 * 8)))) (m + 2) = 20 from g218_2]; decide) (by rw [show bm_AL (bm_setR B216 (m + 2) 8 (some ((m + 3 + 3 * 8)))) (m + 2) = 12 from w218_1]; rfl) ?_
                    refine g_if2 (t := 51) (pc' := 32) cd_Me_init rfl rfl rfl (fun c29 => ?_) (fun c29 => ?_)
                    · exact absurd (show (12 : Int32) ≤ 9 from c29) (by decide)
                    · have c29 : ¬ (12 : Int32) ≤ 9 := c29
                      refine g_ald (pc' := 33) cd_Me_init rfl (Or.inr ⟨_, rfl, rfl, rfl⟩) l0 rfl rfl ?_
                      refine g_fR (c := 5) (k := 1) (x := (m + 2)) (pc' := 36) cd_Me_init rfl rfl rfl rfl rfl (by decide) f218_0 g218_0 r218_1 ?_
                      refine g_ild (pc' := 37) cd_Me_init rfl (Or.inr ⟨_, rfl, rfl, rfl⟩) l1 rfl ?_
                      refine n_obj 3 hn225 cd_Me_init rfl rfl rfl rfl (by decide) rfl (fun B229 h229 => ?_)
                      have hf230 := fr0_f h229.1
                      have f231_0 := fr_lt hf230 f218_0
                      have g231_0 := (fr_K hf230 f218_0).trans g218_0
                      have f231_1 := fr_lt hf230 f218_1
                      have g231_1 := (fr_K hf230 f218_1).trans g218_1
                      have f231_2 := fr_lt hf230 f218_2
                      have g231_2 := (fr_K hf230 f218_2).trans g218_2
                      have f231_3 := fr_lt hf230 f218_3
                      have g231_3 := (fr_K hf230 f218_3).trans g218_3
                      have f231_4 := fr_lt hf230 f218_4
                      have g231_4 := (fr_K hf230 f218_4).trans g218_4
                      have f231_5 := fr_lt hf230 f218_5
                      have g231_5 := (fr_K hf230 f218_5).trans g218_5
                      have f231_6 := fr_lt hf230 f218_6
                      have g231_6 := (fr_K hf230 f218_6).trans g218_6
                      have f231_7 := fr_lt hf230 f218_7
                      have g231_7 := (fr_K hf230 f218_7).trans g218_7
                      have f231_8 := fr_lt hf230 f218_8
                      have g231_8 := (fr_K hf230 f218_8).trans g218_8
                      have f231_9 := fr_lt hf230 f218_9
                      have g231_9 := (fr_K hf230 f218_9).trans g218_9
                      have f231_10 := fr_lt hf230 f218_10
                      have g231_10 := (fr_K hf230 f218_10).trans g218_10
                      have f231_11 := fr_lt hf230 h216.2.2.2.1
                      have g231_11 := (fr_K hf230 h216.2.2.2.1).trans h216.2.2.2.2
                      have r231_0 : bm_FR B229 5 0 m = some (m + 1) := (fr_FR hf230 f218_0 (fun q => q) 5 0).trans r218_0
                      have r231_1 : bm_FR B229 5 1 m = some (m + 2) := (fr_FR hf230 f218_0 (fun q => q) 5 1).trans r218_1
                      have u231_0 : bm_AI B229 (m + 1) = (fun _ => 0) := (fr_AI hf230 f218_1 (fun q => q)).trans u218_0
                      have w231_0 : bm_AL B229 (m + 1) = 6 := (fr_AL hf230 f218_1).trans w218_0
                      have w231_1 : bm_AL B229 (m + 2) = 12 := (fr_AL hf230 f218_2).trans w218_1
                      have t232_0 : ∀ c k, bm_FI B229 c k m = 0 := fun c k => (fr_FI (fr0_f h229.1) f218_0 (fun q => q) c k).trans (t224_0 c k)
                      have t232_1 : ∀ i, i < 9 → stb (PGv (m + 3 + 3 * i)) (m + 3 + 3 * i) (m + 3 + 3 * i + 3) B229 := fun i hi => stb_fr0 (t224_1 i hi) h229.1 (oq_43 hn225 hi)
                      have t232_2 : ∀ i, i < 9 → bm_AR B229 ((m + 2)) i = some (m + 3 + 3 * i) := fun i hi => (congrFun (fr_AR (fr0_f h229.1) f218_2 (fun q => q)) i).trans (R228 i hi)
                      refine g_pure (pc' := 41) (st' := [.ref ((m + 3 + 3 * 9)), .ref ((m + 3 + 3 * 9)), .int 9, .ref ((m + 2))]) cd_Me_init rfl rfl (fun _ _ => rfl) ?_
                      refine g_callv (pc' := 44) cd_Me_init rfl rfl rfl rfl rfl (tm_invI rfl rfl cd_Gi_init rfl (Nat.le_of_ble_eq_true rfl)) (i_Gi hn225 h229 (fun B233 h233 => ?_))
                      have hf234 := fr0_f h233.1
                      have f235_0 := fr_lt hf234 f218_0
                      have g235_0 := (fr_K hf234 f218_0).trans g218_0
                      have f235_1 := fr_lt hf234 f218_1
                      have g235_1 := (fr_K hf234 f218_1).trans g218_1
                      have f235_2 := fr_lt hf234 f218_2
                      have g235_2 := (fr_K hf234 f218_2).trans g218_2
                      have f235_3 := fr_lt hf234 f218_3
                      have g235_3 := (fr_K hf234 f218_3).trans g218_3
                      have f235_4 := fr_lt hf234 f218_4
                      have g235_4 := (fr_K hf234 f218_4).trans g218_4
                      have f235_5 := fr_lt hf234 f218_5
                      have g235_5 := (fr_K hf234 f218_5).trans g218_5
                      have f235_6 := fr_lt hf234 f218_6
                      have g235_6 := (fr_K hf234 f218_6).trans g218_6
                      have f235_7 := fr_lt hf234 f218_7
                      have g235_7 := (fr_K hf234 f218_7).trans g218_7
                      have f235_8 := fr_lt hf234 f218_8
                      have g235_8 := (fr_K hf234 f218_8).trans g218_8
                      have f235_9 := fr_lt hf234 f218_9
                      have g235_9 := (fr_K hf234 f218_9).trans g218_9
                      have f235_10 := fr_lt hf234 f218_10
                      have g235_10 := (fr_K hf234 f218_10).trans g218_10
                      have f235_11 := fr_lt hf234 h216.2.2.2.1
                      have g235_11 := (fr_K hf234 h216.2.2.2.1).trans h216.2.2.2.2
                      have r235_0 : bm_FR B233 5 0 m = some (m + 1) := (fr_FR hf234 f218_0 (fun q => q) 5 0).trans r218_0
                      have r235_1 : bm_FR B233 5 1 m = some (m + 2) := (fr_FR hf234 f218_0 (fun q => q) 5 1).trans r218_1
                      have u235_0 : bm_AI B233 (m + 1) = (fun _ => 0) := (fr_AI hf234 f218_1 (fun q => q)).trans u218_0
                      have w235_0 : bm_AL B233 (m + 1) = 6 := (fr_AL hf234 f218_1).trans w218_0
                      have w235_1 : bm_AL B233 (m + 2) = 12 := (fr_AL hf234 f218_2).trans w218_1
                      have t236_0 : ∀ c k, bm_FI B233 c k m = 0 := fun c k => (fr_FI (fr0_f h233.1) f218_0 (fun q => q) c k).trans (t224_0 c k)
                      have t236_1 : ∀ i, i < 9 → stb (PGv (m + 3 + 3 * i)) (m + 3 + 3 * i) (m + 3 + 3 * i + 3) B233 := fun i hi => stb_fr0 (t224_1 i hi) h233.1 (oq_43 hn225 hi)
                      have t236_2 : ∀ i, i < 9 → bm_AR B233 ((m + 2)) i = some (m + 3 + 3 * i) := fun i hi => (congrFun (fr_AR (fr0_f h233.1) f218_2 (fun q => q)) i).trans (R228 i hi)
                      have hn237 : bm_n B233 = (m + 3 + 3 * 10) := (oq_45 h233.2.1.1)
                      have sl238 : bm_sl B233 = bm_sl B0 + 349 := by rw [h233.2.1.2, sl226]
                      have f0239 : fr0 B0 B233 := fr0_trans f0227 h233.1
                      have F240 : ∀ i, i < 10 → stb (PGv (m + 3 + 3 * i)) (m + 3 + 3 * i) (m + 3 + 3 * i + 3) B233 := al_step (P := fun i => stb (PGv (m + 3 + 3 * i)) (m + 3 + 3 * i) (m + 3 + 3 * i + 3) B233) t236_1 h233.2.2.1
                      show bm_G _ _ _ 44 _ [.ref ((m + 3 + 3 * 9)), .int 9, .ref ((m + 2))] B233 _
                      refine g_aast (t := 7) (pc' := 45) cd_Me_init rfl rfl f235_2 g235_2 (by decide) rfl rfl h233.2.2.2.1 h233.2.2.2.2 (by rw [show bm_AL B233 (m + 2) = 12 from w235_1]; exact vp_in_nI (n := 9) (by decide) (by decide)) ?_
                      rw [show (9 : Int32).toNatClampNeg = 9 from by decide]
                      have t241_0 : ∀ c k, bm_FI (bm_setR B233 (m + 2) 9 (some ((m + 3 + 3 * 9)))) c k m = 0 := t236_0
                      have t241_1 : ∀ i, i < 10 → stb (PGv (m + 3 + 3 * i)) (m + 3 + 3 * i) (m + 3 + 3 * i + 3) (bm_setR B233 (m + 2) 9 (some ((m + 3 + 3 * 9)))) := fun i hi => stb_setR (F240 i hi) (oq_46 hn237 hi) (oq_47 hi)
                      have hn242 : bm_n (bm_setR B233 (m + 2) 9 (some ((m + 3 + 3 * 9)))) = (m + 3 + 3 * 10) := hn237
                      have sl243 : bm_sl (bm_setR B233 (m + 2) 9 (some ((m + 3 + 3 * 9)))) = bm_sl B0 + 349 := sl238
                      have f0244 : fr0 B0 (bm_setR B233 (m + 2) 9 (some ((m + 3 + 3 * 9)))) := fr0_setR f0239 (oq_20 hm)
                      have R245 : ∀ i, i < 10 → bm_AR (bm_setR B233 (m + 2) 9 (some ((m + 3 + 3 * 9)))) ((m + 2)) i = some (m + 3 + 3 * i) := ars_step (f := fun i => m + 3 + 3 * i) t236_2
                      refine g_inc (y := 10) (pc' := 48) cd_Me_init rfl l1 (by decide) (by decide) rfl (fun lv el => ?_)
                      have l0 := tm_lk el l0 rfl (by decide)
                      have l1 : lv.lookup 1 = some (.int 10) := tm_lks el
                      clear el
                      refine g_pure (pc' := 23) (st' := []) cd_Me_init rfl rfl (fun _ _ => rfl) ?_
                      refine g_ild (pc' := 24) cd_Me_init rfl (Or.inr ⟨_, rfl, rfl, rfl⟩) l1 rfl ?_
                      refine g_ald (pc' := 25) cd_Me_init rfl (Or.inr ⟨_, rfl, rfl, rfl⟩) l0 rfl rfl ?_
                      refine g_fR (c := 5) (k := 1) (x := (m + 2)) (pc' := 28) cd_Me_init rfl rfl rfl rfl rfl (by decide) f235_0 g235_0 r235_1 ?_
                      refine g_al (x := 12) (pc' := 29) cd_Me_init rfl rfl f235_2 (by rw [show bm_K (bm_setR B233 (m + 2) 9 (some ((m + 3 + 3 * 9)))) (m + 2) = 20 from g235_2]; decide) (by rw [show bm_K (bm_setR B233 (m + 2) 9 (some ((m + 3 + 3 * 9)))) (m + 2) = 20 from g235_2]; decide) (by rw [show bm_AL (bm_setR B233 (m + 2) 9 (some ((m + 3 + 3 * 9)))) (m + 2) = 12 from w235_1]; rfl) ?_
                      refine g_if2 (t := 51) (pc' := 32) cd_Me_init rfl rfl rfl (fun c29 => ?_) (fun c29 => ?_)
                      · exact absurd (show (12 : Int32) ≤ 10 from c29) (by decide)
                      · have c29 : ¬ (12 : Int32) ≤ 10 := c29
                        refine g_ald (pc' := 33) cd_Me_init rfl (Or.inr ⟨_, rfl, rfl, rfl⟩) l0 rfl rfl ?_
                        refine g_fR (c := 5) (k := 1) (x := (m + 2)) (pc' := 36) cd_Me_init rfl rfl rfl rfl rfl (by decide) f235_0 g235_0 r235_1 ?_
                        refine g_ild (pc' := 37) cd_Me_init rfl (Or.inr ⟨_, rfl, rfl, rfl⟩) l1 rfl ?_
                        refine n_obj 3 hn242 cd_Me_init rfl rfl rfl rfl (by decide) rfl (fun B246 h246 => ?_)
                        have hf247 := fr0_f h246.1
                        have f248_0 := fr_lt hf247 f235_0
                        have g248_0 := (fr_K hf247 f235_0).trans g235_0
                        have f248_1 := fr_lt hf247 f235_1
                        have g248_1 := (fr_K hf247 f235_1).trans g235_1
                        have f248_2 := fr_lt hf247 f235_2
                        have g248_2 := (fr_K hf247 f235_2).trans g235_2
                        have f248_3 := fr_lt hf247 f235_3
                        have g248_3 := (fr_K hf247 f235_3).trans g235_3
                        have f248_4 := fr_lt hf247 f235_4
                        have g248_4 := (fr_K hf247 f235_4).trans g235_4
                        have f248_5 := fr_lt hf247 f235_5
                        have g248_5 := (fr_K hf247 f235_5).trans g235_5
                        have f248_6 := fr_lt hf247 f235_6
                        have g248_6 := (fr_K hf247 f235_6).trans g235_6
                        have f248_7 := fr_lt hf247 f235_7
                        have g248_7 := (fr_K hf247 f235_7).trans g235_7
                        have f248_8 := fr_lt hf247 f235_8
                        have g248_8 := (fr_K hf247 f235_8).trans g235_8
                        have f248_9 := fr_lt hf247 f235_9
                        have g248_9 := (fr_K hf247 f235_9).trans g235_9
                        have f248_10 := fr_lt hf247 f235_10
                        have g248_10 := (fr_K hf247 f235_10).trans g235_10
                        have f248_11 := fr_lt hf247 f235_11
                        have g248_11 := (fr_K hf247 f235_11).trans g235_11
                        have f248_12 := fr_lt hf247 h233.2.2.2.1
                        have g248_12 := (fr_K hf247 h233.2.2.2.1).trans h233.2.2.2.2
                        have r248_0 : bm_FR B246 5 0 m = some (m + 1) := (fr_FR hf247 f235_0 (fun q => q) 5 0).trans r235_0
                        have r248_1 : bm_FR B246 5 1 m = some (m + 2) := (fr_FR hf247 f235_0 (fun q => q) 5 1).trans r235_1
                        have u248_0 : bm_AI B246 (m + 1) = (fun _ => 0) := (fr_AI hf247 f235_1 (fun q => q)).trans u235_0
                        have w248_0 : bm_AL B246 (m + 1) = 6 := (fr_AL hf247 f235_1).trans w235_0
                        have w248_1 : bm_AL B246 (m + 2) = 12 := (fr_AL hf247 f235_2).trans w235_1
                        have t249_0 : ∀ c k, bm_FI B246 c k m = 0 := fun c k => (fr_FI (fr0_f h246.1) f235_0 (fun q => q) c k).trans (t241_0 c k)
                        have t249_1 : ∀ i, i < 10 → stb (PGv (m + 3 + 3 * i)) (m + 3 + 3 * i) (m + 3 + 3 * i + 3) B246 := fun i hi => stb_fr0 (t241_1 i hi) h246.1 (oq_46 hn242 hi)
                        have t249_2 : ∀ i, i < 10 → bm_AR B246 ((m + 2)) i = some (m + 3 + 3 * i) := fun i hi => (congrFun (fr_AR (fr0_f h246.1) f235_2 (fun q => q)) i).trans (R245 i hi)
                        refine g_pure (pc' := 41) (st' := [.ref ((m + 3 + 3 * 10)), .ref ((m + 3 + 3 * 10)), .int 10, .ref ((m + 2))]) cd_Me_init rfl rfl (fun _ _ => rfl) ?_
                        refine g_callv (pc' := 44) cd_Me_init rfl rfl rfl rfl rfl (tm_invI rfl rfl cd_Gi_init rfl (Nat.le_of_ble_eq_true rfl)) (i_Gi hn242 h246 (fun B250 h250 => ?_))
                        have hf251 := fr0_f h250.1
                        have f252_0 := fr_lt hf251 f235_0
                        have g252_0 := (fr_K hf251 f235_0).trans g235_0
                        have f252_1 := fr_lt hf251 f235_1
                        have g252_1 := (fr_K hf251 f235_1).trans g235_1
                        have f252_2 := fr_lt hf251 f235_2
                        have g252_2 := (fr_K hf251 f235_2).trans g235_2
                        have f252_3 := fr_lt hf251 f235_3
                        have g252_3 := (fr_K hf251 f235_3).trans g235_3
                        have f252_4 := fr_lt hf251 f235_4
                        have g252_4 := (fr_K hf251 f235_4).trans g235_4
                        have f252_5 := fr_lt hf251 f235_5
                        have g252_5 := (fr_K hf251 f235_5).trans g235_5
                        have f252_6 := fr_lt hf251 f235_6
                        have g252_6 := (fr_K hf251 f235_6).trans g235_6
                        have f252_7 := fr_lt hf251 f235_7
                        have g252_7 := (fr_K hf251 f235_7).trans g235_7
                        have f252_8 := fr_lt hf251 f235_8
                        have g252_8 := (fr_K hf251 f235_8).trans g235_8
                        have f252_9 := fr_lt hf251 f235_9
                        have g252_9 := (fr_K hf251 f235_9).trans g235_9
                        have f252_10 := fr_lt hf251 f235_10
                        have g252_10 := (fr_K hf251 f235_10).trans g235_10
                        have f252_11 := fr_lt hf251 f235_11
                        have g252_11 := (fr_K hf251 f235_11).trans g235_11
                        have f252_12 := fr_lt hf251 h233.2.2.2.1
                        have g252_12 := (fr_K hf251 h233.2.2.2.1).trans h233.2.2.2.2
                        have r252_0 : bm_FR B250 5 0 m = some (m + 1) := (fr_FR hf251 f235_0 (fun q => q) 5 0).trans r235_0
                        have r252_1 : bm_FR B250 5 1 m = some (m + 2) := (fr_FR hf251 f235_0 (fun q => q) 5 1).trans r235_1
                        have u252_0 : bm_AI B250 (m + 1) = (fun _ => 0) := (fr_AI hf251 f235_1 (fun q => q)).trans u235_0
                        have w252_0 : bm_AL B250 (m + 1) = 6 := (fr_AL hf251 f235_1).trans w235_0
                        have w252_1 : bm_AL B250 (m + 2) = 12 := (fr_AL hf251 f235_2).trans w235_1
                        have t253_0 : ∀ c k, bm_FI B250 c k m = 0 := fun c k => (fr_FI (fr0_f h250.1) f235_0 (fun q => q) c k).trans (t241_0 c k)
                        have t253_1 : ∀ i, i < 10 → stb (PGv (m + 3 + 3 * i)) (m + 3 + 3 * i) (m + 3 + 3 * i + 3) B250 := fun i hi => stb_fr0 (t241_1 i hi) h250.1 (oq_46 hn242 hi)
                        have t253_2 : ∀ i, i < 10 → bm_AR B250 ((m + 2)) i = some (m + 3 + 3 * i) := fun i hi => (congrFun (fr_AR (fr0_f h250.1) f235_2 (fun q => q)) i).trans (R245 i hi)
                        have hn254 : bm_n B250 = (m + 3 + 3 * 11) := (oq_48 h250.2.1.1)
                        have sl255 : bm_sl B250 = bm_sl B0 + 381 := by rw [h250.2.1.2, sl243]
                        have f0256 : fr0 B0 B250 := fr0_trans f0244 h250.1
                        have F257 : ∀ i, i < 11 → stb (PGv (m + 3 + 3 * i)) (m + 3 + 3 * i) (m + 3 + 3 * i + 3) B250 := al_step (P := fun i => stb (PGv (m + 3 + 3 * i)) (m + 3 + 3 * i) (m + 3 + 3 * i + 3) B250) t253_1 h250.2.2.1
                        show bm_G _ _ _ 44 _ [.ref ((m + 3 + 3 * 10)), .int 10, .ref ((m + 2))] B250 _
                        refine g_aast (t := 7) (pc' := 45) cd_Me_init rfl rfl f252_2 g252_2 (by decide) rfl rfl h250.2.2.2.1 h250.2.2.2.2 (by rw [show bm_AL B250 (m + 2) = 12 from w252_1]; exact vp_in_nI (n := 10) (by decide) (by decide)) ?_
                        rw [show (10 : Int32).toNatClampNeg = 10 from by decide]
                        have t258_0 : ∀ c k, bm_FI (bm_setR B250 (m + 2) 10 (some ((m + 3 + 3 * 10)))) c k m = 0 := t253_0
                        have t258_1 : ∀ i, i < 11 → stb (PGv (m + 3 + 3 * i)) (m + 3 + 3 * i) (m + 3 + 3 * i + 3) (bm_setR B250 (m + 2) 10 (some ((m + 3 + 3 * 10)))) := fun i hi => stb_setR (F257 i hi) (oq_49 hn254 hi) (oq_50 hi)
                        have hn259 : bm_n (bm_setR B250 (m + 2) 10 (some ((m + 3 + 3 * 10)))) = (m + 3 + 3 * 11) := hn254
                        have sl260 : bm_sl (bm_setR B250 (m + 2) 10 (some ((m + 3 + 3 * 10)))) = bm_sl B0 + 381 := sl255
                        have f0261 : fr0 B0 (bm_setR B250 (m + 2) 10 (some ((m + 3 + 3 * 10)))) := fr0_setR f0256 (oq_20 hm)
                        have R262 : ∀ i, i < 11 → bm_AR (bm_setR B250 (m + 2) 10 (some ((m + 3 + 3 * 10)))) ((m + 2)) i = some (m + 3 + 3 * i) := ars_step (f := fun i => m + 3 + 3 * i) t253_2
                        refine g_inc (y := 11) (pc' := 48) cd_Me_init rfl l1 (by decide) (by decide) rfl (fun lv el => ?_)
                        have l0 := tm_lk el l0 rfl (by decide)
                        have l1 : lv.lookup 1 = some (.int 11) := tm_lks el
                        clear el
                        refine g_pure (pc' := 23) (st' := []) cd_Me_init rfl rfl (fun _ _ => rfl) ?_
                        refine g_ild (pc' := 24) cd_Me_init rfl (Or.inr ⟨_, rfl, rfl, rfl⟩) l1 rfl ?_
                        refine g_ald (pc' := 25) cd_Me_init rfl (Or.inr ⟨_, rfl, rfl, rfl⟩) l0 rfl rfl ?_
                        refine g_fR (c := 5) (k := 1) (x := (m + 2)) (pc' := 28) cd_Me_init rfl rfl rfl rfl rfl (by decide) f252_0 g252_0 r252_1 ?_
                        refine g_al (x := 12) (pc' := 29) cd_Me_init rfl rfl f252_2 (by rw [show bm_K (bm_setR B250 (m + 2) 10 (some ((m + 3 + 3 * 10)))) (m + 2) = 20 from g252_2]; decide) (by rw [show bm_K (bm_setR B250 (m + 2) 10 (some ((m + 3 + 3 * 10)))) (m + 2) = 20 from g252_2]; decide) (by rw [show bm_AL (bm_setR B250 (m + 2) 10 (some ((m + 3 + 3 * 10)))) (m + 2) = 12 from w252_1]; rfl) ?_
                        refine g_if2 (t := 51) (pc' := 32) cd_Me_init rfl rfl rfl (fun c29 => ?_) (fun c29 => ?_)
                        · exact absurd (show (12 : Int32) ≤ 11 from c29) (by decide)
                        · have c29 : ¬ (12 : Int32) ≤ 11 := c29
                          refine g_ald (pc' := 33) cd_Me_init rfl (Or.inr ⟨_, rfl, rfl, rfl⟩) l0 rfl rfl ?_
                          refine g_fR (c := 5) (k := 1) (x := (m + 2)) (pc' := 36) cd_Me_init rfl rfl rfl rfl rfl (by decide) f252_0 g252_0 r252_1 ?_
                          refine g_ild (pc' := 37) cd_Me_init rfl (Or.inr ⟨_, rfl, rfl, rfl⟩) l1 rfl ?_
                          refine n_obj 3 hn259 cd_Me_init rfl rfl rfl rfl (by decide) rfl (fun B263 h263 => ?_)
                          have hf264 := fr0_f h263.1
                          have f265_0 := fr_lt hf264 f252_0
                          have g265_0 := (fr_K hf264 f252_0).trans g252_0
                          have f265_1 := fr_lt hf264 f252_1
                          have g265_1 := (fr_K hf264 f252_1).trans g252_1
                          have f265_2 := fr_lt hf264 f252_2
                          have g265_2 := (fr_K hf264 f252_2).trans g252_2
                          have f265_3 := fr_lt hf264 f252_3
                          have g265_3 := (fr_K hf264 f252_3).trans g252_3
                          have f265_4 := fr_lt hf264 f252_4
                          have g265_4 := (fr_K hf264 f252_4).trans g252_4
                          have f265_5 := fr_lt hf264 f252_5
                          have g265_5 := (fr_K hf264 f252_5).trans g252_5
                          have f265_6 := fr_lt hf264 f252_6
                          have g265_6 := (fr_K hf264 f252_6).trans g252_6
                          have f265_7 := fr_lt hf264 f252_7
                          have g265_7 := (fr_K hf264 f252_7).trans g252_7
                          have f265_8 := fr_lt hf264 f252_8
                          have g265_8 := (fr_K hf264 f252_8).trans g252_8
                          have f265_9 := fr_lt hf264 f252_9
                          have g265_9 := (fr_K hf264 f252_9).trans g252_9
                          have f265_10 := fr_lt hf264 f252_10
                          have g265_10 := (fr_K hf264 f252_10).trans g252_10
                          have f265_11 := fr_lt hf264 f252_11
                          have g265_11 := (fr_K hf264 f252_11).trans g252_11
                          have f265_12 := fr_lt hf264 f252_12
                          have g265_12 := (fr_K hf264 f252_12).trans g252_12
                          have f265_13 := fr_lt hf264 h250.2.2.2.1
                          have g265_13 := (fr_K hf264 h250.2.2.2.1).trans h250.2.2.2.2
                          have r265_0 : bm_FR B263 5 0 m = some (m + 1) := (fr_FR hf264 f252_0 (fun q => q) 5 0).trans r252_0
                          have r265_1 : bm_FR B263 5 1 m = some (m + 2) := (fr_FR hf264 f252_0 (fun q => q) 5 1).trans r252_1
                          have u265_0 : bm_AI B263 (m + 1) = (fun _ => 0) := (fr_AI hf264 f252_1 (fun q => q)).trans u252_0
                          have w265_0 : bm_AL B263 (m + 1) = 6 := (fr_AL hf264 f252_1).trans w252_0
                          have w265_1 : bm_AL B263 (m + 2) = 12 := (fr_AL hf264 f252_2).trans w252_1
                          have t266_0 : ∀ c k, bm_FI B263 c k m = 0 := fun c k => (fr_FI (fr0_f h263.1) f252_0 (fun q => q) c k).trans (t258_0 c k)
                          have t266_1 : ∀ i, i < 11 → stb (PGv (m + 3 + 3 * i)) (m + 3 + 3 * i) (m + 3 + 3 * i + 3) B263 := fun i hi => stb_fr0 (t258_1 i hi) h263.1 (oq_49 hn259 hi)
                          have t266_2 : ∀ i, i < 11 → bm_AR B263 ((m + 2)) i = some (m + 3 + 3 * i) := fun i hi => (congrFun (fr_AR (fr0_f h263.1) f252_2 (fun q => q)) i).trans (R262 i hi)
                          refine g_pure (pc' := 41) (st' := [.ref ((m + 3 + 3 * 11)), .ref ((m + 3 + 3 * 11)), .int 11, .ref ((m + 2))]) cd_Me_init rfl rfl (fun _ _ => rfl) ?_
                          refine g_callv (pc' := 44) cd_Me_init rfl rfl rfl rfl rfl (tm_invI rfl rfl cd_Gi_init rfl (Nat.le_of_ble_eq_true rfl)) (i_Gi hn259 h263 (fun B267 h267 => ?_))
                          have hf268 := fr0_f h267.1
                          have f269_0 := fr_lt hf268 f252_0
                          have g269_0 := (fr_K hf268 f252_0).trans g252_0
                          have f269_1 := fr_lt hf268 f252_1
                          have g269_1 := (fr_K hf268 f252_1).trans g252_1
                          have f269_2 := fr_lt hf268 f252_2
                          have g269_2 := (fr_K hf268 f252_2).trans g252_2
                          have f269_3 := fr_lt hf268 f252_3
                          have g269_3 := (fr_K hf268 f252_3).trans g252_3
                          have f269_4 := fr_lt hf268 f252_4
                          have g269_4 := (fr_K hf268 f252_4).trans g252_4
                          have f269_5 := fr_lt hf268 f252_5
                          have g269_5 := (fr_K hf268 f252_5).trans g252_5
                          have f269_6 := fr_lt hf268 f252_6
                          have g269_6 := (fr_K hf268 f252_6).trans g252_6
                          have f269_7 := fr_lt hf268 f252_7
                          have g269_7 := (fr_K hf268 f252_7).trans g252_7
                          have f269_8 := fr_lt hf268 f252_8
                          have g269_8 := (fr_K hf268 f252_8).trans g252_8
                          have f269_9 := fr_lt hf268 f252_9
                          have g269_9 := (fr_K hf268 f252_9).trans g252_9
                          have f269_10 := fr_lt hf268 f252_10
                          have g269_10 := (fr_K hf268 f252_10).trans g252_10
                          have f269_11 := fr_lt hf268 f252_11
                          have g269_11 := (fr_K hf268 f252_11).trans g252_11
                          have f269_12 := fr_lt hf268 f252_12
                          have g269_12 := (fr_K hf268 f252_12).trans g252_12
                          have f269_13 := fr_lt hf268 h250.2.2.2.1
                          have g269_13 := (fr_K hf268 h250.2.2.2.1).trans h250.2.2.2.2
                          have r269_0 : bm_FR B267 5 0 m = some (m + 1) := (fr_FR hf268 f252_0 (fun q => q) 5 0).trans r252_0
                          have r269_1 : bm_FR B267 5 1 m = some (m + 2) := (fr_FR hf268 f252_0 (fun q => q) 5 1).trans r252_1
                          have u269_0 : bm_AI B267 (m + 1) = (fun _ => 0) := (fr_AI hf268 f252_1 (fun q => q)).trans u252_0
                          have w269_0 : bm_AL B267 (m + 1) = 6 := (fr_AL hf268 f252_1).trans w252_0
                          have w269_1 : bm_AL B267 (m + 2) = 12 := (fr_AL hf268 f252_2).trans w252_1
                          have t270_0 : ∀ c k, bm_FI B267 c k m = 0 := fun c k => (fr_FI (fr0_f h267.1) f252_0 (fun q => q) c k).trans (t258_0 c k)
                          have t270_1 : ∀ i, i < 11 → stb (PGv (m + 3 + 3 * i)) (m + 3 + 3 * i) (m + 3 + 3 * i + 3) B267 := fun i hi => stb_fr0 (t258_1 i hi) h267.1 (oq_49 hn259 hi)
                          have t270_2 : ∀ i, i < 11 → bm_AR B267 ((m + 2)) i = some (m + 3 + 3 * i) := fun i hi => (congrFun (fr_AR (fr0_f h267.1) f252_2 (fun q => q)) i).trans (R262 i hi)
                          have hn271 : bm_n B267 = (m + 39) := (oq_51 h267.2.1.1)
                          have sl272 : bm_sl B267 = bm_sl B0 + 413 := by rw [h267.2.1.2, sl260]
                          have f0273 : fr0 B0 B267 := fr0_trans f0261 h267.1
                          have F274 : ∀ i, i < 12 → stb (PGv (m + 3 + 3 * i)) (m + 3 + 3 * i) (m + 3 + 3 * i + 3) B267 := al_step (P := fun i => stb (PGv (m + 3 + 3 * i)) (m + 3 + 3 * i) (m + 3 + 3 * i + 3) B267) t270_1 h267.2.2.1
                          show bm_G _ _ _ 44 _ [.ref ((m + 3 + 3 * 11)), .int 11, .ref ((m + 2))] B267 _
                          refine g_aast (t := 7) (pc' := 45) cd_Me_init rfl rfl f269_2 g269_2 (by decide) rfl rfl h267.2.2.2.1 h267.2.2.2.2 (by rw [show bm_AL B267 (m + 2) = 12 from w269_1]; exact vp_in_nI (n := 11) (by decide) (by decide)) ?_
                          rw [show (11 : Int32).toNatClampNeg = 11 from by decide]
                          have t275_0 : ∀ c k, bm_FI (bm_setR B267 (m + 2) 11 (some ((m + 3 + 3 * 11)))) c k m = 0 := t270_0
                          have t275_1 : ∀ i, i < 12 → stb (PGv (m + 3 + 3 * i)) (m + 3 + 3 * i) (m + 3 + 3 * i + 3) (bm_setR B267 (m + 2) 11 (some ((m + 3 + 3 * 11)))) := fun i hi => stb_setR (F274 i hi) (oq_52 hn271 hi) (oq_53 hi)
                          have hn276 : bm_n (bm_setR B267 (m + 2) 11 (some ((m + 3 + 3 * 11)))) = (m + 39) := hn271
                          have sl277 : bm_sl (bm_setR B267 (m + 2) 11 (some ((m + 3 + 3 * 11)))) = bm_sl B0 + 413 := sl272
                          have f0278 : fr0 B0 (bm_setR B267 (m + 2) 11 (some ((m + 3 + 3 * 11)))) := fr0_setR f0273 (oq_20 hm)
                          have R279 : ∀ i, i < 12 → bm_AR (bm_setR B267 (m + 2) 11 (some ((m + 3 + 3 * 11)))) ((m + 2)) i = some (m + 3 + 3 * i) := ars_step (f := fun i => m + 3 + 3 * i) t270_2
                          refine g_inc (y := 12) (pc' := 48) cd_Me_init rfl l1 (by decide) (by decide) rfl (fun lv el => ?_)
                          have l0 := tm_lk el l0 rfl (by decide)
                          have l1 : lv.lookup 1 = some (.int 12) := tm_lks el
                          clear el
                          refine g_pure (pc' := 23) (st' := []) cd_Me_init rfl rfl (fun _ _ => rfl) ?_
                          refine g_ild (pc' := 24) cd_Me_init rfl (Or.inr ⟨_, rfl, rfl, rfl⟩) l1 rfl ?_
                          refine g_ald (pc' := 25) cd_Me_init rfl (Or.inr ⟨_, rfl, rfl, rfl⟩) l0 rfl rfl ?_
                          refine g_fR (c := 5) (k := 1) (x := (m + 2)) (pc' := 28) cd_Me_init rfl rfl rfl rfl rfl (by decide) f269_0 g269_0 r269_1 ?_
                          refine g_al (x := 12) (pc' := 29) cd_Me_init rfl rfl f269_2 (by rw [show bm_K (bm_setR B267 (m + 2) 11 (some ((m + 3 + 3 * 11)))) (m + 2) = 20 from g269_2]; decide) (by rw [show bm_K (bm_setR B267 (m + 2) 11 (some ((m + 3 + 3 * 11)))) (m + 2) = 20 from g269_2]; decide) (by rw [show bm_AL (bm_setR B267 (m + 2) 11 (some ((m + 3 + 3 * 11)))) (m + 2) = 12 from w269_1]; rfl) ?_
                          refine g_if2 (t := 51) (pc' := 32) cd_Me_init rfl rfl rfl (fun c29 => ?_) (fun c29 => ?_)
                          · have c29 : (12 : Int32) ≤ 12 := c29
                            have hS : stb (PMe m) m (m + 39) (bm_setR B267 (m + 2) 11 (some ((m + 3 + 3 * 11)))) := by
                              intro B2 g T hz
                              have e0 := g (m + 0) oq_2 oq_54
                              have e1 := g (m + 1) oq_4 oq_55
                              have e2 := g (m + 2) oq_56 oq_57
                              refine ⟨⟨⟨e0.1, ce_K e0 g269_0⟩, ⟨ce_FR e0 r269_0, ce_FR e0 r269_1⟩, ⟨e1.1, ce_K e1 g269_1, ce_AL e1 w269_0⟩, e2.1, ce_K e2 g269_2, ce_AL e2 w269_1⟩, ⟨⟨(ce_FI e0 (t275_0 5 2)), (ce_FI e0 (t275_0 5 3)), (ce_FI e0 (t275_0 5 4)), (ce_FI e0 (t275_0 5 5))⟩, ⟨tvq (ce_FI e0 (t275_0 5 6)) hz, tvq (ce_FI e0 (t275_0 5 7)) hz⟩, (ce_FI e0 (t275_0 5 8)), (ce_FI e0 (t275_0 5 9)), (ce_FI e0 (t275_0 5 10))⟩, fun p hp => ?_⟩
                              exact ⟨⟨congrFun (ce_AI e1 u269_0) p, Nat.zero_le _⟩, ⟨ce_AR e2 (R279 (2 * p) (oq_58 hp)), ce_AR e2 (R279 (2 * p + 1) (oq_59 hp))⟩, eGv, eGv, (t275_1 (2 * p) (oq_58 hp) B2 (fun y h1 h2 => g y (oq_60 h1) (oq_61 hp h2)) T hz), (t275_1 (2 * p + 1) (oq_59 hp) B2 (fun y h1 h2 => g y (oq_62 h1) (oq_63 hp h2)) T hz), rfl⟩
                            exact g_retv cd_Me_init rfl ⟨rfl, kk _ ⟨f0278, ⟨(oq_64 hn276), sl277⟩, hS, f269_0, g269_0⟩⟩
                          · exact absurd (show ¬ (12 : Int32) ≤ 12 from c29) (by decide)
