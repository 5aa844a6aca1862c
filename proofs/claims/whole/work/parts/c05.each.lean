/-! What holds of every device, whoever keeps secrets -/
def RP (t : Tm) : Prop := t = tz ∨ kd t = 2
def BOS (S : SS) : Prop := GS (fun t => bo t = S.2.2.2.2.2.2.2.2.2.2) TT1 RP S
def KP (s : Nat) (K : PK) : Prop := K.1 = tz ∨ ∃ m, K.1 = Tsec m (nI s) 1
def GM1 (s n : Nat) (DL : List (Int32 × Int32)) (ls : List RL) (M : MM) : Prop := ((∀ i, 6 ≤ i → i < 32 → bt M.2.1 i = false) ∧ (M.1 ≠ 0 → hbit M.2.1 (nI s) = true)) ∧ (∃ e, e ≤ n ∧ M.2.2.2.1 = nI e) ∧ (M.2.2.2.1 ≠ 0 → ∃ m, 6 ≤ m ∧ m < DL.length ∧ upc (Tsec (nI m) (nI s) 0) M.2.2.2.2.1 ∧ ∀ r, r ∈ ls → r.1 ≠ Tsec (nI m) (nI s) 0)
def GME (s n : Nat) (DL : List (Int32 × Int32)) (ls : List RL) (me : Nat → MM) : Prop := (∀ g, g < 4 → GM1 s n DL ls (me g)) ∧ ∀ g g', g < 4 → g' < 4 → g ≠ g' → ∀ x, kd x = 1 → (me g).2.2.2.1 ≠ 0 → (me g').2.2.2.1 ≠ 0 → upc x (me g).2.2.2.2.1 → ¬ upc x (me g').2.2.2.2.1
def IVd (s n : Nat) (DL : List (Int32 × Int32)) (ls : List RL) : DV → Prop
  | (id, K0, K1, _, _, se, me) => id = Tsec (nI s) (nI s) 0 ∧ (KP s K0 ∧ KP s K1) ∧ (∀ q S, S ∈ se q → BOS S) ∧ GME s n DL ls me
theorem upc_sec {x y : Tm} {k : Nat} (hx : kd x = 1) (hy : kd y = 1) (h : upc x (c7 k y)) : x = y := by
  obtain ⟨j, e⟩ := h
  exact (c7_inj hy hx e).2.symm
theorem upc_pred {x a : Tm} (hx : kd x = 1) (h : upc x (Tmx 7 a tz)) : upc x a := by
  obtain ⟨k, e⟩ := h
  cases k with
  | zero =>
    have : kd x = 4 := by rw [← show Tmx 7 a tz = x from e]; rfl
    exact absurd (hx.symm.trans this) (by decide)
  | succ k => exact ⟨k, (Tmx_inj e).2.1⟩
theorem upc_succ {x a : Tm} (h : upc x a) : upc x (Tmx 7 a tz) := by
  obtain ⟨k, e⟩ := h
  exact ⟨k + 1, by rw [e]; rfl⟩
/-- new letters bear new SECRETs -/
def lsx (DL : List (Int32 × Int32)) (ls ls' : List RL) : Prop := ∀ r, r ∈ ls' → (∃ r0, r0 ∈ ls ∧ r0.1 = r.1) ∨ ∃ m d p, DL.length ≤ m ∧ m < 3000 ∧ r.1 = Tsec (nI m) d p
theorem Tsec_inj {m m' : Nat} {d d' p p' : Int32} (h1 : m < 100000) (h2 : m' < 100000) (h : Tsec (nI m) d p = Tsec (nI m') d' p') : m = m' ∧ d = d' ∧ p = p' := by
  obtain ⟨e, -⟩ := tn_inj h
  injection e with _ e
  injection e with e1 e
  injection e with e2 e
  injection e with e3 e
  exact ⟨nI_cxl h1 h2 e1, e2, e3⟩
theorem GM1_mono {s n n' : Nat} {DL E : List (Int32 × Int32)} {ls ls' : List RL} {M : MM} (hn : n ≤ n') (hd : DL.length ≤ 2900) (hl : lsx DL ls ls') (h : GM1 s n DL ls M) : GM1 s n' (DL ++ E) ls' M := by
  obtain ⟨h1, ⟨e, h2, h3⟩, h4⟩ := h
  refine ⟨h1, ⟨e, by omega, h3⟩, fun hz => ?_⟩
  obtain ⟨m, a1, a2, a3, a4⟩ := h4 hz
  refine ⟨m, a1, by rw [List.length_append]; omega, a3, fun r hr q => ?_⟩
  rcases hl r hr with ⟨r0, b1, b2⟩ | ⟨m', d, p, b1, b2, b3⟩
  · exact a4 r0 b1 (b2.trans q)
  · rw [b3] at q
    have := (Tsec_inj (by omega) (by omega) q).1
    omega
theorem GME_mono {s n n' : Nat} {DL E : List (Int32 × Int32)} {ls ls' : List RL} {me : Nat → MM} (hn : n ≤ n') (hd : DL.length ≤ 2900) (hl : lsx DL ls ls') (h : GME s n DL ls me) : GME s n' (DL ++ E) ls' me := ⟨fun g hg => GM1_mono hn hd hl (h.1 g hg), h.2⟩
theorem IVd_mono {s n n' : Nat} {DL E : List (Int32 × Int32)} {ls ls' : List RL} {D : DV} (hn : n ≤ n') (hd : DL.length ≤ 2900) (hl : lsx DL ls ls') (h : IVd s n DL ls D) : IVd s n' (DL ++ E) ls' D := by
  obtain ⟨id, K0, K1, on, lnu, se, me⟩ := D
  exact ⟨h.1, h.2.1, h.2.2.1, GME_mono hn hd hl h.2.2.2⟩
theorem lsx_rfl (DL : List (Int32 × Int32)) (ls : List RL) : lsx DL ls ls := fun r hr => Or.inl ⟨r, hr, rfl⟩
/-- a group whose chain's root stays -/
theorem GME_keep {s n g : Nat} {DL : List (Int32 × Int32)} {ls : List RL} {me : Nat → MM} {M : MM} (h : GME s n DL ls me) (hM : GM1 s n DL ls M) (hge : M.2.2.2.1 ≠ 0 → (me g).2.2.2.1 ≠ 0) (hch : ∀ x, kd x = 1 → upc x M.2.2.2.2.1 → upc x (me g).2.2.2.2.1) : GME s n DL ls (fset me g M) := by
  refine ⟨fun q hq => ?_, fun a b ha hb hab x hx h1 h2 h3 h4 => ?_⟩
  · by_cases c : q = g
    · subst c; rw [fset_same]; exact hM
    · rw [fset_ne c]; exact h.1 q hq
  · by_cases c : a = g
    · subst c
      rw [fset_same] at h1 h3
      rw [fset_ne (fun z => hab z.symm)] at h2 h4
      exact h.2 a b ha hb hab x hx (hge h1) h2 (hch x hx h3) h4
    · rw [fset_ne c] at h1 h3
      by_cases c' : b = g
      · subst c'
        rw [fset_same] at h2 h4
        exact h.2 a b ha hb hab x hx h1 (hge h2) h3 (hch x hx h4)
      · rw [fset_ne c'] at h2 h4
        exact h.2 a b ha hb hab x hx h1 h2 h3 h4
theorem GM1_ga {s n : Nat} {DL : List (Int32 × Int32)} {ls : List RL} {M : MM} (x : Int32) (h : GM1 s n DL ls M) : GM1 s n DL ls (mm_ga M x) := by
  obtain ⟨ve, ma, go, ge, ch, si, ix, ga, sl, gv⟩ := M
  exact h
theorem GM1_set {s n : Nat} {DL : List (Int32 × Int32)} {ls : List RL} {M : MM} (p : Nat) (l : List GV) (h : GM1 s n DL ls M) : GM1 s n DL ls (mm_set M p l) ∧ (mm_set M p l).2.2.2.1 = M.2.2.2.1 ∧ (mm_set M p l).2.2.2.2.1 = M.2.2.2.2.1 := by
  obtain ⟨ve, ma, go, ge, ch, si, ix, ga, sl, gv⟩ := M
  exact ⟨h, rfl, rfl⟩
theorem GM1_posted {s n : Nat} {DL : List (Int32 × Int32)} {ls : List RL} {M : MM} (h : GM1 s n DL ls M) : GM1 s n DL ls (mm_posted M) ∧ (mm_posted M).2.2.2.1 = M.2.2.2.1 ∧ (mm_posted M).2.2.2.2.1 = Tmx 7 M.2.2.2.2.1 tz := by
  obtain ⟨ve, ma, go, ge, ch, si, ix, ga, sl, gv⟩ := M
  obtain ⟨h1, h2, h3⟩ := h
  refine ⟨⟨h1, h2, fun hz => ?_⟩, rfl, rfl⟩
  obtain ⟨m, a1, a2, a3, a4⟩ := h3 hz
  exact ⟨m, a1, a2, upc_succ a3, a4⟩
theorem GM1_adopt {s n : Nat} {DL : List (Int32 × Int32)} {ls : List RL} {M : MM} {v k : Int32} (hk : ∀ i, 6 ≤ i → i < 32 → bt k i = false) (hs : hbit k (nI s) = true) (h : GM1 s n DL ls M) : GM1 s n DL ls (mm_adopt M v k) ∧ (mm_adopt M v k).2.2.2.1 = M.2.2.2.1 ∧ (mm_adopt M v k).2.2.2.2.1 = M.2.2.2.2.1 := by
  obtain ⟨ve, ma, go, ge, ch, si, ix, ga, sl, gv⟩ := M
  obtain ⟨h1, h2, h3⟩ := h
  exact ⟨⟨⟨hk, fun _ => hs⟩, h2, h3⟩, rfl, rfl⟩
theorem msk_bits {k : Int32} (h0 : ¬ k < 0) (h6 : ¬ 64 ≤ k) : ∀ i, 6 ≤ i → i < 32 → bt k i = false := by
  obtain ⟨j, hj, rfl⟩ := inR_of (n := 64) (by decide) (inR_t h0 h6)
  intro i hi hi2
  exact (by decide +kernel : ∀ j, j < 64 → ∀ i, i < 32 → 6 ≤ i → bt (nI j) i = false) j hj i hi2 hi
theorem good6_m {A : Tm} (h : Tgood 6 A = true) : ¬ nu A 2 < 0 ∧ ¬ 64 ≤ nu A 2 := by
  have := good_gn h
  unfold gn at this
  simp only [Bool.and_eq_true, Bool.not_eq_true', decide_eq_false_iff_not] at this
  exact ⟨this.1.1.2, this.1.2⟩
/-- the chain is new -/
theorem GME_ren {s n g : Nat} {DL E : List (Int32 × Int32)} {ls : List RL} {me : Nat → MM} (hg : g < 4) (hn : n ≤ 64) (hd : DL.length ≤ 2900) (h6 : 6 ≤ DL.length) (hE : mm_fresh (me g) = false → 1 ≤ E.length) (hls : ∀ r, r ∈ ls → ∃ m d p, m < DL.length ∧ r.1 = Tsec (nI m) d p) (h : GME s n DL ls me) : GME s (n + 1) (DL ++ E) ls (fset me g (mm_ren (me g) DL.length (nI s))) := by
  have h0 := GME_mono (n' := n + 1) (E := E) (by omega) hd (lsx_rfl DL ls) h
  by_cases c : mm_fresh (me g) = true
  · unfold mm_ren
    rw [if_pos c, fset_id]
    exact h0
  · have e : mm_ren (me g) DL.length (nI s) = mm_renew (me g) DL.length (nI s) := if_neg c
    rw [e]
    have hE := hE (Bool.eq_false_iff.mpr c)
    have hr : (mm_renew (me g) DL.length (nI s)).2.2.2.2.1 = Tsec (nI DL.length) (nI s) 0 := by
      obtain ⟨ve, ma, go, ge, ch, si, ix, ga, sl, gv⟩ := me g
      rfl
    have hM : GM1 s (n + 1) (DL ++ E) ls (mm_renew (me g) DL.length (nI s)) := by
      have q := h.1 g hg
      generalize me g = M at q ⊢
      obtain ⟨ve, ma, go, ge, ch, si, ix, ga, sl, gv⟩ := M
      obtain ⟨q1, ⟨e, q2, q3⟩, q4⟩ := q
      refine ⟨q1, ⟨e + 1, by omega, ?_⟩, fun _ => ⟨DL.length, h6, by rw [List.length_append]; omega, ⟨0, rfl⟩, fun r hr z => ?_⟩⟩
      · have q3 : ge = nI e := q3
        show ge + 1 = nI (e + 1)
        rw [q3]; exact nI_s1 e
      · obtain ⟨m, d, p, b1, b2⟩ := hls r hr
        rw [b2] at z
        have := (Tsec_inj (by omega) (by omega) z).1
        omega
    refine ⟨fun q hq => ?_, fun a b ha hb hab x hx h1 h2 h3 h4 => ?_⟩
    · by_cases z : q = g
      · subst z; rw [fset_same]; exact hM
      · rw [fset_ne z]; exact h0.1 q hq
    · have far : ∀ b, b < 4 → (me b).2.2.2.1 ≠ 0 → ∀ x, kd x = 1 → upc x (Tsec (nI DL.length) (nI s) 0) → ¬ upc x (me b).2.2.2.2.1 := fun b hb hz x hx k1 k2 => by
        obtain ⟨m, a1, a2, ⟨j, a3⟩, -⟩ := (h.1 b hb).2.2 hz
        have e1 : x = Tsec (nI DL.length) (nI s) 0 := upc_sec (k := 0) hx rfl k1
        rw [a3] at k2
        have e2 : x = Tsec (nI m) (nI s) 0 := upc_sec hx rfl k2
        have := (Tsec_inj (by omega) (by omega) (e1.symm.trans e2)).1
        omega
      by_cases z : a = g
      · subst z
        rw [fset_same, hr] at h3
        rw [fset_ne (fun w => hab w.symm)] at h2 h4
        exact far b hb h2 x hx h3 h4
      · rw [fset_ne z] at h1 h3
        by_cases z' : b = g
        · subst z'
          rw [fset_same, hr] at h4
          exact far a ha h1 x hx h4 h3
        · rw [fset_ne z'] at h2 h4
          exact h.2 a b ha hb hab x hx h1 h2 h3 h4
theorem BOS_turn {S : SS} {x : Tm} (h : BOS S) : BOS (ss_sent (ss_turn S x)) := by
  unfold BOS at h ⊢
  rw [on_keep]
  obtain ⟨h1, h2, h3⟩ := GS_turn (x := x) (hcl_bo _) h (fun _ => trivial)
  exact (GS_sent (hcl_bo _) h1 h2).1
theorem BOS_open {id e r idd P O : Tm} (hP : RP P) (hO : RP O) : BOS (op_ses id e r idd P O) ∧ bo (op_ses id e r idd P O).2.2.2.2.1 = (op_ses id e r idd P O).2.2.2.2.2.2.2.2.2.2 := GS_open (Pr := fun t => bo t = !tnil O) (hcl_bo _) (bo_op id e r idd P O) (fun _ => trivial) (Or.inr rfl) hP hO
theorem BOS_openS {id e r idd P O : Tm} (hP : RP P) (hO : RP O) : BOS (ss_sent (op_ses id e r idd P O)) := (GS_sent (hcl_bo _) (BOS_open hP hO).1 (BOS_open hP hO).2).1
theorem BOS_key {S S1 : SS} {H K : Tm} (hp : RP (pt H 1)) (h : BOS S) (e : ss_key S H = some (K, S1)) : BOS (ss_nb S1) ∧ bo K = S1.2.2.2.2.2.2.2.2.2.2 := by
  obtain ⟨h1, h2, h3⟩ := GS_key (hcl_bo _) hp h e
  have e2 : (ss_nb S1).2.2.2.2.2.2.2.2.2.2 = S1.2.2.2.2.2.2.2.2.2.2 := by
    obtain ⟨⟨th, ch, nx, le⟩, ba, ro, mi, sd, n, b, br, bp, bo', on⟩ := S1
    rfl
  unfold BOS
  rw [e2, h3]
  exact ⟨GS_nb h1, h2⟩
theorem BOS_start {id ss pi base : Tm} {o : Option Tm} (hb : RP base) : BOS (ss_start base ss (as_root id ss pi base o) o.isSome) := GS_start (bo_as id ss pi base o) (fun _ => trivial) (Or.inl rfl) hb
