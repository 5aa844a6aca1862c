/-! Device: sessions found, put first, added; prekeys; one-time keys -/
theorem AR_set (B : bm_H) (a i : Nat) (v : Option Nat) : bm_AR (bm_setR B a i v) a i = v := if_pos ⟨rfl, rfl⟩
theorem ln_0 {α : Type} {l : List α} (h : nI l.length ≤ 0) (h2 : l.length ≤ 2) : l = [] := by
  rcases l with _ | ⟨a, l⟩
  · rfl
  · exact absurd h (nI_nle (by simp) (by simp at h2 ⊢; omega))
theorem ln_1 {α : Type} {l : List α} (h : ¬ nI l.length ≤ 0) : ∃ a r, l = a :: r := by
  rcases l with _ | ⟨a, l⟩
  · exact absurd (show nI 0 ≤ 0 by decide) h
  · exact ⟨a, l, rfl⟩
theorem all1 {α : Type} {P : α → Prop} {a : α} (h : P a) : ∀ (k : Nat) (S : α), [a][k]? = some S → P S := by
  intro k S e
  rcases k with _ | k
  · simp at e; exact e ▸ h
  · simp at e
theorem all2 {α : Type} {P : α → Prop} {a b : α} (h : P a) (h2 : P b) : ∀ (k : Nat) (S : α), [a, b][k]? = some S → P S := by
  intro k S e
  rcases k with _ | _ | k
  · simp at e; exact e ▸ h
  · simp at e; exact e ▸ h2
  · simp at e
theorem AR_setj (B : bm_H) (a : Nat) {i j : Nat} (v : Option Nat) (h : j ≠ i) : bm_AR (bm_setR B a i v) a j = bm_AR B a j := if_neg (fun q => h q.2)
theorem RSe_base {B : bm_H} {T : List Tm} {s : Nat} {S : SS} (h : RSe B T s S) : tv T (bm_FI B 7 1 s) S.2.1 := by
  obtain ⟨I, ba, ro, mi, se, n, b, br, bp, bo, on⟩ := S
  exact h.2.2.1.1
theorem t_firstSession {sc : tm_X} {d p : Nat} {B : bm_H} {T : List Tm} {x : Nat} {w : SW} {id : Tm} {K0 K1 : PK} {on : List (Tm × Int32)} {ln : Int32} {se : Nat → List SS} {me : Nat → MM} {Q : Option Nat → bm_H → Prop} (hR : RDe B T x w (id, K0, K1, on, ln, se, me)) (hp : p < 6) (kk0 : se p = [] → Q none B) (kk1 : ∀ S l, se p = S :: l → Q (some (sA x w.2.1 p 0)) B) : bm_Gr sc d 85 [.ref x, .int (nI p)] B Q := by
  obtain ⟨⟨a1, a2⟩, ⟨a3, a4⟩, X0, X1, b0, b1, b2⟩ := hR.2.2.2.2.1 p hp
  show bm_G sc d 85 0 [(0, .ref x), (1, .int (nI p))] [] B _
  generalize elv : ([(0, .ref x), (1, .int (nI p))] : tm_L) = lv
  have l0 : lv.lookup 0 = some (.ref x) := by rw [← elv]; rfl
  have l1 : lv.lookup 1 = some (.int (nI p)) := by rw [← elv]; rfl
  clear elv
  refine g_ald (pc' := 1) cd_De_firstSession rfl (Or.inr ⟨_, rfl, rfl, rfl⟩) l0 rfl rfl ?_
  refine g_fR (c := 0) (k := 3) (x := (x + 8)) (pc' := 4) cd_De_firstSession rfl rfl rfl rfl rfl (by decide) hR.1.1.1 hR.1.1.2 hR.1.2.1.2.2.2.1 ?_
  refine g_ild (pc' := 5) cd_De_firstSession rfl (Or.inr ⟨_, rfl, rfl, rfl⟩) l1 rfl ?_
  refine g_aI (x := nI ((se p).length)) (pc' := 6) cd_De_firstSession rfl rfl hR.1.2.2.2.2.2.1.1 hR.1.2.2.2.2.2.1.2.1 (by rw [show bm_AL B (x + 8) = 6 from hR.1.2.2.2.2.2.1.2.2]; exact vp_in_nI (by omega) (by decide)) (by rw [nI_clamp (by omega)]; exact a1) ?_
  refine g_if1 (t := 20) (pc' := 9) cd_De_firstSession rfl rfl rfl (fun c6 => ?_) (fun c6 => ?_)
  · have c6 : (nI ((se p).length)) ≤ 0 := c6
    refine g_pure (pc' := 21) (st' := [.null]) cd_De_firstSession rfl rfl (fun _ _ => rfl) ?_
    exact g_retr (x := none) cd_De_firstSession rfl ⟨none, rfl, (kk0 (ln_0 c6 a2))⟩
  · have c6 : ¬ (nI ((se p).length)) ≤ 0 := c6
    refine g_ald (pc' := 10) cd_De_firstSession rfl (Or.inr ⟨_, rfl, rfl, rfl⟩) l0 rfl rfl ?_
    refine g_fR (c := 0) (k := 4) (x := (x + 9)) (pc' := 13) cd_De_firstSession rfl rfl rfl rfl rfl (by decide) hR.1.1.1 hR.1.1.2 hR.1.2.1.2.2.2.2.1 ?_
    refine g_ild (pc' := 14) cd_De_firstSession rfl (Or.inr ⟨_, rfl, rfl, rfl⟩) l1 rfl ?_
    refine g_k1 (v := 2) (pc' := 15) cd_De_firstSession rfl (by decide) rfl ?_
    refine g_pure (pc' := 16) (st' := [.int ((nI p) * 2), .ref ((x + 9))]) cd_De_firstSession rfl rfl (fun _ _ => rfl) ?_
    rw [show ((nI p) * 2 : Int32) = nI (p * 2) from pk_mul p 2]
    refine g_aR (t := 5) (x := (sA x w.2.1 p 0)) (pc' := 17) cd_De_firstSession rfl rfl hR.1.2.2.2.2.2.2.1.1 hR.1.2.2.2.2.2.2.1.2.1 (by decide) rfl rfl (by rw [show bm_AL B (x + 9) = 12 from hR.1.2.2.2.2.2.2.1.2.2]; exact vp_in_nI (by omega) (by decide)) (by rw [nI_clamp (by omega), show p * 2 = 2 * p by omega]; exact a3) ?_
    refine g_pure (pc' := 21) (st' := [.ref ((sA x w.2.1 p 0))]) cd_De_firstSession rfl rfl (fun _ _ => rfl) ?_
    obtain ⟨S, l, hl⟩ := ln_1 c6
    exact g_retr (x := (some (sA x w.2.1 p 0))) cd_De_firstSession rfl ⟨(some (sA x w.2.1 p 0)), rfl, (kk1 S l hl)⟩
theorem t_findSession {sc : tm_X} {d p a ca ba da rm dr : Nat} {B : bm_H} {T : List Tm} {x : Nat} {w : SW} {id : Tm} {K0 K1 : PK} {on : List (Tm × Int32)} {ln : Int32} {se : Nat → List SS} {me : Nat → MM} {b : Int32} {A : Tm} {Q : Option Nat → bm_H → Prop} (hT : TI B a ca ba da rm dr T) (hR : RDe B T x w (id, K0, K1, on, ln, se, me)) (hp : p < 6) (hb : tv T b A) (kk0 : (∀ (k : Nat) (S : SS), (se p)[k]? = some S → S.2.1 ≠ A) → Q none B) (kk1 : ∀ k S, (se p)[k]? = some S → S.2.1 = A → (∀ j S', j < k → (se p)[j]? = some S' → S'.2.1 ≠ A) → Q (some (sA x w.2.1 p k)) B) : bm_Gr sc d 108 [.ref x, .int (nI p), .int b] B Q := by
  obtain ⟨⟨a1, a2⟩, ⟨a3, a4⟩, X0, X1, b0, b1, b2⟩ := hR.2.2.2.2.1 p hp
  have t0 := RSe_base b0
  have t1 := RSe_base b1
  rcases len2 a2 with hl | ⟨G0, hl⟩ | ⟨G0, G1, hl⟩
  · rw [hl] at a1 b2
    show bm_G sc d 108 0 [(0, .ref x), (1, .int (nI p)), (2, .int b)] [] B _
    generalize elv : ([(0, .ref x), (1, .int (nI p)), (2, .int b)] : tm_L) = lv
    have l0 : lv.lookup 0 = some (.ref x) := by rw [← elv]; rfl
    have l1 : lv.lookup 1 = some (.int (nI p)) := by rw [← elv]; rfl
    have l2 : lv.lookup 2 = some (.int b) := by rw [← elv]; rfl
    clear elv
    refine g_k1 (v := 0) (pc' := 1) cd_De_findSession rfl (by decide) rfl ?_
    refine g_ist (pc' := 2) cd_De_findSession rfl (Or.inr ⟨_, rfl, rfl, rfl⟩) (by decide) rfl (fun lv el => ?_)
    have l0 := tm_lk el l0 rfl (by decide)
    have l1 := tm_lk el l1 rfl (by decide)
    have l2 := tm_lk el l2 rfl (by decide)
    have l3 : lv.lookup 3 = some (.int 0) := tm_lks el
    clear el
    refine g_ild (pc' := 3) cd_De_findSession rfl (Or.inr ⟨_, rfl, rfl, rfl⟩) l3 rfl ?_
    refine g_ald (pc' := 4) cd_De_findSession rfl (Or.inr ⟨_, rfl, rfl, rfl⟩) l0 rfl rfl ?_
    refine g_fR (c := 0) (k := 3) (x := (x + 8)) (pc' := 7) cd_De_findSession rfl rfl rfl rfl rfl (by decide) hR.1.1.1 hR.1.1.2 hR.1.2.1.2.2.2.1 ?_
    refine g_ild (pc' := 8) cd_De_findSession rfl (Or.inr ⟨_, rfl, rfl, rfl⟩) l1 rfl ?_
    refine g_aI (x := 0) (pc' := 9) cd_De_findSession rfl rfl hR.1.2.2.2.2.2.1.1 hR.1.2.2.2.2.2.1.2.1 (by rw [show bm_AL B (x + 8) = 6 from hR.1.2.2.2.2.2.1.2.2]; exact vp_in_nI (by omega) (by decide)) (by rw [nI_clamp (by omega)]; exact a1) ?_
    refine g_if2 (t := 46) (pc' := 12) cd_De_findSession rfl rfl rfl (fun c9 => ?_) (fun c9 => ?_)
    · have c9 : (0 : Int32) ≤ 0 := c9
      refine g_pure (pc' := 47) (st' := [.null]) cd_De_findSession rfl rfl (fun _ _ => rfl) ?_
      exact g_retr (x := none) cd_De_findSession rfl ⟨none, rfl, (kk0 (fun k S h => by rw [hl] at h; simp at h))⟩
    · exact absurd (show ¬ (0 : Int32) ≤ 0 from c9) (by decide)
  · rw [hl] at a1 b2
    have hG0 : G0 = X0 := by simp at b2; exact b2
    subst hG0
    show bm_G sc d 108 0 [(0, .ref x), (1, .int (nI p)), (2, .int b)] [] B _
    generalize elv : ([(0, .ref x), (1, .int (nI p)), (2, .int b)] : tm_L) = lv
    have l0 : lv.lookup 0 = some (.ref x) := by rw [← elv]; rfl
    have l1 : lv.lookup 1 = some (.int (nI p)) := by rw [← elv]; rfl
    have l2 : lv.lookup 2 = some (.int b) := by rw [← elv]; rfl
    clear elv
    refine g_k1 (v := 0) (pc' := 1) cd_De_findSession rfl (by decide) rfl ?_
    refine g_ist (pc' := 2) cd_De_findSession rfl (Or.inr ⟨_, rfl, rfl, rfl⟩) (by decide) rfl (fun lv el => ?_)
    have l0 := tm_lk el l0 rfl (by decide)
    have l1 := tm_lk el l1 rfl (by decide)
    have l2 := tm_lk el l2 rfl (by decide)
    have l3 : lv.lookup 3 = some (.int 0) := tm_lks el
    clear el
    refine g_ild (pc' := 3) cd_De_findSession rfl (Or.inr ⟨_, rfl, rfl, rfl⟩) l3 rfl ?_
    refine g_ald (pc' := 4) cd_De_findSession rfl (Or.inr ⟨_, rfl, rfl, rfl⟩) l0 rfl rfl ?_
    refine g_fR (c := 0) (k := 3) (x := (x + 8)) (pc' := 7) cd_De_findSession rfl rfl rfl rfl rfl (by decide) hR.1.1.1 hR.1.1.2 hR.1.2.1.2.2.2.1 ?_
    refine g_ild (pc' := 8) cd_De_findSession rfl (Or.inr ⟨_, rfl, rfl, rfl⟩) l1 rfl ?_
    refine g_aI (x := 1) (pc' := 9) cd_De_findSession rfl rfl hR.1.2.2.2.2.2.1.1 hR.1.2.2.2.2.2.1.2.1 (by rw [show bm_AL B (x + 8) = 6 from hR.1.2.2.2.2.2.1.2.2]; exact vp_in_nI (by omega) (by decide)) (by rw [nI_clamp (by omega)]; exact a1) ?_
    refine g_if2 (t := 46) (pc' := 12) cd_De_findSession rfl rfl rfl (fun c9 => ?_) (fun c9 => ?_)
    · exact absurd (show (1 : Int32) ≤ 0 from c9) (by decide)
    · have c9 : ¬ (1 : Int32) ≤ 0 := c9
      refine g_ald (pc' := 13) cd_De_findSession rfl (Or.inr ⟨_, rfl, rfl, rfl⟩) l0 rfl rfl ?_
      refine g_fR (c := 0) (k := 4) (x := (x + 9)) (pc' := 16) cd_De_findSession rfl rfl rfl rfl rfl (by decide) hR.1.1.1 hR.1.1.2 hR.1.2.1.2.2.2.2.1 ?_
      refine g_ild (pc' := 17) cd_De_findSession rfl (Or.inr ⟨_, rfl, rfl, rfl⟩) l1 rfl ?_
      refine g_k1 (v := 2) (pc' := 18) cd_De_findSession rfl (by decide) rfl ?_
      refine g_pure (pc' := 19) (st' := [.int ((nI p) * 2), .ref ((x + 9))]) cd_De_findSession rfl rfl (fun _ _ => rfl) ?_
      rw [show ((nI p) * 2 : Int32) = nI (p * 2) from pk_mul p 2]
      refine g_ild (pc' := 20) cd_De_findSession rfl (Or.inr ⟨_, rfl, rfl, rfl⟩) l3 rfl ?_
      refine g_pure (pc' := 21) (st' := [.int ((nI (p * 2)) + 0), .ref ((x + 9))]) cd_De_findSession rfl rfl (fun _ _ => rfl) ?_
      rw [show ((nI (p * 2)) + 0 : Int32) = nI ((p * 2) + 0) from nI_add (p * 2) 0]
      refine g_aR (t := 5) (x := (sA x w.2.1 p 0)) (pc' := 22) cd_De_findSession rfl rfl hR.1.2.2.2.2.2.2.1.1 hR.1.2.2.2.2.2.2.1.2.1 (by decide) rfl rfl (by rw [show bm_AL B (x + 9) = 12 from hR.1.2.2.2.2.2.2.1.2.2]; exact vp_in_nI (by omega) (by decide)) (by rw [nI_clamp (by omega), show p * 2 + 0 = 2 * p + 0 by omega]; exact a3) ?_
      refine g_fI (c := 7) (k := 1) (x := (bm_FI B 7 1 (sA x w.2.1 p 0))) (pc' := 25) cd_De_findSession rfl rfl rfl rfl rfl (by decide) (RSe_S b0).1.1 (RSe_S b0).1.2 rfl ?_
      refine g_ild (pc' := 26) cd_De_findSession rfl (Or.inr ⟨_, rfl, rfl, rfl⟩) l2 rfl ?_
      refine g_if2 (t := 40) (pc' := 29) cd_De_findSession rfl rfl rfl (fun c26 => ?_) (fun c26 => ?_)
      · have c26 : ¬ (bm_FI B 7 1 (sA x w.2.1 p 0)) = b := c26
        have n0 := c26
        refine g_inc (y := 1) (pc' := 43) cd_De_findSession rfl l3 (by decide) (by decide) rfl (fun lv el => ?_)
        have l0 := tm_lk el l0 rfl (by decide)
        have l1 := tm_lk el l1 rfl (by decide)
        have l2 := tm_lk el l2 rfl (by decide)
        have l3 : lv.lookup 3 = some (.int 1) := tm_lks el
        clear el
        refine g_pure (pc' := 2) (st' := []) cd_De_findSession rfl rfl (fun _ _ => rfl) ?_
        refine g_ild (pc' := 3) cd_De_findSession rfl (Or.inr ⟨_, rfl, rfl, rfl⟩) l3 rfl ?_
        refine g_ald (pc' := 4) cd_De_findSession rfl (Or.inr ⟨_, rfl, rfl, rfl⟩) l0 rfl rfl ?_
        refine g_fR (c := 0) (k := 3) (x := (x + 8)) (pc' := 7) cd_De_findSession rfl rfl rfl rfl rfl (by decide) hR.1.1.1 hR.1.1.2 hR.1.2.1.2.2.2.1 ?_
        refine g_ild (pc' := 8) cd_De_findSession rfl (Or.inr ⟨_, rfl, rfl, rfl⟩) l1 rfl ?_
        refine g_aI (x := 1) (pc' := 9) cd_De_findSession rfl rfl hR.1.2.2.2.2.2.1.1 hR.1.2.2.2.2.2.1.2.1 (by rw [show bm_AL B (x + 8) = 6 from hR.1.2.2.2.2.2.1.2.2]; exact vp_in_nI (by omega) (by decide)) (by rw [nI_clamp (by omega)]; exact a1) ?_
        refine g_if2 (t := 46) (pc' := 12) cd_De_findSession rfl rfl rfl (fun c9 => ?_) (fun c9 => ?_)
        · have c9 : (1 : Int32) ≤ 1 := c9
          refine g_pure (pc' := 47) (st' := [.null]) cd_De_findSession rfl rfl (fun _ _ => rfl) ?_
          exact g_retr (x := none) cd_De_findSession rfl ⟨none, rfl, (kk0 (by rw [hl]; exact all1 (P := fun S : SS => S.2.1 ≠ A) (fun q => n0 ((TI_eq hT t0 hb).mpr q))))⟩
        · exact absurd (show ¬ (1 : Int32) ≤ 1 from c9) (by decide)
      · have c26 : (bm_FI B 7 1 (sA x w.2.1 p 0)) = b := Classical.not_not.mp c26
        have n0 := c26
        refine g_ald (pc' := 30) cd_De_findSession rfl (Or.inr ⟨_, rfl, rfl, rfl⟩) l0 rfl rfl ?_
        refine g_fR (c := 0) (k := 4) (x := (x + 9)) (pc' := 33) cd_De_findSession rfl rfl rfl rfl rfl (by decide) hR.1.1.1 hR.1.1.2 hR.1.2.1.2.2.2.2.1 ?_
        refine g_ild (pc' := 34) cd_De_findSession rfl (Or.inr ⟨_, rfl, rfl, rfl⟩) l1 rfl ?_
        refine g_k1 (v := 2) (pc' := 35) cd_De_findSession rfl (by decide) rfl ?_
        refine g_pure (pc' := 36) (st' := [.int ((nI p) * 2), .ref ((x + 9))]) cd_De_findSession rfl rfl (fun _ _ => rfl) ?_
        rw [show ((nI p) * 2 : Int32) = nI (p * 2) from pk_mul p 2]
        refine g_ild (pc' := 37) cd_De_findSession rfl (Or.inr ⟨_, rfl, rfl, rfl⟩) l3 rfl ?_
        refine g_pure (pc' := 38) (st' := [.int ((nI (p * 2)) + 0), .ref ((x + 9))]) cd_De_findSession rfl rfl (fun _ _ => rfl) ?_
        rw [show ((nI (p * 2)) + 0 : Int32) = nI ((p * 2) + 0) from nI_add (p * 2) 0]
        refine g_aR (t := 5) (x := (sA x w.2.1 p 0)) (pc' := 39) cd_De_findSession rfl rfl hR.1.2.2.2.2.2.2.1.1 hR.1.2.2.2.2.2.2.1.2.1 (by decide) rfl rfl (by rw [show bm_AL B (x + 9) = 12 from hR.1.2.2.2.2.2.2.1.2.2]; exact vp_in_nI (by omega) (by decide)) (by rw [nI_clamp (by omega), show p * 2 + 0 = 2 * p + 0 by omega]; exact a3) ?_
        exact g_retr (x := (some (sA x w.2.1 p 0))) cd_De_findSession rfl ⟨(some (sA x w.2.1 p 0)), rfl, (kk1 0 G0 (by rw [hl]; rfl) ((TI_eq hT t0 hb).mp n0) (fun j S h => absurd h (Nat.not_lt_zero _)))⟩
  · rw [hl] at a1 b2
    have hG0 : G0 = X0 := by simp at b2; exact b2.1
    subst hG0
    have hG1 : G1 = X1 := by simp at b2; exact b2
    subst hG1
    show bm_G sc d 108 0 [(0, .ref x), (1, .int (nI p)), (2, .int b)] [] B _
    generalize elv : ([(0, .ref x), (1, .int (nI p)), (2, .int b)] : tm_L) = lv
    have l0 : lv.lookup 0 = some (.ref x) := by rw [← elv]; rfl
    have l1 : lv.lookup 1 = some (.int (nI p)) := by rw [← elv]; rfl
    have l2 : lv.lookup 2 = some (.int b) := by rw [← elv]; rfl
    clear elv
    refine g_k1 (v := 0) (pc' := 1) cd_De_findSession rfl (by decide) rfl ?_
    refine g_ist (pc' := 2) cd_De_findSession rfl (Or.inr ⟨_, rfl, rfl, rfl⟩) (by decide) rfl (fun lv el => ?_)
    have l0 := tm_lk el l0 rfl (by decide)
    have l1 := tm_lk el l1 rfl (by decide)
    have l2 := tm_lk el l2 rfl (by decide)
    have l3 : lv.lookup 3 = some (.int 0) := tm_lks el
    clear el
    refine g_ild (pc' := 3) cd_De_findSession rfl (Or.inr ⟨_, rfl, rfl, rfl⟩) l3 rfl ?_
    refine g_ald (pc' := 4) cd_De_findSession rfl (Or.inr ⟨_, rfl, rfl, rfl⟩) l0 rfl rfl ?_
    refine g_fR (c := 0) (k := 3) (x := (x + 8)) (pc' := 7) cd_De_findSession rfl rfl rfl rfl rfl (by decide) hR.1.1.1 hR.1.1.2 hR.1.2.1.2.2.2.1 ?_
    refine g_ild (pc' := 8) cd_De_findSession rfl (Or.inr ⟨_, rfl, rfl, rfl⟩) l1 rfl ?_
    refine g_aI (x := 2) (pc' := 9) cd_De_findSession rfl rfl hR.1.2.2.2.2.2.1.1 hR.1.2.2.2.2.2.1.2.1 (by rw [show bm_AL B (x + 8) = 6 from hR.1.2.2.2.2.2.1.2.2]; exact vp_in_nI (by omega) (by decide)) (by rw [nI_clamp (by omega)]; exact a1) ?_
    refine g_if2 (t := 46) (pc' := 12) cd_De_findSession rfl rfl rfl (fun c9 => ?_) (fun c9 => ?_)
    · exact absurd (show (2 : Int32) ≤ 0 from c9) (by decide)
    · have c9 : ¬ (2 : Int32) ≤ 0 := c9
      refine g_ald (pc' := 13) cd_De_findSession rfl (Or.inr ⟨_, rfl, rfl, rfl⟩) l0 rfl rfl ?_
      refine g_fR (c := 0) (k := 4) (x := (x + 9)) (pc' := 16) cd_De_findSession rfl rfl rfl rfl rfl (by decide) hR.1.1.1 hR.1.1.2 hR.1.2.1.2.2.2.2.1 ?_
      refine g_ild (pc' := 17) cd_De_findSession rfl (Or.inr ⟨_, rfl, rfl, rfl⟩) l1 rfl ?_
      refine g_k1 (v := 2) (pc' := 18) cd_De_findSession rfl (by decide) rfl ?_
      refine g_pure (pc' := 19) (st' := [.int ((nI p) * 2), .ref ((x + 9))]) cd_De_findSession rfl rfl (fun _ _ => rfl) ?_
      rw [show ((nI p) * 2 : Int32) = nI (p * 2) from pk_mul p 2]
      refine g_ild (pc' := 20) cd_De_findSession rfl (Or.inr ⟨_, rfl, rfl, rfl⟩) l3 rfl ?_
      refine g_pure (pc' := 21) (st' := [.int ((nI (p * 2)) + 0), .ref ((x + 9))]) cd_De_findSession rfl rfl (fun _ _ => rfl) ?_
      rw [show ((nI (p * 2)) + 0 : Int32) = nI ((p * 2) + 0) from nI_add (p * 2) 0]
      refine g_aR (t := 5) (x := (sA x w.2.1 p 0)) (pc' := 22) cd_De_findSession rfl rfl hR.1.2.2.2.2.2.2.1.1 hR.1.2.2.2.2.2.2.1.2.1 (by decide) rfl rfl (by rw [show bm_AL B (x + 9) = 12 from hR.1.2.2.2.2.2.2.1.2.2]; exact vp_in_nI (by omega) (by decide)) (by rw [nI_clamp (by omega), show p * 2 + 0 = 2 * p + 0 by omega]; exact a3) ?_
      refine g_fI (c := 7) (k := 1) (x := (bm_FI B 7 1 (sA x w.2.1 p 0))) (pc' := 25) cd_De_findSession rfl rfl rfl rfl rfl (by decide) (RSe_S b0).1.1 (RSe_S b0).1.2 rfl ?_
      refine g_ild (pc' := 26) cd_De_findSession rfl (Or.inr ⟨_, rfl, rfl, rfl⟩) l2 rfl ?_
      refine g_if2 (t := 40) (pc' := 29) cd_De_findSession rfl rfl rfl (fun c26 => ?_) (fun c26 => ?_)
      · have c26 : ¬ (bm_FI B 7 1 (sA x w.2.1 p 0)) = b := c26
        have n0 := c26
        refine g_inc (y := 1) (pc' := 43) cd_De_findSession rfl l3 (by decide) (by decide) rfl (fun lv el => ?_)
        have l0 := tm_lk el l0 rfl (by decide)
        have l1 := tm_lk el l1 rfl (by decide)
        have l2 := tm_lk el l2 rfl (by decide)
        have l3 : lv.lookup 3 = some (.int 1) := tm_lks el
        clear el
        refine g_pure (pc' := 2) (st' := []) cd_De_findSession rfl rfl (fun _ _ => rfl) ?_
        refine g_ild (pc' := 3) cd_De_findSession rfl (Or.inr ⟨_, rfl, rfl, rfl⟩) l3 rfl ?_
        refine g_ald (pc' := 4) cd_De_findSession rfl (Or.inr ⟨_, rfl, rfl, rfl⟩) l0 rfl rfl ?_
        refine g_fR (c := 0) (k := 3) (x := (x + 8)) (pc' := 7) cd_De_findSession rfl rfl rfl rfl rfl (by decide) hR.1.1.1 hR.1.1.2 hR.1.2.1.2.2.2.1 ?_
        refine g_ild (pc' := 8) cd_De_findSession rfl (Or.inr ⟨_, rfl, rfl, rfl⟩) l1 rfl ?_
        refine g_aI (x := 2) (pc' := 9) cd_De_findSession rfl rfl hR.1.2.2.2.2.2.1.1 hR.1.2.2.2.2.2.1.2.1 (by rw [show bm_AL B (x + 8) = 6 from hR.1.2.2.2.2.2.1.2.2]; exact vp_in_nI (by omega) (by decide)) (by rw [nI_clamp (by omega)]; exact a1) ?_
        refine g_if2 (t := 46) (pc' := 12) cd_De_findSession rfl rfl rfl (fun c9 => ?_) (fun c9 => ?_)
        · exact absurd (show (2 : Int32) ≤ 1 from c9) (by decide)
        · have c9 : ¬ (2 : Int32) ≤ 1 := c9
          refine g_ald (pc' := 13) cd_De_findSession rfl (Or.inr ⟨_, rfl, rfl, rfl⟩) l0 rfl rfl ?_
          refine g_fR (c := 0) (k := 4) (x := (x + 9)) (pc' := 16) cd_De_findSession rfl rfl rfl rfl rfl (by decide) hR.1.1.1 hR.1.1.2 hR.1.2.1.2.2.2.2.1 ?_
          refine g_ild (pc' := 17) cd_De_findSession rfl (Or.inr ⟨_, rfl, rfl, rfl⟩) l1 rfl ?_
          refine g_k1 (v := 2) (pc' := 18) cd_De_findSession rfl (by decide) rfl ?_
          refine g_pure (pc' := 19) (st' := [.int ((nI p) * 2), .ref ((x + 9))]) cd_De_findSession rfl rfl (fun _ _ => rfl) ?_
          rw [show ((nI p) * 2 : Int32) = nI (p * 2) from pk_mul p 2]
          refine g_ild (pc' := 20) cd_De_findSession rfl (Or.inr ⟨_, rfl, rfl, rfl⟩) l3 rfl ?_
          refine g_pure (pc' := 21) (st' := [.int ((nI (p * 2)) + 1), .ref ((x + 9))]) cd_De_findSession rfl rfl (fun _ _ => rfl) ?_
          rw [show ((nI (p * 2)) + 1 : Int32) = nI ((p * 2) + 1) from nI_add (p * 2) 1]
          refine g_aR (t := 5) (x := (sA x w.2.1 p 1)) (pc' := 22) cd_De_findSession rfl rfl hR.1.2.2.2.2.2.2.1.1 hR.1.2.2.2.2.2.2.1.2.1 (by decide) rfl rfl (by rw [show bm_AL B (x + 9) = 12 from hR.1.2.2.2.2.2.2.1.2.2]; exact vp_in_nI (by omega) (by decide)) (by rw [nI_clamp (by omega), show p * 2 + 1 = 2 * p + 1 by omega]; exact a4) ?_
          refine g_fI (c := 7) (k := 1) (x := (bm_FI B 7 1 (sA x w.2.1 p 1))) (pc' := 25) cd_De_findSession rfl rfl rfl rfl rfl (by decide) (RSe_S b1).1.1 (RSe_S b1).1.2 rfl ?_
          refine g_ild (pc' := 26) cd_De_findSession rfl (Or.inr ⟨_, rfl, rfl, rfl⟩) l2 rfl ?_
          refine g_if2 (t := 40) (pc' := 29) cd_De_findSession rfl rfl rfl (fun c26 => ?_) (fun c26 => ?_)
          · have c26 : ¬ (bm_FI B 7 1 (sA x w.2.1 p 1)) = b := c26
            have n1 := c26
            refine g_inc (y := 2) (pc' := 43) cd_De_findSession rfl l3 (by decide) (by decide) rfl (fun lv el => ?_)
            have l0 := tm_lk el l0 rfl (by decide)
            have l1 := tm_lk el l1 rfl (by decide)
            have l2 := tm_lk el l2 rfl (by decide)
            have l3 : lv.lookup 3 = some (.int 2) := tm_lks el
            clear el
            refine g_pure (pc' := 2) (st' := []) cd_De_findSession rfl rfl (fun _ _ => rfl) ?_
            refine g_ild (pc' := 3) cd_De_findSession rfl (Or.inr ⟨_, rfl, rfl, rfl⟩) l3 rfl ?_
            refine g_ald (pc' := 4) cd_De_findSession rfl (Or.inr ⟨_, rfl, rfl, rfl⟩) l0 rfl rfl ?_
            refine g_fR (c := 0) (k := 3) (x := (x + 8)) (pc' := 7) cd_De_findSession rfl rfl rfl rfl rfl (by decide) hR.1.1.1 hR.1.1.2 hR.1.2.1.2.2.2.1 ?_
            refine g_ild (pc' := 8) cd_De_findSession rfl (Or.inr ⟨_, rfl, rfl, rfl⟩) l1 rfl ?_
            refine g_aI (x := 2) (pc' := 9) cd_De_findSession rfl rfl hR.1.2.2.2.2.2.1.1 hR.1.2.2.2.2.2.1.2.1 (by rw [show bm_AL B (x + 8) = 6 from hR.1.2.2.2.2.2.1.2.2]; exact vp_in_nI (by omega) (by decide)) (by rw [nI_clamp (by omega)]; exact a1) ?_
            refine g_if2 (t := 46) (pc' := 12) cd_De_findSession rfl rfl rfl (fun c9 => ?_) (fun c9 => ?_)
            · have c9 : (2 : Int32) ≤ 2 := c9
              refine g_pure (pc' := 47) (st' := [.null]) cd_De_findSession rfl rfl (fun _ _ => rfl) ?_
              exact g_retr (x := none) cd_De_findSession rfl ⟨none, rfl, (kk0 (by rw [hl]; exact all2 (P := fun S : SS => S.2.1 ≠ A) (fun q => n0 ((TI_eq hT t0 hb).mpr q)) (fun q => n1 ((TI_eq hT t1 hb).mpr q))))⟩
            · exact absurd (show ¬ (2 : Int32) ≤ 2 from c9) (by decide)
          · have c26 : (bm_FI B 7 1 (sA x w.2.1 p 1)) = b := Classical.not_not.mp c26
            have n1 := c26
            refine g_ald (pc' := 30) cd_De_findSession rfl (Or.inr ⟨_, rfl, rfl, rfl⟩) l0 rfl rfl ?_
            refine g_fR (c := 0) (k := 4) (x := (x + 9)) (pc' := 33) cd_De_findSession rfl rfl rfl rfl rfl (by decide) hR.1.1.1 hR.1.1.2 hR.1.2.1.2.2.2.2.1 ?_
            refine g_ild (pc' := 34) cd_De_findSession rfl (Or.inr ⟨_, rfl, rfl, rfl⟩) l1 rfl ?_
            refine g_k1 (v := 2) (pc' := 35) cd_De_findSession rfl (by decide) rfl ?_
            refine g_pure (pc' := 36) (st' := [.int ((nI p) * 2), .ref ((x + 9))]) cd_De_findSession rfl rfl (fun _ _ => rfl) ?_
            rw [show ((nI p) * 2 : Int32) = nI (p * 2) from pk_mul p 2]
            refine g_ild (pc' := 37) cd_De_findSession rfl (Or.inr ⟨_, rfl, rfl, rfl⟩) l3 rfl ?_
            refine g_pure (pc' := 38) (st' := [.int ((nI (p * 2)) + 1), .ref ((x + 9))]) cd_De_findSession rfl rfl (fun _ _ => rfl) ?_
            rw [show ((nI (p * 2)) + 1 : Int32) = nI ((p * 2) + 1) from nI_add (p * 2) 1]
            refine g_aR (t := 5) (x := (sA x w.2.1 p 1)) (pc' := 39) cd_De_findSession rfl rfl hR.1.2.2.2.2.2.2.1.1 hR.1.2.2.2.2.2.2.1.2.1 (by decide) rfl rfl (by rw [show bm_AL B (x + 9) = 12 from hR.1.2.2.2.2.2.2.1.2.2]; exact vp_in_nI (by omega) (by decide)) (by rw [nI_clamp (by omega), show p * 2 + 1 = 2 * p + 1 by omega]; exact a4) ?_
            exact g_retr (x := (some (sA x w.2.1 p 1))) cd_De_findSession rfl ⟨(some (sA x w.2.1 p 1)), rfl, (kk1 1 G1 (by rw [hl]; rfl) ((TI_eq hT t1 hb).mp n1) (fun j S h hj => by have : j = 0 := (by omega); subst this; rw [hl] at hj; simp at hj; subst hj; exact (fun q => n0 ((TI_eq hT t0 hb).mpr q))))⟩
      · have c26 : (bm_FI B 7 1 (sA x w.2.1 p 0)) = b := Classical.not_not.mp c26
        have n0 := c26
        refine g_ald (pc' := 30) cd_De_findSession rfl (Or.inr ⟨_, rfl, rfl, rfl⟩) l0 rfl rfl ?_
        refine g_fR (c := 0) (k := 4) (x := (x + 9)) (pc' := 33) cd_De_findSession rfl rfl rfl rfl rfl (by decide) hR.1.1.1 hR.1.1.2 hR.1.2.1.2.2.2.2.1 ?_
        refine g_ild (pc' := 34) cd_De_findSession rfl (Or.inr ⟨_, rfl, rfl, rfl⟩) l1 rfl ?_
        refine g_k1 (v := 2) (pc' := 35) cd_De_findSession rfl (by decide) rfl ?_
        refine g_pure (pc' := 36) (st' := [.int ((nI p) * 2), .ref ((x + 9))]) cd_De_findSession rfl rfl (fun _ _ => rfl) ?_
        rw [show ((nI p) * 2 : Int32) = nI (p * 2) from pk_mul p 2]
        refine g_ild (pc' := 37) cd_De_findSession rfl (Or.inr ⟨_, rfl, rfl, rfl⟩) l3 rfl ?_
        refine g_pure (pc' := 38) (st' := [.int ((nI (p * 2)) + 0), .ref ((x + 9))]) cd_De_findSession rfl rfl (fun _ _ => rfl) ?_
        rw [show ((nI (p * 2)) + 0 : Int32) = nI ((p * 2) + 0) from nI_add (p * 2) 0]
        refine g_aR (t := 5) (x := (sA x w.2.1 p 0)) (pc' := 39) cd_De_findSession rfl rfl hR.1.2.2.2.2.2.2.1.1 hR.1.2.2.2.2.2.2.1.2.1 (by decide) rfl rfl (by rw [show bm_AL B (x + 9) = 12 from hR.1.2.2.2.2.2.2.1.2.2]; exact vp_in_nI (by omega) (by decide)) (by rw [nI_clamp (by omega), show p * 2 + 0 = 2 * p + 0 by omega]; exact a3) ?_
        exact g_retr (x := (some (sA x w.2.1 p 0))) cd_De_findSession rfl ⟨(some (sA x w.2.1 p 0)), rfl, (kk1 0 G0 (by rw [hl]; rfl) ((TI_eq hT t0 hb).mp n0) (fun j S h => absurd h (Nat.not_lt_zero _)))⟩
theorem t_putFirst1 {sc : tm_X} {d p : Nat} {B : bm_H} {x a0 a1 : Nat} {Q : bm_H → Prop} (hS : DeS B x) (hp : p < 6) (h0 : bm_AR B (x + 9) (2 * p) = some a0) (hv0 : a0 < bm_n B ∧ bm_K B a0 = 7) (hv1 : a1 < bm_n B ∧ bm_K B a1 = 7) (hne : a0 ≠ a1) (kk : ∀ B', fz (fun y => y = x + 9) B B' → bm_AR B' (x + 9) (2 * p) = some a1 → bm_AR B' (x + 9) (2 * p + 1) = some a0 → (∀ j, j ≠ 2 * p → j ≠ 2 * p + 1 → bm_AR B' (x + 9) j = bm_AR B (x + 9) j) → Q B') : bm_Gv sc d 80 [.ref x, .int (nI p), .ref a1] B Q := by
  show bm_G sc d 80 0 [(0, .ref x), (1, .int (nI p)), (2, .ref a1)] [] B _
  generalize elv : ([(0, .ref x), (1, .int (nI p)), (2, .ref a1)] : tm_L) = lv
  have l0 : lv.lookup 0 = some (.ref x) := by rw [← elv]; rfl
  have l1 : lv.lookup 1 = some (.int (nI p)) := by rw [← elv]; rfl
  have l2 : lv.lookup 2 = some (.ref a1) := by rw [← elv]; rfl
  clear elv
  refine g_ild (pc' := 1) cd_De_putFirst rfl (Or.inr ⟨_, rfl, rfl, rfl⟩) l1 rfl ?_
  refine g_k1 (v := 2) (pc' := 2) cd_De_putFirst rfl (by decide) rfl ?_
  refine g_pure (pc' := 3) (st' := [.int ((nI p) * 2)]) cd_De_putFirst rfl rfl (fun _ _ => rfl) ?_
  rw [show ((nI p) * 2 : Int32) = nI (p * 2) from pk_mul p 2]
  refine g_ist (pc' := 4) cd_De_putFirst rfl (Or.inr ⟨_, rfl, rfl, rfl⟩) (by decide) rfl (fun lv el => ?_)
  have l0 := tm_lk el l0 rfl (by decide)
  have l1 := tm_lk el l1 rfl (by decide)
  have l2 := tm_lk el l2 rfl (by decide)
  have l3 : lv.lookup 3 = some (.int (nI (p * 2))) := tm_lks el
  clear el
  refine g_ald (pc' := 5) cd_De_putFirst rfl (Or.inr ⟨_, rfl, rfl, rfl⟩) l0 rfl rfl ?_
  refine g_fR (c := 0) (k := 4) (x := (x + 9)) (pc' := 8) cd_De_putFirst rfl rfl rfl rfl rfl (by decide) hS.1.1 hS.1.2 hS.2.1.2.2.2.2.1 ?_
  refine g_ild (pc' := 9) cd_De_putFirst rfl (Or.inr ⟨_, rfl, rfl, rfl⟩) l3 rfl ?_
  refine g_aR (t := 5) (x := a0) (pc' := 10) cd_De_putFirst rfl rfl hS.2.2.2.2.2.2.1.1 hS.2.2.2.2.2.2.1.2.1 (by decide) rfl rfl (by rw [show bm_AL B (x + 9) = 12 from hS.2.2.2.2.2.2.1.2.2]; exact vp_in_nI (by omega) (by decide)) (by rw [nI_clamp (by omega), show p * 2 = 2 * p by omega]; exact h0) ?_
  refine g_ald (pc' := 11) cd_De_putFirst rfl (Or.inr ⟨_, rfl, rfl, rfl⟩) l2 rfl rfl ?_
  refine g_acq (t := 35) (pc' := 14) cd_De_putFirst rfl rfl rfl (fun c11 => ?_) (fun c11 => ?_)
  · have c11 : a0 = a1 := c11
    exact absurd c11 hne
  · have c11 : ¬ a0 = a1 := c11
    refine g_ald (pc' := 15) cd_De_putFirst rfl (Or.inr ⟨_, rfl, rfl, rfl⟩) l0 rfl rfl ?_
    refine g_fR (c := 0) (k := 4) (x := (x + 9)) (pc' := 18) cd_De_putFirst rfl rfl rfl rfl rfl (by decide) hS.1.1 hS.1.2 hS.2.1.2.2.2.2.1 ?_
    refine g_ild (pc' := 19) cd_De_putFirst rfl (Or.inr ⟨_, rfl, rfl, rfl⟩) l3 rfl ?_
    refine g_k1 (v := 1) (pc' := 20) cd_De_putFirst rfl (by decide) rfl ?_
    refine g_pure (pc' := 21) (st' := [.int ((nI (p * 2)) + 1), .ref ((x + 9))]) cd_De_putFirst rfl rfl (fun _ _ => rfl) ?_
    rw [show ((nI (p * 2)) + 1 : Int32) = nI ((p * 2) + 1) from nI_add (p * 2) 1]
    refine g_ald (pc' := 22) cd_De_putFirst rfl (Or.inr ⟨_, rfl, rfl, rfl⟩) l0 rfl rfl ?_
    refine g_fR (c := 0) (k := 4) (x := (x + 9)) (pc' := 25) cd_De_putFirst rfl rfl rfl rfl rfl (by decide) hS.1.1 hS.1.2 hS.2.1.2.2.2.2.1 ?_
    refine g_ild (pc' := 26) cd_De_putFirst rfl (Or.inr ⟨_, rfl, rfl, rfl⟩) l3 rfl ?_
    refine g_aR (t := 5) (x := a0) (pc' := 27) cd_De_putFirst rfl rfl hS.2.2.2.2.2.2.1.1 hS.2.2.2.2.2.2.1.2.1 (by decide) rfl rfl (by rw [show bm_AL B (x + 9) = 12 from hS.2.2.2.2.2.2.1.2.2]; exact vp_in_nI (by omega) (by decide)) (by rw [nI_clamp (by omega), show p * 2 = 2 * p by omega]; exact h0) ?_
    refine g_aast (t := 5) (pc' := 28) cd_De_putFirst rfl rfl hS.2.2.2.2.2.2.1.1 hS.2.2.2.2.2.2.1.2.1 (by decide) rfl rfl hv0.1 hv0.2 (by rw [show bm_AL B (x + 9) = 12 from hS.2.2.2.2.2.2.1.2.2]; exact vp_in_nI (by omega) (by decide)) ?_
    rw [show (nI ((p * 2) + 1)).toNatClampNeg = 2 * p + 1 from (nI_clamp (by omega)).trans (by omega)]
    refine g_ald (pc' := 29) cd_De_putFirst rfl (Or.inr ⟨_, rfl, rfl, rfl⟩) l0 rfl rfl ?_
    refine g_fR (c := 0) (k := 4) (x := (x + 9)) (pc' := 32) cd_De_putFirst rfl rfl rfl rfl rfl (by decide) hS.1.1 hS.1.2 hS.2.1.2.2.2.2.1 ?_
    refine g_ild (pc' := 33) cd_De_putFirst rfl (Or.inr ⟨_, rfl, rfl, rfl⟩) l3 rfl ?_
    refine g_ald (pc' := 34) cd_De_putFirst rfl (Or.inr ⟨_, rfl, rfl, rfl⟩) l2 rfl rfl ?_
    refine g_aast (t := 5) (pc' := 35) cd_De_putFirst rfl rfl hS.2.2.2.2.2.2.1.1 hS.2.2.2.2.2.2.1.2.1 (by decide) rfl rfl hv1.1 hv1.2 (by rw [show bm_AL (bm_setR B (x + 9) (2 * p + 1) (some a0)) (x + 9) = 12 from hS.2.2.2.2.2.2.1.2.2]; exact vp_in_nI (by omega) (by decide)) ?_
    rw [show (nI (p * 2)).toNatClampNeg = 2 * p from (nI_clamp (by omega)).trans (by omega)]
    exact g_retv cd_De_putFirst rfl ⟨rfl, (kk _ (fz_trans ⟨fr_setR B (x + 9) (2 * p + 1) (some a0), rfl, rfl⟩ ⟨fr_setR _ (x + 9) (2 * p) (some a1), rfl, rfl⟩) (AR_set _ _ _ _) ((AR_setj _ _ _ (by omega)).trans (AR_set _ _ _ _)) (fun j e1 e2 => (AR_setj _ _ _ e1).trans (AR_setj _ _ _ e2)))⟩
theorem t_putFirst0 {sc : tm_X} {d p : Nat} {B : bm_H} {x a0 : Nat} {Q : bm_H → Prop} (hS : DeS B x) (hp : p < 6) (h0 : bm_AR B (x + 9) (2 * p) = some a0) (kk : Q B) : bm_Gv sc d 80 [.ref x, .int (nI p), .ref a0] B Q := by
  show bm_G sc d 80 0 [(0, .ref x), (1, .int (nI p)), (2, .ref a0)] [] B _
  generalize elv : ([(0, .ref x), (1, .int (nI p)), (2, .ref a0)] : tm_L) = lv
  have l0 : lv.lookup 0 = some (.ref x) := by rw [← elv]; rfl
  have l1 : lv.lookup 1 = some (.int (nI p)) := by rw [← elv]; rfl
  have l2 : lv.lookup 2 = some (.ref a0) := by rw [← elv]; rfl
  clear elv
  refine g_ild (pc' := 1) cd_De_putFirst rfl (Or.inr ⟨_, rfl, rfl, rfl⟩) l1 rfl ?_
  refine g_k1 (v := 2) (pc' := 2) cd_De_putFirst rfl (by decide) rfl ?_
  refine g_pure (pc' := 3) (st' := [.int ((nI p) * 2)]) cd_De_putFirst rfl rfl (fun _ _ => rfl) ?_
  rw [show ((nI p) * 2 : Int32) = nI (p * 2) from pk_mul p 2]
  refine g_ist (pc' := 4) cd_De_putFirst rfl (Or.inr ⟨_, rfl, rfl, rfl⟩) (by decide) rfl (fun lv el => ?_)
  have l0 := tm_lk el l0 rfl (by decide)
  have l1 := tm_lk el l1 rfl (by decide)
  have l2 := tm_lk el l2 rfl (by decide)
  have l3 : lv.lookup 3 = some (.int (nI (p * 2))) := tm_lks el
  clear el
  refine g_ald (pc' := 5) cd_De_putFirst rfl (Or.inr ⟨_, rfl, rfl, rfl⟩) l0 rfl rfl ?_
  refine g_fR (c := 0) (k := 4) (x := (x + 9)) (pc' := 8) cd_De_putFirst rfl rfl rfl rfl rfl (by decide) hS.1.1 hS.1.2 hS.2.1.2.2.2.2.1 ?_
  refine g_ild (pc' := 9) cd_De_putFirst rfl (Or.inr ⟨_, rfl, rfl, rfl⟩) l3 rfl ?_
  refine g_aR (t := 5) (x := a0) (pc' := 10) cd_De_putFirst rfl rfl hS.2.2.2.2.2.2.1.1 hS.2.2.2.2.2.2.1.2.1 (by decide) rfl rfl (by rw [show bm_AL B (x + 9) = 12 from hS.2.2.2.2.2.2.1.2.2]; exact vp_in_nI (by omega) (by decide)) (by rw [nI_clamp (by omega), show p * 2 = 2 * p by omega]; exact h0) ?_
  refine g_ald (pc' := 11) cd_De_putFirst rfl (Or.inr ⟨_, rfl, rfl, rfl⟩) l2 rfl rfl ?_
  refine g_acq (t := 35) (pc' := 14) cd_De_putFirst rfl rfl rfl (fun c11 => ?_) (fun c11 => ?_)
  · have c11 : a0 = a0 := c11
    exact g_retv cd_De_putFirst rfl ⟨rfl, kk⟩
  · have c11 : ¬ a0 = a0 := c11
    exact absurd rfl c11
theorem sA_flip (x : Nat) (w : Nat → Bool) (p : Nat) {k : Nat} (hk : k < 2) : sA x (fset w p (!w p)) p k = sA x w p (1 - k) := by
  unfold sA
  rw [fset_same, sJ_not (w p) hk]
theorem sA_flip_ne (x : Nat) (w : Nat → Bool) {p q : Nat} (h : q ≠ p) (k : Nat) : sA x (fset w p (!w p)) q k = sA x w q k := by
  unfold sA
  rw [fset_ne h]
/-- the two sessions with one device changed places -/
theorem RSs_flip {B B' : bm_H} {T : List Tm} {x p n : Nat} {w : Nat → Bool} {se : Nat → List SS} {S0 S1 : SS} (hS : DeS B x) (hp : p < 6) (hs : ∀ q, q < 6 → RSs B T x w q (se q)) (h : fr (fun y => y = x + 8 ∨ y = x + 9) B B') (r0 : bm_AR B' (x + 9) (2 * p) = some (sA x w p 1)) (r1 : bm_AR B' (x + 9) (2 * p + 1) = some (sA x w p 0)) (rj : ∀ j, j ≠ 2 * p → j ≠ 2 * p + 1 → bm_AR B' (x + 9) j = bm_AR B (x + 9) j) (c0 : bm_AI B' (x + 8) p = nI n) (cj : ∀ j, j ≠ p → bm_AI B' (x + 8) j = bm_AI B (x + 8) j) (hn : n ≤ 2) (b0 : RSe B T (sA x w p 0) S0) (b1 : RSe B T (sA x w p 1) S1) : ∀ q, q < 6 → RSs B' T x (fset w p (!w p)) q (fset se p ([S1, S0].take n) q) := by
  intro q hq
  have i0 := sA_in x w hq (k := 0) (by decide)
  have i1 := sA_in x w hq (k := 1) (by decide)
  by_cases c : q = p
  · subst c
    have hl : ([S1, S0].take n).length = n := by simp; omega
    rw [fset_same]
    refine ⟨⟨by rw [c0, hl], by rw [hl]; exact hn⟩, ⟨by rw [sA_flip x w q (by decide)]; exact r0, by rw [sA_flip x w q (by decide)]; exact r1⟩, S1, S0, ?_, ?_, by rw [hl]⟩
    · rw [sA_flip x w q (by decide)]; show RSe B' T (sA x w q 1) S1; exact RSe_fr b1 h (by omega) (by omega) (by omega) (List.prefix_refl T)
    · rw [sA_flip x w q (by decide)]; show RSe B' T (sA x w q 0) S0; exact RSe_fr b0 h (by omega) (by omega) (by omega) (List.prefix_refl T)
  · rw [fset_ne c]
    obtain ⟨⟨a1, a2⟩, ⟨a3, a4⟩, X0, X1, e0, e1, e2⟩ := hs q hq
    exact ⟨⟨(cj q c).trans a1, a2⟩, ⟨by rw [sA_flip_ne x w c, rj _ (by omega) (by omega)]; exact a3, by rw [sA_flip_ne x w c, rj _ (by omega) (by omega)]; exact a4⟩, X0, X1, by rw [sA_flip_ne x w c]; exact RSe_fr e0 h (by omega) (by omega) (by omega) (List.prefix_refl T), by rw [sA_flip_ne x w c]; exact RSe_fr e1 h (by omega) (by omega) (by omega) (List.prefix_refl T), e2⟩
theorem t_addSession {sc : tm_X} {d p : Nat} {B : bm_H} {T : List Tm} {x : Nat} {w : SW} {id : Tm} {K0 K1 : PK} {on : List (Tm × Int32)} {ln : Int32} {se : Nat → List SS} {me : Nat → MM} {Q : Option Nat → bm_H → Prop} (hR : RDe B T x w (id, K0, K1, on, ln, se, me)) (hp : p < 6) (kk : ∀ B' S w', RDe B' T x w' (id, K0, K1, on, ln, fset se p (S :: (se p).take 1), me) → w'.1 = w.1 → w'.2.2 = w.2.2 → fz (fun y => y = x + 8 ∨ y = x + 9) B B' → Q (some (sA x w'.2.1 p 0)) B') : bm_Gr sc (d + 1) 79 [.ref x, .int (nI p)] B Q := by
  obtain ⟨⟨a1, a2⟩, ⟨a3, a4⟩, X0, X1, b0, b1, b2⟩ := hR.2.2.2.2.1 p hp
  have i0 := sA_in x w.2.1 hp (k := 0) (by decide)
  have i1 := sA_in x w.2.1 hp (k := 1) (by decide)
  have i01 := sA_01 x w.2.1 p
  show bm_G sc (d + 1) 79 0 [(0, .ref x), (1, .int (nI p))] [] B _
  generalize elv : ([(0, .ref x), (1, .int (nI p))] : tm_L) = lv
  have l0 : lv.lookup 0 = some (.ref x) := by rw [← elv]; rfl
  have l1 : lv.lookup 1 = some (.int (nI p)) := by rw [← elv]; rfl
  clear elv
  refine g_ald (pc' := 1) cd_De_addSession rfl (Or.inr ⟨_, rfl, rfl, rfl⟩) l0 rfl rfl ?_
  refine g_fR (c := 0) (k := 4) (x := (x + 9)) (pc' := 4) cd_De_addSession rfl rfl rfl rfl rfl (by decide) hR.1.1.1 hR.1.1.2 hR.1.2.1.2.2.2.2.1 ?_
  refine g_ild (pc' := 5) cd_De_addSession rfl (Or.inr ⟨_, rfl, rfl, rfl⟩) l1 rfl ?_
  refine g_k1 (v := 2) (pc' := 6) cd_De_addSession rfl (by decide) rfl ?_
  refine g_pure (pc' := 7) (st' := [.int ((nI p) * 2), .ref ((x + 9))]) cd_De_addSession rfl rfl (fun _ _ => rfl) ?_
  rw [show ((nI p) * 2 : Int32) = nI (p * 2) from pk_mul p 2]
  refine g_k1 (v := 1) (pc' := 8) cd_De_addSession rfl (by decide) rfl ?_
  refine g_pure (pc' := 9) (st' := [.int ((nI (p * 2)) + 1), .ref ((x + 9))]) cd_De_addSession rfl rfl (fun _ _ => rfl) ?_
  rw [show ((nI (p * 2)) + 1 : Int32) = nI ((p * 2) + 1) from nI_add (p * 2) 1]
  refine g_aR (t := 5) (x := (sA x w.2.1 p 1)) (pc' := 10) cd_De_addSession rfl rfl hR.1.2.2.2.2.2.2.1.1 hR.1.2.2.2.2.2.2.1.2.1 (by decide) rfl rfl (by rw [show bm_AL B (x + 9) = 12 from hR.1.2.2.2.2.2.2.1.2.2]; exact vp_in_nI (by omega) (by decide)) (by rw [nI_clamp (by omega), show p * 2 + 1 = 2 * p + 1 by omega]; exact a4) ?_
  refine g_ast (pc' := 11) cd_De_addSession rfl (Or.inr ⟨_, rfl, rfl, rfl⟩) rfl (by decide) rfl (fun lv el => ?_)
  have l0 := tm_lk el l0 rfl (by decide)
  have l1 := tm_lk el l1 rfl (by decide)
  have l2 : lv.lookup 2 = some (.ref ((sA x w.2.1 p 1))) := tm_lks el
  clear el
  refine g_ald (pc' := 12) cd_De_addSession rfl (Or.inr ⟨_, rfl, rfl, rfl⟩) l0 rfl rfl ?_
  refine g_ild (pc' := 13) cd_De_addSession rfl (Or.inr ⟨_, rfl, rfl, rfl⟩) l1 rfl ?_
  refine g_ald (pc' := 14) cd_De_addSession rfl (Or.inr ⟨_, rfl, rfl, rfl⟩) l2 rfl rfl ?_
  refine g_callv (pc' := 17) cd_De_addSession rfl rfl rfl rfl rfl (tm_invV rfl rfl cd_De_putFirst rfl (Nat.le_of_ble_eq_true rfl) (by decide) hR.1.1.1 hR.1.1.2) (t_putFirst1 hR.1 hp a3 (RSe_S b0).1 (RSe_S b1).1 (by omega) (fun B1 hz1 r0 r1 rj => ?_))
  have f1_0 := fr_lt hz1.1 hR.1.1.1
  have g1_0 := (fr_K hz1.1 hR.1.1.1).trans hR.1.1.2
  have f1_1 := fr_lt hz1.1 hR.1.2.2.1.1
  have g1_1 := (fr_K hz1.1 hR.1.2.2.1.1).trans hR.1.2.2.1.2.1
  have f1_2 := fr_lt hz1.1 hR.1.2.2.2.1.1
  have g1_2 := (fr_K hz1.1 hR.1.2.2.2.1.1).trans hR.1.2.2.2.1.2.1
  have f1_3 := fr_lt hz1.1 hR.1.2.2.2.2.1.1
  have g1_3 := (fr_K hz1.1 hR.1.2.2.2.2.1.1).trans hR.1.2.2.2.2.1.2.1
  have f1_4 := fr_lt hz1.1 hR.1.2.2.2.2.2.1.1
  have g1_4 := (fr_K hz1.1 hR.1.2.2.2.2.2.1.1).trans hR.1.2.2.2.2.2.1.2.1
  have f1_5 := fr_lt hz1.1 hR.1.2.2.2.2.2.2.1.1
  have g1_5 := (fr_K hz1.1 hR.1.2.2.2.2.2.2.1.1).trans hR.1.2.2.2.2.2.2.1.2.1
  have f1_6 := fr_lt hz1.1 hR.1.2.2.2.2.2.2.2.1
  have g1_6 := (fr_K hz1.1 hR.1.2.2.2.2.2.2.2.1).trans hR.1.2.2.2.2.2.2.2.2.1
  have f1_7 := fr_lt hz1.1 (RSe_S b1).1.1
  have g1_7 := (fr_K hz1.1 (RSe_S b1).1.1).trans (RSe_S b1).1.2
  have r1_0 : bm_FR B1 0 0 x = some (x + 1) := (fr_FR hz1.1 hR.1.1.1 (by omega) 0 0).trans hR.1.2.1.1
  have r1_1 : bm_FR B1 0 1 x = some (x + 6) := (fr_FR hz1.1 hR.1.1.1 (by omega) 0 1).trans hR.1.2.1.2.1
  have r1_2 : bm_FR B1 0 2 x = some (x + 7) := (fr_FR hz1.1 hR.1.1.1 (by omega) 0 2).trans hR.1.2.1.2.2.1
  have r1_3 : bm_FR B1 0 3 x = some (x + 8) := (fr_FR hz1.1 hR.1.1.1 (by omega) 0 3).trans hR.1.2.1.2.2.2.1
  have r1_4 : bm_FR B1 0 4 x = some (x + 9) := (fr_FR hz1.1 hR.1.1.1 (by omega) 0 4).trans hR.1.2.1.2.2.2.2.1
  have r1_5 : bm_FR B1 0 5 x = some (x + 10) := (fr_FR hz1.1 hR.1.1.1 (by omega) 0 5).trans hR.1.2.1.2.2.2.2.2
  have u1_0 : bm_AI B1 (x + 8) = (bm_AI B (x + 8)) := (fr_AI hz1.1 hR.1.2.2.2.2.2.1.1 (by omega)).trans rfl
  have w1_0 : bm_AL B1 (x + 1) = 2 := (fr_AL hz1.1 hR.1.2.2.1.1).trans hR.1.2.2.1.2.2
  have w1_1 : bm_AL B1 (x + 6) = 4 := (fr_AL hz1.1 hR.1.2.2.2.1.1).trans hR.1.2.2.2.1.2.2
  have w1_2 : bm_AL B1 (x + 7) = 4 := (fr_AL hz1.1 hR.1.2.2.2.2.1.1).trans hR.1.2.2.2.2.1.2.2
  have w1_3 : bm_AL B1 (x + 8) = 6 := (fr_AL hz1.1 hR.1.2.2.2.2.2.1.1).trans hR.1.2.2.2.2.2.1.2.2
  have w1_4 : bm_AL B1 (x + 9) = 12 := (fr_AL hz1.1 hR.1.2.2.2.2.2.2.1.1).trans hR.1.2.2.2.2.2.2.1.2.2
  have w1_5 : bm_AL B1 (x + 10) = 4 := (fr_AL hz1.1 hR.1.2.2.2.2.2.2.2.1).trans hR.1.2.2.2.2.2.2.2.2.2
  show bm_G _ _ _ 17 _ [] B1 _
  refine g_ald (pc' := 18) cd_De_addSession rfl (Or.inr ⟨_, rfl, rfl, rfl⟩) l0 rfl rfl ?_
  refine g_fR (c := 0) (k := 3) (x := (x + 8)) (pc' := 21) cd_De_addSession rfl rfl rfl rfl rfl (by decide) f1_0 g1_0 r1_3 ?_
  refine g_ild (pc' := 22) cd_De_addSession rfl (Or.inr ⟨_, rfl, rfl, rfl⟩) l1 rfl ?_
  refine g_ald (pc' := 23) cd_De_addSession rfl (Or.inr ⟨_, rfl, rfl, rfl⟩) l0 rfl rfl ?_
  refine g_fR (c := 0) (k := 3) (x := (x + 8)) (pc' := 26) cd_De_addSession rfl rfl rfl rfl rfl (by decide) f1_0 g1_0 r1_3 ?_
  refine g_ild (pc' := 27) cd_De_addSession rfl (Or.inr ⟨_, rfl, rfl, rfl⟩) l1 rfl ?_
  refine g_aI (x := nI ((se p).length)) (pc' := 28) cd_De_addSession rfl rfl f1_4 g1_4 (by rw [show bm_AL B1 (x + 8) = 6 from w1_3]; exact vp_in_nI (by omega) (by decide)) (by rw [show bm_AI B1 (x + 8) = _ from u1_0, nI_clamp (by omega)]; exact a1) ?_
  refine g_k1 (v := 1) (pc' := 29) cd_De_addSession rfl (by decide) rfl ?_
  refine g_pure (pc' := 30) (st' := [.int ((nI ((se p).length)) + 1), .int (nI p), .ref ((x + 8))]) cd_De_addSession rfl rfl (fun _ _ => rfl) ?_
  rw [show ((nI ((se p).length)) + 1 : Int32) = nI (((se p).length) + 1) from nI_add ((se p).length) 1]
  refine g_k1 (v := 2) (pc' := 31) cd_De_addSession rfl (by decide) rfl ?_
  refine g_min (pc' := 34) cd_De_addSession rfl rfl rfl rfl ?_
  rw [show (if (2 : Int32) < nI (((se p).length) + 1) then 2 else nI (((se p).length) + 1)) = nI (min (((se p).length) + 1) 2) from nI_min (a := (((se p).length) + 1)) (b := 2) (by omega) (by decide)]
  refine g_iast (pc' := 35) cd_De_addSession rfl rfl f1_4 g1_4 (by rw [show bm_AL B1 (x + 8) = 6 from w1_3]; exact vp_in_nI (by omega) (by decide)) ?_
  rw [show (nI p : Int32).toNatClampNeg = p from nI_clamp (by omega)]
  have A2 : bm_AI (bm_setI B1 (x + 8) p (nI (min (((se p).length) + 1) 2))) (x + 8) = (upd (bm_AI B (x + 8)) p (nI (min (((se p).length) + 1) 2))) := ((AI_set B1 (x + 8) p (nI (min (((se p).length) + 1) 2))).trans (congrArg (fun f => upd f p (nI (min (((se p).length) + 1) 2))) (show bm_AI B1 (x + 8) = (bm_AI B (x + 8)) from u1_0)))
  refine g_ald (pc' := 36) cd_De_addSession rfl (Or.inr ⟨_, rfl, rfl, rfl⟩) l2 rfl rfl ?_
  have hA : bm_AI (bm_setI B1 (x + 8) p (nI (min (((se p).length) + 1) 2))) (x + 8) = upd (bm_AI B (x + 8)) p (nI (min ((se p).length + 1) 2)) := A2
  have hz : fz (fun y => y = x + 8 ∨ y = x + 9) B (bm_setI B1 (x + 8) p (nI (min (((se p).length) + 1) 2))) := fz_trans (fz_mono (fun _ q => Or.inr q) hz1) ⟨fr_mono (fun _ q => Or.inl q) (fr_setI B1 (x + 8) p _), rfl, rfl⟩
  have hF := RSs_flip hR.1 hp hR.2.2.2.2.1 hz.1 r0 r1 rj (by rw [hA]; exact if_pos rfl) (fun j hj => by rw [hA]; exact if_neg hj) (by omega) b0 b1
  have hE : [X1, X0].take (min ((se p).length + 1) 2) = X1 :: (se p).take 1 := by
    rcases len2 a2 with hl | ⟨G0, hl⟩ | ⟨G0, G1, hl⟩
    · rw [hl]; rfl
    · rw [hl] at b2 ⊢; simp at b2; rw [b2]; rfl
    · rw [hl] at b2 ⊢; simp at b2; rw [b2.1]; rfl
  rw [hE] at hF
  have hr : sA x (fset w.2.1 p (!w.2.1 p)) p 0 = sA x w.2.1 p 1 := sA_flip x w.2.1 p (by decide)
  exact g_retr (x := (some (sA x w.2.1 p 1))) cd_De_addSession rfl ⟨(some (sA x w.2.1 p 1)), rfl, (hr ▸ kk _ X1 (w.1, fset w.2.1 p (!w.2.1 p), w.2.2) (RDe_sess hR hz.1 (fun y a b c => by omega) (List.prefix_refl T) hF) rfl rfl hz)⟩
