/-! Membership: find, accept, tell -/
theorem t_find {sc : tm_X} {d m p : Nat} {B : bm_H} {T : List Tm} {w : Nat → Bool} {M : MM} {b : Int32} {Q : Option Nat → bm_H → Prop} (hR : RMe B T m w M) (hp : p < 6) (kk0 : (∀ (k : Nat) (G : GV), (mgv M p)[k]? = some G → G.2.1 ≠ b) → Q none B) (kk1 : ∀ k G, (mgv M p)[k]? = some G → G.2.1 = b → (∀ (j : Nat) (G' : GV), j < k → (mgv M p)[j]? = some G' → G'.2.1 ≠ b) → Q (some (gA m w p k)) B) : bm_Gr sc d 124 [.ref m, .int (nI p), .int b] B Q := by
  obtain ⟨⟨a1, a2⟩, ⟨a3, a4⟩, X0, X1, b0, b1, b2⟩ := hR.2.2 p hp
  rcases len2 a2 with hl | ⟨G0, hl⟩ | ⟨G0, G1, hl⟩
  · rw [hl] at a1 b2
    show bm_G sc d 124 0 [(0, .ref m), (1, .int (nI p)), (2, .int b)] [] B _
    generalize elv : ([(0, .ref m), (1, .int (nI p)), (2, .int b)] : tm_L) = lv
    have l0 : lv.lookup 0 = some (.ref m) := by rw [← elv]; rfl
    have l1 : lv.lookup 1 = some (.int (nI p)) := by rw [← elv]; rfl
    have l2 : lv.lookup 2 = some (.int b) := by rw [← elv]; rfl
    clear elv
    refine g_k1 (v := 0) (pc' := 1) cd_Me_find rfl (by decide) rfl ?_
    refine g_ist (pc' := 2) cd_Me_find rfl (Or.inr ⟨_, rfl, rfl, rfl⟩) (by decide) rfl (fun lv el => ?_)
    have l0 := tm_lk el l0 rfl (by decide)
    have l1 := tm_lk el l1 rfl (by decide)
    have l2 := tm_lk el l2 rfl (by decide)
    have l3 : lv.lookup 3 = some (.int 0) := tm_lks el
    clear el
    refine g_ild (pc' := 3) cd_Me_find rfl (Or.inr ⟨_, rfl, rfl, rfl⟩) l3 rfl ?_
    refine g_ald (pc' := 4) cd_Me_find rfl (Or.inr ⟨_, rfl, rfl, rfl⟩) l0 rfl rfl ?_
    refine g_fR (c := 5) (k := 0) (x := (m + 1)) (pc' := 7) cd_Me_find rfl rfl rfl rfl rfl (by decide) hR.1.1.1 hR.1.1.2 hR.1.2.1.1 ?_
    refine g_ild (pc' := 8) cd_Me_find rfl (Or.inr ⟨_, rfl, rfl, rfl⟩) l1 rfl ?_
    refine g_aI (x := 0) (pc' := 9) cd_Me_find rfl rfl hR.1.2.2.1.1 hR.1.2.2.1.2.1 (by rw [show bm_AL B (m + 1) = 6 from hR.1.2.2.1.2.2]; exact vp_in_nI (by omega) (by decide)) (by rw [nI_clamp (by omega)]; exact a1) ?_
    refine g_if2 (t := 46) (pc' := 12) cd_Me_find rfl rfl rfl (fun c9 => ?_) (fun c9 => ?_)
    · have c9 : (0 : Int32) ≤ 0 := c9
      refine g_pure (pc' := 47) (st' := [.null]) cd_Me_find rfl rfl (fun _ _ => rfl) ?_
      exact g_retr (x := none) cd_Me_find rfl ⟨none, rfl, (kk0 (fun k S h => by rw [hl] at h; simp at h))⟩
    · exact absurd (show ¬ (0 : Int32) ≤ 0 from c9) (by decide)
  · rw [hl] at a1 b2
    have hG0 : G0 = X0 := by simp at b2; exact b2
    subst hG0
    show bm_G sc d 124 0 [(0, .ref m), (1, .int (nI p)), (2, .int b)] [] B _
    generalize elv : ([(0, .ref m), (1, .int (nI p)), (2, .int b)] : tm_L) = lv
    have l0 : lv.lookup 0 = some (.ref m) := by rw [← elv]; rfl
    have l1 : lv.lookup 1 = some (.int (nI p)) := by rw [← elv]; rfl
    have l2 : lv.lookup 2 = some (.int b) := by rw [← elv]; rfl
    clear elv
    refine g_k1 (v := 0) (pc' := 1) cd_Me_find rfl (by decide) rfl ?_
    refine g_ist (pc' := 2) cd_Me_find rfl (Or.inr ⟨_, rfl, rfl, rfl⟩) (by decide) rfl (fun lv el => ?_)
    have l0 := tm_lk el l0 rfl (by decide)
    have l1 := tm_lk el l1 rfl (by decide)
    have l2 := tm_lk el l2 rfl (by decide)
    have l3 : lv.lookup 3 = some (.int 0) := tm_lks el
    clear el
    refine g_ild (pc' := 3) cd_Me_find rfl (Or.inr ⟨_, rfl, rfl, rfl⟩) l3 rfl ?_
    refine g_ald (pc' := 4) cd_Me_find rfl (Or.inr ⟨_, rfl, rfl, rfl⟩) l0 rfl rfl ?_
    refine g_fR (c := 5) (k := 0) (x := (m + 1)) (pc' := 7) cd_Me_find rfl rfl rfl rfl rfl (by decide) hR.1.1.1 hR.1.1.2 hR.1.2.1.1 ?_
    refine g_ild (pc' := 8) cd_Me_find rfl (Or.inr ⟨_, rfl, rfl, rfl⟩) l1 rfl ?_
    refine g_aI (x := 1) (pc' := 9) cd_Me_find rfl rfl hR.1.2.2.1.1 hR.1.2.2.1.2.1 (by rw [show bm_AL B (m + 1) = 6 from hR.1.2.2.1.2.2]; exact vp_in_nI (by omega) (by decide)) (by rw [nI_clamp (by omega)]; exact a1) ?_
    refine g_if2 (t := 46) (pc' := 12) cd_Me_find rfl rfl rfl (fun c9 => ?_) (fun c9 => ?_)
    · exact absurd (show (1 : Int32) ≤ 0 from c9) (by decide)
    · have c9 : ¬ (1 : Int32) ≤ 0 := c9
      refine g_ald (pc' := 13) cd_Me_find rfl (Or.inr ⟨_, rfl, rfl, rfl⟩) l0 rfl rfl ?_
      refine g_fR (c := 5) (k := 1) (x := (m + 2)) (pc' := 16) cd_Me_find rfl rfl rfl rfl rfl (by decide) hR.1.1.1 hR.1.1.2 hR.1.2.1.2 ?_
      refine g_ild (pc' := 17) cd_Me_find rfl (Or.inr ⟨_, rfl, rfl, rfl⟩) l1 rfl ?_
      refine g_k1 (v := 2) (pc' := 18) cd_Me_find rfl (by decide) rfl ?_
      refine g_pure (pc' := 19) (st' := [.int ((nI p) * 2), .ref ((m + 2))]) cd_Me_find rfl rfl (fun _ _ => rfl) ?_
      rw [show ((nI p) * 2 : Int32) = nI (p * 2) from pk_mul p 2]
      refine g_ild (pc' := 20) cd_Me_find rfl (Or.inr ⟨_, rfl, rfl, rfl⟩) l3 rfl ?_
      refine g_pure (pc' := 21) (st' := [.int ((nI (p * 2)) + 0), .ref ((m + 2))]) cd_Me_find rfl rfl (fun _ _ => rfl) ?_
      rw [show ((nI (p * 2)) + 0 : Int32) = nI ((p * 2) + 0) from nI_add (p * 2) 0]
      refine g_aR (t := 7) (x := (gA m w p 0)) (pc' := 22) cd_Me_find rfl rfl hR.1.2.2.2.1 hR.1.2.2.2.2.1 (by decide) rfl rfl (by rw [show bm_AL B (m + 2) = 12 from hR.1.2.2.2.2.2]; exact vp_in_nI (by omega) (by decide)) (by rw [nI_clamp (by omega), show p * 2 + 0 = 2 * p + 0 by omega]; exact a3) ?_
      refine g_fI (c := 1) (k := 1) (x := G0.2.1) (pc' := 25) cd_Me_find rfl rfl rfl rfl rfl (by decide) b0.1.1.1 b0.1.1.2 b0.2.2.1 ?_
      refine g_ild (pc' := 26) cd_Me_find rfl (Or.inr ⟨_, rfl, rfl, rfl⟩) l2 rfl ?_
      refine g_if2 (t := 40) (pc' := 29) cd_Me_find rfl rfl rfl (fun c26 => ?_) (fun c26 => ?_)
      · have c26 : ¬ G0.2.1 = b := c26
        have n0 := c26
        refine g_inc (y := 1) (pc' := 43) cd_Me_find rfl l3 (by decide) (by decide) rfl (fun lv el => ?_)
        have l0 := tm_lk el l0 rfl (by decide)
        have l1 := tm_lk el l1 rfl (by decide)
        have l2 := tm_lk el l2 rfl (by decide)
        have l3 : lv.lookup 3 = some (.int 1) := tm_lks el
        clear el
        refine g_pure (pc' := 2) (st' := []) cd_Me_find rfl rfl (fun _ _ => rfl) ?_
        refine g_ild (pc' := 3) cd_Me_find rfl (Or.inr ⟨_, rfl, rfl, rfl⟩) l3 rfl ?_
        refine g_ald (pc' := 4) cd_Me_find rfl (Or.inr ⟨_, rfl, rfl, rfl⟩) l0 rfl rfl ?_
        refine g_fR (c := 5) (k := 0) (x := (m + 1)) (pc' := 7) cd_Me_find rfl rfl rfl rfl rfl (by decide) hR.1.1.1 hR.1.1.2 hR.1.2.1.1 ?_
        refine g_ild (pc' := 8) cd_Me_find rfl (Or.inr ⟨_, rfl, rfl, rfl⟩) l1 rfl ?_
        refine g_aI (x := 1) (pc' := 9) cd_Me_find rfl rfl hR.1.2.2.1.1 hR.1.2.2.1.2.1 (by rw [show bm_AL B (m + 1) = 6 from hR.1.2.2.1.2.2]; exact vp_in_nI (by omega) (by decide)) (by rw [nI_clamp (by omega)]; exact a1) ?_
        refine g_if2 (t := 46) (pc' := 12) cd_Me_find rfl rfl rfl (fun c9 => ?_) (fun c9 => ?_)
        · have c9 : (1 : Int32) ≤ 1 := c9
          refine g_pure (pc' := 47) (st' := [.null]) cd_Me_find rfl rfl (fun _ _ => rfl) ?_
          exact g_retr (x := none) cd_Me_find rfl ⟨none, rfl, (kk0 (by rw [hl]; exact all1 (P := fun G : GV => G.2.1 ≠ b) n0))⟩
        · exact absurd (show ¬ (1 : Int32) ≤ 1 from c9) (by decide)
      · have c26 : G0.2.1 = b := Classical.not_not.mp c26
        have n0 := c26
        refine g_ald (pc' := 30) cd_Me_find rfl (Or.inr ⟨_, rfl, rfl, rfl⟩) l0 rfl rfl ?_
        refine g_fR (c := 5) (k := 1) (x := (m + 2)) (pc' := 33) cd_Me_find rfl rfl rfl rfl rfl (by decide) hR.1.1.1 hR.1.1.2 hR.1.2.1.2 ?_
        refine g_ild (pc' := 34) cd_Me_find rfl (Or.inr ⟨_, rfl, rfl, rfl⟩) l1 rfl ?_
        refine g_k1 (v := 2) (pc' := 35) cd_Me_find rfl (by decide) rfl ?_
        refine g_pure (pc' := 36) (st' := [.int ((nI p) * 2), .ref ((m + 2))]) cd_Me_find rfl rfl (fun _ _ => rfl) ?_
        rw [show ((nI p) * 2 : Int32) = nI (p * 2) from pk_mul p 2]
        refine g_ild (pc' := 37) cd_Me_find rfl (Or.inr ⟨_, rfl, rfl, rfl⟩) l3 rfl ?_
        refine g_pure (pc' := 38) (st' := [.int ((nI (p * 2)) + 0), .ref ((m + 2))]) cd_Me_find rfl rfl (fun _ _ => rfl) ?_
        rw [show ((nI (p * 2)) + 0 : Int32) = nI ((p * 2) + 0) from nI_add (p * 2) 0]
        refine g_aR (t := 7) (x := (gA m w p 0)) (pc' := 39) cd_Me_find rfl rfl hR.1.2.2.2.1 hR.1.2.2.2.2.1 (by decide) rfl rfl (by rw [show bm_AL B (m + 2) = 12 from hR.1.2.2.2.2.2]; exact vp_in_nI (by omega) (by decide)) (by rw [nI_clamp (by omega), show p * 2 + 0 = 2 * p + 0 by omega]; exact a3) ?_
        exact g_retr (x := (some (gA m w p 0))) cd_Me_find rfl ⟨(some (gA m w p 0)), rfl, (kk1 0 G0 (by rw [hl]; rfl) n0 (fun j S h => absurd h (Nat.not_lt_zero _)))⟩
  · rw [hl] at a1 b2
    have hG0 : G0 = X0 := by simp at b2; exact b2.1
    subst hG0
    have hG1 : G1 = X1 := by simp at b2; exact b2
    subst hG1
    show bm_G sc d 124 0 [(0, .ref m), (1, .int (nI p)), (2, .int b)] [] B _
    generalize elv : ([(0, .ref m), (1, .int (nI p)), (2, .int b)] : tm_L) = lv
    have l0 : lv.lookup 0 = some (.ref m) := by rw [← elv]; rfl
    have l1 : lv.lookup 1 = some (.int (nI p)) := by rw [← elv]; rfl
    have l2 : lv.lookup 2 = some (.int b) := by rw [← elv]; rfl
    clear elv
    refine g_k1 (v := 0) (pc' := 1) cd_Me_find rfl (by decide) rfl ?_
    refine g_ist (pc' := 2) cd_Me_find rfl (Or.inr ⟨_, rfl, rfl, rfl⟩) (by decide) rfl (fun lv el => ?_)
    have l0 := tm_lk el l0 rfl (by decide)
    have l1 := tm_lk el l1 rfl (by decide)
    have l2 := tm_lk el l2 rfl (by decide)
    have l3 : lv.lookup 3 = some (.int 0) := tm_lks el
    clear el
    refine g_ild (pc' := 3) cd_Me_find rfl (Or.inr ⟨_, rfl, rfl, rfl⟩) l3 rfl ?_
    refine g_ald (pc' := 4) cd_Me_find rfl (Or.inr ⟨_, rfl, rfl, rfl⟩) l0 rfl rfl ?_
    refine g_fR (c := 5) (k := 0) (x := (m + 1)) (pc' := 7) cd_Me_find rfl rfl rfl rfl rfl (by decide) hR.1.1.1 hR.1.1.2 hR.1.2.1.1 ?_
    refine g_ild (pc' := 8) cd_Me_find rfl (Or.inr ⟨_, rfl, rfl, rfl⟩) l1 rfl ?_
    refine g_aI (x := 2) (pc' := 9) cd_Me_find rfl rfl hR.1.2.2.1.1 hR.1.2.2.1.2.1 (by rw [show bm_AL B (m + 1) = 6 from hR.1.2.2.1.2.2]; exact vp_in_nI (by omega) (by decide)) (by rw [nI_clamp (by omega)]; exact a1) ?_
    refine g_if2 (t := 46) (pc' := 12) cd_Me_find rfl rfl rfl (fun c9 => ?_) (fun c9 => ?_)
    · exact absurd (show (2 : Int32) ≤ 0 from c9) (by decide)
    · have c9 : ¬ (2 : Int32) ≤ 0 := c9
      refine g_ald (pc' := 13) cd_Me_find rfl (Or.inr ⟨_, rfl, rfl, rfl⟩) l0 rfl rfl ?_
      refine g_fR (c := 5) (k := 1) (x := (m + 2)) (pc' := 16) cd_Me_find rfl rfl rfl rfl rfl (by decide) hR.1.1.1 hR.1.1.2 hR.1.2.1.2 ?_
      refine g_ild (pc' := 17) cd_Me_find rfl (Or.inr ⟨_, rfl, rfl, rfl⟩) l1 rfl ?_
      refine g_k1 (v := 2) (pc' := 18) cd_Me_find rfl (by decide) rfl ?_
      refine g_pure (pc' := 19) (st' := [.int ((nI p) * 2), .ref ((m + 2))]) cd_Me_find rfl rfl (fun _ _ => rfl) ?_
      rw [show ((nI p) * 2 : Int32) = nI (p * 2) from pk_mul p 2]
      refine g_ild (pc' := 20) cd_Me_find rfl (Or.inr ⟨_, rfl, rfl, rfl⟩) l3 rfl ?_
      refine g_pure (pc' := 21) (st' := [.int ((nI (p * 2)) + 0), .ref ((m + 2))]) cd_Me_find rfl rfl (fun _ _ => rfl) ?_
      rw [show ((nI (p * 2)) + 0 : Int32) = nI ((p * 2) + 0) from nI_add (p * 2) 0]
      refine g_aR (t := 7) (x := (gA m w p 0)) (pc' := 22) cd_Me_find rfl rfl hR.1.2.2.2.1 hR.1.2.2.2.2.1 (by decide) rfl rfl (by rw [show bm_AL B (m + 2) = 12 from hR.1.2.2.2.2.2]; exact vp_in_nI (by omega) (by decide)) (by rw [nI_clamp (by omega), show p * 2 + 0 = 2 * p + 0 by omega]; exact a3) ?_
      refine g_fI (c := 1) (k := 1) (x := G0.2.1) (pc' := 25) cd_Me_find rfl rfl rfl rfl rfl (by decide) b0.1.1.1 b0.1.1.2 b0.2.2.1 ?_
      refine g_ild (pc' := 26) cd_Me_find rfl (Or.inr ⟨_, rfl, rfl, rfl⟩) l2 rfl ?_
      refine g_if2 (t := 40) (pc' := 29) cd_Me_find rfl rfl rfl (fun c26 => ?_) (fun c26 => ?_)
      · have c26 : ¬ G0.2.1 = b := c26
        have n0 := c26
        refine g_inc (y := 1) (pc' := 43) cd_Me_find rfl l3 (by decide) (by decide) rfl (fun lv el => ?_)
        have l0 := tm_lk el l0 rfl (by decide)
        have l1 := tm_lk el l1 rfl (by decide)
        have l2 := tm_lk el l2 rfl (by decide)
        have l3 : lv.lookup 3 = some (.int 1) := tm_lks el
        clear el
        refine g_pure (pc' := 2) (st' := []) cd_Me_find rfl rfl (fun _ _ => rfl) ?_
        refine g_ild (pc' := 3) cd_Me_find rfl (Or.inr ⟨_, rfl, rfl, rfl⟩) l3 rfl ?_
        refine g_ald (pc' := 4) cd_Me_find rfl (Or.inr ⟨_, rfl, rfl, rfl⟩) l0 rfl rfl ?_
        refine g_fR (c := 5) (k := 0) (x := (m + 1)) (pc' := 7) cd_Me_find rfl rfl rfl rfl rfl (by decide) hR.1.1.1 hR.1.1.2 hR.1.2.1.1 ?_
        refine g_ild (pc' := 8) cd_Me_find rfl (Or.inr ⟨_, rfl, rfl, rfl⟩) l1 rfl ?_
        refine g_aI (x := 2) (pc' := 9) cd_Me_find rfl rfl hR.1.2.2.1.1 hR.1.2.2.1.2.1 (by rw [show bm_AL B (m + 1) = 6 from hR.1.2.2.1.2.2]; exact vp_in_nI (by omega) (by decide)) (by rw [nI_clamp (by omega)]; exact a1) ?_
        refine g_if2 (t := 46) (pc' := 12) cd_Me_find rfl rfl rfl (fun c9 => ?_) (fun c9 => ?_)
        · exact absurd (show (2 : Int32) ≤ 1 from c9) (by decide)
        · have c9 : ¬ (2 : Int32) ≤ 1 := c9
          refine g_ald (pc' := 13) cd_Me_find rfl (Or.inr ⟨_, rfl, rfl, rfl⟩) l0 rfl rfl ?_
          refine g_fR (c := 5) (k := 1) (x := (m + 2)) (pc' := 16) cd_Me_find rfl rfl rfl rfl rfl (by decide) hR.1.1.1 hR.1.1.2 hR.1.2.1.2 ?_
          refine g_ild (pc' := 17) cd_Me_find rfl (Or.inr ⟨_, rfl, rfl, rfl⟩) l1 rfl ?_
          refine g_k1 (v := 2) (pc' := 18) cd_Me_find rfl (by decide) rfl ?_
          refine g_pure (pc' := 19) (st' := [.int ((nI p) * 2), .ref ((m + 2))]) cd_Me_find rfl rfl (fun _ _ => rfl) ?_
          rw [show ((nI p) * 2 : Int32) = nI (p * 2) from pk_mul p 2]
          refine g_ild (pc' := 20) cd_Me_find rfl (Or.inr ⟨_, rfl, rfl, rfl⟩) l3 rfl ?_
          refine g_pure (pc' := 21) (st' := [.int ((nI (p * 2)) + 1), .ref ((m + 2))]) cd_Me_find rfl rfl (fun _ _ => rfl) ?_
          rw [show ((nI (p * 2)) + 1 : Int32) = nI ((p * 2) + 1) from nI_add (p * 2) 1]
          refine g_aR (t := 7) (x := (gA m w p 1)) (pc' := 22) cd_Me_find rfl rfl hR.1.2.2.2.1 hR.1.2.2.2.2.1 (by decide) rfl rfl (by rw [show bm_AL B (m + 2) = 12 from hR.1.2.2.2.2.2]; exact vp_in_nI (by omega) (by decide)) (by rw [nI_clamp (by omega), show p * 2 + 1 = 2 * p + 1 by omega]; exact a4) ?_
          refine g_fI (c := 1) (k := 1) (x := G1.2.1) (pc' := 25) cd_Me_find rfl rfl rfl rfl rfl (by decide) b1.1.1.1 b1.1.1.2 b1.2.2.1 ?_
          refine g_ild (pc' := 26) cd_Me_find rfl (Or.inr ⟨_, rfl, rfl, rfl⟩) l2 rfl ?_
          refine g_if2 (t := 40) (pc' := 29) cd_Me_find rfl rfl rfl (fun c26 => ?_) (fun c26 => ?_)
          · have c26 : ¬ G1.2.1 = b := c26
            have n1 := c26
            refine g_inc (y := 2) (pc' := 43) cd_Me_find rfl l3 (by decide) (by decide) rfl (fun lv el => ?_)
            have l0 := tm_lk el l0 rfl (by decide)
            have l1 := tm_lk el l1 rfl (by decide)
            have l2 := tm_lk el l2 rfl (by decide)
            have l3 : lv.lookup 3 = some (.int 2) := tm_lks el
            clear el
            refine g_pure (pc' := 2) (st' := []) cd_Me_find rfl rfl (fun _ _ => rfl) ?_
            refine g_ild (pc' := 3) cd_Me_find rfl (Or.inr ⟨_, rfl, rfl, rfl⟩) l3 rfl ?_
            refine g_ald (pc' := 4) cd_Me_find rfl (Or.inr ⟨_, rfl, rfl, rfl⟩) l0 rfl rfl ?_
            refine g_fR (c := 5) (k := 0) (x := (m + 1)) (pc' := 7) cd_Me_find rfl rfl rfl rfl rfl (by decide) hR.1.1.1 hR.1.1.2 hR.1.2.1.1 ?_
            refine g_ild (pc' := 8) cd_Me_find rfl (Or.inr ⟨_, rfl, rfl, rfl⟩) l1 rfl ?_
            refine g_aI (x := 2) (pc' := 9) cd_Me_find rfl rfl hR.1.2.2.1.1 hR.1.2.2.1.2.1 (by rw [show bm_AL B (m + 1) = 6 from hR.1.2.2.1.2.2]; exact vp_in_nI (by omega) (by decide)) (by rw [nI_clamp (by omega)]; exact a1) ?_
            refine g_if2 (t := 46) (pc' := 12) cd_Me_find rfl rfl rfl (fun c9 => ?_) (fun c9 => ?_)
            · have c9 : (2 : Int32) ≤ 2 := c9
              refine g_pure (pc' := 47) (st' := [.null]) cd_Me_find rfl rfl (fun _ _ => rfl) ?_
              exact g_retr (x := none) cd_Me_find rfl ⟨none, rfl, (kk0 (by rw [hl]; exact all2 (P := fun G : GV => G.2.1 ≠ b) n0 n1))⟩
            · exact absurd (show ¬ (2 : Int32) ≤ 2 from c9) (by decide)
          · have c26 : G1.2.1 = b := Classical.not_not.mp c26
            have n1 := c26
            refine g_ald (pc' := 30) cd_Me_find rfl (Or.inr ⟨_, rfl, rfl, rfl⟩) l0 rfl rfl ?_
            refine g_fR (c := 5) (k := 1) (x := (m + 2)) (pc' := 33) cd_Me_find rfl rfl rfl rfl rfl (by decide) hR.1.1.1 hR.1.1.2 hR.1.2.1.2 ?_
            refine g_ild (pc' := 34) cd_Me_find rfl (Or.inr ⟨_, rfl, rfl, rfl⟩) l1 rfl ?_
            refine g_k1 (v := 2) (pc' := 35) cd_Me_find rfl (by decide) rfl ?_
            refine g_pure (pc' := 36) (st' := [.int ((nI p) * 2), .ref ((m + 2))]) cd_Me_find rfl rfl (fun _ _ => rfl) ?_
            rw [show ((nI p) * 2 : Int32) = nI (p * 2) from pk_mul p 2]
            refine g_ild (pc' := 37) cd_Me_find rfl (Or.inr ⟨_, rfl, rfl, rfl⟩) l3 rfl ?_
            refine g_pure (pc' := 38) (st' := [.int ((nI (p * 2)) + 1), .ref ((m + 2))]) cd_Me_find rfl rfl (fun _ _ => rfl) ?_
            rw [show ((nI (p * 2)) + 1 : Int32) = nI ((p * 2) + 1) from nI_add (p * 2) 1]
            refine g_aR (t := 7) (x := (gA m w p 1)) (pc' := 39) cd_Me_find rfl rfl hR.1.2.2.2.1 hR.1.2.2.2.2.1 (by decide) rfl rfl (by rw [show bm_AL B (m + 2) = 12 from hR.1.2.2.2.2.2]; exact vp_in_nI (by omega) (by decide)) (by rw [nI_clamp (by omega), show p * 2 + 1 = 2 * p + 1 by omega]; exact a4) ?_
            exact g_retr (x := (some (gA m w p 1))) cd_Me_find rfl ⟨(some (gA m w p 1)), rfl, (kk1 1 G1 (by rw [hl]; rfl) n1 (fun j S h hj => by have : j = 0 := (by omega); subst this; rw [hl] at hj; simp at hj; subst hj; exact n0))⟩
      · have c26 : G0.2.1 = b := Classical.not_not.mp c26
        have n0 := c26
        refine g_ald (pc' := 30) cd_Me_find rfl (Or.inr ⟨_, rfl, rfl, rfl⟩) l0 rfl rfl ?_
        refine g_fR (c := 5) (k := 1) (x := (m + 2)) (pc' := 33) cd_Me_find rfl rfl rfl rfl rfl (by decide) hR.1.1.1 hR.1.1.2 hR.1.2.1.2 ?_
        refine g_ild (pc' := 34) cd_Me_find rfl (Or.inr ⟨_, rfl, rfl, rfl⟩) l1 rfl ?_
        refine g_k1 (v := 2) (pc' := 35) cd_Me_find rfl (by decide) rfl ?_
        refine g_pure (pc' := 36) (st' := [.int ((nI p) * 2), .ref ((m + 2))]) cd_Me_find rfl rfl (fun _ _ => rfl) ?_
        rw [show ((nI p) * 2 : Int32) = nI (p * 2) from pk_mul p 2]
        refine g_ild (pc' := 37) cd_Me_find rfl (Or.inr ⟨_, rfl, rfl, rfl⟩) l3 rfl ?_
        refine g_pure (pc' := 38) (st' := [.int ((nI (p * 2)) + 0), .ref ((m + 2))]) cd_Me_find rfl rfl (fun _ _ => rfl) ?_
        rw [show ((nI (p * 2)) + 0 : Int32) = nI ((p * 2) + 0) from nI_add (p * 2) 0]
        refine g_aR (t := 7) (x := (gA m w p 0)) (pc' := 39) cd_Me_find rfl rfl hR.1.2.2.2.1 hR.1.2.2.2.2.1 (by decide) rfl rfl (by rw [show bm_AL B (m + 2) = 12 from hR.1.2.2.2.2.2]; exact vp_in_nI (by omega) (by decide)) (by rw [nI_clamp (by omega), show p * 2 + 0 = 2 * p + 0 by omega]; exact a3) ?_
        exact g_retr (x := (some (gA m w p 0))) cd_Me_find rfl ⟨(some (gA m w p 0)), rfl, (kk1 0 G0 (by rw [hl]; rfl) n0 (fun j S h => absurd h (Nat.not_lt_zero _)))⟩
theorem gA_flip (m : Nat) (w : Nat → Bool) (p : Nat) {k : Nat} (hk : k < 2) : gA m (fset w p (!w p)) p k = gA m w p (1 - k) := by
  unfold gA
  rw [fset_same, sJ_not (w p) hk]
theorem gA_flip_ne (m : Nat) (w : Nat → Bool) {p q : Nat} (h : q ≠ p) (k : Nat) : gA m (fset w p (!w p)) q k = gA m w q k := by
  unfold gA
  rw [fset_ne h]
theorem RGs_flip {B B' : bm_H} {T : List Tm} {m p n : Nat} {w : Nat → Bool} {f : Nat → List GV} {G0 G1 : GV} (hS : MeS B m) (hp : p < 6) (hs : ∀ q, q < 6 → RGs B T m w q (f q)) (h : fr (fun y => y = m + 1 ∨ y = m + 2 ∨ (gA m w p 1 ≤ y ∧ y < gA m w p 1 + 3)) B B') (r0 : bm_AR B' (m + 2) (2 * p) = some (gA m w p 1)) (r1 : bm_AR B' (m + 2) (2 * p + 1) = some (gA m w p 0)) (rj : ∀ j, j ≠ 2 * p → j ≠ 2 * p + 1 → bm_AR B' (m + 2) j = bm_AR B (m + 2) j) (c0 : bm_AI B' (m + 1) p = nI n) (cj : ∀ j, j ≠ p → bm_AI B' (m + 1) j = bm_AI B (m + 1) j) (hn : n ≤ 2) (b0 : RGv B T (gA m w p 0) G0) (b1 : RGv B' T (gA m w p 1) G1) : ∀ q, q < 6 → RGs B' T m (fset w p (!w p)) q (fset f p ([G1, G0].take n) q) := by
  intro q hq
  have i0 := gA_in m w hq (k := 0) (by decide)
  have i1 := gA_in m w hq (k := 1) (by decide)
  have j1 := gA_in m w hp (k := 1) (by decide)
  have j01 := gA_01 m w p
  by_cases c : q = p
  · subst c
    have hl : ([G1, G0].take n).length = n := by simp; omega
    rw [fset_same]
    refine ⟨⟨by rw [c0, hl], by rw [hl]; exact hn⟩, ⟨by rw [gA_flip m w q (by decide)]; exact r0, by rw [gA_flip m w q (by decide)]; exact r1⟩, G1, G0, ?_, ?_, by rw [hl]⟩
    · rw [gA_flip m w q (by decide)]; exact b1
    · rw [gA_flip m w q (by decide)]; show RGv B' T (gA m w q 0) G0; exact RGv_fr b0 h (by omega) (by omega) (by omega) (List.prefix_refl T)
  · rw [fset_ne c]
    obtain ⟨⟨a1, a2⟩, ⟨a3, a4⟩, X0, X1, e0, e1, e2⟩ := hs q hq
    have p0 := gA_pp m w w (p := q) (p' := p) (k := 0) (k' := 1) c (by decide) (by decide)
    have p1 := gA_pp m w w (p := q) (p' := p) (k := 1) (k' := 1) c (by decide) (by decide)
    exact ⟨⟨(cj q c).trans a1, a2⟩, ⟨by rw [gA_flip_ne m w c, rj _ (by omega) (by omega)]; exact a3, by rw [gA_flip_ne m w c, rj _ (by omega) (by omega)]; exact a4⟩, X0, X1, by rw [gA_flip_ne m w c]; exact RGv_fr e0 h (by omega) (by omega) (by omega) (List.prefix_refl T), by rw [gA_flip_ne m w c]; exact RGv_fr e1 h (by omega) (by omega) (by omega) (List.prefix_refl T), e2⟩
def mm_set (M : MM) (p : Nat) (l : List GV) : MM := match M with
  | (ve, ma, go, ge, ch, si, ix, ga, sl, gv) => (ve, ma, go, ge, ch, si, ix, ga, sl, fset gv p l)
theorem t_accept0 {sc : tm_X} {d a ca ba da rm dr m : Nat} {B : bm_H} {T : List Tm} {w : Nat → Bool} {ve ma go ge : Int32} {ch si : Tm} {ix ga : Int32} {sl : Bool} {gv : Nat → List GV} {p : Nat} {h : Int32} {H : Tm} {o : Bool} {Q : bm_H → Prop} (hT : TI B a ca ba da rm dr T) (hR : RMe B T m w (ve, ma, go, ge, ch, si, ix, ga, sl, gv)) (hp : p < 6) (hh : tv T h H) (kk0 : (∃ (k : Nat) (G : GV), (gv p)[k]? = some G ∧ nu H 1 ≤ G.2.1) → Q B) (kk1 : ∀ B' w', (∀ (k : Nat) (G : GV), (gv p)[k]? = some G → ¬ nu H 1 ≤ G.2.1) → RMe B' T m w' (mm_set (ve, ma, go, ge, ch, si, ix, ga, sl, gv) p (((pt H 1, pt H 0, nu H 2, []), nu H 1, o) :: (gv p).take 1)) → fz (fun y => m + 1 ≤ y ∧ y < m + 39) B B' → Q B') (hn : ∀ y, m ≤ y → y < m + 39 → ¬ tcs a ca ba da y) (hl : gv p = []) : bm_Gv sc (d + 2) 121 [.ref m, .ref a, .int (nI p), .int h, .int (bz o)] B Q := by
  obtain ⟨⟨a1, a2⟩, ⟨a3, a4⟩, X0, X1, b0, b1, b2⟩ := hR.2.2 p hp
  have i0 := gA_in m w hp (k := 0) (by decide)
  have i1 := gA_in m w hp (k := 1) (by decide)
  have i01 := gA_01 m w p
  change bm_AI B (m + 1) p = nI (gv p).length at a1
  change gv p = [X0, X1].take (gv p).length at b2
  rw [hl] at a1 b2
  show bm_G sc (d + 2) 121 0 [(0, .ref m), (1, .ref a), (2, .int (nI p)), (3, .int h), (4, .int (bz o))] [] B _
  generalize elv : ([(0, .ref m), (1, .ref a), (2, .int (nI p)), (3, .int h), (4, .int (bz o))] : tm_L) = lv
  have l0 : lv.lookup 0 = some (.ref m) := by rw [← elv]; rfl
  have l1 : lv.lookup 1 = some (.ref a) := by rw [← elv]; rfl
  have l2 : lv.lookup 2 = some (.int (nI p)) := by rw [← elv]; rfl
  have l3 : lv.lookup 3 = some (.int h) := by rw [← elv]; rfl
  have l4 : lv.lookup 4 = some (.int (bz o)) := by rw [← elv]; rfl
  clear elv
  refine g_ald (pc' := 1) cd_Me_accept rfl (Or.inr ⟨_, rfl, rfl, rfl⟩) l1 rfl rfl ?_
  refine g_ild (pc' := 2) cd_Me_accept rfl (Or.inr ⟨_, rfl, rfl, rfl⟩) l3 rfl ?_
  refine g_k1 (v := 1) (pc' := 3) cd_Me_accept rfl (by decide) rfl ?_
  refine g_calli (pc' := 6) cd_Me_accept rfl rfl rfl rfl rfl (tm_invV rfl rfl cd_Te_numberOf rfl (Nat.le_of_ble_eq_true rfl) (by decide) hT.1.1.1 hT.1.1.2) (t_numberOf (i := 1) hT hh (by decide) ?_)
  show bm_G _ _ _ 6 _ [.int (nu H 1)] B _
  refine g_ist (pc' := 8) cd_Me_accept rfl (Or.inl ⟨rfl, rfl⟩) (by decide) rfl (fun lv el => ?_)
  have l0 := tm_lk el l0 rfl (by decide)
  have l1 := tm_lk el l1 rfl (by decide)
  have l2 := tm_lk el l2 rfl (by decide)
  have l3 := tm_lk el l3 rfl (by decide)
  have l4 := tm_lk el l4 rfl (by decide)
  have l5 : lv.lookup 5 = some (.int (nu H 1)) := tm_lks el
  clear el
  refine g_ild (pc' := 9) cd_Me_accept rfl (Or.inr ⟨_, rfl, rfl, rfl⟩) l2 rfl ?_
  refine g_k1 (v := 2) (pc' := 10) cd_Me_accept rfl (by decide) rfl ?_
  refine g_pure (pc' := 11) (st' := [.int ((nI p) * 2)]) cd_Me_accept rfl rfl (fun _ _ => rfl) ?_
  rw [show ((nI p) * 2 : Int32) = nI (p * 2) from pk_mul p 2]
  refine g_ist (pc' := 13) cd_Me_accept rfl (Or.inl ⟨rfl, rfl⟩) (by decide) rfl (fun lv el => ?_)
  have l0 := tm_lk el l0 rfl (by decide)
  have l1 := tm_lk el l1 rfl (by decide)
  have l2 := tm_lk el l2 rfl (by decide)
  have l3 := tm_lk el l3 rfl (by decide)
  have l4 := tm_lk el l4 rfl (by decide)
  have l5 := tm_lk el l5 rfl (by decide)
  have l6 : lv.lookup 6 = some (.int (nI (p * 2))) := tm_lks el
  clear el
  refine g_k1 (v := 0) (pc' := 14) cd_Me_accept rfl (by decide) rfl ?_
  refine g_ist (pc' := 16) cd_Me_accept rfl (Or.inl ⟨rfl, rfl⟩) (by decide) rfl (fun lv el => ?_)
  have l0 := tm_lk el l0 rfl (by decide)
  have l1 := tm_lk el l1 rfl (by decide)
  have l2 := tm_lk el l2 rfl (by decide)
  have l3 := tm_lk el l3 rfl (by decide)
  have l4 := tm_lk el l4 rfl (by decide)
  have l5 := tm_lk el l5 rfl (by decide)
  have l6 := tm_lk el l6 rfl (by decide)
  have l7 : lv.lookup 7 = some (.int 0) := tm_lks el
  clear el
  refine g_ild (pc' := 18) cd_Me_accept rfl (Or.inl ⟨rfl, rfl⟩) l7 rfl ?_
  refine g_ald (pc' := 19) cd_Me_accept rfl (Or.inr ⟨_, rfl, rfl, rfl⟩) l0 rfl rfl ?_
  refine g_fR (c := 5) (k := 0) (x := (m + 1)) (pc' := 22) cd_Me_accept rfl rfl rfl rfl rfl (by decide) hR.1.1.1 hR.1.1.2 hR.1.2.1.1 ?_
  refine g_ild (pc' := 23) cd_Me_accept rfl (Or.inr ⟨_, rfl, rfl, rfl⟩) l2 rfl ?_
  refine g_aI (x := 0) (pc' := 24) cd_Me_accept rfl rfl hR.1.2.2.1.1 hR.1.2.2.1.2.1 (by rw [show bm_AL B (m + 1) = 6 from hR.1.2.2.1.2.2]; exact vp_in_nI (by omega) (by decide)) (by rw [nI_clamp (by omega)]; exact a1) ?_
  refine g_if2 (t := 52) (pc' := 27) cd_Me_accept rfl rfl rfl (fun c24 => ?_) (fun c24 => ?_)
  · have c24 : (0 : Int32) ≤ 0 := c24
    refine g_ald (pc' := 53) cd_Me_accept rfl (Or.inr ⟨_, rfl, rfl, rfl⟩) l0 rfl rfl ?_
    refine g_fR (c := 5) (k := 1) (x := (m + 2)) (pc' := 56) cd_Me_accept rfl rfl rfl rfl rfl (by decide) hR.1.1.1 hR.1.1.2 hR.1.2.1.2 ?_
    refine g_ild (pc' := 58) cd_Me_accept rfl (Or.inl ⟨rfl, rfl⟩) l6 rfl ?_
    refine g_k1 (v := 2) (pc' := 59) cd_Me_accept rfl (by decide) rfl ?_
    refine g_pure (pc' := 60) (st' := [.int ((nI (p * 2)) + 2), .ref ((m + 2))]) cd_Me_accept rfl rfl (fun _ _ => rfl) ?_
    rw [show ((nI (p * 2)) + 2 : Int32) = nI ((p * 2) + 2) from nI_add (p * 2) 2]
    refine g_k1 (v := 1) (pc' := 61) cd_Me_accept rfl (by decide) rfl ?_
    refine g_pure (pc' := 62) (st' := [.int ((nI ((p * 2) + 2)) - 1), .ref ((m + 2))]) cd_Me_accept rfl rfl (fun _ _ => rfl) ?_
    rw [show ((nI ((p * 2) + 2)) - 1 : Int32) = nI (((p * 2) + 2) - 1) from pk_sub (a := ((p * 2) + 2)) (b := 1) (by omega)]
    refine g_aR (t := 7) (x := (gA m w p 1)) (pc' := 63) cd_Me_accept rfl rfl hR.1.2.2.2.1 hR.1.2.2.2.2.1 (by decide) rfl rfl (by rw [show bm_AL B (m + 2) = 12 from hR.1.2.2.2.2.2]; exact vp_in_nI (by omega) (by decide)) (by rw [nI_clamp (by omega), show (((p * 2) + 2) - 1) = 2 * p + 1 by omega]; exact a4) ?_
    refine g_ast (pc' := 65) cd_Me_accept rfl (Or.inl ⟨rfl, rfl⟩) rfl (by decide) rfl (fun lv el => ?_)
    have l0 := tm_lk el l0 rfl (by decide)
    have l1 := tm_lk el l1 rfl (by decide)
    have l2 := tm_lk el l2 rfl (by decide)
    have l3 := tm_lk el l3 rfl (by decide)
    have l4 := tm_lk el l4 rfl (by decide)
    have l5 := tm_lk el l5 rfl (by decide)
    have l6 := tm_lk el l6 rfl (by decide)
    have l7 : lv.lookup 7 = some (.ref ((gA m w p 1))) := tm_lks el
    clear el
    refine g_ald (pc' := 66) cd_Me_accept rfl (Or.inr ⟨_, rfl, rfl, rfl⟩) l0 rfl rfl ?_
    refine g_fR (c := 5) (k := 1) (x := (m + 2)) (pc' := 69) cd_Me_accept rfl rfl rfl rfl rfl (by decide) hR.1.1.1 hR.1.1.2 hR.1.2.1.2 ?_
    refine g_ild (pc' := 71) cd_Me_accept rfl (Or.inl ⟨rfl, rfl⟩) l6 rfl ?_
    refine g_k1 (v := 1) (pc' := 72) cd_Me_accept rfl (by decide) rfl ?_
    refine g_pure (pc' := 73) (st' := [.int ((nI (p * 2)) + 1), .ref ((m + 2))]) cd_Me_accept rfl rfl (fun _ _ => rfl) ?_
    rw [show ((nI (p * 2)) + 1 : Int32) = nI ((p * 2) + 1) from nI_add (p * 2) 1]
    refine g_ald (pc' := 74) cd_Me_accept rfl (Or.inr ⟨_, rfl, rfl, rfl⟩) l0 rfl rfl ?_
    refine g_fR (c := 5) (k := 1) (x := (m + 2)) (pc' := 77) cd_Me_accept rfl rfl rfl rfl rfl (by decide) hR.1.1.1 hR.1.1.2 hR.1.2.1.2 ?_
    refine g_ild (pc' := 79) cd_Me_accept rfl (Or.inl ⟨rfl, rfl⟩) l6 rfl ?_
    refine g_aR (t := 7) (x := (gA m w p 0)) (pc' := 80) cd_Me_accept rfl rfl hR.1.2.2.2.1 hR.1.2.2.2.2.1 (by decide) rfl rfl (by rw [show bm_AL B (m + 2) = 12 from hR.1.2.2.2.2.2]; exact vp_in_nI (by omega) (by decide)) (by rw [nI_clamp (by omega), show (p * 2) = 2 * p + 0 by omega]; exact a3) ?_
    refine g_aast (t := 7) (pc' := 81) cd_Me_accept rfl rfl hR.1.2.2.2.1 hR.1.2.2.2.2.1 (by decide) rfl rfl b0.1.1.1 b0.1.1.2 (by rw [show bm_AL B (m + 2) = 12 from hR.1.2.2.2.2.2]; exact vp_in_nI (by omega) (by decide)) ?_
    rw [show (nI ((p * 2) + 1)).toNatClampNeg = 2 * p + 1 from (nI_clamp (by omega)).trans (by omega)]
    refine g_ald (pc' := 82) cd_Me_accept rfl (Or.inr ⟨_, rfl, rfl, rfl⟩) l0 rfl rfl ?_
    refine g_fR (c := 5) (k := 1) (x := (m + 2)) (pc' := 85) cd_Me_accept rfl rfl rfl rfl rfl (by decide) hR.1.1.1 hR.1.1.2 hR.1.2.1.2 ?_
    refine g_ild (pc' := 87) cd_Me_accept rfl (Or.inl ⟨rfl, rfl⟩) l6 rfl ?_
    refine g_ald (pc' := 89) cd_Me_accept rfl (Or.inl ⟨rfl, rfl⟩) l7 rfl rfl ?_
    refine g_aast (t := 7) (pc' := 90) cd_Me_accept rfl rfl hR.1.2.2.2.1 hR.1.2.2.2.2.1 (by decide) rfl rfl b1.1.1.1 b1.1.1.2 (by rw [show bm_AL (bm_setR B (m + 2) (2 * p + 1) (some (gA m w p 0))) (m + 2) = 12 from hR.1.2.2.2.2.2]; exact vp_in_nI (by omega) (by decide)) ?_
    rw [show (nI (p * 2)).toNatClampNeg = 2 * p from (nI_clamp (by omega)).trans (by omega)]
    refine g_ald (pc' := 92) cd_Me_accept rfl (Or.inl ⟨rfl, rfl⟩) l7 rfl rfl ?_
    refine g_ild (pc' := 94) cd_Me_accept rfl (Or.inl ⟨rfl, rfl⟩) l5 rfl ?_
    refine g_putI (c := 1) (k := 1) (pc' := 97) cd_Me_accept rfl rfl rfl rfl (by simp [tm_okV, narrow, fits]) (Or.inl rfl) rfl (by decide) b1.1.1.1 b1.1.1.2 ?_
    have P1 : bm_FI (bm_putI (bm_setR (bm_setR B (m + 2) (2 * p + 1) (some (gA m w p 0))) (m + 2) (2 * p) (some (gA m w p 1))) 1 1 (gA m w p 1) (nu H 1)) 1 1 (gA m w p 1) = nu H 1 := if_pos ⟨rfl, rfl, rfl⟩
    refine g_ald (pc' := 99) cd_Me_accept rfl (Or.inl ⟨rfl, rfl⟩) l7 rfl rfl ?_
    refine g_ild (pc' := 101) cd_Me_accept rfl (Or.inl ⟨rfl, rfl⟩) l4 rfl ?_
    refine g_putI (c := 1) (k := 2) (pc' := 104) cd_Me_accept rfl rfl rfl rfl (by cases o <;> decide) (Or.inl rfl) rfl (by decide) b1.1.1.1 b1.1.1.2 ?_
    have P2 : bm_FI (bm_putI (bm_putI (bm_setR (bm_setR B (m + 2) (2 * p + 1) (some (gA m w p 0))) (m + 2) (2 * p) (some (gA m w p 1))) 1 1 (gA m w p 1) (nu H 1)) 1 2 (gA m w p 1) (bz o)) 1 2 (gA m w p 1) = bz o := if_pos ⟨rfl, rfl, rfl⟩
    have hzA : fz (fun y => y = m + 2 ∨ y = gA m w p 1) B (bm_putI (bm_putI (bm_setR (bm_setR B (m + 2) (2 * p + 1) (some (gA m w p 0))) (m + 2) (2 * p) (some (gA m w p 1))) 1 1 (gA m w p 1) (nu H 1)) 1 2 (gA m w p 1) (bz o)) := fz_trans (fz_trans (fz_trans ⟨fr_mono (fun _ q => Or.inl q) (fr_setR B (m + 2) (2 * p + 1) _), rfl, rfl⟩ ⟨fr_mono (fun _ q => Or.inl q) (fr_setR _ (m + 2) (2 * p) _), rfl, rfl⟩) ⟨fr_mono (fun _ q => Or.inr q) (fr_putI _ 1 1 _ _), rfl, rfl⟩) ⟨fr_mono (fun _ q => Or.inr q) (fr_putI _ 1 2 _ _), rfl, rfl⟩
    have rA0 : bm_AR (bm_putI (bm_putI (bm_setR (bm_setR B (m + 2) (2 * p + 1) (some (gA m w p 0))) (m + 2) (2 * p) (some (gA m w p 1))) 1 1 (gA m w p 1) (nu H 1)) 1 2 (gA m w p 1) (bz o)) (m + 2) (2 * p) = some (gA m w p 1) := AR_set _ _ _ _
    have rA1 : bm_AR (bm_putI (bm_putI (bm_setR (bm_setR B (m + 2) (2 * p + 1) (some (gA m w p 0))) (m + 2) (2 * p) (some (gA m w p 1))) 1 1 (gA m w p 1) (nu H 1)) 1 2 (gA m w p 1) (bz o)) (m + 2) (2 * p + 1) = some (gA m w p 0) := (AR_setj _ _ _ (by omega)).trans (AR_set _ _ _ _)
    have rAj : ∀ j, j ≠ 2 * p → j ≠ 2 * p + 1 → bm_AR (bm_putI (bm_putI (bm_setR (bm_setR B (m + 2) (2 * p + 1) (some (gA m w p 0))) (m + 2) (2 * p) (some (gA m w p 1))) 1 1 (gA m w p 1) (nu H 1)) 1 2 (gA m w p 1) (bz o)) (m + 2) j = bm_AR B (m + 2) j := fun j e1 e2 => (AR_setj _ _ _ e1).trans (AR_setj _ _ _ e2)
    have fA1 : bm_FI (bm_putI (bm_putI (bm_setR (bm_setR B (m + 2) (2 * p + 1) (some (gA m w p 0))) (m + 2) (2 * p) (some (gA m w p 1))) 1 1 (gA m w p 1) (nu H 1)) 1 2 (gA m w p 1) (bz o)) 1 1 (gA m w p 1) = nu H 1 := P1
    have fA2 : bm_FI (bm_putI (bm_putI (bm_setR (bm_setR B (m + 2) (2 * p + 1) (some (gA m w p 0))) (m + 2) (2 * p) (some (gA m w p 1))) 1 1 (gA m w p 1) (nu H 1)) 1 2 (gA m w p 1) (bz o)) 1 2 (gA m w p 1) = bz o := P2
    have hTA : TI (bm_putI (bm_putI (bm_setR (bm_setR B (m + 2) (2 * p + 1) (some (gA m w p 0))) (m + 2) (2 * p) (some (gA m w p 1))) 1 1 (gA m w p 1) (nu H 1)) 1 2 (gA m w p 1) (bz o)) a ca ba da rm dr T := TI_fr hT hzA.1 (fun q => hn _ (by omega) (by omega) (Or.inl rfl)) (fun q => hn _ (by omega) (by omega) (Or.inr (Or.inl rfl))) (fun q => hn _ (by omega) (by omega) (Or.inr (Or.inr (Or.inl rfl))))
    generalize (bm_putI (bm_putI (bm_setR (bm_setR B (m + 2) (2 * p + 1) (some (gA m w p 0))) (m + 2) (2 * p) (some (gA m w p 1))) 1 1 (gA m w p 1) (nu H 1)) 1 2 (gA m w p 1) (bz o)) = BA at hzA rA0 rA1 rAj fA1 fA2 hTA ⊢
    refine g_ald (pc' := 106) cd_Me_accept rfl (Or.inl ⟨rfl, rfl⟩) l7 rfl rfl ?_
    refine g_fR (c := 1) (k := 0) (x := (gA m w p 1 + 1)) (pc' := 109) cd_Me_accept rfl rfl rfl rfl rfl (by decide) (fr_lt hzA.1 b1.1.1.1) ((fr_K hzA.1 b1.1.1.1).trans b1.1.1.2) ((fr_FS hzA.1 b1.1.1.1 1 0 rfl).trans b1.1.2) ?_
    refine g_ald (pc' := 110) cd_Me_accept rfl (Or.inr ⟨_, rfl, rfl, rfl⟩) l1 rfl rfl ?_
    refine g_ild (pc' := 111) cd_Me_accept rfl (Or.inr ⟨_, rfl, rfl, rfl⟩) l3 rfl ?_
    refine g_k1 (v := 1) (pc' := 112) cd_Me_accept rfl (by decide) rfl ?_
    refine g_calli (pc' := 115) cd_Me_accept rfl rfl rfl rfl rfl (tm_invV rfl rfl cd_Te_partOf rfl (Nat.le_of_ble_eq_true rfl) (by decide) (fr_lt hzA.1 hT.1.1.1) ((fr_K hzA.1 hT.1.1.1).trans hT.1.1.2)) (t_partOf (i := 1) hTA hh (by decide) (fun r3 ht3 => ?_))
    show bm_G _ _ _ 115 _ [.int r3, .ref ((gA m w p 1 + 1))] BA _
    refine g_ald (pc' := 116) cd_Me_accept rfl (Or.inr ⟨_, rfl, rfl, rfl⟩) l1 rfl rfl ?_
    refine g_ild (pc' := 117) cd_Me_accept rfl (Or.inr ⟨_, rfl, rfl, rfl⟩) l3 rfl ?_
    refine g_k1 (v := 0) (pc' := 118) cd_Me_accept rfl (by decide) rfl ?_
    refine g_calli (pc' := 121) cd_Me_accept rfl rfl rfl rfl rfl (tm_invV rfl rfl cd_Te_partOf rfl (Nat.le_of_ble_eq_true rfl) (by decide) (fr_lt hzA.1 hT.1.1.1) ((fr_K hzA.1 hT.1.1.1).trans hT.1.1.2)) (t_partOf (i := 0) hTA hh (by decide) (fun r4 ht4 => ?_))
    show bm_G _ _ _ 121 _ [.int r4, .int r3, .ref ((gA m w p 1 + 1))] BA _
    refine g_ald (pc' := 122) cd_Me_accept rfl (Or.inr ⟨_, rfl, rfl, rfl⟩) l1 rfl rfl ?_
    refine g_ild (pc' := 123) cd_Me_accept rfl (Or.inr ⟨_, rfl, rfl, rfl⟩) l3 rfl ?_
    refine g_k1 (v := 2) (pc' := 124) cd_Me_accept rfl (by decide) rfl ?_
    refine g_calli (pc' := 127) cd_Me_accept rfl rfl rfl rfl rfl (tm_invV rfl rfl cd_Te_numberOf rfl (Nat.le_of_ble_eq_true rfl) (by decide) (fr_lt hzA.1 hT.1.1.1) ((fr_K hzA.1 hT.1.1.1).trans hT.1.1.2)) (t_numberOf (i := 2) hTA hh (by decide) ?_)
    show bm_G _ _ _ 127 _ [.int (nu H 2), .int r4, .int r3, .ref ((gA m w p 1 + 1))] BA _
    refine g_callv (pc' := 130) cd_Me_accept rfl rfl rfl rfl rfl (tm_invV rfl rfl cd_In_start rfl (Nat.le_of_ble_eq_true rfl) (by decide) (fr_lt hzA.1 b1.2.1.1.1.1) ((fr_K hzA.1 b1.2.1.1.1.1).trans b1.2.1.1.1.2)) (t_Istart (c := X1.1.2.2.2.length) ⟨(InS_fr b1.2.1.1 hzA.1).1, (InS_fr b1.2.1.1 hzA.1).2.1, (InS_fr b1.2.1.1 hzA.1).2.2, (fr_FI hzA.1 b1.2.1.1.1.1 (by omega) 2 1).trans b1.2.1.2.1.1, b1.2.1.2.1.2⟩ ht3 ht4 (fun BB hIB hzB => ?_))
    have hai : bm_AI BB (m + 1) = bm_AI B (m + 1) := (fr_AI hzB.1 (fr_lt hzA.1 hR.1.2.2.1.1) (by omega)).trans (fr_AI hzA.1 hR.1.2.2.1.1 (by omega))
    show bm_G _ _ _ 130 _ [] BB _
    refine g_ald (pc' := 131) cd_Me_accept rfl (Or.inr ⟨_, rfl, rfl, rfl⟩) l0 rfl rfl ?_
    refine g_fR (c := 5) (k := 0) (x := (m + 1)) (pc' := 134) cd_Me_accept rfl rfl rfl rfl rfl (by decide) (fr_lt hzB.1 (fr_lt hzA.1 hR.1.1.1)) ((fr_K hzB.1 (fr_lt hzA.1 hR.1.1.1)).trans ((fr_K hzA.1 hR.1.1.1).trans hR.1.1.2)) ((fr_FS hzB.1 (fr_lt hzA.1 hR.1.1.1) 5 0 rfl).trans ((fr_FS hzA.1 hR.1.1.1 5 0 rfl).trans hR.1.2.1.1)) ?_
    refine g_ild (pc' := 135) cd_Me_accept rfl (Or.inr ⟨_, rfl, rfl, rfl⟩) l2 rfl ?_
    refine g_ald (pc' := 136) cd_Me_accept rfl (Or.inr ⟨_, rfl, rfl, rfl⟩) l0 rfl rfl ?_
    refine g_fR (c := 5) (k := 0) (x := (m + 1)) (pc' := 139) cd_Me_accept rfl rfl rfl rfl rfl (by decide) (fr_lt hzB.1 (fr_lt hzA.1 hR.1.1.1)) ((fr_K hzB.1 (fr_lt hzA.1 hR.1.1.1)).trans ((fr_K hzA.1 hR.1.1.1).trans hR.1.1.2)) ((fr_FS hzB.1 (fr_lt hzA.1 hR.1.1.1) 5 0 rfl).trans ((fr_FS hzA.1 hR.1.1.1 5 0 rfl).trans hR.1.2.1.1)) ?_
    refine g_ild (pc' := 140) cd_Me_accept rfl (Or.inr ⟨_, rfl, rfl, rfl⟩) l2 rfl ?_
    refine g_aI (x := 0) (pc' := 141) cd_Me_accept rfl rfl (fr_lt hzB.1 (fr_lt hzA.1 hR.1.2.2.1.1)) ((fr_K hzB.1 (fr_lt hzA.1 hR.1.2.2.1.1)).trans ((fr_K hzA.1 hR.1.2.2.1.1).trans hR.1.2.2.1.2.1)) (by rw [show bm_AL BB (m + 1) = 6 from ((fr_AL hzB.1 (fr_lt hzA.1 hR.1.2.2.1.1)).trans ((fr_AL hzA.1 hR.1.2.2.1.1).trans hR.1.2.2.1.2.2))]; exact vp_in_nI (by omega) (by decide)) (by rw [show bm_AI BB (m + 1) = bm_AI B (m + 1) from hai, nI_clamp (by omega)]; exact a1) ?_
    refine g_k1 (v := 1) (pc' := 142) cd_Me_accept rfl (by decide) rfl ?_
    refine g_pure (pc' := 143) (st' := [.int (0 + 1), .int (nI p), .ref ((m + 1))]) cd_Me_accept rfl rfl (fun _ _ => rfl) ?_
    rw [show (0 + 1 : Int32) = 1 from by decide]
    refine g_k1 (v := 2) (pc' := 144) cd_Me_accept rfl (by decide) rfl ?_
    refine g_min (pc' := 147) cd_Me_accept rfl rfl rfl rfl ?_
    rw [show (if (2 : Int32) < 1 then (2 : Int32) else 1) = 1 from by decide]
    refine g_iast (pc' := 148) cd_Me_accept rfl rfl (fr_lt hzB.1 (fr_lt hzA.1 hR.1.2.2.1.1)) ((fr_K hzB.1 (fr_lt hzA.1 hR.1.2.2.1.1)).trans ((fr_K hzA.1 hR.1.2.2.1.1).trans hR.1.2.2.1.2.1)) (by rw [show bm_AL BB (m + 1) = 6 from ((fr_AL hzB.1 (fr_lt hzA.1 hR.1.2.2.1.1)).trans ((fr_AL hzA.1 hR.1.2.2.1.1).trans hR.1.2.2.1.2.2))]; exact vp_in_nI (by omega) (by decide)) ?_
    rw [show (nI p : Int32).toNatClampNeg = p from nI_clamp (by omega)]
    have A5 : bm_AI (bm_setI BB (m + 1) p 1) (m + 1) = (upd (bm_AI B (m + 1)) p 1) := ((AI_set BB (m + 1) p 1).trans (congrArg (fun f => upd f p 1) (show bm_AI BB (m + 1) = (bm_AI B (m + 1)) from hai)))
    have hAI : bm_AI (bm_setI BB (m + 1) p 1) (m + 1) = upd (bm_AI B (m + 1)) p 1 := A5
    have hzC : fz (fun y => y = m + 1 ∨ y = m + 2 ∨ (gA m w p 1 ≤ y ∧ y < gA m w p 1 + 3)) B (bm_setI BB (m + 1) p 1) := fz_trans (fz_trans (fz_mono (fun y q => by omega) hzA) (fz_mono (fun y q => by omega) hzB)) ⟨fr_mono (fun y q => Or.inl q) (fr_setI BB (m + 1) p _), rfl, rfl⟩
    have hGv : RGv BB T (gA m w p 1) ((pt H 1, pt H 0, nu H 2, []), nu H 1, o) := ⟨⟨⟨fr_lt hzB.1 (fr_lt hzA.1 b1.1.1.1), (fr_K hzB.1 (fr_lt hzA.1 b1.1.1.1)).trans ((fr_K hzA.1 b1.1.1.1).trans b1.1.1.2)⟩, (fr_FS hzB.1 (fr_lt hzA.1 b1.1.1.1) 1 0 rfl).trans ((fr_FS hzA.1 b1.1.1.1 1 0 rfl).trans b1.1.2)⟩, hIB, (fr_FI hzB.1 (fr_lt hzA.1 b1.1.1.1) (by omega) 1 1).trans fA1, (fr_FI hzB.1 (fr_lt hzA.1 b1.1.1.1) (by omega) 1 2).trans fA2⟩
    have hGw := RGv_fr hGv (fr_setI BB (m + 1) p 1) (by omega) (by omega) (by omega) (List.prefix_refl T)
    have eB : bm_AR (bm_setI BB (m + 1) p 1) (m + 2) = bm_AR BA (m + 2) := fr_AR hzB.1 (fr_lt hzA.1 hR.1.2.2.2.1) (by omega)
    have hF := RGs_flip (n := 1) hR.1 hp hR.2.2 hzC.1 (by rw [eB]; exact rA0) (by rw [eB]; exact rA1) (fun j e1 e2 => by rw [eB]; exact rAj j e1 e2) (by rw [hAI]; exact if_pos rfl) (fun j hj => by rw [hAI]; exact if_neg hj) (by decide) b0 hGw
    have hM := RMs_fr hR.1 hR.2.1 hzC.1 (by omega) (List.prefix_refl T)
    have hE : ([((pt H 1, pt H 0, nu H 2, []), nu H 1, o), X0] : List GV).take 1 = (((pt H 1, pt H 0, nu H 2, []), nu H 1, o) :: (gv p).take 1) := by rw [hl]; rfl
    rw [hE] at hF
    exact g_retv cd_Me_accept rfl ⟨rfl, (kk1 _ _ (by rw [hl]; exact all0) ⟨MeS_fr hR.1 hzC.1, hM, hF⟩ (fz_mono (fun y q => by omega) hzC))⟩
  · exact absurd (show ¬ (0 : Int32) ≤ 0 from c24) (by decide)
theorem t_accept1 {sc : tm_X} {d a ca ba da rm dr m : Nat} {B : bm_H} {T : List Tm} {w : Nat → Bool} {ve ma go ge : Int32} {ch si : Tm} {ix ga : Int32} {sl : Bool} {gv : Nat → List GV} {p : Nat} {h : Int32} {H : Tm} {o : Bool} {Q : bm_H → Prop} (hT : TI B a ca ba da rm dr T) (hR : RMe B T m w (ve, ma, go, ge, ch, si, ix, ga, sl, gv)) (hp : p < 6) (hh : tv T h H) (kk0 : (∃ (k : Nat) (G : GV), (gv p)[k]? = some G ∧ nu H 1 ≤ G.2.1) → Q B) (kk1 : ∀ B' w', (∀ (k : Nat) (G : GV), (gv p)[k]? = some G → ¬ nu H 1 ≤ G.2.1) → RMe B' T m w' (mm_set (ve, ma, go, ge, ch, si, ix, ga, sl, gv) p (((pt H 1, pt H 0, nu H 2, []), nu H 1, o) :: (gv p).take 1)) → fz (fun y => m + 1 ≤ y ∧ y < m + 39) B B' → Q B') (hn : ∀ y, m ≤ y → y < m + 39 → ¬ tcs a ca ba da y) {G0 : GV} (hl : gv p = [G0]) : bm_Gv sc (d + 2) 121 [.ref m, .ref a, .int (nI p), .int h, .int (bz o)] B Q := by
  obtain ⟨⟨a1, a2⟩, ⟨a3, a4⟩, X0, X1, b0, b1, b2⟩ := hR.2.2 p hp
  have i0 := gA_in m w hp (k := 0) (by decide)
  have i1 := gA_in m w hp (k := 1) (by decide)
  have i01 := gA_01 m w p
  change bm_AI B (m + 1) p = nI (gv p).length at a1
  change gv p = [X0, X1].take (gv p).length at b2
  rw [hl] at a1 b2
  have hG0 : G0 = X0 := by simp at b2; exact b2
  subst hG0
  show bm_G sc (d + 2) 121 0 [(0, .ref m), (1, .ref a), (2, .int (nI p)), (3, .int h), (4, .int (bz o))] [] B _
  generalize elv : ([(0, .ref m), (1, .ref a), (2, .int (nI p)), (3, .int h), (4, .int (bz o))] : tm_L) = lv
  have l0 : lv.lookup 0 = some (.ref m) := by rw [← elv]; rfl
  have l1 : lv.lookup 1 = some (.ref a) := by rw [← elv]; rfl
  have l2 : lv.lookup 2 = some (.int (nI p)) := by rw [← elv]; rfl
  have l3 : lv.lookup 3 = some (.int h) := by rw [← elv]; rfl
  have l4 : lv.lookup 4 = some (.int (bz o)) := by rw [← elv]; rfl
  clear elv
  refine g_ald (pc' := 1) cd_Me_accept rfl (Or.inr ⟨_, rfl, rfl, rfl⟩) l1 rfl rfl ?_
  refine g_ild (pc' := 2) cd_Me_accept rfl (Or.inr ⟨_, rfl, rfl, rfl⟩) l3 rfl ?_
  refine g_k1 (v := 1) (pc' := 3) cd_Me_accept rfl (by decide) rfl ?_
  refine g_calli (pc' := 6) cd_Me_accept rfl rfl rfl rfl rfl (tm_invV rfl rfl cd_Te_numberOf rfl (Nat.le_of_ble_eq_true rfl) (by decide) hT.1.1.1 hT.1.1.2) (t_numberOf (i := 1) hT hh (by decide) ?_)
  show bm_G _ _ _ 6 _ [.int (nu H 1)] B _
  refine g_ist (pc' := 8) cd_Me_accept rfl (Or.inl ⟨rfl, rfl⟩) (by decide) rfl (fun lv el => ?_)
  have l0 := tm_lk el l0 rfl (by decide)
  have l1 := tm_lk el l1 rfl (by decide)
  have l2 := tm_lk el l2 rfl (by decide)
  have l3 := tm_lk el l3 rfl (by decide)
  have l4 := tm_lk el l4 rfl (by decide)
  have l5 : lv.lookup 5 = some (.int (nu H 1)) := tm_lks el
  clear el
  refine g_ild (pc' := 9) cd_Me_accept rfl (Or.inr ⟨_, rfl, rfl, rfl⟩) l2 rfl ?_
  refine g_k1 (v := 2) (pc' := 10) cd_Me_accept rfl (by decide) rfl ?_
  refine g_pure (pc' := 11) (st' := [.int ((nI p) * 2)]) cd_Me_accept rfl rfl (fun _ _ => rfl) ?_
  rw [show ((nI p) * 2 : Int32) = nI (p * 2) from pk_mul p 2]
  refine g_ist (pc' := 13) cd_Me_accept rfl (Or.inl ⟨rfl, rfl⟩) (by decide) rfl (fun lv el => ?_)
  have l0 := tm_lk el l0 rfl (by decide)
  have l1 := tm_lk el l1 rfl (by decide)
  have l2 := tm_lk el l2 rfl (by decide)
  have l3 := tm_lk el l3 rfl (by decide)
  have l4 := tm_lk el l4 rfl (by decide)
  have l5 := tm_lk el l5 rfl (by decide)
  have l6 : lv.lookup 6 = some (.int (nI (p * 2))) := tm_lks el
  clear el
  refine g_k1 (v := 0) (pc' := 14) cd_Me_accept rfl (by decide) rfl ?_
  refine g_ist (pc' := 16) cd_Me_accept rfl (Or.inl ⟨rfl, rfl⟩) (by decide) rfl (fun lv el => ?_)
  have l0 := tm_lk el l0 rfl (by decide)
  have l1 := tm_lk el l1 rfl (by decide)
  have l2 := tm_lk el l2 rfl (by decide)
  have l3 := tm_lk el l3 rfl (by decide)
  have l4 := tm_lk el l4 rfl (by decide)
  have l5 := tm_lk el l5 rfl (by decide)
  have l6 := tm_lk el l6 rfl (by decide)
  have l7 : lv.lookup 7 = some (.int 0) := tm_lks el
  clear el
  refine g_ild (pc' := 18) cd_Me_accept rfl (Or.inl ⟨rfl, rfl⟩) l7 rfl ?_
  refine g_ald (pc' := 19) cd_Me_accept rfl (Or.inr ⟨_, rfl, rfl, rfl⟩) l0 rfl rfl ?_
  refine g_fR (c := 5) (k := 0) (x := (m + 1)) (pc' := 22) cd_Me_accept rfl rfl rfl rfl rfl (by decide) hR.1.1.1 hR.1.1.2 hR.1.2.1.1 ?_
  refine g_ild (pc' := 23) cd_Me_accept rfl (Or.inr ⟨_, rfl, rfl, rfl⟩) l2 rfl ?_
  refine g_aI (x := 1) (pc' := 24) cd_Me_accept rfl rfl hR.1.2.2.1.1 hR.1.2.2.1.2.1 (by rw [show bm_AL B (m + 1) = 6 from hR.1.2.2.1.2.2]; exact vp_in_nI (by omega) (by decide)) (by rw [nI_clamp (by omega)]; exact a1) ?_
  refine g_if2 (t := 52) (pc' := 27) cd_Me_accept rfl rfl rfl (fun c24 => ?_) (fun c24 => ?_)
  · exact absurd (show (1 : Int32) ≤ 0 from c24) (by decide)
  · have c24 : ¬ (1 : Int32) ≤ 0 := c24
    refine g_ald (pc' := 28) cd_Me_accept rfl (Or.inr ⟨_, rfl, rfl, rfl⟩) l0 rfl rfl ?_
    refine g_fR (c := 5) (k := 1) (x := (m + 2)) (pc' := 31) cd_Me_accept rfl rfl rfl rfl rfl (by decide) hR.1.1.1 hR.1.1.2 hR.1.2.1.2 ?_
    refine g_ild (pc' := 33) cd_Me_accept rfl (Or.inl ⟨rfl, rfl⟩) l6 rfl ?_
    refine g_ild (pc' := 35) cd_Me_accept rfl (Or.inl ⟨rfl, rfl⟩) l7 rfl ?_
    refine g_pure (pc' := 36) (st' := [.int ((nI (p * 2)) + 0), .ref ((m + 2))]) cd_Me_accept rfl rfl (fun _ _ => rfl) ?_
    rw [show ((nI (p * 2)) + 0 : Int32) = nI ((p * 2) + 0) from nI_add (p * 2) 0]
    refine g_aR (t := 7) (x := (gA m w p 0)) (pc' := 37) cd_Me_accept rfl rfl hR.1.2.2.2.1 hR.1.2.2.2.2.1 (by decide) rfl rfl (by rw [show bm_AL B (m + 2) = 12 from hR.1.2.2.2.2.2]; exact vp_in_nI (by omega) (by decide)) (by rw [nI_clamp (by omega), show ((p * 2) + 0) = 2 * p + 0 by omega]; exact a3) ?_
    refine g_fI (c := 1) (k := 1) (x := G0.2.1) (pc' := 40) cd_Me_accept rfl rfl rfl rfl rfl (by decide) b0.1.1.1 b0.1.1.2 b0.2.2.1 ?_
    refine g_ild (pc' := 42) cd_Me_accept rfl (Or.inl ⟨rfl, rfl⟩) l5 rfl ?_
    refine g_if2 (t := 46) (pc' := 45) cd_Me_accept rfl rfl rfl (fun c42 => ?_) (fun c42 => ?_)
    · have c42 : G0.2.1 < (nu H 1) := c42
      have n0 := c42
      refine g_inc (y := 1) (pc' := 49) cd_Me_accept rfl l7 (by decide) (by decide) rfl (fun lv el => ?_)
      have l0 := tm_lk el l0 rfl (by decide)
      have l1 := tm_lk el l1 rfl (by decide)
      have l2 := tm_lk el l2 rfl (by decide)
      have l3 := tm_lk el l3 rfl (by decide)
      have l4 := tm_lk el l4 rfl (by decide)
      have l5 := tm_lk el l5 rfl (by decide)
      have l6 := tm_lk el l6 rfl (by decide)
      have l7 : lv.lookup 7 = some (.int 1) := tm_lks el
      clear el
      refine g_pure (pc' := 16) (st' := []) cd_Me_accept rfl rfl (fun _ _ => rfl) ?_
      refine g_ild (pc' := 18) cd_Me_accept rfl (Or.inl ⟨rfl, rfl⟩) l7 rfl ?_
      refine g_ald (pc' := 19) cd_Me_accept rfl (Or.inr ⟨_, rfl, rfl, rfl⟩) l0 rfl rfl ?_
      refine g_fR (c := 5) (k := 0) (x := (m + 1)) (pc' := 22) cd_Me_accept rfl rfl rfl rfl rfl (by decide) hR.1.1.1 hR.1.1.2 hR.1.2.1.1 ?_
      refine g_ild (pc' := 23) cd_Me_accept rfl (Or.inr ⟨_, rfl, rfl, rfl⟩) l2 rfl ?_
      refine g_aI (x := 1) (pc' := 24) cd_Me_accept rfl rfl hR.1.2.2.1.1 hR.1.2.2.1.2.1 (by rw [show bm_AL B (m + 1) = 6 from hR.1.2.2.1.2.2]; exact vp_in_nI (by omega) (by decide)) (by rw [nI_clamp (by omega)]; exact a1) ?_
      refine g_if2 (t := 52) (pc' := 27) cd_Me_accept rfl rfl rfl (fun c24 => ?_) (fun c24 => ?_)
      · have c24 : (1 : Int32) ≤ 1 := c24
        refine g_ald (pc' := 53) cd_Me_accept rfl (Or.inr ⟨_, rfl, rfl, rfl⟩) l0 rfl rfl ?_
        refine g_fR (c := 5) (k := 1) (x := (m + 2)) (pc' := 56) cd_Me_accept rfl rfl rfl rfl rfl (by decide) hR.1.1.1 hR.1.1.2 hR.1.2.1.2 ?_
        refine g_ild (pc' := 58) cd_Me_accept rfl (Or.inl ⟨rfl, rfl⟩) l6 rfl ?_
        refine g_k1 (v := 2) (pc' := 59) cd_Me_accept rfl (by decide) rfl ?_
        refine g_pure (pc' := 60) (st' := [.int ((nI (p * 2)) + 2), .ref ((m + 2))]) cd_Me_accept rfl rfl (fun _ _ => rfl) ?_
        rw [show ((nI (p * 2)) + 2 : Int32) = nI ((p * 2) + 2) from nI_add (p * 2) 2]
        refine g_k1 (v := 1) (pc' := 61) cd_Me_accept rfl (by decide) rfl ?_
        refine g_pure (pc' := 62) (st' := [.int ((nI ((p * 2) + 2)) - 1), .ref ((m + 2))]) cd_Me_accept rfl rfl (fun _ _ => rfl) ?_
        rw [show ((nI ((p * 2) + 2)) - 1 : Int32) = nI (((p * 2) + 2) - 1) from pk_sub (a := ((p * 2) + 2)) (b := 1) (by omega)]
        refine g_aR (t := 7) (x := (gA m w p 1)) (pc' := 63) cd_Me_accept rfl rfl hR.1.2.2.2.1 hR.1.2.2.2.2.1 (by decide) rfl rfl (by rw [show bm_AL B (m + 2) = 12 from hR.1.2.2.2.2.2]; exact vp_in_nI (by omega) (by decide)) (by rw [nI_clamp (by omega), show (((p * 2) + 2) - 1) = 2 * p + 1 by omega]; exact a4) ?_
        refine g_ast (pc' := 65) cd_Me_accept rfl (Or.inl ⟨rfl, rfl⟩) rfl (by decide) rfl (fun lv el => ?_)
        have l0 := tm_lk el l0 rfl (by decide)
        have l1 := tm_lk el l1 rfl (by decide)
        have l2 := tm_lk el l2 rfl (by decide)
        have l3 := tm_lk el l3 rfl (by decide)
        have l4 := tm_lk el l4 rfl (by decide)
        have l5 := tm_lk el l5 rfl (by decide)
        have l6 := tm_lk el l6 rfl (by decide)
        have l7 : lv.lookup 7 = some (.ref ((gA m w p 1))) := tm_lks el
        clear el
        refine g_ald (pc' := 66) cd_Me_accept rfl (Or.inr ⟨_, rfl, rfl, rfl⟩) l0 rfl rfl ?_
        refine g_fR (c := 5) (k := 1) (x := (m + 2)) (pc' := 69) cd_Me_accept rfl rfl rfl rfl rfl (by decide) hR.1.1.1 hR.1.1.2 hR.1.2.1.2 ?_
        refine g_ild (pc' := 71) cd_Me_accept rfl (Or.inl ⟨rfl, rfl⟩) l6 rfl ?_
        refine g_k1 (v := 1) (pc' := 72) cd_Me_accept rfl (by decide) rfl ?_
        refine g_pure (pc' := 73) (st' := [.int ((nI (p * 2)) + 1), .ref ((m + 2))]) cd_Me_accept rfl rfl (fun _ _ => rfl) ?_
        rw [show ((nI (p * 2)) + 1 : Int32) = nI ((p * 2) + 1) from nI_add (p * 2) 1]
        refine g_ald (pc' := 74) cd_Me_accept rfl (Or.inr ⟨_, rfl, rfl, rfl⟩) l0 rfl rfl ?_
        refine g_fR (c := 5) (k := 1) (x := (m + 2)) (pc' := 77) cd_Me_accept rfl rfl rfl rfl rfl (by decide) hR.1.1.1 hR.1.1.2 hR.1.2.1.2 ?_
        refine g_ild (pc' := 79) cd_Me_accept rfl (Or.inl ⟨rfl, rfl⟩) l6 rfl ?_
        refine g_aR (t := 7) (x := (gA m w p 0)) (pc' := 80) cd_Me_accept rfl rfl hR.1.2.2.2.1 hR.1.2.2.2.2.1 (by decide) rfl rfl (by rw [show bm_AL B (m + 2) = 12 from hR.1.2.2.2.2.2]; exact vp_in_nI (by omega) (by decide)) (by rw [nI_clamp (by omega), show (p * 2) = 2 * p + 0 by omega]; exact a3) ?_
        refine g_aast (t := 7) (pc' := 81) cd_Me_accept rfl rfl hR.1.2.2.2.1 hR.1.2.2.2.2.1 (by decide) rfl rfl b0.1.1.1 b0.1.1.2 (by rw [show bm_AL B (m + 2) = 12 from hR.1.2.2.2.2.2]; exact vp_in_nI (by omega) (by decide)) ?_
        rw [show (nI ((p * 2) + 1)).toNatClampNeg = 2 * p + 1 from (nI_clamp (by omega)).trans (by omega)]
        refine g_ald (pc' := 82) cd_Me_accept rfl (Or.inr ⟨_, rfl, rfl, rfl⟩) l0 rfl rfl ?_
        refine g_fR (c := 5) (k := 1) (x := (m + 2)) (pc' := 85) cd_Me_accept rfl rfl rfl rfl rfl (by decide) hR.1.1.1 hR.1.1.2 hR.1.2.1.2 ?_
        refine g_ild (pc' := 87) cd_Me_accept rfl (Or.inl ⟨rfl, rfl⟩) l6 rfl ?_
        refine g_ald (pc' := 89) cd_Me_accept rfl (Or.inl ⟨rfl, rfl⟩) l7 rfl rfl ?_
        refine g_aast (t := 7) (pc' := 90) cd_Me_accept rfl rfl hR.1.2.2.2.1 hR.1.2.2.2.2.1 (by decide) rfl rfl b1.1.1.1 b1.1.1.2 (by rw [show bm_AL (bm_setR B (m + 2) (2 * p + 1) (some (gA m w p 0))) (m + 2) = 12 from hR.1.2.2.2.2.2]; exact vp_in_nI (by omega) (by decide)) ?_
        rw [show (nI (p * 2)).toNatClampNeg = 2 * p from (nI_clamp (by omega)).trans (by omega)]
        refine g_ald (pc' := 92) cd_Me_accept rfl (Or.inl ⟨rfl, rfl⟩) l7 rfl rfl ?_
        refine g_ild (pc' := 94) cd_Me_accept rfl (Or.inl ⟨rfl, rfl⟩) l5 rfl ?_
        refine g_putI (c := 1) (k := 1) (pc' := 97) cd_Me_accept rfl rfl rfl rfl (by simp [tm_okV, narrow, fits]) (Or.inl rfl) rfl (by decide) b1.1.1.1 b1.1.1.2 ?_
        have P6 : bm_FI (bm_putI (bm_setR (bm_setR B (m + 2) (2 * p + 1) (some (gA m w p 0))) (m + 2) (2 * p) (some (gA m w p 1))) 1 1 (gA m w p 1) (nu H 1)) 1 1 (gA m w p 1) = nu H 1 := if_pos ⟨rfl, rfl, rfl⟩
        refine g_ald (pc' := 99) cd_Me_accept rfl (Or.inl ⟨rfl, rfl⟩) l7 rfl rfl ?_
        refine g_ild (pc' := 101) cd_Me_accept rfl (Or.inl ⟨rfl, rfl⟩) l4 rfl ?_
        refine g_putI (c := 1) (k := 2) (pc' := 104) cd_Me_accept rfl rfl rfl rfl (by cases o <;> decide) (Or.inl rfl) rfl (by decide) b1.1.1.1 b1.1.1.2 ?_
        have P7 : bm_FI (bm_putI (bm_putI (bm_setR (bm_setR B (m + 2) (2 * p + 1) (some (gA m w p 0))) (m + 2) (2 * p) (some (gA m w p 1))) 1 1 (gA m w p 1) (nu H 1)) 1 2 (gA m w p 1) (bz o)) 1 2 (gA m w p 1) = bz o := if_pos ⟨rfl, rfl, rfl⟩
        have hzA : fz (fun y => y = m + 2 ∨ y = gA m w p 1) B (bm_putI (bm_putI (bm_setR (bm_setR B (m + 2) (2 * p + 1) (some (gA m w p 0))) (m + 2) (2 * p) (some (gA m w p 1))) 1 1 (gA m w p 1) (nu H 1)) 1 2 (gA m w p 1) (bz o)) := fz_trans (fz_trans (fz_trans ⟨fr_mono (fun _ q => Or.inl q) (fr_setR B (m + 2) (2 * p + 1) _), rfl, rfl⟩ ⟨fr_mono (fun _ q => Or.inl q) (fr_setR _ (m + 2) (2 * p) _), rfl, rfl⟩) ⟨fr_mono (fun _ q => Or.inr q) (fr_putI _ 1 1 _ _), rfl, rfl⟩) ⟨fr_mono (fun _ q => Or.inr q) (fr_putI _ 1 2 _ _), rfl, rfl⟩
        have rA0 : bm_AR (bm_putI (bm_putI (bm_setR (bm_setR B (m + 2) (2 * p + 1) (some (gA m w p 0))) (m + 2) (2 * p) (some (gA m w p 1))) 1 1 (gA m w p 1) (nu H 1)) 1 2 (gA m w p 1) (bz o)) (m + 2) (2 * p) = some (gA m w p 1) := AR_set _ _ _ _
        have rA1 : bm_AR (bm_putI (bm_putI (bm_setR (bm_setR B (m + 2) (2 * p + 1) (some (gA m w p 0))) (m + 2) (2 * p) (some (gA m w p 1))) 1 1 (gA m w p 1) (nu H 1)) 1 2 (gA m w p 1) (bz o)) (m + 2) (2 * p + 1) = some (gA m w p 0) := (AR_setj _ _ _ (by omega)).trans (AR_set _ _ _ _)
        have rAj : ∀ j, j ≠ 2 * p → j ≠ 2 * p + 1 → bm_AR (bm_putI (bm_putI (bm_setR (bm_setR B (m + 2) (2 * p + 1) (some (gA m w p 0))) (m + 2) (2 * p) (some (gA m w p 1))) 1 1 (gA m w p 1) (nu H 1)) 1 2 (gA m w p 1) (bz o)) (m + 2) j = bm_AR B (m + 2) j := fun j e1 e2 => (AR_setj _ _ _ e1).trans (AR_setj _ _ _ e2)
        have fA1 : bm_FI (bm_putI (bm_putI (bm_setR (bm_setR B (m + 2) (2 * p + 1) (some (gA m w p 0))) (m + 2) (2 * p) (some (gA m w p 1))) 1 1 (gA m w p 1) (nu H 1)) 1 2 (gA m w p 1) (bz o)) 1 1 (gA m w p 1) = nu H 1 := P6
        have fA2 : bm_FI (bm_putI (bm_putI (bm_setR (bm_setR B (m + 2) (2 * p + 1) (some (gA m w p 0))) (m + 2) (2 * p) (some (gA m w p 1))) 1 1 (gA m w p 1) (nu H 1)) 1 2 (gA m w p 1) (bz o)) 1 2 (gA m w p 1) = bz o := P7
        have hTA : TI (bm_putI (bm_putI (bm_setR (bm_setR B (m + 2) (2 * p + 1) (some (gA m w p 0))) (m + 2) (2 * p) (some (gA m w p 1))) 1 1 (gA m w p 1) (nu H 1)) 1 2 (gA m w p 1) (bz o)) a ca ba da rm dr T := TI_fr hT hzA.1 (fun q => hn _ (by omega) (by omega) (Or.inl rfl)) (fun q => hn _ (by omega) (by omega) (Or.inr (Or.inl rfl))) (fun q => hn _ (by omega) (by omega) (Or.inr (Or.inr (Or.inl rfl))))
        generalize (bm_putI (bm_putI (bm_setR (bm_setR B (m + 2) (2 * p + 1) (some (gA m w p 0))) (m + 2) (2 * p) (some (gA m w p 1))) 1 1 (gA m w p 1) (nu H 1)) 1 2 (gA m w p 1) (bz o)) = BA at hzA rA0 rA1 rAj fA1 fA2 hTA ⊢
        refine g_ald (pc' := 106) cd_Me_accept rfl (Or.inl ⟨rfl, rfl⟩) l7 rfl rfl ?_
        refine g_fR (c := 1) (k := 0) (x := (gA m w p 1 + 1)) (pc' := 109) cd_Me_accept rfl rfl rfl rfl rfl (by decide) (fr_lt hzA.1 b1.1.1.1) ((fr_K hzA.1 b1.1.1.1).trans b1.1.1.2) ((fr_FS hzA.1 b1.1.1.1 1 0 rfl).trans b1.1.2) ?_
        refine g_ald (pc' := 110) cd_Me_accept rfl (Or.inr ⟨_, rfl, rfl, rfl⟩) l1 rfl rfl ?_
        refine g_ild (pc' := 111) cd_Me_accept rfl (Or.inr ⟨_, rfl, rfl, rfl⟩) l3 rfl ?_
        refine g_k1 (v := 1) (pc' := 112) cd_Me_accept rfl (by decide) rfl ?_
        refine g_calli (pc' := 115) cd_Me_accept rfl rfl rfl rfl rfl (tm_invV rfl rfl cd_Te_partOf rfl (Nat.le_of_ble_eq_true rfl) (by decide) (fr_lt hzA.1 hT.1.1.1) ((fr_K hzA.1 hT.1.1.1).trans hT.1.1.2)) (t_partOf (i := 1) hTA hh (by decide) (fun r8 ht8 => ?_))
        show bm_G _ _ _ 115 _ [.int r8, .ref ((gA m w p 1 + 1))] BA _
        refine g_ald (pc' := 116) cd_Me_accept rfl (Or.inr ⟨_, rfl, rfl, rfl⟩) l1 rfl rfl ?_
        refine g_ild (pc' := 117) cd_Me_accept rfl (Or.inr ⟨_, rfl, rfl, rfl⟩) l3 rfl ?_
        refine g_k1 (v := 0) (pc' := 118) cd_Me_accept rfl (by decide) rfl ?_
        refine g_calli (pc' := 121) cd_Me_accept rfl rfl rfl rfl rfl (tm_invV rfl rfl cd_Te_partOf rfl (Nat.le_of_ble_eq_true rfl) (by decide) (fr_lt hzA.1 hT.1.1.1) ((fr_K hzA.1 hT.1.1.1).trans hT.1.1.2)) (t_partOf (i := 0) hTA hh (by decide) (fun r9 ht9 => ?_))
        show bm_G _ _ _ 121 _ [.int r9, .int r8, .ref ((gA m w p 1 + 1))] BA _
        refine g_ald (pc' := 122) cd_Me_accept rfl (Or.inr ⟨_, rfl, rfl, rfl⟩) l1 rfl rfl ?_
        refine g_ild (pc' := 123) cd_Me_accept rfl (Or.inr ⟨_, rfl, rfl, rfl⟩) l3 rfl ?_
        refine g_k1 (v := 2) (pc' := 124) cd_Me_accept rfl (by decide) rfl ?_
        refine g_calli (pc' := 127) cd_Me_accept rfl rfl rfl rfl rfl (tm_invV rfl rfl cd_Te_numberOf rfl (Nat.le_of_ble_eq_true rfl) (by decide) (fr_lt hzA.1 hT.1.1.1) ((fr_K hzA.1 hT.1.1.1).trans hT.1.1.2)) (t_numberOf (i := 2) hTA hh (by decide) ?_)
        show bm_G _ _ _ 127 _ [.int (nu H 2), .int r9, .int r8, .ref ((gA m w p 1 + 1))] BA _
        refine g_callv (pc' := 130) cd_Me_accept rfl rfl rfl rfl rfl (tm_invV rfl rfl cd_In_start rfl (Nat.le_of_ble_eq_true rfl) (by decide) (fr_lt hzA.1 b1.2.1.1.1.1) ((fr_K hzA.1 b1.2.1.1.1.1).trans b1.2.1.1.1.2)) (t_Istart (c := X1.1.2.2.2.length) ⟨(InS_fr b1.2.1.1 hzA.1).1, (InS_fr b1.2.1.1 hzA.1).2.1, (InS_fr b1.2.1.1 hzA.1).2.2, (fr_FI hzA.1 b1.2.1.1.1.1 (by omega) 2 1).trans b1.2.1.2.1.1, b1.2.1.2.1.2⟩ ht8 ht9 (fun BB hIB hzB => ?_))
        have hai : bm_AI BB (m + 1) = bm_AI B (m + 1) := (fr_AI hzB.1 (fr_lt hzA.1 hR.1.2.2.1.1) (by omega)).trans (fr_AI hzA.1 hR.1.2.2.1.1 (by omega))
        show bm_G _ _ _ 130 _ [] BB _
        refine g_ald (pc' := 131) cd_Me_accept rfl (Or.inr ⟨_, rfl, rfl, rfl⟩) l0 rfl rfl ?_
        refine g_fR (c := 5) (k := 0) (x := (m + 1)) (pc' := 134) cd_Me_accept rfl rfl rfl rfl rfl (by decide) (fr_lt hzB.1 (fr_lt hzA.1 hR.1.1.1)) ((fr_K hzB.1 (fr_lt hzA.1 hR.1.1.1)).trans ((fr_K hzA.1 hR.1.1.1).trans hR.1.1.2)) ((fr_FS hzB.1 (fr_lt hzA.1 hR.1.1.1) 5 0 rfl).trans ((fr_FS hzA.1 hR.1.1.1 5 0 rfl).trans hR.1.2.1.1)) ?_
        refine g_ild (pc' := 135) cd_Me_accept rfl (Or.inr ⟨_, rfl, rfl, rfl⟩) l2 rfl ?_
        refine g_ald (pc' := 136) cd_Me_accept rfl (Or.inr ⟨_, rfl, rfl, rfl⟩) l0 rfl rfl ?_
        refine g_fR (c := 5) (k := 0) (x := (m + 1)) (pc' := 139) cd_Me_accept rfl rfl rfl rfl rfl (by decide) (fr_lt hzB.1 (fr_lt hzA.1 hR.1.1.1)) ((fr_K hzB.1 (fr_lt hzA.1 hR.1.1.1)).trans ((fr_K hzA.1 hR.1.1.1).trans hR.1.1.2)) ((fr_FS hzB.1 (fr_lt hzA.1 hR.1.1.1) 5 0 rfl).trans ((fr_FS hzA.1 hR.1.1.1 5 0 rfl).trans hR.1.2.1.1)) ?_
        refine g_ild (pc' := 140) cd_Me_accept rfl (Or.inr ⟨_, rfl, rfl, rfl⟩) l2 rfl ?_
        refine g_aI (x := 1) (pc' := 141) cd_Me_accept rfl rfl (fr_lt hzB.1 (fr_lt hzA.1 hR.1.2.2.1.1)) ((fr_K hzB.1 (fr_lt hzA.1 hR.1.2.2.1.1)).trans ((fr_K hzA.1 hR.1.2.2.1.1).trans hR.1.2.2.1.2.1)) (by rw [show bm_AL BB (m + 1) = 6 from ((fr_AL hzB.1 (fr_lt hzA.1 hR.1.2.2.1.1)).trans ((fr_AL hzA.1 hR.1.2.2.1.1).trans hR.1.2.2.1.2.2))]; exact vp_in_nI (by omega) (by decide)) (by rw [show bm_AI BB (m + 1) = bm_AI B (m + 1) from hai, nI_clamp (by omega)]; exact a1) ?_
        refine g_k1 (v := 1) (pc' := 142) cd_Me_accept rfl (by decide) rfl ?_
        refine g_pure (pc' := 143) (st' := [.int (1 + 1), .int (nI p), .ref ((m + 1))]) cd_Me_accept rfl rfl (fun _ _ => rfl) ?_
        rw [show (1 + 1 : Int32) = 2 from by decide]
        refine g_k1 (v := 2) (pc' := 144) cd_Me_accept rfl (by decide) rfl ?_
        refine g_min (pc' := 147) cd_Me_accept rfl rfl rfl rfl ?_
        rw [show (if (2 : Int32) < 2 then (2 : Int32) else 2) = 2 from by decide]
        refine g_iast (pc' := 148) cd_Me_accept rfl rfl (fr_lt hzB.1 (fr_lt hzA.1 hR.1.2.2.1.1)) ((fr_K hzB.1 (fr_lt hzA.1 hR.1.2.2.1.1)).trans ((fr_K hzA.1 hR.1.2.2.1.1).trans hR.1.2.2.1.2.1)) (by rw [show bm_AL BB (m + 1) = 6 from ((fr_AL hzB.1 (fr_lt hzA.1 hR.1.2.2.1.1)).trans ((fr_AL hzA.1 hR.1.2.2.1.1).trans hR.1.2.2.1.2.2))]; exact vp_in_nI (by omega) (by decide)) ?_
        rw [show (nI p : Int32).toNatClampNeg = p from nI_clamp (by omega)]
        have A10 : bm_AI (bm_setI BB (m + 1) p 2) (m + 1) = (upd (bm_AI B (m + 1)) p 2) := ((AI_set BB (m + 1) p 2).trans (congrArg (fun f => upd f p 2) (show bm_AI BB (m + 1) = (bm_AI B (m + 1)) from hai)))
        have hAI : bm_AI (bm_setI BB (m + 1) p 2) (m + 1) = upd (bm_AI B (m + 1)) p 2 := A10
        have hzC : fz (fun y => y = m + 1 ∨ y = m + 2 ∨ (gA m w p 1 ≤ y ∧ y < gA m w p 1 + 3)) B (bm_setI BB (m + 1) p 2) := fz_trans (fz_trans (fz_mono (fun y q => by omega) hzA) (fz_mono (fun y q => by omega) hzB)) ⟨fr_mono (fun y q => Or.inl q) (fr_setI BB (m + 1) p _), rfl, rfl⟩
        have hGv : RGv BB T (gA m w p 1) ((pt H 1, pt H 0, nu H 2, []), nu H 1, o) := ⟨⟨⟨fr_lt hzB.1 (fr_lt hzA.1 b1.1.1.1), (fr_K hzB.1 (fr_lt hzA.1 b1.1.1.1)).trans ((fr_K hzA.1 b1.1.1.1).trans b1.1.1.2)⟩, (fr_FS hzB.1 (fr_lt hzA.1 b1.1.1.1) 1 0 rfl).trans ((fr_FS hzA.1 b1.1.1.1 1 0 rfl).trans b1.1.2)⟩, hIB, (fr_FI hzB.1 (fr_lt hzA.1 b1.1.1.1) (by omega) 1 1).trans fA1, (fr_FI hzB.1 (fr_lt hzA.1 b1.1.1.1) (by omega) 1 2).trans fA2⟩
        have hGw := RGv_fr hGv (fr_setI BB (m + 1) p 2) (by omega) (by omega) (by omega) (List.prefix_refl T)
        have eB : bm_AR (bm_setI BB (m + 1) p 2) (m + 2) = bm_AR BA (m + 2) := fr_AR hzB.1 (fr_lt hzA.1 hR.1.2.2.2.1) (by omega)
        have hF := RGs_flip (n := 2) hR.1 hp hR.2.2 hzC.1 (by rw [eB]; exact rA0) (by rw [eB]; exact rA1) (fun j e1 e2 => by rw [eB]; exact rAj j e1 e2) (by rw [hAI]; exact if_pos rfl) (fun j hj => by rw [hAI]; exact if_neg hj) (by decide) b0 hGw
        have hM := RMs_fr hR.1 hR.2.1 hzC.1 (by omega) (List.prefix_refl T)
        have hE : ([((pt H 1, pt H 0, nu H 2, []), nu H 1, o), G0] : List GV).take 2 = (((pt H 1, pt H 0, nu H 2, []), nu H 1, o) :: (gv p).take 1) := by rw [hl]; rfl
        rw [hE] at hF
        exact g_retv cd_Me_accept rfl ⟨rfl, (kk1 _ _ (by rw [hl]; exact all1 (P := fun G : GV => ¬ nu H 1 ≤ G.2.1) (Int32.not_le.mpr n0)) ⟨MeS_fr hR.1 hzC.1, hM, hF⟩ (fz_mono (fun y q => by omega) hzC))⟩
      · exact absurd (show ¬ (1 : Int32) ≤ 1 from c24) (by decide)
    · have c42 : ¬ G0.2.1 < (nu H 1) := c42
      have n0 := c42
      exact g_retv cd_Me_accept rfl ⟨rfl, (kk0 ⟨0, G0, by rw [hl]; rfl, Int32.not_lt.mp n0⟩)⟩
theorem t_accept2 {sc : tm_X} {d a ca ba da rm dr m : Nat} {B : bm_H} {T : List Tm} {w : Nat → Bool} {ve ma go ge : Int32} {ch si : Tm} {ix ga : Int32} {sl : Bool} {gv : Nat → List GV} {p : Nat} {h : Int32} {H : Tm} {o : Bool} {Q : bm_H → Prop} (hT : TI B a ca ba da rm dr T) (hR : RMe B T m w (ve, ma, go, ge, ch, si, ix, ga, sl, gv)) (hp : p < 6) (hh : tv T h H) (kk0 : (∃ (k : Nat) (G : GV), (gv p)[k]? = some G ∧ nu H 1 ≤ G.2.1) → Q B) (kk1 : ∀ B' w', (∀ (k : Nat) (G : GV), (gv p)[k]? = some G → ¬ nu H 1 ≤ G.2.1) → RMe B' T m w' (mm_set (ve, ma, go, ge, ch, si, ix, ga, sl, gv) p (((pt H 1, pt H 0, nu H 2, []), nu H 1, o) :: (gv p).take 1)) → fz (fun y => m + 1 ≤ y ∧ y < m + 39) B B' → Q B') (hn : ∀ y, m ≤ y → y < m + 39 → ¬ tcs a ca ba da y) {G0 G1 : GV} (hl : gv p = [G0, G1]) : bm_Gv sc (d + 2) 121 [.ref m, .ref a, .int (nI p), .int h, .int (bz o)] B Q := by
  obtain ⟨⟨a1, a2⟩, ⟨a3, a4⟩, X0, X1, b0, b1, b2⟩ := hR.2.2 p hp
  have i0 := gA_in m w hp (k := 0) (by decide)
  have i1 := gA_in m w hp (k := 1) (by decide)
  have i01 := gA_01 m w p
  change bm_AI B (m + 1) p = nI (gv p).length at a1
  change gv p = [X0, X1].take (gv p).length at b2
  rw [hl] at a1 b2
  have hG0 : G0 = X0 := by simp at b2; exact b2.1
  subst hG0
  have hG1 : G1 = X1 := by simp at b2; exact b2
  subst hG1
  show bm_G sc (d + 2) 121 0 [(0, .ref m), (1, .ref a), (2, .int (nI p)), (3, .int h), (4, .int (bz o))] [] B _
  generalize elv : ([(0, .ref m), (1, .ref a), (2, .int (nI p)), (3, .int h), (4, .int (bz o))] : tm_L) = lv
  have l0 : lv.lookup 0 = some (.ref m) := by rw [← elv]; rfl
  have l1 : lv.lookup 1 = some (.ref a) := by rw [← elv]; rfl
  have l2 : lv.lookup 2 = some (.int (nI p)) := by rw [← elv]; rfl
  have l3 : lv.lookup 3 = some (.int h) := by rw [← elv]; rfl
  have l4 : lv.lookup 4 = some (.int (bz o)) := by rw [← elv]; rfl
  clear elv
  refine g_ald (pc' := 1) cd_Me_accept rfl (Or.inr ⟨_, rfl, rfl, rfl⟩) l1 rfl rfl ?_
  refine g_ild (pc' := 2) cd_Me_accept rfl (Or.inr ⟨_, rfl, rfl, rfl⟩) l3 rfl ?_
  refine g_k1 (v := 1) (pc' := 3) cd_Me_accept rfl (by decide) rfl ?_
  refine g_calli (pc' := 6) cd_Me_accept rfl rfl rfl rfl rfl (tm_invV rfl rfl cd_Te_numberOf rfl (Nat.le_of_ble_eq_true rfl) (by decide) hT.1.1.1 hT.1.1.2) (t_numberOf (i := 1) hT hh (by decide) ?_)
  show bm_G _ _ _ 6 _ [.int (nu H 1)] B _
  refine g_ist (pc' := 8) cd_Me_accept rfl (Or.inl ⟨rfl, rfl⟩) (by decide) rfl (fun lv el => ?_)
  have l0 := tm_lk el l0 rfl (by decide)
  have l1 := tm_lk el l1 rfl (by decide)
  have l2 := tm_lk el l2 rfl (by decide)
  have l3 := tm_lk el l3 rfl (by decide)
  have l4 := tm_lk el l4 rfl (by decide)
  have l5 : lv.lookup 5 = some (.int (nu H 1)) := tm_lks el
  clear el
  refine g_ild (pc' := 9) cd_Me_accept rfl (Or.inr ⟨_, rfl, rfl, rfl⟩) l2 rfl ?_
  refine g_k1 (v := 2) (pc' := 10) cd_Me_accept rfl (by decide) rfl ?_
  refine g_pure (pc' := 11) (st' := [.int ((nI p) * 2)]) cd_Me_accept rfl rfl (fun _ _ => rfl) ?_
  rw [show ((nI p) * 2 : Int32) = nI (p * 2) from pk_mul p 2]
  refine g_ist (pc' := 13) cd_Me_accept rfl (Or.inl ⟨rfl, rfl⟩) (by decide) rfl (fun lv el => ?_)
  have l0 := tm_lk el l0 rfl (by decide)
  have l1 := tm_lk el l1 rfl (by decide)
  have l2 := tm_lk el l2 rfl (by decide)
  have l3 := tm_lk el l3 rfl (by decide)
  have l4 := tm_lk el l4 rfl (by decide)
  have l5 := tm_lk el l5 rfl (by decide)
  have l6 : lv.lookup 6 = some (.int (nI (p * 2))) := tm_lks el
  clear el
  refine g_k1 (v := 0) (pc' := 14) cd_Me_accept rfl (by decide) rfl ?_
  refine g_ist (pc' := 16) cd_Me_accept rfl (Or.inl ⟨rfl, rfl⟩) (by decide) rfl (fun lv el => ?_)
  have l0 := tm_lk el l0 rfl (by decide)
  have l1 := tm_lk el l1 rfl (by decide)
  have l2 := tm_lk el l2 rfl (by decide)
  have l3 := tm_lk el l3 rfl (by decide)
  have l4 := tm_lk el l4 rfl (by decide)
  have l5 := tm_lk el l5 rfl (by decide)
  have l6 := tm_lk el l6 rfl (by decide)
  have l7 : lv.lookup 7 = some (.int 0) := tm_lks el
  clear el
  refine g_ild (pc' := 18) cd_Me_accept rfl (Or.inl ⟨rfl, rfl⟩) l7 rfl ?_
  refine g_ald (pc' := 19) cd_Me_accept rfl (Or.inr ⟨_, rfl, rfl, rfl⟩) l0 rfl rfl ?_
  refine g_fR (c := 5) (k := 0) (x := (m + 1)) (pc' := 22) cd_Me_accept rfl rfl rfl rfl rfl (by decide) hR.1.1.1 hR.1.1.2 hR.1.2.1.1 ?_
  refine g_ild (pc' := 23) cd_Me_accept rfl (Or.inr ⟨_, rfl, rfl, rfl⟩) l2 rfl ?_
  refine g_aI (x := 2) (pc' := 24) cd_Me_accept rfl rfl hR.1.2.2.1.1 hR.1.2.2.1.2.1 (by rw [show bm_AL B (m + 1) = 6 from hR.1.2.2.1.2.2]; exact vp_in_nI (by omega) (by decide)) (by rw [nI_clamp (by omega)]; exact a1) ?_
  refine g_if2 (t := 52) (pc' := 27) cd_Me_accept rfl rfl rfl (fun c24 => ?_) (fun c24 => ?_)
  · exact absurd (show (2 : Int32) ≤ 0 from c24) (by decide)
  · have c24 : ¬ (2 : Int32) ≤ 0 := c24
    refine g_ald (pc' := 28) cd_Me_accept rfl (Or.inr ⟨_, rfl, rfl, rfl⟩) l0 rfl rfl ?_
    refine g_fR (c := 5) (k := 1) (x := (m + 2)) (pc' := 31) cd_Me_accept rfl rfl rfl rfl rfl (by decide) hR.1.1.1 hR.1.1.2 hR.1.2.1.2 ?_
    refine g_ild (pc' := 33) cd_Me_accept rfl (Or.inl ⟨rfl, rfl⟩) l6 rfl ?_
    refine g_ild (pc' := 35) cd_Me_accept rfl (Or.inl ⟨rfl, rfl⟩) l7 rfl ?_
    refine g_pure (pc' := 36) (st' := [.int ((nI (p * 2)) + 0), .ref ((m + 2))]) cd_Me_accept rfl rfl (fun _ _ => rfl) ?_
    rw [show ((nI (p * 2)) + 0 : Int32) = nI ((p * 2) + 0) from nI_add (p * 2) 0]
    refine g_aR (t := 7) (x := (gA m w p 0)) (pc' := 37) cd_Me_accept rfl rfl hR.1.2.2.2.1 hR.1.2.2.2.2.1 (by decide) rfl rfl (by rw [show bm_AL B (m + 2) = 12 from hR.1.2.2.2.2.2]; exact vp_in_nI (by omega) (by decide)) (by rw [nI_clamp (by omega), show ((p * 2) + 0) = 2 * p + 0 by omega]; exact a3) ?_
    refine g_fI (c := 1) (k := 1) (x := G0.2.1) (pc' := 40) cd_Me_accept rfl rfl rfl rfl rfl (by decide) b0.1.1.1 b0.1.1.2 b0.2.2.1 ?_
    refine g_ild (pc' := 42) cd_Me_accept rfl (Or.inl ⟨rfl, rfl⟩) l5 rfl ?_
    refine g_if2 (t := 46) (pc' := 45) cd_Me_accept rfl rfl rfl (fun c42 => ?_) (fun c42 => ?_)
    · have c42 : G0.2.1 < (nu H 1) := c42
      have n0 := c42
      refine g_inc (y := 1) (pc' := 49) cd_Me_accept rfl l7 (by decide) (by decide) rfl (fun lv el => ?_)
      have l0 := tm_lk el l0 rfl (by decide)
      have l1 := tm_lk el l1 rfl (by decide)
      have l2 := tm_lk el l2 rfl (by decide)
      have l3 := tm_lk el l3 rfl (by decide)
      have l4 := tm_lk el l4 rfl (by decide)
      have l5 := tm_lk el l5 rfl (by decide)
      have l6 := tm_lk el l6 rfl (by decide)
      have l7 : lv.lookup 7 = some (.int 1) := tm_lks el
      clear el
      refine g_pure (pc' := 16) (st' := []) cd_Me_accept rfl rfl (fun _ _ => rfl) ?_
      refine g_ild (pc' := 18) cd_Me_accept rfl (Or.inl ⟨rfl, rfl⟩) l7 rfl ?_
      refine g_ald (pc' := 19) cd_Me_accept rfl (Or.inr ⟨_, rfl, rfl, rfl⟩) l0 rfl rfl ?_
      refine g_fR (c := 5) (k := 0) (x := (m + 1)) (pc' := 22) cd_Me_accept rfl rfl rfl rfl rfl (by decide) hR.1.1.1 hR.1.1.2 hR.1.2.1.1 ?_
      refine g_ild (pc' := 23) cd_Me_accept rfl (Or.inr ⟨_, rfl, rfl, rfl⟩) l2 rfl ?_
      refine g_aI (x := 2) (pc' := 24) cd_Me_accept rfl rfl hR.1.2.2.1.1 hR.1.2.2.1.2.1 (by rw [show bm_AL B (m + 1) = 6 from hR.1.2.2.1.2.2]; exact vp_in_nI (by omega) (by decide)) (by rw [nI_clamp (by omega)]; exact a1) ?_
      refine g_if2 (t := 52) (pc' := 27) cd_Me_accept rfl rfl rfl (fun c24 => ?_) (fun c24 => ?_)
      · exact absurd (show (2 : Int32) ≤ 1 from c24) (by decide)
      · have c24 : ¬ (2 : Int32) ≤ 1 := c24
        refine g_ald (pc' := 28) cd_Me_accept rfl (Or.inr ⟨_, rfl, rfl, rfl⟩) l0 rfl rfl ?_
        refine g_fR (c := 5) (k := 1) (x := (m + 2)) (pc' := 31) cd_Me_accept rfl rfl rfl rfl rfl (by decide) hR.1.1.1 hR.1.1.2 hR.1.2.1.2 ?_
        refine g_ild (pc' := 33) cd_Me_accept rfl (Or.inl ⟨rfl, rfl⟩) l6 rfl ?_
        refine g_ild (pc' := 35) cd_Me_accept rfl (Or.inl ⟨rfl, rfl⟩) l7 rfl ?_
        refine g_pure (pc' := 36) (st' := [.int ((nI (p * 2)) + 1), .ref ((m + 2))]) cd_Me_accept rfl rfl (fun _ _ => rfl) ?_
        rw [show ((nI (p * 2)) + 1 : Int32) = nI ((p * 2) + 1) from nI_add (p * 2) 1]
        refine g_aR (t := 7) (x := (gA m w p 1)) (pc' := 37) cd_Me_accept rfl rfl hR.1.2.2.2.1 hR.1.2.2.2.2.1 (by decide) rfl rfl (by rw [show bm_AL B (m + 2) = 12 from hR.1.2.2.2.2.2]; exact vp_in_nI (by omega) (by decide)) (by rw [nI_clamp (by omega), show ((p * 2) + 1) = 2 * p + 1 by omega]; exact a4) ?_
        refine g_fI (c := 1) (k := 1) (x := G1.2.1) (pc' := 40) cd_Me_accept rfl rfl rfl rfl rfl (by decide) b1.1.1.1 b1.1.1.2 b1.2.2.1 ?_
        refine g_ild (pc' := 42) cd_Me_accept rfl (Or.inl ⟨rfl, rfl⟩) l5 rfl ?_
        refine g_if2 (t := 46) (pc' := 45) cd_Me_accept rfl rfl rfl (fun c42 => ?_) (fun c42 => ?_)
        · have c42 : G1.2.1 < (nu H 1) := c42
          have n1 := c42
          refine g_inc (y := 2) (pc' := 49) cd_Me_accept rfl l7 (by decide) (by decide) rfl (fun lv el => ?_)
          have l0 := tm_lk el l0 rfl (by decide)
          have l1 := tm_lk el l1 rfl (by decide)
          have l2 := tm_lk el l2 rfl (by decide)
          have l3 := tm_lk el l3 rfl (by decide)
          have l4 := tm_lk el l4 rfl (by decide)
          have l5 := tm_lk el l5 rfl (by decide)
          have l6 := tm_lk el l6 rfl (by decide)
          have l7 : lv.lookup 7 = some (.int 2) := tm_lks el
          clear el
          refine g_pure (pc' := 16) (st' := []) cd_Me_accept rfl rfl (fun _ _ => rfl) ?_
          refine g_ild (pc' := 18) cd_Me_accept rfl (Or.inl ⟨rfl, rfl⟩) l7 rfl ?_
          refine g_ald (pc' := 19) cd_Me_accept rfl (Or.inr ⟨_, rfl, rfl, rfl⟩) l0 rfl rfl ?_
          refine g_fR (c := 5) (k := 0) (x := (m + 1)) (pc' := 22) cd_Me_accept rfl rfl rfl rfl rfl (by decide) hR.1.1.1 hR.1.1.2 hR.1.2.1.1 ?_
          refine g_ild (pc' := 23) cd_Me_accept rfl (Or.inr ⟨_, rfl, rfl, rfl⟩) l2 rfl ?_
          refine g_aI (x := 2) (pc' := 24) cd_Me_accept rfl rfl hR.1.2.2.1.1 hR.1.2.2.1.2.1 (by rw [show bm_AL B (m + 1) = 6 from hR.1.2.2.1.2.2]; exact vp_in_nI (by omega) (by decide)) (by rw [nI_clamp (by omega)]; exact a1) ?_
          refine g_if2 (t := 52) (pc' := 27) cd_Me_accept rfl rfl rfl (fun c24 => ?_) (fun c24 => ?_)
          · have c24 : (2 : Int32) ≤ 2 := c24
            refine g_ald (pc' := 53) cd_Me_accept rfl (Or.inr ⟨_, rfl, rfl, rfl⟩) l0 rfl rfl ?_
            refine g_fR (c := 5) (k := 1) (x := (m + 2)) (pc' := 56) cd_Me_accept rfl rfl rfl rfl rfl (by decide) hR.1.1.1 hR.1.1.2 hR.1.2.1.2 ?_
            refine g_ild (pc' := 58) cd_Me_accept rfl (Or.inl ⟨rfl, rfl⟩) l6 rfl ?_
            refine g_k1 (v := 2) (pc' := 59) cd_Me_accept rfl (by decide) rfl ?_
            refine g_pure (pc' := 60) (st' := [.int ((nI (p * 2)) + 2), .ref ((m + 2))]) cd_Me_accept rfl rfl (fun _ _ => rfl) ?_
            rw [show ((nI (p * 2)) + 2 : Int32) = nI ((p * 2) + 2) from nI_add (p * 2) 2]
            refine g_k1 (v := 1) (pc' := 61) cd_Me_accept rfl (by decide) rfl ?_
            refine g_pure (pc' := 62) (st' := [.int ((nI ((p * 2) + 2)) - 1), .ref ((m + 2))]) cd_Me_accept rfl rfl (fun _ _ => rfl) ?_
            rw [show ((nI ((p * 2) + 2)) - 1 : Int32) = nI (((p * 2) + 2) - 1) from pk_sub (a := ((p * 2) + 2)) (b := 1) (by omega)]
            refine g_aR (t := 7) (x := (gA m w p 1)) (pc' := 63) cd_Me_accept rfl rfl hR.1.2.2.2.1 hR.1.2.2.2.2.1 (by decide) rfl rfl (by rw [show bm_AL B (m + 2) = 12 from hR.1.2.2.2.2.2]; exact vp_in_nI (by omega) (by decide)) (by rw [nI_clamp (by omega), show (((p * 2) + 2) - 1) = 2 * p + 1 by omega]; exact a4) ?_
            refine g_ast (pc' := 65) cd_Me_accept rfl (Or.inl ⟨rfl, rfl⟩) rfl (by decide) rfl (fun lv el => ?_)
            have l0 := tm_lk el l0 rfl (by decide)
            have l1 := tm_lk el l1 rfl (by decide)
            have l2 := tm_lk el l2 rfl (by decide)
            have l3 := tm_lk el l3 rfl (by decide)
            have l4 := tm_lk el l4 rfl (by decide)
            have l5 := tm_lk el l5 rfl (by decide)
            have l6 := tm_lk el l6 rfl (by decide)
            have l7 : lv.lookup 7 = some (.ref ((gA m w p 1))) := tm_lks el
            clear el
            refine g_ald (pc' := 66) cd_Me_accept rfl (Or.inr ⟨_, rfl, rfl, rfl⟩) l0 rfl rfl ?_
            refine g_fR (c := 5) (k := 1) (x := (m + 2)) (pc' := 69) cd_Me_accept rfl rfl rfl rfl rfl (by decide) hR.1.1.1 hR.1.1.2 hR.1.2.1.2 ?_
            refine g_ild (pc' := 71) cd_Me_accept rfl (Or.inl ⟨rfl, rfl⟩) l6 rfl ?_
            refine g_k1 (v := 1) (pc' := 72) cd_Me_accept rfl (by decide) rfl ?_
            refine g_pure (pc' := 73) (st' := [.int ((nI (p * 2)) + 1), .ref ((m + 2))]) cd_Me_accept rfl rfl (fun _ _ => rfl) ?_
            rw [show ((nI (p * 2)) + 1 : Int32) = nI ((p * 2) + 1) from nI_add (p * 2) 1]
            refine g_ald (pc' := 74) cd_Me_accept rfl (Or.inr ⟨_, rfl, rfl, rfl⟩) l0 rfl rfl ?_
            refine g_fR (c := 5) (k := 1) (x := (m + 2)) (pc' := 77) cd_Me_accept rfl rfl rfl rfl rfl (by decide) hR.1.1.1 hR.1.1.2 hR.1.2.1.2 ?_
            refine g_ild (pc' := 79) cd_Me_accept rfl (Or.inl ⟨rfl, rfl⟩) l6 rfl ?_
            refine g_aR (t := 7) (x := (gA m w p 0)) (pc' := 80) cd_Me_accept rfl rfl hR.1.2.2.2.1 hR.1.2.2.2.2.1 (by decide) rfl rfl (by rw [show bm_AL B (m + 2) = 12 from hR.1.2.2.2.2.2]; exact vp_in_nI (by omega) (by decide)) (by rw [nI_clamp (by omega), show (p * 2) = 2 * p + 0 by omega]; exact a3) ?_
            refine g_aast (t := 7) (pc' := 81) cd_Me_accept rfl rfl hR.1.2.2.2.1 hR.1.2.2.2.2.1 (by decide) rfl rfl b0.1.1.1 b0.1.1.2 (by rw [show bm_AL B (m + 2) = 12 from hR.1.2.2.2.2.2]; exact vp_in_nI (by omega) (by decide)) ?_
            rw [show (nI ((p * 2) + 1)).toNatClampNeg = 2 * p + 1 from (nI_clamp (by omega)).trans (by omega)]
            refine g_ald (pc' := 82) cd_Me_accept rfl (Or.inr ⟨_, rfl, rfl, rfl⟩) l0 rfl rfl ?_
            refine g_fR (c := 5) (k := 1) (x := (m + 2)) (pc' := 85) cd_Me_accept rfl rfl rfl rfl rfl (by decide) hR.1.1.1 hR.1.1.2 hR.1.2.1.2 ?_
            refine g_ild (pc' := 87) cd_Me_accept rfl (Or.inl ⟨rfl, rfl⟩) l6 rfl ?_
            refine g_ald (pc' := 89) cd_Me_accept rfl (Or.inl ⟨rfl, rfl⟩) l7 rfl rfl ?_
            refine g_aast (t := 7) (pc' := 90) cd_Me_accept rfl rfl hR.1.2.2.2.1 hR.1.2.2.2.2.1 (by decide) rfl rfl b1.1.1.1 b1.1.1.2 (by rw [show bm_AL (bm_setR B (m + 2) (2 * p + 1) (some (gA m w p 0))) (m + 2) = 12 from hR.1.2.2.2.2.2]; exact vp_in_nI (by omega) (by decide)) ?_
            rw [show (nI (p * 2)).toNatClampNeg = 2 * p from (nI_clamp (by omega)).trans (by omega)]
            refine g_ald (pc' := 92) cd_Me_accept rfl (Or.inl ⟨rfl, rfl⟩) l7 rfl rfl ?_
            refine g_ild (pc' := 94) cd_Me_accept rfl (Or.inl ⟨rfl, rfl⟩) l5 rfl ?_
            refine g_putI (c := 1) (k := 1) (pc' := 97) cd_Me_accept rfl rfl rfl rfl (by simp [tm_okV, narrow, fits]) (Or.inl rfl) rfl (by decide) b1.1.1.1 b1.1.1.2 ?_
            have P11 : bm_FI (bm_putI (bm_setR (bm_setR B (m + 2) (2 * p + 1) (some (gA m w p 0))) (m + 2) (2 * p) (some (gA m w p 1))) 1 1 (gA m w p 1) (nu H 1)) 1 1 (gA m w p 1) = nu H 1 := if_pos ⟨rfl, rfl, rfl⟩
            refine g_ald (pc' := 99) cd_Me_accept rfl (Or.inl ⟨rfl, rfl⟩) l7 rfl rfl ?_
            refine g_ild (pc' := 101) cd_Me_accept rfl (Or.inl ⟨rfl, rfl⟩) l4 rfl ?_
            refine g_putI (c := 1) (k := 2) (pc' := 104) cd_Me_accept rfl rfl rfl rfl (by cases o <;> decide) (Or.inl rfl) rfl (by decide) b1.1.1.1 b1.1.1.2 ?_
            have P12 : bm_FI (bm_putI (bm_putI (bm_setR (bm_setR B (m + 2) (2 * p + 1) (some (gA m w p 0))) (m + 2) (2 * p) (some (gA m w p 1))) 1 1 (gA m w p 1) (nu H 1)) 1 2 (gA m w p 1) (bz o)) 1 2 (gA m w p 1) = bz o := if_pos ⟨rfl, rfl, rfl⟩
            have hzA : fz (fun y => y = m + 2 ∨ y = gA m w p 1) B (bm_putI (bm_putI (bm_setR (bm_setR B (m + 2) (2 * p + 1) (some (gA m w p 0))) (m + 2) (2 * p) (some (gA m w p 1))) 1 1 (gA m w p 1) (nu H 1)) 1 2 (gA m w p 1) (bz o)) := fz_trans (fz_trans (fz_trans ⟨fr_mono (fun _ q => Or.inl q) (fr_setR B (m + 2) (2 * p + 1) _), rfl, rfl⟩ ⟨fr_mono (fun _ q => Or.inl q) (fr_setR _ (m + 2) (2 * p) _), rfl, rfl⟩) ⟨fr_mono (fun _ q => Or.inr q) (fr_putI _ 1 1 _ _), rfl, rfl⟩) ⟨fr_mono (fun _ q => Or.inr q) (fr_putI _ 1 2 _ _), rfl, rfl⟩
            have rA0 : bm_AR (bm_putI (bm_putI (bm_setR (bm_setR B (m + 2) (2 * p + 1) (some (gA m w p 0))) (m + 2) (2 * p) (some (gA m w p 1))) 1 1 (gA m w p 1) (nu H 1)) 1 2 (gA m w p 1) (bz o)) (m + 2) (2 * p) = some (gA m w p 1) := AR_set _ _ _ _
            have rA1 : bm_AR (bm_putI (bm_putI (bm_setR (bm_setR B (m + 2) (2 * p + 1) (some (gA m w p 0))) (m + 2) (2 * p) (some (gA m w p 1))) 1 1 (gA m w p 1) (nu H 1)) 1 2 (gA m w p 1) (bz o)) (m + 2) (2 * p + 1) = some (gA m w p 0) := (AR_setj _ _ _ (by omega)).trans (AR_set _ _ _ _)
            have rAj : ∀ j, j ≠ 2 * p → j ≠ 2 * p + 1 → bm_AR (bm_putI (bm_putI (bm_setR (bm_setR B (m + 2) (2 * p + 1) (some (gA m w p 0))) (m + 2) (2 * p) (some (gA m w p 1))) 1 1 (gA m w p 1) (nu H 1)) 1 2 (gA m w p 1) (bz o)) (m + 2) j = bm_AR B (m + 2) j := fun j e1 e2 => (AR_setj _ _ _ e1).trans (AR_setj _ _ _ e2)
            have fA1 : bm_FI (bm_putI (bm_putI (bm_setR (bm_setR B (m + 2) (2 * p + 1) (some (gA m w p 0))) (m + 2) (2 * p) (some (gA m w p 1))) 1 1 (gA m w p 1) (nu H 1)) 1 2 (gA m w p 1) (bz o)) 1 1 (gA m w p 1) = nu H 1 := P11
            have fA2 : bm_FI (bm_putI (bm_putI (bm_setR (bm_setR B (m + 2) (2 * p + 1) (some (gA m w p 0))) (m + 2) (2 * p) (some (gA m w p 1))) 1 1 (gA m w p 1) (nu H 1)) 1 2 (gA m w p 1) (bz o)) 1 2 (gA m w p 1) = bz o := P12
            have hTA : TI (bm_putI (bm_putI (bm_setR (bm_setR B (m + 2) (2 * p + 1) (some (gA m w p 0))) (m + 2) (2 * p) (some (gA m w p 1))) 1 1 (gA m w p 1) (nu H 1)) 1 2 (gA m w p 1) (bz o)) a ca ba da rm dr T := TI_fr hT hzA.1 (fun q => hn _ (by omega) (by omega) (Or.inl rfl)) (fun q => hn _ (by omega) (by omega) (Or.inr (Or.inl rfl))) (fun q => hn _ (by omega) (by omega) (Or.inr (Or.inr (Or.inl rfl))))
            generalize (bm_putI (bm_putI (bm_setR (bm_setR B (m + 2) (2 * p + 1) (some (gA m w p 0))) (m + 2) (2 * p) (some (gA m w p 1))) 1 1 (gA m w p 1) (nu H 1)) 1 2 (gA m w p 1) (bz o)) = BA at hzA rA0 rA1 rAj fA1 fA2 hTA ⊢
            refine g_ald (pc' := 106) cd_Me_accept rfl (Or.inl ⟨rfl, rfl⟩) l7 rfl rfl ?_
            refine g_fR (c := 1) (k := 0) (x := (gA m w p 1 + 1)) (pc' := 109) cd_Me_accept rfl rfl rfl rfl rfl (by decide) (fr_lt hzA.1 b1.1.1.1) ((fr_K hzA.1 b1.1.1.1).trans b1.1.1.2) ((fr_FS hzA.1 b1.1.1.1 1 0 rfl).trans b1.1.2) ?_
            refine g_ald (pc' := 110) cd_Me_accept rfl (Or.inr ⟨_, rfl, rfl, rfl⟩) l1 rfl rfl ?_
            refine g_ild (pc' := 111) cd_Me_accept rfl (Or.inr ⟨_, rfl, rfl, rfl⟩) l3 rfl ?_
            refine g_k1 (v := 1) (pc' := 112) cd_Me_accept rfl (by decide) rfl ?_
            refine g_calli (pc' := 115) cd_Me_accept rfl rfl rfl rfl rfl (tm_invV rfl rfl cd_Te_partOf rfl (Nat.le_of_ble_eq_true rfl) (by decide) (fr_lt hzA.1 hT.1.1.1) ((fr_K hzA.1 hT.1.1.1).trans hT.1.1.2)) (t_partOf (i := 1) hTA hh (by decide) (fun r13 ht13 => ?_))
            show bm_G _ _ _ 115 _ [.int r13, .ref ((gA m w p 1 + 1))] BA _
            refine g_ald (pc' := 116) cd_Me_accept rfl (Or.inr ⟨_, rfl, rfl, rfl⟩) l1 rfl rfl ?_
            refine g_ild (pc' := 117) cd_Me_accept rfl (Or.inr ⟨_, rfl, rfl, rfl⟩) l3 rfl ?_
            refine g_k1 (v := 0) (pc' := 118) cd_Me_accept rfl (by decide) rfl ?_
            refine g_calli (pc' := 121) cd_Me_accept rfl rfl rfl rfl rfl (tm_invV rfl rfl cd_Te_partOf rfl (Nat.le_of_ble_eq_true rfl) (by decide) (fr_lt hzA.1 hT.1.1.1) ((fr_K hzA.1 hT.1.1.1).trans hT.1.1.2)) (t_partOf (i := 0) hTA hh (by decide) (fun r14 ht14 => ?_))
            show bm_G _ _ _ 121 _ [.int r14, .int r13, .ref ((gA m w p 1 + 1))] BA _
            refine g_ald (pc' := 122) cd_Me_accept rfl (Or.inr ⟨_, rfl, rfl, rfl⟩) l1 rfl rfl ?_
            refine g_ild (pc' := 123) cd_Me_accept rfl (Or.inr ⟨_, rfl, rfl, rfl⟩) l3 rfl ?_
            refine g_k1 (v := 2) (pc' := 124) cd_Me_accept rfl (by decide) rfl ?_
            refine g_calli (pc' := 127) cd_Me_accept rfl rfl rfl rfl rfl (tm_invV rfl rfl cd_Te_numberOf rfl (Nat.le_of_ble_eq_true rfl) (by decide) (fr_lt hzA.1 hT.1.1.1) ((fr_K hzA.1 hT.1.1.1).trans hT.1.1.2)) (t_numberOf (i := 2) hTA hh (by decide) ?_)
            show bm_G _ _ _ 127 _ [.int (nu H 2), .int r14, .int r13, .ref ((gA m w p 1 + 1))] BA _
            refine g_callv (pc' := 130) cd_Me_accept rfl rfl rfl rfl rfl (tm_invV rfl rfl cd_In_start rfl (Nat.le_of_ble_eq_true rfl) (by decide) (fr_lt hzA.1 b1.2.1.1.1.1) ((fr_K hzA.1 b1.2.1.1.1.1).trans b1.2.1.1.1.2)) (t_Istart (c := G1.1.2.2.2.length) ⟨(InS_fr b1.2.1.1 hzA.1).1, (InS_fr b1.2.1.1 hzA.1).2.1, (InS_fr b1.2.1.1 hzA.1).2.2, (fr_FI hzA.1 b1.2.1.1.1.1 (by omega) 2 1).trans b1.2.1.2.1.1, b1.2.1.2.1.2⟩ ht13 ht14 (fun BB hIB hzB => ?_))
            have hai : bm_AI BB (m + 1) = bm_AI B (m + 1) := (fr_AI hzB.1 (fr_lt hzA.1 hR.1.2.2.1.1) (by omega)).trans (fr_AI hzA.1 hR.1.2.2.1.1 (by omega))
            show bm_G _ _ _ 130 _ [] BB _
            refine g_ald (pc' := 131) cd_Me_accept rfl (Or.inr ⟨_, rfl, rfl, rfl⟩) l0 rfl rfl ?_
            refine g_fR (c := 5) (k := 0) (x := (m + 1)) (pc' := 134) cd_Me_accept rfl rfl rfl rfl rfl (by decide) (fr_lt hzB.1 (fr_lt hzA.1 hR.1.1.1)) ((fr_K hzB.1 (fr_lt hzA.1 hR.1.1.1)).trans ((fr_K hzA.1 hR.1.1.1).trans hR.1.1.2)) ((fr_FS hzB.1 (fr_lt hzA.1 hR.1.1.1) 5 0 rfl).trans ((fr_FS hzA.1 hR.1.1.1 5 0 rfl).trans hR.1.2.1.1)) ?_
            refine g_ild (pc' := 135) cd_Me_accept rfl (Or.inr ⟨_, rfl, rfl, rfl⟩) l2 rfl ?_
            refine g_ald (pc' := 136) cd_Me_accept rfl (Or.inr ⟨_, rfl, rfl, rfl⟩) l0 rfl rfl ?_
            refine g_fR (c := 5) (k := 0) (x := (m + 1)) (pc' := 139) cd_Me_accept rfl rfl rfl rfl rfl (by decide) (fr_lt hzB.1 (fr_lt hzA.1 hR.1.1.1)) ((fr_K hzB.1 (fr_lt hzA.1 hR.1.1.1)).trans ((fr_K hzA.1 hR.1.1.1).trans hR.1.1.2)) ((fr_FS hzB.1 (fr_lt hzA.1 hR.1.1.1) 5 0 rfl).trans ((fr_FS hzA.1 hR.1.1.1 5 0 rfl).trans hR.1.2.1.1)) ?_
            refine g_ild (pc' := 140) cd_Me_accept rfl (Or.inr ⟨_, rfl, rfl, rfl⟩) l2 rfl ?_
            refine g_aI (x := 2) (pc' := 141) cd_Me_accept rfl rfl (fr_lt hzB.1 (fr_lt hzA.1 hR.1.2.2.1.1)) ((fr_K hzB.1 (fr_lt hzA.1 hR.1.2.2.1.1)).trans ((fr_K hzA.1 hR.1.2.2.1.1).trans hR.1.2.2.1.2.1)) (by rw [show bm_AL BB (m + 1) = 6 from ((fr_AL hzB.1 (fr_lt hzA.1 hR.1.2.2.1.1)).trans ((fr_AL hzA.1 hR.1.2.2.1.1).trans hR.1.2.2.1.2.2))]; exact vp_in_nI (by omega) (by decide)) (by rw [show bm_AI BB (m + 1) = bm_AI B (m + 1) from hai, nI_clamp (by omega)]; exact a1) ?_
            refine g_k1 (v := 1) (pc' := 142) cd_Me_accept rfl (by decide) rfl ?_
            refine g_pure (pc' := 143) (st' := [.int (2 + 1), .int (nI p), .ref ((m + 1))]) cd_Me_accept rfl rfl (fun _ _ => rfl) ?_
            rw [show (2 + 1 : Int32) = 3 from by decide]
            refine g_k1 (v := 2) (pc' := 144) cd_Me_accept rfl (by decide) rfl ?_
            refine g_min (pc' := 147) cd_Me_accept rfl rfl rfl rfl ?_
            rw [show (if (2 : Int32) < 3 then (2 : Int32) else 3) = 2 from by decide]
            refine g_iast (pc' := 148) cd_Me_accept rfl rfl (fr_lt hzB.1 (fr_lt hzA.1 hR.1.2.2.1.1)) ((fr_K hzB.1 (fr_lt hzA.1 hR.1.2.2.1.1)).trans ((fr_K hzA.1 hR.1.2.2.1.1).trans hR.1.2.2.1.2.1)) (by rw [show bm_AL BB (m + 1) = 6 from ((fr_AL hzB.1 (fr_lt hzA.1 hR.1.2.2.1.1)).trans ((fr_AL hzA.1 hR.1.2.2.1.1).trans hR.1.2.2.1.2.2))]; exact vp_in_nI (by omega) (by decide)) ?_
            rw [show (nI p : Int32).toNatClampNeg = p from nI_clamp (by omega)]
            have A15 : bm_AI (bm_setI BB (m + 1) p 2) (m + 1) = (upd (bm_AI B (m + 1)) p 2) := ((AI_set BB (m + 1) p 2).trans (congrArg (fun f => upd f p 2) (show bm_AI BB (m + 1) = (bm_AI B (m + 1)) from hai)))
            have hAI : bm_AI (bm_setI BB (m + 1) p 2) (m + 1) = upd (bm_AI B (m + 1)) p 2 := A15
            have hzC : fz (fun y => y = m + 1 ∨ y = m + 2 ∨ (gA m w p 1 ≤ y ∧ y < gA m w p 1 + 3)) B (bm_setI BB (m + 1) p 2) := fz_trans (fz_trans (fz_mono (fun y q => by omega) hzA) (fz_mono (fun y q => by omega) hzB)) ⟨fr_mono (fun y q => Or.inl q) (fr_setI BB (m + 1) p _), rfl, rfl⟩
            have hGv : RGv BB T (gA m w p 1) ((pt H 1, pt H 0, nu H 2, []), nu H 1, o) := ⟨⟨⟨fr_lt hzB.1 (fr_lt hzA.1 b1.1.1.1), (fr_K hzB.1 (fr_lt hzA.1 b1.1.1.1)).trans ((fr_K hzA.1 b1.1.1.1).trans b1.1.1.2)⟩, (fr_FS hzB.1 (fr_lt hzA.1 b1.1.1.1) 1 0 rfl).trans ((fr_FS hzA.1 b1.1.1.1 1 0 rfl).trans b1.1.2)⟩, hIB, (fr_FI hzB.1 (fr_lt hzA.1 b1.1.1.1) (by omega) 1 1).trans fA1, (fr_FI hzB.1 (fr_lt hzA.1 b1.1.1.1) (by omega) 1 2).trans fA2⟩
            have hGw := RGv_fr hGv (fr_setI BB (m + 1) p 2) (by omega) (by omega) (by omega) (List.prefix_refl T)
            have eB : bm_AR (bm_setI BB (m + 1) p 2) (m + 2) = bm_AR BA (m + 2) := fr_AR hzB.1 (fr_lt hzA.1 hR.1.2.2.2.1) (by omega)
            have hF := RGs_flip (n := 2) hR.1 hp hR.2.2 hzC.1 (by rw [eB]; exact rA0) (by rw [eB]; exact rA1) (fun j e1 e2 => by rw [eB]; exact rAj j e1 e2) (by rw [hAI]; exact if_pos rfl) (fun j hj => by rw [hAI]; exact if_neg hj) (by decide) b0 hGw
            have hM := RMs_fr hR.1 hR.2.1 hzC.1 (by omega) (List.prefix_refl T)
            have hE : ([((pt H 1, pt H 0, nu H 2, []), nu H 1, o), G0] : List GV).take 2 = (((pt H 1, pt H 0, nu H 2, []), nu H 1, o) :: (gv p).take 1) := by rw [hl]; rfl
            rw [hE] at hF
            exact g_retv cd_Me_accept rfl ⟨rfl, (kk1 _ _ (by rw [hl]; exact all2 (P := fun G : GV => ¬ nu H 1 ≤ G.2.1) (Int32.not_le.mpr n0) (Int32.not_le.mpr n1)) ⟨MeS_fr hR.1 hzC.1, hM, hF⟩ (fz_mono (fun y q => by omega) hzC))⟩
          · exact absurd (show ¬ (2 : Int32) ≤ 2 from c24) (by decide)
        · have c42 : ¬ G1.2.1 < (nu H 1) := c42
          have n1 := c42
          exact g_retv cd_Me_accept rfl ⟨rfl, (kk0 ⟨1, G1, by rw [hl]; rfl, Int32.not_lt.mp n1⟩)⟩
    · have c42 : ¬ G0.2.1 < (nu H 1) := c42
      have n0 := c42
      exact g_retv cd_Me_accept rfl ⟨rfl, (kk0 ⟨0, G0, by rw [hl]; rfl, Int32.not_lt.mp n0⟩)⟩
theorem t_accept {sc : tm_X} {d a ca ba da rm dr m : Nat} {B : bm_H} {T : List Tm} {w : Nat → Bool} {ve ma go ge : Int32} {ch si : Tm} {ix ga : Int32} {sl : Bool} {gv : Nat → List GV} {p : Nat} {h : Int32} {H : Tm} {o : Bool} {Q : bm_H → Prop} (hT : TI B a ca ba da rm dr T) (hR : RMe B T m w (ve, ma, go, ge, ch, si, ix, ga, sl, gv)) (hp : p < 6) (hh : tv T h H) (kk0 : (∃ (k : Nat) (G : GV), (gv p)[k]? = some G ∧ nu H 1 ≤ G.2.1) → Q B) (kk1 : ∀ B' w', (∀ (k : Nat) (G : GV), (gv p)[k]? = some G → ¬ nu H 1 ≤ G.2.1) → RMe B' T m w' (mm_set (ve, ma, go, ge, ch, si, ix, ga, sl, gv) p (((pt H 1, pt H 0, nu H 2, []), nu H 1, o) :: (gv p).take 1)) → fz (fun y => m + 1 ≤ y ∧ y < m + 39) B B' → Q B') (hn : ∀ y, m ≤ y → y < m + 39 → ¬ tcs a ca ba da y) : bm_Gv sc (d + 2) 121 [.ref m, .ref a, .int (nI p), .int h, .int (bz o)] B Q := by
  rcases len2 (hR.2.2 p hp).1.2 with hl | ⟨G0, hl⟩ | ⟨G0, G1, hl⟩
  · exact t_accept0 hT hR hp hh kk0 kk1 hn hl
  · exact t_accept1 hT hR hp hh kk0 kk1 hn hl
  · exact t_accept2 hT hR hp hh kk0 kk1 hn hl
