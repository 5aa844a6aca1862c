/-! Membership: tell -/
def mm_tg (M : MM) (w p : Int32) : Int32 := if inR p 6 = true ∧ ¬ w < 1 ∧ w ≤ 4 then (if w = 1 then nI (mgv M p.toNatClampNeg).length else match mgv M p.toNatClampNeg with
    | [] => -1
    | G :: _ => if w = 2 then G.2.1 else if w = 3 then G.1.2.2.1 else nI G.1.2.2.2.length) else -1
def mm_tell (M : MM) (x : Int32) : Int32 := match M with
  | (ve, ma, go, ge, ch, si, ix, ga, sl, gv) => if x = 0 then ve else if x = 1 then ma else if x = 2 then go else if x = 3 then ge else if x = 4 then ix else if x = 5 then ga else if x = 6 then bz sl else mm_tg (ve, ma, go, ge, ch, si, ix, ga, sl, gv) (x / 10) (x - x / 10 * 10)
set_option maxRecDepth 100000 in
theorem t_tg0 {sc : tm_X} {d m : Nat} {B : bm_H} {v x : Int32} {Q : Int32 → bm_H → Prop} (hx : inR x 6 = false) (kk : Q (-1) B) : bm_Gi sc (d + 1) 169 [.ref m, .int v, .int x] B Q := by
  show bm_G sc (d + 1) 169 0 [(0, .ref m), (1, .int v), (2, .int x)] [] B _
  generalize elv : ([(0, .ref m), (1, .int v), (2, .int x)] : tm_L) = lv
  have l0 : lv.lookup 0 = some (.ref m) := by rw [← elv]; rfl
  have l1 : lv.lookup 1 = some (.int v) := by rw [← elv]; rfl
  have l2 : lv.lookup 2 = some (.int x) := by rw [← elv]; rfl
  clear elv
  refine g_ild (pc' := 1) cd_Me_tellGiven rfl (Or.inr ⟨_, rfl, rfl, rfl⟩) l2 rfl ?_
  refine g_calli (pc' := 4) cd_Me_tellGiven rfl rfl rfl rfl rfl (tm_invS rfl rfl cd_Ho_isDevice rfl (Nat.le_of_ble_eq_true rfl)) (t_isDevice ?_)
  rw [hx]
  show bm_G _ _ _ _ _ (.int 0 :: _) _ _
  show bm_G _ _ _ 4 _ [.int 0] B _
  refine g_if1 (t := 17) (pc' := 7) cd_Me_tellGiven rfl rfl rfl (fun c4 => ?_) (fun c4 => ?_)
  · have c4 : (0 : Int32) = 0 := c4
    refine g_k1 (v := (-1)) (pc' := 18) cd_Me_tellGiven rfl (by decide) rfl ?_
    exact g_reti cd_Me_tellGiven rfl ⟨_, rfl, kk⟩
  · exact absurd (show ¬ (0 : Int32) = 0 from c4) (by decide)
set_option maxRecDepth 100000 in
theorem t_tg1 {sc : tm_X} {d m p : Nat} {B : bm_H} {T : List Tm} {w : Nat → Bool} {M : MM} {v : Int32} {Q : Int32 → bm_H → Prop} (hR : RMe B T m w M) (hp : p < 6) (kk : Q (mm_tg M v (nI p)) B) : bm_Gi sc (d + 1) 169 [.ref m, .int v, .int (nI p)] B Q := by
  obtain ⟨⟨a1, a2⟩, ⟨a3, a4⟩, X0, X1, b0, b1, b2⟩ := hR.2.2 p hp
  have hin : inR (nI p) 6 = true := inR_nI hp (by decide)
  have ep : (nI p).toNatClampNeg = p := nI_clamp (by omega)
  show bm_G sc (d + 1) 169 0 [(0, .ref m), (1, .int v), (2, .int (nI p))] [] B _
  generalize elv : ([(0, .ref m), (1, .int v), (2, .int (nI p))] : tm_L) = lv
  have l0 : lv.lookup 0 = some (.ref m) := by rw [← elv]; rfl
  have l1 : lv.lookup 1 = some (.int v) := by rw [← elv]; rfl
  have l2 : lv.lookup 2 = some (.int (nI p)) := by rw [← elv]; rfl
  clear elv
  refine g_ild (pc' := 1) cd_Me_tellGiven rfl (Or.inr ⟨_, rfl, rfl, rfl⟩) l2 rfl ?_
  refine g_calli (pc' := 4) cd_Me_tellGiven rfl rfl rfl rfl rfl (tm_invS rfl rfl cd_Ho_isDevice rfl (Nat.le_of_ble_eq_true rfl)) (t_isDevice ?_)
  rw [hin]
  show bm_G _ _ _ _ _ (.int 1 :: _) _ _
  show bm_G _ _ _ 4 _ [.int 1] B _
  refine g_if1 (t := 17) (pc' := 7) cd_Me_tellGiven rfl rfl rfl (fun c4 => ?_) (fun c4 => ?_)
  · exact absurd (show (1 : Int32) = 0 from c4) (by decide)
  · have c4 : ¬ (1 : Int32) = 0 := c4
    refine g_ild (pc' := 8) cd_Me_tellGiven rfl (Or.inr ⟨_, rfl, rfl, rfl⟩) l1 rfl ?_
    refine g_k1 (v := 1) (pc' := 9) cd_Me_tellGiven rfl (by decide) rfl ?_
    refine g_if2 (t := 17) (pc' := 12) cd_Me_tellGiven rfl rfl rfl (fun c9 => ?_) (fun c9 => ?_)
    · have c9 : v < 1 := c9
      refine g_k1 (v := (-1)) (pc' := 18) cd_Me_tellGiven rfl (by decide) rfl ?_
      exact g_reti cd_Me_tellGiven rfl ⟨_, rfl, (bm_eq kk (by unfold mm_tg; rw [if_neg (fun q => q.2.1 c9)]))⟩
    · have c9 : ¬ v < 1 := c9
      refine g_ild (pc' := 13) cd_Me_tellGiven rfl (Or.inr ⟨_, rfl, rfl, rfl⟩) l1 rfl ?_
      refine g_k1 (v := 4) (pc' := 14) cd_Me_tellGiven rfl (by decide) rfl ?_
      refine g_if2 (t := 19) (pc' := 17) cd_Me_tellGiven rfl rfl rfl (fun c14 => ?_) (fun c14 => ?_)
      · have c14 : v ≤ 4 := c14
        refine g_ild (pc' := 20) cd_Me_tellGiven rfl (Or.inr ⟨_, rfl, rfl, rfl⟩) l1 rfl ?_
        refine g_k1 (v := 1) (pc' := 21) cd_Me_tellGiven rfl (by decide) rfl ?_
        refine g_if2 (t := 31) (pc' := 24) cd_Me_tellGiven rfl rfl rfl (fun c21 => ?_) (fun c21 => ?_)
        · have c21 : ¬ v = 1 := c21
          refine g_ald (pc' := 32) cd_Me_tellGiven rfl (Or.inr ⟨_, rfl, rfl, rfl⟩) l0 rfl rfl ?_
          refine g_fR (c := 5) (k := 0) (x := (m + 1)) (pc' := 35) cd_Me_tellGiven rfl rfl rfl rfl rfl (by decide) hR.1.1.1 hR.1.1.2 hR.1.2.1.1 ?_
          refine g_ild (pc' := 36) cd_Me_tellGiven rfl (Or.inr ⟨_, rfl, rfl, rfl⟩) l2 rfl ?_
          refine g_aI (x := nI ((mgv M p).length)) (pc' := 37) cd_Me_tellGiven rfl rfl hR.1.2.2.1.1 hR.1.2.2.1.2.1 (by rw [show bm_AL B (m + 1) = 6 from hR.1.2.2.1.2.2]; exact vp_in_nI (by omega) (by decide)) (by rw [ep]; exact a1) ?_
          refine g_if1 (t := 42) (pc' := 40) cd_Me_tellGiven rfl rfl rfl (fun c37 => ?_) (fun c37 => ?_)
          · have c37 : ¬ (nI ((mgv M p).length)) = 0 := c37
            refine g_ald (pc' := 43) cd_Me_tellGiven rfl (Or.inr ⟨_, rfl, rfl, rfl⟩) l0 rfl rfl ?_
            refine g_fR (c := 5) (k := 1) (x := (m + 2)) (pc' := 46) cd_Me_tellGiven rfl rfl rfl rfl rfl (by decide) hR.1.1.1 hR.1.1.2 hR.1.2.1.2 ?_
            refine g_ild (pc' := 47) cd_Me_tellGiven rfl (Or.inr ⟨_, rfl, rfl, rfl⟩) l2 rfl ?_
            refine g_k1 (v := 2) (pc' := 48) cd_Me_tellGiven rfl (by decide) rfl ?_
            refine g_pure (pc' := 49) (st' := [.int ((nI p) * 2), .ref ((m + 2))]) cd_Me_tellGiven rfl rfl (fun _ _ => rfl) ?_
            rw [show ((nI p) * 2 : Int32) = nI (p * 2) from pk_mul p 2]
            refine g_aR (t := 7) (x := (gA m w p 0)) (pc' := 50) cd_Me_tellGiven rfl rfl hR.1.2.2.2.1 hR.1.2.2.2.2.1 (by decide) rfl rfl (by rw [show bm_AL B (m + 2) = 12 from hR.1.2.2.2.2.2]; exact vp_in_nI (by omega) (by decide)) (by rw [nI_clamp (by omega), show p * 2 = 2 * p by omega]; exact a3) ?_
            refine g_ast (pc' := 51) cd_Me_tellGiven rfl (Or.inr ⟨_, rfl, rfl, rfl⟩) rfl (by decide) rfl (fun lv el => ?_)
            have l0 := tm_lk el l0 rfl (by decide)
            have l1 := tm_lk el l1 rfl (by decide)
            have l2 := tm_lk el l2 rfl (by decide)
            have l3 : lv.lookup 3 = some (.ref ((gA m w p 0))) := tm_lks el
            clear el
            refine g_ild (pc' := 52) cd_Me_tellGiven rfl (Or.inr ⟨_, rfl, rfl, rfl⟩) l1 rfl ?_
            refine g_k1 (v := 2) (pc' := 53) cd_Me_tellGiven rfl (by decide) rfl ?_
            refine g_if2 (t := 61) (pc' := 56) cd_Me_tellGiven rfl rfl rfl (fun c53 => ?_) (fun c53 => ?_)
            · have c53 : ¬ v = 2 := c53
              refine g_ild (pc' := 62) cd_Me_tellGiven rfl (Or.inr ⟨_, rfl, rfl, rfl⟩) l1 rfl ?_
              refine g_k1 (v := 3) (pc' := 63) cd_Me_tellGiven rfl (by decide) rfl ?_
              refine g_if2 (t := 76) (pc' := 66) cd_Me_tellGiven rfl rfl rfl (fun c63 => ?_) (fun c63 => ?_)
              · have c63 : ¬ v = 3 := c63
                refine g_ald (pc' := 77) cd_Me_tellGiven rfl (Or.inr ⟨_, rfl, rfl, rfl⟩) l3 rfl rfl ?_
                refine g_fR (c := 1) (k := 0) (x := (gA m w p 0 + 1)) (pc' := 80) cd_Me_tellGiven rfl rfl rfl rfl rfl (by decide) b0.1.1.1 b0.1.1.2 b0.1.2 ?_
                refine g_fI (c := 2) (k := 1) (x := nI X0.1.2.2.2.length) (pc' := 83) cd_Me_tellGiven rfl rfl rfl rfl rfl (by decide) b0.2.1.1.1.1 b0.2.1.1.1.2 b0.2.1.2.1.1 ?_
                obtain ⟨r, hcons⟩ : ∃ r, mgv M p = X0 :: r := by
                  rcases len2 a2 with hl | ⟨G0, hl⟩ | ⟨G0, G1, hl⟩
                  · exact absurd (by rw [hl]; rfl) c37
                  · rw [hl] at b2; simp at b2; exact ⟨[], by rw [hl, b2]⟩
                  · rw [hl] at b2; simp at b2; exact ⟨[G1], by rw [hl, b2.1]⟩
                exact g_reti cd_Me_tellGiven rfl ⟨_, rfl, (bm_eq kk (by unfold mm_tg; rw [if_pos ⟨hin, c9, c14⟩, ep]; rw [if_neg c21]; rw [hcons]; dsimp only; rw [if_neg c53]; rw [if_neg c63]))⟩
              · have c63 : v = 3 := Classical.not_not.mp c63
                refine g_ald (pc' := 67) cd_Me_tellGiven rfl (Or.inr ⟨_, rfl, rfl, rfl⟩) l3 rfl rfl ?_
                refine g_fR (c := 1) (k := 0) (x := (gA m w p 0 + 1)) (pc' := 70) cd_Me_tellGiven rfl rfl rfl rfl rfl (by decide) b0.1.1.1 b0.1.1.2 b0.1.2 ?_
                refine g_fI (c := 2) (k := 4) (x := X0.1.2.2.1) (pc' := 73) cd_Me_tellGiven rfl rfl rfl rfl rfl (by decide) b0.2.1.1.1.1 b0.2.1.1.1.2 b0.2.1.2.2.1.2.2 ?_
                refine g_pure (pc' := 83) (st' := [.int X0.1.2.2.1]) cd_Me_tellGiven rfl rfl (fun _ _ => rfl) ?_
                obtain ⟨r, hcons⟩ : ∃ r, mgv M p = X0 :: r := by
                  rcases len2 a2 with hl | ⟨G0, hl⟩ | ⟨G0, G1, hl⟩
                  · exact absurd (by rw [hl]; rfl) c37
                  · rw [hl] at b2; simp at b2; exact ⟨[], by rw [hl, b2]⟩
                  · rw [hl] at b2; simp at b2; exact ⟨[G1], by rw [hl, b2.1]⟩
                exact g_reti cd_Me_tellGiven rfl ⟨_, rfl, (bm_eq kk (by unfold mm_tg; rw [if_pos ⟨hin, c9, c14⟩, ep]; rw [if_neg c21]; rw [hcons]; dsimp only; rw [if_neg c53]; rw [if_pos c63]))⟩
            · have c53 : v = 2 := Classical.not_not.mp c53
              refine g_ald (pc' := 57) cd_Me_tellGiven rfl (Or.inr ⟨_, rfl, rfl, rfl⟩) l3 rfl rfl ?_
              refine g_fI (c := 1) (k := 1) (x := X0.2.1) (pc' := 60) cd_Me_tellGiven rfl rfl rfl rfl rfl (by decide) b0.1.1.1 b0.1.1.2 b0.2.2.1 ?_
              obtain ⟨r, hcons⟩ : ∃ r, mgv M p = X0 :: r := by
                rcases len2 a2 with hl | ⟨G0, hl⟩ | ⟨G0, G1, hl⟩
                · exact absurd (by rw [hl]; rfl) c37
                · rw [hl] at b2; simp at b2; exact ⟨[], by rw [hl, b2]⟩
                · rw [hl] at b2; simp at b2; exact ⟨[G1], by rw [hl, b2.1]⟩
              exact g_reti cd_Me_tellGiven rfl ⟨_, rfl, (bm_eq kk (by unfold mm_tg; rw [if_pos ⟨hin, c9, c14⟩, ep]; rw [if_neg c21]; rw [hcons]; dsimp only; rw [if_pos c53]))⟩
          · have c37 : (nI ((mgv M p).length)) = 0 := Classical.not_not.mp c37
            refine g_k1 (v := (-1)) (pc' := 41) cd_Me_tellGiven rfl (by decide) rfl ?_
            have hnil : mgv M p = [] := by cases hh : mgv M p with | nil => rfl | cons G r => exact absurd c37 (by rw [hh]; exact nI_ne0 (by simp) (by rw [hh] at a2; omega))
            exact g_reti cd_Me_tellGiven rfl ⟨_, rfl, (bm_eq kk (by unfold mm_tg; rw [if_pos ⟨hin, c9, c14⟩, ep]; rw [if_neg c21]; rw [hnil]))⟩
        · have c21 : v = 1 := Classical.not_not.mp c21
          refine g_ald (pc' := 25) cd_Me_tellGiven rfl (Or.inr ⟨_, rfl, rfl, rfl⟩) l0 rfl rfl ?_
          refine g_fR (c := 5) (k := 0) (x := (m + 1)) (pc' := 28) cd_Me_tellGiven rfl rfl rfl rfl rfl (by decide) hR.1.1.1 hR.1.1.2 hR.1.2.1.1 ?_
          refine g_ild (pc' := 29) cd_Me_tellGiven rfl (Or.inr ⟨_, rfl, rfl, rfl⟩) l2 rfl ?_
          refine g_aI (x := nI ((mgv M p).length)) (pc' := 30) cd_Me_tellGiven rfl rfl hR.1.2.2.1.1 hR.1.2.2.1.2.1 (by rw [show bm_AL B (m + 1) = 6 from hR.1.2.2.1.2.2]; exact vp_in_nI (by omega) (by decide)) (by rw [ep]; exact a1) ?_
          exact g_reti cd_Me_tellGiven rfl ⟨_, rfl, (bm_eq kk (by unfold mm_tg; rw [if_pos ⟨hin, c9, c14⟩, ep]; rw [if_pos c21]))⟩
      · have c14 : ¬ v ≤ 4 := c14
        refine g_k1 (v := (-1)) (pc' := 18) cd_Me_tellGiven rfl (by decide) rfl ?_
        exact g_reti cd_Me_tellGiven rfl ⟨_, rfl, (bm_eq kk (by unfold mm_tg; rw [if_neg (fun q => c14 q.2.2)]))⟩
theorem t_tg {sc : tm_X} {d m : Nat} {B : bm_H} {T : List Tm} {w : Nat → Bool} {M : MM} {v x : Int32} {Q : Int32 → bm_H → Prop} (hR : RMe B T m w M) (kk : Q (mm_tg M v x) B) : bm_Gi sc (d + 1) 169 [.ref m, .int v, .int x] B Q := by
  cases h : inR x 6
  · refine t_tg0 h (bm_eq kk ?_)
    unfold mm_tg
    rw [if_neg (fun q => by rw [h] at q; exact absurd q.1 (by decide))]
  · obtain ⟨p, hp, rfl⟩ := inR_of (n := 6) (by decide) h
    exact t_tg1 hR hp kk
set_option maxRecDepth 100000 in
theorem t_Mtell {sc : tm_X} {d m : Nat} {B : bm_H} {T : List Tm} {w : Nat → Bool} {ve ma go ge : Int32} {ch si : Tm} {ix ga : Int32} {sl : Bool} {gv : Nat → List GV} {x : Int32} {Q : Int32 → bm_H → Prop} (hR : RMe B T m w (ve, ma, go, ge, ch, si, ix, ga, sl, gv)) (kk : Q (mm_tell (ve, ma, go, ge, ch, si, ix, ga, sl, gv) x) B) : bm_Gi sc (d + 2) 168 [.ref m, .int x] B Q := by
  show bm_G sc (d + 2) 168 0 [(0, .ref m), (1, .int x)] [] B _
  generalize elv : ([(0, .ref m), (1, .int x)] : tm_L) = lv
  have l0 : lv.lookup 0 = some (.ref m) := by rw [← elv]; rfl
  have l1 : lv.lookup 1 = some (.int x) := by rw [← elv]; rfl
  clear elv
  refine g_ild (pc' := 1) cd_Me_tell rfl (Or.inr ⟨_, rfl, rfl, rfl⟩) l1 rfl ?_
  by_cases s1_0 : x = 0
  · skip
    refine g_swk (pc' := 44) s1_0 cd_Me_tell rfl rfl (fun _ _ => rfl) ?_
    refine g_ald (pc' := 45) cd_Me_tell rfl (Or.inr ⟨_, rfl, rfl, rfl⟩) l0 rfl rfl ?_
    refine g_fI (c := 5) (k := 2) (x := ve) (pc' := 48) cd_Me_tell rfl rfl rfl rfl rfl (by decide) hR.1.1.1 hR.1.1.2 hR.2.1.1.1 ?_
    exact g_reti cd_Me_tell rfl ⟨_, rfl, (bm_eq kk (by unfold mm_tell; dsimp only; rw [if_pos s1_0]))⟩
  by_cases s1_1 : x = 1
  · skip
    refine g_swk (pc' := 49) s1_1 cd_Me_tell rfl rfl (fun _ _ => rfl) ?_
    refine g_ald (pc' := 50) cd_Me_tell rfl (Or.inr ⟨_, rfl, rfl, rfl⟩) l0 rfl rfl ?_
    refine g_fI (c := 5) (k := 3) (x := ma) (pc' := 53) cd_Me_tell rfl rfl rfl rfl rfl (by decide) hR.1.1.1 hR.1.1.2 hR.2.1.1.2.1 ?_
    exact g_reti cd_Me_tell rfl ⟨_, rfl, (bm_eq kk (by unfold mm_tell; dsimp only; rw [if_neg s1_0]; rw [if_pos s1_1]))⟩
  by_cases s1_2 : x = 2
  · skip
    refine g_swk (pc' := 54) s1_2 cd_Me_tell rfl rfl (fun _ _ => rfl) ?_
    refine g_ald (pc' := 55) cd_Me_tell rfl (Or.inr ⟨_, rfl, rfl, rfl⟩) l0 rfl rfl ?_
    refine g_fI (c := 5) (k := 4) (x := go) (pc' := 58) cd_Me_tell rfl rfl rfl rfl rfl (by decide) hR.1.1.1 hR.1.1.2 hR.2.1.1.2.2.1 ?_
    exact g_reti cd_Me_tell rfl ⟨_, rfl, (bm_eq kk (by unfold mm_tell; dsimp only; rw [if_neg s1_0]; rw [if_neg s1_1]; rw [if_pos s1_2]))⟩
  by_cases s1_3 : x = 3
  · skip
    refine g_swk (pc' := 59) s1_3 cd_Me_tell rfl rfl (fun _ _ => rfl) ?_
    refine g_ald (pc' := 60) cd_Me_tell rfl (Or.inr ⟨_, rfl, rfl, rfl⟩) l0 rfl rfl ?_
    refine g_fI (c := 5) (k := 5) (x := ge) (pc' := 63) cd_Me_tell rfl rfl rfl rfl rfl (by decide) hR.1.1.1 hR.1.1.2 hR.2.1.1.2.2.2 ?_
    exact g_reti cd_Me_tell rfl ⟨_, rfl, (bm_eq kk (by unfold mm_tell; dsimp only; rw [if_neg s1_0]; rw [if_neg s1_1]; rw [if_neg s1_2]; rw [if_pos s1_3]))⟩
  by_cases s1_4 : x = 4
  · skip
    refine g_swk (pc' := 64) s1_4 cd_Me_tell rfl rfl (fun _ _ => rfl) ?_
    refine g_ald (pc' := 65) cd_Me_tell rfl (Or.inr ⟨_, rfl, rfl, rfl⟩) l0 rfl rfl ?_
    refine g_fI (c := 5) (k := 8) (x := ix) (pc' := 68) cd_Me_tell rfl rfl rfl rfl rfl (by decide) hR.1.1.1 hR.1.1.2 hR.2.1.2.2.1 ?_
    exact g_reti cd_Me_tell rfl ⟨_, rfl, (bm_eq kk (by unfold mm_tell; dsimp only; rw [if_neg s1_0]; rw [if_neg s1_1]; rw [if_neg s1_2]; rw [if_neg s1_3]; rw [if_pos s1_4]))⟩
  by_cases s1_5 : x = 5
  · skip
    refine g_swk (pc' := 69) s1_5 cd_Me_tell rfl rfl (fun _ _ => rfl) ?_
    refine g_ald (pc' := 70) cd_Me_tell rfl (Or.inr ⟨_, rfl, rfl, rfl⟩) l0 rfl rfl ?_
    refine g_fI (c := 5) (k := 9) (x := ga) (pc' := 73) cd_Me_tell rfl rfl rfl rfl rfl (by decide) hR.1.1.1 hR.1.1.2 hR.2.1.2.2.2.1 ?_
    exact g_reti cd_Me_tell rfl ⟨_, rfl, (bm_eq kk (by unfold mm_tell; dsimp only; rw [if_neg s1_0]; rw [if_neg s1_1]; rw [if_neg s1_2]; rw [if_neg s1_3]; rw [if_neg s1_4]; rw [if_pos s1_5]))⟩
  by_cases s1_6 : x = 6
  · skip
    refine g_swk (pc' := 74) s1_6 cd_Me_tell rfl rfl (fun _ _ => rfl) ?_
    refine g_ald (pc' := 75) cd_Me_tell rfl (Or.inr ⟨_, rfl, rfl, rfl⟩) l0 rfl rfl ?_
    refine g_fI (c := 5) (k := 10) (x := bz sl) (pc' := 78) cd_Me_tell rfl rfl rfl rfl rfl (by decide) hR.1.1.1 hR.1.1.2 hR.2.1.2.2.2.2 ?_
    refine g_if1 (t := 85) (pc' := 81) cd_Me_tell rfl rfl rfl (fun c78 => ?_) (fun c78 => ?_)
    · have c78 : sl = false := bz_f c78
      refine g_k1 (v := 0) (pc' := 86) cd_Me_tell rfl (by decide) rfl ?_
      exact g_reti cd_Me_tell rfl ⟨_, rfl, (bm_eq kk (by unfold mm_tell; dsimp only; rw [if_neg s1_0]; rw [if_neg s1_1]; rw [if_neg s1_2]; rw [if_neg s1_3]; rw [if_neg s1_4]; rw [if_neg s1_5]; rw [if_pos s1_6]; rw [c78]; rfl))⟩
    · have c78 : sl = true := bz_t c78
      refine g_k1 (v := 1) (pc' := 82) cd_Me_tell rfl (by decide) rfl ?_
      refine g_pure (pc' := 86) (st' := [.int 1]) cd_Me_tell rfl rfl (fun _ _ => rfl) ?_
      exact g_reti cd_Me_tell rfl ⟨_, rfl, (bm_eq kk (by unfold mm_tell; dsimp only; rw [if_neg s1_0]; rw [if_neg s1_1]; rw [if_neg s1_2]; rw [if_neg s1_3]; rw [if_neg s1_4]; rw [if_neg s1_5]; rw [if_pos s1_6]; rw [c78]; rfl))⟩
  refine g_swd (t := 87) cd_Me_tell rfl rfl (by have := i32_ne (n := 0) (by decide) s1_0; have := i32_ne (n := 1) (by decide) s1_1; have := i32_ne (n := 2) (by decide) s1_2; have := i32_ne (n := 3) (by decide) s1_3; have := i32_ne (n := 4) (by decide) s1_4; have := i32_ne (n := 5) (by decide) s1_5; have := i32_ne (n := 6) (by decide) s1_6; omega) ?_
  refine g_ald (pc' := 88) cd_Me_tell rfl (Or.inr ⟨_, rfl, rfl, rfl⟩) l0 rfl rfl ?_
  refine g_ild (pc' := 89) cd_Me_tell rfl (Or.inr ⟨_, rfl, rfl, rfl⟩) l1 rfl ?_
  refine g_k2 (v := 10) (pc' := 91) cd_Me_tell rfl (by decide) rfl ?_
  refine g_div (z := (x / 10)) (pc' := 92) cd_Me_tell rfl rfl (by decide) rfl ?_
  refine g_ild (pc' := 93) cd_Me_tell rfl (Or.inr ⟨_, rfl, rfl, rfl⟩) l1 rfl ?_
  refine g_k2 (v := 10) (pc' := 95) cd_Me_tell rfl (by decide) rfl ?_
  refine g_rem (z := (x - x / 10 * 10)) (pc' := 96) cd_Me_tell rfl rfl (by decide) rfl ?_
  refine g_calli (pc' := 99) cd_Me_tell rfl rfl rfl rfl rfl (tm_invV rfl rfl cd_Me_tellGiven rfl (Nat.le_of_ble_eq_true rfl) (by decide) hR.1.1.1 hR.1.1.2) (t_tg hR ?_)
  show bm_G _ _ _ 99 _ [.int (mm_tg (ve, ma, go, ge, ch, si, ix, ga, sl, gv) (x / 10) (x - x / 10 * 10))] B _
  exact g_reti cd_Me_tell rfl ⟨_, rfl, (bm_eq kk (by unfold mm_tell; dsimp only; rw [if_neg s1_0]; rw [if_neg s1_1]; rw [if_neg s1_2]; rw [if_neg s1_3]; rw [if_neg s1_4]; rw [if_neg s1_5]; rw [if_neg s1_6]))⟩
