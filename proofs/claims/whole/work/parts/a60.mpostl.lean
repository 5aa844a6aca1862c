/-! The reference: post, the loop -/
section
variable {id : Tm} {ids : Nat → Tm} {s g p : Nat} {Y : Tm} {H : HS}
theorem ho1_some {se1 : Nat → List SS} {dir1 : Nat → Tm} {dr1 : Nat} {S0 : SS} {l : List SS} (h : ¬ (p = s ∨ hbit (H.2.1 g).2.1 (nI p) = false ∨ hbit (H.2.1 g).2.2.2.2.2.2.2.1 (nI p) = true)) (hw : ho_way id ids s p H.1 H.2.2.1 H.2.2.2.1 = some (se1, dir1, dr1)) (hs : se1 p = S0 :: l) : ho1 id ids s g Y p H = (fset se1 p (ss_sent (ss_turn S0 (Tsec (nI dr1) (nI s) 2)) :: l), fset H.2.1 g (mm_gave (H.2.1 g) (1 <<< (nI p &&& 31))), dir1, dr_turn S0 dr1, H.2.2.2.2 ++ [ss_wire (ss_turn S0 (Tsec (nI dr1) (nI s) 2)) (nI s) (nI p) Y]) := by
  unfold ho1
  rw [if_neg h, hw]
  dsimp only
  unfold ho_put
  rw [hs]
end
def cq (s : Nat) : Nat → Nat → Nat
  | 0, _ => 0
  | n + 1, p => (if p = s then 0 else 1) + cq s n (p + 1)
/-- sessions begun -/
def bgn (se se' : Nat → List SS) : Nat → Nat → Nat
  | 0, _ => 0
  | n + 1, p => (if (se p).length = 0 ∧ (se' p).length ≠ 0 then 1 else 0) + bgn se se' n (p + 1)
theorem bgn_congr {se se1 se' : Nat → List SS} : ∀ (n p : Nat), (∀ q, p ≤ q → se1 q = se q) → bgn se1 se' n p = bgn se se' n p
  | 0, _, _ => rfl
  | n + 1, p, h => by
    unfold bgn
    rw [h p (Nat.le_refl p), bgn_congr n (p + 1) (fun q hq => h q (by omega))]
theorem ho1_se {id : Tm} {ids : Nat → Tm} {s g p : Nat} {Y : Tm} {H : HS} {q : Nat} (hq : q ≠ p) : (ho1 id ids s g Y p H).1 q = H.1 q := by
  obtain ⟨se, me, dir, dr, wt⟩ := H
  by_cases h : p = s ∨ hbit (me g).2.1 (nI p) = false ∨ hbit (me g).2.2.2.2.2.2.2.1 (nI p) = true
  · rw [ho1_skip (H := (se, me, dir, dr, wt)) h]
  · cases hs : se p with
    | nil =>
      by_cases hz : an_pre dir ids p = tz
      · rw [ho1_none (H := (se, me, dir, dr, wt)) h hs hz]
      · have hw : ho_way id ids s p se dir dr = some (fset se p [op_ses id (Tsec (nI dr) (nI s) 0) (Tsec (nI (dr + 1)) (nI s) 2) (ids p) (an_pre dir ids p) (an_once dir p 4 (p * 5 + 1)).1], (an_once dir p 4 (p * 5 + 1)).2, dr + 2) := by unfold ho_way; rw [hs]; exact cif_f hz
        rw [ho1_some (H := (se, me, dir, dr, wt)) h hw (fset_same _ _ _)]
        show (fset (fset se p _) p _) q = se q
        rw [fset_ne hq, fset_ne hq]
    | cons S0 l =>
      have hw : ho_way id ids s p se dir dr = some (se, dir, dr) := by unfold ho_way; rw [hs]
      rw [ho1_some (H := (se, me, dir, dr, wt)) h hw hs]
      exact fset_ne hq
theorem ho_se {id : Tm} {ids : Nat → Tm} {s g : Nat} {Y : Tm} : ∀ (n p : Nat) (H : HS) (q : Nat), q < p → (ho id ids s g Y n p H).1 q = H.1 q
  | 0, _, _, _, _ => rfl
  | n + 1, p, H, q, hq => by
    show (ho id ids s g Y n (p + 1) (ho1 id ids s g Y p H)).1 q = H.1 q
    rw [ho_se n (p + 1) _ q (by omega), ho1_se (by omega)]
theorem op_sd (id e r idd P O : Tm) : (op_ses id e r idd P O).2.2.2.2.1 ≠ tz := fun e => nomatch e
theorem gift_gave (M : MM) (b v : Int32) : mm_gift (mm_gave M b) v = mm_gift M v := by
  obtain ⟨ve, ma, go, ge, ch, si, ix, ga, sl, gv⟩ := M
  rfl
theorem si_gave (M : MM) (b : Int32) : (mm_gave M b).2.2.2.2.2.1 = M.2.2.2.2.2.1 := by
  obtain ⟨ve, ma, go, ge, ch, si, ix, ga, sl, gv⟩ := M
  rfl
def ok2 (S : SS) : Prop := kd S.1.1 = 2 ∧ kd S.2.2.2.1 = 1
def ok2e (se : Nat → List SS) : Prop := ∀ (p k : Nat) (S : SS), (se p)[k]? = some S → ok2 S
theorem ok2_sent {S : SS} {n : Tm} (h : ok2 S) (hn : kd n = 1) : ok2 (ss_sent (ss_turn S n)) := by
  obtain ⟨I, ba, ro, mi, se, n', b, br, bp, bo, on⟩ := S
  by_cases c : se = tz
  · rw [ss_turn_t c]; exact ⟨h.1, hn⟩
  · rw [ss_turn_f c]; exact h
theorem ok2e_set {se : Nat → List SS} {p : Nat} {S : SS} {l : List SS} (h : ok2e se) (hS : ok2 S) (hl : ∀ (k : Nat) (S' : SS), l[k]? = some S' → ok2 S') : ok2e (fset se p (S :: l)) := by
  intro q k S' hk
  by_cases c : q = p
  · subst c
    rw [fset_same] at hk
    rcases k with _ | k
    · cases hk; exact hS
    · exact hl k S' hk
  · rw [fset_ne c] at hk
    exact h q k S' hk
theorem op_ok2 {id e r idd P O : Tm} (hP : kd P = 2) (hr : kd r = 1) : ok2 (op_ses id e r idd P O) := ⟨hP, hr⟩
set_option maxRecDepth 100000 in
theorem l_mpostL {sc : tm_X} {d : Nat} {G Kw : Tm → Prop} {id : Tm} {K0 K1 : PK} {on : List (Tm × Int32)} {lnu : Int32} {s g : Nat} {ids : Nat → Tm} {Y : Tm} {Q : Option Value → MS → Prop} (hs : s < 6) (hg : g < 4) (eid : id = ids s) (kid : ∀ q, q < 6 → kd (ids q) = 1) : ∀ (n p : Nat) (f : Nat → Int32) (A : Nat → Nat → Int32) (T : List Tm) (DL : List (Int32 × Int32)) (se : Nat → List SS) (me : Nat → MM) (dir : Nat → Tm) (NW : List Tm) (gb : Nat), gb ≤ 2 → n + p = 6 → (Y ∈ T ∨ 2 ≤ gb) → PS f A T DL G Kw id K0 K1 on lnu se me dir NW → T.length + 21 * n + 4 ≤ 4000 → rc (A 1) T.length + 2 * n < 1000 → DL.length + 3 * n ≤ 3000 → NW.length + n ≤ 15 → ok2e se → kd (me g).2.2.2.2.2.1 = 1 → mm_gift (me g) (nI g) = Y → (∀ q, q < 6 → tv T (A 16 q) (ids q)) → (∀ f1 A1 T1 (E : List (Int32 × Int32)) (lv : tm_L), T <+: T1 → T1.length ≤ T.length + 9 * cq s n p + 10 * bgn se (ho id ids s g Y n p (se, me, dir, DL.length, NW)).1 n p + gb → rc (A1 1) T1.length ≤ rc (A 1) T.length + 2 * n → (∀ k, ¬ (k = 0 ∨ k = 7 ∨ k = 11 ∨ k = 30) → f1 k = f k) → (∀ j, ¬ ((1 ≤ j ∧ j ≤ 13) ∨ j = 15 ∨ j = 17 ∨ j = 26) → A1 j = A j) → PS f1 A1 T1 (DL ++ E) G Kw id K0 K1 on lnu (ho id ids s g Y n p (se, me, dir, DL.length, NW)).1 (ho id ids s g Y n p (se, me, dir, DL.length, NW)).2.1 (ho id ids s g Y n p (se, me, dir, DL.length, NW)).2.2.1 (ho id ids s g Y n p (se, me, dir, DL.length, NW)).2.2.2.2 → DL.length + E.length = (ho id ids s g Y n p (se, me, dir, DL.length, NW)).2.2.2.1 → (∀ e, e ∈ E → e.1 = nI s ∧ (e.2 = 0 ∨ e.2 = 2)) → dws A A1 DL.length (f 21) (E.map fun e => (e.1, decide (e.2 ≠ 0))) → lv.lookup 0 = some (.ref 1482) → lv.lookup 1 = some (.int (nI s)) → lv.lookup 2 = some (.int (nI g)) → lv.lookup 4 = some (.int (nI (486 + g * 279))) → mg sc (d + 6) 228 352 lv [] (f1, A1) Q) → ∀ lv : tm_L, lv.lookup 0 = some (.ref 1482) → lv.lookup 1 = some (.int (nI s)) → lv.lookup 2 = some (.int (nI g)) → lv.lookup 4 = some (.int (nI (486 + g * 279))) → lv.lookup 5 = some (.int (nI p)) → mg sc (d + 6) 228 176 lv [] (f, A) Q := by
  intro n
  induction n with
  | zero =>
    intro p f A T DL se me dir NW gb hgb2 hnp hgb hP hl hr hdl hnw hok ksi hY hids kk lv l0 l1 l2 l4 l5
    have hp6 : p = 6 := by omega
    subst hp6
    refine m_ild (pc' := 178) cd_Mo_post rfl (Or.inl ⟨rfl, rfl⟩) l5 rfl ?_
    refine m_k2 (v := 6) (pc' := 180) cd_Mo_post rfl (by decide) rfl ?_
    refine m_if2 (t := 352) (pc' := 183) cd_Mo_post rfl rfl rfl (fun c180 => ?_) (fun c180 => ?_)
    · have c180 : (6 : Int32) ≤ (nI 6) := c180
      exact kk f A T [] lv (List.prefix_refl T) (by omega) (by omega) (fun _ _ => rfl) (fun _ _ => rfl) (by rw [List.append_nil]; exact hP) rfl (fun e he => absurd he List.not_mem_nil) ⟨rfl, rfl, rfl, rfl⟩ l0 l1 l2 l4
    · have c180 : ¬ (6 : Int32) ≤ (nI 6) := c180
      exact absurd (show (6 : Int32) ≤ nI 6 from by decide) c180
  | succ n ih =>
    intro p f A T DL se me dir NW gb hgb2 hnp hgb hP hl hr hdl hnw hok ksi hY hids kk lv l0 l1 l2 l4 l5
    have hp : p < 6 := by omega
    have hP0 := hP
    obtain ⟨⟨hM, h11⟩, hD, hdir, h30, h26⟩ := hP
    have hTl := MT_len hM
    rcases hmg : me g with ⟨ve, ma, go, ge, ch, si, ix, ga, sl, gv⟩
    have hG := hD.2.2.2 g hg
    rw [hmg] at hG
    have g2 := hG.1.2.1
    have g8 := hG.2.2.1.2.1
    have hSs := hD.2.2.1 p hp
    have h24 := hSs.1.1
    have hl2 := hSs.1.2
    have hme1 : (me g).2.1 = ma := by rw [hmg]
    have hme7 : (me g).2.2.2.2.2.2.2.1 = ga := by rw [hmg]
    refine m_ild (pc' := 178) cd_Mo_post rfl (Or.inl ⟨rfl, rfl⟩) l5 rfl ?_
    refine m_k2 (v := 6) (pc' := 180) cd_Mo_post rfl (by decide) rfl ?_
    refine m_if2 (t := 352) (pc' := 183) cd_Mo_post rfl rfl rfl (fun c180 => ?_) (fun c180 => ?_)
    · have c180 : (6 : Int32) ≤ (nI p) := c180
      exact absurd c180 (nI_ge (b := 6) (by omega) (by decide))
    · have c180 : ¬ (6 : Int32) ≤ (nI p) := c180
      refine m_ild (pc' := 185) cd_Mo_post rfl (Or.inl ⟨rfl, rfl⟩) l5 rfl ?_
      refine m_ild (pc' := 186) cd_Mo_post rfl (Or.inr ⟨_, rfl, rfl, rfl⟩) l1 rfl ?_
      refine m_if2 (t := 229) (pc' := 189) cd_Mo_post rfl rfl rfl (fun c186 => ?_) (fun c186 => ?_)
      · have c186 : (nI p) = (nI s) := c186
        refine m_k1 (v := 0) (pc' := 230) cd_Mo_post rfl (by decide) rfl ?_
        refine m_ist (pc' := 232) cd_Mo_post rfl (Or.inl ⟨rfl, rfl⟩) (by decide) rfl (fun lv el => ?_)
        have l0 := tm_lk el l0 rfl (by decide)
        have l1 := tm_lk el l1 rfl (by decide)
        have l2 := tm_lk el l2 rfl (by decide)
        have l4 := tm_lk el l4 rfl (by decide)
        have l5 := tm_lk el l5 rfl (by decide)
        have l6 : lv.lookup 6 = some (.int 0) := tm_lks el
        clear el
        refine m_ild (pc' := 234) cd_Mo_post rfl (Or.inl ⟨rfl, rfl⟩) l6 rfl ?_
        refine m_if1 (t := 346) (pc' := 237) cd_Mo_post rfl rfl rfl (fun c234 => ?_) (fun c234 => ?_)
        · have c234 : (0 : Int32) = 0 := c234
          have eh1 : ho1 id ids s g Y p (se, me, dir, DL.length, NW) = (se, me, dir, DL.length, NW) := ho1_skip (Or.inl (nI_cxl (by omega) (by omega) c186))
          have hst : (ho id ids s g Y (n + 1) p (se, me, dir, DL.length, NW)) = (ho id ids s g Y n (p + 1) (se, me, dir, DL.length, NW)) := by show ho id ids s g Y n (p + 1) (ho1 id ids s g Y p (se, me, dir, DL.length, NW)) = _; rw [eh1]
          rw [hst] at kk
          refine m_inc (y := nI (p + 1)) (pc' := 349) cd_Mo_post rfl l5 (by decide) (nI_add p 1) rfl (fun lv el => ?_)
          have l0 := tm_lk el l0 rfl (by decide)
          have l1 := tm_lk el l1 rfl (by decide)
          have l2 := tm_lk el l2 rfl (by decide)
          have l4 := tm_lk el l4 rfl (by decide)
          have l5 : lv.lookup 5 = some (.int (nI (p + 1))) := tm_lks el
          clear el
          refine m_pure (pc' := 176) (st' := []) cd_Mo_post rfl rfl (fun _ _ => rfl) ?_
          exact ih (p + 1) f A T DL se me dir NW gb hgb2 (by omega) hgb hP0 (by omega) (by omega) (by omega) (by omega) hok ksi hY hids (fun f2 A2 T2 E lv p2 q2 s2 ef eA hP2 hE hE2 hdw2 l0 l1 l2 l4 => kk f2 A2 T2 E lv p2 (by show _ ≤ T.length + 9 * ((if p = s then 0 else 1) + cq s n (p + 1)) + 10 * ((if (se p).length = 0 ∧ _ then 1 else 0) + bgn se _ n (p + 1)) + gb; omega) (by omega) ef eA hP2 hE hE2 hdw2 l0 l1 l2 l4) lv l0 l1 l2 l4 l5
        · exact absurd (show ¬ (0 : Int32) = 0 from c234) (by decide)
      · have c186 : ¬ (nI p) = (nI s) := c186
        refine m_ald (pc' := 190) cd_Mo_post rfl (Or.inr ⟨_, rfl, rfl, rfl⟩) l0 rfl rfl ?_
        refine m_fR (r := 14) (a := 15) (ad := 1497) (pc' := 193) rfl rfl cd_Mo_post rfl rfl rfl rfl rfl ?_
        refine m_ild (pc' := 195) cd_Mo_post rfl (Or.inl ⟨rfl, rfl⟩) l4 rfl ?_
        refine m_k1 (v := 1) (pc' := 196) cd_Mo_post rfl (by decide) rfl ?_
        refine m_pure (pc' := 197) (st' := [.int ((nI (486 + g * 279)) + 1), .ref 1497]) cd_Mo_post rfl rfl (fun _ _ => rfl) ?_
        refine m_eq (show ((nI (486 + g * 279)) + 1 : Int32) = nI ((486 + g * 279) + 1) from nI_add (486 + g * 279) 1) ?_
        refine m_aI (r := 14) (a := 15) (g := (A 15)) (x := ma) (pc' := 198) rfl rfl cd_Mo_post rfl rfl rfl (vp_in_nI (by omega) (by decide)) ((congrArg (A 15) (nI_clamp (by omega))).trans g2) ?_
        refine m_ild (pc' := 200) cd_Mo_post rfl (Or.inl ⟨rfl, rfl⟩) l5 rfl ?_
        refine m_pure (pc' := 201) (st' := [.int (ma >>> ((nI p) &&& 31))]) cd_Mo_post rfl rfl (fun _ _ => rfl) ?_
        refine m_k1 (v := 1) (pc' := 202) cd_Mo_post rfl (by decide) rfl ?_
        refine m_pure (pc' := 203) (st' := [.int ((ma >>> ((nI p) &&& 31)) &&& 1)]) cd_Mo_post rfl rfl (fun _ _ => rfl) ?_
        refine m_k1 (v := 1) (pc' := 204) cd_Mo_post rfl (by decide) rfl ?_
        refine m_if2 (t := 229) (pc' := 207) cd_Mo_post rfl rfl rfl (fun c204 => ?_) (fun c204 => ?_)
        · have c204 : ¬ ((ma >>> ((nI p) &&& 31)) &&& 1) = 1 := c204
          refine m_k1 (v := 0) (pc' := 230) cd_Mo_post rfl (by decide) rfl ?_
          refine m_ist (pc' := 232) cd_Mo_post rfl (Or.inl ⟨rfl, rfl⟩) (by decide) rfl (fun lv el => ?_)
          have l0 := tm_lk el l0 rfl (by decide)
          have l1 := tm_lk el l1 rfl (by decide)
          have l2 := tm_lk el l2 rfl (by decide)
          have l4 := tm_lk el l4 rfl (by decide)
          have l5 := tm_lk el l5 rfl (by decide)
          have l6 : lv.lookup 6 = some (.int 0) := tm_lks el
          clear el
          refine m_ild (pc' := 234) cd_Mo_post rfl (Or.inl ⟨rfl, rfl⟩) l6 rfl ?_
          refine m_if1 (t := 346) (pc' := 237) cd_Mo_post rfl rfl rfl (fun c234 => ?_) (fun c234 => ?_)
          · have c234 : (0 : Int32) = 0 := c234
            have eh1 : ho1 id ids s g Y p (se, me, dir, DL.length, NW) = (se, me, dir, DL.length, NW) := ho1_skip (Or.inr (Or.inl (by show hbit (me g).2.1 (nI p) = false; rw [hme1]; exact hbit_0 c204)))
            have hst : (ho id ids s g Y (n + 1) p (se, me, dir, DL.length, NW)) = (ho id ids s g Y n (p + 1) (se, me, dir, DL.length, NW)) := by show ho id ids s g Y n (p + 1) (ho1 id ids s g Y p (se, me, dir, DL.length, NW)) = _; rw [eh1]
            rw [hst] at kk
            refine m_inc (y := nI (p + 1)) (pc' := 349) cd_Mo_post rfl l5 (by decide) (nI_add p 1) rfl (fun lv el => ?_)
            have l0 := tm_lk el l0 rfl (by decide)
            have l1 := tm_lk el l1 rfl (by decide)
            have l2 := tm_lk el l2 rfl (by decide)
            have l4 := tm_lk el l4 rfl (by decide)
            have l5 : lv.lookup 5 = some (.int (nI (p + 1))) := tm_lks el
            clear el
            refine m_pure (pc' := 176) (st' := []) cd_Mo_post rfl rfl (fun _ _ => rfl) ?_
            exact ih (p + 1) f A T DL se me dir NW gb hgb2 (by omega) hgb hP0 (by omega) (by omega) (by omega) (by omega) hok ksi hY hids (fun f2 A2 T2 E lv p2 q2 s2 ef eA hP2 hE hE2 hdw2 l0 l1 l2 l4 => kk f2 A2 T2 E lv p2 (by show _ ≤ T.length + 9 * ((if p = s then 0 else 1) + cq s n (p + 1)) + 10 * ((if (se p).length = 0 ∧ _ then 1 else 0) + bgn se _ n (p + 1)) + gb; omega) (by omega) ef eA hP2 hE hE2 hdw2 l0 l1 l2 l4) lv l0 l1 l2 l4 l5
          · exact absurd (show ¬ (0 : Int32) = 0 from c234) (by decide)
        · have c204 : ((ma >>> ((nI p) &&& 31)) &&& 1) = 1 := Classical.not_not.mp c204
          refine m_ald (pc' := 208) cd_Mo_post rfl (Or.inr ⟨_, rfl, rfl, rfl⟩) l0 rfl rfl ?_
          refine m_fR (r := 14) (a := 15) (ad := 1497) (pc' := 211) rfl rfl cd_Mo_post rfl rfl rfl rfl rfl ?_
          refine m_ild (pc' := 213) cd_Mo_post rfl (Or.inl ⟨rfl, rfl⟩) l4 rfl ?_
          refine m_k2 (v := 7) (pc' := 215) cd_Mo_post rfl (by decide) rfl ?_
          refine m_pure (pc' := 216) (st' := [.int ((nI (486 + g * 279)) + 7), .ref 1497]) cd_Mo_post rfl rfl (fun _ _ => rfl) ?_
          refine m_eq (show ((nI (486 + g * 279)) + 7 : Int32) = nI ((486 + g * 279) + 7) from nI_add (486 + g * 279) 7) ?_
          refine m_aI (r := 14) (a := 15) (g := (A 15)) (x := ga) (pc' := 217) rfl rfl cd_Mo_post rfl rfl rfl (vp_in_nI (by omega) (by decide)) ((congrArg (A 15) (nI_clamp (by omega))).trans g8) ?_
          refine m_ild (pc' := 219) cd_Mo_post rfl (Or.inl ⟨rfl, rfl⟩) l5 rfl ?_
          refine m_pure (pc' := 220) (st' := [.int (ga >>> ((nI p) &&& 31))]) cd_Mo_post rfl rfl (fun _ _ => rfl) ?_
          refine m_k1 (v := 1) (pc' := 221) cd_Mo_post rfl (by decide) rfl ?_
          refine m_pure (pc' := 222) (st' := [.int ((ga >>> ((nI p) &&& 31)) &&& 1)]) cd_Mo_post rfl rfl (fun _ _ => rfl) ?_
          refine m_if1 (t := 229) (pc' := 225) cd_Mo_post rfl rfl rfl (fun c222 => ?_) (fun c222 => ?_)
          · have c222 : ¬ ((ga >>> ((nI p) &&& 31)) &&& 1) = 0 := c222
            refine m_k1 (v := 0) (pc' := 230) cd_Mo_post rfl (by decide) rfl ?_
            refine m_ist (pc' := 232) cd_Mo_post rfl (Or.inl ⟨rfl, rfl⟩) (by decide) rfl (fun lv el => ?_)
            have l0 := tm_lk el l0 rfl (by decide)
            have l1 := tm_lk el l1 rfl (by decide)
            have l2 := tm_lk el l2 rfl (by decide)
            have l4 := tm_lk el l4 rfl (by decide)
            have l5 := tm_lk el l5 rfl (by decide)
            have l6 : lv.lookup 6 = some (.int 0) := tm_lks el
            clear el
            refine m_ild (pc' := 234) cd_Mo_post rfl (Or.inl ⟨rfl, rfl⟩) l6 rfl ?_
            refine m_if1 (t := 346) (pc' := 237) cd_Mo_post rfl rfl rfl (fun c234 => ?_) (fun c234 => ?_)
            · have c234 : (0 : Int32) = 0 := c234
              have eh1 : ho1 id ids s g Y p (se, me, dir, DL.length, NW) = (se, me, dir, DL.length, NW) := ho1_skip (Or.inr (Or.inr (by show hbit (me g).2.2.2.2.2.2.2.1 (nI p) = true; rw [hme7]; exact hbit_t c222)))
              have hst : (ho id ids s g Y (n + 1) p (se, me, dir, DL.length, NW)) = (ho id ids s g Y n (p + 1) (se, me, dir, DL.length, NW)) := by show ho id ids s g Y n (p + 1) (ho1 id ids s g Y p (se, me, dir, DL.length, NW)) = _; rw [eh1]
              rw [hst] at kk
              refine m_inc (y := nI (p + 1)) (pc' := 349) cd_Mo_post rfl l5 (by decide) (nI_add p 1) rfl (fun lv el => ?_)
              have l0 := tm_lk el l0 rfl (by decide)
              have l1 := tm_lk el l1 rfl (by decide)
              have l2 := tm_lk el l2 rfl (by decide)
              have l4 := tm_lk el l4 rfl (by decide)
              have l5 : lv.lookup 5 = some (.int (nI (p + 1))) := tm_lks el
              clear el
              refine m_pure (pc' := 176) (st' := []) cd_Mo_post rfl rfl (fun _ _ => rfl) ?_
              exact ih (p + 1) f A T DL se me dir NW gb hgb2 (by omega) hgb hP0 (by omega) (by omega) (by omega) (by omega) hok ksi hY hids (fun f2 A2 T2 E lv p2 q2 s2 ef eA hP2 hE hE2 hdw2 l0 l1 l2 l4 => kk f2 A2 T2 E lv p2 (by show _ ≤ T.length + 9 * ((if p = s then 0 else 1) + cq s n (p + 1)) + 10 * ((if (se p).length = 0 ∧ _ then 1 else 0) + bgn se _ n (p + 1)) + gb; omega) (by omega) ef eA hP2 hE hE2 hdw2 l0 l1 l2 l4) lv l0 l1 l2 l4 l5
            · exact absurd (show ¬ (0 : Int32) = 0 from c234) (by decide)
          · have c222 : ((ga >>> ((nI p) &&& 31)) &&& 1) = 0 := Classical.not_not.mp c222
            refine m_k1 (v := 1) (pc' := 226) cd_Mo_post rfl (by decide) rfl ?_
            refine m_pure (pc' := 230) (st' := [.int 1]) cd_Mo_post rfl rfl (fun _ _ => rfl) ?_
            refine m_ist (pc' := 232) cd_Mo_post rfl (Or.inl ⟨rfl, rfl⟩) (by decide) rfl (fun lv el => ?_)
            have l0 := tm_lk el l0 rfl (by decide)
            have l1 := tm_lk el l1 rfl (by decide)
            have l2 := tm_lk el l2 rfl (by decide)
            have l4 := tm_lk el l4 rfl (by decide)
            have l5 := tm_lk el l5 rfl (by decide)
            have l6 : lv.lookup 6 = some (.int 1) := tm_lks el
            clear el
            refine m_ild (pc' := 234) cd_Mo_post rfl (Or.inl ⟨rfl, rfl⟩) l6 rfl ?_
            refine m_if1 (t := 346) (pc' := 237) cd_Mo_post rfl rfl rfl (fun c234 => ?_) (fun c234 => ?_)
            · exact absurd (show (1 : Int32) = 0 from c234) (by decide)
            · have c234 : ¬ (1 : Int32) = 0 := c234
              refine m_ald (pc' := 238) cd_Mo_post rfl (Or.inr ⟨_, rfl, rfl, rfl⟩) l0 rfl rfl ?_
              refine m_fR (r := 14) (a := 15) (ad := 1497) (pc' := 241) rfl rfl cd_Mo_post rfl rfl rfl rfl rfl ?_
              refine m_k2 (v := 24) (pc' := 243) cd_Mo_post rfl (by decide) rfl ?_
              refine m_ild (pc' := 245) cd_Mo_post rfl (Or.inl ⟨rfl, rfl⟩) l5 rfl ?_
              refine m_pure (pc' := 246) (st' := [.int ((24 : Int32) + (nI p)), .ref 1497]) cd_Mo_post rfl rfl (fun _ _ => rfl) ?_
              refine m_eq (show ((24 : Int32) + (nI p) : Int32) = nI (24 + p) from nI_add 24 p) ?_
              refine m_aI (r := 14) (a := 15) (g := (A 15)) (x := nI (se p).length) (pc' := 247) rfl rfl cd_Mo_post rfl rfl rfl (vp_in_nI (by omega) (by decide)) ((congrArg (A 15) (nI_clamp (by omega))).trans h24) ?_
              refine m_if1 (t := 263) (pc' := 250) cd_Mo_post rfl rfl rfl (fun c247 => ?_) (fun c247 => ?_)
              · have c247 : ¬ (nI (se p).length) = 0 := c247
                obtain ⟨S0, lz, hsc⟩ : ∃ S0 lz, se p = S0 :: lz := by
                  cases hq : se p with
                  | nil => exact absurd (by rw [hq]; rfl) c247
                  | cons a b => exact ⟨a, b, rfl⟩
                have hw : ho_way id ids s p se dir DL.length = some (se, dir, DL.length) := by unfold ho_way; rw [hsc]
                have eh1 := ho1_some (Y := Y) (g := g) (H := (se, me, dir, DL.length, NW)) (fun q => q.elim (fun q => c186 (by rw [q])) (fun q => q.elim (fun q => Bool.noConfusion ((hbit_1 c204).symm.trans ((congrArg (fun z => hbit z (nI p)) hme1).symm.trans q))) (fun q => Bool.noConfusion ((hbit_f c222).symm.trans ((congrArg (fun z => hbit z (nI p)) hme7).symm.trans q))))) hw hsc
                have hst : (ho id ids s g Y (n + 1) p (se, me, dir, DL.length, NW)) = ho id ids s g Y n (p + 1) (fset se p (ss_sent (ss_turn S0 (Tsec (nI DL.length) (nI s) 2)) :: lz), fset me g (mm_gave (me g) (1 <<< (nI p &&& 31))), dir, dr_turn S0 DL.length, NW ++ [ss_wire (ss_turn S0 (Tsec (nI DL.length) (nI s) 2)) (nI s) (nI p) Y]) := by show ho id ids s g Y n (p + 1) (ho1 id ids s g Y p (se, me, dir, DL.length, NW)) = _; rw [eh1]
                rw [hst] at kk
                have hk0 := hok p 0 S0 (by rw [hsc]; rfl)
                obtain ⟨⟨th1, ch1, nx1, le1⟩, ba1, ro1, mi1, sd1, n1, b1, br1, bp1, bo1, oc1⟩ := S0
                refine l_mhand (d := d + 1) (by rw [hY]; exact hgb) hP0 (by omega) (by omega) (by omega) hs hp hg hsc hk0.1 hk0.2 ksi (by omega) (fun f3 A3 T3 E3 lv p3 q3 m3 s3 ef3 eA3 hP3 hE3 hE32 hdw3 l0 l1 l2 l4 l5 => ?_) lv l0 l1 l2 l4 l5
                have hE3b : dr_turn ((th1, ch1, nx1, le1), ba1, ro1, mi1, sd1, n1, b1, br1, bp1, bo1, oc1) DL.length = (DL ++ E3).length := hE3.symm.trans List.length_append.symm
                rw [hE3b] at kk
                rw [hY] at hP3 m3
                refine m_inc (y := nI (p + 1)) (pc' := 349) cd_Mo_post rfl l5 (by decide) (nI_add p 1) rfl (fun lv el => ?_)
                have l0 := tm_lk el l0 rfl (by decide)
                have l1 := tm_lk el l1 rfl (by decide)
                have l2 := tm_lk el l2 rfl (by decide)
                have l4 := tm_lk el l4 rfl (by decide)
                have l5 : lv.lookup 5 = some (.int (nI (p + 1))) := tm_lks el
                clear el
                refine m_pure (pc' := 176) (st' := []) cd_Mo_post rfl rfl (fun _ _ => rfl) ?_
                have hE1 : E3.length ≤ 1 := by have hdt : dr_turn ((th1, ch1, nx1, le1), ba1, ro1, mi1, sd1, n1, b1, br1, bp1, bo1, oc1) DL.length ≤ DL.length + 1 := (by unfold dr_turn; split <;> omega); omega
                have hme2 : (fset me g (mm_gave (me g) (1 <<< (nI p &&& 31)))) g = mm_gave (me g) (1 <<< (nI p &&& 31)) := fset_same _ _ _
                refine ih (p + 1) f3 A3 T3 (DL ++ E3) _ _ _ _ 0 (by omega) (by omega) (Or.inl m3) hP3 (by have hE30 : E3.length ≤ 1 := hE1; omega) (by omega) (by rw [List.length_append]; have hdt : dr_turn ((th1, ch1, nx1, le1), ba1, ro1, mi1, sd1, n1, b1, br1, bp1, bo1, oc1) DL.length ≤ DL.length + 1 := (by unfold dr_turn; split <;> omega); omega) (by rw [List.length_append]; simp only [List.length_cons, List.length_nil]; omega) (ok2e_set hok (ok2_sent hk0 rfl) (fun k S q => hok p (k + 1) S (by rw [hsc]; exact q))) (by rw [hme2, si_gave]; exact ksi) (by rw [hme2, gift_gave]; exact hY) (fun q hq => by rw [eA3 16 (by decide)]; exact tv_mono p3 (hids q hq)) (fun f4 A4 T4 E4 lv p4 q4 s4 ef4 eA4 hP4 hE4 hE42 hdw4 l0 l1 l2 l4 => ?_) lv l0 l1 l2 l4 l5
                have hps : ¬ p = s := fun q => c186 (by rw [q])
                have hps : ¬ p = s := fun q => c186 (by rw [q])
                rw [bgn_congr (se := se) n (p + 1) (fun q hq => fset_ne (show q ≠ p by omega))] at q4
                refine kk f4 A4 T4 (E3 ++ E4) lv (p3.trans p4) (by show _ ≤ T.length + 9 * ((if p = s then 0 else 1) + cq s n (p + 1)) + 10 * ((if (se p).length = 0 ∧ _ then 1 else 0) + bgn se _ n (p + 1)) + gb; rw [if_neg hps]; omega) (by omega) (fun k q => (ef4 k q).trans (ef3 k q)) (fun j q => (eA4 j q).trans (eA3 j q)) (by rw [← List.append_assoc]; exact hP4) (by rw [← hE4, List.length_append, List.length_append]; omega) (fun e he => ?_) ?_ l0 l1 l2 l4
                · rcases List.mem_append.mp he with he | he
                  · rw [hE32 e he]; exact ⟨rfl, Or.inr rfl⟩
                  · exact hE42 e he
                · rw [List.map_append]
                  refine dws_app hdw3 ?_
                  rw [List.length_map, ← List.length_append, ← ef3 21 (by decide)]
                  exact hdw4
              · have c247 : (nI (se p).length) = 0 := Classical.not_not.mp c247
                refine m_ald (pc' := 251) cd_Mo_post rfl (Or.inr ⟨_, rfl, rfl, rfl⟩) l0 rfl rfl ?_
                refine m_ild (pc' := 252) cd_Mo_post rfl (Or.inr ⟨_, rfl, rfl, rfl⟩) l1 rfl ?_
                refine m_ild (pc' := 254) cd_Mo_post rfl (Or.inl ⟨rfl, rfl⟩) l5 rfl ?_
                refine m_ci (pc' := 257) cd_Mo_post rfl rfl rfl rfl rfl cd_Mo_begins rfl (Nat.le_of_ble_eq_true rfl) (m_begins (ids := ids) (dir := dir) (l := se p) hM (by omega) (by omega) h11 (by omega) hs hp hids kid hdir hSs (fun hN => ?_) (fun hnz f1 A1 T1 p1 q1 s1 hM1 e11 hdw h17 hse1 he15 => ?_))
                · skip
                  show mg _ _ _ 257 _ [.int 0] _ _
                  refine m_if1 (t := 263) (pc' := 260) cd_Mo_post rfl rfl rfl (fun c257 => ?_) (fun c257 => ?_)
                  · exact absurd (show ¬ (0 : Int32) = 0 from c257) (by decide)
                  · have c257 : (0 : Int32) = 0 := Classical.not_not.mp c257
                    refine m_pure (pc' := 346) (st' := []) cd_Mo_post rfl rfl (fun _ _ => rfl) ?_
                    have hsn : se p = [] := by
                      cases hq : se p with
                      | nil => rfl
                      | cons a b => rw [hq] at c247; exact absurd c247 (nI_ne0 (by simp) (by rw [hq] at hl2; omega))
                    have eh1 : ho1 id ids s g Y p (se, me, dir, DL.length, NW) = (se, me, dir, DL.length, NW) := ho1_none (H := (se, me, dir, DL.length, NW)) (fun q => q.elim (fun q => c186 (by rw [q])) (fun q => q.elim (fun q => Bool.noConfusion ((hbit_1 c204).symm.trans ((congrArg (fun z => hbit z (nI p)) hme1).symm.trans q))) (fun q => Bool.noConfusion ((hbit_f c222).symm.trans ((congrArg (fun z => hbit z (nI p)) hme7).symm.trans q))))) hsn hN
                    have hst : (ho id ids s g Y (n + 1) p (se, me, dir, DL.length, NW)) = (ho id ids s g Y n (p + 1) (se, me, dir, DL.length, NW)) := by show ho id ids s g Y n (p + 1) (ho1 id ids s g Y p (se, me, dir, DL.length, NW)) = _; rw [eh1]
                    rw [hst] at kk
                    refine m_inc (y := nI (p + 1)) (pc' := 349) cd_Mo_post rfl l5 (by decide) (nI_add p 1) rfl (fun lv el => ?_)
                    have l0 := tm_lk el l0 rfl (by decide)
                    have l1 := tm_lk el l1 rfl (by decide)
                    have l2 := tm_lk el l2 rfl (by decide)
                    have l4 := tm_lk el l4 rfl (by decide)
                    have l5 : lv.lookup 5 = some (.int (nI (p + 1))) := tm_lks el
                    clear el
                    refine m_pure (pc' := 176) (st' := []) cd_Mo_post rfl rfl (fun _ _ => rfl) ?_
                    exact ih (p + 1) f A T DL se me dir NW gb hgb2 (by omega) hgb hP0 (by omega) (by omega) (by omega) (by omega) hok ksi hY hids (fun f2 A2 T2 E lv p2 q2 s2 ef eA hP2 hE hE2 hdw2 l0 l1 l2 l4 => kk f2 A2 T2 E lv p2 (by show _ ≤ T.length + 9 * ((if p = s then 0 else 1) + cq s n (p + 1)) + 10 * ((if (se p).length = 0 ∧ _ then 1 else 0) + bgn se _ n (p + 1)) + gb; omega) (by omega) ef eA hP2 hE hE2 hdw2 l0 l1 l2 l4) lv l0 l1 l2 l4 l5
                · skip
                  show mg _ _ _ 257 _ [.int 1] _ _
                  refine m_if1 (t := 263) (pc' := 260) cd_Mo_post rfl rfl rfl (fun c257 => ?_) (fun c257 => ?_)
                  · have c257 : ¬ (1 : Int32) = 0 := c257
                    have hsn : se p = [] := by
                      cases hq : se p with
                      | nil => rfl
                      | cons a b => rw [hq] at c247; exact absurd c247 (nI_ne0 (by simp) (by rw [hq] at hl2; omega))
                    have s1 : rc (A1 1) T1.length ≤ rc (A 1) T.length := s1
                    rw [hsn, List.take_nil, ← eid] at hse1
                    have hw : ho_way id ids s p se dir DL.length = some (fset se p [(op_ses id (Tsec (nI DL.length) (nI s) 0) (Tsec (nI (DL.length + 1)) (nI s) 2) (ids p) (an_pre dir ids p) (an_once dir p 4 (p * 5 + 1)).1)], (an_once dir p 4 (p * 5 + 1)).2, DL.length + 2) := by unfold ho_way; rw [hsn]; exact cif_f hnz
                    have hsc : (fset se p [(op_ses id (Tsec (nI DL.length) (nI s) 0) (Tsec (nI (DL.length + 1)) (nI s) 2) (ids p) (an_pre dir ids p) (an_once dir p 4 (p * 5 + 1)).1)]) p = (op_ses id (Tsec (nI DL.length) (nI s) 0) (Tsec (nI (DL.length + 1)) (nI s) 2) (ids p) (an_pre dir ids p) (an_once dir p 4 (p * 5 + 1)).1) :: [] := fset_same _ _ _
                    have eh1 := ho1_some (Y := Y) (g := g) (H := (se, me, dir, DL.length, NW)) (fun q => q.elim (fun q => c186 (by rw [q])) (fun q => q.elim (fun q => Bool.noConfusion ((hbit_1 c204).symm.trans ((congrArg (fun z => hbit z (nI p)) hme1).symm.trans q))) (fun q => Bool.noConfusion ((hbit_f c222).symm.trans ((congrArg (fun z => hbit z (nI p)) hme7).symm.trans q))))) hw hsc
                    rw [fset_fset] at eh1
                    have hst : (ho id ids s g Y (n + 1) p (se, me, dir, DL.length, NW)) = ho id ids s g Y n (p + 1) (fset se p (ss_sent (ss_turn (op_ses id (Tsec (nI DL.length) (nI s) 0) (Tsec (nI (DL.length + 1)) (nI s) 2) (ids p) (an_pre dir ids p) (an_once dir p 4 (p * 5 + 1)).1) (Tsec (nI (DL.length + 2)) (nI s) 2)) :: []), fset me g (mm_gave (me g) (1 <<< (nI p &&& 31))), (an_once dir p 4 (p * 5 + 1)).2, dr_turn (op_ses id (Tsec (nI DL.length) (nI s) 0) (Tsec (nI (DL.length + 1)) (nI s) 2) (ids p) (an_pre dir ids p) (an_once dir p 4 (p * 5 + 1)).1) (DL.length + 2), NW ++ [ss_wire (ss_turn (op_ses id (Tsec (nI DL.length) (nI s) 0) (Tsec (nI (DL.length + 1)) (nI s) 2) (ids p) (an_pre dir ids p) (an_once dir p 4 (p * 5 + 1)).1) (Tsec (nI (DL.length + 2)) (nI s) 2)) (nI s) (nI p) Y]) := by show ho id ids s g Y n (p + 1) (ho1 id ids s g Y p (se, me, dir, DL.length, NW)) = _; rw [eh1]
                    rw [hst] at kk
                    have hdlen : (DL ++ [(nI s, (0 : Int32)), (nI s, (2 : Int32))]).length = DL.length + 2 := by simp
                    have hD1 : qDv (A1 15) T1 (id, K0, K1, on, lnu, fset se p [(op_ses id (Tsec (nI DL.length) (nI s) 0) (Tsec (nI (DL.length + 1)) (nI s) 2) (ids p) (an_pre dir ids p) (an_once dir p 4 (p * 5 + 1)).1)], me) := qDv_ses hp hD p1 hse1 he15
                    have hP1 : PS (mjBf f1 f) (mjBA A1 A) T1 (DL ++ [(nI s, 0), (nI s, 2)]) G Kw id K0 K1 on lnu (fset se p [(op_ses id (Tsec (nI DL.length) (nI s) 0) (Tsec (nI (DL.length + 1)) (nI s) 2) (ids p) (an_pre dir ids p) (an_once dir p 4 (p * 5 + 1)).1)]) me (an_once dir p 4 (p * 5 + 1)).2 NW := ⟨⟨hM1, e11.trans (by rw [hdlen])⟩, hD1, h17, h30, fun i X hX => tv_mono p1 (h26 i X hX)⟩
                    have hokO : ok2 (op_ses id (Tsec (nI DL.length) (nI s) 0) (Tsec (nI (DL.length + 1)) (nI s) 2) (ids p) (an_pre dir ids p) (an_once dir p 4 (p * 5 + 1)).1) := op_ok2 (an_pre_kd hnz) rfl
                    have hok1 : ok2e (fset se p [(op_ses id (Tsec (nI DL.length) (nI s) 0) (Tsec (nI (DL.length + 1)) (nI s) 2) (ids p) (an_pre dir ids p) (an_once dir p 4 (p * 5 + 1)).1)]) := ok2e_set hok hokO (fun k S q => by simp at q)
                    rw [← hdlen] at kk
                    have hsd0 := op_sd id (Tsec (nI DL.length) (nI s) 0) (Tsec (nI (DL.length + 1)) (nI s) 2) (ids p) (an_pre dir ids p) (an_once dir p 4 (p * 5 + 1)).1
                    generalize (op_ses id (Tsec (nI DL.length) (nI s) 0) (Tsec (nI (DL.length + 1)) (nI s) 2) (ids p) (an_pre dir ids p) (an_once dir p 4 (p * 5 + 1)).1) = S0 at hP1 hsc kk hokO hok1 hsd0
                    obtain ⟨⟨th1, ch1, nx1, le1⟩, ba1, ro1, mi1, sd1, n1, b1, br1, bp1, bo1, oc1⟩ := S0
                    refine l_mhand (d := d + 1) (gb := gb) (by rw [hY]; exact hgb.imp_left (fun z => p1.subset z)) hP1 (by omega) (by show rc (A1 1) _ + 2 < 1000; omega) (by rw [hdlen]; omega) hs hp hg hsc hokO.1 hokO.2 ksi (by omega) (fun f3 A3 T3 E3 lv p3 q3 m3 s3 ef3 eA3 hP3 hE3 hE32 hdw3 l0 l1 l2 l4 l5 => ?_) lv l0 l1 l2 l4 l5
                    have s3 : rc (A3 1) T3.length ≤ rc (A1 1) T1.length + 2 := s3
                    rw [fset_fset] at hP3
                    have hE3b : dr_turn ((th1, ch1, nx1, le1), ba1, ro1, mi1, sd1, n1, b1, br1, bp1, bo1, oc1) (DL ++ [(nI s, 0), (nI s, 2)]).length = ((DL ++ [(nI s, 0), (nI s, 2)]) ++ E3).length := hE3.symm.trans List.length_append.symm
                    rw [hE3b] at kk
                    rw [hY] at hP3 m3
                    refine m_inc (y := nI (p + 1)) (pc' := 349) cd_Mo_post rfl l5 (by decide) (nI_add p 1) rfl (fun lv el => ?_)
                    have l0 := tm_lk el l0 rfl (by decide)
                    have l1 := tm_lk el l1 rfl (by decide)
                    have l2 := tm_lk el l2 rfl (by decide)
                    have l4 := tm_lk el l4 rfl (by decide)
                    have l5 : lv.lookup 5 = some (.int (nI (p + 1))) := tm_lks el
                    clear el
                    refine m_pure (pc' := 176) (st' := []) cd_Mo_post rfl rfl (fun _ _ => rfl) ?_
                    have hE0 : E3.length = 0 := by have e : ∀ z, dr_turn ((th1, ch1, nx1, le1), ba1, ro1, mi1, sd1, n1, b1, br1, bp1, bo1, oc1) z = z := fun z => if_neg (fun q => hsd0 (tnil_iff.mp q)); rw [e] at hE3; omega
                    have hme2 : (fset me g (mm_gave (me g) (1 <<< (nI p &&& 31)))) g = mm_gave (me g) (1 <<< (nI p &&& 31)) := fset_same _ _ _
                    refine ih (p + 1) f3 A3 T3 ((DL ++ [(nI s, 0), (nI s, 2)]) ++ E3) _ _ _ _ 0 (by omega) (by omega) (Or.inl m3) hP3 (by have hE30 : E3.length = 0 := hE0; omega) (by omega) (by rw [List.length_append]; have hdt : dr_turn ((th1, ch1, nx1, le1), ba1, ro1, mi1, sd1, n1, b1, br1, bp1, bo1, oc1) (DL ++ [(nI s, 0), (nI s, 2)]).length ≤ (DL ++ [(nI s, 0), (nI s, 2)]).length + 1 := (by unfold dr_turn; split <;> omega); rw [hdlen] at hE3 hdt; omega) (by rw [List.length_append]; simp only [List.length_cons, List.length_nil]; omega) (ok2e_set hok (ok2_sent hokO rfl) (fun k S q => by simp at q)) (by rw [hme2, si_gave]; exact ksi) (by rw [hme2, gift_gave]; exact hY) (fun q hq => by rw [eA3 16 (by decide)]; exact tv_mono (p1.trans p3) (hids q hq)) (fun f4 A4 T4 E4 lv p4 q4 s4 ef4 eA4 hP4 hE4 hE42 hdw4 l0 l1 l2 l4 => ?_) lv l0 l1 l2 l4 l5
                    have hdw0 : dws A (mjBA A1 A) DL.length (f 21) [(nI s, false), (nI s, true)] := hdw
                    have hdw3b := hdw3
                    rw [hdlen] at hdw3b
                    have hdwA := dws_app hdw0 hdw3b
                    have hps : ¬ p = s := fun q => c186 (by rw [q])
                    rw [bgn_congr (se := se) n (p + 1) (fun q hq => fset_ne (show q ≠ p by omega))] at q4
                    refine kk f4 A4 T4 ([(nI s, 0), (nI s, 2)] ++ (E3 ++ E4)) lv ((p1.trans p3).trans p4) (by show _ ≤ T.length + 9 * ((if p = s then 0 else 1) + cq s n (p + 1)) + 10 * ((if (se p).length = 0 ∧ _ then 1 else 0) + bgn se _ n (p + 1)) + gb; rw [if_neg hps, if_pos ⟨(by rw [hsn]; rfl), (by rw [ho_se n (p + 1) _ p (by omega)]; show (fset se p _ p).length ≠ 0; rw [fset_same]; simp)⟩]; omega) (by omega) (fun k q => (ef4 k q).trans ((ef3 k q).trans (by have e0 : ¬ k = 0 := (by omega); have e7 : ¬ k = 7 := (by omega); have e11 : ¬ k = 11 := (by omega); simp only [mjBf, e0, e7, e11, or_self, if_false]))) (fun j q => (eA4 j q).trans ((eA3 j q).trans (by have e0 : ¬ (1 ≤ j ∧ j ≤ 13) := (by omega); have e15 : ¬ j = 15 := (by omega); have e17 : ¬ j = 17 := (by omega); simp only [mjBA, e0, e15, e17, or_self, if_false]))) (by rw [← List.append_assoc, ← List.append_assoc]; exact hP4) (by rw [← hE4, List.length_append, List.length_append, List.length_append, hdlen]; simp only [List.length_cons, List.length_nil]; omega) (fun e he => ?_) ?_ l0 l1 l2 l4
                    · rcases List.mem_append.mp he with he | he
                      · simp only [List.mem_cons, List.not_mem_nil, or_false] at he
                        rcases he with rfl | rfl
                        · exact ⟨rfl, Or.inl rfl⟩
                        · exact ⟨rfl, Or.inr rfl⟩
                      · rcases List.mem_append.mp he with he | he
                        · rw [hE32 e he]; exact ⟨rfl, Or.inr rfl⟩
                        · exact hE42 e he
                    · rw [List.map_append, List.map_append, ← List.append_assoc]
                      refine dws_app hdwA ?_
                      have ef21 : f3 21 = f 21 := (ef3 21 (by decide)).trans rfl
                      have h4 := hdw4
                      rw [ef21, show ((DL ++ [(nI s, (0 : Int32)), (nI s, (2 : Int32))]) ++ E3).length = DL.length + ([(nI s, false), (nI s, true)] ++ E3.map fun e => (e.1, decide (e.2 ≠ 0))).length by simp only [List.length_append, List.length_map, List.length_cons, List.length_nil]; omega] at h4
                      exact h4
                  · exact absurd (show ¬ (¬ (1 : Int32) = 0) from c257) (by decide)
