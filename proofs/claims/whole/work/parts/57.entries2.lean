/-! Membership and Device write their entries -/
def gl_en (l : List GV) : EN2 := l.flatMap gv_en
def sl_en (l : List SS) : EN2 := l.flatMap se_en
def on_en (l : List (Tm × Int32)) : EN2 := l.flatMap fun e => [(e.1, tz)]
def mm_en (M : MM) : EN2 := (if 0 < M.2.2.2.1 then [(M.2.2.2.2.1, M.2.2.2.2.2.1)] else []) ++ gl_en (mgv M 0) ++ gl_en (mgv M 1) ++ gl_en (mgv M 2) ++ gl_en (mgv M 3) ++ gl_en (mgv M 4) ++ gl_en (mgv M 5)
def dv_en (D : DV) : EN2 := match D with
  | (id, K0, K1, on, _, se, me) => [(id, tz)] ++ pk_en K0 ++ pk_en K1 ++ on_en on ++ sl_en (se 0) ++ sl_en (se 1) ++ sl_en (se 2) ++ sl_en (se 3) ++ sl_en (se 4) ++ sl_en (se 5) ++ mm_en (me 0) ++ mm_en (me 1) ++ mm_en (me 2) ++ mm_en (me 3)
theorem l_Mw {sc : tm_X} {d sa : Nat} {T : List Tm} {p0 : Bool} {P : EN2} {c : Option Nat} {dn : Bool} {m : Nat} {w : Nat → Bool} {M : MM} {p : Nat} {Q : Option Value → bm_H → Prop} (h0 : T0 T) (hd : m + 38 < sa ∨ sa + 5 < m) (hp : p < 6) : ∀ (R : List GV) (i : Nat) (B : bm_H) (W : EN2), RMe B T m w M → RSw B T sa p0 P c dn W → (mgv M p).drop i = R → i ≤ 2 → W.length + (gl_en R).length ≤ 536 → (∀ B' (lv2 : tm_L), RSw B' T sa p0 P c dn (W ++ gl_en R) → fz (stx sa) B B' → lv2.lookup 0 = some (.ref m) → lv2.lookup 1 = some (.ref sa) → lv2.lookup 2 = some (.int (nI p)) → bm_G sc (d + 2) 54 59 lv2 [] B' Q) → ∀ lv : tm_L, lv.lookup 0 = some (.ref m) → lv.lookup 1 = some (.ref sa) → lv.lookup 2 = some (.int (nI p)) → lv.lookup 3 = some (.int (nI i)) → bm_G sc (d + 2) 54 29 lv [] B Q := by
  intro R
  induction R with
  | nil =>
    intro i B W hR hw hdr hib hW kk lv l0 l1 l2 l3
    have hl := drop_nil hdr
    have hp2 := (hR.2.2 p hp).1.2
    refine g_ild (pc' := 30) cd_Me_writeEntries rfl (Or.inr ⟨_, rfl, rfl, rfl⟩) l3 rfl ?_
    refine g_ald (pc' := 31) cd_Me_writeEntries rfl (Or.inr ⟨_, rfl, rfl, rfl⟩) l0 rfl rfl ?_
    refine g_fR (c := 5) (k := 0) (x := (m + 1)) (pc' := 34) cd_Me_writeEntries rfl rfl rfl rfl rfl (by decide) hR.1.1.1 hR.1.1.2 hR.1.2.1.1 ?_
    refine g_ild (pc' := 35) cd_Me_writeEntries rfl (Or.inr ⟨_, rfl, rfl, rfl⟩) l2 rfl ?_
    refine g_aI (x := nI (mgv M p).length) (pc' := 36) cd_Me_writeEntries rfl rfl hR.1.2.2.1.1 hR.1.2.2.1.2.1 (by rw [show bm_AL B (m + 1) = 6 from hR.1.2.2.1.2.2]; exact vp_in_nI (by omega) (by decide)) (by rw [nI_clamp (by omega)]; exact (hR.2.2 p hp).1.1) ?_
    refine g_if2 (t := 59) (pc' := 39) cd_Me_writeEntries rfl rfl rfl (fun c36 => ?_) (fun c36 => ?_)
    · have c36 : (nI (mgv M p).length) ≤ (nI i) := c36
      exact kk _ lv (by simpa [gl_en] using hw) (fz_rfl _ _) l0 l1 l2
    · have c36 : ¬ (nI (mgv M p).length) ≤ (nI i) := c36
      exact absurd (nI_le hl (by omega)) c36
  | cons e R ih =>
    intro i B W hR hw hdr hib hW kk lv l0 l1 l2 l3
    obtain ⟨he, hdr2⟩ := drop_cons hdr
    have hl := (List.getElem?_eq_some_iff.mp he).1
    have hE : gl_en (e :: R) = gv_en e ++ gl_en R := rfl
    rw [hE, List.length_append] at hW
    have hp2 := (hR.2.2 p hp).1.2
    refine g_ild (pc' := 30) cd_Me_writeEntries rfl (Or.inr ⟨_, rfl, rfl, rfl⟩) l3 rfl ?_
    refine g_ald (pc' := 31) cd_Me_writeEntries rfl (Or.inr ⟨_, rfl, rfl, rfl⟩) l0 rfl rfl ?_
    refine g_fR (c := 5) (k := 0) (x := (m + 1)) (pc' := 34) cd_Me_writeEntries rfl rfl rfl rfl rfl (by decide) hR.1.1.1 hR.1.1.2 hR.1.2.1.1 ?_
    refine g_ild (pc' := 35) cd_Me_writeEntries rfl (Or.inr ⟨_, rfl, rfl, rfl⟩) l2 rfl ?_
    refine g_aI (x := nI (mgv M p).length) (pc' := 36) cd_Me_writeEntries rfl rfl hR.1.2.2.1.1 hR.1.2.2.1.2.1 (by rw [show bm_AL B (m + 1) = 6 from hR.1.2.2.1.2.2]; exact vp_in_nI (by omega) (by decide)) (by rw [nI_clamp (by omega)]; exact (hR.2.2 p hp).1.1) ?_
    refine g_if2 (t := 59) (pc' := 39) cd_Me_writeEntries rfl rfl rfl (fun c36 => ?_) (fun c36 => ?_)
    · have c36 : (nI (mgv M p).length) ≤ (nI i) := c36
      exact absurd c36 (nI_ge hl (by omega))
    · have c36 : ¬ (nI (mgv M p).length) ≤ (nI i) := c36
      refine g_ald (pc' := 40) cd_Me_writeEntries rfl (Or.inr ⟨_, rfl, rfl, rfl⟩) l0 rfl rfl ?_
      refine g_fR (c := 5) (k := 1) (x := (m + 2)) (pc' := 43) cd_Me_writeEntries rfl rfl rfl rfl rfl (by decide) hR.1.1.1 hR.1.1.2 hR.1.2.1.2 ?_
      refine g_ild (pc' := 44) cd_Me_writeEntries rfl (Or.inr ⟨_, rfl, rfl, rfl⟩) l2 rfl ?_
      refine g_k1 (v := 2) (pc' := 45) cd_Me_writeEntries rfl (by decide) rfl ?_
      refine g_pure (pc' := 46) (st' := [.int ((nI p) * 2), .ref ((m + 2))]) cd_Me_writeEntries rfl rfl (fun _ _ => rfl) ?_
      rw [show ((nI p) * 2 : Int32) = nI (p * 2) from pk_mul p 2]
      refine g_ild (pc' := 47) cd_Me_writeEntries rfl (Or.inr ⟨_, rfl, rfl, rfl⟩) l3 rfl ?_
      refine g_pure (pc' := 48) (st' := [.int ((nI (p * 2)) + (nI i)), .ref ((m + 2))]) cd_Me_writeEntries rfl rfl (fun _ _ => rfl) ?_
      rw [show ((nI (p * 2)) + (nI i) : Int32) = nI ((p * 2) + i) from nI_add (p * 2) i]
      have hg := RGs_get (hR.2.2 p hp) he
      refine g_aR (t := 7) (x := (gA m w p i)) (pc' := 49) cd_Me_writeEntries rfl rfl hR.1.2.2.2.1 hR.1.2.2.2.2.1 (by decide) rfl rfl (by rw [show bm_AL B (m + 2) = 12 from hR.1.2.2.2.2.2]; exact vp_in_nI (by omega) (by decide)) (by rw [nI_clamp (by omega), show p * 2 + i = 2 * p + i by omega]; exact hg.2.2) ?_
      refine g_ald (pc' := 50) cd_Me_writeEntries rfl (Or.inr ⟨_, rfl, rfl, rfl⟩) l1 rfl rfl ?_
      refine g_callv (pc' := 53) cd_Me_writeEntries rfl rfl rfl rfl rfl (tm_invV rfl rfl cd_Gi_writeEntries rfl (Nat.le_of_ble_eq_true rfl) (by decide) hg.2.1.1.1.1 hg.2.1.1.1.2) (t_Gw h0 (by have := gA_in m w hp hg.1; omega) hg.2.1 hw (by omega) (fun B1 hw1 hz1 => ?_))
      show bm_G _ _ _ 53 _ [] B1 _
      refine g_inc (y := nI (i + 1)) (pc' := 56) cd_Me_writeEntries rfl l3 (by decide) (nI_add i 1) rfl (fun lv el => ?_)
      have l0 := tm_lk el l0 rfl (by decide)
      have l1 := tm_lk el l1 rfl (by decide)
      have l2 := tm_lk el l2 rfl (by decide)
      have l3 : lv.lookup 3 = some (.int (nI (i + 1))) := tm_lks el
      clear el
      refine g_pure (pc' := 29) (st' := []) cd_Me_writeEntries rfl rfl (fun _ _ => rfl) ?_
      exact ih (i + 1) B1 _ (RMe_fr hR hz1.1 (fun y h1 h2 q => by unfold stx at q; omega) (List.prefix_refl T)) hw1 hdr2 (by omega) (by simp only [List.length_append] at hW ⊢; omega) (fun B2 lv2 hw2 hz2 => kk B2 lv2 (by rw [hE, ← List.append_assoc]; exact hw2) (fz_trans hz1 hz2)) lv l0 l1 l2 l3
theorem t_Mw {sc : tm_X} {d sa m : Nat} {w : Nat → Bool} {B : bm_H} {T : List Tm} {p0 : Bool} {P : EN2} {c : Option Nat} {dn : Bool} {M : MM} {W : EN2} {Q : bm_H → Prop} (h0 : T0 T) (hd : m + 38 < sa ∨ sa + 5 < m) (hR : RMe B T m w M) (hw : RSw B T sa p0 P c dn W) (hW : W.length + (mm_en M).length ≤ 536) (kk : ∀ B', RSw B' T sa p0 P c dn (W ++ mm_en M) → fz (stx sa) B B' → Q B') : bm_Gv sc (d + 2) 54 [.ref m, .ref sa] B Q := by
  obtain ⟨ve, ma, go, ge, ch, si, ix, ga, sl, gv⟩ := M
  simp only [mm_en, List.length_append] at hW
  show bm_G sc (d + 2) 54 0 [(0, .ref m), (1, .ref sa)] [] B _
  generalize elv : ([(0, .ref m), (1, .ref sa)] : tm_L) = lv
  have l0 : lv.lookup 0 = some (.ref m) := by rw [← elv]; rfl
  have l1 : lv.lookup 1 = some (.ref sa) := by rw [← elv]; rfl
  clear elv
  refine g_ald (pc' := 1) cd_Me_writeEntries rfl (Or.inr ⟨_, rfl, rfl, rfl⟩) l0 rfl rfl ?_
  refine g_fI (c := 5) (k := 5) (x := ge) (pc' := 4) cd_Me_writeEntries rfl rfl rfl rfl rfl (by decide) hR.1.1.1 hR.1.1.2 hR.2.1.1.2.2.2 ?_
  refine g_if1 (t := 19) (pc' := 7) cd_Me_writeEntries rfl rfl rfl (fun c4 => ?_) (fun c4 => ?_)
  · have c4 : ge ≤ 0 := c4
    refine g_k1 (v := 0) (pc' := 20) cd_Me_writeEntries rfl (by decide) rfl ?_
    refine g_ist (pc' := 21) cd_Me_writeEntries rfl (Or.inr ⟨_, rfl, rfl, rfl⟩) (by decide) rfl (fun lv el => ?_)
    have l0 := tm_lk el l0 rfl (by decide)
    have l1 := tm_lk el l1 rfl (by decide)
    have l2 : lv.lookup 2 = some (.int 0) := tm_lks el
    clear el
    refine g_ild (pc' := 22) cd_Me_writeEntries rfl (Or.inr ⟨_, rfl, rfl, rfl⟩) l2 rfl ?_
    refine g_k2 (v := 6) (pc' := 24) cd_Me_writeEntries rfl (by decide) rfl ?_
    refine g_if2 (t := 65) (pc' := 27) cd_Me_writeEntries rfl rfl rfl (fun c24 => ?_) (fun c24 => ?_)
    · exact absurd (show (6 : Int32) ≤ 0 from c24) (by decide)
    · have c24 : ¬ (6 : Int32) ≤ 0 := c24
      refine g_k1 (v := 0) (pc' := 28) cd_Me_writeEntries rfl (by decide) rfl ?_
      refine g_ist (pc' := 29) cd_Me_writeEntries rfl (Or.inr ⟨_, rfl, rfl, rfl⟩) (by decide) rfl (fun lv el => ?_)
      have l0 := tm_lk el l0 rfl (by decide)
      have l1 := tm_lk el l1 rfl (by decide)
      have l2 := tm_lk el l2 rfl (by decide)
      have l3 : lv.lookup 3 = some (.int 0) := tm_lks el
      clear el
      rw [if_neg (fun q => absurd c4 (Int32.not_le.mpr q))] at hW
      simp only [List.length_nil] at hW
      refine l_Mw (p := 0) h0 hd (by decide) (mgv (ve, ma, go, ge, ch, si, ix, ga, sl, gv) 0) 0 _ _ hR hw rfl (by omega) (by first | omega | (simp only [List.length_append, List.length_cons, List.length_nil] at hW ⊢; omega)) (fun B1 lv hw1 hz1 l0 l1 l2 => ?_) lv l0 l1 l2 l3
      have hR1 := RMe_fr hR hz1.1 (fun y h1 h2 q => by unfold stx at q; omega) (List.prefix_refl T)
      refine g_inc (y := 1) (pc' := 62) cd_Me_writeEntries rfl l2 (by decide) (by decide) rfl (fun lv el => ?_)
      have l0 := tm_lk el l0 rfl (by decide)
      have l1 := tm_lk el l1 rfl (by decide)
      have l2 : lv.lookup 2 = some (.int 1) := tm_lks el
      clear el
      refine g_pure (pc' := 21) (st' := []) cd_Me_writeEntries rfl rfl (fun _ _ => rfl) ?_
      refine g_ild (pc' := 22) cd_Me_writeEntries rfl (Or.inr ⟨_, rfl, rfl, rfl⟩) l2 rfl ?_
      refine g_k2 (v := 6) (pc' := 24) cd_Me_writeEntries rfl (by decide) rfl ?_
      refine g_if2 (t := 65) (pc' := 27) cd_Me_writeEntries rfl rfl rfl (fun c24 => ?_) (fun c24 => ?_)
      · exact absurd (show (6 : Int32) ≤ 1 from c24) (by decide)
      · have c24 : ¬ (6 : Int32) ≤ 1 := c24
        refine g_k1 (v := 0) (pc' := 28) cd_Me_writeEntries rfl (by decide) rfl ?_
        refine g_ist (pc' := 29) cd_Me_writeEntries rfl (Or.inr ⟨_, rfl, rfl, rfl⟩) (by decide) rfl (fun lv el => ?_)
        have l0 := tm_lk el l0 rfl (by decide)
        have l1 := tm_lk el l1 rfl (by decide)
        have l2 := tm_lk el l2 rfl (by decide)
        have l3 : lv.lookup 3 = some (.int 0) := tm_lks el
        clear el
        refine l_Mw (p := 1) h0 hd (by decide) (mgv (ve, ma, go, ge, ch, si, ix, ga, sl, gv) 1) 0 _ _ hR1 hw1 rfl (by omega) (by first | omega | (simp only [List.length_append, List.length_cons, List.length_nil] at hW ⊢; omega)) (fun B2 lv hw2 hz2 l0 l1 l2 => ?_) lv l0 l1 l2 l3
        have hR2 := RMe_fr hR1 hz2.1 (fun y h1 h2 q => by unfold stx at q; omega) (List.prefix_refl T)
        have Z2 := fz_trans hz1 hz2
        refine g_inc (y := 2) (pc' := 62) cd_Me_writeEntries rfl l2 (by decide) (by decide) rfl (fun lv el => ?_)
        have l0 := tm_lk el l0 rfl (by decide)
        have l1 := tm_lk el l1 rfl (by decide)
        have l2 : lv.lookup 2 = some (.int 2) := tm_lks el
        clear el
        refine g_pure (pc' := 21) (st' := []) cd_Me_writeEntries rfl rfl (fun _ _ => rfl) ?_
        refine g_ild (pc' := 22) cd_Me_writeEntries rfl (Or.inr ⟨_, rfl, rfl, rfl⟩) l2 rfl ?_
        refine g_k2 (v := 6) (pc' := 24) cd_Me_writeEntries rfl (by decide) rfl ?_
        refine g_if2 (t := 65) (pc' := 27) cd_Me_writeEntries rfl rfl rfl (fun c24 => ?_) (fun c24 => ?_)
        · exact absurd (show (6 : Int32) ≤ 2 from c24) (by decide)
        · have c24 : ¬ (6 : Int32) ≤ 2 := c24
          refine g_k1 (v := 0) (pc' := 28) cd_Me_writeEntries rfl (by decide) rfl ?_
          refine g_ist (pc' := 29) cd_Me_writeEntries rfl (Or.inr ⟨_, rfl, rfl, rfl⟩) (by decide) rfl (fun lv el => ?_)
          have l0 := tm_lk el l0 rfl (by decide)
          have l1 := tm_lk el l1 rfl (by decide)
          have l2 := tm_lk el l2 rfl (by decide)
          have l3 : lv.lookup 3 = some (.int 0) := tm_lks el
          clear el
          refine l_Mw (p := 2) h0 hd (by decide) (mgv (ve, ma, go, ge, ch, si, ix, ga, sl, gv) 2) 0 _ _ hR2 hw2 rfl (by omega) (by first | omega | (simp only [List.length_append, List.length_cons, List.length_nil] at hW ⊢; omega)) (fun B3 lv hw3 hz3 l0 l1 l2 => ?_) lv l0 l1 l2 l3
          have hR3 := RMe_fr hR2 hz3.1 (fun y h1 h2 q => by unfold stx at q; omega) (List.prefix_refl T)
          have Z3 := fz_trans Z2 hz3
          refine g_inc (y := 3) (pc' := 62) cd_Me_writeEntries rfl l2 (by decide) (by decide) rfl (fun lv el => ?_)
          have l0 := tm_lk el l0 rfl (by decide)
          have l1 := tm_lk el l1 rfl (by decide)
          have l2 : lv.lookup 2 = some (.int 3) := tm_lks el
          clear el
          refine g_pure (pc' := 21) (st' := []) cd_Me_writeEntries rfl rfl (fun _ _ => rfl) ?_
          refine g_ild (pc' := 22) cd_Me_writeEntries rfl (Or.inr ⟨_, rfl, rfl, rfl⟩) l2 rfl ?_
          refine g_k2 (v := 6) (pc' := 24) cd_Me_writeEntries rfl (by decide) rfl ?_
          refine g_if2 (t := 65) (pc' := 27) cd_Me_writeEntries rfl rfl rfl (fun c24 => ?_) (fun c24 => ?_)
          · exact absurd (show (6 : Int32) ≤ 3 from c24) (by decide)
          · have c24 : ¬ (6 : Int32) ≤ 3 := c24
            refine g_k1 (v := 0) (pc' := 28) cd_Me_writeEntries rfl (by decide) rfl ?_
            refine g_ist (pc' := 29) cd_Me_writeEntries rfl (Or.inr ⟨_, rfl, rfl, rfl⟩) (by decide) rfl (fun lv el => ?_)
            have l0 := tm_lk el l0 rfl (by decide)
            have l1 := tm_lk el l1 rfl (by decide)
            have l2 := tm_lk el l2 rfl (by decide)
            have l3 : lv.lookup 3 = some (.int 0) := tm_lks el
            clear el
            refine l_Mw (p := 3) h0 hd (by decide) (mgv (ve, ma, go, ge, ch, si, ix, ga, sl, gv) 3) 0 _ _ hR3 hw3 rfl (by omega) (by first | omega | (simp only [List.length_append, List.length_cons, List.length_nil] at hW ⊢; omega)) (fun B4 lv hw4 hz4 l0 l1 l2 => ?_) lv l0 l1 l2 l3
            have hR4 := RMe_fr hR3 hz4.1 (fun y h1 h2 q => by unfold stx at q; omega) (List.prefix_refl T)
            have Z4 := fz_trans Z3 hz4
            refine g_inc (y := 4) (pc' := 62) cd_Me_writeEntries rfl l2 (by decide) (by decide) rfl (fun lv el => ?_)
            have l0 := tm_lk el l0 rfl (by decide)
            have l1 := tm_lk el l1 rfl (by decide)
            have l2 : lv.lookup 2 = some (.int 4) := tm_lks el
            clear el
            refine g_pure (pc' := 21) (st' := []) cd_Me_writeEntries rfl rfl (fun _ _ => rfl) ?_
            refine g_ild (pc' := 22) cd_Me_writeEntries rfl (Or.inr ⟨_, rfl, rfl, rfl⟩) l2 rfl ?_
            refine g_k2 (v := 6) (pc' := 24) cd_Me_writeEntries rfl (by decide) rfl ?_
            refine g_if2 (t := 65) (pc' := 27) cd_Me_writeEntries rfl rfl rfl (fun c24 => ?_) (fun c24 => ?_)
            · exact absurd (show (6 : Int32) ≤ 4 from c24) (by decide)
            · have c24 : ¬ (6 : Int32) ≤ 4 := c24
              refine g_k1 (v := 0) (pc' := 28) cd_Me_writeEntries rfl (by decide) rfl ?_
              refine g_ist (pc' := 29) cd_Me_writeEntries rfl (Or.inr ⟨_, rfl, rfl, rfl⟩) (by decide) rfl (fun lv el => ?_)
              have l0 := tm_lk el l0 rfl (by decide)
              have l1 := tm_lk el l1 rfl (by decide)
              have l2 := tm_lk el l2 rfl (by decide)
              have l3 : lv.lookup 3 = some (.int 0) := tm_lks el
              clear el
              refine l_Mw (p := 4) h0 hd (by decide) (mgv (ve, ma, go, ge, ch, si, ix, ga, sl, gv) 4) 0 _ _ hR4 hw4 rfl (by omega) (by first | omega | (simp only [List.length_append, List.length_cons, List.length_nil] at hW ⊢; omega)) (fun B5 lv hw5 hz5 l0 l1 l2 => ?_) lv l0 l1 l2 l3
              have hR5 := RMe_fr hR4 hz5.1 (fun y h1 h2 q => by unfold stx at q; omega) (List.prefix_refl T)
              have Z5 := fz_trans Z4 hz5
              refine g_inc (y := 5) (pc' := 62) cd_Me_writeEntries rfl l2 (by decide) (by decide) rfl (fun lv el => ?_)
              have l0 := tm_lk el l0 rfl (by decide)
              have l1 := tm_lk el l1 rfl (by decide)
              have l2 : lv.lookup 2 = some (.int 5) := tm_lks el
              clear el
              refine g_pure (pc' := 21) (st' := []) cd_Me_writeEntries rfl rfl (fun _ _ => rfl) ?_
              refine g_ild (pc' := 22) cd_Me_writeEntries rfl (Or.inr ⟨_, rfl, rfl, rfl⟩) l2 rfl ?_
              refine g_k2 (v := 6) (pc' := 24) cd_Me_writeEntries rfl (by decide) rfl ?_
              refine g_if2 (t := 65) (pc' := 27) cd_Me_writeEntries rfl rfl rfl (fun c24 => ?_) (fun c24 => ?_)
              · exact absurd (show (6 : Int32) ≤ 5 from c24) (by decide)
              · have c24 : ¬ (6 : Int32) ≤ 5 := c24
                refine g_k1 (v := 0) (pc' := 28) cd_Me_writeEntries rfl (by decide) rfl ?_
                refine g_ist (pc' := 29) cd_Me_writeEntries rfl (Or.inr ⟨_, rfl, rfl, rfl⟩) (by decide) rfl (fun lv el => ?_)
                have l0 := tm_lk el l0 rfl (by decide)
                have l1 := tm_lk el l1 rfl (by decide)
                have l2 := tm_lk el l2 rfl (by decide)
                have l3 : lv.lookup 3 = some (.int 0) := tm_lks el
                clear el
                refine l_Mw (p := 5) h0 hd (by decide) (mgv (ve, ma, go, ge, ch, si, ix, ga, sl, gv) 5) 0 _ _ hR5 hw5 rfl (by omega) (by first | omega | (simp only [List.length_append, List.length_cons, List.length_nil] at hW ⊢; omega)) (fun B6 lv hw6 hz6 l0 l1 l2 => ?_) lv l0 l1 l2 l3
                have hR6 := RMe_fr hR5 hz6.1 (fun y h1 h2 q => by unfold stx at q; omega) (List.prefix_refl T)
                have Z6 := fz_trans Z5 hz6
                refine g_inc (y := 6) (pc' := 62) cd_Me_writeEntries rfl l2 (by decide) (by decide) rfl (fun lv el => ?_)
                have l0 := tm_lk el l0 rfl (by decide)
                have l1 := tm_lk el l1 rfl (by decide)
                have l2 : lv.lookup 2 = some (.int 6) := tm_lks el
                clear el
                refine g_pure (pc' := 21) (st' := []) cd_Me_writeEntries rfl rfl (fun _ _ => rfl) ?_
                refine g_ild (pc' := 22) cd_Me_writeEntries rfl (Or.inr ⟨_, rfl, rfl, rfl⟩) l2 rfl ?_
                refine g_k2 (v := 6) (pc' := 24) cd_Me_writeEntries rfl (by decide) rfl ?_
                refine g_if2 (t := 65) (pc' := 27) cd_Me_writeEntries rfl rfl rfl (fun c24 => ?_) (fun c24 => ?_)
                · have c24 : (6 : Int32) ≤ 6 := c24
                  exact g_retv cd_Me_writeEntries rfl ⟨rfl, (kk _ (by unfold mm_en; rw [if_neg (fun q => absurd c4 (Int32.not_le.mpr q))]; simpa only [List.append_assoc, List.nil_append] using hw6) Z6)⟩
                · exact absurd (show ¬ (6 : Int32) ≤ 6 from c24) (by decide)
  · have c4 : ¬ ge ≤ 0 := c4
    refine g_ald (pc' := 8) cd_Me_writeEntries rfl (Or.inr ⟨_, rfl, rfl, rfl⟩) l1 rfl rfl ?_
    refine g_ald (pc' := 9) cd_Me_writeEntries rfl (Or.inr ⟨_, rfl, rfl, rfl⟩) l0 rfl rfl ?_
    refine g_fI (c := 5) (k := 6) (x := (bm_FI B 5 6 m)) (pc' := 12) cd_Me_writeEntries rfl rfl rfl rfl rfl (by decide) hR.1.1.1 hR.1.1.2 rfl ?_
    refine g_ald (pc' := 13) cd_Me_writeEntries rfl (Or.inr ⟨_, rfl, rfl, rfl⟩) l0 rfl rfl ?_
    refine g_fI (c := 5) (k := 7) (x := (bm_FI B 5 7 m)) (pc' := 16) cd_Me_writeEntries rfl rfl rfl rfl rfl (by decide) hR.1.1.1 hR.1.1.2 rfl ?_
    have hge : 0 < ge := Int32.not_le.mp c4
    rw [if_pos hge] at hW
    simp only [List.length_cons, List.length_nil] at hW
    refine g_callv (pc' := 19) cd_Me_writeEntries rfl rfl rfl rfl rfl (tm_invV rfl rfl cd_St_put rfl (Nat.le_of_ble_eq_true rfl) (by decide) hw.1.1.1.1.1 hw.1.1.1.1.2) (t_put hw (by omega) hR.2.1.2.1.1 hR.2.1.2.1.2 (fun B1 hw1 hz1 => ?_))
    have hR1 := RMe_fr hR hz1.1 (fun y h1 h2 q => by unfold stx at q; omega) (List.prefix_refl T)
    show bm_G _ _ _ 19 _ [] B1 _
    refine g_k1 (v := 0) (pc' := 20) cd_Me_writeEntries rfl (by decide) rfl ?_
    refine g_ist (pc' := 21) cd_Me_writeEntries rfl (Or.inr ⟨_, rfl, rfl, rfl⟩) (by decide) rfl (fun lv el => ?_)
    have l0 := tm_lk el l0 rfl (by decide)
    have l1 := tm_lk el l1 rfl (by decide)
    have l2 : lv.lookup 2 = some (.int 0) := tm_lks el
    clear el
    refine g_ild (pc' := 22) cd_Me_writeEntries rfl (Or.inr ⟨_, rfl, rfl, rfl⟩) l2 rfl ?_
    refine g_k2 (v := 6) (pc' := 24) cd_Me_writeEntries rfl (by decide) rfl ?_
    refine g_if2 (t := 65) (pc' := 27) cd_Me_writeEntries rfl rfl rfl (fun c24 => ?_) (fun c24 => ?_)
    · exact absurd (show (6 : Int32) ≤ 0 from c24) (by decide)
    · have c24 : ¬ (6 : Int32) ≤ 0 := c24
      refine g_k1 (v := 0) (pc' := 28) cd_Me_writeEntries rfl (by decide) rfl ?_
      refine g_ist (pc' := 29) cd_Me_writeEntries rfl (Or.inr ⟨_, rfl, rfl, rfl⟩) (by decide) rfl (fun lv el => ?_)
      have l0 := tm_lk el l0 rfl (by decide)
      have l1 := tm_lk el l1 rfl (by decide)
      have l2 := tm_lk el l2 rfl (by decide)
      have l3 : lv.lookup 3 = some (.int 0) := tm_lks el
      clear el
      refine l_Mw (p := 0) h0 hd (by decide) (mgv (ve, ma, go, ge, ch, si, ix, ga, sl, gv) 0) 0 _ _ hR1 hw1 rfl (by omega) (by first | omega | (simp only [List.length_append, List.length_cons, List.length_nil] at hW ⊢; omega)) (fun B7 lv hw7 hz7 l0 l1 l2 => ?_) lv l0 l1 l2 l3
      have hR7 := RMe_fr hR1 hz7.1 (fun y h1 h2 q => by unfold stx at q; omega) (List.prefix_refl T)
      have Z7 := fz_trans hz1 hz7
      refine g_inc (y := 1) (pc' := 62) cd_Me_writeEntries rfl l2 (by decide) (by decide) rfl (fun lv el => ?_)
      have l0 := tm_lk el l0 rfl (by decide)
      have l1 := tm_lk el l1 rfl (by decide)
      have l2 : lv.lookup 2 = some (.int 1) := tm_lks el
      clear el
      refine g_pure (pc' := 21) (st' := []) cd_Me_writeEntries rfl rfl (fun _ _ => rfl) ?_
      refine g_ild (pc' := 22) cd_Me_writeEntries rfl (Or.inr ⟨_, rfl, rfl, rfl⟩) l2 rfl ?_
      refine g_k2 (v := 6) (pc' := 24) cd_Me_writeEntries rfl (by decide) rfl ?_
      refine g_if2 (t := 65) (pc' := 27) cd_Me_writeEntries rfl rfl rfl (fun c24 => ?_) (fun c24 => ?_)
      · exact absurd (show (6 : Int32) ≤ 1 from c24) (by decide)
      · have c24 : ¬ (6 : Int32) ≤ 1 := c24
        refine g_k1 (v := 0) (pc' := 28) cd_Me_writeEntries rfl (by decide) rfl ?_
        refine g_ist (pc' := 29) cd_Me_writeEntries rfl (Or.inr ⟨_, rfl, rfl, rfl⟩) (by decide) rfl (fun lv el => ?_)
        have l0 := tm_lk el l0 rfl (by decide)
        have l1 := tm_lk el l1 rfl (by decide)
        have l2 := tm_lk el l2 rfl (by decide)
        have l3 : lv.lookup 3 = some (.int 0) := tm_lks el
        clear el
        refine l_Mw (p := 1) h0 hd (by decide) (mgv (ve, ma, go, ge, ch, si, ix, ga, sl, gv) 1) 0 _ _ hR7 hw7 rfl (by omega) (by first | omega | (simp only [List.length_append, List.length_cons, List.length_nil] at hW ⊢; omega)) (fun B8 lv hw8 hz8 l0 l1 l2 => ?_) lv l0 l1 l2 l3
        have hR8 := RMe_fr hR7 hz8.1 (fun y h1 h2 q => by unfold stx at q; omega) (List.prefix_refl T)
        have Z8 := fz_trans Z7 hz8
        refine g_inc (y := 2) (pc' := 62) cd_Me_writeEntries rfl l2 (by decide) (by decide) rfl (fun lv el => ?_)
        have l0 := tm_lk el l0 rfl (by decide)
        have l1 := tm_lk el l1 rfl (by decide)
        have l2 : lv.lookup 2 = some (.int 2) := tm_lks el
        clear el
        refine g_pure (pc' := 21) (st' := []) cd_Me_writeEntries rfl rfl (fun _ _ => rfl) ?_
        refine g_ild (pc' := 22) cd_Me_writeEntries rfl (Or.inr ⟨_, rfl, rfl, rfl⟩) l2 rfl ?_
        refine g_k2 (v := 6) (pc' := 24) cd_Me_writeEntries rfl (by decide) rfl ?_
        refine g_if2 (t := 65) (pc' := 27) cd_Me_writeEntries rfl rfl rfl (fun c24 => ?_) (fun c24 => ?_)
        · exact absurd (show (6 : Int32) ≤ 2 from c24) (by decide)
        · have c24 : ¬ (6 : Int32) ≤ 2 := c24
          refine g_k1 (v := 0) (pc' := 28) cd_Me_writeEntries rfl (by decide) rfl ?_
          refine g_ist (pc' := 29) cd_Me_writeEntries rfl (Or.inr ⟨_, rfl, rfl, rfl⟩) (by decide) rfl (fun lv el => ?_)
          have l0 := tm_lk el l0 rfl (by decide)
          have l1 := tm_lk el l1 rfl (by decide)
          have l2 := tm_lk el l2 rfl (by decide)
          have l3 : lv.lookup 3 = some (.int 0) := tm_lks el
          clear el
          refine l_Mw (p := 2) h0 hd (by decide) (mgv (ve, ma, go, ge, ch, si, ix, ga, sl, gv) 2) 0 _ _ hR8 hw8 rfl (by omega) (by first | omega | (simp only [List.length_append, List.length_cons, List.length_nil] at hW ⊢; omega)) (fun B9 lv hw9 hz9 l0 l1 l2 => ?_) lv l0 l1 l2 l3
          have hR9 := RMe_fr hR8 hz9.1 (fun y h1 h2 q => by unfold stx at q; omega) (List.prefix_refl T)
          have Z9 := fz_trans Z8 hz9
          refine g_inc (y := 3) (pc' := 62) cd_Me_writeEntries rfl l2 (by decide) (by decide) rfl (fun lv el => ?_)
          have l0 := tm_lk el l0 rfl (by decide)
          have l1 := tm_lk el l1 rfl (by decide)
          have l2 : lv.lookup 2 = some (.int 3) := tm_lks el
          clear el
          refine g_pure (pc' := 21) (st' := []) cd_Me_writeEntries rfl rfl (fun _ _ => rfl) ?_
          refine g_ild (pc' := 22) cd_Me_writeEntries rfl (Or.inr ⟨_, rfl, rfl, rfl⟩) l2 rfl ?_
          refine g_k2 (v := 6) (pc' := 24) cd_Me_writeEntries rfl (by decide) rfl ?_
          refine g_if2 (t := 65) (pc' := 27) cd_Me_writeEntries rfl rfl rfl (fun c24 => ?_) (fun c24 => ?_)
          · exact absurd (show (6 : Int32) ≤ 3 from c24) (by decide)
          · have c24 : ¬ (6 : Int32) ≤ 3 := c24
            refine g_k1 (v := 0) (pc' := 28) cd_Me_writeEntries rfl (by decide) rfl ?_
            refine g_ist (pc' := 29) cd_Me_writeEntries rfl (Or.inr ⟨_, rfl, rfl, rfl⟩) (by decide) rfl (fun lv el => ?_)
            have l0 := tm_lk el l0 rfl (by decide)
            have l1 := tm_lk el l1 rfl (by decide)
            have l2 := tm_lk el l2 rfl (by decide)
            have l3 : lv.lookup 3 = some (.int 0) := tm_lks el
            clear el
            refine l_Mw (p := 3) h0 hd (by decide) (mgv (ve, ma, go, ge, ch, si, ix, ga, sl, gv) 3) 0 _ _ hR9 hw9 rfl (by omega) (by first | omega | (simp only [List.length_append, List.length_cons, List.length_nil] at hW ⊢; omega)) (fun B10 lv hw10 hz10 l0 l1 l2 => ?_) lv l0 l1 l2 l3
            have hR10 := RMe_fr hR9 hz10.1 (fun y h1 h2 q => by unfold stx at q; omega) (List.prefix_refl T)
            have Z10 := fz_trans Z9 hz10
            refine g_inc (y := 4) (pc' := 62) cd_Me_writeEntries rfl l2 (by decide) (by decide) rfl (fun lv el => ?_)
            have l0 := tm_lk el l0 rfl (by decide)
            have l1 := tm_lk el l1 rfl (by decide)
            have l2 : lv.lookup 2 = some (.int 4) := tm_lks el
            clear el
            refine g_pure (pc' := 21) (st' := []) cd_Me_writeEntries rfl rfl (fun _ _ => rfl) ?_
            refine g_ild (pc' := 22) cd_Me_writeEntries rfl (Or.inr ⟨_, rfl, rfl, rfl⟩) l2 rfl ?_
            refine g_k2 (v := 6) (pc' := 24) cd_Me_writeEntries rfl (by decide) rfl ?_
            refine g_if2 (t := 65) (pc' := 27) cd_Me_writeEntries rfl rfl rfl (fun c24 => ?_) (fun c24 => ?_)
            · exact absurd (show (6 : Int32) ≤ 4 from c24) (by decide)
            · have c24 : ¬ (6 : Int32) ≤ 4 := c24
              refine g_k1 (v := 0) (pc' := 28) cd_Me_writeEntries rfl (by decide) rfl ?_
              refine g_ist (pc' := 29) cd_Me_writeEntries rfl (Or.inr ⟨_, rfl, rfl, rfl⟩) (by decide) rfl (fun lv el => ?_)
              have l0 := tm_lk el l0 rfl (by decide)
              have l1 := tm_lk el l1 rfl (by decide)
              have l2 := tm_lk el l2 rfl (by decide)
              have l3 : lv.lookup 3 = some (.int 0) := tm_lks el
              clear el
              refine l_Mw (p := 4) h0 hd (by decide) (mgv (ve, ma, go, ge, ch, si, ix, ga, sl, gv) 4) 0 _ _ hR10 hw10 rfl (by omega) (by first | omega | (simp only [List.length_append, List.length_cons, List.length_nil] at hW ⊢; omega)) (fun B11 lv hw11 hz11 l0 l1 l2 => ?_) lv l0 l1 l2 l3
              have hR11 := RMe_fr hR10 hz11.1 (fun y h1 h2 q => by unfold stx at q; omega) (List.prefix_refl T)
              have Z11 := fz_trans Z10 hz11
              refine g_inc (y := 5) (pc' := 62) cd_Me_writeEntries rfl l2 (by decide) (by decide) rfl (fun lv el => ?_)
              have l0 := tm_lk el l0 rfl (by decide)
              have l1 := tm_lk el l1 rfl (by decide)
              have l2 : lv.lookup 2 = some (.int 5) := tm_lks el
              clear el
              refine g_pure (pc' := 21) (st' := []) cd_Me_writeEntries rfl rfl (fun _ _ => rfl) ?_
              refine g_ild (pc' := 22) cd_Me_writeEntries rfl (Or.inr ⟨_, rfl, rfl, rfl⟩) l2 rfl ?_
              refine g_k2 (v := 6) (pc' := 24) cd_Me_writeEntries rfl (by decide) rfl ?_
              refine g_if2 (t := 65) (pc' := 27) cd_Me_writeEntries rfl rfl rfl (fun c24 => ?_) (fun c24 => ?_)
              · exact absurd (show (6 : Int32) ≤ 5 from c24) (by decide)
              · have c24 : ¬ (6 : Int32) ≤ 5 := c24
                refine g_k1 (v := 0) (pc' := 28) cd_Me_writeEntries rfl (by decide) rfl ?_
                refine g_ist (pc' := 29) cd_Me_writeEntries rfl (Or.inr ⟨_, rfl, rfl, rfl⟩) (by decide) rfl (fun lv el => ?_)
                have l0 := tm_lk el l0 rfl (by decide)
                have l1 := tm_lk el l1 rfl (by decide)
                have l2 := tm_lk el l2 rfl (by decide)
                have l3 : lv.lookup 3 = some (.int 0) := tm_lks el
                clear el
                refine l_Mw (p := 5) h0 hd (by decide) (mgv (ve, ma, go, ge, ch, si, ix, ga, sl, gv) 5) 0 _ _ hR11 hw11 rfl (by omega) (by first | omega | (simp only [List.length_append, List.length_cons, List.length_nil] at hW ⊢; omega)) (fun B12 lv hw12 hz12 l0 l1 l2 => ?_) lv l0 l1 l2 l3
                have hR12 := RMe_fr hR11 hz12.1 (fun y h1 h2 q => by unfold stx at q; omega) (List.prefix_refl T)
                have Z12 := fz_trans Z11 hz12
                refine g_inc (y := 6) (pc' := 62) cd_Me_writeEntries rfl l2 (by decide) (by decide) rfl (fun lv el => ?_)
                have l0 := tm_lk el l0 rfl (by decide)
                have l1 := tm_lk el l1 rfl (by decide)
                have l2 : lv.lookup 2 = some (.int 6) := tm_lks el
                clear el
                refine g_pure (pc' := 21) (st' := []) cd_Me_writeEntries rfl rfl (fun _ _ => rfl) ?_
                refine g_ild (pc' := 22) cd_Me_writeEntries rfl (Or.inr ⟨_, rfl, rfl, rfl⟩) l2 rfl ?_
                refine g_k2 (v := 6) (pc' := 24) cd_Me_writeEntries rfl (by decide) rfl ?_
                refine g_if2 (t := 65) (pc' := 27) cd_Me_writeEntries rfl rfl rfl (fun c24 => ?_) (fun c24 => ?_)
                · have c24 : (6 : Int32) ≤ 6 := c24
                  exact g_retv cd_Me_writeEntries rfl ⟨rfl, (kk _ (by unfold mm_en; rw [if_pos hge]; simpa only [List.append_assoc, List.nil_append] using hw12) Z12)⟩
                · exact absurd (show ¬ (6 : Int32) ≤ 6 from c24) (by decide)
theorem l_Do {sc : tm_X} {d sa : Nat} {T : List Tm} {p0 : Bool} {P : EN2} {c : Option Nat} {dn : Bool} {x : Nat} {w : SW} {id : Tm} {K0 K1 : PK} {on : List (Tm × Int32)} {ln : Int32} {se : Nat → List SS} {me : Nat → MM} {Q : Option Value → bm_H → Prop} (h0 : T0 T) (hd : x + 202 < sa ∨ sa + 5 < x) : ∀ (R : List (Tm × Int32)) (i : Nat) (B : bm_H) (W : EN2), RDe B T x w (id, K0, K1, on, ln, se, me) → RSw B T sa p0 P c dn W → on.drop i = R → i ≤ 4 → W.length + (on_en R).length ≤ 536 → (∀ B' (lv2 : tm_L), RSw B' T sa p0 P c dn (W ++ on_en R) → fz (stx sa) B B' → lv2.lookup 0 = some (.ref x) → lv2.lookup 1 = some (.ref sa) → bm_G sc (d + 3) 46 60 lv2 [] B' Q) → ∀ lv : tm_L, lv.lookup 0 = some (.ref x) → lv.lookup 1 = some (.ref sa) → lv.lookup 2 = some (.int (nI i)) → bm_G sc (d + 3) 46 35 lv [] B Q := by
  intro R
  induction R with
  | nil =>
    intro i B W hR hw hdr hib hW kk lv l0 l1 l2
    have hl := drop_nil hdr
    have hp2 := hR.2.2.2.1.1.2
    refine g_ild (pc' := 36) cd_De_writeEntries rfl (Or.inr ⟨_, rfl, rfl, rfl⟩) l2 rfl ?_
    refine g_ald (pc' := 37) cd_De_writeEntries rfl (Or.inr ⟨_, rfl, rfl, rfl⟩) l0 rfl rfl ?_
    refine g_fI (c := 0) (k := 7) (x := nI on.length) (pc' := 40) cd_De_writeEntries rfl rfl rfl rfl rfl (by decide) hR.1.1.1 hR.1.1.2 hR.2.2.2.1.1.1 ?_
    refine g_if2 (t := 60) (pc' := 43) cd_De_writeEntries rfl rfl rfl (fun c40 => ?_) (fun c40 => ?_)
    · have c40 : (nI on.length) ≤ (nI i) := c40
      exact kk _ lv (by simpa [on_en] using hw) (fz_rfl _ _) l0 l1
    · have c40 : ¬ (nI on.length) ≤ (nI i) := c40
      exact absurd (nI_le hl (by omega)) c40
  | cons e R ih =>
    intro i B W hR hw hdr hib hW kk lv l0 l1 l2
    obtain ⟨he, hdr2⟩ := drop_cons hdr
    have hl := (List.getElem?_eq_some_iff.mp he).1
    have hE : on_en (e :: R) = (fun e : Tm × Int32 => [(e.1, tz)]) e ++ on_en R := rfl
    rw [hE, List.length_append] at hW
    have hp2 := hR.2.2.2.1.1.2
    refine g_ild (pc' := 36) cd_De_writeEntries rfl (Or.inr ⟨_, rfl, rfl, rfl⟩) l2 rfl ?_
    refine g_ald (pc' := 37) cd_De_writeEntries rfl (Or.inr ⟨_, rfl, rfl, rfl⟩) l0 rfl rfl ?_
    refine g_fI (c := 0) (k := 7) (x := nI on.length) (pc' := 40) cd_De_writeEntries rfl rfl rfl rfl rfl (by decide) hR.1.1.1 hR.1.1.2 hR.2.2.2.1.1.1 ?_
    refine g_if2 (t := 60) (pc' := 43) cd_De_writeEntries rfl rfl rfl (fun c40 => ?_) (fun c40 => ?_)
    · have c40 : (nI on.length) ≤ (nI i) := c40
      exact absurd c40 (nI_ge hl (by omega))
    · have c40 : ¬ (nI on.length) ≤ (nI i) := c40
      refine g_ald (pc' := 44) cd_De_writeEntries rfl (Or.inr ⟨_, rfl, rfl, rfl⟩) l1 rfl rfl ?_
      refine g_ald (pc' := 45) cd_De_writeEntries rfl (Or.inr ⟨_, rfl, rfl, rfl⟩) l0 rfl rfl ?_
      refine g_fR (c := 0) (k := 1) (x := (x + 6)) (pc' := 48) cd_De_writeEntries rfl rfl rfl rfl rfl (by decide) hR.1.1.1 hR.1.1.2 hR.1.2.1.2.1 ?_
      refine g_ild (pc' := 49) cd_De_writeEntries rfl (Or.inr ⟨_, rfl, rfl, rfl⟩) l2 rfl ?_
      refine g_aI (x := (bm_AI B (x + 6) i)) (pc' := 50) cd_De_writeEntries rfl rfl hR.1.2.2.2.1.1 hR.1.2.2.2.1.2.1 (by rw [show bm_AL B (x + 6) = 4 from hR.1.2.2.2.1.2.2]; exact vp_in_nI (by omega) (by decide)) (congrArg (bm_AI B (x + 6)) (nI_clamp (by omega))) ?_
      refine g_k1 (v := 0) (pc' := 51) cd_De_writeEntries rfl (by decide) rfl ?_
      refine g_callv (pc' := 54) cd_De_writeEntries rfl rfl rfl rfl rfl (tm_invV rfl rfl cd_St_put rfl (Nat.le_of_ble_eq_true rfl) (by decide) hw.1.1.1.1.1 hw.1.1.1.1.2) (t_put hw (by simp at hW; omega) (hR.2.2.2.1.2 i e he).1 h0.1 (fun B1 hw1 hz1 => ?_))
      show bm_G _ _ _ 54 _ [] B1 _
      refine g_inc (y := nI (i + 1)) (pc' := 57) cd_De_writeEntries rfl l2 (by decide) (nI_add i 1) rfl (fun lv el => ?_)
      have l0 := tm_lk el l0 rfl (by decide)
      have l1 := tm_lk el l1 rfl (by decide)
      have l2 : lv.lookup 2 = some (.int (nI (i + 1))) := tm_lks el
      clear el
      refine g_pure (pc' := 35) (st' := []) cd_De_writeEntries rfl rfl (fun _ _ => rfl) ?_
      exact ih (i + 1) B1 _ (RDe_fr hR hz1.1 (fun y h1 h2 q => by unfold stx at q; omega) (List.prefix_refl T)) hw1 hdr2 (by omega) (by simp only [List.length_append] at hW ⊢; simp only [List.length_cons, List.length_nil] at hW ⊢; omega) (fun B2 lv2 hw2 hz2 => kk B2 lv2 (by rw [hE, ← List.append_assoc]; exact hw2) (fz_trans hz1 hz2)) lv l0 l1 l2
theorem l_De {sc : tm_X} {d sa : Nat} {T : List Tm} {p0 : Bool} {P : EN2} {c : Option Nat} {dn : Bool} {x : Nat} {w : SW} {id : Tm} {K0 K1 : PK} {on : List (Tm × Int32)} {ln : Int32} {se : Nat → List SS} {me : Nat → MM} {p : Nat} {Q : Option Value → bm_H → Prop} (h0 : T0 T) (hd : x + 202 < sa ∨ sa + 5 < x) (hp : p < 6) : ∀ (R : List SS) (i : Nat) (B : bm_H) (W : EN2), RDe B T x w (id, K0, K1, on, ln, se, me) → RSw B T sa p0 P c dn W → (se p).drop i = R → i ≤ 2 → W.length + (sl_en R).length ≤ 536 → (∀ B' (lv2 : tm_L), RSw B' T sa p0 P c dn (W ++ sl_en R) → fz (stx sa) B B' → lv2.lookup 0 = some (.ref x) → lv2.lookup 1 = some (.ref sa) → lv2.lookup 2 = some (.int (nI p)) → bm_G sc (d + 3) 46 100 lv2 [] B' Q) → ∀ lv : tm_L, lv.lookup 0 = some (.ref x) → lv.lookup 1 = some (.ref sa) → lv.lookup 2 = some (.int (nI p)) → lv.lookup 3 = some (.int (nI i)) → bm_G sc (d + 3) 46 70 lv [] B Q := by
  intro R
  induction R with
  | nil =>
    intro i B W hR hw hdr hib hW kk lv l0 l1 l2 l3
    have hl := drop_nil hdr
    have hp2 := (hR.2.2.2.2.1 p hp).1.2
    refine g_ild (pc' := 71) cd_De_writeEntries rfl (Or.inr ⟨_, rfl, rfl, rfl⟩) l3 rfl ?_
    refine g_ald (pc' := 72) cd_De_writeEntries rfl (Or.inr ⟨_, rfl, rfl, rfl⟩) l0 rfl rfl ?_
    refine g_fR (c := 0) (k := 3) (x := (x + 8)) (pc' := 75) cd_De_writeEntries rfl rfl rfl rfl rfl (by decide) hR.1.1.1 hR.1.1.2 hR.1.2.1.2.2.2.1 ?_
    refine g_ild (pc' := 76) cd_De_writeEntries rfl (Or.inr ⟨_, rfl, rfl, rfl⟩) l2 rfl ?_
    refine g_aI (x := nI (se p).length) (pc' := 77) cd_De_writeEntries rfl rfl hR.1.2.2.2.2.2.1.1 hR.1.2.2.2.2.2.1.2.1 (by rw [show bm_AL B (x + 8) = 6 from hR.1.2.2.2.2.2.1.2.2]; exact vp_in_nI (by omega) (by decide)) (by rw [nI_clamp (by omega)]; exact (hR.2.2.2.2.1 p hp).1.1) ?_
    refine g_if2 (t := 100) (pc' := 80) cd_De_writeEntries rfl rfl rfl (fun c77 => ?_) (fun c77 => ?_)
    · have c77 : (nI (se p).length) ≤ (nI i) := c77
      exact kk _ lv (by simpa [sl_en] using hw) (fz_rfl _ _) l0 l1 l2
    · have c77 : ¬ (nI (se p).length) ≤ (nI i) := c77
      exact absurd (nI_le hl (by omega)) c77
  | cons e R ih =>
    intro i B W hR hw hdr hib hW kk lv l0 l1 l2 l3
    obtain ⟨he, hdr2⟩ := drop_cons hdr
    have hl := (List.getElem?_eq_some_iff.mp he).1
    have hE : sl_en (e :: R) = se_en e ++ sl_en R := rfl
    rw [hE, List.length_append] at hW
    have hp2 := (hR.2.2.2.2.1 p hp).1.2
    refine g_ild (pc' := 71) cd_De_writeEntries rfl (Or.inr ⟨_, rfl, rfl, rfl⟩) l3 rfl ?_
    refine g_ald (pc' := 72) cd_De_writeEntries rfl (Or.inr ⟨_, rfl, rfl, rfl⟩) l0 rfl rfl ?_
    refine g_fR (c := 0) (k := 3) (x := (x + 8)) (pc' := 75) cd_De_writeEntries rfl rfl rfl rfl rfl (by decide) hR.1.1.1 hR.1.1.2 hR.1.2.1.2.2.2.1 ?_
    refine g_ild (pc' := 76) cd_De_writeEntries rfl (Or.inr ⟨_, rfl, rfl, rfl⟩) l2 rfl ?_
    refine g_aI (x := nI (se p).length) (pc' := 77) cd_De_writeEntries rfl rfl hR.1.2.2.2.2.2.1.1 hR.1.2.2.2.2.2.1.2.1 (by rw [show bm_AL B (x + 8) = 6 from hR.1.2.2.2.2.2.1.2.2]; exact vp_in_nI (by omega) (by decide)) (by rw [nI_clamp (by omega)]; exact (hR.2.2.2.2.1 p hp).1.1) ?_
    refine g_if2 (t := 100) (pc' := 80) cd_De_writeEntries rfl rfl rfl (fun c77 => ?_) (fun c77 => ?_)
    · have c77 : (nI (se p).length) ≤ (nI i) := c77
      exact absurd c77 (nI_ge hl (by omega))
    · have c77 : ¬ (nI (se p).length) ≤ (nI i) := c77
      refine g_ald (pc' := 81) cd_De_writeEntries rfl (Or.inr ⟨_, rfl, rfl, rfl⟩) l0 rfl rfl ?_
      refine g_fR (c := 0) (k := 4) (x := (x + 9)) (pc' := 84) cd_De_writeEntries rfl rfl rfl rfl rfl (by decide) hR.1.1.1 hR.1.1.2 hR.1.2.1.2.2.2.2.1 ?_
      refine g_ild (pc' := 85) cd_De_writeEntries rfl (Or.inr ⟨_, rfl, rfl, rfl⟩) l2 rfl ?_
      refine g_k1 (v := 2) (pc' := 86) cd_De_writeEntries rfl (by decide) rfl ?_
      refine g_pure (pc' := 87) (st' := [.int ((nI p) * 2), .ref ((x + 9))]) cd_De_writeEntries rfl rfl (fun _ _ => rfl) ?_
      rw [show ((nI p) * 2 : Int32) = nI (p * 2) from pk_mul p 2]
      refine g_ild (pc' := 88) cd_De_writeEntries rfl (Or.inr ⟨_, rfl, rfl, rfl⟩) l3 rfl ?_
      refine g_pure (pc' := 89) (st' := [.int ((nI (p * 2)) + (nI i)), .ref ((x + 9))]) cd_De_writeEntries rfl rfl (fun _ _ => rfl) ?_
      rw [show ((nI (p * 2)) + (nI i) : Int32) = nI ((p * 2) + i) from nI_add (p * 2) i]
      have hg := RSs_get (hR.2.2.2.2.1 p hp) he
      refine g_aR (t := 5) (x := (sA x w.2.1 p i)) (pc' := 90) cd_De_writeEntries rfl rfl hR.1.2.2.2.2.2.2.1.1 hR.1.2.2.2.2.2.2.1.2.1 (by decide) rfl rfl (by rw [show bm_AL B (x + 9) = 12 from hR.1.2.2.2.2.2.2.1.2.2]; exact vp_in_nI (by omega) (by decide)) (by rw [nI_clamp (by omega), show p * 2 + i = 2 * p + i by omega]; exact hg.2.2) ?_
      refine g_ald (pc' := 91) cd_De_writeEntries rfl (Or.inr ⟨_, rfl, rfl, rfl⟩) l1 rfl rfl ?_
      refine g_callv (pc' := 94) cd_De_writeEntries rfl rfl rfl rfl rfl (tm_invV rfl rfl cd_Se_writeEntries rfl (Nat.le_of_ble_eq_true rfl) (by decide) (RSe_S hg.2.1).1.1 (RSe_S hg.2.1).1.2) (t_Sw h0 (by have := sA_in x w.2.1 hp hg.1; omega) hg.2.1 hw (by omega) (fun B1 hw1 hz1 => ?_))
      show bm_G _ _ _ 94 _ [] B1 _
      refine g_inc (y := nI (i + 1)) (pc' := 97) cd_De_writeEntries rfl l3 (by decide) (nI_add i 1) rfl (fun lv el => ?_)
      have l0 := tm_lk el l0 rfl (by decide)
      have l1 := tm_lk el l1 rfl (by decide)
      have l2 := tm_lk el l2 rfl (by decide)
      have l3 : lv.lookup 3 = some (.int (nI (i + 1))) := tm_lks el
      clear el
      refine g_pure (pc' := 70) (st' := []) cd_De_writeEntries rfl rfl (fun _ _ => rfl) ?_
      exact ih (i + 1) B1 _ (RDe_fr hR hz1.1 (fun y h1 h2 q => by unfold stx at q; omega) (List.prefix_refl T)) hw1 hdr2 (by omega) (by simp only [List.length_append] at hW ⊢; omega) (fun B2 lv2 hw2 hz2 => kk B2 lv2 (by rw [hE, ← List.append_assoc]; exact hw2) (fz_trans hz1 hz2)) lv l0 l1 l2 l3
theorem t_Dw {sc : tm_X} {d sa : Nat} {B : bm_H} {T : List Tm} {p0 : Bool} {P : EN2} {c : Option Nat} {dn : Bool} {x : Nat} {w : SW} {id : Tm} {K0 K1 : PK} {on : List (Tm × Int32)} {ln : Int32} {se : Nat → List SS} {me : Nat → MM} {Q : bm_H → Prop} (h0 : T0 T) (hd : x + 202 < sa ∨ sa + 5 < x) (hR : RDe B T x w (id, K0, K1, on, ln, se, me)) (hw : RSt B T sa (p0, P, [], c, dn)) (hW : (dv_en (id, K0, K1, on, ln, se, me)).length ≤ 536) (kk : ∀ B', RSw B' T sa p0 P c dn (dv_en (id, K0, K1, on, ln, se, me)) → fz (stx sa) B B' → Q B') : bm_Gv sc (d + 3) 46 [.ref x, .ref sa] B Q := by
  simp only [dv_en, List.length_append, List.length_cons, List.length_nil] at hW
  show bm_G sc (d + 3) 46 0 [(0, .ref x), (1, .ref sa)] [] B _
  generalize elv : ([(0, .ref x), (1, .ref sa)] : tm_L) = lv
  have l0 : lv.lookup 0 = some (.ref x) := by rw [← elv]; rfl
  have l1 : lv.lookup 1 = some (.ref sa) := by rw [← elv]; rfl
  clear elv
  refine g_ald (pc' := 1) cd_De_writeEntries rfl (Or.inr ⟨_, rfl, rfl, rfl⟩) l1 rfl rfl ?_
  refine g_callv (pc' := 4) cd_De_writeEntries rfl rfl rfl rfl rfl (tm_invV rfl rfl cd_St_startEntries rfl (Nat.le_of_ble_eq_true rfl) (by decide) hw.1.1.1.1 hw.1.1.1.2) (t_startEntries hw (fun B13 hw13 hz13 => ?_))
  have hR13 := RDe_fr hR hz13.1 (fun y h1 h2 q => by unfold stx at q; omega) (List.prefix_refl T)
  show bm_G _ _ _ 4 _ [] B13 _
  refine g_ald (pc' := 5) cd_De_writeEntries rfl (Or.inr ⟨_, rfl, rfl, rfl⟩) l1 rfl rfl ?_
  refine g_ald (pc' := 6) cd_De_writeEntries rfl (Or.inr ⟨_, rfl, rfl, rfl⟩) l0 rfl rfl ?_
  refine g_fI (c := 0) (k := 6) (x := (bm_FI B13 0 6 x)) (pc' := 9) cd_De_writeEntries rfl rfl rfl rfl rfl (by decide) hR13.1.1.1 hR13.1.1.2 rfl ?_
  refine g_k1 (v := 0) (pc' := 10) cd_De_writeEntries rfl (by decide) rfl ?_
  refine g_callv (pc' := 13) cd_De_writeEntries rfl rfl rfl rfl rfl (tm_invV rfl rfl cd_St_put rfl (Nat.le_of_ble_eq_true rfl) (by decide) hw13.1.1.1.1.1 hw13.1.1.1.1.2) (t_put hw13 (by decide) hR13.2.1.1 h0.1 (fun B14 hw14 hz14 => ?_))
  have hR14 := RDe_fr hR13 hz14.1 (fun y h1 h2 q => by unfold stx at q; omega) (List.prefix_refl T)
  have Z14 := fz_trans hz13 hz14
  show bm_G _ _ _ 13 _ [] B14 _
  refine g_ald (pc' := 14) cd_De_writeEntries rfl (Or.inr ⟨_, rfl, rfl, rfl⟩) l0 rfl rfl ?_
  refine g_fR (c := 0) (k := 0) (x := (x + 1)) (pc' := 17) cd_De_writeEntries rfl rfl rfl rfl rfl (by decide) hR14.1.1.1 hR14.1.1.2 hR14.1.2.1.1 ?_
  refine g_k1 (v := 0) (pc' := 18) cd_De_writeEntries rfl (by decide) rfl ?_
  refine g_aR (t := 4) (x := (pA x w.1 0)) (pc' := 19) cd_De_writeEntries rfl rfl hR14.1.2.2.1.1 hR14.1.2.2.1.2.1 (by decide) rfl rfl (by rw [show bm_AL B14 (x + 1) = 2 from hR14.1.2.2.1.2.2]; exact vp_in_nI (n := 0) (by decide) (by decide)) hR14.2.2.1.1.1 ?_
  refine g_ald (pc' := 20) cd_De_writeEntries rfl (Or.inr ⟨_, rfl, rfl, rfl⟩) l1 rfl rfl ?_
  refine g_callv (pc' := 23) cd_De_writeEntries rfl rfl rfl rfl rfl (tm_invV rfl rfl cd_Pk_writeEntries rfl (Nat.le_of_ble_eq_true rfl) (by decide) hR14.2.2.1.2.1.1.1.1 hR14.2.2.1.2.1.1.1.2) (t_Pw h0 (by have := pA_in x w.1 (k := 0) (by decide); omega) hR14.2.2.1.2.1 hw14 (by first | omega | (simp only [List.length_append, List.length_cons, List.length_nil] at hW ⊢; omega)) (fun B15 hw15 hz15 => ?_))
  have hR15 := RDe_fr hR14 hz15.1 (fun y h1 h2 q => by unfold stx at q; omega) (List.prefix_refl T)
  have Z15 := fz_trans Z14 hz15
  show bm_G _ _ _ 23 _ [] B15 _
  refine g_ald (pc' := 24) cd_De_writeEntries rfl (Or.inr ⟨_, rfl, rfl, rfl⟩) l0 rfl rfl ?_
  refine g_fR (c := 0) (k := 0) (x := (x + 1)) (pc' := 27) cd_De_writeEntries rfl rfl rfl rfl rfl (by decide) hR15.1.1.1 hR15.1.1.2 hR15.1.2.1.1 ?_
  refine g_k1 (v := 1) (pc' := 28) cd_De_writeEntries rfl (by decide) rfl ?_
  refine g_aR (t := 4) (x := (pA x w.1 1)) (pc' := 29) cd_De_writeEntries rfl rfl hR15.1.2.2.1.1 hR15.1.2.2.1.2.1 (by decide) rfl rfl (by rw [show bm_AL B15 (x + 1) = 2 from hR15.1.2.2.1.2.2]; exact vp_in_nI (n := 1) (by decide) (by decide)) hR15.2.2.1.1.2 ?_
  refine g_ald (pc' := 30) cd_De_writeEntries rfl (Or.inr ⟨_, rfl, rfl, rfl⟩) l1 rfl rfl ?_
  refine g_callv (pc' := 33) cd_De_writeEntries rfl rfl rfl rfl rfl (tm_invV rfl rfl cd_Pk_writeEntries rfl (Nat.le_of_ble_eq_true rfl) (by decide) hR15.2.2.1.2.2.1.1.1 hR15.2.2.1.2.2.1.1.2) (t_Pw h0 (by have := pA_in x w.1 (k := 1) (by decide); omega) hR15.2.2.1.2.2 hw15 (by first | omega | (simp only [List.length_append, List.length_cons, List.length_nil] at hW ⊢; omega)) (fun B16 hw16 hz16 => ?_))
  have hR16 := RDe_fr hR15 hz16.1 (fun y h1 h2 q => by unfold stx at q; omega) (List.prefix_refl T)
  have Z16 := fz_trans Z15 hz16
  show bm_G _ _ _ 33 _ [] B16 _
  refine g_k1 (v := 0) (pc' := 34) cd_De_writeEntries rfl (by decide) rfl ?_
  refine g_ist (pc' := 35) cd_De_writeEntries rfl (Or.inr ⟨_, rfl, rfl, rfl⟩) (by decide) rfl (fun lv el => ?_)
  have l0 := tm_lk el l0 rfl (by decide)
  have l1 := tm_lk el l1 rfl (by decide)
  have l2 : lv.lookup 2 = some (.int 0) := tm_lks el
  clear el
  refine l_Do h0 hd on 0 _ _ hR16 hw16 rfl (by omega) (by first | omega | (simp only [List.length_append, List.length_cons, List.length_nil] at hW ⊢; omega)) (fun B17 lv hw17 hz17 l0 l1 => ?_) lv l0 l1 l2
  have hR17 := RDe_fr hR16 hz17.1 (fun y h1 h2 q => by unfold stx at q; omega) (List.prefix_refl T)
  have Z17 := fz_trans Z16 hz17
  refine g_k1 (v := 0) (pc' := 61) cd_De_writeEntries rfl (by decide) rfl ?_
  refine g_ist (pc' := 62) cd_De_writeEntries rfl (Or.inr ⟨_, rfl, rfl, rfl⟩) (by decide) rfl (fun lv el => ?_)
  have l0 := tm_lk el l0 rfl (by decide)
  have l1 := tm_lk el l1 rfl (by decide)
  have l2 : lv.lookup 2 = some (.int 0) := tm_lks el
  clear el
  refine g_ild (pc' := 63) cd_De_writeEntries rfl (Or.inr ⟨_, rfl, rfl, rfl⟩) l2 rfl ?_
  refine g_k2 (v := 6) (pc' := 65) cd_De_writeEntries rfl (by decide) rfl ?_
  refine g_if2 (t := 106) (pc' := 68) cd_De_writeEntries rfl rfl rfl (fun c65 => ?_) (fun c65 => ?_)
  · exact absurd (show (6 : Int32) ≤ 0 from c65) (by decide)
  · have c65 : ¬ (6 : Int32) ≤ 0 := c65
    refine g_k1 (v := 0) (pc' := 69) cd_De_writeEntries rfl (by decide) rfl ?_
    refine g_ist (pc' := 70) cd_De_writeEntries rfl (Or.inr ⟨_, rfl, rfl, rfl⟩) (by decide) rfl (fun lv el => ?_)
    have l0 := tm_lk el l0 rfl (by decide)
    have l1 := tm_lk el l1 rfl (by decide)
    have l2 := tm_lk el l2 rfl (by decide)
    have l3 : lv.lookup 3 = some (.int 0) := tm_lks el
    clear el
    refine l_De (p := 0) h0 hd (by decide) (se 0) 0 _ _ hR17 hw17 rfl (by omega) (by first | omega | (simp only [List.length_append, List.length_cons, List.length_nil] at hW ⊢; omega)) (fun B18 lv hw18 hz18 l0 l1 l2 => ?_) lv l0 l1 l2 l3
    have hR18 := RDe_fr hR17 hz18.1 (fun y h1 h2 q => by unfold stx at q; omega) (List.prefix_refl T)
    have Z18 := fz_trans Z17 hz18
    refine g_inc (y := 1) (pc' := 103) cd_De_writeEntries rfl l2 (by decide) (by decide) rfl (fun lv el => ?_)
    have l0 := tm_lk el l0 rfl (by decide)
    have l1 := tm_lk el l1 rfl (by decide)
    have l2 : lv.lookup 2 = some (.int 1) := tm_lks el
    clear el
    refine g_pure (pc' := 62) (st' := []) cd_De_writeEntries rfl rfl (fun _ _ => rfl) ?_
    refine g_ild (pc' := 63) cd_De_writeEntries rfl (Or.inr ⟨_, rfl, rfl, rfl⟩) l2 rfl ?_
    refine g_k2 (v := 6) (pc' := 65) cd_De_writeEntries rfl (by decide) rfl ?_
    refine g_if2 (t := 106) (pc' := 68) cd_De_writeEntries rfl rfl rfl (fun c65 => ?_) (fun c65 => ?_)
    · exact absurd (show (6 : Int32) ≤ 1 from c65) (by decide)
    · have c65 : ¬ (6 : Int32) ≤ 1 := c65
      refine g_k1 (v := 0) (pc' := 69) cd_De_writeEntries rfl (by decide) rfl ?_
      refine g_ist (pc' := 70) cd_De_writeEntries rfl (Or.inr ⟨_, rfl, rfl, rfl⟩) (by decide) rfl (fun lv el => ?_)
      have l0 := tm_lk el l0 rfl (by decide)
      have l1 := tm_lk el l1 rfl (by decide)
      have l2 := tm_lk el l2 rfl (by decide)
      have l3 : lv.lookup 3 = some (.int 0) := tm_lks el
      clear el
      refine l_De (p := 1) h0 hd (by decide) (se 1) 0 _ _ hR18 hw18 rfl (by omega) (by first | omega | (simp only [List.length_append, List.length_cons, List.length_nil] at hW ⊢; omega)) (fun B19 lv hw19 hz19 l0 l1 l2 => ?_) lv l0 l1 l2 l3
      have hR19 := RDe_fr hR18 hz19.1 (fun y h1 h2 q => by unfold stx at q; omega) (List.prefix_refl T)
      have Z19 := fz_trans Z18 hz19
      refine g_inc (y := 2) (pc' := 103) cd_De_writeEntries rfl l2 (by decide) (by decide) rfl (fun lv el => ?_)
      have l0 := tm_lk el l0 rfl (by decide)
      have l1 := tm_lk el l1 rfl (by decide)
      have l2 : lv.lookup 2 = some (.int 2) := tm_lks el
      clear el
      refine g_pure (pc' := 62) (st' := []) cd_De_writeEntries rfl rfl (fun _ _ => rfl) ?_
      refine g_ild (pc' := 63) cd_De_writeEntries rfl (Or.inr ⟨_, rfl, rfl, rfl⟩) l2 rfl ?_
      refine g_k2 (v := 6) (pc' := 65) cd_De_writeEntries rfl (by decide) rfl ?_
      refine g_if2 (t := 106) (pc' := 68) cd_De_writeEntries rfl rfl rfl (fun c65 => ?_) (fun c65 => ?_)
      · exact absurd (show (6 : Int32) ≤ 2 from c65) (by decide)
      · have c65 : ¬ (6 : Int32) ≤ 2 := c65
        refine g_k1 (v := 0) (pc' := 69) cd_De_writeEntries rfl (by decide) rfl ?_
        refine g_ist (pc' := 70) cd_De_writeEntries rfl (Or.inr ⟨_, rfl, rfl, rfl⟩) (by decide) rfl (fun lv el => ?_)
        have l0 := tm_lk el l0 rfl (by decide)
        have l1 := tm_lk el l1 rfl (by decide)
        have l2 := tm_lk el l2 rfl (by decide)
        have l3 : lv.lookup 3 = some (.int 0) := tm_lks el
        clear el
        refine l_De (p := 2) h0 hd (by decide) (se 2) 0 _ _ hR19 hw19 rfl (by omega) (by first | omega | (simp only [List.length_append, List.length_cons, List.length_nil] at hW ⊢; omega)) (fun B20 lv hw20 hz20 l0 l1 l2 => ?_) lv l0 l1 l2 l3
        have hR20 := RDe_fr hR19 hz20.1 (fun y h1 h2 q => by unfold stx at q; omega) (List.prefix_refl T)
        have Z20 := fz_trans Z19 hz20
        refine g_inc (y := 3) (pc' := 103) cd_De_writeEntries rfl l2 (by decide) (by decide) rfl (fun lv el => ?_)
        have l0 := tm_lk el l0 rfl (by decide)
        have l1 := tm_lk el l1 rfl (by decide)
        have l2 : lv.lookup 2 = some (.int 3) := tm_lks el
        clear el
        refine g_pure (pc' := 62) (st' := []) cd_De_writeEntries rfl rfl (fun _ _ => rfl) ?_
        refine g_ild (pc' := 63) cd_De_writeEntries rfl (Or.inr ⟨_, rfl, rfl, rfl⟩) l2 rfl ?_
        refine g_k2 (v := 6) (pc' := 65) cd_De_writeEntries rfl (by decide) rfl ?_
        refine g_if2 (t := 106) (pc' := 68) cd_De_writeEntries rfl rfl rfl (fun c65 => ?_) (fun c65 => ?_)
        · exact absurd (show (6 : Int32) ≤ 3 from c65) (by decide)
        · have c65 : ¬ (6 : Int32) ≤ 3 := c65
          refine g_k1 (v := 0) (pc' := 69) cd_De_writeEntries rfl (by decide) rfl ?_
          refine g_ist (pc' := 70) cd_De_writeEntries rfl (Or.inr ⟨_, rfl, rfl, rfl⟩) (by decide) rfl (fun lv el => ?_)
          have l0 := tm_lk el l0 rfl (by decide)
          have l1 := tm_lk el l1 rfl (by decide)
          have l2 := tm_lk el l2 rfl (by decide)
          have l3 : lv.lookup 3 = some (.int 0) := tm_lks el
          clear el
          refine l_De (p := 3) h0 hd (by decide) (se 3) 0 _ _ hR20 hw20 rfl (by omega) (by first | omega | (simp only [List.length_append, List.length_cons, List.length_nil] at hW ⊢; omega)) (fun B21 lv hw21 hz21 l0 l1 l2 => ?_) lv l0 l1 l2 l3
          have hR21 := RDe_fr hR20 hz21.1 (fun y h1 h2 q => by unfold stx at q; omega) (List.prefix_refl T)
          have Z21 := fz_trans Z20 hz21
          refine g_inc (y := 4) (pc' := 103) cd_De_writeEntries rfl l2 (by decide) (by decide) rfl (fun lv el => ?_)
          have l0 := tm_lk el l0 rfl (by decide)
          have l1 := tm_lk el l1 rfl (by decide)
          have l2 : lv.lookup 2 = some (.int 4) := tm_lks el
          clear el
          refine g_pure (pc' := 62) (st' := []) cd_De_writeEntries rfl rfl (fun _ _ => rfl) ?_
          refine g_ild (pc' := 63) cd_De_writeEntries rfl (Or.inr ⟨_, rfl, rfl, rfl⟩) l2 rfl ?_
          refine g_k2 (v := 6) (pc' := 65) cd_De_writeEntries rfl (by decide) rfl ?_
          refine g_if2 (t := 106) (pc' := 68) cd_De_writeEntries rfl rfl rfl (fun c65 => ?_) (fun c65 => ?_)
          · exact absurd (show (6 : Int32) ≤ 4 from c65) (by decide)
          · have c65 : ¬ (6 : Int32) ≤ 4 := c65
            refine g_k1 (v := 0) (pc' := 69) cd_De_writeEntries rfl (by decide) rfl ?_
            refine g_ist (pc' := 70) cd_De_writeEntries rfl (Or.inr ⟨_, rfl, rfl, rfl⟩) (by decide) rfl (fun lv el => ?_)
            have l0 := tm_lk el l0 rfl (by decide)
            have l1 := tm_lk el l1 rfl (by decide)
            have l2 := tm_lk el l2 rfl (by decide)
            have l3 : lv.lookup 3 = some (.int 0) := tm_lks el
            clear el
            refine l_De (p := 4) h0 hd (by decide) (se 4) 0 _ _ hR21 hw21 rfl (by omega) (by first | omega | (simp only [List.length_append, List.length_cons, List.length_nil] at hW ⊢; omega)) (fun B22 lv hw22 hz22 l0 l1 l2 => ?_) lv l0 l1 l2 l3
            have hR22 := RDe_fr hR21 hz22.1 (fun y h1 h2 q => by unfold stx at q; omega) (List.prefix_refl T)
            have Z22 := fz_trans Z21 hz22
            refine g_inc (y := 5) (pc' := 103) cd_De_writeEntries rfl l2 (by decide) (by decide) rfl (fun lv el => ?_)
            have l0 := tm_lk el l0 rfl (by decide)
            have l1 := tm_lk el l1 rfl (by decide)
            have l2 : lv.lookup 2 = some (.int 5) := tm_lks el
            clear el
            refine g_pure (pc' := 62) (st' := []) cd_De_writeEntries rfl rfl (fun _ _ => rfl) ?_
            refine g_ild (pc' := 63) cd_De_writeEntries rfl (Or.inr ⟨_, rfl, rfl, rfl⟩) l2 rfl ?_
            refine g_k2 (v := 6) (pc' := 65) cd_De_writeEntries rfl (by decide) rfl ?_
            refine g_if2 (t := 106) (pc' := 68) cd_De_writeEntries rfl rfl rfl (fun c65 => ?_) (fun c65 => ?_)
            · exact absurd (show (6 : Int32) ≤ 5 from c65) (by decide)
            · have c65 : ¬ (6 : Int32) ≤ 5 := c65
              refine g_k1 (v := 0) (pc' := 69) cd_De_writeEntries rfl (by decide) rfl ?_
              refine g_ist (pc' := 70) cd_De_writeEntries rfl (Or.inr ⟨_, rfl, rfl, rfl⟩) (by decide) rfl (fun lv el => ?_)
              have l0 := tm_lk el l0 rfl (by decide)
              have l1 := tm_lk el l1 rfl (by decide)
              have l2 := tm_lk el l2 rfl (by decide)
              have l3 : lv.lookup 3 = some (.int 0) := tm_lks el
              clear el
              refine l_De (p := 5) h0 hd (by decide) (se 5) 0 _ _ hR22 hw22 rfl (by omega) (by first | omega | (simp only [List.length_append, List.length_cons, List.length_nil] at hW ⊢; omega)) (fun B23 lv hw23 hz23 l0 l1 l2 => ?_) lv l0 l1 l2 l3
              have hR23 := RDe_fr hR22 hz23.1 (fun y h1 h2 q => by unfold stx at q; omega) (List.prefix_refl T)
              have Z23 := fz_trans Z22 hz23
              refine g_inc (y := 6) (pc' := 103) cd_De_writeEntries rfl l2 (by decide) (by decide) rfl (fun lv el => ?_)
              have l0 := tm_lk el l0 rfl (by decide)
              have l1 := tm_lk el l1 rfl (by decide)
              have l2 : lv.lookup 2 = some (.int 6) := tm_lks el
              clear el
              refine g_pure (pc' := 62) (st' := []) cd_De_writeEntries rfl rfl (fun _ _ => rfl) ?_
              refine g_ild (pc' := 63) cd_De_writeEntries rfl (Or.inr ⟨_, rfl, rfl, rfl⟩) l2 rfl ?_
              refine g_k2 (v := 6) (pc' := 65) cd_De_writeEntries rfl (by decide) rfl ?_
              refine g_if2 (t := 106) (pc' := 68) cd_De_writeEntries rfl rfl rfl (fun c65 => ?_) (fun c65 => ?_)
              · have c65 : (6 : Int32) ≤ 6 := c65
                refine g_k1 (v := 0) (pc' := 107) cd_De_writeEntries rfl (by decide) rfl ?_
                refine g_ist (pc' := 108) cd_De_writeEntries rfl (Or.inr ⟨_, rfl, rfl, rfl⟩) (by decide) rfl (fun lv el => ?_)
                have l0 := tm_lk el l0 rfl (by decide)
                have l1 := tm_lk el l1 rfl (by decide)
                have l2 : lv.lookup 2 = some (.int 0) := tm_lks el
                clear el
                refine g_ild (pc' := 109) cd_De_writeEntries rfl (Or.inr ⟨_, rfl, rfl, rfl⟩) l2 rfl ?_
                refine g_k1 (v := 4) (pc' := 110) cd_De_writeEntries rfl (by decide) rfl ?_
                refine g_if2 (t := 129) (pc' := 113) cd_De_writeEntries rfl rfl rfl (fun c110 => ?_) (fun c110 => ?_)
                · exact absurd (show (4 : Int32) ≤ 0 from c110) (by decide)
                · have c110 : ¬ (4 : Int32) ≤ 0 := c110
                  refine g_ald (pc' := 114) cd_De_writeEntries rfl (Or.inr ⟨_, rfl, rfl, rfl⟩) l0 rfl rfl ?_
                  refine g_fR (c := 0) (k := 5) (x := (x + 10)) (pc' := 117) cd_De_writeEntries rfl rfl rfl rfl rfl (by decide) hR23.1.1.1 hR23.1.1.2 hR23.1.2.1.2.2.2.2.2 ?_
                  refine g_ild (pc' := 118) cd_De_writeEntries rfl (Or.inr ⟨_, rfl, rfl, rfl⟩) l2 rfl ?_
                  refine g_aR (t := 6) (x := (x + 47 + 39 * 0)) (pc' := 119) cd_De_writeEntries rfl rfl hR23.1.2.2.2.2.2.2.2.1 hR23.1.2.2.2.2.2.2.2.2.1 (by decide) rfl rfl (by rw [show bm_AL B23 (x + 10) = 4 from hR23.1.2.2.2.2.2.2.2.2.2]; exact vp_in_nI (n := 0) (by decide) (by decide)) (hR23.2.2.2.2.2.1 0 (by decide)) ?_
                  refine g_ald (pc' := 120) cd_De_writeEntries rfl (Or.inr ⟨_, rfl, rfl, rfl⟩) l1 rfl rfl ?_
                  refine g_callv (pc' := 123) cd_De_writeEntries rfl rfl rfl rfl rfl (tm_invV rfl rfl cd_Me_writeEntries rfl (Nat.le_of_ble_eq_true rfl) (by decide) (hR23.2.2.2.2.2.2 0 (by decide)).1.1.1 (hR23.2.2.2.2.2.2 0 (by decide)).1.1.2) (t_Mw h0 (by omega) (hR23.2.2.2.2.2.2 0 (by decide)) hw23 (by first | omega | (simp only [List.length_append, List.length_cons, List.length_nil] at hW ⊢; omega)) (fun B24 hw24 hz24 => ?_))
                  have hR24 := RDe_fr hR23 hz24.1 (fun y h1 h2 q => by unfold stx at q; omega) (List.prefix_refl T)
                  have Z24 := fz_trans Z23 hz24
                  show bm_G _ _ _ 123 _ [] B24 _
                  refine g_inc (y := 1) (pc' := 126) cd_De_writeEntries rfl l2 (by decide) (by decide) rfl (fun lv el => ?_)
                  have l0 := tm_lk el l0 rfl (by decide)
                  have l1 := tm_lk el l1 rfl (by decide)
                  have l2 : lv.lookup 2 = some (.int 1) := tm_lks el
                  clear el
                  refine g_pure (pc' := 108) (st' := []) cd_De_writeEntries rfl rfl (fun _ _ => rfl) ?_
                  refine g_ild (pc' := 109) cd_De_writeEntries rfl (Or.inr ⟨_, rfl, rfl, rfl⟩) l2 rfl ?_
                  refine g_k1 (v := 4) (pc' := 110) cd_De_writeEntries rfl (by decide) rfl ?_
                  refine g_if2 (t := 129) (pc' := 113) cd_De_writeEntries rfl rfl rfl (fun c110 => ?_) (fun c110 => ?_)
                  · exact absurd (show (4 : Int32) ≤ 1 from c110) (by decide)
                  · have c110 : ¬ (4 : Int32) ≤ 1 := c110
                    refine g_ald (pc' := 114) cd_De_writeEntries rfl (Or.inr ⟨_, rfl, rfl, rfl⟩) l0 rfl rfl ?_
                    refine g_fR (c := 0) (k := 5) (x := (x + 10)) (pc' := 117) cd_De_writeEntries rfl rfl rfl rfl rfl (by decide) hR24.1.1.1 hR24.1.1.2 hR24.1.2.1.2.2.2.2.2 ?_
                    refine g_ild (pc' := 118) cd_De_writeEntries rfl (Or.inr ⟨_, rfl, rfl, rfl⟩) l2 rfl ?_
                    refine g_aR (t := 6) (x := (x + 47 + 39 * 1)) (pc' := 119) cd_De_writeEntries rfl rfl hR24.1.2.2.2.2.2.2.2.1 hR24.1.2.2.2.2.2.2.2.2.1 (by decide) rfl rfl (by rw [show bm_AL B24 (x + 10) = 4 from hR24.1.2.2.2.2.2.2.2.2.2]; exact vp_in_nI (n := 1) (by decide) (by decide)) (hR24.2.2.2.2.2.1 1 (by decide)) ?_
                    refine g_ald (pc' := 120) cd_De_writeEntries rfl (Or.inr ⟨_, rfl, rfl, rfl⟩) l1 rfl rfl ?_
                    refine g_callv (pc' := 123) cd_De_writeEntries rfl rfl rfl rfl rfl (tm_invV rfl rfl cd_Me_writeEntries rfl (Nat.le_of_ble_eq_true rfl) (by decide) (hR24.2.2.2.2.2.2 1 (by decide)).1.1.1 (hR24.2.2.2.2.2.2 1 (by decide)).1.1.2) (t_Mw h0 (by omega) (hR24.2.2.2.2.2.2 1 (by decide)) hw24 (by first | omega | (simp only [List.length_append, List.length_cons, List.length_nil] at hW ⊢; omega)) (fun B25 hw25 hz25 => ?_))
                    have hR25 := RDe_fr hR24 hz25.1 (fun y h1 h2 q => by unfold stx at q; omega) (List.prefix_refl T)
                    have Z25 := fz_trans Z24 hz25
                    show bm_G _ _ _ 123 _ [] B25 _
                    refine g_inc (y := 2) (pc' := 126) cd_De_writeEntries rfl l2 (by decide) (by decide) rfl (fun lv el => ?_)
                    have l0 := tm_lk el l0 rfl (by decide)
                    have l1 := tm_lk el l1 rfl (by decide)
                    have l2 : lv.lookup 2 = some (.int 2) := tm_lks el
                    clear el
                    refine g_pure (pc' := 108) (st' := []) cd_De_writeEntries rfl rfl (fun _ _ => rfl) ?_
                    refine g_ild (pc' := 109) cd_De_writeEntries rfl (Or.inr ⟨_, rfl, rfl, rfl⟩) l2 rfl ?_
                    refine g_k1 (v := 4) (pc' := 110) cd_De_writeEntries rfl (by decide) rfl ?_
                    refine g_if2 (t := 129) (pc' := 113) cd_De_writeEntries rfl rfl rfl (fun c110 => ?_) (fun c110 => ?_)
                    · exact absurd (show (4 : Int32) ≤ 2 from c110) (by decide)
                    · have c110 : ¬ (4 : Int32) ≤ 2 := c110
                      refine g_ald (pc' := 114) cd_De_writeEntries rfl (Or.inr ⟨_, rfl, rfl, rfl⟩) l0 rfl rfl ?_
                      refine g_fR (c := 0) (k := 5) (x := (x + 10)) (pc' := 117) cd_De_writeEntries rfl rfl rfl rfl rfl (by decide) hR25.1.1.1 hR25.1.1.2 hR25.1.2.1.2.2.2.2.2 ?_
                      refine g_ild (pc' := 118) cd_De_writeEntries rfl (Or.inr ⟨_, rfl, rfl, rfl⟩) l2 rfl ?_
                      refine g_aR (t := 6) (x := (x + 47 + 39 * 2)) (pc' := 119) cd_De_writeEntries rfl rfl hR25.1.2.2.2.2.2.2.2.1 hR25.1.2.2.2.2.2.2.2.2.1 (by decide) rfl rfl (by rw [show bm_AL B25 (x + 10) = 4 from hR25.1.2.2.2.2.2.2.2.2.2]; exact vp_in_nI (n := 2) (by decide) (by decide)) (hR25.2.2.2.2.2.1 2 (by decide)) ?_
                      refine g_ald (pc' := 120) cd_De_writeEntries rfl (Or.inr ⟨_, rfl, rfl, rfl⟩) l1 rfl rfl ?_
                      refine g_callv (pc' := 123) cd_De_writeEntries rfl rfl rfl rfl rfl (tm_invV rfl rfl cd_Me_writeEntries rfl (Nat.le_of_ble_eq_true rfl) (by decide) (hR25.2.2.2.2.2.2 2 (by decide)).1.1.1 (hR25.2.2.2.2.2.2 2 (by decide)).1.1.2) (t_Mw h0 (by omega) (hR25.2.2.2.2.2.2 2 (by decide)) hw25 (by first | omega | (simp only [List.length_append, List.length_cons, List.length_nil] at hW ⊢; omega)) (fun B26 hw26 hz26 => ?_))
                      have hR26 := RDe_fr hR25 hz26.1 (fun y h1 h2 q => by unfold stx at q; omega) (List.prefix_refl T)
                      have Z26 := fz_trans Z25 hz26
                      show bm_G _ _ _ 123 _ [] B26 _
                      refine g_inc (y := 3) (pc' := 126) cd_De_writeEntries rfl l2 (by decide) (by decide) rfl (fun lv el => ?_)
                      have l0 := tm_lk el l0 rfl (by decide)
                      have l1 := tm_lk el l1 rfl (by decide)
                      have l2 : lv.lookup 2 = some (.int 3) := tm_lks el
                      clear el
                      refine g_pure (pc' := 108) (st' := []) cd_De_writeEntries rfl rfl (fun _ _ => rfl) ?_
                      refine g_ild (pc' := 109) cd_De_writeEntries rfl (Or.inr ⟨_, rfl, rfl, rfl⟩) l2 rfl ?_
                      refine g_k1 (v := 4) (pc' := 110) cd_De_writeEntries rfl (by decide) rfl ?_
                      refine g_if2 (t := 129) (pc' := 113) cd_De_writeEntries rfl rfl rfl (fun c110 => ?_) (fun c110 => ?_)
                      · exact absurd (show (4 : Int32) ≤ 3 from c110) (by decide)
                      · have c110 : ¬ (4 : Int32) ≤ 3 := c110
                        refine g_ald (pc' := 114) cd_De_writeEntries rfl (Or.inr ⟨_, rfl, rfl, rfl⟩) l0 rfl rfl ?_
                        refine g_fR (c := 0) (k := 5) (x := (x + 10)) (pc' := 117) cd_De_writeEntries rfl rfl rfl rfl rfl (by decide) hR26.1.1.1 hR26.1.1.2 hR26.1.2.1.2.2.2.2.2 ?_
                        refine g_ild (pc' := 118) cd_De_writeEntries rfl (Or.inr ⟨_, rfl, rfl, rfl⟩) l2 rfl ?_
                        refine g_aR (t := 6) (x := (x + 47 + 39 * 3)) (pc' := 119) cd_De_writeEntries rfl rfl hR26.1.2.2.2.2.2.2.2.1 hR26.1.2.2.2.2.2.2.2.2.1 (by decide) rfl rfl (by rw [show bm_AL B26 (x + 10) = 4 from hR26.1.2.2.2.2.2.2.2.2.2]; exact vp_in_nI (n := 3) (by decide) (by decide)) (hR26.2.2.2.2.2.1 3 (by decide)) ?_
                        refine g_ald (pc' := 120) cd_De_writeEntries rfl (Or.inr ⟨_, rfl, rfl, rfl⟩) l1 rfl rfl ?_
                        refine g_callv (pc' := 123) cd_De_writeEntries rfl rfl rfl rfl rfl (tm_invV rfl rfl cd_Me_writeEntries rfl (Nat.le_of_ble_eq_true rfl) (by decide) (hR26.2.2.2.2.2.2 3 (by decide)).1.1.1 (hR26.2.2.2.2.2.2 3 (by decide)).1.1.2) (t_Mw h0 (by omega) (hR26.2.2.2.2.2.2 3 (by decide)) hw26 (by first | omega | (simp only [List.length_append, List.length_cons, List.length_nil] at hW ⊢; omega)) (fun B27 hw27 hz27 => ?_))
                        have hR27 := RDe_fr hR26 hz27.1 (fun y h1 h2 q => by unfold stx at q; omega) (List.prefix_refl T)
                        have Z27 := fz_trans Z26 hz27
                        show bm_G _ _ _ 123 _ [] B27 _
                        refine g_inc (y := 4) (pc' := 126) cd_De_writeEntries rfl l2 (by decide) (by decide) rfl (fun lv el => ?_)
                        have l0 := tm_lk el l0 rfl (by decide)
                        have l1 := tm_lk el l1 rfl (by decide)
                        have l2 : lv.lookup 2 = some (.int 4) := tm_lks el
                        clear el
                        refine g_pure (pc' := 108) (st' := []) cd_De_writeEntries rfl rfl (fun _ _ => rfl) ?_
                        refine g_ild (pc' := 109) cd_De_writeEntries rfl (Or.inr ⟨_, rfl, rfl, rfl⟩) l2 rfl ?_
                        refine g_k1 (v := 4) (pc' := 110) cd_De_writeEntries rfl (by decide) rfl ?_
                        refine g_if2 (t := 129) (pc' := 113) cd_De_writeEntries rfl rfl rfl (fun c110 => ?_) (fun c110 => ?_)
                        · have c110 : (4 : Int32) ≤ 4 := c110
                          exact g_retv cd_De_writeEntries rfl ⟨rfl, (kk _ (by unfold dv_en; simpa only [List.append_assoc, List.nil_append] using hw27) Z27)⟩
                        · exact absurd (show ¬ (4 : Int32) ≤ 4 from c110) (by decide)
              · exact absurd (show ¬ (6 : Int32) ≤ 6 from c65) (by decide)
