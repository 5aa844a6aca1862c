/-! Ledger: letters come -/
theorem TI_lex {X : Nat → Prop} {B B' : bm_H} {ca rm dr : Nat} {T : List Tm} (h : TI B 1 ca 3 4 rm dr T) (hca : ca = 2 ∨ 1482 ≤ ca) (hf : fr X B B') (hX : ∀ y, X y → 8 ≤ y ∧ y < 1482) : TI B' 1 ca 3 4 rm dr T := TI_fr h hf (fun q => by have := hX _ q; omega) (fun q => by have := hX _ q; omega) (fun q => by have := hX _ q; omega)
theorem lex_in (y : Nat) (h : lex y) : 8 ≤ y ∧ y < 1482 := by unfold lex at h; omega
theorem t_addLetter {sc : tm_X} {d : Nat} {ca rm dr : Nat} {B : bm_H} {T : List Tm} {L : List LT} {bd ll tc tl tf tg : Nat → Int32} {cf cg : Int32} {ct : Tm} {co : Bool} {li fo db : Int32} {x v m : Int32} {A : Tm} {k : Nat} {Q : Int32 → bm_H → Prop} (hT : TI B 1 ca 3 4 rm dr T) (hca : ca = 2 ∨ 1482 ≤ ca) (hR : RLe B T (L, bd, ll, tc, tl, tf, tg, cf, cg, ct, co, li, fo, db)) (hL : L.length < 700) (hx : tv T x A) (hm : mk A = nI k) (hk : k < 3000) (kk : ∀ B', fz lex B B' → bm_FI B' 4 11 11 = nI (L.length + 1) → bm_AI B' 12 = upd (upd (upd (bm_AI B 12) (L.length * 10 + 0) x) (L.length * 10 + 1) v) (L.length * 10 + 4) m → bm_AI B' 13 = upd bd k (nI L.length) → (bm_AI B' 14 = ll ∧ bm_AI B' 15 = tc ∧ bm_AI B' 16 = tl ∧ bm_AI B' 17 = tf ∧ bm_AI B' 18 = tg) → (bm_FI B' 4 7 11 = cf ∧ bm_FI B' 4 8 11 = cg ∧ tv T (bm_FI B' 4 9 11) ct ∧ bm_FI B' 4 10 11 = bz co ∧ bm_FI B' 4 12 11 = li ∧ bm_FI B' 4 13 11 = fo ∧ bm_FI B' 4 14 11 = db) → Q (nI (L.length * 10)) B') : bm_Gi sc (d + 1) 92 [.ref 11, .ref 1, .int x, .int v, .int m] B Q := by
  show bm_G sc (d + 1) 92 0 [(0, .ref 11), (1, .ref 1), (2, .int x), (3, .int v), (4, .int m)] [] B _
  generalize elv : ([(0, .ref 11), (1, .ref 1), (2, .int x), (3, .int v), (4, .int m)] : tm_L) = lv
  have l0 : lv.lookup 0 = some (.ref 11) := by rw [← elv]; rfl
  have l1 : lv.lookup 1 = some (.ref 1) := by rw [← elv]; rfl
  have l2 : lv.lookup 2 = some (.int x) := by rw [← elv]; rfl
  have l3 : lv.lookup 3 = some (.int v) := by rw [← elv]; rfl
  have l4 : lv.lookup 4 = some (.int m) := by rw [← elv]; rfl
  clear elv
  refine g_ald (pc' := 1) cd_Le_addLetter rfl (Or.inr ⟨_, rfl, rfl, rfl⟩) l0 rfl rfl ?_
  refine g_fI (c := 4) (k := 11) (x := nI (L.length)) (pc' := 4) cd_Le_addLetter rfl rfl rfl rfl rfl (by decide) hR.1.1.1 hR.1.1.2 hR.2.1.1.1 ?_
  refine g_k3 (v := 699) (pc' := 7) cd_Le_addLetter rfl (by decide) rfl ?_
  refine g_min (pc' := 10) cd_Le_addLetter rfl rfl rfl rfl ?_
  rw [show (if (699 : Int32) < nI (L.length) then (699 : Int32) else nI (L.length)) = nI (L.length) from (nI_min (a := (L.length)) (b := 699) (by omega) (by decide)).trans (congrArg nI (by omega))]
  refine g_k2 (v := 10) (pc' := 12) cd_Le_addLetter rfl (by decide) rfl ?_
  refine g_pure (pc' := 13) (st' := [.int ((nI (L.length)) * 10)]) cd_Le_addLetter rfl rfl (fun _ _ => rfl) ?_
  rw [show ((nI (L.length)) * 10 : Int32) = nI ((L.length) * 10) from pk_mul (L.length) 10]
  refine g_ist (pc' := 15) cd_Le_addLetter rfl (Or.inl ⟨rfl, rfl⟩) (by decide) rfl (fun lv el => ?_)
  have l0 := tm_lk el l0 rfl (by decide)
  have l1 := tm_lk el l1 rfl (by decide)
  have l2 := tm_lk el l2 rfl (by decide)
  have l3 := tm_lk el l3 rfl (by decide)
  have l4 := tm_lk el l4 rfl (by decide)
  have l5 : lv.lookup 5 = some (.int (nI ((L.length) * 10))) := tm_lks el
  clear el
  refine g_ald (pc' := 16) cd_Le_addLetter rfl (Or.inr ⟨_, rfl, rfl, rfl⟩) l1 rfl rfl ?_
  refine g_ild (pc' := 17) cd_Le_addLetter rfl (Or.inr ⟨_, rfl, rfl, rfl⟩) l2 rfl ?_
  refine g_calli (pc' := 20) cd_Le_addLetter rfl rfl rfl rfl rfl (tm_invV rfl rfl cd_Te_markOf rfl (Nat.le_of_ble_eq_true rfl) (by decide) hT.1.1.1 hT.1.1.2) (t_markOf hT hx ?_)
  rw [hm]
  show bm_G _ _ _ 20 _ [.int (nI k)] B _
  refine g_ist (pc' := 22) cd_Le_addLetter rfl (Or.inl ⟨rfl, rfl⟩) (by decide) rfl (fun lv el => ?_)
  have l0 := tm_lk el l0 rfl (by decide)
  have l1 := tm_lk el l1 rfl (by decide)
  have l2 := tm_lk el l2 rfl (by decide)
  have l3 := tm_lk el l3 rfl (by decide)
  have l4 := tm_lk el l4 rfl (by decide)
  have l5 := tm_lk el l5 rfl (by decide)
  have l6 : lv.lookup 6 = some (.int (nI k)) := tm_lks el
  clear el
  refine g_ild (pc' := 24) cd_Le_addLetter rfl (Or.inl ⟨rfl, rfl⟩) l6 rfl ?_
  refine g_if1 (t := 46) (pc' := 27) cd_Le_addLetter rfl rfl rfl (fun c24 => ?_) (fun c24 => ?_)
  · have c24 : (nI k) < 0 := c24
    exact absurd c24 (nI_pos (by omega))
  · have c24 : ¬ (nI k) < 0 := c24
    refine g_ild (pc' := 29) cd_Le_addLetter rfl (Or.inl ⟨rfl, rfl⟩) l6 rfl ?_
    refine g_k3 (v := 3000) (pc' := 32) cd_Le_addLetter rfl (by decide) rfl ?_
    refine g_if2 (t := 46) (pc' := 35) cd_Le_addLetter rfl rfl rfl (fun c32 => ?_) (fun c32 => ?_)
    · have c32 : (3000 : Int32) ≤ (nI k) := c32
      exact absurd c32 (nI_ge (b := 3000) hk (by decide))
    · have c32 : ¬ (3000 : Int32) ≤ (nI k) := c32
      refine g_ald (pc' := 36) cd_Le_addLetter rfl (Or.inr ⟨_, rfl, rfl, rfl⟩) l0 rfl rfl ?_
      refine g_fR (c := 4) (k := 1) (x := 13) (pc' := 39) cd_Le_addLetter rfl rfl rfl rfl rfl (by decide) hR.1.1.1 hR.1.1.2 hR.1.2.1.2.1 ?_
      refine g_ild (pc' := 41) cd_Le_addLetter rfl (Or.inl ⟨rfl, rfl⟩) l6 rfl ?_
      refine g_ald (pc' := 42) cd_Le_addLetter rfl (Or.inr ⟨_, rfl, rfl, rfl⟩) l0 rfl rfl ?_
      refine g_fI (c := 4) (k := 11) (x := nI (L.length)) (pc' := 45) cd_Le_addLetter rfl rfl rfl rfl rfl (by decide) hR.1.1.1 hR.1.1.2 hR.2.1.1.1 ?_
      refine g_iast (pc' := 46) cd_Le_addLetter rfl rfl hR.1.2.2.2.1.1 hR.1.2.2.2.1.2.1 (by rw [show bm_AL B 13 = 3000 from hR.1.2.2.2.1.2.2]; exact vp_in_nI (by omega) (by decide)) ?_
      rw [show (nI k : Int32).toNatClampNeg = k from nI_clamp (by omega)]
      have A1 : bm_AI (bm_setI B 13 k (nI (L.length))) 12 = (bm_AI B 12) := ((AI_setn B k (nI (L.length)) 12 (by decide)).trans (show bm_AI B 12 = (bm_AI B 12) from rfl))
      have A2 : bm_AI (bm_setI B 13 k (nI (L.length))) 13 = (upd bd k (nI (L.length))) := ((AI_set B 13 k (nI (L.length))).trans (congrArg (fun f => upd f k (nI (L.length))) (show bm_AI B 13 = bd from hR.2.1.2.1.1)))
      have A3 : bm_AI (bm_setI B 13 k (nI (L.length))) 14 = ll := ((AI_setn B k (nI (L.length)) 14 (by decide)).trans (show bm_AI B 14 = ll from hR.2.1.2.1.2.1))
      have A4 : bm_AI (bm_setI B 13 k (nI (L.length))) 15 = tc := ((AI_setn B k (nI (L.length)) 15 (by decide)).trans (show bm_AI B 15 = tc from hR.2.1.2.1.2.2.1))
      have A5 : bm_AI (bm_setI B 13 k (nI (L.length))) 16 = tl := ((AI_setn B k (nI (L.length)) 16 (by decide)).trans (show bm_AI B 16 = tl from hR.2.1.2.1.2.2.2.1))
      have A6 : bm_AI (bm_setI B 13 k (nI (L.length))) 17 = tf := ((AI_setn B k (nI (L.length)) 17 (by decide)).trans (show bm_AI B 17 = tf from hR.2.1.2.1.2.2.2.2.1))
      have A7 : bm_AI (bm_setI B 13 k (nI (L.length))) 18 = tg := ((AI_setn B k (nI (L.length)) 18 (by decide)).trans (show bm_AI B 18 = tg from hR.2.1.2.1.2.2.2.2.2))
      have Z8 : fz lex B (bm_setI B 13 k (nI (L.length))) := fz_trans (fz_rfl _ B) ⟨fr_mono (fun _ q => by unfold lex; omega) (fr_setI _ 13 _ _), rfl, rfl⟩
      refine g_ald (pc' := 47) cd_Le_addLetter rfl (Or.inr ⟨_, rfl, rfl, rfl⟩) l0 rfl rfl ?_
      refine g_fR (c := 4) (k := 0) (x := 12) (pc' := 50) cd_Le_addLetter rfl rfl rfl rfl rfl (by decide) hR.1.1.1 hR.1.1.2 hR.1.2.1.1 ?_
      refine g_ild (pc' := 52) cd_Le_addLetter rfl (Or.inl ⟨rfl, rfl⟩) l5 rfl ?_
      refine g_k1 (v := 0) (pc' := 53) cd_Le_addLetter rfl (by decide) rfl ?_
      refine g_pure (pc' := 54) (st' := [.int ((nI ((L.length) * 10)) + 0), .ref 12]) cd_Le_addLetter rfl rfl (fun _ _ => rfl) ?_
      rw [show ((nI ((L.length) * 10)) + 0 : Int32) = nI (((L.length) * 10) + 0) from nI_add ((L.length) * 10) 0]
      refine g_ild (pc' := 55) cd_Le_addLetter rfl (Or.inr ⟨_, rfl, rfl, rfl⟩) l2 rfl ?_
      refine g_iast (pc' := 56) cd_Le_addLetter rfl rfl hR.1.2.2.1.1 hR.1.2.2.1.2.1 (by rw [show bm_AL (bm_setI B 13 k (nI (L.length))) 12 = 7000 from hR.1.2.2.1.2.2]; exact vp_in_nI (by omega) (by decide)) ?_
      rw [show (nI (((L.length) * 10) + 0) : Int32).toNatClampNeg = (((L.length) * 10) + 0) from nI_clamp (by omega)]
      have A9 : bm_AI (bm_setI (bm_setI B 13 k (nI (L.length))) 12 (((L.length) * 10) + 0) x) 12 = (upd (bm_AI B 12) (((L.length) * 10) + 0) x) := ((AI_set (bm_setI B 13 k (nI (L.length))) 12 (((L.length) * 10) + 0) x).trans (congrArg (fun f => upd f (((L.length) * 10) + 0) x) (show bm_AI (bm_setI B 13 k (nI (L.length))) 12 = (bm_AI B 12) from A1)))
      have A10 : bm_AI (bm_setI (bm_setI B 13 k (nI (L.length))) 12 (((L.length) * 10) + 0) x) 13 = (upd bd k (nI (L.length))) := ((AI_setn (bm_setI B 13 k (nI (L.length))) (((L.length) * 10) + 0) x 13 (by decide)).trans (show bm_AI (bm_setI B 13 k (nI (L.length))) 13 = (upd bd k (nI (L.length))) from A2))
      have A11 : bm_AI (bm_setI (bm_setI B 13 k (nI (L.length))) 12 (((L.length) * 10) + 0) x) 14 = ll := ((AI_setn (bm_setI B 13 k (nI (L.length))) (((L.length) * 10) + 0) x 14 (by decide)).trans (show bm_AI (bm_setI B 13 k (nI (L.length))) 14 = ll from A3))
      have A12 : bm_AI (bm_setI (bm_setI B 13 k (nI (L.length))) 12 (((L.length) * 10) + 0) x) 15 = tc := ((AI_setn (bm_setI B 13 k (nI (L.length))) (((L.length) * 10) + 0) x 15 (by decide)).trans (show bm_AI (bm_setI B 13 k (nI (L.length))) 15 = tc from A4))
      have A13 : bm_AI (bm_setI (bm_setI B 13 k (nI (L.length))) 12 (((L.length) * 10) + 0) x) 16 = tl := ((AI_setn (bm_setI B 13 k (nI (L.length))) (((L.length) * 10) + 0) x 16 (by decide)).trans (show bm_AI (bm_setI B 13 k (nI (L.length))) 16 = tl from A5))
      have A14 : bm_AI (bm_setI (bm_setI B 13 k (nI (L.length))) 12 (((L.length) * 10) + 0) x) 17 = tf := ((AI_setn (bm_setI B 13 k (nI (L.length))) (((L.length) * 10) + 0) x 17 (by decide)).trans (show bm_AI (bm_setI B 13 k (nI (L.length))) 17 = tf from A6))
      have A15 : bm_AI (bm_setI (bm_setI B 13 k (nI (L.length))) 12 (((L.length) * 10) + 0) x) 18 = tg := ((AI_setn (bm_setI B 13 k (nI (L.length))) (((L.length) * 10) + 0) x 18 (by decide)).trans (show bm_AI (bm_setI B 13 k (nI (L.length))) 18 = tg from A7))
      have Z16 : fz lex B (bm_setI (bm_setI B 13 k (nI (L.length))) 12 (((L.length) * 10) + 0) x) := fz_trans Z8 ⟨fr_mono (fun _ q => by unfold lex; omega) (fr_setI _ 12 _ _), rfl, rfl⟩
      refine g_ald (pc' := 57) cd_Le_addLetter rfl (Or.inr ⟨_, rfl, rfl, rfl⟩) l0 rfl rfl ?_
      refine g_fR (c := 4) (k := 0) (x := 12) (pc' := 60) cd_Le_addLetter rfl rfl rfl rfl rfl (by decide) hR.1.1.1 hR.1.1.2 hR.1.2.1.1 ?_
      refine g_ild (pc' := 62) cd_Le_addLetter rfl (Or.inl ⟨rfl, rfl⟩) l5 rfl ?_
      refine g_k1 (v := 1) (pc' := 63) cd_Le_addLetter rfl (by decide) rfl ?_
      refine g_pure (pc' := 64) (st' := [.int ((nI ((L.length) * 10)) + 1), .ref 12]) cd_Le_addLetter rfl rfl (fun _ _ => rfl) ?_
      rw [show ((nI ((L.length) * 10)) + 1 : Int32) = nI (((L.length) * 10) + 1) from nI_add ((L.length) * 10) 1]
      refine g_ild (pc' := 65) cd_Le_addLetter rfl (Or.inr ⟨_, rfl, rfl, rfl⟩) l3 rfl ?_
      refine g_iast (pc' := 66) cd_Le_addLetter rfl rfl hR.1.2.2.1.1 hR.1.2.2.1.2.1 (by rw [show bm_AL (bm_setI (bm_setI B 13 k (nI (L.length))) 12 (((L.length) * 10) + 0) x) 12 = 7000 from hR.1.2.2.1.2.2]; exact vp_in_nI (by omega) (by decide)) ?_
      rw [show (nI (((L.length) * 10) + 1) : Int32).toNatClampNeg = (((L.length) * 10) + 1) from nI_clamp (by omega)]
      have A17 : bm_AI (bm_setI (bm_setI (bm_setI B 13 k (nI (L.length))) 12 (((L.length) * 10) + 0) x) 12 (((L.length) * 10) + 1) v) 12 = (upd (upd (bm_AI B 12) (((L.length) * 10) + 0) x) (((L.length) * 10) + 1) v) := ((AI_set (bm_setI (bm_setI B 13 k (nI (L.length))) 12 (((L.length) * 10) + 0) x) 12 (((L.length) * 10) + 1) v).trans (congrArg (fun f => upd f (((L.length) * 10) + 1) v) (show bm_AI (bm_setI (bm_setI B 13 k (nI (L.length))) 12 (((L.length) * 10) + 0) x) 12 = (upd (bm_AI B 12) (((L.length) * 10) + 0) x) from A9)))
      have A18 : bm_AI (bm_setI (bm_setI (bm_setI B 13 k (nI (L.length))) 12 (((L.length) * 10) + 0) x) 12 (((L.length) * 10) + 1) v) 13 = (upd bd k (nI (L.length))) := ((AI_setn (bm_setI (bm_setI B 13 k (nI (L.length))) 12 (((L.length) * 10) + 0) x) (((L.length) * 10) + 1) v 13 (by decide)).trans (show bm_AI (bm_setI (bm_setI B 13 k (nI (L.length))) 12 (((L.length) * 10) + 0) x) 13 = (upd bd k (nI (L.length))) from A10))
      have A19 : bm_AI (bm_setI (bm_setI (bm_setI B 13 k (nI (L.length))) 12 (((L.length) * 10) + 0) x) 12 (((L.length) * 10) + 1) v) 14 = ll := ((AI_setn (bm_setI (bm_setI B 13 k (nI (L.length))) 12 (((L.length) * 10) + 0) x) (((L.length) * 10) + 1) v 14 (by decide)).trans (show bm_AI (bm_setI (bm_setI B 13 k (nI (L.length))) 12 (((L.length) * 10) + 0) x) 14 = ll from A11))
      have A20 : bm_AI (bm_setI (bm_setI (bm_setI B 13 k (nI (L.length))) 12 (((L.length) * 10) + 0) x) 12 (((L.length) * 10) + 1) v) 15 = tc := ((AI_setn (bm_setI (bm_setI B 13 k (nI (L.length))) 12 (((L.length) * 10) + 0) x) (((L.length) * 10) + 1) v 15 (by decide)).trans (show bm_AI (bm_setI (bm_setI B 13 k (nI (L.length))) 12 (((L.length) * 10) + 0) x) 15 = tc from A12))
      have A21 : bm_AI (bm_setI (bm_setI (bm_setI B 13 k (nI (L.length))) 12 (((L.length) * 10) + 0) x) 12 (((L.length) * 10) + 1) v) 16 = tl := ((AI_setn (bm_setI (bm_setI B 13 k (nI (L.length))) 12 (((L.length) * 10) + 0) x) (((L.length) * 10) + 1) v 16 (by decide)).trans (show bm_AI (bm_setI (bm_setI B 13 k (nI (L.length))) 12 (((L.length) * 10) + 0) x) 16 = tl from A13))
      have A22 : bm_AI (bm_setI (bm_setI (bm_setI B 13 k (nI (L.length))) 12 (((L.length) * 10) + 0) x) 12 (((L.length) * 10) + 1) v) 17 = tf := ((AI_setn (bm_setI (bm_setI B 13 k (nI (L.length))) 12 (((L.length) * 10) + 0) x) (((L.length) * 10) + 1) v 17 (by decide)).trans (show bm_AI (bm_setI (bm_setI B 13 k (nI (L.length))) 12 (((L.length) * 10) + 0) x) 17 = tf from A14))
      have A23 : bm_AI (bm_setI (bm_setI (bm_setI B 13 k (nI (L.length))) 12 (((L.length) * 10) + 0) x) 12 (((L.length) * 10) + 1) v) 18 = tg := ((AI_setn (bm_setI (bm_setI B 13 k (nI (L.length))) 12 (((L.length) * 10) + 0) x) (((L.length) * 10) + 1) v 18 (by decide)).trans (show bm_AI (bm_setI (bm_setI B 13 k (nI (L.length))) 12 (((L.length) * 10) + 0) x) 18 = tg from A15))
      have Z24 : fz lex B (bm_setI (bm_setI (bm_setI B 13 k (nI (L.length))) 12 (((L.length) * 10) + 0) x) 12 (((L.length) * 10) + 1) v) := fz_trans Z16 ⟨fr_mono (fun _ q => by unfold lex; omega) (fr_setI _ 12 _ _), rfl, rfl⟩
      refine g_ald (pc' := 67) cd_Le_addLetter rfl (Or.inr ⟨_, rfl, rfl, rfl⟩) l0 rfl rfl ?_
      refine g_fR (c := 4) (k := 0) (x := 12) (pc' := 70) cd_Le_addLetter rfl rfl rfl rfl rfl (by decide) hR.1.1.1 hR.1.1.2 hR.1.2.1.1 ?_
      refine g_ild (pc' := 72) cd_Le_addLetter rfl (Or.inl ⟨rfl, rfl⟩) l5 rfl ?_
      refine g_k1 (v := 4) (pc' := 73) cd_Le_addLetter rfl (by decide) rfl ?_
      refine g_pure (pc' := 74) (st' := [.int ((nI ((L.length) * 10)) + 4), .ref 12]) cd_Le_addLetter rfl rfl (fun _ _ => rfl) ?_
      rw [show ((nI ((L.length) * 10)) + 4 : Int32) = nI (((L.length) * 10) + 4) from nI_add ((L.length) * 10) 4]
      refine g_ild (pc' := 76) cd_Le_addLetter rfl (Or.inl ⟨rfl, rfl⟩) l4 rfl ?_
      refine g_iast (pc' := 77) cd_Le_addLetter rfl rfl hR.1.2.2.1.1 hR.1.2.2.1.2.1 (by rw [show bm_AL (bm_setI (bm_setI (bm_setI B 13 k (nI (L.length))) 12 (((L.length) * 10) + 0) x) 12 (((L.length) * 10) + 1) v) 12 = 7000 from hR.1.2.2.1.2.2]; exact vp_in_nI (by omega) (by decide)) ?_
      rw [show (nI (((L.length) * 10) + 4) : Int32).toNatClampNeg = (((L.length) * 10) + 4) from nI_clamp (by omega)]
      have A25 : bm_AI (bm_setI (bm_setI (bm_setI (bm_setI B 13 k (nI (L.length))) 12 (((L.length) * 10) + 0) x) 12 (((L.length) * 10) + 1) v) 12 (((L.length) * 10) + 4) m) 12 = (upd (upd (upd (bm_AI B 12) (((L.length) * 10) + 0) x) (((L.length) * 10) + 1) v) (((L.length) * 10) + 4) m) := ((AI_set (bm_setI (bm_setI (bm_setI B 13 k (nI (L.length))) 12 (((L.length) * 10) + 0) x) 12 (((L.length) * 10) + 1) v) 12 (((L.length) * 10) + 4) m).trans (congrArg (fun f => upd f (((L.length) * 10) + 4) m) (show bm_AI (bm_setI (bm_setI (bm_setI B 13 k (nI (L.length))) 12 (((L.length) * 10) + 0) x) 12 (((L.length) * 10) + 1) v) 12 = (upd (upd (bm_AI B 12) (((L.length) * 10) + 0) x) (((L.length) * 10) + 1) v) from A17)))
      have A26 : bm_AI (bm_setI (bm_setI (bm_setI (bm_setI B 13 k (nI (L.length))) 12 (((L.length) * 10) + 0) x) 12 (((L.length) * 10) + 1) v) 12 (((L.length) * 10) + 4) m) 13 = (upd bd k (nI (L.length))) := ((AI_setn (bm_setI (bm_setI (bm_setI B 13 k (nI (L.length))) 12 (((L.length) * 10) + 0) x) 12 (((L.length) * 10) + 1) v) (((L.length) * 10) + 4) m 13 (by decide)).trans (show bm_AI (bm_setI (bm_setI (bm_setI B 13 k (nI (L.length))) 12 (((L.length) * 10) + 0) x) 12 (((L.length) * 10) + 1) v) 13 = (upd bd k (nI (L.length))) from A18))
      have A27 : bm_AI (bm_setI (bm_setI (bm_setI (bm_setI B 13 k (nI (L.length))) 12 (((L.length) * 10) + 0) x) 12 (((L.length) * 10) + 1) v) 12 (((L.length) * 10) + 4) m) 14 = ll := ((AI_setn (bm_setI (bm_setI (bm_setI B 13 k (nI (L.length))) 12 (((L.length) * 10) + 0) x) 12 (((L.length) * 10) + 1) v) (((L.length) * 10) + 4) m 14 (by decide)).trans (show bm_AI (bm_setI (bm_setI (bm_setI B 13 k (nI (L.length))) 12 (((L.length) * 10) + 0) x) 12 (((L.length) * 10) + 1) v) 14 = ll from A19))
      have A28 : bm_AI (bm_setI (bm_setI (bm_setI (bm_setI B 13 k (nI (L.length))) 12 (((L.length) * 10) + 0) x) 12 (((L.length) * 10) + 1) v) 12 (((L.length) * 10) + 4) m) 15 = tc := ((AI_setn (bm_setI (bm_setI (bm_setI B 13 k (nI (L.length))) 12 (((L.length) * 10) + 0) x) 12 (((L.length) * 10) + 1) v) (((L.length) * 10) + 4) m 15 (by decide)).trans (show bm_AI (bm_setI (bm_setI (bm_setI B 13 k (nI (L.length))) 12 (((L.length) * 10) + 0) x) 12 (((L.length) * 10) + 1) v) 15 = tc from A20))
      have A29 : bm_AI (bm_setI (bm_setI (bm_setI (bm_setI B 13 k (nI (L.length))) 12 (((L.length) * 10) + 0) x) 12 (((L.length) * 10) + 1) v) 12 (((L.length) * 10) + 4) m) 16 = tl := ((AI_setn (bm_setI (bm_setI (bm_setI B 13 k (nI (L.length))) 12 (((L.length) * 10) + 0) x) 12 (((L.length) * 10) + 1) v) (((L.length) * 10) + 4) m 16 (by decide)).trans (show bm_AI (bm_setI (bm_setI (bm_setI B 13 k (nI (L.length))) 12 (((L.length) * 10) + 0) x) 12 (((L.length) * 10) + 1) v) 16 = tl from A21))
      have A30 : bm_AI (bm_setI (bm_setI (bm_setI (bm_setI B 13 k (nI (L.length))) 12 (((L.length) * 10) + 0) x) 12 (((L.length) * 10) + 1) v) 12 (((L.length) * 10) + 4) m) 17 = tf := ((AI_setn (bm_setI (bm_setI (bm_setI B 13 k (nI (L.length))) 12 (((L.length) * 10) + 0) x) 12 (((L.length) * 10) + 1) v) (((L.length) * 10) + 4) m 17 (by decide)).trans (show bm_AI (bm_setI (bm_setI (bm_setI B 13 k (nI (L.length))) 12 (((L.length) * 10) + 0) x) 12 (((L.length) * 10) + 1) v) 17 = tf from A22))
      have A31 : bm_AI (bm_setI (bm_setI (bm_setI (bm_setI B 13 k (nI (L.length))) 12 (((L.length) * 10) + 0) x) 12 (((L.length) * 10) + 1) v) 12 (((L.length) * 10) + 4) m) 18 = tg := ((AI_setn (bm_setI (bm_setI (bm_setI B 13 k (nI (L.length))) 12 (((L.length) * 10) + 0) x) 12 (((L.length) * 10) + 1) v) (((L.length) * 10) + 4) m 18 (by decide)).trans (show bm_AI (bm_setI (bm_setI (bm_setI B 13 k (nI (L.length))) 12 (((L.length) * 10) + 0) x) 12 (((L.length) * 10) + 1) v) 18 = tg from A23))
      have Z32 : fz lex B (bm_setI (bm_setI (bm_setI (bm_setI B 13 k (nI (L.length))) 12 (((L.length) * 10) + 0) x) 12 (((L.length) * 10) + 1) v) 12 (((L.length) * 10) + 4) m) := fz_trans Z24 ⟨fr_mono (fun _ q => by unfold lex; omega) (fr_setI _ 12 _ _), rfl, rfl⟩
      refine g_ald (pc' := 78) cd_Le_addLetter rfl (Or.inr ⟨_, rfl, rfl, rfl⟩) l0 rfl rfl ?_
      refine g_ald (pc' := 79) cd_Le_addLetter rfl (Or.inr ⟨_, rfl, rfl, rfl⟩) l0 rfl rfl ?_
      refine g_fI (c := 4) (k := 11) (x := nI (L.length)) (pc' := 82) cd_Le_addLetter rfl rfl rfl rfl rfl (by decide) hR.1.1.1 hR.1.1.2 hR.2.1.1.1 ?_
      refine g_k1 (v := 1) (pc' := 83) cd_Le_addLetter rfl (by decide) rfl ?_
      refine g_pure (pc' := 84) (st' := [.int ((nI (L.length)) + 1), .ref 11]) cd_Le_addLetter rfl rfl (fun _ _ => rfl) ?_
      rw [show ((nI (L.length)) + 1 : Int32) = nI ((L.length) + 1) from nI_add (L.length) 1]
      refine g_k3 (v := 700) (pc' := 87) cd_Le_addLetter rfl (by decide) rfl ?_
      refine g_min (pc' := 90) cd_Le_addLetter rfl rfl rfl rfl ?_
      rw [show (if (700 : Int32) < nI ((L.length) + 1) then (700 : Int32) else nI ((L.length) + 1)) = nI (L.length + 1) from (nI_min (a := ((L.length) + 1)) (b := 700) (by omega) (by decide)).trans (congrArg nI (by omega))]
      refine g_putI (c := 4) (k := 11) (pc' := 93) cd_Le_addLetter rfl rfl rfl rfl (by simp [tm_okV, narrow, fits]) (Or.inl rfl) rfl (by decide) hR.1.1.1 hR.1.1.2 ?_
      have P33 : bm_FI (bm_putI (bm_setI (bm_setI (bm_setI (bm_setI B 13 k (nI (L.length))) 12 (((L.length) * 10) + 0) x) 12 (((L.length) * 10) + 1) v) 12 (((L.length) * 10) + 4) m) 4 11 11 (nI (L.length + 1))) 4 11 11 = nI (L.length + 1) := rfl
      have Z34 : fz lex B (bm_putI (bm_setI (bm_setI (bm_setI (bm_setI B 13 k (nI (L.length))) 12 (((L.length) * 10) + 0) x) 12 (((L.length) * 10) + 1) v) 12 (((L.length) * 10) + 4) m) 4 11 11 (nI (L.length + 1))) := fz_trans Z32 ⟨fr_mono (fun _ q => by unfold lex; omega) (fr_putI _ 4 11 11 _), rfl, rfl⟩
      refine g_ild (pc' := 95) cd_Le_addLetter rfl (Or.inl ⟨rfl, rfl⟩) l5 rfl ?_
      exact g_reti cd_Le_addLetter rfl ⟨_, rfl, (kk _ Z34 P33 A25 A26 ⟨A27, A28, A29, A30, A31⟩ ⟨hR.2.1.2.2.1.1, hR.2.1.2.2.1.2.1, tvq rfl hR.2.1.2.2.1.2.2.1, hR.2.1.2.2.1.2.2.2, hR.2.1.2.2.2.1, hR.2.1.2.2.2.2.1, hR.2.1.2.2.2.2.2⟩)⟩
theorem t_addSent0 {sc : tm_X} {d : Nat} {ca rm dr : Nat} {B : bm_H} {T : List Tm} {L : List LT} {bd ll tc tl tf tg : Nat → Int32} {cf cg : Int32} {ct : Tm} {co : Bool} {li fo db : Int32} {s : Nat} {I : IB} {xb xr xm xs : Tm} {n b : Int32} {br : Bool} {bp bo : Tm}  {x v u : Int32} {A : Tm} {k : Nat} {Q : Int32 → bm_H → Prop} (hT : TI B 1 ca 3 4 rm dr T) (hca : ca = 2 ∨ 1482 ≤ ca) (hR : RLe B T (L, bd, ll, tc, tl, tf, tg, cf, cg, ct, co, li, fo, db)) (hL : L.length < 700) (hx : tv T x A) (hm : mk A = nI k) (hk : k < 3000) (hS : RSe B T s (I, xb, xr, xm, xs, n, b, br, bp, bo, false)) (hs : 18 < s) (hs2 : s + 2 < 1482) (kk : ∀ B', RLe B' T (L ++ [(A, v, u, (-1 : Int32), ((1 <<< (v &&& 31)) ||| (1 <<< (u &&& 31))), (0 : Int32), xm, pt I.1 0, (0 : Int32), (0 : Int32))], upd bd k (nI L.length), ll, tc, tl, tf, tg, cf, cg, ct, co, li, fo, db) → fz lex B B' → Q (nI L.length) B') : bm_Gi sc (d + 2) 91 [.ref 11, .ref 1, .int x, .int v, .int u, .ref s] B Q := by
  show bm_G sc (d + 2) 91 0 [(0, .ref 11), (1, .ref 1), (2, .int x), (3, .int v), (4, .int u), (5, .ref s)] [] B _
  generalize elv : ([(0, .ref 11), (1, .ref 1), (2, .int x), (3, .int v), (4, .int u), (5, .ref s)] : tm_L) = lv
  have l0 : lv.lookup 0 = some (.ref 11) := by rw [← elv]; rfl
  have l1 : lv.lookup 1 = some (.ref 1) := by rw [← elv]; rfl
  have l2 : lv.lookup 2 = some (.int x) := by rw [← elv]; rfl
  have l3 : lv.lookup 3 = some (.int v) := by rw [← elv]; rfl
  have l4 : lv.lookup 4 = some (.int u) := by rw [← elv]; rfl
  have l5 : lv.lookup 5 = some (.ref s) := by rw [← elv]; rfl
  clear elv
  refine g_ald (pc' := 1) cd_Le_addSent rfl (Or.inr ⟨_, rfl, rfl, rfl⟩) l0 rfl rfl ?_
  refine g_ald (pc' := 2) cd_Le_addSent rfl (Or.inr ⟨_, rfl, rfl, rfl⟩) l1 rfl rfl ?_
  refine g_ild (pc' := 3) cd_Le_addSent rfl (Or.inr ⟨_, rfl, rfl, rfl⟩) l2 rfl ?_
  refine g_ild (pc' := 4) cd_Le_addSent rfl (Or.inr ⟨_, rfl, rfl, rfl⟩) l3 rfl ?_
  refine g_k1 (v := 1) (pc' := 5) cd_Le_addSent rfl (by decide) rfl ?_
  refine g_ild (pc' := 6) cd_Le_addSent rfl (Or.inr ⟨_, rfl, rfl, rfl⟩) l3 rfl ?_
  refine g_pure (pc' := 7) (st' := [.int (1 <<< (v &&& 31)), .int v, .int x, .ref 1, .ref 11]) cd_Le_addSent rfl rfl (fun _ _ => rfl) ?_
  refine g_k1 (v := 1) (pc' := 8) cd_Le_addSent rfl (by decide) rfl ?_
  refine g_ild (pc' := 10) cd_Le_addSent rfl (Or.inl ⟨rfl, rfl⟩) l4 rfl ?_
  refine g_pure (pc' := 11) (st' := [.int (1 <<< (u &&& 31)), .int (1 <<< (v &&& 31)), .int v, .int x, .ref 1, .ref 11]) cd_Le_addSent rfl rfl (fun _ _ => rfl) ?_
  refine g_pure (pc' := 12) (st' := [.int ((1 <<< (v &&& 31)) ||| (1 <<< (u &&& 31))), .int v, .int x, .ref 1, .ref 11]) cd_Le_addSent rfl rfl (fun _ _ => rfl) ?_
  refine g_calli (pc' := 15) cd_Le_addSent rfl rfl rfl rfl rfl (tm_invV rfl rfl cd_Le_addLetter rfl (Nat.le_of_ble_eq_true rfl) (by decide) hR.1.1.1 hR.1.1.2) (t_addLetter hT hca hR hL hx hm hk (fun B1 hz1 e11 e12 e13 ea ef => ?_))
  have hq : ∀ y, 18 < y → ¬ lex y := fun y h q => by unfold lex at q; omega
  have hS2 := RSe_fr hS hz1.1 (hq _ (by omega)) (hq _ (by omega)) (hq _ (by omega)) (List.prefix_refl T)
  have hS1 := LgS_fr hR.1 hz1.1
  have hT1 := TI_lex hT hca hz1.1 lex_in
  show bm_G _ _ _ 15 _ [.int (nI (L.length * 10))] B1 _
  refine g_ist (pc' := 17) cd_Le_addSent rfl (Or.inl ⟨rfl, rfl⟩) (by decide) rfl (fun lv el => ?_)
  have l0 := tm_lk el l0 rfl (by decide)
  have l1 := tm_lk el l1 rfl (by decide)
  have l2 := tm_lk el l2 rfl (by decide)
  have l3 := tm_lk el l3 rfl (by decide)
  have l4 := tm_lk el l4 rfl (by decide)
  have l5 := tm_lk el l5 rfl (by decide)
  have l6 : lv.lookup 6 = some (.int (nI (L.length * 10))) := tm_lks el
  clear el
  refine g_ald (pc' := 18) cd_Le_addSent rfl (Or.inr ⟨_, rfl, rfl, rfl⟩) l0 rfl rfl ?_
  refine g_fR (c := 4) (k := 0) (x := 12) (pc' := 21) cd_Le_addSent rfl rfl rfl rfl rfl (by decide) hS1.1.1 hS1.1.2 hS1.2.1.1 ?_
  refine g_ild (pc' := 23) cd_Le_addSent rfl (Or.inl ⟨rfl, rfl⟩) l6 rfl ?_
  refine g_k1 (v := 2) (pc' := 24) cd_Le_addSent rfl (by decide) rfl ?_
  refine g_pure (pc' := 25) (st' := [.int ((nI (L.length * 10)) + 2), .ref 12]) cd_Le_addSent rfl rfl (fun _ _ => rfl) ?_
  rw [show ((nI (L.length * 10)) + 2 : Int32) = nI ((L.length * 10) + 2) from nI_add (L.length * 10) 2]
  refine g_ild (pc' := 27) cd_Le_addSent rfl (Or.inl ⟨rfl, rfl⟩) l4 rfl ?_
  refine g_iast (pc' := 28) cd_Le_addSent rfl rfl hS1.2.2.1.1 hS1.2.2.1.2.1 (by rw [show bm_AL B1 12 = 7000 from hS1.2.2.1.2.2]; exact vp_in_nI (by omega) (by decide)) ?_
  rw [show (nI ((L.length * 10) + 2) : Int32).toNatClampNeg = ((L.length * 10) + 2) from nI_clamp (by omega)]
  have A35 : bm_AI (bm_setI B1 12 ((L.length * 10) + 2) u) 12 = (upd (upd (upd (upd (bm_AI B 12) (L.length * 10 + 0) x) (L.length * 10 + 1) v) (L.length * 10 + 4) ((1 <<< (v &&& 31)) ||| (1 <<< (u &&& 31)))) ((L.length * 10) + 2) u) := ((AI_set B1 12 ((L.length * 10) + 2) u).trans (congrArg (fun f => upd f ((L.length * 10) + 2) u) (show bm_AI B1 12 = (upd (upd (upd (bm_AI B 12) (L.length * 10 + 0) x) (L.length * 10 + 1) v) (L.length * 10 + 4) ((1 <<< (v &&& 31)) ||| (1 <<< (u &&& 31)))) from e12)))
  have A36 : bm_AI (bm_setI B1 12 ((L.length * 10) + 2) u) 13 = (upd bd k (nI L.length)) := ((AI_setn B1 ((L.length * 10) + 2) u 13 (by decide)).trans (show bm_AI B1 13 = (upd bd k (nI L.length)) from e13))
  have A37 : bm_AI (bm_setI B1 12 ((L.length * 10) + 2) u) 14 = ll := ((AI_setn B1 ((L.length * 10) + 2) u 14 (by decide)).trans (show bm_AI B1 14 = ll from ea.1))
  have A38 : bm_AI (bm_setI B1 12 ((L.length * 10) + 2) u) 15 = tc := ((AI_setn B1 ((L.length * 10) + 2) u 15 (by decide)).trans (show bm_AI B1 15 = tc from ea.2.1))
  have A39 : bm_AI (bm_setI B1 12 ((L.length * 10) + 2) u) 16 = tl := ((AI_setn B1 ((L.length * 10) + 2) u 16 (by decide)).trans (show bm_AI B1 16 = tl from ea.2.2.1))
  have A40 : bm_AI (bm_setI B1 12 ((L.length * 10) + 2) u) 17 = tf := ((AI_setn B1 ((L.length * 10) + 2) u 17 (by decide)).trans (show bm_AI B1 17 = tf from ea.2.2.2.1))
  have A41 : bm_AI (bm_setI B1 12 ((L.length * 10) + 2) u) 18 = tg := ((AI_setn B1 ((L.length * 10) + 2) u 18 (by decide)).trans (show bm_AI B1 18 = tg from ea.2.2.2.2))
  have Z42 : fz lex B1 (bm_setI B1 12 ((L.length * 10) + 2) u) := fz_trans (fz_rfl _ B1) ⟨fr_mono (fun _ q => by unfold lex; omega) (fr_setI _ 12 _ _), rfl, rfl⟩
  refine g_ald (pc' := 29) cd_Le_addSent rfl (Or.inr ⟨_, rfl, rfl, rfl⟩) l0 rfl rfl ?_
  refine g_fR (c := 4) (k := 0) (x := 12) (pc' := 32) cd_Le_addSent rfl rfl rfl rfl rfl (by decide) hS1.1.1 hS1.1.2 hS1.2.1.1 ?_
  refine g_ild (pc' := 34) cd_Le_addSent rfl (Or.inl ⟨rfl, rfl⟩) l6 rfl ?_
  refine g_k1 (v := 3) (pc' := 35) cd_Le_addSent rfl (by decide) rfl ?_
  refine g_pure (pc' := 36) (st' := [.int ((nI (L.length * 10)) + 3), .ref 12]) cd_Le_addSent rfl rfl (fun _ _ => rfl) ?_
  rw [show ((nI (L.length * 10)) + 3 : Int32) = nI ((L.length * 10) + 3) from nI_add (L.length * 10) 3]
  refine g_k1 (v := (-1)) (pc' := 37) cd_Le_addSent rfl (by decide) rfl ?_
  refine g_iast (pc' := 38) cd_Le_addSent rfl rfl hS1.2.2.1.1 hS1.2.2.1.2.1 (by rw [show bm_AL (bm_setI B1 12 ((L.length * 10) + 2) u) 12 = 7000 from hS1.2.2.1.2.2]; exact vp_in_nI (by omega) (by decide)) ?_
  rw [show (nI ((L.length * 10) + 3) : Int32).toNatClampNeg = ((L.length * 10) + 3) from nI_clamp (by omega)]
  have A43 : bm_AI (bm_setI (bm_setI B1 12 ((L.length * 10) + 2) u) 12 ((L.length * 10) + 3) (-1)) 12 = (upd (upd (upd (upd (upd (bm_AI B 12) (L.length * 10 + 0) x) (L.length * 10 + 1) v) (L.length * 10 + 4) ((1 <<< (v &&& 31)) ||| (1 <<< (u &&& 31)))) ((L.length * 10) + 2) u) ((L.length * 10) + 3) (-1)) := ((AI_set (bm_setI B1 12 ((L.length * 10) + 2) u) 12 ((L.length * 10) + 3) (-1)).trans (congrArg (fun f => upd f ((L.length * 10) + 3) (-1)) (show bm_AI (bm_setI B1 12 ((L.length * 10) + 2) u) 12 = (upd (upd (upd (upd (bm_AI B 12) (L.length * 10 + 0) x) (L.length * 10 + 1) v) (L.length * 10 + 4) ((1 <<< (v &&& 31)) ||| (1 <<< (u &&& 31)))) ((L.length * 10) + 2) u) from A35)))
  have A44 : bm_AI (bm_setI (bm_setI B1 12 ((L.length * 10) + 2) u) 12 ((L.length * 10) + 3) (-1)) 13 = (upd bd k (nI L.length)) := ((AI_setn (bm_setI B1 12 ((L.length * 10) + 2) u) ((L.length * 10) + 3) (-1) 13 (by decide)).trans (show bm_AI (bm_setI B1 12 ((L.length * 10) + 2) u) 13 = (upd bd k (nI L.length)) from A36))
  have A45 : bm_AI (bm_setI (bm_setI B1 12 ((L.length * 10) + 2) u) 12 ((L.length * 10) + 3) (-1)) 14 = ll := ((AI_setn (bm_setI B1 12 ((L.length * 10) + 2) u) ((L.length * 10) + 3) (-1) 14 (by decide)).trans (show bm_AI (bm_setI B1 12 ((L.length * 10) + 2) u) 14 = ll from A37))
  have A46 : bm_AI (bm_setI (bm_setI B1 12 ((L.length * 10) + 2) u) 12 ((L.length * 10) + 3) (-1)) 15 = tc := ((AI_setn (bm_setI B1 12 ((L.length * 10) + 2) u) ((L.length * 10) + 3) (-1) 15 (by decide)).trans (show bm_AI (bm_setI B1 12 ((L.length * 10) + 2) u) 15 = tc from A38))
  have A47 : bm_AI (bm_setI (bm_setI B1 12 ((L.length * 10) + 2) u) 12 ((L.length * 10) + 3) (-1)) 16 = tl := ((AI_setn (bm_setI B1 12 ((L.length * 10) + 2) u) ((L.length * 10) + 3) (-1) 16 (by decide)).trans (show bm_AI (bm_setI B1 12 ((L.length * 10) + 2) u) 16 = tl from A39))
  have A48 : bm_AI (bm_setI (bm_setI B1 12 ((L.length * 10) + 2) u) 12 ((L.length * 10) + 3) (-1)) 17 = tf := ((AI_setn (bm_setI B1 12 ((L.length * 10) + 2) u) ((L.length * 10) + 3) (-1) 17 (by decide)).trans (show bm_AI (bm_setI B1 12 ((L.length * 10) + 2) u) 17 = tf from A40))
  have A49 : bm_AI (bm_setI (bm_setI B1 12 ((L.length * 10) + 2) u) 12 ((L.length * 10) + 3) (-1)) 18 = tg := ((AI_setn (bm_setI B1 12 ((L.length * 10) + 2) u) ((L.length * 10) + 3) (-1) 18 (by decide)).trans (show bm_AI (bm_setI B1 12 ((L.length * 10) + 2) u) 18 = tg from A41))
  have Z50 : fz lex B1 (bm_setI (bm_setI B1 12 ((L.length * 10) + 2) u) 12 ((L.length * 10) + 3) (-1)) := fz_trans Z42 ⟨fr_mono (fun _ q => by unfold lex; omega) (fr_setI _ 12 _ _), rfl, rfl⟩
  refine g_ald (pc' := 39) cd_Le_addSent rfl (Or.inr ⟨_, rfl, rfl, rfl⟩) l0 rfl rfl ?_
  refine g_fR (c := 4) (k := 0) (x := 12) (pc' := 42) cd_Le_addSent rfl rfl rfl rfl rfl (by decide) hS1.1.1 hS1.1.2 hS1.2.1.1 ?_
  refine g_ild (pc' := 44) cd_Le_addSent rfl (Or.inl ⟨rfl, rfl⟩) l6 rfl ?_
  refine g_k1 (v := 5) (pc' := 45) cd_Le_addSent rfl (by decide) rfl ?_
  refine g_pure (pc' := 46) (st' := [.int ((nI (L.length * 10)) + 5), .ref 12]) cd_Le_addSent rfl rfl (fun _ _ => rfl) ?_
  rw [show ((nI (L.length * 10)) + 5 : Int32) = nI ((L.length * 10) + 5) from nI_add (L.length * 10) 5]
  refine g_ald (pc' := 48) cd_Le_addSent rfl (Or.inl ⟨rfl, rfl⟩) l5 rfl rfl ?_
  refine g_fI (c := 7) (k := 10) (x := bz false) (pc' := 51) cd_Le_addSent rfl rfl rfl rfl rfl (by decide) hS2.1.1.1 hS2.1.1.2 hS2.2.2.2.2.2 ?_
  refine g_if1 (t := 58) (pc' := 54) cd_Le_addSent rfl rfl rfl (fun c51 => ?_) (fun c51 => ?_)
  · have c51 : false = false := bz_f c51
    refine g_k1 (v := 0) (pc' := 59) cd_Le_addSent rfl (by decide) rfl ?_
    refine g_iast (pc' := 60) cd_Le_addSent rfl rfl hS1.2.2.1.1 hS1.2.2.1.2.1 (by rw [show bm_AL (bm_setI (bm_setI B1 12 ((L.length * 10) + 2) u) 12 ((L.length * 10) + 3) (-1)) 12 = 7000 from hS1.2.2.1.2.2]; exact vp_in_nI (by omega) (by decide)) ?_
    rw [show (nI ((L.length * 10) + 5) : Int32).toNatClampNeg = ((L.length * 10) + 5) from nI_clamp (by omega)]
    have A51 : bm_AI (bm_setI (bm_setI (bm_setI B1 12 ((L.length * 10) + 2) u) 12 ((L.length * 10) + 3) (-1)) 12 ((L.length * 10) + 5) 0) 12 = (upd (upd (upd (upd (upd (upd (bm_AI B 12) (L.length * 10 + 0) x) (L.length * 10 + 1) v) (L.length * 10 + 4) ((1 <<< (v &&& 31)) ||| (1 <<< (u &&& 31)))) ((L.length * 10) + 2) u) ((L.length * 10) + 3) (-1)) ((L.length * 10) + 5) 0) := ((AI_set (bm_setI (bm_setI B1 12 ((L.length * 10) + 2) u) 12 ((L.length * 10) + 3) (-1)) 12 ((L.length * 10) + 5) 0).trans (congrArg (fun f => upd f ((L.length * 10) + 5) 0) (show bm_AI (bm_setI (bm_setI B1 12 ((L.length * 10) + 2) u) 12 ((L.length * 10) + 3) (-1)) 12 = (upd (upd (upd (upd (upd (bm_AI B 12) (L.length * 10 + 0) x) (L.length * 10 + 1) v) (L.length * 10 + 4) ((1 <<< (v &&& 31)) ||| (1 <<< (u &&& 31)))) ((L.length * 10) + 2) u) ((L.length * 10) + 3) (-1)) from A43)))
    have A52 : bm_AI (bm_setI (bm_setI (bm_setI B1 12 ((L.length * 10) + 2) u) 12 ((L.length * 10) + 3) (-1)) 12 ((L.length * 10) + 5) 0) 13 = (upd bd k (nI L.length)) := ((AI_setn (bm_setI (bm_setI B1 12 ((L.length * 10) + 2) u) 12 ((L.length * 10) + 3) (-1)) ((L.length * 10) + 5) 0 13 (by decide)).trans (show bm_AI (bm_setI (bm_setI B1 12 ((L.length * 10) + 2) u) 12 ((L.length * 10) + 3) (-1)) 13 = (upd bd k (nI L.length)) from A44))
    have A53 : bm_AI (bm_setI (bm_setI (bm_setI B1 12 ((L.length * 10) + 2) u) 12 ((L.length * 10) + 3) (-1)) 12 ((L.length * 10) + 5) 0) 14 = ll := ((AI_setn (bm_setI (bm_setI B1 12 ((L.length * 10) + 2) u) 12 ((L.length * 10) + 3) (-1)) ((L.length * 10) + 5) 0 14 (by decide)).trans (show bm_AI (bm_setI (bm_setI B1 12 ((L.length * 10) + 2) u) 12 ((L.length * 10) + 3) (-1)) 14 = ll from A45))
    have A54 : bm_AI (bm_setI (bm_setI (bm_setI B1 12 ((L.length * 10) + 2) u) 12 ((L.length * 10) + 3) (-1)) 12 ((L.length * 10) + 5) 0) 15 = tc := ((AI_setn (bm_setI (bm_setI B1 12 ((L.length * 10) + 2) u) 12 ((L.length * 10) + 3) (-1)) ((L.length * 10) + 5) 0 15 (by decide)).trans (show bm_AI (bm_setI (bm_setI B1 12 ((L.length * 10) + 2) u) 12 ((L.length * 10) + 3) (-1)) 15 = tc from A46))
    have A55 : bm_AI (bm_setI (bm_setI (bm_setI B1 12 ((L.length * 10) + 2) u) 12 ((L.length * 10) + 3) (-1)) 12 ((L.length * 10) + 5) 0) 16 = tl := ((AI_setn (bm_setI (bm_setI B1 12 ((L.length * 10) + 2) u) 12 ((L.length * 10) + 3) (-1)) ((L.length * 10) + 5) 0 16 (by decide)).trans (show bm_AI (bm_setI (bm_setI B1 12 ((L.length * 10) + 2) u) 12 ((L.length * 10) + 3) (-1)) 16 = tl from A47))
    have A56 : bm_AI (bm_setI (bm_setI (bm_setI B1 12 ((L.length * 10) + 2) u) 12 ((L.length * 10) + 3) (-1)) 12 ((L.length * 10) + 5) 0) 17 = tf := ((AI_setn (bm_setI (bm_setI B1 12 ((L.length * 10) + 2) u) 12 ((L.length * 10) + 3) (-1)) ((L.length * 10) + 5) 0 17 (by decide)).trans (show bm_AI (bm_setI (bm_setI B1 12 ((L.length * 10) + 2) u) 12 ((L.length * 10) + 3) (-1)) 17 = tf from A48))
    have A57 : bm_AI (bm_setI (bm_setI (bm_setI B1 12 ((L.length * 10) + 2) u) 12 ((L.length * 10) + 3) (-1)) 12 ((L.length * 10) + 5) 0) 18 = tg := ((AI_setn (bm_setI (bm_setI B1 12 ((L.length * 10) + 2) u) 12 ((L.length * 10) + 3) (-1)) ((L.length * 10) + 5) 0 18 (by decide)).trans (show bm_AI (bm_setI (bm_setI B1 12 ((L.length * 10) + 2) u) 12 ((L.length * 10) + 3) (-1)) 18 = tg from A49))
    have Z58 : fz lex B1 (bm_setI (bm_setI (bm_setI B1 12 ((L.length * 10) + 2) u) 12 ((L.length * 10) + 3) (-1)) 12 ((L.length * 10) + 5) 0) := fz_trans Z50 ⟨fr_mono (fun _ q => by unfold lex; omega) (fr_setI _ 12 _ _), rfl, rfl⟩
    refine g_ald (pc' := 61) cd_Le_addSent rfl (Or.inr ⟨_, rfl, rfl, rfl⟩) l0 rfl rfl ?_
    refine g_fR (c := 4) (k := 0) (x := 12) (pc' := 64) cd_Le_addSent rfl rfl rfl rfl rfl (by decide) hS1.1.1 hS1.1.2 hS1.2.1.1 ?_
    refine g_ild (pc' := 66) cd_Le_addSent rfl (Or.inl ⟨rfl, rfl⟩) l6 rfl ?_
    refine g_k2 (v := 6) (pc' := 68) cd_Le_addSent rfl (by decide) rfl ?_
    refine g_pure (pc' := 69) (st' := [.int ((nI (L.length * 10)) + 6), .ref 12]) cd_Le_addSent rfl rfl (fun _ _ => rfl) ?_
    rw [show ((nI (L.length * 10)) + 6 : Int32) = nI ((L.length * 10) + 6) from nI_add (L.length * 10) 6]
    refine g_ald (pc' := 71) cd_Le_addSent rfl (Or.inl ⟨rfl, rfl⟩) l5 rfl rfl ?_
    refine g_fI (c := 7) (k := 3) (x := (bm_FI B1 7 3 s)) (pc' := 74) cd_Le_addSent rfl rfl rfl rfl rfl (by decide) hS2.1.1.1 hS2.1.1.2 rfl ?_
    refine g_iast (pc' := 75) cd_Le_addSent rfl rfl hS1.2.2.1.1 hS1.2.2.1.2.1 (by rw [show bm_AL (bm_setI (bm_setI (bm_setI B1 12 ((L.length * 10) + 2) u) 12 ((L.length * 10) + 3) (-1)) 12 ((L.length * 10) + 5) 0) 12 = 7000 from hS1.2.2.1.2.2]; exact vp_in_nI (by omega) (by decide)) ?_
    rw [show (nI ((L.length * 10) + 6) : Int32).toNatClampNeg = ((L.length * 10) + 6) from nI_clamp (by omega)]
    have A59 : bm_AI (bm_setI (bm_setI (bm_setI (bm_setI B1 12 ((L.length * 10) + 2) u) 12 ((L.length * 10) + 3) (-1)) 12 ((L.length * 10) + 5) 0) 12 ((L.length * 10) + 6) (bm_FI B1 7 3 s)) 12 = (upd (upd (upd (upd (upd (upd (upd (bm_AI B 12) (L.length * 10 + 0) x) (L.length * 10 + 1) v) (L.length * 10 + 4) ((1 <<< (v &&& 31)) ||| (1 <<< (u &&& 31)))) ((L.length * 10) + 2) u) ((L.length * 10) + 3) (-1)) ((L.length * 10) + 5) 0) ((L.length * 10) + 6) (bm_FI B1 7 3 s)) := ((AI_set (bm_setI (bm_setI (bm_setI B1 12 ((L.length * 10) + 2) u) 12 ((L.length * 10) + 3) (-1)) 12 ((L.length * 10) + 5) 0) 12 ((L.length * 10) + 6) (bm_FI B1 7 3 s)).trans (congrArg (fun f => upd f ((L.length * 10) + 6) (bm_FI B1 7 3 s)) (show bm_AI (bm_setI (bm_setI (bm_setI B1 12 ((L.length * 10) + 2) u) 12 ((L.length * 10) + 3) (-1)) 12 ((L.length * 10) + 5) 0) 12 = (upd (upd (upd (upd (upd (upd (bm_AI B 12) (L.length * 10 + 0) x) (L.length * 10 + 1) v) (L.length * 10 + 4) ((1 <<< (v &&& 31)) ||| (1 <<< (u &&& 31)))) ((L.length * 10) + 2) u) ((L.length * 10) + 3) (-1)) ((L.length * 10) + 5) 0) from A51)))
    have A60 : bm_AI (bm_setI (bm_setI (bm_setI (bm_setI B1 12 ((L.length * 10) + 2) u) 12 ((L.length * 10) + 3) (-1)) 12 ((L.length * 10) + 5) 0) 12 ((L.length * 10) + 6) (bm_FI B1 7 3 s)) 13 = (upd bd k (nI L.length)) := ((AI_setn (bm_setI (bm_setI (bm_setI B1 12 ((L.length * 10) + 2) u) 12 ((L.length * 10) + 3) (-1)) 12 ((L.length * 10) + 5) 0) ((L.length * 10) + 6) (bm_FI B1 7 3 s) 13 (by decide)).trans (show bm_AI (bm_setI (bm_setI (bm_setI B1 12 ((L.length * 10) + 2) u) 12 ((L.length * 10) + 3) (-1)) 12 ((L.length * 10) + 5) 0) 13 = (upd bd k (nI L.length)) from A52))
    have A61 : bm_AI (bm_setI (bm_setI (bm_setI (bm_setI B1 12 ((L.length * 10) + 2) u) 12 ((L.length * 10) + 3) (-1)) 12 ((L.length * 10) + 5) 0) 12 ((L.length * 10) + 6) (bm_FI B1 7 3 s)) 14 = ll := ((AI_setn (bm_setI (bm_setI (bm_setI B1 12 ((L.length * 10) + 2) u) 12 ((L.length * 10) + 3) (-1)) 12 ((L.length * 10) + 5) 0) ((L.length * 10) + 6) (bm_FI B1 7 3 s) 14 (by decide)).trans (show bm_AI (bm_setI (bm_setI (bm_setI B1 12 ((L.length * 10) + 2) u) 12 ((L.length * 10) + 3) (-1)) 12 ((L.length * 10) + 5) 0) 14 = ll from A53))
    have A62 : bm_AI (bm_setI (bm_setI (bm_setI (bm_setI B1 12 ((L.length * 10) + 2) u) 12 ((L.length * 10) + 3) (-1)) 12 ((L.length * 10) + 5) 0) 12 ((L.length * 10) + 6) (bm_FI B1 7 3 s)) 15 = tc := ((AI_setn (bm_setI (bm_setI (bm_setI B1 12 ((L.length * 10) + 2) u) 12 ((L.length * 10) + 3) (-1)) 12 ((L.length * 10) + 5) 0) ((L.length * 10) + 6) (bm_FI B1 7 3 s) 15 (by decide)).trans (show bm_AI (bm_setI (bm_setI (bm_setI B1 12 ((L.length * 10) + 2) u) 12 ((L.length * 10) + 3) (-1)) 12 ((L.length * 10) + 5) 0) 15 = tc from A54))
    have A63 : bm_AI (bm_setI (bm_setI (bm_setI (bm_setI B1 12 ((L.length * 10) + 2) u) 12 ((L.length * 10) + 3) (-1)) 12 ((L.length * 10) + 5) 0) 12 ((L.length * 10) + 6) (bm_FI B1 7 3 s)) 16 = tl := ((AI_setn (bm_setI (bm_setI (bm_setI B1 12 ((L.length * 10) + 2) u) 12 ((L.length * 10) + 3) (-1)) 12 ((L.length * 10) + 5) 0) ((L.length * 10) + 6) (bm_FI B1 7 3 s) 16 (by decide)).trans (show bm_AI (bm_setI (bm_setI (bm_setI B1 12 ((L.length * 10) + 2) u) 12 ((L.length * 10) + 3) (-1)) 12 ((L.length * 10) + 5) 0) 16 = tl from A55))
    have A64 : bm_AI (bm_setI (bm_setI (bm_setI (bm_setI B1 12 ((L.length * 10) + 2) u) 12 ((L.length * 10) + 3) (-1)) 12 ((L.length * 10) + 5) 0) 12 ((L.length * 10) + 6) (bm_FI B1 7 3 s)) 17 = tf := ((AI_setn (bm_setI (bm_setI (bm_setI B1 12 ((L.length * 10) + 2) u) 12 ((L.length * 10) + 3) (-1)) 12 ((L.length * 10) + 5) 0) ((L.length * 10) + 6) (bm_FI B1 7 3 s) 17 (by decide)).trans (show bm_AI (bm_setI (bm_setI (bm_setI B1 12 ((L.length * 10) + 2) u) 12 ((L.length * 10) + 3) (-1)) 12 ((L.length * 10) + 5) 0) 17 = tf from A56))
    have A65 : bm_AI (bm_setI (bm_setI (bm_setI (bm_setI B1 12 ((L.length * 10) + 2) u) 12 ((L.length * 10) + 3) (-1)) 12 ((L.length * 10) + 5) 0) 12 ((L.length * 10) + 6) (bm_FI B1 7 3 s)) 18 = tg := ((AI_setn (bm_setI (bm_setI (bm_setI B1 12 ((L.length * 10) + 2) u) 12 ((L.length * 10) + 3) (-1)) 12 ((L.length * 10) + 5) 0) ((L.length * 10) + 6) (bm_FI B1 7 3 s) 18 (by decide)).trans (show bm_AI (bm_setI (bm_setI (bm_setI B1 12 ((L.length * 10) + 2) u) 12 ((L.length * 10) + 3) (-1)) 12 ((L.length * 10) + 5) 0) 18 = tg from A57))
    have Z66 : fz lex B1 (bm_setI (bm_setI (bm_setI (bm_setI B1 12 ((L.length * 10) + 2) u) 12 ((L.length * 10) + 3) (-1)) 12 ((L.length * 10) + 5) 0) 12 ((L.length * 10) + 6) (bm_FI B1 7 3 s)) := fz_trans Z58 ⟨fr_mono (fun _ q => by unfold lex; omega) (fr_setI _ 12 _ _), rfl, rfl⟩
    refine g_ald (pc' := 76) cd_Le_addSent rfl (Or.inr ⟨_, rfl, rfl, rfl⟩) l0 rfl rfl ?_
    refine g_fR (c := 4) (k := 0) (x := 12) (pc' := 79) cd_Le_addSent rfl rfl rfl rfl rfl (by decide) hS1.1.1 hS1.1.2 hS1.2.1.1 ?_
    refine g_ild (pc' := 81) cd_Le_addSent rfl (Or.inl ⟨rfl, rfl⟩) l6 rfl ?_
    refine g_k2 (v := 7) (pc' := 83) cd_Le_addSent rfl (by decide) rfl ?_
    refine g_pure (pc' := 84) (st' := [.int ((nI (L.length * 10)) + 7), .ref 12]) cd_Le_addSent rfl rfl (fun _ _ => rfl) ?_
    rw [show ((nI (L.length * 10)) + 7 : Int32) = nI ((L.length * 10) + 7) from nI_add (L.length * 10) 7]
    refine g_ald (pc' := 85) cd_Le_addSent rfl (Or.inr ⟨_, rfl, rfl, rfl⟩) l1 rfl rfl ?_
    refine g_ald (pc' := 87) cd_Le_addSent rfl (Or.inl ⟨rfl, rfl⟩) l5 rfl rfl ?_
    refine g_fR (c := 7) (k := 0) (x := (s + 1)) (pc' := 90) cd_Le_addSent rfl rfl rfl rfl rfl (by decide) hS2.1.1.1 hS2.1.1.2 hS2.1.2 ?_
    refine g_fI (c := 2) (k := 2) (x := (bm_FI B1 2 2 (s + 1))) (pc' := 93) cd_Le_addSent rfl rfl rfl rfl rfl (by decide) hS2.2.1.1.1.1 hS2.2.1.1.1.2 rfl ?_
    refine g_k1 (v := 0) (pc' := 94) cd_Le_addSent rfl (by decide) rfl ?_
    have hT67 : TI (bm_setI (bm_setI (bm_setI (bm_setI B1 12 ((L.length * 10) + 2) u) 12 ((L.length * 10) + 3) (-1)) 12 ((L.length * 10) + 5) 0) 12 ((L.length * 10) + 6) (bm_FI B1 7 3 s)) 1 ca 3 4 rm dr T := TI_lex hT1 hca Z66.1 lex_in
    refine g_calli (pc' := 97) cd_Le_addSent rfl rfl rfl rfl rfl (tm_invV rfl rfl cd_Te_partOf rfl (Nat.le_of_ble_eq_true rfl) (by decide) hT1.1.1.1 hT1.1.1.2) (t_partOf (i := 0) hT67 hS2.2.1.2.2.1.1 (by decide) (fun r68 ht68 => ?_))
    show bm_G _ _ _ 97 _ [.int r68, .int (nI ((L.length * 10) + 7)), .ref 12] (bm_setI (bm_setI (bm_setI (bm_setI B1 12 ((L.length * 10) + 2) u) 12 ((L.length * 10) + 3) (-1)) 12 ((L.length * 10) + 5) 0) 12 ((L.length * 10) + 6) (bm_FI B1 7 3 s)) _
    refine g_iast (pc' := 98) cd_Le_addSent rfl rfl hS1.2.2.1.1 hS1.2.2.1.2.1 (by rw [show bm_AL (bm_setI (bm_setI (bm_setI (bm_setI B1 12 ((L.length * 10) + 2) u) 12 ((L.length * 10) + 3) (-1)) 12 ((L.length * 10) + 5) 0) 12 ((L.length * 10) + 6) (bm_FI B1 7 3 s)) 12 = 7000 from hS1.2.2.1.2.2]; exact vp_in_nI (by omega) (by decide)) ?_
    rw [show (nI ((L.length * 10) + 7) : Int32).toNatClampNeg = ((L.length * 10) + 7) from nI_clamp (by omega)]
    have A69 : bm_AI (bm_setI (bm_setI (bm_setI (bm_setI (bm_setI B1 12 ((L.length * 10) + 2) u) 12 ((L.length * 10) + 3) (-1)) 12 ((L.length * 10) + 5) 0) 12 ((L.length * 10) + 6) (bm_FI B1 7 3 s)) 12 ((L.length * 10) + 7) r68) 12 = (upd (upd (upd (upd (upd (upd (upd (upd (bm_AI B 12) (L.length * 10 + 0) x) (L.length * 10 + 1) v) (L.length * 10 + 4) ((1 <<< (v &&& 31)) ||| (1 <<< (u &&& 31)))) ((L.length * 10) + 2) u) ((L.length * 10) + 3) (-1)) ((L.length * 10) + 5) 0) ((L.length * 10) + 6) (bm_FI B1 7 3 s)) ((L.length * 10) + 7) r68) := ((AI_set (bm_setI (bm_setI (bm_setI (bm_setI B1 12 ((L.length * 10) + 2) u) 12 ((L.length * 10) + 3) (-1)) 12 ((L.length * 10) + 5) 0) 12 ((L.length * 10) + 6) (bm_FI B1 7 3 s)) 12 ((L.length * 10) + 7) r68).trans (congrArg (fun f => upd f ((L.length * 10) + 7) r68) (show bm_AI (bm_setI (bm_setI (bm_setI (bm_setI B1 12 ((L.length * 10) + 2) u) 12 ((L.length * 10) + 3) (-1)) 12 ((L.length * 10) + 5) 0) 12 ((L.length * 10) + 6) (bm_FI B1 7 3 s)) 12 = (upd (upd (upd (upd (upd (upd (upd (bm_AI B 12) (L.length * 10 + 0) x) (L.length * 10 + 1) v) (L.length * 10 + 4) ((1 <<< (v &&& 31)) ||| (1 <<< (u &&& 31)))) ((L.length * 10) + 2) u) ((L.length * 10) + 3) (-1)) ((L.length * 10) + 5) 0) ((L.length * 10) + 6) (bm_FI B1 7 3 s)) from A59)))
    have A70 : bm_AI (bm_setI (bm_setI (bm_setI (bm_setI (bm_setI B1 12 ((L.length * 10) + 2) u) 12 ((L.length * 10) + 3) (-1)) 12 ((L.length * 10) + 5) 0) 12 ((L.length * 10) + 6) (bm_FI B1 7 3 s)) 12 ((L.length * 10) + 7) r68) 13 = (upd bd k (nI L.length)) := ((AI_setn (bm_setI (bm_setI (bm_setI (bm_setI B1 12 ((L.length * 10) + 2) u) 12 ((L.length * 10) + 3) (-1)) 12 ((L.length * 10) + 5) 0) 12 ((L.length * 10) + 6) (bm_FI B1 7 3 s)) ((L.length * 10) + 7) r68 13 (by decide)).trans (show bm_AI (bm_setI (bm_setI (bm_setI (bm_setI B1 12 ((L.length * 10) + 2) u) 12 ((L.length * 10) + 3) (-1)) 12 ((L.length * 10) + 5) 0) 12 ((L.length * 10) + 6) (bm_FI B1 7 3 s)) 13 = (upd bd k (nI L.length)) from A60))
    have A71 : bm_AI (bm_setI (bm_setI (bm_setI (bm_setI (bm_setI B1 12 ((L.length * 10) + 2) u) 12 ((L.length * 10) + 3) (-1)) 12 ((L.length * 10) + 5) 0) 12 ((L.length * 10) + 6) (bm_FI B1 7 3 s)) 12 ((L.length * 10) + 7) r68) 14 = ll := ((AI_setn (bm_setI (bm_setI (bm_setI (bm_setI B1 12 ((L.length * 10) + 2) u) 12 ((L.length * 10) + 3) (-1)) 12 ((L.length * 10) + 5) 0) 12 ((L.length * 10) + 6) (bm_FI B1 7 3 s)) ((L.length * 10) + 7) r68 14 (by decide)).trans (show bm_AI (bm_setI (bm_setI (bm_setI (bm_setI B1 12 ((L.length * 10) + 2) u) 12 ((L.length * 10) + 3) (-1)) 12 ((L.length * 10) + 5) 0) 12 ((L.length * 10) + 6) (bm_FI B1 7 3 s)) 14 = ll from A61))
    have A72 : bm_AI (bm_setI (bm_setI (bm_setI (bm_setI (bm_setI B1 12 ((L.length * 10) + 2) u) 12 ((L.length * 10) + 3) (-1)) 12 ((L.length * 10) + 5) 0) 12 ((L.length * 10) + 6) (bm_FI B1 7 3 s)) 12 ((L.length * 10) + 7) r68) 15 = tc := ((AI_setn (bm_setI (bm_setI (bm_setI (bm_setI B1 12 ((L.length * 10) + 2) u) 12 ((L.length * 10) + 3) (-1)) 12 ((L.length * 10) + 5) 0) 12 ((L.length * 10) + 6) (bm_FI B1 7 3 s)) ((L.length * 10) + 7) r68 15 (by decide)).trans (show bm_AI (bm_setI (bm_setI (bm_setI (bm_setI B1 12 ((L.length * 10) + 2) u) 12 ((L.length * 10) + 3) (-1)) 12 ((L.length * 10) + 5) 0) 12 ((L.length * 10) + 6) (bm_FI B1 7 3 s)) 15 = tc from A62))
    have A73 : bm_AI (bm_setI (bm_setI (bm_setI (bm_setI (bm_setI B1 12 ((L.length * 10) + 2) u) 12 ((L.length * 10) + 3) (-1)) 12 ((L.length * 10) + 5) 0) 12 ((L.length * 10) + 6) (bm_FI B1 7 3 s)) 12 ((L.length * 10) + 7) r68) 16 = tl := ((AI_setn (bm_setI (bm_setI (bm_setI (bm_setI B1 12 ((L.length * 10) + 2) u) 12 ((L.length * 10) + 3) (-1)) 12 ((L.length * 10) + 5) 0) 12 ((L.length * 10) + 6) (bm_FI B1 7 3 s)) ((L.length * 10) + 7) r68 16 (by decide)).trans (show bm_AI (bm_setI (bm_setI (bm_setI (bm_setI B1 12 ((L.length * 10) + 2) u) 12 ((L.length * 10) + 3) (-1)) 12 ((L.length * 10) + 5) 0) 12 ((L.length * 10) + 6) (bm_FI B1 7 3 s)) 16 = tl from A63))
    have A74 : bm_AI (bm_setI (bm_setI (bm_setI (bm_setI (bm_setI B1 12 ((L.length * 10) + 2) u) 12 ((L.length * 10) + 3) (-1)) 12 ((L.length * 10) + 5) 0) 12 ((L.length * 10) + 6) (bm_FI B1 7 3 s)) 12 ((L.length * 10) + 7) r68) 17 = tf := ((AI_setn (bm_setI (bm_setI (bm_setI (bm_setI B1 12 ((L.length * 10) + 2) u) 12 ((L.length * 10) + 3) (-1)) 12 ((L.length * 10) + 5) 0) 12 ((L.length * 10) + 6) (bm_FI B1 7 3 s)) ((L.length * 10) + 7) r68 17 (by decide)).trans (show bm_AI (bm_setI (bm_setI (bm_setI (bm_setI B1 12 ((L.length * 10) + 2) u) 12 ((L.length * 10) + 3) (-1)) 12 ((L.length * 10) + 5) 0) 12 ((L.length * 10) + 6) (bm_FI B1 7 3 s)) 17 = tf from A64))
    have A75 : bm_AI (bm_setI (bm_setI (bm_setI (bm_setI (bm_setI B1 12 ((L.length * 10) + 2) u) 12 ((L.length * 10) + 3) (-1)) 12 ((L.length * 10) + 5) 0) 12 ((L.length * 10) + 6) (bm_FI B1 7 3 s)) 12 ((L.length * 10) + 7) r68) 18 = tg := ((AI_setn (bm_setI (bm_setI (bm_setI (bm_setI B1 12 ((L.length * 10) + 2) u) 12 ((L.length * 10) + 3) (-1)) 12 ((L.length * 10) + 5) 0) 12 ((L.length * 10) + 6) (bm_FI B1 7 3 s)) ((L.length * 10) + 7) r68 18 (by decide)).trans (show bm_AI (bm_setI (bm_setI (bm_setI (bm_setI B1 12 ((L.length * 10) + 2) u) 12 ((L.length * 10) + 3) (-1)) 12 ((L.length * 10) + 5) 0) 12 ((L.length * 10) + 6) (bm_FI B1 7 3 s)) 18 = tg from A65))
    have Z76 : fz lex B1 (bm_setI (bm_setI (bm_setI (bm_setI (bm_setI B1 12 ((L.length * 10) + 2) u) 12 ((L.length * 10) + 3) (-1)) 12 ((L.length * 10) + 5) 0) 12 ((L.length * 10) + 6) (bm_FI B1 7 3 s)) 12 ((L.length * 10) + 7) r68) := fz_trans Z66 ⟨fr_mono (fun _ q => by unfold lex; omega) (fr_setI _ 12 _ _), rfl, rfl⟩
    refine g_ald (pc' := 99) cd_Le_addSent rfl (Or.inr ⟨_, rfl, rfl, rfl⟩) l0 rfl rfl ?_
    refine g_fI (c := 4) (k := 11) (x := nI (L.length + 1)) (pc' := 102) cd_Le_addSent rfl rfl rfl rfl rfl (by decide) hS1.1.1 hS1.1.2 e11 ?_
    refine g_k1 (v := 1) (pc' := 103) cd_Le_addSent rfl (by decide) rfl ?_
    refine g_pure (pc' := 104) (st' := [.int ((nI (L.length + 1)) - 1)]) cd_Le_addSent rfl rfl (fun _ _ => rfl) ?_
    rw [show ((nI (L.length + 1)) - 1 : Int32) = nI ((L.length + 1) - 1) from pk_sub (a := (L.length + 1)) (b := 1) (by omega)]
    have hR0 : RLc (bm_AI B 12) T L := hR.2.2
    have hg : bm_AI (bm_setI (bm_setI (bm_setI (bm_setI (bm_setI B1 12 ((L.length * 10) + 2) u) 12 ((L.length * 10) + 3) (-1)) 12 ((L.length * 10) + 5) 0) 12 ((L.length * 10) + 6) (bm_FI B1 7 3 s)) 12 ((L.length * 10) + 7) r68) 12 = (upd (upd (upd (upd (upd (upd (upd (upd (bm_AI B 12) (L.length * 10 + 0) x) (L.length * 10 + 1) v) (L.length * 10 + 4) ((1 <<< (v &&& 31)) ||| (1 <<< (u &&& 31)))) ((L.length * 10) + 2) u) ((L.length * 10) + 3) (-1)) ((L.length * 10) + 5) 0) ((L.length * 10) + 6) (bm_FI B1 7 3 s)) ((L.length * 10) + 7) r68) := A69
    have hRow : lrow ((upd (upd (upd (upd (upd (upd (upd (upd (bm_AI B 12) (L.length * 10 + 0) x) (L.length * 10 + 1) v) (L.length * 10 + 4) ((1 <<< (v &&& 31)) ||| (1 <<< (u &&& 31)))) ((L.length * 10) + 2) u) ((L.length * 10) + 3) (-1)) ((L.length * 10) + 5) 0) ((L.length * 10) + 6) (bm_FI B1 7 3 s)) ((L.length * 10) + 7) r68)) T L.length (A, v, u, (-1 : Int32), ((1 <<< (v &&& 31)) ||| (1 <<< (u &&& 31))), (0 : Int32), xm, pt I.1 0, (0 : Int32), (0 : Int32)) := ⟨(tvq (((pk_un (by omega)).trans (((pk_un (by omega)).trans (((pk_un (by omega)).trans (((pk_un (by omega)).trans (((pk_un (by omega)).trans (((pk_un (by omega)).trans (((pk_un (by omega)).trans (if_pos rfl))))))))))))))) hx), ((pk_un (by omega)).trans (((pk_un (by omega)).trans (((pk_un (by omega)).trans (((pk_un (by omega)).trans (((pk_un (by omega)).trans (((pk_un (by omega)).trans (if_pos rfl)))))))))))), ((pk_un (by omega)).trans (((pk_un (by omega)).trans (((pk_un (by omega)).trans (((pk_un (by omega)).trans (if_pos rfl)))))))), ((pk_un (by omega)).trans (((pk_un (by omega)).trans (((pk_un (by omega)).trans (if_pos rfl)))))), ((pk_un (by omega)).trans (((pk_un (by omega)).trans (((pk_un (by omega)).trans (((pk_un (by omega)).trans (((pk_un (by omega)).trans (if_pos rfl)))))))))), ((pk_un (by omega)).trans (((pk_un (by omega)).trans (if_pos rfl)))), (tvq (((pk_un (by omega)).trans (if_pos rfl))) hS2.2.2.1.2.2.1), (tvq (if_pos rfl) ht68), ((pk_un (by omega)).trans (((pk_un (by omega)).trans (((pk_un (by omega)).trans (((pk_un (by omega)).trans (((pk_un (by omega)).trans (((pk_un (by omega)).trans (((pk_un (by omega)).trans (((pk_un (by omega)).trans ((hR0.2 _ (by omega)))))))))))))))))), ((pk_un (by omega)).trans (((pk_un (by omega)).trans (((pk_un (by omega)).trans (((pk_un (by omega)).trans (((pk_un (by omega)).trans (((pk_un (by omega)).trans (((pk_un (by omega)).trans (((pk_un (by omega)).trans ((hR0.2 _ (by omega))))))))))))))))))⟩
    have hC : RLc (bm_AI (bm_setI (bm_setI (bm_setI (bm_setI (bm_setI B1 12 ((L.length * 10) + 2) u) 12 ((L.length * 10) + 3) (-1)) 12 ((L.length * 10) + 5) 0) 12 ((L.length * 10) + 6) (bm_FI B1 7 3 s)) 12 ((L.length * 10) + 7) r68) 12) T (L ++ [(A, v, u, (-1 : Int32), ((1 <<< (v &&& 31)) ||| (1 <<< (u &&& 31))), (0 : Int32), xm, pt I.1 0, (0 : Int32), (0 : Int32))]) := by rw [hg]; exact RLc_push hR.2.2 (fun j hj => (pk_un (by omega)).trans ((pk_un (by omega)).trans ((pk_un (by omega)).trans ((pk_un (by omega)).trans ((pk_un (by omega)).trans ((pk_un (by omega)).trans ((pk_un (by omega)).trans (pk_un (by omega))))))))) hRow (fun j hj => (pk_un (by omega)).trans ((pk_un (by omega)).trans ((pk_un (by omega)).trans ((pk_un (by omega)).trans ((pk_un (by omega)).trans ((pk_un (by omega)).trans ((pk_un (by omega)).trans (pk_un (by omega)))))))))
    exact g_reti cd_Le_addSent rfl ⟨_, rfl, (bm_eq (kk _ ⟨LgS_fr hS1 Z76.1, ⟨⟨e11.trans (by simp), by simp; omega⟩, ⟨A70, A71, A72, A73, A74, A75⟩, ⟨ef.1, ef.2.1, (tvq rfl ef.2.2.1), ef.2.2.2.1⟩, ef.2.2.2.2.1, ef.2.2.2.2.2.1, ef.2.2.2.2.2.2⟩, hC⟩ (fz_trans hz1 Z76)) (congrArg nI (by omega)))⟩
  · have c51 : false = true := bz_t c51
    exact absurd c51 (by decide)
theorem t_addSent1 {sc : tm_X} {d : Nat} {ca rm dr : Nat} {B : bm_H} {T : List Tm} {L : List LT} {bd ll tc tl tf tg : Nat → Int32} {cf cg : Int32} {ct : Tm} {co : Bool} {li fo db : Int32} {s : Nat} {I : IB} {xb xr xm xs : Tm} {n b : Int32} {br : Bool} {bp bo : Tm}  {x v u : Int32} {A : Tm} {k : Nat} {Q : Int32 → bm_H → Prop} (hT : TI B 1 ca 3 4 rm dr T) (hca : ca = 2 ∨ 1482 ≤ ca) (hR : RLe B T (L, bd, ll, tc, tl, tf, tg, cf, cg, ct, co, li, fo, db)) (hL : L.length < 700) (hx : tv T x A) (hm : mk A = nI k) (hk : k < 3000) (hS : RSe B T s (I, xb, xr, xm, xs, n, b, br, bp, bo, true)) (hs : 18 < s) (hs2 : s + 2 < 1482) (kk : ∀ B', RLe B' T (L ++ [(A, v, u, (-1 : Int32), ((1 <<< (v &&& 31)) ||| (1 <<< (u &&& 31))), (1 : Int32), xm, pt I.1 0, (0 : Int32), (0 : Int32))], upd bd k (nI L.length), ll, tc, tl, tf, tg, cf, cg, ct, co, li, fo, db) → fz lex B B' → Q (nI L.length) B') : bm_Gi sc (d + 2) 91 [.ref 11, .ref 1, .int x, .int v, .int u, .ref s] B Q := by
  show bm_G sc (d + 2) 91 0 [(0, .ref 11), (1, .ref 1), (2, .int x), (3, .int v), (4, .int u), (5, .ref s)] [] B _
  generalize elv : ([(0, .ref 11), (1, .ref 1), (2, .int x), (3, .int v), (4, .int u), (5, .ref s)] : tm_L) = lv
  have l0 : lv.lookup 0 = some (.ref 11) := by rw [← elv]; rfl
  have l1 : lv.lookup 1 = some (.ref 1) := by rw [← elv]; rfl
  have l2 : lv.lookup 2 = some (.int x) := by rw [← elv]; rfl
  have l3 : lv.lookup 3 = some (.int v) := by rw [← elv]; rfl
  have l4 : lv.lookup 4 = some (.int u) := by rw [← elv]; rfl
  have l5 : lv.lookup 5 = some (.ref s) := by rw [← elv]; rfl
  clear elv
  refine g_ald (pc' := 1) cd_Le_addSent rfl (Or.inr ⟨_, rfl, rfl, rfl⟩) l0 rfl rfl ?_
  refine g_ald (pc' := 2) cd_Le_addSent rfl (Or.inr ⟨_, rfl, rfl, rfl⟩) l1 rfl rfl ?_
  refine g_ild (pc' := 3) cd_Le_addSent rfl (Or.inr ⟨_, rfl, rfl, rfl⟩) l2 rfl ?_
  refine g_ild (pc' := 4) cd_Le_addSent rfl (Or.inr ⟨_, rfl, rfl, rfl⟩) l3 rfl ?_
  refine g_k1 (v := 1) (pc' := 5) cd_Le_addSent rfl (by decide) rfl ?_
  refine g_ild (pc' := 6) cd_Le_addSent rfl (Or.inr ⟨_, rfl, rfl, rfl⟩) l3 rfl ?_
  refine g_pure (pc' := 7) (st' := [.int (1 <<< (v &&& 31)), .int v, .int x, .ref 1, .ref 11]) cd_Le_addSent rfl rfl (fun _ _ => rfl) ?_
  refine g_k1 (v := 1) (pc' := 8) cd_Le_addSent rfl (by decide) rfl ?_
  refine g_ild (pc' := 10) cd_Le_addSent rfl (Or.inl ⟨rfl, rfl⟩) l4 rfl ?_
  refine g_pure (pc' := 11) (st' := [.int (1 <<< (u &&& 31)), .int (1 <<< (v &&& 31)), .int v, .int x, .ref 1, .ref 11]) cd_Le_addSent rfl rfl (fun _ _ => rfl) ?_
  refine g_pure (pc' := 12) (st' := [.int ((1 <<< (v &&& 31)) ||| (1 <<< (u &&& 31))), .int v, .int x, .ref 1, .ref 11]) cd_Le_addSent rfl rfl (fun _ _ => rfl) ?_
  refine g_calli (pc' := 15) cd_Le_addSent rfl rfl rfl rfl rfl (tm_invV rfl rfl cd_Le_addLetter rfl (Nat.le_of_ble_eq_true rfl) (by decide) hR.1.1.1 hR.1.1.2) (t_addLetter hT hca hR hL hx hm hk (fun B1 hz1 e11 e12 e13 ea ef => ?_))
  have hq : ∀ y, 18 < y → ¬ lex y := fun y h q => by unfold lex at q; omega
  have hS2 := RSe_fr hS hz1.1 (hq _ (by omega)) (hq _ (by omega)) (hq _ (by omega)) (List.prefix_refl T)
  have hS1 := LgS_fr hR.1 hz1.1
  have hT1 := TI_lex hT hca hz1.1 lex_in
  show bm_G _ _ _ 15 _ [.int (nI (L.length * 10))] B1 _
  refine g_ist (pc' := 17) cd_Le_addSent rfl (Or.inl ⟨rfl, rfl⟩) (by decide) rfl (fun lv el => ?_)
  have l0 := tm_lk el l0 rfl (by decide)
  have l1 := tm_lk el l1 rfl (by decide)
  have l2 := tm_lk el l2 rfl (by decide)
  have l3 := tm_lk el l3 rfl (by decide)
  have l4 := tm_lk el l4 rfl (by decide)
  have l5 := tm_lk el l5 rfl (by decide)
  have l6 : lv.lookup 6 = some (.int (nI (L.length * 10))) := tm_lks el
  clear el
  refine g_ald (pc' := 18) cd_Le_addSent rfl (Or.inr ⟨_, rfl, rfl, rfl⟩) l0 rfl rfl ?_
  refine g_fR (c := 4) (k := 0) (x := 12) (pc' := 21) cd_Le_addSent rfl rfl rfl rfl rfl (by decide) hS1.1.1 hS1.1.2 hS1.2.1.1 ?_
  refine g_ild (pc' := 23) cd_Le_addSent rfl (Or.inl ⟨rfl, rfl⟩) l6 rfl ?_
  refine g_k1 (v := 2) (pc' := 24) cd_Le_addSent rfl (by decide) rfl ?_
  refine g_pure (pc' := 25) (st' := [.int ((nI (L.length * 10)) + 2), .ref 12]) cd_Le_addSent rfl rfl (fun _ _ => rfl) ?_
  rw [show ((nI (L.length * 10)) + 2 : Int32) = nI ((L.length * 10) + 2) from nI_add (L.length * 10) 2]
  refine g_ild (pc' := 27) cd_Le_addSent rfl (Or.inl ⟨rfl, rfl⟩) l4 rfl ?_
  refine g_iast (pc' := 28) cd_Le_addSent rfl rfl hS1.2.2.1.1 hS1.2.2.1.2.1 (by rw [show bm_AL B1 12 = 7000 from hS1.2.2.1.2.2]; exact vp_in_nI (by omega) (by decide)) ?_
  rw [show (nI ((L.length * 10) + 2) : Int32).toNatClampNeg = ((L.length * 10) + 2) from nI_clamp (by omega)]
  have A77 : bm_AI (bm_setI B1 12 ((L.length * 10) + 2) u) 12 = (upd (upd (upd (upd (bm_AI B 12) (L.length * 10 + 0) x) (L.length * 10 + 1) v) (L.length * 10 + 4) ((1 <<< (v &&& 31)) ||| (1 <<< (u &&& 31)))) ((L.length * 10) + 2) u) := ((AI_set B1 12 ((L.length * 10) + 2) u).trans (congrArg (fun f => upd f ((L.length * 10) + 2) u) (show bm_AI B1 12 = (upd (upd (upd (bm_AI B 12) (L.length * 10 + 0) x) (L.length * 10 + 1) v) (L.length * 10 + 4) ((1 <<< (v &&& 31)) ||| (1 <<< (u &&& 31)))) from e12)))
  have A78 : bm_AI (bm_setI B1 12 ((L.length * 10) + 2) u) 13 = (upd bd k (nI L.length)) := ((AI_setn B1 ((L.length * 10) + 2) u 13 (by decide)).trans (show bm_AI B1 13 = (upd bd k (nI L.length)) from e13))
  have A79 : bm_AI (bm_setI B1 12 ((L.length * 10) + 2) u) 14 = ll := ((AI_setn B1 ((L.length * 10) + 2) u 14 (by decide)).trans (show bm_AI B1 14 = ll from ea.1))
  have A80 : bm_AI (bm_setI B1 12 ((L.length * 10) + 2) u) 15 = tc := ((AI_setn B1 ((L.length * 10) + 2) u 15 (by decide)).trans (show bm_AI B1 15 = tc from ea.2.1))
  have A81 : bm_AI (bm_setI B1 12 ((L.length * 10) + 2) u) 16 = tl := ((AI_setn B1 ((L.length * 10) + 2) u 16 (by decide)).trans (show bm_AI B1 16 = tl from ea.2.2.1))
  have A82 : bm_AI (bm_setI B1 12 ((L.length * 10) + 2) u) 17 = tf := ((AI_setn B1 ((L.length * 10) + 2) u 17 (by decide)).trans (show bm_AI B1 17 = tf from ea.2.2.2.1))
  have A83 : bm_AI (bm_setI B1 12 ((L.length * 10) + 2) u) 18 = tg := ((AI_setn B1 ((L.length * 10) + 2) u 18 (by decide)).trans (show bm_AI B1 18 = tg from ea.2.2.2.2))
  have Z84 : fz lex B1 (bm_setI B1 12 ((L.length * 10) + 2) u) := fz_trans (fz_rfl _ B1) ⟨fr_mono (fun _ q => by unfold lex; omega) (fr_setI _ 12 _ _), rfl, rfl⟩
  refine g_ald (pc' := 29) cd_Le_addSent rfl (Or.inr ⟨_, rfl, rfl, rfl⟩) l0 rfl rfl ?_
  refine g_fR (c := 4) (k := 0) (x := 12) (pc' := 32) cd_Le_addSent rfl rfl rfl rfl rfl (by decide) hS1.1.1 hS1.1.2 hS1.2.1.1 ?_
  refine g_ild (pc' := 34) cd_Le_addSent rfl (Or.inl ⟨rfl, rfl⟩) l6 rfl ?_
  refine g_k1 (v := 3) (pc' := 35) cd_Le_addSent rfl (by decide) rfl ?_
  refine g_pure (pc' := 36) (st' := [.int ((nI (L.length * 10)) + 3), .ref 12]) cd_Le_addSent rfl rfl (fun _ _ => rfl) ?_
  rw [show ((nI (L.length * 10)) + 3 : Int32) = nI ((L.length * 10) + 3) from nI_add (L.length * 10) 3]
  refine g_k1 (v := (-1)) (pc' := 37) cd_Le_addSent rfl (by decide) rfl ?_
  refine g_iast (pc' := 38) cd_Le_addSent rfl rfl hS1.2.2.1.1 hS1.2.2.1.2.1 (by rw [show bm_AL (bm_setI B1 12 ((L.length * 10) + 2) u) 12 = 7000 from hS1.2.2.1.2.2]; exact vp_in_nI (by omega) (by decide)) ?_
  rw [show (nI ((L.length * 10) + 3) : Int32).toNatClampNeg = ((L.length * 10) + 3) from nI_clamp (by omega)]
  have A85 : bm_AI (bm_setI (bm_setI B1 12 ((L.length * 10) + 2) u) 12 ((L.length * 10) + 3) (-1)) 12 = (upd (upd (upd (upd (upd (bm_AI B 12) (L.length * 10 + 0) x) (L.length * 10 + 1) v) (L.length * 10 + 4) ((1 <<< (v &&& 31)) ||| (1 <<< (u &&& 31)))) ((L.length * 10) + 2) u) ((L.length * 10) + 3) (-1)) := ((AI_set (bm_setI B1 12 ((L.length * 10) + 2) u) 12 ((L.length * 10) + 3) (-1)).trans (congrArg (fun f => upd f ((L.length * 10) + 3) (-1)) (show bm_AI (bm_setI B1 12 ((L.length * 10) + 2) u) 12 = (upd (upd (upd (upd (bm_AI B 12) (L.length * 10 + 0) x) (L.length * 10 + 1) v) (L.length * 10 + 4) ((1 <<< (v &&& 31)) ||| (1 <<< (u &&& 31)))) ((L.length * 10) + 2) u) from A77)))
  have A86 : bm_AI (bm_setI (bm_setI B1 12 ((L.length * 10) + 2) u) 12 ((L.length * 10) + 3) (-1)) 13 = (upd bd k (nI L.length)) := ((AI_setn (bm_setI B1 12 ((L.length * 10) + 2) u) ((L.length * 10) + 3) (-1) 13 (by decide)).trans (show bm_AI (bm_setI B1 12 ((L.length * 10) + 2) u) 13 = (upd bd k (nI L.length)) from A78))
  have A87 : bm_AI (bm_setI (bm_setI B1 12 ((L.length * 10) + 2) u) 12 ((L.length * 10) + 3) (-1)) 14 = ll := ((AI_setn (bm_setI B1 12 ((L.length * 10) + 2) u) ((L.length * 10) + 3) (-1) 14 (by decide)).trans (show bm_AI (bm_setI B1 12 ((L.length * 10) + 2) u) 14 = ll from A79))
  have A88 : bm_AI (bm_setI (bm_setI B1 12 ((L.length * 10) + 2) u) 12 ((L.length * 10) + 3) (-1)) 15 = tc := ((AI_setn (bm_setI B1 12 ((L.length * 10) + 2) u) ((L.length * 10) + 3) (-1) 15 (by decide)).trans (show bm_AI (bm_setI B1 12 ((L.length * 10) + 2) u) 15 = tc from A80))
  have A89 : bm_AI (bm_setI (bm_setI B1 12 ((L.length * 10) + 2) u) 12 ((L.length * 10) + 3) (-1)) 16 = tl := ((AI_setn (bm_setI B1 12 ((L.length * 10) + 2) u) ((L.length * 10) + 3) (-1) 16 (by decide)).trans (show bm_AI (bm_setI B1 12 ((L.length * 10) + 2) u) 16 = tl from A81))
  have A90 : bm_AI (bm_setI (bm_setI B1 12 ((L.length * 10) + 2) u) 12 ((L.length * 10) + 3) (-1)) 17 = tf := ((AI_setn (bm_setI B1 12 ((L.length * 10) + 2) u) ((L.length * 10) + 3) (-1) 17 (by decide)).trans (show bm_AI (bm_setI B1 12 ((L.length * 10) + 2) u) 17 = tf from A82))
  have A91 : bm_AI (bm_setI (bm_setI B1 12 ((L.length * 10) + 2) u) 12 ((L.length * 10) + 3) (-1)) 18 = tg := ((AI_setn (bm_setI B1 12 ((L.length * 10) + 2) u) ((L.length * 10) + 3) (-1) 18 (by decide)).trans (show bm_AI (bm_setI B1 12 ((L.length * 10) + 2) u) 18 = tg from A83))
  have Z92 : fz lex B1 (bm_setI (bm_setI B1 12 ((L.length * 10) + 2) u) 12 ((L.length * 10) + 3) (-1)) := fz_trans Z84 ⟨fr_mono (fun _ q => by unfold lex; omega) (fr_setI _ 12 _ _), rfl, rfl⟩
  refine g_ald (pc' := 39) cd_Le_addSent rfl (Or.inr ⟨_, rfl, rfl, rfl⟩) l0 rfl rfl ?_
  refine g_fR (c := 4) (k := 0) (x := 12) (pc' := 42) cd_Le_addSent rfl rfl rfl rfl rfl (by decide) hS1.1.1 hS1.1.2 hS1.2.1.1 ?_
  refine g_ild (pc' := 44) cd_Le_addSent rfl (Or.inl ⟨rfl, rfl⟩) l6 rfl ?_
  refine g_k1 (v := 5) (pc' := 45) cd_Le_addSent rfl (by decide) rfl ?_
  refine g_pure (pc' := 46) (st' := [.int ((nI (L.length * 10)) + 5), .ref 12]) cd_Le_addSent rfl rfl (fun _ _ => rfl) ?_
  rw [show ((nI (L.length * 10)) + 5 : Int32) = nI ((L.length * 10) + 5) from nI_add (L.length * 10) 5]
  refine g_ald (pc' := 48) cd_Le_addSent rfl (Or.inl ⟨rfl, rfl⟩) l5 rfl rfl ?_
  refine g_fI (c := 7) (k := 10) (x := bz true) (pc' := 51) cd_Le_addSent rfl rfl rfl rfl rfl (by decide) hS2.1.1.1 hS2.1.1.2 hS2.2.2.2.2.2 ?_
  refine g_if1 (t := 58) (pc' := 54) cd_Le_addSent rfl rfl rfl (fun c51 => ?_) (fun c51 => ?_)
  · have c51 : true = false := bz_f c51
    exact absurd c51 (by decide)
  · have c51 : true = true := bz_t c51
    refine g_k1 (v := 1) (pc' := 55) cd_Le_addSent rfl (by decide) rfl ?_
    refine g_pure (pc' := 59) (st' := [.int 1, .int (nI ((L.length * 10) + 5)), .ref 12]) cd_Le_addSent rfl rfl (fun _ _ => rfl) ?_
    refine g_iast (pc' := 60) cd_Le_addSent rfl rfl hS1.2.2.1.1 hS1.2.2.1.2.1 (by rw [show bm_AL (bm_setI (bm_setI B1 12 ((L.length * 10) + 2) u) 12 ((L.length * 10) + 3) (-1)) 12 = 7000 from hS1.2.2.1.2.2]; exact vp_in_nI (by omega) (by decide)) ?_
    rw [show (nI ((L.length * 10) + 5) : Int32).toNatClampNeg = ((L.length * 10) + 5) from nI_clamp (by omega)]
    have A93 : bm_AI (bm_setI (bm_setI (bm_setI B1 12 ((L.length * 10) + 2) u) 12 ((L.length * 10) + 3) (-1)) 12 ((L.length * 10) + 5) 1) 12 = (upd (upd (upd (upd (upd (upd (bm_AI B 12) (L.length * 10 + 0) x) (L.length * 10 + 1) v) (L.length * 10 + 4) ((1 <<< (v &&& 31)) ||| (1 <<< (u &&& 31)))) ((L.length * 10) + 2) u) ((L.length * 10) + 3) (-1)) ((L.length * 10) + 5) 1) := ((AI_set (bm_setI (bm_setI B1 12 ((L.length * 10) + 2) u) 12 ((L.length * 10) + 3) (-1)) 12 ((L.length * 10) + 5) 1).trans (congrArg (fun f => upd f ((L.length * 10) + 5) 1) (show bm_AI (bm_setI (bm_setI B1 12 ((L.length * 10) + 2) u) 12 ((L.length * 10) + 3) (-1)) 12 = (upd (upd (upd (upd (upd (bm_AI B 12) (L.length * 10 + 0) x) (L.length * 10 + 1) v) (L.length * 10 + 4) ((1 <<< (v &&& 31)) ||| (1 <<< (u &&& 31)))) ((L.length * 10) + 2) u) ((L.length * 10) + 3) (-1)) from A85)))
    have A94 : bm_AI (bm_setI (bm_setI (bm_setI B1 12 ((L.length * 10) + 2) u) 12 ((L.length * 10) + 3) (-1)) 12 ((L.length * 10) + 5) 1) 13 = (upd bd k (nI L.length)) := ((AI_setn (bm_setI (bm_setI B1 12 ((L.length * 10) + 2) u) 12 ((L.length * 10) + 3) (-1)) ((L.length * 10) + 5) 1 13 (by decide)).trans (show bm_AI (bm_setI (bm_setI B1 12 ((L.length * 10) + 2) u) 12 ((L.length * 10) + 3) (-1)) 13 = (upd bd k (nI L.length)) from A86))
    have A95 : bm_AI (bm_setI (bm_setI (bm_setI B1 12 ((L.length * 10) + 2) u) 12 ((L.length * 10) + 3) (-1)) 12 ((L.length * 10) + 5) 1) 14 = ll := ((AI_setn (bm_setI (bm_setI B1 12 ((L.length * 10) + 2) u) 12 ((L.length * 10) + 3) (-1)) ((L.length * 10) + 5) 1 14 (by decide)).trans (show bm_AI (bm_setI (bm_setI B1 12 ((L.length * 10) + 2) u) 12 ((L.length * 10) + 3) (-1)) 14 = ll from A87))
    have A96 : bm_AI (bm_setI (bm_setI (bm_setI B1 12 ((L.length * 10) + 2) u) 12 ((L.length * 10) + 3) (-1)) 12 ((L.length * 10) + 5) 1) 15 = tc := ((AI_setn (bm_setI (bm_setI B1 12 ((L.length * 10) + 2) u) 12 ((L.length * 10) + 3) (-1)) ((L.length * 10) + 5) 1 15 (by decide)).trans (show bm_AI (bm_setI (bm_setI B1 12 ((L.length * 10) + 2) u) 12 ((L.length * 10) + 3) (-1)) 15 = tc from A88))
    have A97 : bm_AI (bm_setI (bm_setI (bm_setI B1 12 ((L.length * 10) + 2) u) 12 ((L.length * 10) + 3) (-1)) 12 ((L.length * 10) + 5) 1) 16 = tl := ((AI_setn (bm_setI (bm_setI B1 12 ((L.length * 10) + 2) u) 12 ((L.length * 10) + 3) (-1)) ((L.length * 10) + 5) 1 16 (by decide)).trans (show bm_AI (bm_setI (bm_setI B1 12 ((L.length * 10) + 2) u) 12 ((L.length * 10) + 3) (-1)) 16 = tl from A89))
    have A98 : bm_AI (bm_setI (bm_setI (bm_setI B1 12 ((L.length * 10) + 2) u) 12 ((L.length * 10) + 3) (-1)) 12 ((L.length * 10) + 5) 1) 17 = tf := ((AI_setn (bm_setI (bm_setI B1 12 ((L.length * 10) + 2) u) 12 ((L.length * 10) + 3) (-1)) ((L.length * 10) + 5) 1 17 (by decide)).trans (show bm_AI (bm_setI (bm_setI B1 12 ((L.length * 10) + 2) u) 12 ((L.length * 10) + 3) (-1)) 17 = tf from A90))
    have A99 : bm_AI (bm_setI (bm_setI (bm_setI B1 12 ((L.length * 10) + 2) u) 12 ((L.length * 10) + 3) (-1)) 12 ((L.length * 10) + 5) 1) 18 = tg := ((AI_setn (bm_setI (bm_setI B1 12 ((L.length * 10) + 2) u) 12 ((L.length * 10) + 3) (-1)) ((L.length * 10) + 5) 1 18 (by decide)).trans (show bm_AI (bm_setI (bm_setI B1 12 ((L.length * 10) + 2) u) 12 ((L.length * 10) + 3) (-1)) 18 = tg from A91))
    have Z100 : fz lex B1 (bm_setI (bm_setI (bm_setI B1 12 ((L.length * 10) + 2) u) 12 ((L.length * 10) + 3) (-1)) 12 ((L.length * 10) + 5) 1) := fz_trans Z92 ⟨fr_mono (fun _ q => by unfold lex; omega) (fr_setI _ 12 _ _), rfl, rfl⟩
    refine g_ald (pc' := 61) cd_Le_addSent rfl (Or.inr ⟨_, rfl, rfl, rfl⟩) l0 rfl rfl ?_
    refine g_fR (c := 4) (k := 0) (x := 12) (pc' := 64) cd_Le_addSent rfl rfl rfl rfl rfl (by decide) hS1.1.1 hS1.1.2 hS1.2.1.1 ?_
    refine g_ild (pc' := 66) cd_Le_addSent rfl (Or.inl ⟨rfl, rfl⟩) l6 rfl ?_
    refine g_k2 (v := 6) (pc' := 68) cd_Le_addSent rfl (by decide) rfl ?_
    refine g_pure (pc' := 69) (st' := [.int ((nI (L.length * 10)) + 6), .ref 12]) cd_Le_addSent rfl rfl (fun _ _ => rfl) ?_
    rw [show ((nI (L.length * 10)) + 6 : Int32) = nI ((L.length * 10) + 6) from nI_add (L.length * 10) 6]
    refine g_ald (pc' := 71) cd_Le_addSent rfl (Or.inl ⟨rfl, rfl⟩) l5 rfl rfl ?_
    refine g_fI (c := 7) (k := 3) (x := (bm_FI B1 7 3 s)) (pc' := 74) cd_Le_addSent rfl rfl rfl rfl rfl (by decide) hS2.1.1.1 hS2.1.1.2 rfl ?_
    refine g_iast (pc' := 75) cd_Le_addSent rfl rfl hS1.2.2.1.1 hS1.2.2.1.2.1 (by rw [show bm_AL (bm_setI (bm_setI (bm_setI B1 12 ((L.length * 10) + 2) u) 12 ((L.length * 10) + 3) (-1)) 12 ((L.length * 10) + 5) 1) 12 = 7000 from hS1.2.2.1.2.2]; exact vp_in_nI (by omega) (by decide)) ?_
    rw [show (nI ((L.length * 10) + 6) : Int32).toNatClampNeg = ((L.length * 10) + 6) from nI_clamp (by omega)]
    have A101 : bm_AI (bm_setI (bm_setI (bm_setI (bm_setI B1 12 ((L.length * 10) + 2) u) 12 ((L.length * 10) + 3) (-1)) 12 ((L.length * 10) + 5) 1) 12 ((L.length * 10) + 6) (bm_FI B1 7 3 s)) 12 = (upd (upd (upd (upd (upd (upd (upd (bm_AI B 12) (L.length * 10 + 0) x) (L.length * 10 + 1) v) (L.length * 10 + 4) ((1 <<< (v &&& 31)) ||| (1 <<< (u &&& 31)))) ((L.length * 10) + 2) u) ((L.length * 10) + 3) (-1)) ((L.length * 10) + 5) 1) ((L.length * 10) + 6) (bm_FI B1 7 3 s)) := ((AI_set (bm_setI (bm_setI (bm_setI B1 12 ((L.length * 10) + 2) u) 12 ((L.length * 10) + 3) (-1)) 12 ((L.length * 10) + 5) 1) 12 ((L.length * 10) + 6) (bm_FI B1 7 3 s)).trans (congrArg (fun f => upd f ((L.length * 10) + 6) (bm_FI B1 7 3 s)) (show bm_AI (bm_setI (bm_setI (bm_setI B1 12 ((L.length * 10) + 2) u) 12 ((L.length * 10) + 3) (-1)) 12 ((L.length * 10) + 5) 1) 12 = (upd (upd (upd (upd (upd (upd (bm_AI B 12) (L.length * 10 + 0) x) (L.length * 10 + 1) v) (L.length * 10 + 4) ((1 <<< (v &&& 31)) ||| (1 <<< (u &&& 31)))) ((L.length * 10) + 2) u) ((L.length * 10) + 3) (-1)) ((L.length * 10) + 5) 1) from A93)))
    have A102 : bm_AI (bm_setI (bm_setI (bm_setI (bm_setI B1 12 ((L.length * 10) + 2) u) 12 ((L.length * 10) + 3) (-1)) 12 ((L.length * 10) + 5) 1) 12 ((L.length * 10) + 6) (bm_FI B1 7 3 s)) 13 = (upd bd k (nI L.length)) := ((AI_setn (bm_setI (bm_setI (bm_setI B1 12 ((L.length * 10) + 2) u) 12 ((L.length * 10) + 3) (-1)) 12 ((L.length * 10) + 5) 1) ((L.length * 10) + 6) (bm_FI B1 7 3 s) 13 (by decide)).trans (show bm_AI (bm_setI (bm_setI (bm_setI B1 12 ((L.length * 10) + 2) u) 12 ((L.length * 10) + 3) (-1)) 12 ((L.length * 10) + 5) 1) 13 = (upd bd k (nI L.length)) from A94))
    have A103 : bm_AI (bm_setI (bm_setI (bm_setI (bm_setI B1 12 ((L.length * 10) + 2) u) 12 ((L.length * 10) + 3) (-1)) 12 ((L.length * 10) + 5) 1) 12 ((L.length * 10) + 6) (bm_FI B1 7 3 s)) 14 = ll := ((AI_setn (bm_setI (bm_setI (bm_setI B1 12 ((L.length * 10) + 2) u) 12 ((L.length * 10) + 3) (-1)) 12 ((L.length * 10) + 5) 1) ((L.length * 10) + 6) (bm_FI B1 7 3 s) 14 (by decide)).trans (show bm_AI (bm_setI (bm_setI (bm_setI B1 12 ((L.length * 10) + 2) u) 12 ((L.length * 10) + 3) (-1)) 12 ((L.length * 10) + 5) 1) 14 = ll from A95))
    have A104 : bm_AI (bm_setI (bm_setI (bm_setI (bm_setI B1 12 ((L.length * 10) + 2) u) 12 ((L.length * 10) + 3) (-1)) 12 ((L.length * 10) + 5) 1) 12 ((L.length * 10) + 6) (bm_FI B1 7 3 s)) 15 = tc := ((AI_setn (bm_setI (bm_setI (bm_setI B1 12 ((L.length * 10) + 2) u) 12 ((L.length * 10) + 3) (-1)) 12 ((L.length * 10) + 5) 1) ((L.length * 10) + 6) (bm_FI B1 7 3 s) 15 (by decide)).trans (show bm_AI (bm_setI (bm_setI (bm_setI B1 12 ((L.length * 10) + 2) u) 12 ((L.length * 10) + 3) (-1)) 12 ((L.length * 10) + 5) 1) 15 = tc from A96))
    have A105 : bm_AI (bm_setI (bm_setI (bm_setI (bm_setI B1 12 ((L.length * 10) + 2) u) 12 ((L.length * 10) + 3) (-1)) 12 ((L.length * 10) + 5) 1) 12 ((L.length * 10) + 6) (bm_FI B1 7 3 s)) 16 = tl := ((AI_setn (bm_setI (bm_setI (bm_setI B1 12 ((L.length * 10) + 2) u) 12 ((L.length * 10) + 3) (-1)) 12 ((L.length * 10) + 5) 1) ((L.length * 10) + 6) (bm_FI B1 7 3 s) 16 (by decide)).trans (show bm_AI (bm_setI (bm_setI (bm_setI B1 12 ((L.length * 10) + 2) u) 12 ((L.length * 10) + 3) (-1)) 12 ((L.length * 10) + 5) 1) 16 = tl from A97))
    have A106 : bm_AI (bm_setI (bm_setI (bm_setI (bm_setI B1 12 ((L.length * 10) + 2) u) 12 ((L.length * 10) + 3) (-1)) 12 ((L.length * 10) + 5) 1) 12 ((L.length * 10) + 6) (bm_FI B1 7 3 s)) 17 = tf := ((AI_setn (bm_setI (bm_setI (bm_setI B1 12 ((L.length * 10) + 2) u) 12 ((L.length * 10) + 3) (-1)) 12 ((L.length * 10) + 5) 1) ((L.length * 10) + 6) (bm_FI B1 7 3 s) 17 (by decide)).trans (show bm_AI (bm_setI (bm_setI (bm_setI B1 12 ((L.length * 10) + 2) u) 12 ((L.length * 10) + 3) (-1)) 12 ((L.length * 10) + 5) 1) 17 = tf from A98))
    have A107 : bm_AI (bm_setI (bm_setI (bm_setI (bm_setI B1 12 ((L.length * 10) + 2) u) 12 ((L.length * 10) + 3) (-1)) 12 ((L.length * 10) + 5) 1) 12 ((L.length * 10) + 6) (bm_FI B1 7 3 s)) 18 = tg := ((AI_setn (bm_setI (bm_setI (bm_setI B1 12 ((L.length * 10) + 2) u) 12 ((L.length * 10) + 3) (-1)) 12 ((L.length * 10) + 5) 1) ((L.length * 10) + 6) (bm_FI B1 7 3 s) 18 (by decide)).trans (show bm_AI (bm_setI (bm_setI (bm_setI B1 12 ((L.length * 10) + 2) u) 12 ((L.length * 10) + 3) (-1)) 12 ((L.length * 10) + 5) 1) 18 = tg from A99))
    have Z108 : fz lex B1 (bm_setI (bm_setI (bm_setI (bm_setI B1 12 ((L.length * 10) + 2) u) 12 ((L.length * 10) + 3) (-1)) 12 ((L.length * 10) + 5) 1) 12 ((L.length * 10) + 6) (bm_FI B1 7 3 s)) := fz_trans Z100 ⟨fr_mono (fun _ q => by unfold lex; omega) (fr_setI _ 12 _ _), rfl, rfl⟩
    refine g_ald (pc' := 76) cd_Le_addSent rfl (Or.inr ⟨_, rfl, rfl, rfl⟩) l0 rfl rfl ?_
    refine g_fR (c := 4) (k := 0) (x := 12) (pc' := 79) cd_Le_addSent rfl rfl rfl rfl rfl (by decide) hS1.1.1 hS1.1.2 hS1.2.1.1 ?_
    refine g_ild (pc' := 81) cd_Le_addSent rfl (Or.inl ⟨rfl, rfl⟩) l6 rfl ?_
    refine g_k2 (v := 7) (pc' := 83) cd_Le_addSent rfl (by decide) rfl ?_
    refine g_pure (pc' := 84) (st' := [.int ((nI (L.length * 10)) + 7), .ref 12]) cd_Le_addSent rfl rfl (fun _ _ => rfl) ?_
    rw [show ((nI (L.length * 10)) + 7 : Int32) = nI ((L.length * 10) + 7) from nI_add (L.length * 10) 7]
    refine g_ald (pc' := 85) cd_Le_addSent rfl (Or.inr ⟨_, rfl, rfl, rfl⟩) l1 rfl rfl ?_
    refine g_ald (pc' := 87) cd_Le_addSent rfl (Or.inl ⟨rfl, rfl⟩) l5 rfl rfl ?_
    refine g_fR (c := 7) (k := 0) (x := (s + 1)) (pc' := 90) cd_Le_addSent rfl rfl rfl rfl rfl (by decide) hS2.1.1.1 hS2.1.1.2 hS2.1.2 ?_
    refine g_fI (c := 2) (k := 2) (x := (bm_FI B1 2 2 (s + 1))) (pc' := 93) cd_Le_addSent rfl rfl rfl rfl rfl (by decide) hS2.2.1.1.1.1 hS2.2.1.1.1.2 rfl ?_
    refine g_k1 (v := 0) (pc' := 94) cd_Le_addSent rfl (by decide) rfl ?_
    have hT109 : TI (bm_setI (bm_setI (bm_setI (bm_setI B1 12 ((L.length * 10) + 2) u) 12 ((L.length * 10) + 3) (-1)) 12 ((L.length * 10) + 5) 1) 12 ((L.length * 10) + 6) (bm_FI B1 7 3 s)) 1 ca 3 4 rm dr T := TI_lex hT1 hca Z108.1 lex_in
    refine g_calli (pc' := 97) cd_Le_addSent rfl rfl rfl rfl rfl (tm_invV rfl rfl cd_Te_partOf rfl (Nat.le_of_ble_eq_true rfl) (by decide) hT1.1.1.1 hT1.1.1.2) (t_partOf (i := 0) hT109 hS2.2.1.2.2.1.1 (by decide) (fun r110 ht110 => ?_))
    show bm_G _ _ _ 97 _ [.int r110, .int (nI ((L.length * 10) + 7)), .ref 12] (bm_setI (bm_setI (bm_setI (bm_setI B1 12 ((L.length * 10) + 2) u) 12 ((L.length * 10) + 3) (-1)) 12 ((L.length * 10) + 5) 1) 12 ((L.length * 10) + 6) (bm_FI B1 7 3 s)) _
    refine g_iast (pc' := 98) cd_Le_addSent rfl rfl hS1.2.2.1.1 hS1.2.2.1.2.1 (by rw [show bm_AL (bm_setI (bm_setI (bm_setI (bm_setI B1 12 ((L.length * 10) + 2) u) 12 ((L.length * 10) + 3) (-1)) 12 ((L.length * 10) + 5) 1) 12 ((L.length * 10) + 6) (bm_FI B1 7 3 s)) 12 = 7000 from hS1.2.2.1.2.2]; exact vp_in_nI (by omega) (by decide)) ?_
    rw [show (nI ((L.length * 10) + 7) : Int32).toNatClampNeg = ((L.length * 10) + 7) from nI_clamp (by omega)]
    have A111 : bm_AI (bm_setI (bm_setI (bm_setI (bm_setI (bm_setI B1 12 ((L.length * 10) + 2) u) 12 ((L.length * 10) + 3) (-1)) 12 ((L.length * 10) + 5) 1) 12 ((L.length * 10) + 6) (bm_FI B1 7 3 s)) 12 ((L.length * 10) + 7) r110) 12 = (upd (upd (upd (upd (upd (upd (upd (upd (bm_AI B 12) (L.length * 10 + 0) x) (L.length * 10 + 1) v) (L.length * 10 + 4) ((1 <<< (v &&& 31)) ||| (1 <<< (u &&& 31)))) ((L.length * 10) + 2) u) ((L.length * 10) + 3) (-1)) ((L.length * 10) + 5) 1) ((L.length * 10) + 6) (bm_FI B1 7 3 s)) ((L.length * 10) + 7) r110) := ((AI_set (bm_setI (bm_setI (bm_setI (bm_setI B1 12 ((L.length * 10) + 2) u) 12 ((L.length * 10) + 3) (-1)) 12 ((L.length * 10) + 5) 1) 12 ((L.length * 10) + 6) (bm_FI B1 7 3 s)) 12 ((L.length * 10) + 7) r110).trans (congrArg (fun f => upd f ((L.length * 10) + 7) r110) (show bm_AI (bm_setI (bm_setI (bm_setI (bm_setI B1 12 ((L.length * 10) + 2) u) 12 ((L.length * 10) + 3) (-1)) 12 ((L.length * 10) + 5) 1) 12 ((L.length * 10) + 6) (bm_FI B1 7 3 s)) 12 = (upd (upd (upd (upd (upd (upd (upd (bm_AI B 12) (L.length * 10 + 0) x) (L.length * 10 + 1) v) (L.length * 10 + 4) ((1 <<< (v &&& 31)) ||| (1 <<< (u &&& 31)))) ((L.length * 10) + 2) u) ((L.length * 10) + 3) (-1)) ((L.length * 10) + 5) 1) ((L.length * 10) + 6) (bm_FI B1 7 3 s)) from A101)))
    have A112 : bm_AI (bm_setI (bm_setI (bm_setI (bm_setI (bm_setI B1 12 ((L.length * 10) + 2) u) 12 ((L.length * 10) + 3) (-1)) 12 ((L.length * 10) + 5) 1) 12 ((L.length * 10) + 6) (bm_FI B1 7 3 s)) 12 ((L.length * 10) + 7) r110) 13 = (upd bd k (nI L.length)) := ((AI_setn (bm_setI (bm_setI (bm_setI (bm_setI B1 12 ((L.length * 10) + 2) u) 12 ((L.length * 10) + 3) (-1)) 12 ((L.length * 10) + 5) 1) 12 ((L.length * 10) + 6) (bm_FI B1 7 3 s)) ((L.length * 10) + 7) r110 13 (by decide)).trans (show bm_AI (bm_setI (bm_setI (bm_setI (bm_setI B1 12 ((L.length * 10) + 2) u) 12 ((L.length * 10) + 3) (-1)) 12 ((L.length * 10) + 5) 1) 12 ((L.length * 10) + 6) (bm_FI B1 7 3 s)) 13 = (upd bd k (nI L.length)) from A102))
    have A113 : bm_AI (bm_setI (bm_setI (bm_setI (bm_setI (bm_setI B1 12 ((L.length * 10) + 2) u) 12 ((L.length * 10) + 3) (-1)) 12 ((L.length * 10) + 5) 1) 12 ((L.length * 10) + 6) (bm_FI B1 7 3 s)) 12 ((L.length * 10) + 7) r110) 14 = ll := ((AI_setn (bm_setI (bm_setI (bm_setI (bm_setI B1 12 ((L.length * 10) + 2) u) 12 ((L.length * 10) + 3) (-1)) 12 ((L.length * 10) + 5) 1) 12 ((L.length * 10) + 6) (bm_FI B1 7 3 s)) ((L.length * 10) + 7) r110 14 (by decide)).trans (show bm_AI (bm_setI (bm_setI (bm_setI (bm_setI B1 12 ((L.length * 10) + 2) u) 12 ((L.length * 10) + 3) (-1)) 12 ((L.length * 10) + 5) 1) 12 ((L.length * 10) + 6) (bm_FI B1 7 3 s)) 14 = ll from A103))
    have A114 : bm_AI (bm_setI (bm_setI (bm_setI (bm_setI (bm_setI B1 12 ((L.length * 10) + 2) u) 12 ((L.length * 10) + 3) (-1)) 12 ((L.length * 10) + 5) 1) 12 ((L.length * 10) + 6) (bm_FI B1 7 3 s)) 12 ((L.length * 10) + 7) r110) 15 = tc := ((AI_setn (bm_setI (bm_setI (bm_setI (bm_setI B1 12 ((L.length * 10) + 2) u) 12 ((L.length * 10) + 3) (-1)) 12 ((L.length * 10) + 5) 1) 12 ((L.length * 10) + 6) (bm_FI B1 7 3 s)) ((L.length * 10) + 7) r110 15 (by decide)).trans (show bm_AI (bm_setI (bm_setI (bm_setI (bm_setI B1 12 ((L.length * 10) + 2) u) 12 ((L.length * 10) + 3) (-1)) 12 ((L.length * 10) + 5) 1) 12 ((L.length * 10) + 6) (bm_FI B1 7 3 s)) 15 = tc from A104))
    have A115 : bm_AI (bm_setI (bm_setI (bm_setI (bm_setI (bm_setI B1 12 ((L.length * 10) + 2) u) 12 ((L.length * 10) + 3) (-1)) 12 ((L.length * 10) + 5) 1) 12 ((L.length * 10) + 6) (bm_FI B1 7 3 s)) 12 ((L.length * 10) + 7) r110) 16 = tl := ((AI_setn (bm_setI (bm_setI (bm_setI (bm_setI B1 12 ((L.length * 10) + 2) u) 12 ((L.length * 10) + 3) (-1)) 12 ((L.length * 10) + 5) 1) 12 ((L.length * 10) + 6) (bm_FI B1 7 3 s)) ((L.length * 10) + 7) r110 16 (by decide)).trans (show bm_AI (bm_setI (bm_setI (bm_setI (bm_setI B1 12 ((L.length * 10) + 2) u) 12 ((L.length * 10) + 3) (-1)) 12 ((L.length * 10) + 5) 1) 12 ((L.length * 10) + 6) (bm_FI B1 7 3 s)) 16 = tl from A105))
    have A116 : bm_AI (bm_setI (bm_setI (bm_setI (bm_setI (bm_setI B1 12 ((L.length * 10) + 2) u) 12 ((L.length * 10) + 3) (-1)) 12 ((L.length * 10) + 5) 1) 12 ((L.length * 10) + 6) (bm_FI B1 7 3 s)) 12 ((L.length * 10) + 7) r110) 17 = tf := ((AI_setn (bm_setI (bm_setI (bm_setI (bm_setI B1 12 ((L.length * 10) + 2) u) 12 ((L.length * 10) + 3) (-1)) 12 ((L.length * 10) + 5) 1) 12 ((L.length * 10) + 6) (bm_FI B1 7 3 s)) ((L.length * 10) + 7) r110 17 (by decide)).trans (show bm_AI (bm_setI (bm_setI (bm_setI (bm_setI B1 12 ((L.length * 10) + 2) u) 12 ((L.length * 10) + 3) (-1)) 12 ((L.length * 10) + 5) 1) 12 ((L.length * 10) + 6) (bm_FI B1 7 3 s)) 17 = tf from A106))
    have A117 : bm_AI (bm_setI (bm_setI (bm_setI (bm_setI (bm_setI B1 12 ((L.length * 10) + 2) u) 12 ((L.length * 10) + 3) (-1)) 12 ((L.length * 10) + 5) 1) 12 ((L.length * 10) + 6) (bm_FI B1 7 3 s)) 12 ((L.length * 10) + 7) r110) 18 = tg := ((AI_setn (bm_setI (bm_setI (bm_setI (bm_setI B1 12 ((L.length * 10) + 2) u) 12 ((L.length * 10) + 3) (-1)) 12 ((L.length * 10) + 5) 1) 12 ((L.length * 10) + 6) (bm_FI B1 7 3 s)) ((L.length * 10) + 7) r110 18 (by decide)).trans (show bm_AI (bm_setI (bm_setI (bm_setI (bm_setI B1 12 ((L.length * 10) + 2) u) 12 ((L.length * 10) + 3) (-1)) 12 ((L.length * 10) + 5) 1) 12 ((L.length * 10) + 6) (bm_FI B1 7 3 s)) 18 = tg from A107))
    have Z118 : fz lex B1 (bm_setI (bm_setI (bm_setI (bm_setI (bm_setI B1 12 ((L.length * 10) + 2) u) 12 ((L.length * 10) + 3) (-1)) 12 ((L.length * 10) + 5) 1) 12 ((L.length * 10) + 6) (bm_FI B1 7 3 s)) 12 ((L.length * 10) + 7) r110) := fz_trans Z108 ⟨fr_mono (fun _ q => by unfold lex; omega) (fr_setI _ 12 _ _), rfl, rfl⟩
    refine g_ald (pc' := 99) cd_Le_addSent rfl (Or.inr ⟨_, rfl, rfl, rfl⟩) l0 rfl rfl ?_
    refine g_fI (c := 4) (k := 11) (x := nI (L.length + 1)) (pc' := 102) cd_Le_addSent rfl rfl rfl rfl rfl (by decide) hS1.1.1 hS1.1.2 e11 ?_
    refine g_k1 (v := 1) (pc' := 103) cd_Le_addSent rfl (by decide) rfl ?_
    refine g_pure (pc' := 104) (st' := [.int ((nI (L.length + 1)) - 1)]) cd_Le_addSent rfl rfl (fun _ _ => rfl) ?_
    rw [show ((nI (L.length + 1)) - 1 : Int32) = nI ((L.length + 1) - 1) from pk_sub (a := (L.length + 1)) (b := 1) (by omega)]
    have hR0 : RLc (bm_AI B 12) T L := hR.2.2
    have hg : bm_AI (bm_setI (bm_setI (bm_setI (bm_setI (bm_setI B1 12 ((L.length * 10) + 2) u) 12 ((L.length * 10) + 3) (-1)) 12 ((L.length * 10) + 5) 1) 12 ((L.length * 10) + 6) (bm_FI B1 7 3 s)) 12 ((L.length * 10) + 7) r110) 12 = (upd (upd (upd (upd (upd (upd (upd (upd (bm_AI B 12) (L.length * 10 + 0) x) (L.length * 10 + 1) v) (L.length * 10 + 4) ((1 <<< (v &&& 31)) ||| (1 <<< (u &&& 31)))) ((L.length * 10) + 2) u) ((L.length * 10) + 3) (-1)) ((L.length * 10) + 5) 1) ((L.length * 10) + 6) (bm_FI B1 7 3 s)) ((L.length * 10) + 7) r110) := A111
    have hRow : lrow ((upd (upd (upd (upd (upd (upd (upd (upd (bm_AI B 12) (L.length * 10 + 0) x) (L.length * 10 + 1) v) (L.length * 10 + 4) ((1 <<< (v &&& 31)) ||| (1 <<< (u &&& 31)))) ((L.length * 10) + 2) u) ((L.length * 10) + 3) (-1)) ((L.length * 10) + 5) 1) ((L.length * 10) + 6) (bm_FI B1 7 3 s)) ((L.length * 10) + 7) r110)) T L.length (A, v, u, (-1 : Int32), ((1 <<< (v &&& 31)) ||| (1 <<< (u &&& 31))), (1 : Int32), xm, pt I.1 0, (0 : Int32), (0 : Int32)) := ⟨(tvq (((pk_un (by omega)).trans (((pk_un (by omega)).trans (((pk_un (by omega)).trans (((pk_un (by omega)).trans (((pk_un (by omega)).trans (((pk_un (by omega)).trans (((pk_un (by omega)).trans (if_pos rfl))))))))))))))) hx), ((pk_un (by omega)).trans (((pk_un (by omega)).trans (((pk_un (by omega)).trans (((pk_un (by omega)).trans (((pk_un (by omega)).trans (((pk_un (by omega)).trans (if_pos rfl)))))))))))), ((pk_un (by omega)).trans (((pk_un (by omega)).trans (((pk_un (by omega)).trans (((pk_un (by omega)).trans (if_pos rfl)))))))), ((pk_un (by omega)).trans (((pk_un (by omega)).trans (((pk_un (by omega)).trans (if_pos rfl)))))), ((pk_un (by omega)).trans (((pk_un (by omega)).trans (((pk_un (by omega)).trans (((pk_un (by omega)).trans (((pk_un (by omega)).trans (if_pos rfl)))))))))), ((pk_un (by omega)).trans (((pk_un (by omega)).trans (if_pos rfl)))), (tvq (((pk_un (by omega)).trans (if_pos rfl))) hS2.2.2.1.2.2.1), (tvq (if_pos rfl) ht110), ((pk_un (by omega)).trans (((pk_un (by omega)).trans (((pk_un (by omega)).trans (((pk_un (by omega)).trans (((pk_un (by omega)).trans (((pk_un (by omega)).trans (((pk_un (by omega)).trans (((pk_un (by omega)).trans ((hR0.2 _ (by omega)))))))))))))))))), ((pk_un (by omega)).trans (((pk_un (by omega)).trans (((pk_un (by omega)).trans (((pk_un (by omega)).trans (((pk_un (by omega)).trans (((pk_un (by omega)).trans (((pk_un (by omega)).trans (((pk_un (by omega)).trans ((hR0.2 _ (by omega))))))))))))))))))⟩
    have hC : RLc (bm_AI (bm_setI (bm_setI (bm_setI (bm_setI (bm_setI B1 12 ((L.length * 10) + 2) u) 12 ((L.length * 10) + 3) (-1)) 12 ((L.length * 10) + 5) 1) 12 ((L.length * 10) + 6) (bm_FI B1 7 3 s)) 12 ((L.length * 10) + 7) r110) 12) T (L ++ [(A, v, u, (-1 : Int32), ((1 <<< (v &&& 31)) ||| (1 <<< (u &&& 31))), (1 : Int32), xm, pt I.1 0, (0 : Int32), (0 : Int32))]) := by rw [hg]; exact RLc_push hR.2.2 (fun j hj => (pk_un (by omega)).trans ((pk_un (by omega)).trans ((pk_un (by omega)).trans ((pk_un (by omega)).trans ((pk_un (by omega)).trans ((pk_un (by omega)).trans ((pk_un (by omega)).trans (pk_un (by omega))))))))) hRow (fun j hj => (pk_un (by omega)).trans ((pk_un (by omega)).trans ((pk_un (by omega)).trans ((pk_un (by omega)).trans ((pk_un (by omega)).trans ((pk_un (by omega)).trans ((pk_un (by omega)).trans (pk_un (by omega)))))))))
    exact g_reti cd_Le_addSent rfl ⟨_, rfl, (bm_eq (kk _ ⟨LgS_fr hS1 Z118.1, ⟨⟨e11.trans (by simp), by simp; omega⟩, ⟨A112, A113, A114, A115, A116, A117⟩, ⟨ef.1, ef.2.1, (tvq rfl ef.2.2.1), ef.2.2.2.1⟩, ef.2.2.2.2.1, ef.2.2.2.2.2.1, ef.2.2.2.2.2.2⟩, hC⟩ (fz_trans hz1 Z118)) (congrArg nI (by omega)))⟩
def lt_sent (A : Tm) (v u : Int32) (S : SS) : LT := (A, v, u, -1, ((1 <<< (v &&& 31)) ||| (1 <<< (u &&& 31))), bz S.2.2.2.2.2.2.2.2.2.2, S.2.2.2.1, pt S.1.1 0, 0, 0)
theorem t_addSent {sc : tm_X} {d : Nat} {ca rm dr : Nat} {B : bm_H} {T : List Tm} {L : List LT} {bd ll tc tl tf tg : Nat → Int32} {cf cg : Int32} {ct : Tm} {co : Bool} {li fo db : Int32} {S : SS} {s : Nat} {x v u : Int32} {A : Tm} {k : Nat} {Q : Int32 → bm_H → Prop} (hT : TI B 1 ca 3 4 rm dr T) (hca : ca = 2 ∨ 1482 ≤ ca) (hR : RLe B T (L, bd, ll, tc, tl, tf, tg, cf, cg, ct, co, li, fo, db)) (hL : L.length < 700) (hx : tv T x A) (hm : mk A = nI k) (hk : k < 3000) (hS : RSe B T s S) (hs : 18 < s) (hs2 : s + 2 < 1482) (kk : ∀ B', RLe B' T (L ++ [lt_sent A v u S], upd bd k (nI L.length), ll, tc, tl, tf, tg, cf, cg, ct, co, li, fo, db) → fz lex B B' → Q (nI L.length) B') : bm_Gi sc (d + 2) 91 [.ref 11, .ref 1, .int x, .int v, .int u, .ref s] B Q := by
  obtain ⟨I, xb, xr, xm, xs, n, b, br, bp, bo, on⟩ := S
  cases on
  · exact t_addSent0 hT hca hR hL hx hm hk hS hs hs2 kk
  · exact t_addSent1 hT hca hR hL hx hm hk hS hs hs2 kk
def lt_post (A : Tm) (v g m li : Int32) : LT := (A, v, -1, g, m, 0, tz, tz, 0, if m &&& li = 0 then 1 <<< (v &&& 31) else 0)
theorem t_addPosted {sc : tm_X} {d : Nat} {ca rm dr : Nat} {B : bm_H} {T : List Tm} {L : List LT} {bd ll tc tl tf tg : Nat → Int32} {cf cg : Int32} {ct : Tm} {co : Bool} {li fo db : Int32} {x v g m : Int32} {A : Tm} {k : Nat} {Q : Int32 → bm_H → Prop} (hT : TI B 1 ca 3 4 rm dr T) (hca : ca = 2 ∨ 1482 ≤ ca) (hR : RLe B T (L, bd, ll, tc, tl, tf, tg, cf, cg, ct, co, li, fo, db)) (hL : L.length < 700) (hx : tv T x A) (hm : mk A = nI k) (hk : k < 3000) (kk : ∀ B', RLe B' T (L ++ [lt_post A v g m li], upd bd k (nI L.length), ll, tc, tl, tf, tg, cf, cg, ct, co, li, fo, db) → fz lex B B' → Q (nI L.length) B') : bm_Gi sc (d + 2) 102 [.ref 11, .ref 1, .int x, .int v, .int g, .int m] B Q := by
  show bm_G sc (d + 2) 102 0 [(0, .ref 11), (1, .ref 1), (2, .int x), (3, .int v), (4, .int g), (5, .int m)] [] B _
  generalize elv : ([(0, .ref 11), (1, .ref 1), (2, .int x), (3, .int v), (4, .int g), (5, .int m)] : tm_L) = lv
  have l0 : lv.lookup 0 = some (.ref 11) := by rw [← elv]; rfl
  have l1 : lv.lookup 1 = some (.ref 1) := by rw [← elv]; rfl
  have l2 : lv.lookup 2 = some (.int x) := by rw [← elv]; rfl
  have l3 : lv.lookup 3 = some (.int v) := by rw [← elv]; rfl
  have l4 : lv.lookup 4 = some (.int g) := by rw [← elv]; rfl
  have l5 : lv.lookup 5 = some (.int m) := by rw [← elv]; rfl
  clear elv
  refine g_ald (pc' := 1) cd_Le_addPosted rfl (Or.inr ⟨_, rfl, rfl, rfl⟩) l0 rfl rfl ?_
  refine g_ald (pc' := 2) cd_Le_addPosted rfl (Or.inr ⟨_, rfl, rfl, rfl⟩) l1 rfl rfl ?_
  refine g_ild (pc' := 3) cd_Le_addPosted rfl (Or.inr ⟨_, rfl, rfl, rfl⟩) l2 rfl ?_
  refine g_ild (pc' := 4) cd_Le_addPosted rfl (Or.inr ⟨_, rfl, rfl, rfl⟩) l3 rfl ?_
  refine g_ild (pc' := 6) cd_Le_addPosted rfl (Or.inl ⟨rfl, rfl⟩) l5 rfl ?_
  refine g_calli (pc' := 9) cd_Le_addPosted rfl rfl rfl rfl rfl (tm_invV rfl rfl cd_Le_addLetter rfl (Nat.le_of_ble_eq_true rfl) (by decide) hR.1.1.1 hR.1.1.2) (t_addLetter hT hca hR hL hx hm hk (fun B1 hz1 e11 e12 e13 ea ef => ?_))
  have hS1 := LgS_fr hR.1 hz1.1
  have hT1 := TI_lex hT hca hz1.1 lex_in
  show bm_G _ _ _ 9 _ [.int (nI (L.length * 10))] B1 _
  refine g_ist (pc' := 11) cd_Le_addPosted rfl (Or.inl ⟨rfl, rfl⟩) (by decide) rfl (fun lv el => ?_)
  have l0 := tm_lk el l0 rfl (by decide)
  have l1 := tm_lk el l1 rfl (by decide)
  have l2 := tm_lk el l2 rfl (by decide)
  have l3 := tm_lk el l3 rfl (by decide)
  have l4 := tm_lk el l4 rfl (by decide)
  have l5 := tm_lk el l5 rfl (by decide)
  have l6 : lv.lookup 6 = some (.int (nI (L.length * 10))) := tm_lks el
  clear el
  refine g_ald (pc' := 12) cd_Le_addPosted rfl (Or.inr ⟨_, rfl, rfl, rfl⟩) l0 rfl rfl ?_
  refine g_fR (c := 4) (k := 0) (x := 12) (pc' := 15) cd_Le_addPosted rfl rfl rfl rfl rfl (by decide) hS1.1.1 hS1.1.2 hS1.2.1.1 ?_
  refine g_ild (pc' := 17) cd_Le_addPosted rfl (Or.inl ⟨rfl, rfl⟩) l6 rfl ?_
  refine g_k1 (v := 2) (pc' := 18) cd_Le_addPosted rfl (by decide) rfl ?_
  refine g_pure (pc' := 19) (st' := [.int ((nI (L.length * 10)) + 2), .ref 12]) cd_Le_addPosted rfl rfl (fun _ _ => rfl) ?_
  rw [show ((nI (L.length * 10)) + 2 : Int32) = nI ((L.length * 10) + 2) from nI_add (L.length * 10) 2]
  refine g_k1 (v := (-1)) (pc' := 20) cd_Le_addPosted rfl (by decide) rfl ?_
  refine g_iast (pc' := 21) cd_Le_addPosted rfl rfl hS1.2.2.1.1 hS1.2.2.1.2.1 (by rw [show bm_AL B1 12 = 7000 from hS1.2.2.1.2.2]; exact vp_in_nI (by omega) (by decide)) ?_
  rw [show (nI ((L.length * 10) + 2) : Int32).toNatClampNeg = ((L.length * 10) + 2) from nI_clamp (by omega)]
  have A119 : bm_AI (bm_setI B1 12 ((L.length * 10) + 2) (-1)) 12 = (upd (upd (upd (upd (bm_AI B 12) (L.length * 10 + 0) x) (L.length * 10 + 1) v) (L.length * 10 + 4) m) ((L.length * 10) + 2) (-1)) := ((AI_set B1 12 ((L.length * 10) + 2) (-1)).trans (congrArg (fun f => upd f ((L.length * 10) + 2) (-1)) (show bm_AI B1 12 = (upd (upd (upd (bm_AI B 12) (L.length * 10 + 0) x) (L.length * 10 + 1) v) (L.length * 10 + 4) m) from e12)))
  have A120 : bm_AI (bm_setI B1 12 ((L.length * 10) + 2) (-1)) 13 = (upd bd k (nI L.length)) := ((AI_setn B1 ((L.length * 10) + 2) (-1) 13 (by decide)).trans (show bm_AI B1 13 = (upd bd k (nI L.length)) from e13))
  have A121 : bm_AI (bm_setI B1 12 ((L.length * 10) + 2) (-1)) 14 = ll := ((AI_setn B1 ((L.length * 10) + 2) (-1) 14 (by decide)).trans (show bm_AI B1 14 = ll from ea.1))
  have A122 : bm_AI (bm_setI B1 12 ((L.length * 10) + 2) (-1)) 15 = tc := ((AI_setn B1 ((L.length * 10) + 2) (-1) 15 (by decide)).trans (show bm_AI B1 15 = tc from ea.2.1))
  have A123 : bm_AI (bm_setI B1 12 ((L.length * 10) + 2) (-1)) 16 = tl := ((AI_setn B1 ((L.length * 10) + 2) (-1) 16 (by decide)).trans (show bm_AI B1 16 = tl from ea.2.2.1))
  have A124 : bm_AI (bm_setI B1 12 ((L.length * 10) + 2) (-1)) 17 = tf := ((AI_setn B1 ((L.length * 10) + 2) (-1) 17 (by decide)).trans (show bm_AI B1 17 = tf from ea.2.2.2.1))
  have A125 : bm_AI (bm_setI B1 12 ((L.length * 10) + 2) (-1)) 18 = tg := ((AI_setn B1 ((L.length * 10) + 2) (-1) 18 (by decide)).trans (show bm_AI B1 18 = tg from ea.2.2.2.2))
  have Z126 : fz lex B1 (bm_setI B1 12 ((L.length * 10) + 2) (-1)) := fz_trans (fz_rfl _ B1) ⟨fr_mono (fun _ q => by unfold lex; omega) (fr_setI _ 12 _ _), rfl, rfl⟩
  refine g_ald (pc' := 22) cd_Le_addPosted rfl (Or.inr ⟨_, rfl, rfl, rfl⟩) l0 rfl rfl ?_
  refine g_fR (c := 4) (k := 0) (x := 12) (pc' := 25) cd_Le_addPosted rfl rfl rfl rfl rfl (by decide) hS1.1.1 hS1.1.2 hS1.2.1.1 ?_
  refine g_ild (pc' := 27) cd_Le_addPosted rfl (Or.inl ⟨rfl, rfl⟩) l6 rfl ?_
  refine g_k1 (v := 3) (pc' := 28) cd_Le_addPosted rfl (by decide) rfl ?_
  refine g_pure (pc' := 29) (st' := [.int ((nI (L.length * 10)) + 3), .ref 12]) cd_Le_addPosted rfl rfl (fun _ _ => rfl) ?_
  rw [show ((nI (L.length * 10)) + 3 : Int32) = nI ((L.length * 10) + 3) from nI_add (L.length * 10) 3]
  refine g_ild (pc' := 31) cd_Le_addPosted rfl (Or.inl ⟨rfl, rfl⟩) l4 rfl ?_
  refine g_iast (pc' := 32) cd_Le_addPosted rfl rfl hS1.2.2.1.1 hS1.2.2.1.2.1 (by rw [show bm_AL (bm_setI B1 12 ((L.length * 10) + 2) (-1)) 12 = 7000 from hS1.2.2.1.2.2]; exact vp_in_nI (by omega) (by decide)) ?_
  rw [show (nI ((L.length * 10) + 3) : Int32).toNatClampNeg = ((L.length * 10) + 3) from nI_clamp (by omega)]
  have A127 : bm_AI (bm_setI (bm_setI B1 12 ((L.length * 10) + 2) (-1)) 12 ((L.length * 10) + 3) g) 12 = (upd (upd (upd (upd (upd (bm_AI B 12) (L.length * 10 + 0) x) (L.length * 10 + 1) v) (L.length * 10 + 4) m) ((L.length * 10) + 2) (-1)) ((L.length * 10) + 3) g) := ((AI_set (bm_setI B1 12 ((L.length * 10) + 2) (-1)) 12 ((L.length * 10) + 3) g).trans (congrArg (fun f => upd f ((L.length * 10) + 3) g) (show bm_AI (bm_setI B1 12 ((L.length * 10) + 2) (-1)) 12 = (upd (upd (upd (upd (bm_AI B 12) (L.length * 10 + 0) x) (L.length * 10 + 1) v) (L.length * 10 + 4) m) ((L.length * 10) + 2) (-1)) from A119)))
  have A128 : bm_AI (bm_setI (bm_setI B1 12 ((L.length * 10) + 2) (-1)) 12 ((L.length * 10) + 3) g) 13 = (upd bd k (nI L.length)) := ((AI_setn (bm_setI B1 12 ((L.length * 10) + 2) (-1)) ((L.length * 10) + 3) g 13 (by decide)).trans (show bm_AI (bm_setI B1 12 ((L.length * 10) + 2) (-1)) 13 = (upd bd k (nI L.length)) from A120))
  have A129 : bm_AI (bm_setI (bm_setI B1 12 ((L.length * 10) + 2) (-1)) 12 ((L.length * 10) + 3) g) 14 = ll := ((AI_setn (bm_setI B1 12 ((L.length * 10) + 2) (-1)) ((L.length * 10) + 3) g 14 (by decide)).trans (show bm_AI (bm_setI B1 12 ((L.length * 10) + 2) (-1)) 14 = ll from A121))
  have A130 : bm_AI (bm_setI (bm_setI B1 12 ((L.length * 10) + 2) (-1)) 12 ((L.length * 10) + 3) g) 15 = tc := ((AI_setn (bm_setI B1 12 ((L.length * 10) + 2) (-1)) ((L.length * 10) + 3) g 15 (by decide)).trans (show bm_AI (bm_setI B1 12 ((L.length * 10) + 2) (-1)) 15 = tc from A122))
  have A131 : bm_AI (bm_setI (bm_setI B1 12 ((L.length * 10) + 2) (-1)) 12 ((L.length * 10) + 3) g) 16 = tl := ((AI_setn (bm_setI B1 12 ((L.length * 10) + 2) (-1)) ((L.length * 10) + 3) g 16 (by decide)).trans (show bm_AI (bm_setI B1 12 ((L.length * 10) + 2) (-1)) 16 = tl from A123))
  have A132 : bm_AI (bm_setI (bm_setI B1 12 ((L.length * 10) + 2) (-1)) 12 ((L.length * 10) + 3) g) 17 = tf := ((AI_setn (bm_setI B1 12 ((L.length * 10) + 2) (-1)) ((L.length * 10) + 3) g 17 (by decide)).trans (show bm_AI (bm_setI B1 12 ((L.length * 10) + 2) (-1)) 17 = tf from A124))
  have A133 : bm_AI (bm_setI (bm_setI B1 12 ((L.length * 10) + 2) (-1)) 12 ((L.length * 10) + 3) g) 18 = tg := ((AI_setn (bm_setI B1 12 ((L.length * 10) + 2) (-1)) ((L.length * 10) + 3) g 18 (by decide)).trans (show bm_AI (bm_setI B1 12 ((L.length * 10) + 2) (-1)) 18 = tg from A125))
  have Z134 : fz lex B1 (bm_setI (bm_setI B1 12 ((L.length * 10) + 2) (-1)) 12 ((L.length * 10) + 3) g) := fz_trans Z126 ⟨fr_mono (fun _ q => by unfold lex; omega) (fr_setI _ 12 _ _), rfl, rfl⟩
  refine g_ild (pc' := 34) cd_Le_addPosted rfl (Or.inl ⟨rfl, rfl⟩) l5 rfl ?_
  refine g_ald (pc' := 35) cd_Le_addPosted rfl (Or.inr ⟨_, rfl, rfl, rfl⟩) l0 rfl rfl ?_
  refine g_fI (c := 4) (k := 12) (x := li) (pc' := 38) cd_Le_addPosted rfl rfl rfl rfl rfl (by decide) hS1.1.1 hS1.1.2 ef.2.2.2.2.1 ?_
  refine g_pure (pc' := 39) (st' := [.int (m &&& li)]) cd_Le_addPosted rfl rfl (fun _ _ => rfl) ?_
  refine g_if1 (t := 55) (pc' := 42) cd_Le_addPosted rfl rfl rfl (fun c39 => ?_) (fun c39 => ?_)
  · have c39 : ¬ (m &&& li) = 0 := c39
    refine g_ald (pc' := 56) cd_Le_addPosted rfl (Or.inr ⟨_, rfl, rfl, rfl⟩) l0 rfl rfl ?_
    refine g_fI (c := 4) (k := 11) (x := nI (L.length + 1)) (pc' := 59) cd_Le_addPosted rfl rfl rfl rfl rfl (by decide) hS1.1.1 hS1.1.2 e11 ?_
    refine g_k1 (v := 1) (pc' := 60) cd_Le_addPosted rfl (by decide) rfl ?_
    refine g_pure (pc' := 61) (st' := [.int ((nI (L.length + 1)) - 1)]) cd_Le_addPosted rfl rfl (fun _ _ => rfl) ?_
    rw [show ((nI (L.length + 1)) - 1 : Int32) = nI ((L.length + 1) - 1) from pk_sub (a := (L.length + 1)) (b := 1) (by omega)]
    have hNew : lt_post A v g m li = (A, v, (-1 : Int32), g, m, (0 : Int32), tz, tz, (0 : Int32), (0 : Int32)) := by unfold lt_post; rw [if_neg c39]
    rw [hNew] at kk
    have hR0 : RLc (bm_AI B 12) T L := hR.2.2
    have hg : bm_AI (bm_setI (bm_setI B1 12 ((L.length * 10) + 2) (-1)) 12 ((L.length * 10) + 3) g) 12 = (upd (upd (upd (upd (upd (bm_AI B 12) (L.length * 10 + 0) x) (L.length * 10 + 1) v) (L.length * 10 + 4) m) ((L.length * 10) + 2) (-1)) ((L.length * 10) + 3) g) := A127
    have hRow : lrow ((upd (upd (upd (upd (upd (bm_AI B 12) (L.length * 10 + 0) x) (L.length * 10 + 1) v) (L.length * 10 + 4) m) ((L.length * 10) + 2) (-1)) ((L.length * 10) + 3) g)) T L.length (A, v, (-1 : Int32), g, m, (0 : Int32), tz, tz, (0 : Int32), (0 : Int32)) := ⟨(tvq (((pk_un (by omega)).trans (((pk_un (by omega)).trans (((pk_un (by omega)).trans (((pk_un (by omega)).trans (if_pos rfl))))))))) hx), ((pk_un (by omega)).trans (((pk_un (by omega)).trans (((pk_un (by omega)).trans (if_pos rfl)))))), ((pk_un (by omega)).trans (if_pos rfl)), if_pos rfl, ((pk_un (by omega)).trans (((pk_un (by omega)).trans (if_pos rfl)))), ((pk_un (by omega)).trans (((pk_un (by omega)).trans (((pk_un (by omega)).trans (((pk_un (by omega)).trans (((pk_un (by omega)).trans ((hR0.2 _ (by omega)))))))))))), (tvq (((pk_un (by omega)).trans (((pk_un (by omega)).trans (((pk_un (by omega)).trans (((pk_un (by omega)).trans (((pk_un (by omega)).trans ((hR0.2 _ (by omega))))))))))))) (TI_z hT)), (tvq (((pk_un (by omega)).trans (((pk_un (by omega)).trans (((pk_un (by omega)).trans (((pk_un (by omega)).trans (((pk_un (by omega)).trans ((hR0.2 _ (by omega))))))))))))) (TI_z hT)), ((pk_un (by omega)).trans (((pk_un (by omega)).trans (((pk_un (by omega)).trans (((pk_un (by omega)).trans (((pk_un (by omega)).trans ((hR0.2 _ (by omega)))))))))))), ((pk_un (by omega)).trans (((pk_un (by omega)).trans (((pk_un (by omega)).trans (((pk_un (by omega)).trans (((pk_un (by omega)).trans ((hR0.2 _ (by omega))))))))))))⟩
    have hC : RLc (bm_AI (bm_setI (bm_setI B1 12 ((L.length * 10) + 2) (-1)) 12 ((L.length * 10) + 3) g) 12) T (L ++ [(A, v, (-1 : Int32), g, m, (0 : Int32), tz, tz, (0 : Int32), (0 : Int32))]) := by rw [hg]; exact RLc_push hR.2.2 (fun j hj => (pk_un (by omega)).trans ((pk_un (by omega)).trans ((pk_un (by omega)).trans ((pk_un (by omega)).trans (pk_un (by omega)))))) hRow (fun j hj => (pk_un (by omega)).trans ((pk_un (by omega)).trans ((pk_un (by omega)).trans ((pk_un (by omega)).trans (pk_un (by omega))))))
    exact g_reti cd_Le_addPosted rfl ⟨_, rfl, (bm_eq (kk _ ⟨LgS_fr hS1 Z134.1, ⟨⟨e11.trans (by simp), by simp; omega⟩, ⟨A128, A129, A130, A131, A132, A133⟩, ⟨ef.1, ef.2.1, (tvq rfl ef.2.2.1), ef.2.2.2.1⟩, ef.2.2.2.2.1, ef.2.2.2.2.2.1, ef.2.2.2.2.2.2⟩, hC⟩ (fz_trans hz1 Z134)) (congrArg nI (by omega)))⟩
  · have c39 : (m &&& li) = 0 := Classical.not_not.mp c39
    refine g_ald (pc' := 43) cd_Le_addPosted rfl (Or.inr ⟨_, rfl, rfl, rfl⟩) l0 rfl rfl ?_
    refine g_fR (c := 4) (k := 0) (x := 12) (pc' := 46) cd_Le_addPosted rfl rfl rfl rfl rfl (by decide) hS1.1.1 hS1.1.2 hS1.2.1.1 ?_
    refine g_ild (pc' := 48) cd_Le_addPosted rfl (Or.inl ⟨rfl, rfl⟩) l6 rfl ?_
    refine g_k2 (v := 9) (pc' := 50) cd_Le_addPosted rfl (by decide) rfl ?_
    refine g_pure (pc' := 51) (st' := [.int ((nI (L.length * 10)) + 9), .ref 12]) cd_Le_addPosted rfl rfl (fun _ _ => rfl) ?_
    rw [show ((nI (L.length * 10)) + 9 : Int32) = nI ((L.length * 10) + 9) from nI_add (L.length * 10) 9]
    refine g_k1 (v := 1) (pc' := 52) cd_Le_addPosted rfl (by decide) rfl ?_
    refine g_ild (pc' := 53) cd_Le_addPosted rfl (Or.inr ⟨_, rfl, rfl, rfl⟩) l3 rfl ?_
    refine g_pure (pc' := 54) (st' := [.int (1 <<< (v &&& 31)), .int (nI ((L.length * 10) + 9)), .ref 12]) cd_Le_addPosted rfl rfl (fun _ _ => rfl) ?_
    refine g_iast (pc' := 55) cd_Le_addPosted rfl rfl hS1.2.2.1.1 hS1.2.2.1.2.1 (by rw [show bm_AL (bm_setI (bm_setI B1 12 ((L.length * 10) + 2) (-1)) 12 ((L.length * 10) + 3) g) 12 = 7000 from hS1.2.2.1.2.2]; exact vp_in_nI (by omega) (by decide)) ?_
    rw [show (nI ((L.length * 10) + 9) : Int32).toNatClampNeg = ((L.length * 10) + 9) from nI_clamp (by omega)]
    have A135 : bm_AI (bm_setI (bm_setI (bm_setI B1 12 ((L.length * 10) + 2) (-1)) 12 ((L.length * 10) + 3) g) 12 ((L.length * 10) + 9) (1 <<< (v &&& 31))) 12 = (upd (upd (upd (upd (upd (upd (bm_AI B 12) (L.length * 10 + 0) x) (L.length * 10 + 1) v) (L.length * 10 + 4) m) ((L.length * 10) + 2) (-1)) ((L.length * 10) + 3) g) ((L.length * 10) + 9) (1 <<< (v &&& 31))) := ((AI_set (bm_setI (bm_setI B1 12 ((L.length * 10) + 2) (-1)) 12 ((L.length * 10) + 3) g) 12 ((L.length * 10) + 9) (1 <<< (v &&& 31))).trans (congrArg (fun f => upd f ((L.length * 10) + 9) (1 <<< (v &&& 31))) (show bm_AI (bm_setI (bm_setI B1 12 ((L.length * 10) + 2) (-1)) 12 ((L.length * 10) + 3) g) 12 = (upd (upd (upd (upd (upd (bm_AI B 12) (L.length * 10 + 0) x) (L.length * 10 + 1) v) (L.length * 10 + 4) m) ((L.length * 10) + 2) (-1)) ((L.length * 10) + 3) g) from A127)))
    have A136 : bm_AI (bm_setI (bm_setI (bm_setI B1 12 ((L.length * 10) + 2) (-1)) 12 ((L.length * 10) + 3) g) 12 ((L.length * 10) + 9) (1 <<< (v &&& 31))) 13 = (upd bd k (nI L.length)) := ((AI_setn (bm_setI (bm_setI B1 12 ((L.length * 10) + 2) (-1)) 12 ((L.length * 10) + 3) g) ((L.length * 10) + 9) (1 <<< (v &&& 31)) 13 (by decide)).trans (show bm_AI (bm_setI (bm_setI B1 12 ((L.length * 10) + 2) (-1)) 12 ((L.length * 10) + 3) g) 13 = (upd bd k (nI L.length)) from A128))
    have A137 : bm_AI (bm_setI (bm_setI (bm_setI B1 12 ((L.length * 10) + 2) (-1)) 12 ((L.length * 10) + 3) g) 12 ((L.length * 10) + 9) (1 <<< (v &&& 31))) 14 = ll := ((AI_setn (bm_setI (bm_setI B1 12 ((L.length * 10) + 2) (-1)) 12 ((L.length * 10) + 3) g) ((L.length * 10) + 9) (1 <<< (v &&& 31)) 14 (by decide)).trans (show bm_AI (bm_setI (bm_setI B1 12 ((L.length * 10) + 2) (-1)) 12 ((L.length * 10) + 3) g) 14 = ll from A129))
    have A138 : bm_AI (bm_setI (bm_setI (bm_setI B1 12 ((L.length * 10) + 2) (-1)) 12 ((L.length * 10) + 3) g) 12 ((L.length * 10) + 9) (1 <<< (v &&& 31))) 15 = tc := ((AI_setn (bm_setI (bm_setI B1 12 ((L.length * 10) + 2) (-1)) 12 ((L.length * 10) + 3) g) ((L.length * 10) + 9) (1 <<< (v &&& 31)) 15 (by decide)).trans (show bm_AI (bm_setI (bm_setI B1 12 ((L.length * 10) + 2) (-1)) 12 ((L.length * 10) + 3) g) 15 = tc from A130))
    have A139 : bm_AI (bm_setI (bm_setI (bm_setI B1 12 ((L.length * 10) + 2) (-1)) 12 ((L.length * 10) + 3) g) 12 ((L.length * 10) + 9) (1 <<< (v &&& 31))) 16 = tl := ((AI_setn (bm_setI (bm_setI B1 12 ((L.length * 10) + 2) (-1)) 12 ((L.length * 10) + 3) g) ((L.length * 10) + 9) (1 <<< (v &&& 31)) 16 (by decide)).trans (show bm_AI (bm_setI (bm_setI B1 12 ((L.length * 10) + 2) (-1)) 12 ((L.length * 10) + 3) g) 16 = tl from A131))
    have A140 : bm_AI (bm_setI (bm_setI (bm_setI B1 12 ((L.length * 10) + 2) (-1)) 12 ((L.length * 10) + 3) g) 12 ((L.length * 10) + 9) (1 <<< (v &&& 31))) 17 = tf := ((AI_setn (bm_setI (bm_setI B1 12 ((L.length * 10) + 2) (-1)) 12 ((L.length * 10) + 3) g) ((L.length * 10) + 9) (1 <<< (v &&& 31)) 17 (by decide)).trans (show bm_AI (bm_setI (bm_setI B1 12 ((L.length * 10) + 2) (-1)) 12 ((L.length * 10) + 3) g) 17 = tf from A132))
    have A141 : bm_AI (bm_setI (bm_setI (bm_setI B1 12 ((L.length * 10) + 2) (-1)) 12 ((L.length * 10) + 3) g) 12 ((L.length * 10) + 9) (1 <<< (v &&& 31))) 18 = tg := ((AI_setn (bm_setI (bm_setI B1 12 ((L.length * 10) + 2) (-1)) 12 ((L.length * 10) + 3) g) ((L.length * 10) + 9) (1 <<< (v &&& 31)) 18 (by decide)).trans (show bm_AI (bm_setI (bm_setI B1 12 ((L.length * 10) + 2) (-1)) 12 ((L.length * 10) + 3) g) 18 = tg from A133))
    have Z142 : fz lex B1 (bm_setI (bm_setI (bm_setI B1 12 ((L.length * 10) + 2) (-1)) 12 ((L.length * 10) + 3) g) 12 ((L.length * 10) + 9) (1 <<< (v &&& 31))) := fz_trans Z134 ⟨fr_mono (fun _ q => by unfold lex; omega) (fr_setI _ 12 _ _), rfl, rfl⟩
    refine g_ald (pc' := 56) cd_Le_addPosted rfl (Or.inr ⟨_, rfl, rfl, rfl⟩) l0 rfl rfl ?_
    refine g_fI (c := 4) (k := 11) (x := nI (L.length + 1)) (pc' := 59) cd_Le_addPosted rfl rfl rfl rfl rfl (by decide) hS1.1.1 hS1.1.2 e11 ?_
    refine g_k1 (v := 1) (pc' := 60) cd_Le_addPosted rfl (by decide) rfl ?_
    refine g_pure (pc' := 61) (st' := [.int ((nI (L.length + 1)) - 1)]) cd_Le_addPosted rfl rfl (fun _ _ => rfl) ?_
    rw [show ((nI (L.length + 1)) - 1 : Int32) = nI ((L.length + 1) - 1) from pk_sub (a := (L.length + 1)) (b := 1) (by omega)]
    have hNew : lt_post A v g m li = (A, v, (-1 : Int32), g, m, (0 : Int32), tz, tz, (0 : Int32), 1 <<< (v &&& 31)) := by unfold lt_post; rw [if_pos c39]
    rw [hNew] at kk
    have hR0 : RLc (bm_AI B 12) T L := hR.2.2
    have hg : bm_AI (bm_setI (bm_setI (bm_setI B1 12 ((L.length * 10) + 2) (-1)) 12 ((L.length * 10) + 3) g) 12 ((L.length * 10) + 9) (1 <<< (v &&& 31))) 12 = (upd (upd (upd (upd (upd (upd (bm_AI B 12) (L.length * 10 + 0) x) (L.length * 10 + 1) v) (L.length * 10 + 4) m) ((L.length * 10) + 2) (-1)) ((L.length * 10) + 3) g) ((L.length * 10) + 9) (1 <<< (v &&& 31))) := A135
    have hRow : lrow ((upd (upd (upd (upd (upd (upd (bm_AI B 12) (L.length * 10 + 0) x) (L.length * 10 + 1) v) (L.length * 10 + 4) m) ((L.length * 10) + 2) (-1)) ((L.length * 10) + 3) g) ((L.length * 10) + 9) (1 <<< (v &&& 31)))) T L.length (A, v, (-1 : Int32), g, m, (0 : Int32), tz, tz, (0 : Int32), 1 <<< (v &&& 31)) := ⟨(tvq (((pk_un (by omega)).trans (((pk_un (by omega)).trans (((pk_un (by omega)).trans (((pk_un (by omega)).trans (((pk_un (by omega)).trans (if_pos rfl))))))))))) hx), ((pk_un (by omega)).trans (((pk_un (by omega)).trans (((pk_un (by omega)).trans (((pk_un (by omega)).trans (if_pos rfl)))))))), ((pk_un (by omega)).trans (((pk_un (by omega)).trans (if_pos rfl)))), ((pk_un (by omega)).trans (if_pos rfl)), ((pk_un (by omega)).trans (((pk_un (by omega)).trans (((pk_un (by omega)).trans (if_pos rfl)))))), ((pk_un (by omega)).trans (((pk_un (by omega)).trans (((pk_un (by omega)).trans (((pk_un (by omega)).trans (((pk_un (by omega)).trans (((pk_un (by omega)).trans ((hR0.2 _ (by omega)))))))))))))), (tvq (((pk_un (by omega)).trans (((pk_un (by omega)).trans (((pk_un (by omega)).trans (((pk_un (by omega)).trans (((pk_un (by omega)).trans (((pk_un (by omega)).trans ((hR0.2 _ (by omega))))))))))))))) (TI_z hT)), (tvq (((pk_un (by omega)).trans (((pk_un (by omega)).trans (((pk_un (by omega)).trans (((pk_un (by omega)).trans (((pk_un (by omega)).trans (((pk_un (by omega)).trans ((hR0.2 _ (by omega))))))))))))))) (TI_z hT)), ((pk_un (by omega)).trans (((pk_un (by omega)).trans (((pk_un (by omega)).trans (((pk_un (by omega)).trans (((pk_un (by omega)).trans (((pk_un (by omega)).trans ((hR0.2 _ (by omega)))))))))))))), if_pos rfl⟩
    have hC : RLc (bm_AI (bm_setI (bm_setI (bm_setI B1 12 ((L.length * 10) + 2) (-1)) 12 ((L.length * 10) + 3) g) 12 ((L.length * 10) + 9) (1 <<< (v &&& 31))) 12) T (L ++ [(A, v, (-1 : Int32), g, m, (0 : Int32), tz, tz, (0 : Int32), 1 <<< (v &&& 31))]) := by rw [hg]; exact RLc_push hR.2.2 (fun j hj => (pk_un (by omega)).trans ((pk_un (by omega)).trans ((pk_un (by omega)).trans ((pk_un (by omega)).trans ((pk_un (by omega)).trans (pk_un (by omega))))))) hRow (fun j hj => (pk_un (by omega)).trans ((pk_un (by omega)).trans ((pk_un (by omega)).trans ((pk_un (by omega)).trans ((pk_un (by omega)).trans (pk_un (by omega)))))))
    exact g_reti cd_Le_addPosted rfl ⟨_, rfl, (bm_eq (kk _ ⟨LgS_fr hS1 Z142.1, ⟨⟨e11.trans (by simp), by simp; omega⟩, ⟨A136, A137, A138, A139, A140, A141⟩, ⟨ef.1, ef.2.1, (tvq rfl ef.2.2.1), ef.2.2.2.1⟩, ef.2.2.2.2.1, ef.2.2.2.2.2.1, ef.2.2.2.2.2.2⟩, hC⟩ (fz_trans hz1 Z142)) (congrArg nI (by omega)))⟩
def lg_with (bd : Nat → Int32) (A : Tm) : Int32 := if kd A = 1 then (if mk A < 0 then -1 else if 3000 ≤ mk A then -1 else bd (mk A).toNatClampNeg) else -1
theorem t_letterWith {sc : tm_X} {d : Nat} {ca rm dr : Nat} {B : bm_H} {T : List Tm} {L : List LT} {bd ll tc tl tf tg : Nat → Int32} {cf cg : Int32} {ct : Tm} {co : Bool} {li fo db : Int32} {x : Int32} {A : Tm} {Q : Int32 → bm_H → Prop} (hT : TI B 1 ca 3 4 rm dr T) (hR : RLe B T (L, bd, ll, tc, tl, tf, tg, cf, cg, ct, co, li, fo, db)) (hx : tv T x A) (kk : Q (lg_with bd A) B) : bm_Gi sc (d + 1) 126 [.ref 11, .ref 1, .int x] B Q := by
  show bm_G sc (d + 1) 126 0 [(0, .ref 11), (1, .ref 1), (2, .int x)] [] B _
  generalize elv : ([(0, .ref 11), (1, .ref 1), (2, .int x)] : tm_L) = lv
  have l0 : lv.lookup 0 = some (.ref 11) := by rw [← elv]; rfl
  have l1 : lv.lookup 1 = some (.ref 1) := by rw [← elv]; rfl
  have l2 : lv.lookup 2 = some (.int x) := by rw [← elv]; rfl
  clear elv
  refine g_ald (pc' := 1) cd_Le_letterWith rfl (Or.inr ⟨_, rfl, rfl, rfl⟩) l1 rfl rfl ?_
  refine g_ild (pc' := 2) cd_Le_letterWith rfl (Or.inr ⟨_, rfl, rfl, rfl⟩) l2 rfl ?_
  refine g_calli (pc' := 5) cd_Le_letterWith rfl rfl rfl rfl rfl (tm_invV rfl rfl cd_Te_kindOf rfl (Nat.le_of_ble_eq_true rfl) (by decide) hT.1.1.1 hT.1.1.2) (t_kindOf hT hx ?_)
  show bm_G _ _ _ 5 _ [.int (kd A)] B _
  refine g_k1 (v := 1) (pc' := 6) cd_Le_letterWith rfl (by decide) rfl ?_
  refine g_if2 (t := 17) (pc' := 9) cd_Le_letterWith rfl rfl rfl (fun c6 => ?_) (fun c6 => ?_)
  · have c6 : ¬ (kd A) = 1 := c6
    refine g_k1 (v := (-1)) (pc' := 18) cd_Le_letterWith rfl (by decide) rfl ?_
    refine g_ist (pc' := 19) cd_Le_letterWith rfl (Or.inr ⟨_, rfl, rfl, rfl⟩) (by decide) rfl (fun lv el => ?_)
    have l0 := tm_lk el l0 rfl (by decide)
    have l1 := tm_lk el l1 rfl (by decide)
    have l2 := tm_lk el l2 rfl (by decide)
    have l3 : lv.lookup 3 = some (.int (-1)) := tm_lks el
    clear el
    refine g_ild (pc' := 20) cd_Le_letterWith rfl (Or.inr ⟨_, rfl, rfl, rfl⟩) l3 rfl ?_
    refine g_if1 (t := 39) (pc' := 23) cd_Le_letterWith rfl rfl rfl (fun c20 => ?_) (fun c20 => ?_)
    · have c20 : ((-1) : Int32) < 0 := c20
      refine g_k1 (v := (-1)) (pc' := 40) cd_Le_letterWith rfl (by decide) rfl ?_
      exact g_reti cd_Le_letterWith rfl ⟨_, rfl, (bm_eq kk (by unfold lg_with; rw [if_neg c6]))⟩
    · exact absurd (show ¬ ((-1) : Int32) < 0 from c20) (by decide)
  · have c6 : (kd A) = 1 := Classical.not_not.mp c6
    refine g_ald (pc' := 10) cd_Le_letterWith rfl (Or.inr ⟨_, rfl, rfl, rfl⟩) l1 rfl rfl ?_
    refine g_ild (pc' := 11) cd_Le_letterWith rfl (Or.inr ⟨_, rfl, rfl, rfl⟩) l2 rfl ?_
    refine g_calli (pc' := 14) cd_Le_letterWith rfl rfl rfl rfl rfl (tm_invV rfl rfl cd_Te_markOf rfl (Nat.le_of_ble_eq_true rfl) (by decide) hT.1.1.1 hT.1.1.2) (t_markOf hT hx ?_)
    show bm_G _ _ _ 14 _ [.int (mk A)] B _
    refine g_pure (pc' := 18) (st' := [.int (mk A)]) cd_Le_letterWith rfl rfl (fun _ _ => rfl) ?_
    refine g_ist (pc' := 19) cd_Le_letterWith rfl (Or.inr ⟨_, rfl, rfl, rfl⟩) (by decide) rfl (fun lv el => ?_)
    have l0 := tm_lk el l0 rfl (by decide)
    have l1 := tm_lk el l1 rfl (by decide)
    have l2 := tm_lk el l2 rfl (by decide)
    have l3 : lv.lookup 3 = some (.int (mk A)) := tm_lks el
    clear el
    refine g_ild (pc' := 20) cd_Le_letterWith rfl (Or.inr ⟨_, rfl, rfl, rfl⟩) l3 rfl ?_
    refine g_if1 (t := 39) (pc' := 23) cd_Le_letterWith rfl rfl rfl (fun c20 => ?_) (fun c20 => ?_)
    · have c20 : (mk A) < 0 := c20
      refine g_k1 (v := (-1)) (pc' := 40) cd_Le_letterWith rfl (by decide) rfl ?_
      exact g_reti cd_Le_letterWith rfl ⟨_, rfl, (bm_eq kk (by unfold lg_with; rw [if_pos c6]; rw [if_pos c20]))⟩
    · have c20 : ¬ (mk A) < 0 := c20
      refine g_ild (pc' := 24) cd_Le_letterWith rfl (Or.inr ⟨_, rfl, rfl, rfl⟩) l3 rfl ?_
      refine g_k3 (v := 3000) (pc' := 27) cd_Le_letterWith rfl (by decide) rfl ?_
      refine g_if2 (t := 39) (pc' := 30) cd_Le_letterWith rfl rfl rfl (fun c27 => ?_) (fun c27 => ?_)
      · have c27 : (3000 : Int32) ≤ (mk A) := c27
        refine g_k1 (v := (-1)) (pc' := 40) cd_Le_letterWith rfl (by decide) rfl ?_
        exact g_reti cd_Le_letterWith rfl ⟨_, rfl, (bm_eq kk (by unfold lg_with; rw [if_pos c6]; rw [if_neg c20]; rw [if_pos c27]))⟩
      · have c27 : ¬ (3000 : Int32) ≤ (mk A) := c27
        refine g_ald (pc' := 31) cd_Le_letterWith rfl (Or.inr ⟨_, rfl, rfl, rfl⟩) l0 rfl rfl ?_
        refine g_fR (c := 4) (k := 1) (x := 13) (pc' := 34) cd_Le_letterWith rfl rfl rfl rfl rfl (by decide) hR.1.1.1 hR.1.1.2 hR.1.2.1.2.1 ?_
        refine g_ild (pc' := 35) cd_Le_letterWith rfl (Or.inr ⟨_, rfl, rfl, rfl⟩) l3 rfl ?_
        obtain ⟨j, hj, ej⟩ := nI_of c20
        have hj2 : j < 3000 := by rw [ej] at c27; exact Nat.lt_of_not_le (fun q => c27 (nI_le q hj))
        refine g_aI (x := (bd (mk A).toNatClampNeg)) (pc' := 36) cd_Le_letterWith rfl rfl hR.1.2.2.2.1.1 hR.1.2.2.2.1.2.1 (by rw [show bm_AL B 13 = 3000 from hR.1.2.2.2.1.2.2, ej]; exact vp_in_nI hj2 (by decide)) (congrFun hR.2.1.2.1.1 _) ?_
        refine g_pure (pc' := 40) (st' := [.int ((bd (mk A).toNatClampNeg))]) cd_Le_letterWith rfl rfl (fun _ _ => rfl) ?_
        exact g_reti cd_Le_letterWith rfl ⟨_, rfl, (bm_eq kk (by unfold lg_with; rw [if_pos c6]; rw [if_neg c20]; rw [if_neg c27]))⟩
