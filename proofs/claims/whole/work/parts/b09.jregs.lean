/-! The joint contracts: registers -/
theorem RS_reg2 {f f1 : Nat → Int32} {A A1 : Nat → Nat → Int32} {T T' : List Tm} {DL : List (Int32 × Int32)} {dev : Nat → DV} {sto : Nat → ST} {ws : List (Tm × Int32)} {dir reg reg' : Nat → Tm} {seen : List Tm} {ls : List RL} {lo : Nat → Int32} {R : RR} (hS0 : RS f A T DL dev sto ws dir reg seen ls lo R) (hT : T <+: T') (ef : ∀ k, ¬ (k = 0 ∨ k = 7) → f1 k = f k) (eA : ∀ j, ¬ (1 ≤ j ∧ j ≤ 9) → j ≠ 45 → A1 j = A j) (hg : ∀ i, i < 32 → tv T' (A1 45 i) (reg' i)) : RS f1 A1 T' DL dev sto ws dir reg' seen ls lo R := by
  obtain ⟨dt, db, rt, fl, ll, tl, tf, tg, tm, ck, fo, du⟩ := R
  have hS := RS_m hT hS0
  obtain ⟨⟨q1, q2, q3⟩, ⟨q4, q5, q6, q7, q8, q9⟩, ⟨q10, q12⟩, ⟨q13, q14, q15, q16⟩, ⟨q17, q17b, q17c⟩, ⟨q18, q19⟩, q20, q21, q22, q23⟩ := hS
  have E : ∀ {j : Nat}, 10 ≤ j → j ≠ 45 → A1 j = A j := fun {j} a b => eA j (by omega) b
  exact ⟨⟨fun p hp => by rw [E (j := 16) (by decide) (by decide)]; exact q1 p hp, fun p hp => by rw [E (j := 14) (by decide) (by decide)]; exact q2 p hp, fun p hp => qSt_c (List.prefix_refl T') (by rw [E (j := 21) (by decide) (by decide)]) (by rw [E (j := 22) (by decide) (by decide)]) (by rw [E (j := 23) (by decide) (by decide)]) (fun _ _ => by rw [E (j := 20) (by decide) (by decide)]) (fun _ _ _ _ => by rw [E (j := 19) (by decide) (by decide)]) (fun _ _ _ _ => by rw [E (j := 18) (by decide) (by decide)]) (q3 p hp)⟩, ⟨qWi_m (List.prefix_refl T') (ef 40 (by decide)) (E (by decide) (by decide)) (E (by decide) (by decide)) q4, fun i hi => by rw [E (j := 17) (by decide) (by decide)]; exact q5 i hi, hg, (ef 63 (by decide)).trans q7, q8, fun i X hX => by rw [E (j := 46) (by decide) (by decide)]; exact q9 i X hX⟩, ⟨qLs_m (List.prefix_refl T') (ef 43 (by decide)) (fun j j1 j2 => E (by omega) (by omega)) q10, (E (by decide) (by decide)).trans q12⟩, ⟨(ef 11 (by decide)).trans q13, (ef 21 (by decide)).trans q14, (ef 53 (by decide)).trans q15, (ef 54 (by decide)).trans q16⟩, ⟨(E (by decide) (by decide)).trans q17, (E (by decide) (by decide)).trans q17b, (E (by decide) (by decide)).trans q17c⟩, ⟨(E (by decide) (by decide)).trans q18, (E (by decide) (by decide)).trans q19⟩, (E (by decide) (by decide)).trans q20, (E (by decide) (by decide)).trans q21, (E (by decide) (by decide)).trans q22, (E (by decide) (by decide)).trans q23⟩
theorem mjF_out {f f1 : Nat → Int32} : ∀ k, ¬ (k = 0 ∨ k = 7) → mjF f1 f k = f k := fun k q => if_neg q
theorem mjA_out {A A1 : Nat → Nat → Int32} {g : Nat → Int32} : ∀ j, ¬ (1 ≤ j ∧ j ≤ 9) → j ≠ 45 → fset (mjA A1 A) 45 g j = A j := fun j q1 q2 => (fset_ne q2).trans (if_neg (by omega))
theorem f45_out {A : Nat → Nat → Int32} {g : Nat → Int32} : ∀ j, ¬ (1 ≤ j ∧ j ≤ 9) → j ≠ 45 → fset A 45 g j = A j := fun j _ q2 => fset_ne q2
set_option maxRecDepth 100000 in
theorem P_make {sc : tm_X} {d N S n : Nat} {B : bm_H} {DL : List (Int32 × Int32)} {dev : Nat → DV} {sto : Nat → ST} {ws : List (Tm × Int32)} {dir reg : Nat → Tm} {seen : List Tm} {G : Tm → Prop} {ls : List RL} {lo : Nat → Int32} {R : RR} {L : LG} {r a x y : Int32} {Q : Int32 → Int32 → bm_H → Prop} (hJ : J N S n B DL dev sto ws dir reg seen G L ls lo R) (hn : n < 64)  (kk : ∀ B2, J N S (n + 1) B2 DL dev sto ws dir ((mk_spec reg r a x y).2) seen G L ls lo R → Q (mk_spec reg r a x y).1 (mk_spec reg r a x y).1 B2) : PR sc (d + 12) 142 259 [.int r, .int a, .int x, .int y] B Q := by
  obtain ⟨f, A, T, T0, K, Kw, ca, rm, kc, kl, rk, M, ln, wt, π, w, dv, idc, ⟨hC, hH0, hdv, hid⟩, ⟨hMo, hs0, hM, hS⟩, ⟨hKG, hKs, h16, hlk⟩, hTl, hPh, hrc⟩ := hJ
  have hH := RH_ids (ids' := fun q => (dev q).1) hH0 (fun q hq => (hid q hq).symm)
  refine t_make (F := mX) hC hH (by omega) (fun B1 T1 M1 ca1 rm1 pT qT hC1 hH1 hf1 => ?_)
  obtain ⟨A1, hMo1, hs1, hM1, hS1, hr1, -⟩ := J_cls hf1 hMo hs0 hM hS
  refine m_run hMo1 hs1 (mo_make hM1 hS1.2.1.2.2.1 (by omega) (by omega) (fun f2 A2 T2 g2 hx hg => ?_))
  obtain ⟨pU, qU, sU, hM2⟩ := hx
  intro B2 hF2 hs2
  have sU : rc (A2 1) T2.length ≤ rc (A1 1) T0.length + 0 := sU
  exact kk B2 (J_mk hF2 hs2 hC1 hH1 hdv (fun _ _ => rfl) (by exact MT_i hM2 rfl rfl rfl rfl rfl rfl rfl rfl rfl rfl) (RS_reg2 hS1 pU mjF_out mjA_out hg) hKG hKs (st_keep (f1 := mjF f2 f) h16 (Or.inr rfl)) (lk_mono hlk pT (Nat.le_refl _)) (by omega) (by omega) (show rc (A2 1) T2.length ≤ _ by omega))
set_option maxRecDepth 100000 in
theorem P_seal {sc : tm_X} {d N S n : Nat} {B : bm_H} {DL : List (Int32 × Int32)} {dev : Nat → DV} {sto : Nat → ST} {ws : List (Tm × Int32)} {dir reg : Nat → Tm} {seen : List Tm} {G : Tm → Prop} {ls : List RL} {lo : Nat → Int32} {R : RR} {L : LG} {r k h b : Int32} {Q : Int32 → Int32 → bm_H → Prop} (hJ : J N S n B DL dev sto ws dir reg seen G L ls lo R) (hn : n < 64)  (kk : ∀ B2, J N S (n + 1) B2 DL dev sto ws dir ((sl_spec reg r k h b).2) seen G L ls lo R → Q (sl_spec reg r k h b).1 (sl_spec reg r k h b).1 B2) : PR sc (d + 12) 144 260 [.int r, .int k, .int h, .int b] B Q := by
  obtain ⟨f, A, T, T0, K, Kw, ca, rm, kc, kl, rk, M, ln, wt, π, w, dv, idc, ⟨hC, hH0, hdv, hid⟩, ⟨hMo, hs0, hM, hS⟩, ⟨hKG, hKs, h16, hlk⟩, hTl, hPh, hrc⟩ := hJ
  have hH := RH_ids (ids' := fun q => (dev q).1) hH0 (fun q hq => (hid q hq).symm)
  refine t_seal (F := mX) hC hH (by omega) (fun B1 T1 M1 ca1 rm1 pT qT hC1 hH1 hf1 => ?_)
  obtain ⟨A1, hMo1, hs1, hM1, hS1, hr1, -⟩ := J_cls hf1 hMo hs0 hM hS
  refine m_run hMo1 hs1 (mo_seal hM1 hS1.2.1.2.2.1 (by omega) (by omega) (fun f2 A2 T2 g2 hx hg => ?_))
  obtain ⟨pU, qU, sU, hM2⟩ := hx
  intro B2 hF2 hs2
  have sU : rc (A2 1) T2.length ≤ rc (A1 1) T0.length + 0 := sU
  exact kk B2 (J_mk hF2 hs2 hC1 hH1 hdv (fun _ _ => rfl) (by exact MT_i hM2 rfl rfl rfl rfl rfl rfl rfl rfl rfl rfl) (RS_reg2 hS1 pU mjF_out mjA_out hg) hKG hKs (st_keep (f1 := mjF f2 f) h16 (Or.inr rfl)) (lk_mono hlk pT (Nat.le_refl _)) (by omega) (by omega) (show rc (A2 1) T2.length ≤ _ by omega))
set_option maxRecDepth 100000 in
theorem P_unseal {sc : tm_X} {d N S n : Nat} {B : bm_H} {DL : List (Int32 × Int32)} {dev : Nat → DV} {sto : Nat → ST} {ws : List (Tm × Int32)} {dir reg : Nat → Tm} {seen : List Tm} {G : Tm → Prop} {ls : List RL} {lo : Nat → Int32} {R : RR} {L : LG} {r x k : Int32} {Q : Int32 → Int32 → bm_H → Prop} (hJ : J N S n B DL dev sto ws dir reg seen G L ls lo R) (hn : n < 64)  (kk : ∀ B2, J N S (n + 1) B2 DL dev sto ws dir ((un_spec reg r x k).2) seen G L ls lo R → Q (un_spec reg r x k).1 (un_spec reg r x k).1 B2) : PR sc (d + 12) 141 258 [.int r, .int x, .int k] B Q := by
  obtain ⟨f, A, T, T0, K, Kw, ca, rm, kc, kl, rk, M, ln, wt, π, w, dv, idc, ⟨hC, hH0, hdv, hid⟩, ⟨hMo, hs0, hM, hS⟩, ⟨hKG, hKs, h16, hlk⟩, hTl, hPh, hrc⟩ := hJ
  have hH := RH_ids (ids' := fun q => (dev q).1) hH0 (fun q hq => (hid q hq).symm)
  refine t_unseal (F := mX) hC hH  (fun B1 T1 M1 ca1 rm1 pT qT hC1 hH1 hf1 => ?_)
  obtain ⟨A1, hMo1, hs1, hM1, hS1, hr1, -⟩ := J_cls hf1 hMo hs0 hM hS
  refine m_run hMo1 hs1 (mo_unseal hM1 hS1.2.1.2.2.1  (fun g2 hg => ?_))
  intro B2 hF2 hs2
  exact kk B2 (J_mk hF2 hs2 hC1 hH1 hdv (fun _ _ => rfl) (by exact MT_i hM1 rfl rfl rfl rfl rfl rfl rfl rfl rfl rfl) (RS_reg2 hS1 (List.prefix_refl T0) (fun _ _ => rfl) f45_out hg) hKG hKs h16 (lk_mono hlk pT (Nat.le_refl _)) (by omega) (by omega) (show rc (A1 1) T0.length ≤ _ by omega))
set_option maxRecDepth 100000 in
theorem P_alter {sc : tm_X} {d N S n : Nat} {B : bm_H} {DL : List (Int32 × Int32)} {dev : Nat → DV} {sto : Nat → ST} {ws : List (Tm × Int32)} {dir reg : Nat → Tm} {seen : List Tm} {G : Tm → Prop} {ls : List RL} {lo : Nat → Int32} {R : RR} {L : LG} {r x k v : Int32} {Q : Int32 → Int32 → bm_H → Prop} (hJ : J N S n B DL dev sto ws dir reg seen G L ls lo R) (hn : n < 64)  (kk : ∀ B2, J N S (n + 1) B2 DL dev sto ws dir ((al_spec reg r x k v).2) seen G L ls lo R → Q (al_spec reg r x k v).1 (al_spec reg r x k v).1 B2) : PR sc (d + 12) 145 261 [.int r, .int x, .int k, .int v] B Q := by
  obtain ⟨f, A, T, T0, K, Kw, ca, rm, kc, kl, rk, M, ln, wt, π, w, dv, idc, ⟨hC, hH0, hdv, hid⟩, ⟨hMo, hs0, hM, hS⟩, ⟨hKG, hKs, h16, hlk⟩, hTl, hPh, hrc⟩ := hJ
  have hH := RH_ids (ids' := fun q => (dev q).1) hH0 (fun q hq => (hid q hq).symm)
  refine t_alter (F := mX) hC hH (by omega) (fun B1 T1 M1 ca1 rm1 pT qT hC1 hH1 hf1 => ?_)
  obtain ⟨A1, hMo1, hs1, hM1, hS1, hr1, -⟩ := J_cls hf1 hMo hs0 hM hS
  refine m_run hMo1 hs1 (mo_alter hM1 hS1.2.1.2.2.1 (by omega) (by omega) (fun f2 A2 T2 pU qU sU hM2 ef eA hg => ?_))
  intro B2 hF2 hs2
  exact kk B2 (J_mk hF2 hs2 hC1 hH1 hdv (fun _ _ => rfl) hM2 (RS_reg2 hS1 pU ef eA hg) hKG hKs (st_keep h16 (Or.inr (ef 16 (by decide)))) (lk_mono hlk pT (Nat.le_refl _)) (by omega) (by omega) (by omega))
set_option maxRecDepth 100000 in
theorem P_swap {sc : tm_X} {d N S n : Nat} {B : bm_H} {DL : List (Int32 × Int32)} {dev : Nat → DV} {sto : Nat → ST} {ws : List (Tm × Int32)} {dir reg : Nat → Tm} {seen : List Tm} {G : Tm → Prop} {ls : List RL} {lo : Nat → Int32} {R : RR} {L : LG} {r x k y : Int32} {Q : Int32 → Int32 → bm_H → Prop} (hJ : J N S n B DL dev sto ws dir reg seen G L ls lo R) (hn : n < 64)  (kk : ∀ B2, J N S (n + 1) B2 DL dev sto ws dir ((sp_spec reg r x k y).2) seen G L ls lo R → Q (sp_spec reg r x k y).1 (sp_spec reg r x k y).1 B2) : PR sc (d + 12) 149 263 [.int r, .int x, .int k, .int y] B Q := by
  obtain ⟨f, A, T, T0, K, Kw, ca, rm, kc, kl, rk, M, ln, wt, π, w, dv, idc, ⟨hC, hH0, hdv, hid⟩, ⟨hMo, hs0, hM, hS⟩, ⟨hKG, hKs, h16, hlk⟩, hTl, hPh, hrc⟩ := hJ
  have hH := RH_ids (ids' := fun q => (dev q).1) hH0 (fun q hq => (hid q hq).symm)
  refine t_swap (F := mX) hC hH (by omega) (fun B1 T1 M1 ca1 rm1 pT qT hC1 hH1 hf1 => ?_)
  obtain ⟨A1, hMo1, hs1, hM1, hS1, hr1, -⟩ := J_cls hf1 hMo hs0 hM hS
  refine m_run hMo1 hs1 (mo_swap hM1 hS1.2.1.2.2.1 (by omega) (by omega) (fun f2 A2 T2 pU qU sU hM2 ef eA hg => ?_))
  intro B2 hF2 hs2
  exact kk B2 (J_mk hF2 hs2 hC1 hH1 hdv (fun _ _ => rfl) hM2 (RS_reg2 hS1 pU ef eA hg) hKG hKs (st_keep h16 (Or.inr (ef 16 (by decide)))) (lk_mono hlk pT (Nat.le_refl _)) (by omega) (by omega) (by omega))
set_option maxRecDepth 100000 in
theorem P_take {sc : tm_X} {d N S n : Nat} {B : bm_H} {DL : List (Int32 × Int32)} {dev : Nat → DV} {sto : Nat → ST} {ws : List (Tm × Int32)} {dir reg : Nat → Tm} {seen : List Tm} {G : Tm → Prop} {ls : List RL} {lo : Nat → Int32} {R : RR} {L : LG} {r a z : Int32} {Q : Int32 → Int32 → bm_H → Prop} (hJ : J N S n B DL dev sto ws dir reg seen G L ls lo R) (hn : n < 64) (kid : ∀ q, q < 6 → kd ((fun q => (dev q).1) q) = 1) (kk : ∀ B2, J N S (n + 1) B2 DL dev sto ws dir ((kp reg r (of_spec ws (fun q => (dev q).1) dir seen a z)).2) seen G L ls lo R → Q (kp reg r (of_spec ws (fun q => (dev q).1) dir seen a z)).1 (kp reg r (of_spec ws (fun q => (dev q).1) dir seen a z)).1 B2) : PR sc (d + 12) 138 256 [.int r, .int a, .int z] B Q := by
  obtain ⟨f, A, T, T0, K, Kw, ca, rm, kc, kl, rk, M, ln, wt, π, w, dv, idc, ⟨hC, hH0, hdv, hid⟩, ⟨hMo, hs0, hM, hS⟩, ⟨hKG, hKs, h16, hlk⟩, hTl, hPh, hrc⟩ := hJ
  have hH := RH_ids (ids' := fun q => (dev q).1) hH0 (fun q hq => (hid q hq).symm)
  refine t_take (F := mX) hC hH kid (fun B1 T1 M1 ca1 rm1 pT qT hC1 hH1 hf1 => ?_)
  obtain ⟨A1, hMo1, hs1, hM1, hS1, hr1, -⟩ := J_cls hf1 hMo hs0 hM hS
  refine m_run hMo1 hs1 (mo_take hM1 hS1.2.1.2.2.1 (by omega) (by omega) hS1.2.1.1 hS1.1.1 kid hS1.2.1.2.1 hS1.2.1.2.2.2.1 hS1.2.1.2.2.2.2.1 hS1.2.1.2.2.2.2.2 (fun f2 A2 T2 g2 hx hg => ?_))
  obtain ⟨pU, qU, sU, hM2⟩ := hx
  intro B2 hF2 hs2
  have sU : rc (A2 1) T2.length ≤ rc (A1 1) T0.length + 0 := sU
  exact kk B2 (J_mk hF2 hs2 hC1 hH1 hdv (fun _ _ => rfl) (by exact MT_i hM2 rfl rfl rfl rfl rfl rfl rfl rfl rfl rfl) (RS_reg2 hS1 pU mjF_out mjA_out hg) hKG hKs (st_keep (f1 := mjF f2 f) h16 (Or.inr rfl)) (lk_mono hlk pT (Nat.le_refl _)) (by omega) (by omega) (show rc (A2 1) T2.length ≤ _ by omega))
set_option maxRecDepth 100000 in
theorem P_part {sc : tm_X} {d N S n : Nat} {B : bm_H} {DL : List (Int32 × Int32)} {dev : Nat → DV} {sto : Nat → ST} {ws : List (Tm × Int32)} {dir reg : Nat → Tm} {seen : List Tm} {G : Tm → Prop} {ls : List RL} {lo : Nat → Int32} {R : RR} {L : LG} {r x a : Int32} {Q : Int32 → Int32 → bm_H → Prop} (hJ : J N S n B DL dev sto ws dir reg seen G L ls lo R) (hn : n < 64)  (kk : ∀ B2, J N S (n + 1) B2 DL dev sto ws dir ((kp reg r (pa_spec reg x a)).2) seen G L ls lo R → Q (kp reg r (pa_spec reg x a)).1 (kp reg r (pa_spec reg x a)).1 B2) : PR sc (d + 12) 140 257 [.int r, .int x, .int a] B Q := by
  obtain ⟨f, A, T, T0, K, Kw, ca, rm, kc, kl, rk, M, ln, wt, π, w, dv, idc, ⟨hC, hH0, hdv, hid⟩, ⟨hMo, hs0, hM, hS⟩, ⟨hKG, hKs, h16, hlk⟩, hTl, hPh, hrc⟩ := hJ
  have hH := RH_ids (ids' := fun q => (dev q).1) hH0 (fun q hq => (hid q hq).symm)
  by_cases ha : inR a 4 = true
  · obtain ⟨i, hi, rfl⟩ : ∃ i, i < 4 ∧ a = nI i := by
      unfold inR at ha
      simp at ha
      obtain ⟨j, hj, rfl⟩ := nI_of (Int32.not_lt.mpr ha.1)
      exact ⟨j, (nI_ltI (b := 4) hj (by decide)).mp ha.2, rfl⟩
    refine t_partA (F := mX) hC hH hi (fun B1 T1 M1 ca1 rm1 pT qT hC1 hH1 hf1 => ?_)
    obtain ⟨A1, hMo1, hs1, hM1, hS1, hr1, -⟩ := J_cls hf1 hMo hs0 hM hS
    refine m_run hMo1 hs1 (mo_part hM1 hS1.2.1.2.2.1  (fun g2 hg => ?_))
    intro B2 hF2 hs2
    exact kk B2 (J_mk hF2 hs2 hC1 hH1 hdv (fun _ _ => rfl) (by exact MT_i hM1 rfl rfl rfl rfl rfl rfl rfl rfl rfl rfl) (RS_reg2 hS1 (List.prefix_refl T0) (fun _ _ => rfl) f45_out hg) hKG hKs h16 (lk_mono hlk pT (Nat.le_refl _)) (by omega) (by omega) (show rc (A1 1) T0.length ≤ _ by omega))
  · refine t_partB (F := mX) hC hH (by simpa using ha) (fun B1 T1 M1 ca1 rm1 pT qT hC1 hH1 hf1 => ?_)
    obtain ⟨A1, hMo1, hs1, hM1, hS1, hr1, -⟩ := J_cls hf1 hMo hs0 hM hS
    refine m_run hMo1 hs1 (mo_part hM1 hS1.2.1.2.2.1  (fun g2 hg => ?_))
    intro B2 hF2 hs2
    exact kk B2 (J_mk hF2 hs2 hC1 hH1 hdv (fun _ _ => rfl) (by exact MT_i hM1 rfl rfl rfl rfl rfl rfl rfl rfl rfl rfl) (RS_reg2 hS1 (List.prefix_refl T0) (fun _ _ => rfl) f45_out hg) hKG hKs h16 (lk_mono hlk pT (Nat.le_refl _)) (by omega) (by omega) (show rc (A1 1) T0.length ≤ _ by omega))
