/-! The house: rows, keys announced -/
theorem te_xc {B : bm_H} {F : Nat → Prop} {N S M ln : Nat} {T : List Tm} {dr : Nat} {K : Tm → Prop} {ca rm kc kl rk : Nat} (h : CK B F N S M ln T dr K ca rm kc kl rk) {B' : bm_H} (hf : fz (tcs 1 ca 3 4) B B') : fr (xc F) B B' := fr_mono (fun y q => CK_xc h y q) hf.1
theorem RH_te {B : bm_H} {F : Nat → Prop} {N S M ln : Nat} {T : List Tm} {dr : Nat} {K : Tm → Prop} {ca rm kc kl rk : Nat} {ws : List (Tm × Int32)} {wt : List Tm} {G : LG} {ids dir reg : Nat → Tm} {seen : List Tm} {π : Nat → Nat} {w : Nat → SW} {dev : Nat → DV} {sto : Nat → ST} (hC : CK B F N S M ln T dr K ca rm kc kl rk) (hH : RH B T ws wt G ids dir reg seen π w dev sto) {B' : bm_H} {T' : List Tm} (hf : fz (tcs 1 ca 3 4) B B') (hT : T <+: T') : RH B' T' ws wt G ids dir reg seen π w dev sto := RH_fr hH hf.1 (fun y q r => by have := hC.2.2.2.2.2.1; unfold tcs at r; omega) hT
theorem RH_xc {B : bm_H} {F : Nat → Prop} {T : List Tm} {ws : List (Tm × Int32)} {wt : List Tm} {G : LG} {ids dir reg : Nat → Tm} {seen : List Tm} {π : Nat → Nat} {w : Nat → SW} {dev : Nat → DV} {sto : Nat → ST} (hH : RH B T ws wt G ids dir reg seen π w dev sto) {B' : bm_H} {T' : List Tm} (hf : fr (xc F) B B') (hT : T <+: T') : RH B' T' ws wt G ids dir reg seen π w dev sto := RH_fr hH hf (fun y q r => by unfold xc at r; omega) hT
set_option maxRecDepth 100000 in
theorem t_letterRow {sc : tm_X} {d : Nat} {B : bm_H} {F : Nat → Prop} {N S M ln : Nat} {T : List Tm} {dr : Nat} {K : Tm → Prop} {ca rm kc kl rk : Nat} {ws : List (Tm × Int32)} {wt : List Tm} {G : LG} {ids dir reg : Nat → Tm} {seen : List Tm} {π : Nat → Nat} {w : Nat → SW} {dev : Nat → DV} {sto : Nat → ST} {x : Int32} {A : Tm} {Q : Int32 → bm_H → Prop} (hC : CK B F N S M ln T dr K ca rm kc kl rk) (hH : RH B T ws wt G ids dir reg seen π w dev sto) (hx : tv T x A) (hM : T.length + 1 < M) (kk : ∀ B' T' r, T <+: T' → T'.length ≤ T.length + 1 → CK B' F N S M ln T' dr K ca rm kc kl rk → RH B' T' ws wt G ids dir reg seen π w dev sto → tv T' r (Trw 4 0 0 0 0 A tz tz tz) → fz (tcs 1 ca 3 4) B B' → Q r B') : bm_Gi sc (d + 3) 87 [.ref 0, .int x] B Q := by
  have hrm := hC.2.2.2.2.1.2
  show bm_G sc (d + 3) 87 0 [(0, .ref 0), (1, .int x)] [] B _
  generalize elv : ([(0, .ref 0), (1, .int x)] : tm_L) = lv
  have l0 : lv.lookup 0 = some (.ref 0) := by rw [← elv]; rfl
  have l1 : lv.lookup 1 = some (.int x) := by rw [← elv]; rfl
  clear elv
  refine g_ald (pc' := 1) cd_Ho_letterRow rfl (Or.inr ⟨_, rfl, rfl, rfl⟩) l0 rfl rfl ?_
  refine g_fR (c := 11) (k := 0) (x := 1) (pc' := 4) cd_Ho_letterRow rfl rfl rfl rfl rfl (by decide) hH.1.1.1 hH.1.1.2 hH.1.2.1.1 ?_
  refine g_k1 (v := 4) (pc' := 5) cd_Ho_letterRow rfl (by decide) rfl ?_
  refine g_k1 (v := 0) (pc' := 6) cd_Ho_letterRow rfl (by decide) rfl ?_
  refine g_k1 (v := 0) (pc' := 7) cd_Ho_letterRow rfl (by decide) rfl ?_
  refine g_k1 (v := 0) (pc' := 8) cd_Ho_letterRow rfl (by decide) rfl ?_
  refine g_k1 (v := 0) (pc' := 9) cd_Ho_letterRow rfl (by decide) rfl ?_
  refine g_callv (pc' := 12) cd_Ho_letterRow rfl rfl rfl rfl rfl (tm_invV rfl rfl cd_Te_startRow rfl (Nat.le_of_ble_eq_true rfl) (by decide) hC.1.1.1.1 hC.1.1.1.2) (t_startRow hC.1 ?_)
  have f1_0 := fr_lt (fz_te (tt_draft_fr B 1 ca 3 4 4 0 0 0 0)).1 hH.1.1.1
  have g1_0 := (fr_K (fz_te (tt_draft_fr B 1 ca 3 4 4 0 0 0 0)).1 hH.1.1.1).trans hH.1.1.2
  have f1_1 := fr_lt (fz_te (tt_draft_fr B 1 ca 3 4 4 0 0 0 0)).1 hC.1.1.1.1
  have g1_1 := (fr_K (fz_te (tt_draft_fr B 1 ca 3 4 4 0 0 0 0)).1 hC.1.1.1.1).trans hC.1.1.1.2
  have r1_0 : bm_FR (tt_draft B 4 4 0 0 0 0) 11 0 0 = some 1 := (fr_FS (fz_te (tt_draft_fr B 1 ca 3 4 4 0 0 0 0)).1 hH.1.1.1 11 0 rfl).trans hH.1.2.1.1
  show bm_G _ _ _ 12 _ [] (tt_draft B 4 4 0 0 0 0) _
  refine g_ald (pc' := 13) cd_Ho_letterRow rfl (Or.inr ⟨_, rfl, rfl, rfl⟩) l0 rfl rfl ?_
  refine g_fR (c := 11) (k := 0) (x := 1) (pc' := 16) cd_Ho_letterRow rfl rfl rfl rfl rfl (by decide) f1_0 g1_0 r1_0 ?_
  refine g_ild (pc' := 17) cd_Ho_letterRow rfl (Or.inr ⟨_, rfl, rfl, rfl⟩) l1 rfl ?_
  refine g_k1 (v := 0) (pc' := 18) cd_Ho_letterRow rfl (by decide) rfl ?_
  refine g_k1 (v := 0) (pc' := 19) cd_Ho_letterRow rfl (by decide) rfl ?_
  refine g_k1 (v := 0) (pc' := 20) cd_Ho_letterRow rfl (by decide) rfl ?_
  refine g_calli (pc' := 23) cd_Ho_letterRow rfl rfl rfl rfl rfl (tm_invV rfl rfl cd_Te_endRow rfl (Nat.le_of_ble_eq_true rfl) (by decide) f1_1 g1_1) (t_endRow hC.1 (by omega) hx (TI_z hC.1) (TI_z hC.1) (TI_z hC.1) (fun B2 T2 r2 hx2 ht2 => ?_))
  have hT2 := hx2.2.2.1
  have hl2 := hx2.2.1
  have hf2 := (fz_te hx2.2.2.2).1
  have hz2 := fz_te hx2.2.2.2
  have f3_0 := fr_lt hf2 hH.1.1.1
  have g3_0 := (fr_K hf2 hH.1.1.1).trans hH.1.1.2
  have f3_1 := fr_lt hf2 hC.1.1.1.1
  have g3_1 := (fr_K hf2 hC.1.1.1.1).trans hC.1.1.1.2
  have r3_0 : bm_FR B2 11 0 0 = some 1 := (fr_FS hf2 hH.1.1.1 11 0 rfl).trans hH.1.2.1.1
  have tv4_0 := tv_mono hx2.1 hx
  have Z5 : fz (tcs 1 ca 3 4) B B2 := fz_trans (fz_rfl _ B) (fz_mono (fun _ q => q) hz2)
  show bm_G _ _ _ 23 _ [.int r2] B2 _
  exact g_reti cd_Ho_letterRow rfl ⟨_, rfl, (kk _ _ _ hx2.1 (by omega) (CK_made hC hT2 hx2.1 Z5 (fun y q => Or.inl q)) (RH_te hC hH Z5 hx2.1) ht2 Z5)⟩
set_option maxRecDepth 100000 in
theorem t_keyRow {sc : tm_X} {d : Nat} {B : bm_H} {F : Nat → Prop} {N S M ln : Nat} {T : List Tm} {dr : Nat} {K : Tm → Prop} {ca rm kc kl rk : Nat} {ws : List (Tm × Int32)} {wt : List Tm} {G : LG} {ids dir reg : Nat → Tm} {seen : List Tm} {π : Nat → Nat} {w : Nat → SW} {dev : Nat → DV} {sto : Nat → ST} {k v n x : Int32} {A : Tm} {Q : Int32 → bm_H → Prop} (hC : CK B F N S M ln T dr K ca rm kc kl rk) (hH : RH B T ws wt G ids dir reg seen π w dev sto) (hx : tv T x A) (hk : kd A = 1) (hM : T.length + 1 < M) (kk : ∀ B' T' r, T <+: T' → T'.length ≤ T.length + 1 → CK B' F N S M ln T' dr K ca rm kc kl rk → RH B' T' ws wt G ids dir reg seen π w dev sto → tv T' r (Trw k v n 0 0 (Tpub A) tz tz tz) → fz (tcs 1 ca 3 4) B B' → Q r B') : bm_Gi sc (d + 3) 59 [.ref 0, .int k, .int v, .int n, .int x] B Q := by
  have hrm := hC.2.2.2.2.1.2
  show bm_G sc (d + 3) 59 0 [(0, .ref 0), (1, .int k), (2, .int v), (3, .int n), (4, .int x)] [] B _
  generalize elv : ([(0, .ref 0), (1, .int k), (2, .int v), (3, .int n), (4, .int x)] : tm_L) = lv
  have l0 : lv.lookup 0 = some (.ref 0) := by rw [← elv]; rfl
  have l1 : lv.lookup 1 = some (.int k) := by rw [← elv]; rfl
  have l2 : lv.lookup 2 = some (.int v) := by rw [← elv]; rfl
  have l3 : lv.lookup 3 = some (.int n) := by rw [← elv]; rfl
  have l4 : lv.lookup 4 = some (.int x) := by rw [← elv]; rfl
  clear elv
  refine g_ald (pc' := 1) cd_Ho_keyRow rfl (Or.inr ⟨_, rfl, rfl, rfl⟩) l0 rfl rfl ?_
  refine g_fR (c := 11) (k := 0) (x := 1) (pc' := 4) cd_Ho_keyRow rfl rfl rfl rfl rfl (by decide) hH.1.1.1 hH.1.1.2 hH.1.2.1.1 ?_
  refine g_ild (pc' := 5) cd_Ho_keyRow rfl (Or.inr ⟨_, rfl, rfl, rfl⟩) l1 rfl ?_
  refine g_ild (pc' := 6) cd_Ho_keyRow rfl (Or.inr ⟨_, rfl, rfl, rfl⟩) l2 rfl ?_
  refine g_ild (pc' := 7) cd_Ho_keyRow rfl (Or.inr ⟨_, rfl, rfl, rfl⟩) l3 rfl ?_
  refine g_k1 (v := 0) (pc' := 8) cd_Ho_keyRow rfl (by decide) rfl ?_
  refine g_k1 (v := 0) (pc' := 9) cd_Ho_keyRow rfl (by decide) rfl ?_
  refine g_callv (pc' := 12) cd_Ho_keyRow rfl rfl rfl rfl rfl (tm_invV rfl rfl cd_Te_startRow rfl (Nat.le_of_ble_eq_true rfl) (by decide) hC.1.1.1.1 hC.1.1.1.2) (t_startRow hC.1 ?_)
  have f6_0 := fr_lt (fz_te (tt_draft_fr B 1 ca 3 4 k v n 0 0)).1 hH.1.1.1
  have g6_0 := (fr_K (fz_te (tt_draft_fr B 1 ca 3 4 k v n 0 0)).1 hH.1.1.1).trans hH.1.1.2
  have f6_1 := fr_lt (fz_te (tt_draft_fr B 1 ca 3 4 k v n 0 0)).1 hC.1.1.1.1
  have g6_1 := (fr_K (fz_te (tt_draft_fr B 1 ca 3 4 k v n 0 0)).1 hC.1.1.1.1).trans hC.1.1.1.2
  have r6_0 : bm_FR (tt_draft B 4 k v n 0 0) 11 0 0 = some 1 := (fr_FS (fz_te (tt_draft_fr B 1 ca 3 4 k v n 0 0)).1 hH.1.1.1 11 0 rfl).trans hH.1.2.1.1
  show bm_G _ _ _ 12 _ [] (tt_draft B 4 k v n 0 0) _
  refine g_ald (pc' := 13) cd_Ho_keyRow rfl (Or.inr ⟨_, rfl, rfl, rfl⟩) l0 rfl rfl ?_
  refine g_fR (c := 11) (k := 0) (x := 1) (pc' := 16) cd_Ho_keyRow rfl rfl rfl rfl rfl (by decide) f6_0 g6_0 r6_0 ?_
  refine g_ald (pc' := 17) cd_Ho_keyRow rfl (Or.inr ⟨_, rfl, rfl, rfl⟩) l0 rfl rfl ?_
  refine g_fR (c := 11) (k := 0) (x := 1) (pc' := 20) cd_Ho_keyRow rfl rfl rfl rfl rfl (by decide) f6_0 g6_0 r6_0 ?_
  refine g_ild (pc' := 22) cd_Ho_keyRow rfl (Or.inl ⟨rfl, rfl⟩) l4 rfl ?_
  refine g_calli (pc' := 25) cd_Ho_keyRow rfl rfl rfl rfl rfl (tm_invV rfl rfl cd_Te_publicOf rfl (Nat.le_of_ble_eq_true rfl) (by decide) f6_1 g6_1) (t_publicOf (tt_draft_TI hC.1) hx (fun r7 ht7 => ?_))
  rw [if_pos hk] at ht7
  show bm_G _ _ _ 25 _ [.int r7, .ref 1] (tt_draft B 4 k v n 0 0) _
  refine g_k1 (v := 0) (pc' := 26) cd_Ho_keyRow rfl (by decide) rfl ?_
  refine g_k1 (v := 0) (pc' := 27) cd_Ho_keyRow rfl (by decide) rfl ?_
  refine g_k1 (v := 0) (pc' := 28) cd_Ho_keyRow rfl (by decide) rfl ?_
  refine g_calli (pc' := 31) cd_Ho_keyRow rfl rfl rfl rfl rfl (tm_invV rfl rfl cd_Te_endRow rfl (Nat.le_of_ble_eq_true rfl) (by decide) f6_1 g6_1) (t_endRow hC.1 (by omega) ht7 (TI_z hC.1) (TI_z hC.1) (TI_z hC.1) (fun B8 T8 r8 hx8 ht8 => ?_))
  have hT8 := hx8.2.2.1
  have hl8 := hx8.2.1
  have hf8 := (fz_te hx8.2.2.2).1
  have hz8 := fz_te hx8.2.2.2
  have f9_0 := fr_lt hf8 hH.1.1.1
  have g9_0 := (fr_K hf8 hH.1.1.1).trans hH.1.1.2
  have f9_1 := fr_lt hf8 hC.1.1.1.1
  have g9_1 := (fr_K hf8 hC.1.1.1.1).trans hC.1.1.1.2
  have r9_0 : bm_FR B8 11 0 0 = some 1 := (fr_FS hf8 hH.1.1.1 11 0 rfl).trans hH.1.2.1.1
  have tv10_0 := tv_mono hx8.1 hx
  have tv10_1 := tv_mono hx8.1 ht7
  have Z11 : fz (tcs 1 ca 3 4) B B8 := fz_trans (fz_rfl _ B) (fz_mono (fun _ q => q) hz8)
  show bm_G _ _ _ 31 _ [.int r8] B8 _
  exact g_reti cd_Ho_keyRow rfl ⟨_, rfl, (kk _ _ _ hx8.1 (by omega) (CK_made hC hT8 hx8.1 Z11 (fun y q => Or.inl q)) (RH_te hC hH Z11 hx8.1) ht8 Z11)⟩
set_option maxRecDepth 100000 in
theorem t_announce {sc : tm_X} {d : Nat} {B : bm_H} {F : Nat → Prop} {N S M ln : Nat} {T : List Tm} {dr : Nat} {K : Tm → Prop} {ca rm kc kl rk : Nat} {ws : List (Tm × Int32)} {wt : List Tm} {G : LG} {ids dir reg : Nat → Tm} {seen : List Tm} {π : Nat → Nat} {w : Nat → SW} {dev : Nat → DV} {sto : Nat → ST} {p q : Nat} {x : Int32} {A : Tm} {Q : bm_H → Prop} (hC : CK B F N S M ln T dr K ca rm kc kl rk) (hH : RH B T ws wt G ids dir reg seen π w dev sto) (hx : tv T x A) (hp : p < 6) (hq : q < 5) (kk : ∀ B' kc' kl' rk', CK B' F N S M T.length T dr (fun y => K y ∨ y = A) ca rm kc' kl' rk' → RH B' T ws wt G ids (fset dir (p * 5 + q) A) reg seen π w dev sto → fr (fun y => xc F y ∨ y = 22) B B' → Q B') : bm_Gv sc (d + 4) 63 [.ref 0, .int (nI p), .int (nI q), .int x] B Q := by
  show bm_G sc (d + 4) 63 0 [(0, .ref 0), (1, .int (nI p)), (2, .int (nI q)), (3, .int x)] [] B _
  generalize elv : ([(0, .ref 0), (1, .int (nI p)), (2, .int (nI q)), (3, .int x)] : tm_L) = lv
  have l0 : lv.lookup 0 = some (.ref 0) := by rw [← elv]; rfl
  have l1 : lv.lookup 1 = some (.int (nI p)) := by rw [← elv]; rfl
  have l2 : lv.lookup 2 = some (.int (nI q)) := by rw [← elv]; rfl
  have l3 : lv.lookup 3 = some (.int x) := by rw [← elv]; rfl
  clear elv
  refine g_ald (pc' := 1) cd_Ho_announce rfl (Or.inr ⟨_, rfl, rfl, rfl⟩) l0 rfl rfl ?_
  refine g_fR (c := 11) (k := 7) (x := 22) (pc' := 4) cd_Ho_announce rfl rfl rfl rfl rfl (by decide) hH.1.1.1 hH.1.1.2 hH.1.2.1.2.2.2.2.2.2.2.1 ?_
  refine g_ild (pc' := 5) cd_Ho_announce rfl (Or.inr ⟨_, rfl, rfl, rfl⟩) l1 rfl ?_
  refine g_k1 (v := 5) (pc' := 6) cd_Ho_announce rfl (by decide) rfl ?_
  refine g_pure (pc' := 7) (st' := [.int ((nI p) * 5), .ref 22]) cd_Ho_announce rfl rfl (fun _ _ => rfl) ?_
  rw [show ((nI p) * 5 : Int32) = nI (p * 5) from pk_mul p 5]
  refine g_ild (pc' := 8) cd_Ho_announce rfl (Or.inr ⟨_, rfl, rfl, rfl⟩) l2 rfl ?_
  refine g_pure (pc' := 9) (st' := [.int ((nI (p * 5)) + (nI q)), .ref 22]) cd_Ho_announce rfl rfl (fun _ _ => rfl) ?_
  rw [show ((nI (p * 5)) + (nI q) : Int32) = nI ((p * 5) + q) from nI_add (p * 5) q]
  refine g_ild (pc' := 10) cd_Ho_announce rfl (Or.inr ⟨_, rfl, rfl, rfl⟩) l3 rfl ?_
  refine g_iast (pc' := 11) cd_Ho_announce rfl rfl hH.1.2.2.2.2.2.1.1 hH.1.2.2.2.2.2.1.2.1 (by rw [show bm_AL B 22 = 30 from hH.1.2.2.2.2.2.1.2.2]; exact vp_in_nI (by omega) (by decide)) ?_
  rw [show (nI ((p * 5) + q) : Int32).toNatClampNeg = ((p * 5) + q) from nI_clamp (by omega)]
  have A12 : bm_AI (bm_setI B 22 ((p * 5) + q) x) 22 = (upd (bm_AI B 22) ((p * 5) + q) x) := ((AI_set B 22 ((p * 5) + q) x).trans (congrArg (fun f => upd f ((p * 5) + q) x) (show bm_AI B 22 = (bm_AI B 22) from rfl)))
  have Z13 : fz (fun y => y = 22) B (bm_setI B 22 ((p * 5) + q) x) := fz_trans (fz_rfl _ B) ⟨fr_mono (fun _ q => q) (fr_setI _ 22 _ _), rfl, rfl⟩
  have hz1 := Z13
  have hH1 := RH_dir hH hz1.1 (fun y q => q.2) (List.prefix_refl T) (RA_set hH.2.2.2.1.2.1 A12 hx)
  have hC1 := CK_cls hC hz1 (fun y q => by omega)
  generalize (bm_setI B 22 ((p * 5) + q) x) = B1 at hz1 hH1 hC1 ⊢
  refine g_ald (pc' := 12) cd_Ho_announce rfl (Or.inr ⟨_, rfl, rfl, rfl⟩) l0 rfl rfl ?_
  refine g_fR (c := 11) (k := 1) (x := 5) (pc' := 15) cd_Ho_announce rfl rfl rfl rfl rfl (by decide) hH1.1.1.1 hH1.1.1.2 hH1.1.2.1.2.1 ?_
  refine g_ild (pc' := 16) cd_Ho_announce rfl (Or.inr ⟨_, rfl, rfl, rfl⟩) l3 rfl ?_
  refine g_callv (pc' := 19) cd_Ho_announce rfl rfl rfl rfl rfl (tm_invV rfl rfl cd_Kn_give rfl (Nat.le_of_ble_eq_true rfl) (by decide) (CK_5 hC1).1 (CK_5 hC1).2) (t_giveC hC1 hx (fun B2 kc2 kl2 rk2 hC2 hf2 => ?_))
  show bm_G _ _ _ 19 _ [] B2 _
  exact g_retv cd_Ho_announce rfl ⟨rfl, (kk B2 kc2 kl2 rk2 hC2 (RH_xc hH1 hf2 (List.prefix_refl T)) (fr_trans (fr_mono (fun _ q => Or.inr q) hz1.1) (fr_mono (fun _ q => Or.inl q) hf2)))⟩
