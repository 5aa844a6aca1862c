/-! A device, one part of it changed -/
theorem RDe_top {X : Nat → Prop} {B B' : bm_H} {T T' : List Tm} {x : Nat} {w : SW} {id : Tm} {K0 K1 : PK} {on : List (Tm × Int32)} {ln : Int32} {se : Nat → List SS} {me : Nat → MM} {id' : Tm} {on' : List (Tm × Int32)} {ln' : Int32} (h : RDe B T x w (id, K0, K1, on, ln, se, me)) (hf : fr X B B') (n0 : ∀ y, x ≤ y → y < x + 203 → y ≠ x → y ≠ x + 6 → y ≠ x + 7 → ¬ X y) (hT : T <+: T') (hs : RDs B' T' x id' ln') (ho : ROn B' T' x on') : RDe B' T' x w (id', K0, K1, on', ln', se, me) := by
  obtain ⟨h1, h2, h3, h4, h5, h6, h7⟩ := h
  have e := fr_AR hf h1.2.2.2.2.2.2.2.1 (n0 _ (by omega) (by omega) (by omega) (by omega) (by omega))
  exact ⟨DeS_fr h1 hf, hs, RPs_fr h1 h3 hf (fun y a b => n0 y (by omega) (by omega) (by omega) (by omega) (by omega)) hT, ho, fun p hp => RSs_fr h1 (h5 p hp) hf (n0 _ (by omega) (by omega) (by omega) (by omega) (by omega)) (n0 _ (by omega) (by omega) (by omega) (by omega) (by omega)) (fun k y hk a b => by have := sA_in x w.2.1 hp hk; exact n0 y (by omega) (by omega) (by omega) (by omega) (by omega)) hT, fun g hg => by rw [e]; exact h6 g hg, fun g hg => RMe_fr (h7 g hg) hf (fun y a b => n0 y (by omega) (by omega) (by omega) (by omega) (by omega)) hT⟩
theorem RDe_pks {X : Nat → Prop} {B B' : bm_H} {T T' : List Tm} {x : Nat} {w : SW} {id : Tm} {K0 K1 : PK} {on : List (Tm × Int32)} {ln : Int32} {se : Nat → List SS} {me : Nat → MM} {b' : Bool} {K0' K1' : PK} (h : RDe B T x w (id, K0, K1, on, ln, se, me)) (hf : fr X B B') (n0 : ∀ y, x ≤ y → y < x + 203 → (y ≤ x ∨ x + 6 ≤ y) → ¬ X y) (hT : T <+: T') (hs : RPs B' T' x b' K0' K1') : RDe B' T' x (b', w.2) (id, K0', K1', on, ln, se, me) := by
  obtain ⟨h1, h2, h3, h4, h5, h6, h7⟩ := h
  have e := fr_AR hf h1.2.2.2.2.2.2.2.1 (n0 _ (by omega) (by omega) (by omega))
  exact ⟨DeS_fr h1 hf, RDs_fr h1 h2 hf (n0 _ (by omega) (by omega) (by omega)) hT, hs, ROn_fr h1 h4 hf (n0 _ (by omega) (by omega) (by omega)) (n0 _ (by omega) (by omega) (by omega)) (n0 _ (by omega) (by omega) (by omega)) hT, fun p hp => (show RSs B' T' x w.2.1 p (se p) from RSs_fr h1 (h5 p hp) hf (n0 _ (by omega) (by omega) (by omega)) (n0 _ (by omega) (by omega) (by omega)) (fun k y hk a b => by have := sA_in x w.2.1 hp hk; exact n0 y (by omega) (by omega) (by omega)) hT), fun g hg => by rw [e]; exact h6 g hg, fun g hg => RMe_fr (h7 g hg) hf (fun y a b => n0 y (by omega) (by omega) (by omega)) hT⟩
theorem RDe_sess {X : Nat → Prop} {B B' : bm_H} {T T' : List Tm} {x : Nat} {w : SW} {id : Tm} {K0 K1 : PK} {on : List (Tm × Int32)} {ln : Int32} {se : Nat → List SS} {me : Nat → MM} {ws' : Nat → Bool} {se' : Nat → List SS} (h : RDe B T x w (id, K0, K1, on, ln, se, me)) (hf : fr X B B') (n0 : ∀ y, x ≤ y → y < x + 203 → (y < x + 8 ∨ y = x + 10 ∨ x + 47 ≤ y) → ¬ X y) (hT : T <+: T') (hs : ∀ p, p < 6 → RSs B' T' x ws' p (se' p)) : RDe B' T' x (w.1, ws', w.2.2) (id, K0, K1, on, ln, se', me) := by
  obtain ⟨h1, h2, h3, h4, h5, h6, h7⟩ := h
  have e := fr_AR hf h1.2.2.2.2.2.2.2.1 (n0 _ (by omega) (by omega) (by omega))
  exact ⟨DeS_fr h1 hf, RDs_fr h1 h2 hf (n0 _ (by omega) (by omega) (by omega)) hT, RPs_fr h1 h3 hf (fun y a b => n0 y (by omega) (by omega) (by omega)) hT, ROn_fr h1 h4 hf (n0 _ (by omega) (by omega) (by omega)) (n0 _ (by omega) (by omega) (by omega)) (n0 _ (by omega) (by omega) (by omega)) hT, hs, fun g hg => by rw [e]; exact h6 g hg, fun g hg => RMe_fr (h7 g hg) hf (fun y a b => n0 y (by omega) (by omega) (by omega)) hT⟩
theorem fset_eta {α : Type} (f : Nat → α) (k : Nat) : fset f k (f k) = f := by
  funext j
  unfold fset
  split
  · rename_i h; rw [h]
  · rfl
/-- two devices that agree on what is counted -/
theorem RDe_ext {B : bm_H} {T : List Tm} {x : Nat} {w : SW} {id : Tm} {K0 K1 : PK} {on : List (Tm × Int32)} {ln : Int32} {se : Nat → List SS} {me : Nat → MM} {se' : Nat → List SS} {me' : Nat → MM} (h : RDe B T x w (id, K0, K1, on, ln, se, me)) (h1 : ∀ p, p < 6 → se p = se' p) (h2 : ∀ g, g < 4 → me g = me' g) : RDe B T x w (id, K0, K1, on, ln, se', me') :=
  ⟨h.1, h.2.1, h.2.2.1, h.2.2.2.1, fun p hp => h1 p hp ▸ h.2.2.2.2.1 p hp, h.2.2.2.2.2.1, fun g hg => h2 g hg ▸ h.2.2.2.2.2.2 g hg⟩
theorem t_Mcopy {sc : tm_X} {d m n : Nat} {w w' : Nat → Bool} {B : bm_H} {T : List Tm} {M M0 : MM} {Q : bm_H → Prop} (h0 : RMe B T m w M0) (hR : RMe B T n w' M) (hd : m + 38 < n ∨ n + 38 < m) (kk : ∀ B', RMe B' T m w M → fz (fun y => m ≤ y ∧ y < m + 39) B B' → Q B') : bm_Gv sc (d + 3) 40 [.ref m, .ref n] B Q := by
  obtain ⟨ve, ma, go, ge, ch, si, ix, ga, sl, gv⟩ := M
  show bm_G sc (d + 3) 40 0 [(0, .ref m), (1, .ref n)] [] B _
  generalize elv : ([(0, .ref m), (1, .ref n)] : tm_L) = lv
  have l0 : lv.lookup 0 = some (.ref m) := by rw [← elv]; rfl
  have l1 : lv.lookup 1 = some (.ref n) := by rw [← elv]; rfl
  clear elv
  refine g_ald (pc' := 1) cd_Me_copyFrom rfl (Or.inr ⟨_, rfl, rfl, rfl⟩) l0 rfl rfl ?_
  refine g_ald (pc' := 2) cd_Me_copyFrom rfl (Or.inr ⟨_, rfl, rfl, rfl⟩) l1 rfl rfl ?_
  refine g_fI (c := 5) (k := 2) (x := ve) (pc' := 5) cd_Me_copyFrom rfl rfl rfl rfl rfl (by decide) hR.1.1.1 hR.1.1.2 hR.2.1.1.1 ?_
  refine g_putI (c := 5) (k := 2) (pc' := 8) cd_Me_copyFrom rfl rfl rfl rfl (by simp [tm_okV, narrow, fits]) (Or.inl rfl) rfl (by decide) h0.1.1.1 h0.1.1.2 ?_
  have P1 : bm_FI (bm_putI B 5 2 m ve) 5 2 m = ve := if_pos ⟨rfl, rfl, rfl⟩
  have Z2 : fz (fun y => y = m) B (bm_putI B 5 2 m ve) := fz_trans (fz_rfl _ B) ⟨fr_mono (fun _ q => q) (fr_putI _ 5 2 m _), rfl, rfl⟩
  refine g_ald (pc' := 9) cd_Me_copyFrom rfl (Or.inr ⟨_, rfl, rfl, rfl⟩) l0 rfl rfl ?_
  refine g_ald (pc' := 10) cd_Me_copyFrom rfl (Or.inr ⟨_, rfl, rfl, rfl⟩) l1 rfl rfl ?_
  refine g_fI (c := 5) (k := 3) (x := ma) (pc' := 13) cd_Me_copyFrom rfl rfl rfl rfl rfl (by decide) hR.1.1.1 hR.1.1.2 hR.2.1.1.2.1 ?_
  refine g_putI (c := 5) (k := 3) (pc' := 16) cd_Me_copyFrom rfl rfl rfl rfl (by simp [tm_okV, narrow, fits]) (Or.inl rfl) rfl (by decide) h0.1.1.1 h0.1.1.2 ?_
  have P3 : bm_FI (bm_putI (bm_putI B 5 2 m ve) 5 3 m ma) 5 3 m = ma := if_pos ⟨rfl, rfl, rfl⟩
  have Z4 : fz (fun y => y = m) B (bm_putI (bm_putI B 5 2 m ve) 5 3 m ma) := fz_trans Z2 ⟨fr_mono (fun _ q => q) (fr_putI _ 5 3 m _), rfl, rfl⟩
  refine g_ald (pc' := 17) cd_Me_copyFrom rfl (Or.inr ⟨_, rfl, rfl, rfl⟩) l0 rfl rfl ?_
  refine g_ald (pc' := 18) cd_Me_copyFrom rfl (Or.inr ⟨_, rfl, rfl, rfl⟩) l1 rfl rfl ?_
  refine g_fI (c := 5) (k := 4) (x := go) (pc' := 21) cd_Me_copyFrom rfl rfl rfl rfl rfl (by decide) hR.1.1.1 hR.1.1.2 hR.2.1.1.2.2.1 ?_
  refine g_putI (c := 5) (k := 4) (pc' := 24) cd_Me_copyFrom rfl rfl rfl rfl (by simp [tm_okV, narrow, fits]) (Or.inl rfl) rfl (by decide) h0.1.1.1 h0.1.1.2 ?_
  have P5 : bm_FI (bm_putI (bm_putI (bm_putI B 5 2 m ve) 5 3 m ma) 5 4 m go) 5 4 m = go := if_pos ⟨rfl, rfl, rfl⟩
  have Z6 : fz (fun y => y = m) B (bm_putI (bm_putI (bm_putI B 5 2 m ve) 5 3 m ma) 5 4 m go) := fz_trans Z4 ⟨fr_mono (fun _ q => q) (fr_putI _ 5 4 m _), rfl, rfl⟩
  obtain ⟨B7, eB7⟩ : ∃ Bx, Bx = (bm_putI (bm_putI (bm_putI B 5 2 m ve) 5 3 m ma) 5 4 m go) := ⟨_, rfl⟩
  have cl7_0 : m < bm_n B7 := eB7 ▸ (show m < bm_n (bm_putI (bm_putI (bm_putI B 5 2 m ve) 5 3 m ma) 5 4 m go) from h0.1.1.1)
  have ck7_0 : bm_K B7 m = 5 := eB7 ▸ (show bm_K (bm_putI (bm_putI (bm_putI B 5 2 m ve) 5 3 m ma) 5 4 m go) m = 5 from h0.1.1.2)
  have cl7_1 : n < bm_n B7 := eB7 ▸ (show n < bm_n (bm_putI (bm_putI (bm_putI B 5 2 m ve) 5 3 m ma) 5 4 m go) from hR.1.1.1)
  have ck7_1 : bm_K B7 n = 5 := eB7 ▸ (show bm_K (bm_putI (bm_putI (bm_putI B 5 2 m ve) 5 3 m ma) 5 4 m go) n = 5 from hR.1.1.2)
  have cf7_0 : bm_FI B7 5 2 n = ve := eB7 ▸ (show bm_FI (bm_putI (bm_putI (bm_putI B 5 2 m ve) 5 3 m ma) 5 4 m go) 5 2 n = ve from ((if_neg (fun w => (show n ≠ m by omega) w.2.2)).trans hR.2.1.1.1))
  have cf7_1 : bm_FI B7 5 3 n = ma := eB7 ▸ (show bm_FI (bm_putI (bm_putI (bm_putI B 5 2 m ve) 5 3 m ma) 5 4 m go) 5 3 n = ma from ((if_neg (fun w => (show n ≠ m by omega) w.2.2)).trans hR.2.1.1.2.1))
  have cf7_2 : bm_FI B7 5 4 n = go := eB7 ▸ (show bm_FI (bm_putI (bm_putI (bm_putI B 5 2 m ve) 5 3 m ma) 5 4 m go) 5 4 n = go from ((if_neg (fun w => (show n ≠ m by omega) w.2.2)).trans hR.2.1.1.2.2.1))
  have cf7_3 : bm_FI B7 5 5 n = ge := eB7 ▸ (show bm_FI (bm_putI (bm_putI (bm_putI B 5 2 m ve) 5 3 m ma) 5 4 m go) 5 5 n = ge from hR.2.1.1.2.2.2)
  have cf7_4 : bm_FI B7 5 6 n = (bm_FI B 5 6 n) := eB7 ▸ (show bm_FI (bm_putI (bm_putI (bm_putI B 5 2 m ve) 5 3 m ma) 5 4 m go) 5 6 n = (bm_FI B 5 6 n) from rfl)
  have cf7_5 : bm_FI B7 5 7 n = (bm_FI B 5 7 n) := eB7 ▸ (show bm_FI (bm_putI (bm_putI (bm_putI B 5 2 m ve) 5 3 m ma) 5 4 m go) 5 7 n = (bm_FI B 5 7 n) from rfl)
  have cf7_6 : bm_FI B7 5 8 n = ix := eB7 ▸ (show bm_FI (bm_putI (bm_putI (bm_putI B 5 2 m ve) 5 3 m ma) 5 4 m go) 5 8 n = ix from hR.2.1.2.2.1)
  have cf7_7 : bm_FI B7 5 9 n = ga := eB7 ▸ (show bm_FI (bm_putI (bm_putI (bm_putI B 5 2 m ve) 5 3 m ma) 5 4 m go) 5 9 n = ga from hR.2.1.2.2.2.1)
  have cf7_8 : bm_FI B7 5 10 n = bz sl := eB7 ▸ (show bm_FI (bm_putI (bm_putI (bm_putI B 5 2 m ve) 5 3 m ma) 5 4 m go) 5 10 n = bz sl from hR.2.1.2.2.2.2)
  have cf7_9 : bm_FI B7 5 2 m = ve := eB7 ▸ (show bm_FI (bm_putI (bm_putI (bm_putI B 5 2 m ve) 5 3 m ma) 5 4 m go) 5 2 m = ve from P1)
  have cf7_10 : bm_FI B7 5 3 m = ma := eB7 ▸ (show bm_FI (bm_putI (bm_putI (bm_putI B 5 2 m ve) 5 3 m ma) 5 4 m go) 5 3 m = ma from P3)
  have cf7_11 : bm_FI B7 5 4 m = go := eB7 ▸ (show bm_FI (bm_putI (bm_putI (bm_putI B 5 2 m ve) 5 3 m ma) 5 4 m go) 5 4 m = go from P5)
  have cz7 : fz (fun y => y = m) B B7 := eB7 ▸ (show fz (fun y => y = m) B (bm_putI (bm_putI (bm_putI B 5 2 m ve) 5 3 m ma) 5 4 m go) from Z6)
  rw [← eB7]
  clear eB7
  refine g_ald (pc' := 25) cd_Me_copyFrom rfl (Or.inr ⟨_, rfl, rfl, rfl⟩) l0 rfl rfl ?_
  refine g_ald (pc' := 26) cd_Me_copyFrom rfl (Or.inr ⟨_, rfl, rfl, rfl⟩) l1 rfl rfl ?_
  refine g_fI (c := 5) (k := 5) (x := ge) (pc' := 29) cd_Me_copyFrom rfl rfl rfl rfl rfl (by decide) cl7_1 ck7_1 cf7_3 ?_
  refine g_putI (c := 5) (k := 5) (pc' := 32) cd_Me_copyFrom rfl rfl rfl rfl (by simp [tm_okV, narrow, fits]) (Or.inl rfl) rfl (by decide) cl7_0 ck7_0 ?_
  have P8 : bm_FI (bm_putI B7 5 5 m ge) 5 5 m = ge := if_pos ⟨rfl, rfl, rfl⟩
  have Z9 : fz (fun y => y = m) B (bm_putI B7 5 5 m ge) := fz_trans cz7 ⟨fr_mono (fun _ q => q) (fr_putI _ 5 5 m _), rfl, rfl⟩
  refine g_ald (pc' := 33) cd_Me_copyFrom rfl (Or.inr ⟨_, rfl, rfl, rfl⟩) l0 rfl rfl ?_
  refine g_ald (pc' := 34) cd_Me_copyFrom rfl (Or.inr ⟨_, rfl, rfl, rfl⟩) l1 rfl rfl ?_
  refine g_fI (c := 5) (k := 6) (x := (bm_FI B 5 6 n)) (pc' := 37) cd_Me_copyFrom rfl rfl rfl rfl rfl (by decide) cl7_1 ck7_1 cf7_4 ?_
  refine g_putI (c := 5) (k := 6) (pc' := 40) cd_Me_copyFrom rfl rfl rfl rfl (by simp [tm_okV, narrow, fits]) (Or.inl rfl) rfl (by decide) cl7_0 ck7_0 ?_
  have P10 : bm_FI (bm_putI (bm_putI B7 5 5 m ge) 5 6 m (bm_FI B 5 6 n)) 5 6 m = (bm_FI B 5 6 n) := if_pos ⟨rfl, rfl, rfl⟩
  have Z11 : fz (fun y => y = m) B (bm_putI (bm_putI B7 5 5 m ge) 5 6 m (bm_FI B 5 6 n)) := fz_trans Z9 ⟨fr_mono (fun _ q => q) (fr_putI _ 5 6 m _), rfl, rfl⟩
  refine g_ald (pc' := 41) cd_Me_copyFrom rfl (Or.inr ⟨_, rfl, rfl, rfl⟩) l0 rfl rfl ?_
  refine g_ald (pc' := 42) cd_Me_copyFrom rfl (Or.inr ⟨_, rfl, rfl, rfl⟩) l1 rfl rfl ?_
  refine g_fI (c := 5) (k := 7) (x := (bm_FI B 5 7 n)) (pc' := 45) cd_Me_copyFrom rfl rfl rfl rfl rfl (by decide) cl7_1 ck7_1 cf7_5 ?_
  refine g_putI (c := 5) (k := 7) (pc' := 48) cd_Me_copyFrom rfl rfl rfl rfl (by simp [tm_okV, narrow, fits]) (Or.inl rfl) rfl (by decide) cl7_0 ck7_0 ?_
  have P12 : bm_FI (bm_putI (bm_putI (bm_putI B7 5 5 m ge) 5 6 m (bm_FI B 5 6 n)) 5 7 m (bm_FI B 5 7 n)) 5 7 m = (bm_FI B 5 7 n) := if_pos ⟨rfl, rfl, rfl⟩
  have Z13 : fz (fun y => y = m) B (bm_putI (bm_putI (bm_putI B7 5 5 m ge) 5 6 m (bm_FI B 5 6 n)) 5 7 m (bm_FI B 5 7 n)) := fz_trans Z11 ⟨fr_mono (fun _ q => q) (fr_putI _ 5 7 m _), rfl, rfl⟩
  obtain ⟨B14, eB14⟩ : ∃ Bx, Bx = (bm_putI (bm_putI (bm_putI B7 5 5 m ge) 5 6 m (bm_FI B 5 6 n)) 5 7 m (bm_FI B 5 7 n)) := ⟨_, rfl⟩
  have cl14_0 : m < bm_n B14 := eB14 ▸ (show m < bm_n (bm_putI (bm_putI (bm_putI B7 5 5 m ge) 5 6 m (bm_FI B 5 6 n)) 5 7 m (bm_FI B 5 7 n)) from cl7_0)
  have ck14_0 : bm_K B14 m = 5 := eB14 ▸ (show bm_K (bm_putI (bm_putI (bm_putI B7 5 5 m ge) 5 6 m (bm_FI B 5 6 n)) 5 7 m (bm_FI B 5 7 n)) m = 5 from ck7_0)
  have cl14_1 : n < bm_n B14 := eB14 ▸ (show n < bm_n (bm_putI (bm_putI (bm_putI B7 5 5 m ge) 5 6 m (bm_FI B 5 6 n)) 5 7 m (bm_FI B 5 7 n)) from cl7_1)
  have ck14_1 : bm_K B14 n = 5 := eB14 ▸ (show bm_K (bm_putI (bm_putI (bm_putI B7 5 5 m ge) 5 6 m (bm_FI B 5 6 n)) 5 7 m (bm_FI B 5 7 n)) n = 5 from ck7_1)
  have cf14_0 : bm_FI B14 5 2 n = ve := eB14 ▸ (show bm_FI (bm_putI (bm_putI (bm_putI B7 5 5 m ge) 5 6 m (bm_FI B 5 6 n)) 5 7 m (bm_FI B 5 7 n)) 5 2 n = ve from cf7_0)
  have cf14_1 : bm_FI B14 5 3 n = ma := eB14 ▸ (show bm_FI (bm_putI (bm_putI (bm_putI B7 5 5 m ge) 5 6 m (bm_FI B 5 6 n)) 5 7 m (bm_FI B 5 7 n)) 5 3 n = ma from cf7_1)
  have cf14_2 : bm_FI B14 5 4 n = go := eB14 ▸ (show bm_FI (bm_putI (bm_putI (bm_putI B7 5 5 m ge) 5 6 m (bm_FI B 5 6 n)) 5 7 m (bm_FI B 5 7 n)) 5 4 n = go from cf7_2)
  have cf14_3 : bm_FI B14 5 5 n = ge := eB14 ▸ (show bm_FI (bm_putI (bm_putI (bm_putI B7 5 5 m ge) 5 6 m (bm_FI B 5 6 n)) 5 7 m (bm_FI B 5 7 n)) 5 5 n = ge from ((if_neg (fun w => (show n ≠ m by omega) w.2.2)).trans cf7_3))
  have cf14_4 : bm_FI B14 5 6 n = (bm_FI B 5 6 n) := eB14 ▸ (show bm_FI (bm_putI (bm_putI (bm_putI B7 5 5 m ge) 5 6 m (bm_FI B 5 6 n)) 5 7 m (bm_FI B 5 7 n)) 5 6 n = (bm_FI B 5 6 n) from ((if_neg (fun w => (show n ≠ m by omega) w.2.2)).trans cf7_4))
  have cf14_5 : bm_FI B14 5 7 n = (bm_FI B 5 7 n) := eB14 ▸ (show bm_FI (bm_putI (bm_putI (bm_putI B7 5 5 m ge) 5 6 m (bm_FI B 5 6 n)) 5 7 m (bm_FI B 5 7 n)) 5 7 n = (bm_FI B 5 7 n) from ((if_neg (fun w => (show n ≠ m by omega) w.2.2)).trans cf7_5))
  have cf14_6 : bm_FI B14 5 8 n = ix := eB14 ▸ (show bm_FI (bm_putI (bm_putI (bm_putI B7 5 5 m ge) 5 6 m (bm_FI B 5 6 n)) 5 7 m (bm_FI B 5 7 n)) 5 8 n = ix from cf7_6)
  have cf14_7 : bm_FI B14 5 9 n = ga := eB14 ▸ (show bm_FI (bm_putI (bm_putI (bm_putI B7 5 5 m ge) 5 6 m (bm_FI B 5 6 n)) 5 7 m (bm_FI B 5 7 n)) 5 9 n = ga from cf7_7)
  have cf14_8 : bm_FI B14 5 10 n = bz sl := eB14 ▸ (show bm_FI (bm_putI (bm_putI (bm_putI B7 5 5 m ge) 5 6 m (bm_FI B 5 6 n)) 5 7 m (bm_FI B 5 7 n)) 5 10 n = bz sl from cf7_8)
  have cf14_9 : bm_FI B14 5 2 m = ve := eB14 ▸ (show bm_FI (bm_putI (bm_putI (bm_putI B7 5 5 m ge) 5 6 m (bm_FI B 5 6 n)) 5 7 m (bm_FI B 5 7 n)) 5 2 m = ve from cf7_9)
  have cf14_10 : bm_FI B14 5 3 m = ma := eB14 ▸ (show bm_FI (bm_putI (bm_putI (bm_putI B7 5 5 m ge) 5 6 m (bm_FI B 5 6 n)) 5 7 m (bm_FI B 5 7 n)) 5 3 m = ma from cf7_10)
  have cf14_11 : bm_FI B14 5 4 m = go := eB14 ▸ (show bm_FI (bm_putI (bm_putI (bm_putI B7 5 5 m ge) 5 6 m (bm_FI B 5 6 n)) 5 7 m (bm_FI B 5 7 n)) 5 4 m = go from cf7_11)
  have cf14_12 : bm_FI B14 5 5 m = ge := eB14 ▸ (show bm_FI (bm_putI (bm_putI (bm_putI B7 5 5 m ge) 5 6 m (bm_FI B 5 6 n)) 5 7 m (bm_FI B 5 7 n)) 5 5 m = ge from P8)
  have cf14_13 : bm_FI B14 5 6 m = (bm_FI B 5 6 n) := eB14 ▸ (show bm_FI (bm_putI (bm_putI (bm_putI B7 5 5 m ge) 5 6 m (bm_FI B 5 6 n)) 5 7 m (bm_FI B 5 7 n)) 5 6 m = (bm_FI B 5 6 n) from P10)
  have cf14_14 : bm_FI B14 5 7 m = (bm_FI B 5 7 n) := eB14 ▸ (show bm_FI (bm_putI (bm_putI (bm_putI B7 5 5 m ge) 5 6 m (bm_FI B 5 6 n)) 5 7 m (bm_FI B 5 7 n)) 5 7 m = (bm_FI B 5 7 n) from P12)
  have cz14 : fz (fun y => y = m) B B14 := eB14 ▸ (show fz (fun y => y = m) B (bm_putI (bm_putI (bm_putI B7 5 5 m ge) 5 6 m (bm_FI B 5 6 n)) 5 7 m (bm_FI B 5 7 n)) from Z13)
  rw [← eB14]
  clear eB14
  refine g_ald (pc' := 49) cd_Me_copyFrom rfl (Or.inr ⟨_, rfl, rfl, rfl⟩) l0 rfl rfl ?_
  refine g_ald (pc' := 50) cd_Me_copyFrom rfl (Or.inr ⟨_, rfl, rfl, rfl⟩) l1 rfl rfl ?_
  refine g_fI (c := 5) (k := 8) (x := ix) (pc' := 53) cd_Me_copyFrom rfl rfl rfl rfl rfl (by decide) cl14_1 ck14_1 cf14_6 ?_
  refine g_putI (c := 5) (k := 8) (pc' := 56) cd_Me_copyFrom rfl rfl rfl rfl (by simp [tm_okV, narrow, fits]) (Or.inl rfl) rfl (by decide) cl14_0 ck14_0 ?_
  have P15 : bm_FI (bm_putI B14 5 8 m ix) 5 8 m = ix := if_pos ⟨rfl, rfl, rfl⟩
  have Z16 : fz (fun y => y = m) B (bm_putI B14 5 8 m ix) := fz_trans cz14 ⟨fr_mono (fun _ q => q) (fr_putI _ 5 8 m _), rfl, rfl⟩
  refine g_ald (pc' := 57) cd_Me_copyFrom rfl (Or.inr ⟨_, rfl, rfl, rfl⟩) l0 rfl rfl ?_
  refine g_ald (pc' := 58) cd_Me_copyFrom rfl (Or.inr ⟨_, rfl, rfl, rfl⟩) l1 rfl rfl ?_
  refine g_fI (c := 5) (k := 9) (x := ga) (pc' := 61) cd_Me_copyFrom rfl rfl rfl rfl rfl (by decide) cl14_1 ck14_1 cf14_7 ?_
  refine g_putI (c := 5) (k := 9) (pc' := 64) cd_Me_copyFrom rfl rfl rfl rfl (by simp [tm_okV, narrow, fits]) (Or.inl rfl) rfl (by decide) cl14_0 ck14_0 ?_
  have P17 : bm_FI (bm_putI (bm_putI B14 5 8 m ix) 5 9 m ga) 5 9 m = ga := if_pos ⟨rfl, rfl, rfl⟩
  have Z18 : fz (fun y => y = m) B (bm_putI (bm_putI B14 5 8 m ix) 5 9 m ga) := fz_trans Z16 ⟨fr_mono (fun _ q => q) (fr_putI _ 5 9 m _), rfl, rfl⟩
  refine g_ald (pc' := 65) cd_Me_copyFrom rfl (Or.inr ⟨_, rfl, rfl, rfl⟩) l0 rfl rfl ?_
  refine g_ald (pc' := 66) cd_Me_copyFrom rfl (Or.inr ⟨_, rfl, rfl, rfl⟩) l1 rfl rfl ?_
  refine g_fI (c := 5) (k := 10) (x := bz sl) (pc' := 69) cd_Me_copyFrom rfl rfl rfl rfl rfl (by decide) cl14_1 ck14_1 cf14_8 ?_
  refine g_putI (c := 5) (k := 10) (pc' := 72) cd_Me_copyFrom rfl rfl rfl rfl (by cases sl <;> decide) (Or.inl rfl) rfl (by decide) cl14_0 ck14_0 ?_
  have P19 : bm_FI (bm_putI (bm_putI (bm_putI B14 5 8 m ix) 5 9 m ga) 5 10 m (bz sl)) 5 10 m = bz sl := if_pos ⟨rfl, rfl, rfl⟩
  have Z20 : fz (fun y => y = m) B (bm_putI (bm_putI (bm_putI B14 5 8 m ix) 5 9 m ga) 5 10 m (bz sl)) := fz_trans Z18 ⟨fr_mono (fun _ q => q) (fr_putI _ 5 10 m _), rfl, rfl⟩
  obtain ⟨B21, eB21⟩ : ∃ Bx, Bx = (bm_putI (bm_putI (bm_putI B14 5 8 m ix) 5 9 m ga) 5 10 m (bz sl)) := ⟨_, rfl⟩
  have cl21_0 : m < bm_n B21 := eB21 ▸ (show m < bm_n (bm_putI (bm_putI (bm_putI B14 5 8 m ix) 5 9 m ga) 5 10 m (bz sl)) from cl14_0)
  have ck21_0 : bm_K B21 m = 5 := eB21 ▸ (show bm_K (bm_putI (bm_putI (bm_putI B14 5 8 m ix) 5 9 m ga) 5 10 m (bz sl)) m = 5 from ck14_0)
  have cl21_1 : n < bm_n B21 := eB21 ▸ (show n < bm_n (bm_putI (bm_putI (bm_putI B14 5 8 m ix) 5 9 m ga) 5 10 m (bz sl)) from cl14_1)
  have ck21_1 : bm_K B21 n = 5 := eB21 ▸ (show bm_K (bm_putI (bm_putI (bm_putI B14 5 8 m ix) 5 9 m ga) 5 10 m (bz sl)) n = 5 from ck14_1)
  have cf21_0 : bm_FI B21 5 2 n = ve := eB21 ▸ (show bm_FI (bm_putI (bm_putI (bm_putI B14 5 8 m ix) 5 9 m ga) 5 10 m (bz sl)) 5 2 n = ve from cf14_0)
  have cf21_1 : bm_FI B21 5 3 n = ma := eB21 ▸ (show bm_FI (bm_putI (bm_putI (bm_putI B14 5 8 m ix) 5 9 m ga) 5 10 m (bz sl)) 5 3 n = ma from cf14_1)
  have cf21_2 : bm_FI B21 5 4 n = go := eB21 ▸ (show bm_FI (bm_putI (bm_putI (bm_putI B14 5 8 m ix) 5 9 m ga) 5 10 m (bz sl)) 5 4 n = go from cf14_2)
  have cf21_3 : bm_FI B21 5 5 n = ge := eB21 ▸ (show bm_FI (bm_putI (bm_putI (bm_putI B14 5 8 m ix) 5 9 m ga) 5 10 m (bz sl)) 5 5 n = ge from cf14_3)
  have cf21_4 : bm_FI B21 5 6 n = (bm_FI B 5 6 n) := eB21 ▸ (show bm_FI (bm_putI (bm_putI (bm_putI B14 5 8 m ix) 5 9 m ga) 5 10 m (bz sl)) 5 6 n = (bm_FI B 5 6 n) from cf14_4)
  have cf21_5 : bm_FI B21 5 7 n = (bm_FI B 5 7 n) := eB21 ▸ (show bm_FI (bm_putI (bm_putI (bm_putI B14 5 8 m ix) 5 9 m ga) 5 10 m (bz sl)) 5 7 n = (bm_FI B 5 7 n) from cf14_5)
  have cf21_6 : bm_FI B21 5 8 n = ix := eB21 ▸ (show bm_FI (bm_putI (bm_putI (bm_putI B14 5 8 m ix) 5 9 m ga) 5 10 m (bz sl)) 5 8 n = ix from ((if_neg (fun w => (show n ≠ m by omega) w.2.2)).trans cf14_6))
  have cf21_7 : bm_FI B21 5 9 n = ga := eB21 ▸ (show bm_FI (bm_putI (bm_putI (bm_putI B14 5 8 m ix) 5 9 m ga) 5 10 m (bz sl)) 5 9 n = ga from ((if_neg (fun w => (show n ≠ m by omega) w.2.2)).trans cf14_7))
  have cf21_8 : bm_FI B21 5 10 n = bz sl := eB21 ▸ (show bm_FI (bm_putI (bm_putI (bm_putI B14 5 8 m ix) 5 9 m ga) 5 10 m (bz sl)) 5 10 n = bz sl from ((if_neg (fun w => (show n ≠ m by omega) w.2.2)).trans cf14_8))
  have cf21_9 : bm_FI B21 5 2 m = ve := eB21 ▸ (show bm_FI (bm_putI (bm_putI (bm_putI B14 5 8 m ix) 5 9 m ga) 5 10 m (bz sl)) 5 2 m = ve from cf14_9)
  have cf21_10 : bm_FI B21 5 3 m = ma := eB21 ▸ (show bm_FI (bm_putI (bm_putI (bm_putI B14 5 8 m ix) 5 9 m ga) 5 10 m (bz sl)) 5 3 m = ma from cf14_10)
  have cf21_11 : bm_FI B21 5 4 m = go := eB21 ▸ (show bm_FI (bm_putI (bm_putI (bm_putI B14 5 8 m ix) 5 9 m ga) 5 10 m (bz sl)) 5 4 m = go from cf14_11)
  have cf21_12 : bm_FI B21 5 5 m = ge := eB21 ▸ (show bm_FI (bm_putI (bm_putI (bm_putI B14 5 8 m ix) 5 9 m ga) 5 10 m (bz sl)) 5 5 m = ge from cf14_12)
  have cf21_13 : bm_FI B21 5 6 m = (bm_FI B 5 6 n) := eB21 ▸ (show bm_FI (bm_putI (bm_putI (bm_putI B14 5 8 m ix) 5 9 m ga) 5 10 m (bz sl)) 5 6 m = (bm_FI B 5 6 n) from cf14_13)
  have cf21_14 : bm_FI B21 5 7 m = (bm_FI B 5 7 n) := eB21 ▸ (show bm_FI (bm_putI (bm_putI (bm_putI B14 5 8 m ix) 5 9 m ga) 5 10 m (bz sl)) 5 7 m = (bm_FI B 5 7 n) from cf14_14)
  have cf21_15 : bm_FI B21 5 8 m = ix := eB21 ▸ (show bm_FI (bm_putI (bm_putI (bm_putI B14 5 8 m ix) 5 9 m ga) 5 10 m (bz sl)) 5 8 m = ix from P15)
  have cf21_16 : bm_FI B21 5 9 m = ga := eB21 ▸ (show bm_FI (bm_putI (bm_putI (bm_putI B14 5 8 m ix) 5 9 m ga) 5 10 m (bz sl)) 5 9 m = ga from P17)
  have cf21_17 : bm_FI B21 5 10 m = bz sl := eB21 ▸ (show bm_FI (bm_putI (bm_putI (bm_putI B14 5 8 m ix) 5 9 m ga) 5 10 m (bz sl)) 5 10 m = bz sl from P19)
  have cz21 : fz (fun y => y = m) B B21 := eB21 ▸ (show fz (fun y => y = m) B (bm_putI (bm_putI (bm_putI B14 5 8 m ix) 5 9 m ga) 5 10 m (bz sl)) from Z20)
  rw [← eB21]
  clear eB21
  refine g_k1 (v := 0) (pc' := 73) cd_Me_copyFrom rfl (by decide) rfl ?_
  refine g_ist (pc' := 74) cd_Me_copyFrom rfl (Or.inr ⟨_, rfl, rfl, rfl⟩) (by decide) rfl (fun lv el => ?_)
  have l0 := tm_lk el l0 rfl (by decide)
  have l1 := tm_lk el l1 rfl (by decide)
  have l2 : lv.lookup 2 = some (.int 0) := tm_lks el
  clear el
  refine g_ild (pc' := 75) cd_Me_copyFrom rfl (Or.inr ⟨_, rfl, rfl, rfl⟩) l2 rfl ?_
  refine g_k2 (v := 6) (pc' := 77) cd_Me_copyFrom rfl (by decide) rfl ?_
  refine g_if2 (t := 139) (pc' := 80) cd_Me_copyFrom rfl rfl rfl (fun c77 => ?_) (fun c77 => ?_)
  · exact absurd (show (6 : Int32) ≤ 0 from c77) (by decide)
  · have c77 : ¬ (6 : Int32) ≤ 0 := c77
    have hS0 := MeS_fr h0.1 cz21.1
    have hM0 : RMs B21 T m (ve, ma, go, ge, ch, si, ix, ga, sl, gv) := ⟨⟨cf21_9, cf21_10, cf21_11, cf21_12⟩, ⟨tvq cf21_13 hR.2.1.2.1.1, tvq cf21_14 hR.2.1.2.1.2⟩, cf21_15, cf21_16, cf21_17⟩
    have hN0 := RMe_fr hR cz21.1 (fun y a b => by omega) (List.prefix_refl T)
    have hF0 := fun q hq => RGs_fr h0.1 hq (h0.2.2 q hq) cz21.1 (by omega) (by omega) (fun k y hk a b => by have := gA_in m w hq hk; omega) (List.prefix_refl T)
    have Y0 : fz (fun y => m ≤ y ∧ y < m + 39) B B21 := fz_mono (fun _ q => by omega) cz21
    refine l_Mc (p := 0) hS0 hN0.1 (by decide) hF0 (hN0.2.2 0 (by decide)) hd (fun B22 lv hF22 hz22 l0 l1 l2 => ?_) lv l0 l1 l2
    have hy22 : fz (fun y => m + 1 ≤ y ∧ y < m + 39) _ B22 := fz_mono (fun y q => by have i0 := gA_in m w (p := 0) (k := 0) (by decide) (by decide); have i1 := gA_in m w (p := 0) (k := 1) (by decide) (by decide); omega) hz22
    have hS22 := MeS_fr hS0 hy22.1
    have hM22 := RMs_fr hS0 hM0 hy22.1 (by omega) (List.prefix_refl T)
    have hN22 := RMe_fr hN0 hy22.1 (fun y a b => by omega) (List.prefix_refl T)
    have Y22 := fz_trans Y0 (fz_mono (fun _ q => by omega) hy22)
    refine g_inc (y := 1) (pc' := 136) cd_Me_copyFrom rfl l2 (by decide) (by decide) rfl (fun lv el => ?_)
    have l0 := tm_lk el l0 rfl (by decide)
    have l1 := tm_lk el l1 rfl (by decide)
    have l2 : lv.lookup 2 = some (.int 1) := tm_lks el
    clear el
    refine g_pure (pc' := 74) (st' := []) cd_Me_copyFrom rfl rfl (fun _ _ => rfl) ?_
    refine g_ild (pc' := 75) cd_Me_copyFrom rfl (Or.inr ⟨_, rfl, rfl, rfl⟩) l2 rfl ?_
    refine g_k2 (v := 6) (pc' := 77) cd_Me_copyFrom rfl (by decide) rfl ?_
    refine g_if2 (t := 139) (pc' := 80) cd_Me_copyFrom rfl rfl rfl (fun c77 => ?_) (fun c77 => ?_)
    · exact absurd (show (6 : Int32) ≤ 1 from c77) (by decide)
    · have c77 : ¬ (6 : Int32) ≤ 1 := c77
      refine l_Mc (p := 1) hS22 hN22.1 (by decide) hF22 (hN22.2.2 1 (by decide)) hd (fun B23 lv hF23 hz23 l0 l1 l2 => ?_) lv l0 l1 l2
      have hy23 : fz (fun y => m + 1 ≤ y ∧ y < m + 39) _ B23 := fz_mono (fun y q => by have i0 := gA_in m w (p := 1) (k := 0) (by decide) (by decide); have i1 := gA_in m w (p := 1) (k := 1) (by decide) (by decide); omega) hz23
      have hS23 := MeS_fr hS22 hy23.1
      have hM23 := RMs_fr hS22 hM22 hy23.1 (by omega) (List.prefix_refl T)
      have hN23 := RMe_fr hN22 hy23.1 (fun y a b => by omega) (List.prefix_refl T)
      have Y23 := fz_trans Y22 (fz_mono (fun _ q => by omega) hy23)
      refine g_inc (y := 2) (pc' := 136) cd_Me_copyFrom rfl l2 (by decide) (by decide) rfl (fun lv el => ?_)
      have l0 := tm_lk el l0 rfl (by decide)
      have l1 := tm_lk el l1 rfl (by decide)
      have l2 : lv.lookup 2 = some (.int 2) := tm_lks el
      clear el
      refine g_pure (pc' := 74) (st' := []) cd_Me_copyFrom rfl rfl (fun _ _ => rfl) ?_
      refine g_ild (pc' := 75) cd_Me_copyFrom rfl (Or.inr ⟨_, rfl, rfl, rfl⟩) l2 rfl ?_
      refine g_k2 (v := 6) (pc' := 77) cd_Me_copyFrom rfl (by decide) rfl ?_
      refine g_if2 (t := 139) (pc' := 80) cd_Me_copyFrom rfl rfl rfl (fun c77 => ?_) (fun c77 => ?_)
      · exact absurd (show (6 : Int32) ≤ 2 from c77) (by decide)
      · have c77 : ¬ (6 : Int32) ≤ 2 := c77
        refine l_Mc (p := 2) hS23 hN23.1 (by decide) hF23 (hN23.2.2 2 (by decide)) hd (fun B24 lv hF24 hz24 l0 l1 l2 => ?_) lv l0 l1 l2
        have hy24 : fz (fun y => m + 1 ≤ y ∧ y < m + 39) _ B24 := fz_mono (fun y q => by have i0 := gA_in m w (p := 2) (k := 0) (by decide) (by decide); have i1 := gA_in m w (p := 2) (k := 1) (by decide) (by decide); omega) hz24
        have hS24 := MeS_fr hS23 hy24.1
        have hM24 := RMs_fr hS23 hM23 hy24.1 (by omega) (List.prefix_refl T)
        have hN24 := RMe_fr hN23 hy24.1 (fun y a b => by omega) (List.prefix_refl T)
        have Y24 := fz_trans Y23 (fz_mono (fun _ q => by omega) hy24)
        refine g_inc (y := 3) (pc' := 136) cd_Me_copyFrom rfl l2 (by decide) (by decide) rfl (fun lv el => ?_)
        have l0 := tm_lk el l0 rfl (by decide)
        have l1 := tm_lk el l1 rfl (by decide)
        have l2 : lv.lookup 2 = some (.int 3) := tm_lks el
        clear el
        refine g_pure (pc' := 74) (st' := []) cd_Me_copyFrom rfl rfl (fun _ _ => rfl) ?_
        refine g_ild (pc' := 75) cd_Me_copyFrom rfl (Or.inr ⟨_, rfl, rfl, rfl⟩) l2 rfl ?_
        refine g_k2 (v := 6) (pc' := 77) cd_Me_copyFrom rfl (by decide) rfl ?_
        refine g_if2 (t := 139) (pc' := 80) cd_Me_copyFrom rfl rfl rfl (fun c77 => ?_) (fun c77 => ?_)
        · exact absurd (show (6 : Int32) ≤ 3 from c77) (by decide)
        · have c77 : ¬ (6 : Int32) ≤ 3 := c77
          refine l_Mc (p := 3) hS24 hN24.1 (by decide) hF24 (hN24.2.2 3 (by decide)) hd (fun B25 lv hF25 hz25 l0 l1 l2 => ?_) lv l0 l1 l2
          have hy25 : fz (fun y => m + 1 ≤ y ∧ y < m + 39) _ B25 := fz_mono (fun y q => by have i0 := gA_in m w (p := 3) (k := 0) (by decide) (by decide); have i1 := gA_in m w (p := 3) (k := 1) (by decide) (by decide); omega) hz25
          have hS25 := MeS_fr hS24 hy25.1
          have hM25 := RMs_fr hS24 hM24 hy25.1 (by omega) (List.prefix_refl T)
          have hN25 := RMe_fr hN24 hy25.1 (fun y a b => by omega) (List.prefix_refl T)
          have Y25 := fz_trans Y24 (fz_mono (fun _ q => by omega) hy25)
          refine g_inc (y := 4) (pc' := 136) cd_Me_copyFrom rfl l2 (by decide) (by decide) rfl (fun lv el => ?_)
          have l0 := tm_lk el l0 rfl (by decide)
          have l1 := tm_lk el l1 rfl (by decide)
          have l2 : lv.lookup 2 = some (.int 4) := tm_lks el
          clear el
          refine g_pure (pc' := 74) (st' := []) cd_Me_copyFrom rfl rfl (fun _ _ => rfl) ?_
          refine g_ild (pc' := 75) cd_Me_copyFrom rfl (Or.inr ⟨_, rfl, rfl, rfl⟩) l2 rfl ?_
          refine g_k2 (v := 6) (pc' := 77) cd_Me_copyFrom rfl (by decide) rfl ?_
          refine g_if2 (t := 139) (pc' := 80) cd_Me_copyFrom rfl rfl rfl (fun c77 => ?_) (fun c77 => ?_)
          · exact absurd (show (6 : Int32) ≤ 4 from c77) (by decide)
          · have c77 : ¬ (6 : Int32) ≤ 4 := c77
            refine l_Mc (p := 4) hS25 hN25.1 (by decide) hF25 (hN25.2.2 4 (by decide)) hd (fun B26 lv hF26 hz26 l0 l1 l2 => ?_) lv l0 l1 l2
            have hy26 : fz (fun y => m + 1 ≤ y ∧ y < m + 39) _ B26 := fz_mono (fun y q => by have i0 := gA_in m w (p := 4) (k := 0) (by decide) (by decide); have i1 := gA_in m w (p := 4) (k := 1) (by decide) (by decide); omega) hz26
            have hS26 := MeS_fr hS25 hy26.1
            have hM26 := RMs_fr hS25 hM25 hy26.1 (by omega) (List.prefix_refl T)
            have hN26 := RMe_fr hN25 hy26.1 (fun y a b => by omega) (List.prefix_refl T)
            have Y26 := fz_trans Y25 (fz_mono (fun _ q => by omega) hy26)
            refine g_inc (y := 5) (pc' := 136) cd_Me_copyFrom rfl l2 (by decide) (by decide) rfl (fun lv el => ?_)
            have l0 := tm_lk el l0 rfl (by decide)
            have l1 := tm_lk el l1 rfl (by decide)
            have l2 : lv.lookup 2 = some (.int 5) := tm_lks el
            clear el
            refine g_pure (pc' := 74) (st' := []) cd_Me_copyFrom rfl rfl (fun _ _ => rfl) ?_
            refine g_ild (pc' := 75) cd_Me_copyFrom rfl (Or.inr ⟨_, rfl, rfl, rfl⟩) l2 rfl ?_
            refine g_k2 (v := 6) (pc' := 77) cd_Me_copyFrom rfl (by decide) rfl ?_
            refine g_if2 (t := 139) (pc' := 80) cd_Me_copyFrom rfl rfl rfl (fun c77 => ?_) (fun c77 => ?_)
            · exact absurd (show (6 : Int32) ≤ 5 from c77) (by decide)
            · have c77 : ¬ (6 : Int32) ≤ 5 := c77
              refine l_Mc (p := 5) hS26 hN26.1 (by decide) hF26 (hN26.2.2 5 (by decide)) hd (fun B27 lv hF27 hz27 l0 l1 l2 => ?_) lv l0 l1 l2
              have hy27 : fz (fun y => m + 1 ≤ y ∧ y < m + 39) _ B27 := fz_mono (fun y q => by have i0 := gA_in m w (p := 5) (k := 0) (by decide) (by decide); have i1 := gA_in m w (p := 5) (k := 1) (by decide) (by decide); omega) hz27
              have hS27 := MeS_fr hS26 hy27.1
              have hM27 := RMs_fr hS26 hM26 hy27.1 (by omega) (List.prefix_refl T)
              have hN27 := RMe_fr hN26 hy27.1 (fun y a b => by omega) (List.prefix_refl T)
              have Y27 := fz_trans Y26 (fz_mono (fun _ q => by omega) hy27)
              refine g_inc (y := 6) (pc' := 136) cd_Me_copyFrom rfl l2 (by decide) (by decide) rfl (fun lv el => ?_)
              have l0 := tm_lk el l0 rfl (by decide)
              have l1 := tm_lk el l1 rfl (by decide)
              have l2 : lv.lookup 2 = some (.int 6) := tm_lks el
              clear el
              refine g_pure (pc' := 74) (st' := []) cd_Me_copyFrom rfl rfl (fun _ _ => rfl) ?_
              refine g_ild (pc' := 75) cd_Me_copyFrom rfl (Or.inr ⟨_, rfl, rfl, rfl⟩) l2 rfl ?_
              refine g_k2 (v := 6) (pc' := 77) cd_Me_copyFrom rfl (by decide) rfl ?_
              refine g_if2 (t := 139) (pc' := 80) cd_Me_copyFrom rfl rfl rfl (fun c77 => ?_) (fun c77 => ?_)
              · have c77 : (6 : Int32) ≤ 6 := c77
                exact g_retv cd_Me_copyFrom rfl ⟨rfl, (kk _ ⟨hS27, hM27, fun p hp => by have hc : p = 0 ∨ p = 1 ∨ p = 2 ∨ p = 3 ∨ p = 4 ∨ p = 5 := (by omega); rcases hc with rfl | rfl | rfl | rfl | rfl | rfl <;> exact hF27 _ hp⟩ Y27)⟩
              · exact absurd (show ¬ (6 : Int32) ≤ 6 from c77) (by decide)
set_option maxRecDepth 100000 in
theorem t_Dcopy {sc : tm_X} {d z : Nat} {w' : SW} {B : bm_H} {T : List Tm} {x : Nat} {w : SW} {id : Tm} {K0 K1 : PK} {on : List (Tm × Int32)} {ln : Int32} {se : Nat → List SS} {me : Nat → MM} {D0 : DV} {Q : bm_H → Prop} (h0 : RDe B T x w D0) (hR : RDe B T z w' (id, K0, K1, on, ln, se, me)) (hd : x + 202 < z ∨ z + 202 < x) (kk : ∀ B', RDe B' T x w (id, K0, K1, on, ln, se, me) → fz (fun y => x ≤ y ∧ y < x + 203) B B' → Q B') : bm_Gv sc (d + 4) 36 [.ref x, .ref z] B Q := by
  obtain ⟨i0, J0, J1, o0, n0, s0, m0⟩ := D0
  show bm_G sc (d + 4) 36 0 [(0, .ref x), (1, .ref z)] [] B _
  generalize elv : ([(0, .ref x), (1, .ref z)] : tm_L) = lv
  have l0 : lv.lookup 0 = some (.ref x) := by rw [← elv]; rfl
  have l1 : lv.lookup 1 = some (.ref z) := by rw [← elv]; rfl
  clear elv
  refine g_ald (pc' := 1) cd_De_copyFrom rfl (Or.inr ⟨_, rfl, rfl, rfl⟩) l0 rfl rfl ?_
  refine g_ald (pc' := 2) cd_De_copyFrom rfl (Or.inr ⟨_, rfl, rfl, rfl⟩) l1 rfl rfl ?_
  refine g_fI (c := 0) (k := 6) (x := (bm_FI B 0 6 z)) (pc' := 5) cd_De_copyFrom rfl rfl rfl rfl rfl (by decide) hR.1.1.1 hR.1.1.2 rfl ?_
  refine g_putI (c := 0) (k := 6) (pc' := 8) cd_De_copyFrom rfl rfl rfl rfl (by simp [tm_okV, narrow, fits]) (Or.inl rfl) rfl (by decide) h0.1.1.1 h0.1.1.2 ?_
  have P28 : bm_FI (bm_putI B 0 6 x (bm_FI B 0 6 z)) 0 6 x = (bm_FI B 0 6 z) := if_pos ⟨rfl, rfl, rfl⟩
  have Z29 : fz (fun y => y = x) B (bm_putI B 0 6 x (bm_FI B 0 6 z)) := fz_trans (fz_rfl _ B) ⟨fr_mono (fun _ q => q) (fr_putI _ 0 6 x _), rfl, rfl⟩
  refine g_ald (pc' := 9) cd_De_copyFrom rfl (Or.inr ⟨_, rfl, rfl, rfl⟩) l0 rfl rfl ?_
  refine g_ald (pc' := 10) cd_De_copyFrom rfl (Or.inr ⟨_, rfl, rfl, rfl⟩) l1 rfl rfl ?_
  refine g_fI (c := 0) (k := 8) (x := (bm_FI B 0 8 z)) (pc' := 13) cd_De_copyFrom rfl rfl rfl rfl rfl (by decide) hR.1.1.1 hR.1.1.2 rfl ?_
  refine g_putI (c := 0) (k := 8) (pc' := 16) cd_De_copyFrom rfl rfl rfl rfl (by simp [tm_okV, narrow, fits]) (Or.inl rfl) rfl (by decide) h0.1.1.1 h0.1.1.2 ?_
  have P30 : bm_FI (bm_putI (bm_putI B 0 6 x (bm_FI B 0 6 z)) 0 8 x (bm_FI B 0 8 z)) 0 8 x = (bm_FI B 0 8 z) := if_pos ⟨rfl, rfl, rfl⟩
  have Z31 : fz (fun y => y = x) B (bm_putI (bm_putI B 0 6 x (bm_FI B 0 6 z)) 0 8 x (bm_FI B 0 8 z)) := fz_trans Z29 ⟨fr_mono (fun _ q => q) (fr_putI _ 0 8 x _), rfl, rfl⟩
  obtain ⟨B32, eB32⟩ : ∃ Bx, Bx = (bm_putI (bm_putI B 0 6 x (bm_FI B 0 6 z)) 0 8 x (bm_FI B 0 8 z)) := ⟨_, rfl⟩
  have hz32 : fz (fun y => y = x) B B32 := eB32 ▸ Z31
  have hd32 : RDs B32 T x id ln := eB32 ▸ (⟨tvq P28 hR.2.1.1, P30.trans hR.2.1.2⟩ : RDs (bm_putI (bm_putI B 0 6 x (bm_FI B 0 6 z)) 0 8 x (bm_FI B 0 8 z)) T x id ln)
  have ho32 : ROn B32 T x o0 := eB32 ▸ (h0.2.2.2.1 : ROn (bm_putI (bm_putI B 0 6 x (bm_FI B 0 6 z)) 0 8 x (bm_FI B 0 8 z)) T x o0)
  rw [← eB32]
  clear eB32
  have hx32 : RDe B32 T x w (id, J0, J1, o0, ln, s0, m0) := RDe_top h0 hz32.1 (fun y a b c e f => c) (List.prefix_refl T) hd32 ho32
  have hs32 := RDe_fr hR hz32.1 (fun y a b => by omega) (List.prefix_refl T)
  have Y32 : fz (fun y => x ≤ y ∧ y < x + 203) B B32 := fz_trans (fz_rfl _ B) (fz_mono (fun _ q => by omega) hz32)
  refine g_ald (pc' := 17) cd_De_copyFrom rfl (Or.inr ⟨_, rfl, rfl, rfl⟩) l0 rfl rfl ?_
  refine g_fR (c := 0) (k := 0) (x := (x + 1)) (pc' := 20) cd_De_copyFrom rfl rfl rfl rfl rfl (by decide) hx32.1.1.1 hx32.1.1.2 hx32.1.2.1.1 ?_
  refine g_k1 (v := 0) (pc' := 21) cd_De_copyFrom rfl (by decide) rfl ?_
  refine g_aR (t := 4) (x := (pA x w.1 0)) (pc' := 22) cd_De_copyFrom rfl rfl hx32.1.2.2.1.1 hx32.1.2.2.1.2.1 (by decide) rfl rfl (by rw [show bm_AL B32 (x + 1) = 2 from hx32.1.2.2.1.2.2]; exact vp_in_nI (n := 0) (by decide) (by decide)) hx32.2.2.1.1.1 ?_
  refine g_ald (pc' := 23) cd_De_copyFrom rfl (Or.inr ⟨_, rfl, rfl, rfl⟩) l1 rfl rfl ?_
  refine g_fR (c := 0) (k := 0) (x := (z + 1)) (pc' := 26) cd_De_copyFrom rfl rfl rfl rfl rfl (by decide) hs32.1.1.1 hs32.1.1.2 hs32.1.2.1.1 ?_
  refine g_k1 (v := 0) (pc' := 27) cd_De_copyFrom rfl (by decide) rfl ?_
  refine g_aR (t := 4) (x := (pA z w'.1 0)) (pc' := 28) cd_De_copyFrom rfl rfl hs32.1.2.2.1.1 hs32.1.2.2.1.2.1 (by decide) rfl rfl (by rw [show bm_AL B32 (z + 1) = 2 from hs32.1.2.2.1.2.2]; exact vp_in_nI (n := 0) (by decide) (by decide)) hs32.2.2.1.1.1 ?_
  refine g_callv (pc' := 31) cd_De_copyFrom rfl rfl rfl rfl rfl (tm_invV rfl rfl cd_Pk_copyFrom rfl (Nat.le_of_ble_eq_true rfl) (by decide) hx32.2.2.1.2.1.1.1.1 hx32.2.2.1.2.1.1.1.2) (t_Pcopy hx32.2.2.1.2.1 hs32.2.2.1.2.1 (by have := pA_in x w.1 (k := 0) (by decide); have := pA_in z w'.1 (k := 0) (by decide); omega) (fun B33 hp33 hz33 => ?_))
  have ha33 := fr_AR hz33.1 hx32.1.2.2.1.1 (by have := pA_in x w.1 (k := 0) (by decide); omega)
  have hx33 : RDe B33 T x w (id, K0, J1, o0, ln, s0, m0) := RDe_pks (b' := w.1) hx32 hz33.1 (fun y a b c => by have := pA_in x w.1 (k := 0) (by decide); omega) (List.prefix_refl T) ⟨⟨by rw [ha33]; exact hx32.2.2.1.1.1, by rw [ha33]; exact hx32.2.2.1.1.2⟩, hp33, RPk_fr hx32.2.2.1.2.2 hz33.1 (by have := pA_01 x w.1; omega) (by have := pA_01 x w.1; omega) (List.prefix_refl T)⟩
  have hs33 := RDe_fr hs32 hz33.1 (fun y a b => by have := pA_in x w.1 (k := 0) (by decide); omega) (List.prefix_refl T)
  have Y33 : fz (fun y => x ≤ y ∧ y < x + 203) B B33 := fz_trans Y32 (fz_mono (fun _ q => by have := pA_in x w.1 (k := 0) (by decide); omega) hz33)
  show bm_G _ _ _ 31 _ [] B33 _
  refine g_ald (pc' := 32) cd_De_copyFrom rfl (Or.inr ⟨_, rfl, rfl, rfl⟩) l0 rfl rfl ?_
  refine g_fR (c := 0) (k := 0) (x := (x + 1)) (pc' := 35) cd_De_copyFrom rfl rfl rfl rfl rfl (by decide) hx33.1.1.1 hx33.1.1.2 hx33.1.2.1.1 ?_
  refine g_k1 (v := 1) (pc' := 36) cd_De_copyFrom rfl (by decide) rfl ?_
  refine g_aR (t := 4) (x := (pA x w.1 1)) (pc' := 37) cd_De_copyFrom rfl rfl hx33.1.2.2.1.1 hx33.1.2.2.1.2.1 (by decide) rfl rfl (by rw [show bm_AL B33 (x + 1) = 2 from hx33.1.2.2.1.2.2]; exact vp_in_nI (n := 1) (by decide) (by decide)) hx33.2.2.1.1.2 ?_
  refine g_ald (pc' := 38) cd_De_copyFrom rfl (Or.inr ⟨_, rfl, rfl, rfl⟩) l1 rfl rfl ?_
  refine g_fR (c := 0) (k := 0) (x := (z + 1)) (pc' := 41) cd_De_copyFrom rfl rfl rfl rfl rfl (by decide) hs33.1.1.1 hs33.1.1.2 hs33.1.2.1.1 ?_
  refine g_k1 (v := 1) (pc' := 42) cd_De_copyFrom rfl (by decide) rfl ?_
  refine g_aR (t := 4) (x := (pA z w'.1 1)) (pc' := 43) cd_De_copyFrom rfl rfl hs33.1.2.2.1.1 hs33.1.2.2.1.2.1 (by decide) rfl rfl (by rw [show bm_AL B33 (z + 1) = 2 from hs33.1.2.2.1.2.2]; exact vp_in_nI (n := 1) (by decide) (by decide)) hs33.2.2.1.1.2 ?_
  refine g_callv (pc' := 46) cd_De_copyFrom rfl rfl rfl rfl rfl (tm_invV rfl rfl cd_Pk_copyFrom rfl (Nat.le_of_ble_eq_true rfl) (by decide) hx33.2.2.1.2.2.1.1.1 hx33.2.2.1.2.2.1.1.2) (t_Pcopy hx33.2.2.1.2.2 hs33.2.2.1.2.2 (by have := pA_in x w.1 (k := 1) (by decide); have := pA_in z w'.1 (k := 1) (by decide); omega) (fun B34 hp34 hz34 => ?_))
  have ha34 := fr_AR hz34.1 hx33.1.2.2.1.1 (by have := pA_in x w.1 (k := 1) (by decide); omega)
  have hx34 : RDe B34 T x w (id, K0, K1, o0, ln, s0, m0) := RDe_pks (b' := w.1) hx33 hz34.1 (fun y a b c => by have := pA_in x w.1 (k := 1) (by decide); omega) (List.prefix_refl T) ⟨⟨by rw [ha34]; exact hx33.2.2.1.1.1, by rw [ha34]; exact hx33.2.2.1.1.2⟩, RPk_fr hx33.2.2.1.2.1 hz34.1 (by have := pA_01 x w.1; omega) (by have := pA_01 x w.1; omega) (List.prefix_refl T), hp34⟩
  have hs34 := RDe_fr hs33 hz34.1 (fun y a b => by have := pA_in x w.1 (k := 1) (by decide); omega) (List.prefix_refl T)
  have Y34 : fz (fun y => x ≤ y ∧ y < x + 203) B B34 := fz_trans Y33 (fz_mono (fun _ q => by have := pA_in x w.1 (k := 1) (by decide); omega) hz34)
  show bm_G _ _ _ 46 _ [] B34 _
  refine g_ald (pc' := 47) cd_De_copyFrom rfl (Or.inr ⟨_, rfl, rfl, rfl⟩) l0 rfl rfl ?_
  refine g_ald (pc' := 48) cd_De_copyFrom rfl (Or.inr ⟨_, rfl, rfl, rfl⟩) l1 rfl rfl ?_
  refine g_fI (c := 0) (k := 7) (x := (bm_FI B34 0 7 z)) (pc' := 51) cd_De_copyFrom rfl rfl rfl rfl rfl (by decide) hs34.1.1.1 hs34.1.1.2 rfl ?_
  refine g_putI (c := 0) (k := 7) (pc' := 54) cd_De_copyFrom rfl rfl rfl rfl (by simp [tm_okV, narrow, fits]) (Or.inl rfl) rfl (by decide) hx34.1.1.1 hx34.1.1.2 ?_
  have P35 : bm_FI (bm_putI B34 0 7 x (bm_FI B34 0 7 z)) 0 7 x = (bm_FI B34 0 7 z) := if_pos ⟨rfl, rfl, rfl⟩
  refine g_ald (pc' := 55) cd_De_copyFrom rfl (Or.inr ⟨_, rfl, rfl, rfl⟩) l1 rfl rfl ?_
  refine g_fR (c := 0) (k := 1) (x := (z + 6)) (pc' := 58) cd_De_copyFrom rfl rfl rfl rfl rfl (by decide) hs34.1.1.1 hs34.1.1.2 hs34.1.2.1.2.1 ?_
  refine g_k1 (v := 0) (pc' := 59) cd_De_copyFrom rfl (by decide) rfl ?_
  refine g_ald (pc' := 60) cd_De_copyFrom rfl (Or.inr ⟨_, rfl, rfl, rfl⟩) l0 rfl rfl ?_
  refine g_fR (c := 0) (k := 1) (x := (x + 6)) (pc' := 63) cd_De_copyFrom rfl rfl rfl rfl rfl (by decide) hx34.1.1.1 hx34.1.1.2 hx34.1.2.1.2.1 ?_
  refine g_k1 (v := 0) (pc' := 64) cd_De_copyFrom rfl (by decide) rfl ?_
  refine g_k1 (v := 4) (pc' := 65) cd_De_copyFrom rfl (by decide) rfl ?_
  refine g_copy (pc' := 68) cd_De_copyFrom rfl rfl rfl hs34.1.2.2.2.1.1 hs34.1.2.2.2.1.2.1 hx34.1.2.2.2.1.1 hx34.1.2.2.2.1.2.1 (by decide) (by decide) (by decide) (by rw [show bm_AL (bm_putI B34 0 7 x (bm_FI B34 0 7 z)) (z + 6) = 4 from hs34.1.2.2.2.1.2.2]; decide) (by rw [show bm_AL (bm_putI B34 0 7 x (bm_FI B34 0 7 z)) (x + 6) = 4 from hx34.1.2.2.2.1.2.2]; decide) rfl ?_
  show bm_G _ _ _ 68 _ _ (bm_allI (bm_putI B34 0 7 x (bm_FI B34 0 7 z)) (x + 6) (va_cpy (bm_AI (bm_putI B34 0 7 x (bm_FI B34 0 7 z)) (z + 6)) (bm_AI (bm_putI B34 0 7 x (bm_FI B34 0 7 z)) (x + 6)) 0 0 4)) _
  refine g_ald (pc' := 69) cd_De_copyFrom rfl (Or.inr ⟨_, rfl, rfl, rfl⟩) l1 rfl rfl ?_
  refine g_fR (c := 0) (k := 2) (x := (z + 7)) (pc' := 72) cd_De_copyFrom rfl rfl rfl rfl rfl (by decide) hs34.1.1.1 hs34.1.1.2 hs34.1.2.1.2.2.1 ?_
  refine g_k1 (v := 0) (pc' := 73) cd_De_copyFrom rfl (by decide) rfl ?_
  refine g_ald (pc' := 74) cd_De_copyFrom rfl (Or.inr ⟨_, rfl, rfl, rfl⟩) l0 rfl rfl ?_
  refine g_fR (c := 0) (k := 2) (x := (x + 7)) (pc' := 77) cd_De_copyFrom rfl rfl rfl rfl rfl (by decide) hx34.1.1.1 hx34.1.1.2 hx34.1.2.1.2.2.1 ?_
  refine g_k1 (v := 0) (pc' := 78) cd_De_copyFrom rfl (by decide) rfl ?_
  refine g_k1 (v := 4) (pc' := 79) cd_De_copyFrom rfl (by decide) rfl ?_
  refine g_copy (pc' := 82) cd_De_copyFrom rfl rfl rfl hs34.1.2.2.2.2.1.1 hs34.1.2.2.2.2.1.2.1 hx34.1.2.2.2.2.1.1 hx34.1.2.2.2.2.1.2.1 (by decide) (by decide) (by decide) (by rw [show bm_AL (bm_allI (bm_putI B34 0 7 x (bm_FI B34 0 7 z)) (x + 6) (va_cpy (bm_AI (bm_putI B34 0 7 x (bm_FI B34 0 7 z)) (z + 6)) (bm_AI (bm_putI B34 0 7 x (bm_FI B34 0 7 z)) (x + 6)) 0 0 4)) (z + 7) = 4 from hs34.1.2.2.2.2.1.2.2]; decide) (by rw [show bm_AL (bm_allI (bm_putI B34 0 7 x (bm_FI B34 0 7 z)) (x + 6) (va_cpy (bm_AI (bm_putI B34 0 7 x (bm_FI B34 0 7 z)) (z + 6)) (bm_AI (bm_putI B34 0 7 x (bm_FI B34 0 7 z)) (x + 6)) 0 0 4)) (x + 7) = 4 from hx34.1.2.2.2.2.1.2.2]; decide) rfl ?_
  show bm_G _ _ _ 82 _ _ (bm_allI (bm_allI (bm_putI B34 0 7 x (bm_FI B34 0 7 z)) (x + 6) (va_cpy (bm_AI (bm_putI B34 0 7 x (bm_FI B34 0 7 z)) (z + 6)) (bm_AI (bm_putI B34 0 7 x (bm_FI B34 0 7 z)) (x + 6)) 0 0 4)) (x + 7) (va_cpy (bm_AI (bm_allI (bm_putI B34 0 7 x (bm_FI B34 0 7 z)) (x + 6) (va_cpy (bm_AI (bm_putI B34 0 7 x (bm_FI B34 0 7 z)) (z + 6)) (bm_AI (bm_putI B34 0 7 x (bm_FI B34 0 7 z)) (x + 6)) 0 0 4)) (z + 7)) (bm_AI (bm_allI (bm_putI B34 0 7 x (bm_FI B34 0 7 z)) (x + 6) (va_cpy (bm_AI (bm_putI B34 0 7 x (bm_FI B34 0 7 z)) (z + 6)) (bm_AI (bm_putI B34 0 7 x (bm_FI B34 0 7 z)) (x + 6)) 0 0 4)) (x + 7)) 0 0 4)) _
  have hz36 : fz (fun y => y = x ∨ y = x + 6 ∨ y = x + 7) B34 (bm_allI (bm_allI (bm_putI B34 0 7 x (bm_FI B34 0 7 z)) (x + 6) (va_cpy (bm_AI (bm_putI B34 0 7 x (bm_FI B34 0 7 z)) (z + 6)) (bm_AI (bm_putI B34 0 7 x (bm_FI B34 0 7 z)) (x + 6)) 0 0 4)) (x + 7) (va_cpy (bm_AI (bm_allI (bm_putI B34 0 7 x (bm_FI B34 0 7 z)) (x + 6) (va_cpy (bm_AI (bm_putI B34 0 7 x (bm_FI B34 0 7 z)) (z + 6)) (bm_AI (bm_putI B34 0 7 x (bm_FI B34 0 7 z)) (x + 6)) 0 0 4)) (z + 7)) (bm_AI (bm_allI (bm_putI B34 0 7 x (bm_FI B34 0 7 z)) (x + 6) (va_cpy (bm_AI (bm_putI B34 0 7 x (bm_FI B34 0 7 z)) (z + 6)) (bm_AI (bm_putI B34 0 7 x (bm_FI B34 0 7 z)) (x + 6)) 0 0 4)) (x + 7)) 0 0 4)) := fz_trans (fz_trans ⟨fr_mono (fun _ q => Or.inl q) (fr_putI _ _ _ _ _), rfl, rfl⟩ ⟨fr_mono (fun _ q => Or.inr (Or.inl q)) (fr_allI _ _ _), rfl, rfl⟩) ⟨fr_mono (fun _ q => Or.inr (Or.inr q)) (fr_allI _ _ _), rfl, rfl⟩
  have ho36 : ROn (bm_allI (bm_allI (bm_putI B34 0 7 x (bm_FI B34 0 7 z)) (x + 6) (va_cpy (bm_AI (bm_putI B34 0 7 x (bm_FI B34 0 7 z)) (z + 6)) (bm_AI (bm_putI B34 0 7 x (bm_FI B34 0 7 z)) (x + 6)) 0 0 4)) (x + 7) (va_cpy (bm_AI (bm_allI (bm_putI B34 0 7 x (bm_FI B34 0 7 z)) (x + 6) (va_cpy (bm_AI (bm_putI B34 0 7 x (bm_FI B34 0 7 z)) (z + 6)) (bm_AI (bm_putI B34 0 7 x (bm_FI B34 0 7 z)) (x + 6)) 0 0 4)) (z + 7)) (bm_AI (bm_allI (bm_putI B34 0 7 x (bm_FI B34 0 7 z)) (x + 6) (va_cpy (bm_AI (bm_putI B34 0 7 x (bm_FI B34 0 7 z)) (z + 6)) (bm_AI (bm_putI B34 0 7 x (bm_FI B34 0 7 z)) (x + 6)) 0 0 4)) (x + 7)) 0 0 4)) T x on := ⟨⟨P35.trans hs34.2.2.2.1.1.1, hs34.2.2.2.1.1.2⟩, fun i e he => by
    have hi := (List.getElem?_eq_some_iff.mp he).1
    have h4 := hs34.2.2.2.1.1.2
    have q6 : bm_AI (bm_allI (bm_allI (bm_putI B34 0 7 x (bm_FI B34 0 7 z)) (x + 6) (va_cpy (bm_AI (bm_putI B34 0 7 x (bm_FI B34 0 7 z)) (z + 6)) (bm_AI (bm_putI B34 0 7 x (bm_FI B34 0 7 z)) (x + 6)) 0 0 4)) (x + 7) (va_cpy (bm_AI (bm_allI (bm_putI B34 0 7 x (bm_FI B34 0 7 z)) (x + 6) (va_cpy (bm_AI (bm_putI B34 0 7 x (bm_FI B34 0 7 z)) (z + 6)) (bm_AI (bm_putI B34 0 7 x (bm_FI B34 0 7 z)) (x + 6)) 0 0 4)) (z + 7)) (bm_AI (bm_allI (bm_putI B34 0 7 x (bm_FI B34 0 7 z)) (x + 6) (va_cpy (bm_AI (bm_putI B34 0 7 x (bm_FI B34 0 7 z)) (z + 6)) (bm_AI (bm_putI B34 0 7 x (bm_FI B34 0 7 z)) (x + 6)) 0 0 4)) (x + 7)) 0 0 4)) (x + 6) i = bm_AI B34 (z + 6) i := (congrFun (fr_AI (X := fun y => y = x + 7) (fr_allI (bm_allI (bm_putI B34 0 7 x (bm_FI B34 0 7 z)) (x + 6) (va_cpy (bm_AI (bm_putI B34 0 7 x (bm_FI B34 0 7 z)) (z + 6)) (bm_AI (bm_putI B34 0 7 x (bm_FI B34 0 7 z)) (x + 6)) 0 0 4)) (x + 7) _) (show x + 6 < bm_n (bm_allI (bm_putI B34 0 7 x (bm_FI B34 0 7 z)) (x + 6) (va_cpy (bm_AI (bm_putI B34 0 7 x (bm_FI B34 0 7 z)) (z + 6)) (bm_AI (bm_putI B34 0 7 x (bm_FI B34 0 7 z)) (x + 6)) 0 0 4)) from hx34.1.2.2.2.1.1) (by omega)) i).trans (AI_cp4 (bm_putI B34 0 7 x (bm_FI B34 0 7 z)) (by omega))
    have q7 : bm_AI (bm_allI (bm_allI (bm_putI B34 0 7 x (bm_FI B34 0 7 z)) (x + 6) (va_cpy (bm_AI (bm_putI B34 0 7 x (bm_FI B34 0 7 z)) (z + 6)) (bm_AI (bm_putI B34 0 7 x (bm_FI B34 0 7 z)) (x + 6)) 0 0 4)) (x + 7) (va_cpy (bm_AI (bm_allI (bm_putI B34 0 7 x (bm_FI B34 0 7 z)) (x + 6) (va_cpy (bm_AI (bm_putI B34 0 7 x (bm_FI B34 0 7 z)) (z + 6)) (bm_AI (bm_putI B34 0 7 x (bm_FI B34 0 7 z)) (x + 6)) 0 0 4)) (z + 7)) (bm_AI (bm_allI (bm_putI B34 0 7 x (bm_FI B34 0 7 z)) (x + 6) (va_cpy (bm_AI (bm_putI B34 0 7 x (bm_FI B34 0 7 z)) (z + 6)) (bm_AI (bm_putI B34 0 7 x (bm_FI B34 0 7 z)) (x + 6)) 0 0 4)) (x + 7)) 0 0 4)) (x + 7) i = bm_AI B34 (z + 7) i := (AI_cp4 (bm_allI (bm_putI B34 0 7 x (bm_FI B34 0 7 z)) (x + 6) (va_cpy (bm_AI (bm_putI B34 0 7 x (bm_FI B34 0 7 z)) (z + 6)) (bm_AI (bm_putI B34 0 7 x (bm_FI B34 0 7 z)) (x + 6)) 0 0 4)) (by omega)).trans (congrFun (fr_AI (X := fun y => y = x + 6) (fr_allI (bm_putI B34 0 7 x (bm_FI B34 0 7 z)) (x + 6) _) (show z + 7 < bm_n (bm_putI B34 0 7 x (bm_FI B34 0 7 z)) from hs34.1.2.2.2.2.1.1) (by omega)) i)
    rw [q6, q7]; exact hs34.2.2.2.1.2 i e he⟩
  have hd36 : RDs (bm_allI (bm_allI (bm_putI B34 0 7 x (bm_FI B34 0 7 z)) (x + 6) (va_cpy (bm_AI (bm_putI B34 0 7 x (bm_FI B34 0 7 z)) (z + 6)) (bm_AI (bm_putI B34 0 7 x (bm_FI B34 0 7 z)) (x + 6)) 0 0 4)) (x + 7) (va_cpy (bm_AI (bm_allI (bm_putI B34 0 7 x (bm_FI B34 0 7 z)) (x + 6) (va_cpy (bm_AI (bm_putI B34 0 7 x (bm_FI B34 0 7 z)) (z + 6)) (bm_AI (bm_putI B34 0 7 x (bm_FI B34 0 7 z)) (x + 6)) 0 0 4)) (z + 7)) (bm_AI (bm_allI (bm_putI B34 0 7 x (bm_FI B34 0 7 z)) (x + 6) (va_cpy (bm_AI (bm_putI B34 0 7 x (bm_FI B34 0 7 z)) (z + 6)) (bm_AI (bm_putI B34 0 7 x (bm_FI B34 0 7 z)) (x + 6)) 0 0 4)) (x + 7)) 0 0 4)) T x id ln := hx34.2.1
  generalize (bm_allI (bm_allI (bm_putI B34 0 7 x (bm_FI B34 0 7 z)) (x + 6) (va_cpy (bm_AI (bm_putI B34 0 7 x (bm_FI B34 0 7 z)) (z + 6)) (bm_AI (bm_putI B34 0 7 x (bm_FI B34 0 7 z)) (x + 6)) 0 0 4)) (x + 7) (va_cpy (bm_AI (bm_allI (bm_putI B34 0 7 x (bm_FI B34 0 7 z)) (x + 6) (va_cpy (bm_AI (bm_putI B34 0 7 x (bm_FI B34 0 7 z)) (z + 6)) (bm_AI (bm_putI B34 0 7 x (bm_FI B34 0 7 z)) (x + 6)) 0 0 4)) (z + 7)) (bm_AI (bm_allI (bm_putI B34 0 7 x (bm_FI B34 0 7 z)) (x + 6) (va_cpy (bm_AI (bm_putI B34 0 7 x (bm_FI B34 0 7 z)) (z + 6)) (bm_AI (bm_putI B34 0 7 x (bm_FI B34 0 7 z)) (x + 6)) 0 0 4)) (x + 7)) 0 0 4)) = B36 at hz36 ho36 hd36 ⊢
  have hx36 : RDe B36 T x w (id, K0, K1, on, ln, s0, m0) := RDe_top hx34 hz36.1 (fun y a b c e f => by omega) (List.prefix_refl T) hd36 ho36
  have hs36 := RDe_fr hs34 hz36.1 (fun y a b => by omega) (List.prefix_refl T)
  have Y36 : fz (fun y => x ≤ y ∧ y < x + 203) B B36 := fz_trans Y34 (fz_mono (fun _ q => by omega) hz36)
  refine g_k1 (v := 0) (pc' := 83) cd_De_copyFrom rfl (by decide) rfl ?_
  refine g_ist (pc' := 84) cd_De_copyFrom rfl (Or.inr ⟨_, rfl, rfl, rfl⟩) (by decide) rfl (fun lv el => ?_)
  have l0 := tm_lk el l0 rfl (by decide)
  have l1 := tm_lk el l1 rfl (by decide)
  have l2 : lv.lookup 2 = some (.int 0) := tm_lks el
  clear el
  refine g_ild (pc' := 85) cd_De_copyFrom rfl (Or.inr ⟨_, rfl, rfl, rfl⟩) l2 rfl ?_
  refine g_k2 (v := 6) (pc' := 87) cd_De_copyFrom rfl (by decide) rfl ?_
  refine g_if2 (t := 150) (pc' := 90) cd_De_copyFrom rfl rfl rfl (fun c87 => ?_) (fun c87 => ?_)
  · exact absurd (show (6 : Int32) ≤ 0 from c87) (by decide)
  · have c87 : ¬ (6 : Int32) ≤ 0 := c87
    refine l_Dc (p := 0) hx36.1 hs36.1 (by decide) hx36.2.2.2.2.1 (hs36.2.2.2.2.1 0 (by decide)) hd (fun B37 lv hF37 hq37 l0 l1 l2 => ?_) lv l0 l1 l2
    have hz37 : fz (fun y => y = x + 8 ∨ (x + 11 ≤ y ∧ y < x + 47)) _ B37 := fz_mono (fun y q => by have i0 := sA_in x w.2.1 (p := 0) (k := 0) (by decide) (by decide); have i1 := sA_in x w.2.1 (p := 0) (k := 1) (by decide) (by decide); omega) hq37
    have hx37 : RDe B37 T x w (id, K0, K1, on, ln, (fset s0 0 (se 0)), m0) := RDe_sess hx36 hz37.1 (fun y a b c => by omega) (List.prefix_refl T) hF37
    have hs37 := RDe_fr hs36 hz37.1 (fun y a b => by omega) (List.prefix_refl T)
    have Y37 : fz (fun y => x ≤ y ∧ y < x + 203) B B37 := fz_trans Y36 (fz_mono (fun _ q => by omega) hz37)
    refine g_inc (y := 1) (pc' := 147) cd_De_copyFrom rfl l2 (by decide) (by decide) rfl (fun lv el => ?_)
    have l0 := tm_lk el l0 rfl (by decide)
    have l1 := tm_lk el l1 rfl (by decide)
    have l2 : lv.lookup 2 = some (.int 1) := tm_lks el
    clear el
    refine g_pure (pc' := 84) (st' := []) cd_De_copyFrom rfl rfl (fun _ _ => rfl) ?_
    refine g_ild (pc' := 85) cd_De_copyFrom rfl (Or.inr ⟨_, rfl, rfl, rfl⟩) l2 rfl ?_
    refine g_k2 (v := 6) (pc' := 87) cd_De_copyFrom rfl (by decide) rfl ?_
    refine g_if2 (t := 150) (pc' := 90) cd_De_copyFrom rfl rfl rfl (fun c87 => ?_) (fun c87 => ?_)
    · exact absurd (show (6 : Int32) ≤ 1 from c87) (by decide)
    · have c87 : ¬ (6 : Int32) ≤ 1 := c87
      refine l_Dc (p := 1) hx37.1 hs37.1 (by decide) hx37.2.2.2.2.1 (hs37.2.2.2.2.1 1 (by decide)) hd (fun B38 lv hF38 hq38 l0 l1 l2 => ?_) lv l0 l1 l2
      have hz38 : fz (fun y => y = x + 8 ∨ (x + 11 ≤ y ∧ y < x + 47)) _ B38 := fz_mono (fun y q => by have i0 := sA_in x w.2.1 (p := 1) (k := 0) (by decide) (by decide); have i1 := sA_in x w.2.1 (p := 1) (k := 1) (by decide) (by decide); omega) hq38
      have hx38 : RDe B38 T x w (id, K0, K1, on, ln, (fset (fset s0 0 (se 0)) 1 (se 1)), m0) := RDe_sess hx37 hz38.1 (fun y a b c => by omega) (List.prefix_refl T) hF38
      have hs38 := RDe_fr hs37 hz38.1 (fun y a b => by omega) (List.prefix_refl T)
      have Y38 : fz (fun y => x ≤ y ∧ y < x + 203) B B38 := fz_trans Y37 (fz_mono (fun _ q => by omega) hz38)
      refine g_inc (y := 2) (pc' := 147) cd_De_copyFrom rfl l2 (by decide) (by decide) rfl (fun lv el => ?_)
      have l0 := tm_lk el l0 rfl (by decide)
      have l1 := tm_lk el l1 rfl (by decide)
      have l2 : lv.lookup 2 = some (.int 2) := tm_lks el
      clear el
      refine g_pure (pc' := 84) (st' := []) cd_De_copyFrom rfl rfl (fun _ _ => rfl) ?_
      refine g_ild (pc' := 85) cd_De_copyFrom rfl (Or.inr ⟨_, rfl, rfl, rfl⟩) l2 rfl ?_
      refine g_k2 (v := 6) (pc' := 87) cd_De_copyFrom rfl (by decide) rfl ?_
      refine g_if2 (t := 150) (pc' := 90) cd_De_copyFrom rfl rfl rfl (fun c87 => ?_) (fun c87 => ?_)
      · exact absurd (show (6 : Int32) ≤ 2 from c87) (by decide)
      · have c87 : ¬ (6 : Int32) ≤ 2 := c87
        refine l_Dc (p := 2) hx38.1 hs38.1 (by decide) hx38.2.2.2.2.1 (hs38.2.2.2.2.1 2 (by decide)) hd (fun B39 lv hF39 hq39 l0 l1 l2 => ?_) lv l0 l1 l2
        have hz39 : fz (fun y => y = x + 8 ∨ (x + 11 ≤ y ∧ y < x + 47)) _ B39 := fz_mono (fun y q => by have i0 := sA_in x w.2.1 (p := 2) (k := 0) (by decide) (by decide); have i1 := sA_in x w.2.1 (p := 2) (k := 1) (by decide) (by decide); omega) hq39
        have hx39 : RDe B39 T x w (id, K0, K1, on, ln, (fset (fset (fset s0 0 (se 0)) 1 (se 1)) 2 (se 2)), m0) := RDe_sess hx38 hz39.1 (fun y a b c => by omega) (List.prefix_refl T) hF39
        have hs39 := RDe_fr hs38 hz39.1 (fun y a b => by omega) (List.prefix_refl T)
        have Y39 : fz (fun y => x ≤ y ∧ y < x + 203) B B39 := fz_trans Y38 (fz_mono (fun _ q => by omega) hz39)
        refine g_inc (y := 3) (pc' := 147) cd_De_copyFrom rfl l2 (by decide) (by decide) rfl (fun lv el => ?_)
        have l0 := tm_lk el l0 rfl (by decide)
        have l1 := tm_lk el l1 rfl (by decide)
        have l2 : lv.lookup 2 = some (.int 3) := tm_lks el
        clear el
        refine g_pure (pc' := 84) (st' := []) cd_De_copyFrom rfl rfl (fun _ _ => rfl) ?_
        refine g_ild (pc' := 85) cd_De_copyFrom rfl (Or.inr ⟨_, rfl, rfl, rfl⟩) l2 rfl ?_
        refine g_k2 (v := 6) (pc' := 87) cd_De_copyFrom rfl (by decide) rfl ?_
        refine g_if2 (t := 150) (pc' := 90) cd_De_copyFrom rfl rfl rfl (fun c87 => ?_) (fun c87 => ?_)
        · exact absurd (show (6 : Int32) ≤ 3 from c87) (by decide)
        · have c87 : ¬ (6 : Int32) ≤ 3 := c87
          refine l_Dc (p := 3) hx39.1 hs39.1 (by decide) hx39.2.2.2.2.1 (hs39.2.2.2.2.1 3 (by decide)) hd (fun B40 lv hF40 hq40 l0 l1 l2 => ?_) lv l0 l1 l2
          have hz40 : fz (fun y => y = x + 8 ∨ (x + 11 ≤ y ∧ y < x + 47)) _ B40 := fz_mono (fun y q => by have i0 := sA_in x w.2.1 (p := 3) (k := 0) (by decide) (by decide); have i1 := sA_in x w.2.1 (p := 3) (k := 1) (by decide) (by decide); omega) hq40
          have hx40 : RDe B40 T x w (id, K0, K1, on, ln, (fset (fset (fset (fset s0 0 (se 0)) 1 (se 1)) 2 (se 2)) 3 (se 3)), m0) := RDe_sess hx39 hz40.1 (fun y a b c => by omega) (List.prefix_refl T) hF40
          have hs40 := RDe_fr hs39 hz40.1 (fun y a b => by omega) (List.prefix_refl T)
          have Y40 : fz (fun y => x ≤ y ∧ y < x + 203) B B40 := fz_trans Y39 (fz_mono (fun _ q => by omega) hz40)
          refine g_inc (y := 4) (pc' := 147) cd_De_copyFrom rfl l2 (by decide) (by decide) rfl (fun lv el => ?_)
          have l0 := tm_lk el l0 rfl (by decide)
          have l1 := tm_lk el l1 rfl (by decide)
          have l2 : lv.lookup 2 = some (.int 4) := tm_lks el
          clear el
          refine g_pure (pc' := 84) (st' := []) cd_De_copyFrom rfl rfl (fun _ _ => rfl) ?_
          refine g_ild (pc' := 85) cd_De_copyFrom rfl (Or.inr ⟨_, rfl, rfl, rfl⟩) l2 rfl ?_
          refine g_k2 (v := 6) (pc' := 87) cd_De_copyFrom rfl (by decide) rfl ?_
          refine g_if2 (t := 150) (pc' := 90) cd_De_copyFrom rfl rfl rfl (fun c87 => ?_) (fun c87 => ?_)
          · exact absurd (show (6 : Int32) ≤ 4 from c87) (by decide)
          · have c87 : ¬ (6 : Int32) ≤ 4 := c87
            refine l_Dc (p := 4) hx40.1 hs40.1 (by decide) hx40.2.2.2.2.1 (hs40.2.2.2.2.1 4 (by decide)) hd (fun B41 lv hF41 hq41 l0 l1 l2 => ?_) lv l0 l1 l2
            have hz41 : fz (fun y => y = x + 8 ∨ (x + 11 ≤ y ∧ y < x + 47)) _ B41 := fz_mono (fun y q => by have i0 := sA_in x w.2.1 (p := 4) (k := 0) (by decide) (by decide); have i1 := sA_in x w.2.1 (p := 4) (k := 1) (by decide) (by decide); omega) hq41
            have hx41 : RDe B41 T x w (id, K0, K1, on, ln, (fset (fset (fset (fset (fset s0 0 (se 0)) 1 (se 1)) 2 (se 2)) 3 (se 3)) 4 (se 4)), m0) := RDe_sess hx40 hz41.1 (fun y a b c => by omega) (List.prefix_refl T) hF41
            have hs41 := RDe_fr hs40 hz41.1 (fun y a b => by omega) (List.prefix_refl T)
            have Y41 : fz (fun y => x ≤ y ∧ y < x + 203) B B41 := fz_trans Y40 (fz_mono (fun _ q => by omega) hz41)
            refine g_inc (y := 5) (pc' := 147) cd_De_copyFrom rfl l2 (by decide) (by decide) rfl (fun lv el => ?_)
            have l0 := tm_lk el l0 rfl (by decide)
            have l1 := tm_lk el l1 rfl (by decide)
            have l2 : lv.lookup 2 = some (.int 5) := tm_lks el
            clear el
            refine g_pure (pc' := 84) (st' := []) cd_De_copyFrom rfl rfl (fun _ _ => rfl) ?_
            refine g_ild (pc' := 85) cd_De_copyFrom rfl (Or.inr ⟨_, rfl, rfl, rfl⟩) l2 rfl ?_
            refine g_k2 (v := 6) (pc' := 87) cd_De_copyFrom rfl (by decide) rfl ?_
            refine g_if2 (t := 150) (pc' := 90) cd_De_copyFrom rfl rfl rfl (fun c87 => ?_) (fun c87 => ?_)
            · exact absurd (show (6 : Int32) ≤ 5 from c87) (by decide)
            · have c87 : ¬ (6 : Int32) ≤ 5 := c87
              refine l_Dc (p := 5) hx41.1 hs41.1 (by decide) hx41.2.2.2.2.1 (hs41.2.2.2.2.1 5 (by decide)) hd (fun B42 lv hF42 hq42 l0 l1 l2 => ?_) lv l0 l1 l2
              have hz42 : fz (fun y => y = x + 8 ∨ (x + 11 ≤ y ∧ y < x + 47)) _ B42 := fz_mono (fun y q => by have i0 := sA_in x w.2.1 (p := 5) (k := 0) (by decide) (by decide); have i1 := sA_in x w.2.1 (p := 5) (k := 1) (by decide) (by decide); omega) hq42
              have hx42 : RDe B42 T x w (id, K0, K1, on, ln, (fset (fset (fset (fset (fset (fset s0 0 (se 0)) 1 (se 1)) 2 (se 2)) 3 (se 3)) 4 (se 4)) 5 (se 5)), m0) := RDe_sess hx41 hz42.1 (fun y a b c => by omega) (List.prefix_refl T) hF42
              have hs42 := RDe_fr hs41 hz42.1 (fun y a b => by omega) (List.prefix_refl T)
              have Y42 : fz (fun y => x ≤ y ∧ y < x + 203) B B42 := fz_trans Y41 (fz_mono (fun _ q => by omega) hz42)
              refine g_inc (y := 6) (pc' := 147) cd_De_copyFrom rfl l2 (by decide) (by decide) rfl (fun lv el => ?_)
              have l0 := tm_lk el l0 rfl (by decide)
              have l1 := tm_lk el l1 rfl (by decide)
              have l2 : lv.lookup 2 = some (.int 6) := tm_lks el
              clear el
              refine g_pure (pc' := 84) (st' := []) cd_De_copyFrom rfl rfl (fun _ _ => rfl) ?_
              refine g_ild (pc' := 85) cd_De_copyFrom rfl (Or.inr ⟨_, rfl, rfl, rfl⟩) l2 rfl ?_
              refine g_k2 (v := 6) (pc' := 87) cd_De_copyFrom rfl (by decide) rfl ?_
              refine g_if2 (t := 150) (pc' := 90) cd_De_copyFrom rfl rfl rfl (fun c87 => ?_) (fun c87 => ?_)
              · have c87 : (6 : Int32) ≤ 6 := c87
                refine g_k1 (v := 0) (pc' := 151) cd_De_copyFrom rfl (by decide) rfl ?_
                refine g_ist (pc' := 152) cd_De_copyFrom rfl (Or.inr ⟨_, rfl, rfl, rfl⟩) (by decide) rfl (fun lv el => ?_)
                have l0 := tm_lk el l0 rfl (by decide)
                have l1 := tm_lk el l1 rfl (by decide)
                have l2 : lv.lookup 2 = some (.int 0) := tm_lks el
                clear el
                refine g_ild (pc' := 153) cd_De_copyFrom rfl (Or.inr ⟨_, rfl, rfl, rfl⟩) l2 rfl ?_
                refine g_k1 (v := 4) (pc' := 154) cd_De_copyFrom rfl (by decide) rfl ?_
                refine g_if2 (t := 178) (pc' := 157) cd_De_copyFrom rfl rfl rfl (fun c154 => ?_) (fun c154 => ?_)
                · exact absurd (show (4 : Int32) ≤ 0 from c154) (by decide)
                · have c154 : ¬ (4 : Int32) ≤ 0 := c154
                  refine g_ald (pc' := 158) cd_De_copyFrom rfl (Or.inr ⟨_, rfl, rfl, rfl⟩) l0 rfl rfl ?_
                  refine g_fR (c := 0) (k := 5) (x := (x + 10)) (pc' := 161) cd_De_copyFrom rfl rfl rfl rfl rfl (by decide) hx42.1.1.1 hx42.1.1.2 hx42.1.2.1.2.2.2.2.2 ?_
                  refine g_ild (pc' := 162) cd_De_copyFrom rfl (Or.inr ⟨_, rfl, rfl, rfl⟩) l2 rfl ?_
                  refine g_aR (t := 6) (x := (x + 47 + 39 * 0)) (pc' := 163) cd_De_copyFrom rfl rfl hx42.1.2.2.2.2.2.2.2.1 hx42.1.2.2.2.2.2.2.2.2.1 (by decide) rfl rfl (by rw [show bm_AL B42 (x + 10) = 4 from hx42.1.2.2.2.2.2.2.2.2.2]; exact vp_in_nI (n := 0) (by decide) (by decide)) (hx42.2.2.2.2.2.1 0 (by decide)) ?_
                  refine g_ald (pc' := 164) cd_De_copyFrom rfl (Or.inr ⟨_, rfl, rfl, rfl⟩) l1 rfl rfl ?_
                  refine g_fR (c := 0) (k := 5) (x := (z + 10)) (pc' := 167) cd_De_copyFrom rfl rfl rfl rfl rfl (by decide) hs42.1.1.1 hs42.1.1.2 hs42.1.2.1.2.2.2.2.2 ?_
                  refine g_ild (pc' := 168) cd_De_copyFrom rfl (Or.inr ⟨_, rfl, rfl, rfl⟩) l2 rfl ?_
                  refine g_aR (t := 6) (x := (z + 47 + 39 * 0)) (pc' := 169) cd_De_copyFrom rfl rfl hs42.1.2.2.2.2.2.2.2.1 hs42.1.2.2.2.2.2.2.2.2.1 (by decide) rfl rfl (by rw [show bm_AL B42 (z + 10) = 4 from hs42.1.2.2.2.2.2.2.2.2.2]; exact vp_in_nI (n := 0) (by decide) (by decide)) (hs42.2.2.2.2.2.1 0 (by decide)) ?_
                  refine g_callv (pc' := 172) cd_De_copyFrom rfl rfl rfl rfl rfl (tm_invV rfl rfl cd_Me_copyFrom rfl (Nat.le_of_ble_eq_true rfl) (by decide) (hx42.2.2.2.2.2.2 0 (by decide)).1.1.1 (hx42.2.2.2.2.2.2 0 (by decide)).1.1.2) (t_Mcopy (hx42.2.2.2.2.2.2 0 (by decide)) (hs42.2.2.2.2.2.2 0 (by decide)) (by omega) (fun B43 hm43 hz43 => ?_))
                  have hx43 : RDe B43 T x w (id, K0, K1, on, ln, (fset (fset (fset (fset (fset (fset s0 0 (se 0)) 1 (se 1)) 2 (se 2)) 3 (se 3)) 4 (se 4)) 5 (se 5)), (fset m0 0 (me 0))) := (by have := RDe_mem hx42 (g := 0) (by decide) hz43.1 (fun y a b c => by omega) (List.prefix_refl T) hm43; rw [fset_eta] at this; exact this : RDe B43 T x w (id, K0, K1, on, ln, (fset (fset (fset (fset (fset (fset s0 0 (se 0)) 1 (se 1)) 2 (se 2)) 3 (se 3)) 4 (se 4)) 5 (se 5)), fset m0 0 (me 0)))
                  have hs43 := RDe_fr hs42 hz43.1 (fun y a b => by omega) (List.prefix_refl T)
                  have Y43 : fz (fun y => x ≤ y ∧ y < x + 203) B B43 := fz_trans Y42 (fz_mono (fun _ q => by omega) hz43)
                  show bm_G _ _ _ 172 _ [] B43 _
                  refine g_inc (y := 1) (pc' := 175) cd_De_copyFrom rfl l2 (by decide) (by decide) rfl (fun lv el => ?_)
                  have l0 := tm_lk el l0 rfl (by decide)
                  have l1 := tm_lk el l1 rfl (by decide)
                  have l2 : lv.lookup 2 = some (.int 1) := tm_lks el
                  clear el
                  refine g_pure (pc' := 152) (st' := []) cd_De_copyFrom rfl rfl (fun _ _ => rfl) ?_
                  refine g_ild (pc' := 153) cd_De_copyFrom rfl (Or.inr ⟨_, rfl, rfl, rfl⟩) l2 rfl ?_
                  refine g_k1 (v := 4) (pc' := 154) cd_De_copyFrom rfl (by decide) rfl ?_
                  refine g_if2 (t := 178) (pc' := 157) cd_De_copyFrom rfl rfl rfl (fun c154 => ?_) (fun c154 => ?_)
                  · exact absurd (show (4 : Int32) ≤ 1 from c154) (by decide)
                  · have c154 : ¬ (4 : Int32) ≤ 1 := c154
                    refine g_ald (pc' := 158) cd_De_copyFrom rfl (Or.inr ⟨_, rfl, rfl, rfl⟩) l0 rfl rfl ?_
                    refine g_fR (c := 0) (k := 5) (x := (x + 10)) (pc' := 161) cd_De_copyFrom rfl rfl rfl rfl rfl (by decide) hx43.1.1.1 hx43.1.1.2 hx43.1.2.1.2.2.2.2.2 ?_
                    refine g_ild (pc' := 162) cd_De_copyFrom rfl (Or.inr ⟨_, rfl, rfl, rfl⟩) l2 rfl ?_
                    refine g_aR (t := 6) (x := (x + 47 + 39 * 1)) (pc' := 163) cd_De_copyFrom rfl rfl hx43.1.2.2.2.2.2.2.2.1 hx43.1.2.2.2.2.2.2.2.2.1 (by decide) rfl rfl (by rw [show bm_AL B43 (x + 10) = 4 from hx43.1.2.2.2.2.2.2.2.2.2]; exact vp_in_nI (n := 1) (by decide) (by decide)) (hx43.2.2.2.2.2.1 1 (by decide)) ?_
                    refine g_ald (pc' := 164) cd_De_copyFrom rfl (Or.inr ⟨_, rfl, rfl, rfl⟩) l1 rfl rfl ?_
                    refine g_fR (c := 0) (k := 5) (x := (z + 10)) (pc' := 167) cd_De_copyFrom rfl rfl rfl rfl rfl (by decide) hs43.1.1.1 hs43.1.1.2 hs43.1.2.1.2.2.2.2.2 ?_
                    refine g_ild (pc' := 168) cd_De_copyFrom rfl (Or.inr ⟨_, rfl, rfl, rfl⟩) l2 rfl ?_
                    refine g_aR (t := 6) (x := (z + 47 + 39 * 1)) (pc' := 169) cd_De_copyFrom rfl rfl hs43.1.2.2.2.2.2.2.2.1 hs43.1.2.2.2.2.2.2.2.2.1 (by decide) rfl rfl (by rw [show bm_AL B43 (z + 10) = 4 from hs43.1.2.2.2.2.2.2.2.2.2]; exact vp_in_nI (n := 1) (by decide) (by decide)) (hs43.2.2.2.2.2.1 1 (by decide)) ?_
                    refine g_callv (pc' := 172) cd_De_copyFrom rfl rfl rfl rfl rfl (tm_invV rfl rfl cd_Me_copyFrom rfl (Nat.le_of_ble_eq_true rfl) (by decide) (hx43.2.2.2.2.2.2 1 (by decide)).1.1.1 (hx43.2.2.2.2.2.2 1 (by decide)).1.1.2) (t_Mcopy (hx43.2.2.2.2.2.2 1 (by decide)) (hs43.2.2.2.2.2.2 1 (by decide)) (by omega) (fun B44 hm44 hz44 => ?_))
                    have hx44 : RDe B44 T x w (id, K0, K1, on, ln, (fset (fset (fset (fset (fset (fset s0 0 (se 0)) 1 (se 1)) 2 (se 2)) 3 (se 3)) 4 (se 4)) 5 (se 5)), (fset (fset m0 0 (me 0)) 1 (me 1))) := (by have := RDe_mem hx43 (g := 1) (by decide) hz44.1 (fun y a b c => by omega) (List.prefix_refl T) hm44; rw [fset_eta] at this; exact this : RDe B44 T x w (id, K0, K1, on, ln, (fset (fset (fset (fset (fset (fset s0 0 (se 0)) 1 (se 1)) 2 (se 2)) 3 (se 3)) 4 (se 4)) 5 (se 5)), fset (fset m0 0 (me 0)) 1 (me 1)))
                    have hs44 := RDe_fr hs43 hz44.1 (fun y a b => by omega) (List.prefix_refl T)
                    have Y44 : fz (fun y => x ≤ y ∧ y < x + 203) B B44 := fz_trans Y43 (fz_mono (fun _ q => by omega) hz44)
                    show bm_G _ _ _ 172 _ [] B44 _
                    refine g_inc (y := 2) (pc' := 175) cd_De_copyFrom rfl l2 (by decide) (by decide) rfl (fun lv el => ?_)
                    have l0 := tm_lk el l0 rfl (by decide)
                    have l1 := tm_lk el l1 rfl (by decide)
                    have l2 : lv.lookup 2 = some (.int 2) := tm_lks el
                    clear el
                    refine g_pure (pc' := 152) (st' := []) cd_De_copyFrom rfl rfl (fun _ _ => rfl) ?_
                    refine g_ild (pc' := 153) cd_De_copyFrom rfl (Or.inr ⟨_, rfl, rfl, rfl⟩) l2 rfl ?_
                    refine g_k1 (v := 4) (pc' := 154) cd_De_copyFrom rfl (by decide) rfl ?_
                    refine g_if2 (t := 178) (pc' := 157) cd_De_copyFrom rfl rfl rfl (fun c154 => ?_) (fun c154 => ?_)
                    · exact absurd (show (4 : Int32) ≤ 2 from c154) (by decide)
                    · have c154 : ¬ (4 : Int32) ≤ 2 := c154
                      refine g_ald (pc' := 158) cd_De_copyFrom rfl (Or.inr ⟨_, rfl, rfl, rfl⟩) l0 rfl rfl ?_
                      refine g_fR (c := 0) (k := 5) (x := (x + 10)) (pc' := 161) cd_De_copyFrom rfl rfl rfl rfl rfl (by decide) hx44.1.1.1 hx44.1.1.2 hx44.1.2.1.2.2.2.2.2 ?_
                      refine g_ild (pc' := 162) cd_De_copyFrom rfl (Or.inr ⟨_, rfl, rfl, rfl⟩) l2 rfl ?_
                      refine g_aR (t := 6) (x := (x + 47 + 39 * 2)) (pc' := 163) cd_De_copyFrom rfl rfl hx44.1.2.2.2.2.2.2.2.1 hx44.1.2.2.2.2.2.2.2.2.1 (by decide) rfl rfl (by rw [show bm_AL B44 (x + 10) = 4 from hx44.1.2.2.2.2.2.2.2.2.2]; exact vp_in_nI (n := 2) (by decide) (by decide)) (hx44.2.2.2.2.2.1 2 (by decide)) ?_
                      refine g_ald (pc' := 164) cd_De_copyFrom rfl (Or.inr ⟨_, rfl, rfl, rfl⟩) l1 rfl rfl ?_
                      refine g_fR (c := 0) (k := 5) (x := (z + 10)) (pc' := 167) cd_De_copyFrom rfl rfl rfl rfl rfl (by decide) hs44.1.1.1 hs44.1.1.2 hs44.1.2.1.2.2.2.2.2 ?_
                      refine g_ild (pc' := 168) cd_De_copyFrom rfl (Or.inr ⟨_, rfl, rfl, rfl⟩) l2 rfl ?_
                      refine g_aR (t := 6) (x := (z + 47 + 39 * 2)) (pc' := 169) cd_De_copyFrom rfl rfl hs44.1.2.2.2.2.2.2.2.1 hs44.1.2.2.2.2.2.2.2.2.1 (by decide) rfl rfl (by rw [show bm_AL B44 (z + 10) = 4 from hs44.1.2.2.2.2.2.2.2.2.2]; exact vp_in_nI (n := 2) (by decide) (by decide)) (hs44.2.2.2.2.2.1 2 (by decide)) ?_
                      refine g_callv (pc' := 172) cd_De_copyFrom rfl rfl rfl rfl rfl (tm_invV rfl rfl cd_Me_copyFrom rfl (Nat.le_of_ble_eq_true rfl) (by decide) (hx44.2.2.2.2.2.2 2 (by decide)).1.1.1 (hx44.2.2.2.2.2.2 2 (by decide)).1.1.2) (t_Mcopy (hx44.2.2.2.2.2.2 2 (by decide)) (hs44.2.2.2.2.2.2 2 (by decide)) (by omega) (fun B45 hm45 hz45 => ?_))
                      have hx45 : RDe B45 T x w (id, K0, K1, on, ln, (fset (fset (fset (fset (fset (fset s0 0 (se 0)) 1 (se 1)) 2 (se 2)) 3 (se 3)) 4 (se 4)) 5 (se 5)), (fset (fset (fset m0 0 (me 0)) 1 (me 1)) 2 (me 2))) := (by have := RDe_mem hx44 (g := 2) (by decide) hz45.1 (fun y a b c => by omega) (List.prefix_refl T) hm45; rw [fset_eta] at this; exact this : RDe B45 T x w (id, K0, K1, on, ln, (fset (fset (fset (fset (fset (fset s0 0 (se 0)) 1 (se 1)) 2 (se 2)) 3 (se 3)) 4 (se 4)) 5 (se 5)), fset (fset (fset m0 0 (me 0)) 1 (me 1)) 2 (me 2)))
                      have hs45 := RDe_fr hs44 hz45.1 (fun y a b => by omega) (List.prefix_refl T)
                      have Y45 : fz (fun y => x ≤ y ∧ y < x + 203) B B45 := fz_trans Y44 (fz_mono (fun _ q => by omega) hz45)
                      show bm_G _ _ _ 172 _ [] B45 _
                      refine g_inc (y := 3) (pc' := 175) cd_De_copyFrom rfl l2 (by decide) (by decide) rfl (fun lv el => ?_)
                      have l0 := tm_lk el l0 rfl (by decide)
                      have l1 := tm_lk el l1 rfl (by decide)
                      have l2 : lv.lookup 2 = some (.int 3) := tm_lks el
                      clear el
                      refine g_pure (pc' := 152) (st' := []) cd_De_copyFrom rfl rfl (fun _ _ => rfl) ?_
                      refine g_ild (pc' := 153) cd_De_copyFrom rfl (Or.inr ⟨_, rfl, rfl, rfl⟩) l2 rfl ?_
                      refine g_k1 (v := 4) (pc' := 154) cd_De_copyFrom rfl (by decide) rfl ?_
                      refine g_if2 (t := 178) (pc' := 157) cd_De_copyFrom rfl rfl rfl (fun c154 => ?_) (fun c154 => ?_)
                      · exact absurd (show (4 : Int32) ≤ 3 from c154) (by decide)
                      · have c154 : ¬ (4 : Int32) ≤ 3 := c154
                        refine g_ald (pc' := 158) cd_De_copyFrom rfl (Or.inr ⟨_, rfl, rfl, rfl⟩) l0 rfl rfl ?_
                        refine g_fR (c := 0) (k := 5) (x := (x + 10)) (pc' := 161) cd_De_copyFrom rfl rfl rfl rfl rfl (by decide) hx45.1.1.1 hx45.1.1.2 hx45.1.2.1.2.2.2.2.2 ?_
                        refine g_ild (pc' := 162) cd_De_copyFrom rfl (Or.inr ⟨_, rfl, rfl, rfl⟩) l2 rfl ?_
                        refine g_aR (t := 6) (x := (x + 47 + 39 * 3)) (pc' := 163) cd_De_copyFrom rfl rfl hx45.1.2.2.2.2.2.2.2.1 hx45.1.2.2.2.2.2.2.2.2.1 (by decide) rfl rfl (by rw [show bm_AL B45 (x + 10) = 4 from hx45.1.2.2.2.2.2.2.2.2.2]; exact vp_in_nI (n := 3) (by decide) (by decide)) (hx45.2.2.2.2.2.1 3 (by decide)) ?_
                        refine g_ald (pc' := 164) cd_De_copyFrom rfl (Or.inr ⟨_, rfl, rfl, rfl⟩) l1 rfl rfl ?_
                        refine g_fR (c := 0) (k := 5) (x := (z + 10)) (pc' := 167) cd_De_copyFrom rfl rfl rfl rfl rfl (by decide) hs45.1.1.1 hs45.1.1.2 hs45.1.2.1.2.2.2.2.2 ?_
                        refine g_ild (pc' := 168) cd_De_copyFrom rfl (Or.inr ⟨_, rfl, rfl, rfl⟩) l2 rfl ?_
                        refine g_aR (t := 6) (x := (z + 47 + 39 * 3)) (pc' := 169) cd_De_copyFrom rfl rfl hs45.1.2.2.2.2.2.2.2.1 hs45.1.2.2.2.2.2.2.2.2.1 (by decide) rfl rfl (by rw [show bm_AL B45 (z + 10) = 4 from hs45.1.2.2.2.2.2.2.2.2.2]; exact vp_in_nI (n := 3) (by decide) (by decide)) (hs45.2.2.2.2.2.1 3 (by decide)) ?_
                        refine g_callv (pc' := 172) cd_De_copyFrom rfl rfl rfl rfl rfl (tm_invV rfl rfl cd_Me_copyFrom rfl (Nat.le_of_ble_eq_true rfl) (by decide) (hx45.2.2.2.2.2.2 3 (by decide)).1.1.1 (hx45.2.2.2.2.2.2 3 (by decide)).1.1.2) (t_Mcopy (hx45.2.2.2.2.2.2 3 (by decide)) (hs45.2.2.2.2.2.2 3 (by decide)) (by omega) (fun B46 hm46 hz46 => ?_))
                        have hx46 : RDe B46 T x w (id, K0, K1, on, ln, (fset (fset (fset (fset (fset (fset s0 0 (se 0)) 1 (se 1)) 2 (se 2)) 3 (se 3)) 4 (se 4)) 5 (se 5)), (fset (fset (fset (fset m0 0 (me 0)) 1 (me 1)) 2 (me 2)) 3 (me 3))) := (by have := RDe_mem hx45 (g := 3) (by decide) hz46.1 (fun y a b c => by omega) (List.prefix_refl T) hm46; rw [fset_eta] at this; exact this : RDe B46 T x w (id, K0, K1, on, ln, (fset (fset (fset (fset (fset (fset s0 0 (se 0)) 1 (se 1)) 2 (se 2)) 3 (se 3)) 4 (se 4)) 5 (se 5)), fset (fset (fset (fset m0 0 (me 0)) 1 (me 1)) 2 (me 2)) 3 (me 3)))
                        have hs46 := RDe_fr hs45 hz46.1 (fun y a b => by omega) (List.prefix_refl T)
                        have Y46 : fz (fun y => x ≤ y ∧ y < x + 203) B B46 := fz_trans Y45 (fz_mono (fun _ q => by omega) hz46)
                        show bm_G _ _ _ 172 _ [] B46 _
                        refine g_inc (y := 4) (pc' := 175) cd_De_copyFrom rfl l2 (by decide) (by decide) rfl (fun lv el => ?_)
                        have l0 := tm_lk el l0 rfl (by decide)
                        have l1 := tm_lk el l1 rfl (by decide)
                        have l2 : lv.lookup 2 = some (.int 4) := tm_lks el
                        clear el
                        refine g_pure (pc' := 152) (st' := []) cd_De_copyFrom rfl rfl (fun _ _ => rfl) ?_
                        refine g_ild (pc' := 153) cd_De_copyFrom rfl (Or.inr ⟨_, rfl, rfl, rfl⟩) l2 rfl ?_
                        refine g_k1 (v := 4) (pc' := 154) cd_De_copyFrom rfl (by decide) rfl ?_
                        refine g_if2 (t := 178) (pc' := 157) cd_De_copyFrom rfl rfl rfl (fun c154 => ?_) (fun c154 => ?_)
                        · have c154 : (4 : Int32) ≤ 4 := c154
                          exact g_retv cd_De_copyFrom rfl ⟨rfl, (kk _ (RDe_ext hx46 (fun p hp => by have hc : p = 0 ∨ p = 1 ∨ p = 2 ∨ p = 3 ∨ p = 4 ∨ p = 5 := (by omega); rcases hc with rfl | rfl | rfl | rfl | rfl | rfl <;> rfl) (fun p hp => by have hc : p = 0 ∨ p = 1 ∨ p = 2 ∨ p = 3 := (by omega); rcases hc with rfl | rfl | rfl | rfl <;> rfl)) Y46)⟩
                        · exact absurd (show ¬ (4 : Int32) ≤ 4 from c154) (by decide)
              · exact absurd (show ¬ (6 : Int32) ≤ 6 from c87) (by decide)
