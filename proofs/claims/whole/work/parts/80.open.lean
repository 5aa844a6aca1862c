/-! A session is opened -/
theorem good_p0 {k : Nat} {A : Tm} (hk : k = 1 ∨ k = 2) (h : Tgood k A = true) : kd (pt A 0) = 2 := by
  unfold Tgood gp at h
  rcases hk with rfl | rfl <;> (simp at h; exact h.2.1.2)
theorem pub_p0 {A : Tm} (h : Tsp A) (hk : kd A = 2) : kd (pt A 0) = 1 := by
  obtain ⟨s, h1, rfl⟩ := Tsp_pub h hk
  exact h1
theorem an_pre_kd {dir ids : Nat → Tm} {p : Nat} (h : an_pre dir ids p ≠ tz) : kd (an_pre dir ids p) = 2 := by
  unfold an_pre at h ⊢
  by_cases c : kd (dir (p * 5)) = 6 ∧ pt (dir (p * 5)) 0 = ids p ∧ Tgood 1 (pt (dir (p * 5)) 1) = true ∧ nu (pt (dir (p * 5)) 1) 0 = nI p
  · rw [cif_t c]
    exact good_p0 (Or.inl rfl) c.2.2.1
  · rw [cif_f c] at h
    exact absurd rfl h
theorem an_once_kd {dir : Nat → Tm} {p : Nat} : ∀ {n i : Nat}, (an_once dir p n i).1 ≠ tz → kd (an_once dir p n i).1 = 2
  | 0, _, h => absurd rfl h
  | n + 1, i, h => by
    by_cases c : tnil (dir i) = true
    · have e : an_once dir p (n + 1) i = an_once dir p n (i + 1) := if_pos c
      rw [e] at h ⊢
      exact an_once_kd h
    · have e : an_once dir p (n + 1) i = ((if Tgood 2 (dir i) = true ∧ nu (dir i) 0 = nI p then pt (dir i) 0 else tz), fset dir i tz) := if_neg c
      rw [e] at h ⊢
      by_cases c2 : Tgood 2 (dir i) = true ∧ nu (dir i) 0 = nI p
      · show kd (if Tgood 2 (dir i) = true ∧ nu (dir i) 0 = nI p then pt (dir i) 0 else tz) = 2
        rw [if_pos c2]
        exact good_p0 (Or.inr rfl) c2.1
      · exact absurd (if_neg c2) h
theorem fset_fset {α : Type} (f : Nat → α) (k : Nat) (a b : α) : fset (fset f k a) k b = fset f k b := by
  funext j
  unfold fset
  split <;> rfl
/-- the agreed secret of one who begins -/
def op_root (id e r idd P O : Tm) : Tm := if tnil O = true then Tmx 3 (Tmx 1 (Tmx 0 (Tsh id (pt P 0)) (Tsh e idd)) (Tsh e (pt P 0))) tz else Tmx 2 (Tmx 1 (Tmx 0 (Tsh id (pt P 0)) (Tsh e idd)) (Tsh e (pt P 0))) (Tsh e (pt O 0))
def op_ses (id e r idd P O : Tm) : SS := ss_bear (ss_start (Tpub e) r (op_root id e r idd P O) (!tnil O)) P O
def dv_ses (D : DV) (p : Nat) (S : SS) : DV := match D with
  | (id, K0, K1, on, lnu, se, me) => (id, K0, K1, on, lnu, fset se p (S :: (se p).take 1), me)
set_option maxRecDepth 100000 in
theorem l_open1 {sc : tm_X} {d : Nat} {B : bm_H} {F : Nat → Prop} {N S M ln : Nat} {T : List Tm} {dr : Nat} {K : Tm → Prop} {ca rm kc kl rk : Nat} {ws : List (Tm × Int32)} {wt : List Tm} {G : LG} {ids dir reg : Nat → Tm} {seen : List Tm} {π : Nat → Nat} {w : Nat → SW} {dev : Nat → DV} {sto : Nat → ST} {id : Tm} {K0 K1 : PK} {on : List (Tm × Int32)} {lnu : Int32} {se : Nat → List SS} {me : Nat → MM} {p : Nat} {x3 x4 x5 x6 x10 : Int32} {P O E R C : Tm} {Q : Option Nat → bm_H → Prop} (hC : CK B F N S M ln T dr K ca rm kc kl rk) (hH : RH B T ws wt G ids dir reg seen π w dev sto) (hp : p < 6) (eD : dev 6 = (id, K0, K1, on, lnu, se, me)) (t3 : tv T x3 P) (t4 : tv T x4 O) (t5 : tv T x5 E) (t6 : tv T x6 R) (t10 : tv T x10 C) (kE : kd E = 1) (kR : kd R = 1) (kP : kd (pt P 0) = 1) (hO : O ≠ tz) (hM : T.length + 3 < M) (kk : ∀ B' T' w', T <+: T' → T'.length ≤ T.length + 3 → CK B' F N S M ln T' dr K ca rm kc kl rk → RH B' T' ws wt G ids dir reg seen π (fset w 6 w') (fset dev 6 (dv_ses (id, K0, K1, on, lnu, se, me) p (ss_bear (ss_start (Tpub E) R C true) P O))) sto → fz (dxs 1 ca 3 4 (rb (π 6))) B B' → Q (some (sA (rb (π 6)) w'.2.1 p 0)) B') : ∀ lv : tm_L, lv.lookup 0 = some (.ref 0) → lv.lookup 2 = some (.int (nI p)) → lv.lookup 3 = some (.int x3) → lv.lookup 4 = some (.int x4) → lv.lookup 5 = some (.int x5) → lv.lookup 6 = some (.int x6) → lv.lookup 10 = some (.int x10) → bm_G sc (d + 4) 66 156 lv [] B (fun r B' => ∃ x, r = some (va_rf x) ∧ Q x B') := by
  intro lv l0 l2 l3 l4 l5 l6 l10
  have hV := hH.2.2.2.2.1
  have r6 := rb_in (hV.2.2.1 6 (by decide))
  have hW := hV.2.2.2.2 6 (by decide)
  rw [eD] at hW
  have hrm := hC.2.2.2.2.1.2
  have hca := hC.2.2.2.2.2.1
  have hnt : ∀ y, 8 ≤ y → y < 1482 → ¬ tcs 1 ca 3 4 y := fun y a b => CK_tcs hC a b
  refine g_ald (pc' := 157) cd_Ho_openSession rfl (Or.inr ⟨_, rfl, rfl, rfl⟩) l0 rfl rfl ?_
  refine g_fR (c := 11) (k := 11) (x := (rb (π 6))) (pc' := 160) cd_Ho_openSession rfl rfl rfl rfl rfl (by decide) hH.1.1.1 hH.1.1.2 hH.2.2.2.2.1.2.1 ?_
  refine g_ild (pc' := 161) cd_Ho_openSession rfl (Or.inr ⟨_, rfl, rfl, rfl⟩) l2 rfl ?_
  refine g_callr (pc' := 164) cd_Ho_openSession rfl rfl rfl rfl rfl (tm_invV rfl rfl cd_De_addSession rfl (Nat.le_of_ble_eq_true rfl) (by decide) (RDe_K (hH.2.2.2.2.1.2.2.2.2 6 (by decide))).1 (RDe_K (hH.2.2.2.2.1.2.2.2.2 6 (by decide))).2) (t_addSession hW hp (fun B1 S0 w1 hD1 ew1 ew2 hz1 => ?_))
  have hg : RSe B1 T (sA (rb (π 6)) w1.2.1 p 0) S0 := (RSs_get (hD1.2.2.2.2.1 p hp) (by rw [fset_same]; rfl)).2.1
  have isl := sA_in (rb (π 6)) w1.2.1 hp (k := 0) (by decide)
  have hT1 := TI_fr hC.1 hz1.1 (by omega) (by omega) (by omega)
  have hS1 := HoS_fr hH.1 hz1.1
  show bm_G _ _ _ 164 _ [.ref ((sA (rb (π 6)) w1.2.1 p 0))] B1 _
  refine g_ast (pc' := 166) cd_Ho_openSession rfl (Or.inl ⟨rfl, rfl⟩) rfl (by decide) rfl (fun lv el => ?_)
  have l0 := tm_lk el l0 rfl (by decide)
  have l2 := tm_lk el l2 rfl (by decide)
  have l3 := tm_lk el l3 rfl (by decide)
  have l4 := tm_lk el l4 rfl (by decide)
  have l5 := tm_lk el l5 rfl (by decide)
  have l6 := tm_lk el l6 rfl (by decide)
  have l10 := tm_lk el l10 rfl (by decide)
  have l11 : lv.lookup 11 = some (.ref ((sA (rb (π 6)) w1.2.1 p 0))) := tm_lks el
  clear el
  refine g_ald (pc' := 168) cd_Ho_openSession rfl (Or.inl ⟨rfl, rfl⟩) l11 rfl rfl ?_
  refine g_ald (pc' := 169) cd_Ho_openSession rfl (Or.inr ⟨_, rfl, rfl, rfl⟩) l0 rfl rfl ?_
  refine g_fR (c := 11) (k := 0) (x := 1) (pc' := 172) cd_Ho_openSession rfl rfl rfl rfl rfl (by decide) hS1.1.1 hS1.1.2 hS1.2.1.1 ?_
  refine g_ild (pc' := 174) cd_Ho_openSession rfl (Or.inl ⟨rfl, rfl⟩) l5 rfl ?_
  refine g_calli (pc' := 177) cd_Ho_openSession rfl rfl rfl rfl rfl (tm_invV rfl rfl cd_Te_publicOf rfl (Nat.le_of_ble_eq_true rfl) (by decide) hT1.1.1.1 hT1.1.1.2) (t_publicOf hT1 t5 (fun r1 ht1 => ?_))
  rw [if_pos kE] at ht1
  show bm_G _ _ _ 177 _ [.int r1, .ref ((sA (rb (π 6)) w1.2.1 p 0))] B1 _
  refine g_ild (pc' := 179) cd_Ho_openSession rfl (Or.inl ⟨rfl, rfl⟩) l6 rfl ?_
  refine g_ild (pc' := 181) cd_Ho_openSession rfl (Or.inl ⟨rfl, rfl⟩) l10 rfl ?_
  refine g_ild (pc' := 183) cd_Ho_openSession rfl (Or.inl ⟨rfl, rfl⟩) l4 rfl ?_
  refine g_if1 (t := 190) (pc' := 186) cd_Ho_openSession rfl rfl rfl (fun c183 => ?_) (fun c183 => ?_)
  · have c183 : x4 = 0 := c183
    exact absurd ((TI_0 hC.1 t4).mp c183) hO
  · have c183 : ¬ x4 = 0 := c183
    refine g_k1 (v := 1) (pc' := 187) cd_Ho_openSession rfl (by decide) rfl ?_
    refine g_pure (pc' := 191) (st' := [.int 1, .int x10, .int x6, .int r1, .ref ((sA (rb (π 6)) w1.2.1 p 0))]) cd_Ho_openSession rfl rfl (fun _ _ => rfl) ?_
    refine g_callv (pc' := 194) cd_Ho_openSession rfl rfl rfl rfl rfl (tm_invV rfl rfl cd_Se_start rfl (Nat.le_of_ble_eq_true rfl) (by decide) (RSe_S hg).1.1 (RSe_S hg).1.2) (t_Sstart (o := true) (c := S0.1.2.2.2.length) hT1 (RSe_S hg) (RSe_c hg) (hnt _ (by omega) (by omega)) (hnt _ (by omega) (by omega)) ht1 t6 t10 (fun B2 hT2 hR2 hz2 => ?_))
    have hS2 := HoS_fr hS1 hz2.1
    show bm_G _ _ _ 194 _ [] B2 _
    refine g_ald (pc' := 196) cd_Ho_openSession rfl (Or.inl ⟨rfl, rfl⟩) l11 rfl rfl ?_
    refine g_ald (pc' := 197) cd_Ho_openSession rfl (Or.inr ⟨_, rfl, rfl, rfl⟩) l0 rfl rfl ?_
    refine g_fR (c := 11) (k := 0) (x := 1) (pc' := 200) cd_Ho_openSession rfl rfl rfl rfl rfl (by decide) hS2.1.1 hS2.1.2 hS2.2.1.1 ?_
    refine g_ild (pc' := 201) cd_Ho_openSession rfl (Or.inr ⟨_, rfl, rfl, rfl⟩) l3 rfl ?_
    refine g_ild (pc' := 203) cd_Ho_openSession rfl (Or.inl ⟨rfl, rfl⟩) l4 rfl ?_
    refine g_callv (pc' := 206) cd_Ho_openSession rfl rfl rfl rfl rfl (tm_invV rfl rfl cd_Se_bear rfl (Nat.le_of_ble_eq_true rfl) (by decide) (RSe_S hR2).1.1 (RSe_S hR2).1.2) (t_bear hT2 hR2 (hnt _ (by omega) (by omega)) (hnt _ (by omega) (by omega)) (hnt _ (by omega) (by omega)) (by omega) t3 t4 kR kP (fun B3 T3 hp3 hl3 hT3 hR3 hz3 => ?_))
    show bm_G _ _ _ 206 _ [] B3 _
    refine g_ald (pc' := 208) cd_Ho_openSession rfl (Or.inl ⟨rfl, rfl⟩) l11 rfl rfl ?_
    have hz23 : fz (fun y => tcs 1 ca 3 4 y ∨ ((sA (rb (π 6)) w1.2.1 p 0) ≤ y ∧ y < (sA (rb (π 6)) w1.2.1 p 0) + 3)) B1 B3 := fz_trans (fz_mono (fun y q => Or.inr (by omega)) hz2) (fz_mono (fun y q => q.elim Or.inl (fun q => Or.inr (by omega))) hz3)
    have hD3 := RDe_ses (k := 0) hD1 hp (by rw [fset_same]; simp) hz23.1 (fun y a b cc q => q.elim (hnt _ (by omega) (by omega)) (by omega)) hp3 hR3
    have hzT : fz (dxs 1 ca 3 4 (rb (π 6))) B B3 := fz_trans (fz_mono (fun y q => Or.inr (by omega)) hz1) (fz_mono (fun y q => q.elim Or.inl (fun q => Or.inr (by omega))) hz23)
    rw [fset_fset, fset_same] at hD3
    have hH3 := RH_work hC hH hzT hp3 hD3
    have hC3 := CK_work hC hH hT3 hzT hp3
    exact g_retr (x := (some (sA (rb (π 6)) w1.2.1 p 0))) cd_Ho_openSession rfl ⟨(some (sA (rb (π 6)) w1.2.1 p 0)), rfl, (kk B3 T3 w1 hp3 hl3 hC3 hH3 hzT)⟩
set_option maxRecDepth 100000 in
theorem l_open0 {sc : tm_X} {d : Nat} {B : bm_H} {F : Nat → Prop} {N S M ln : Nat} {T : List Tm} {dr : Nat} {K : Tm → Prop} {ca rm kc kl rk : Nat} {ws : List (Tm × Int32)} {wt : List Tm} {G : LG} {ids dir reg : Nat → Tm} {seen : List Tm} {π : Nat → Nat} {w : Nat → SW} {dev : Nat → DV} {sto : Nat → ST} {id : Tm} {K0 K1 : PK} {on : List (Tm × Int32)} {lnu : Int32} {se : Nat → List SS} {me : Nat → MM} {p : Nat} {x3 x4 x5 x6 x10 : Int32} {P O E R C : Tm} {Q : Option Nat → bm_H → Prop} (hC : CK B F N S M ln T dr K ca rm kc kl rk) (hH : RH B T ws wt G ids dir reg seen π w dev sto) (hp : p < 6) (eD : dev 6 = (id, K0, K1, on, lnu, se, me)) (t3 : tv T x3 P) (t4 : tv T x4 O) (t5 : tv T x5 E) (t6 : tv T x6 R) (t10 : tv T x10 C) (kE : kd E = 1) (kR : kd R = 1) (kP : kd (pt P 0) = 1) (hO : O = tz) (hM : T.length + 3 < M) (kk : ∀ B' T' w', T <+: T' → T'.length ≤ T.length + 3 → CK B' F N S M ln T' dr K ca rm kc kl rk → RH B' T' ws wt G ids dir reg seen π (fset w 6 w') (fset dev 6 (dv_ses (id, K0, K1, on, lnu, se, me) p (ss_bear (ss_start (Tpub E) R C false) P O))) sto → fz (dxs 1 ca 3 4 (rb (π 6))) B B' → Q (some (sA (rb (π 6)) w'.2.1 p 0)) B') : ∀ lv : tm_L, lv.lookup 0 = some (.ref 0) → lv.lookup 2 = some (.int (nI p)) → lv.lookup 3 = some (.int x3) → lv.lookup 4 = some (.int x4) → lv.lookup 5 = some (.int x5) → lv.lookup 6 = some (.int x6) → lv.lookup 10 = some (.int x10) → bm_G sc (d + 4) 66 156 lv [] B (fun r B' => ∃ x, r = some (va_rf x) ∧ Q x B') := by
  intro lv l0 l2 l3 l4 l5 l6 l10
  have hV := hH.2.2.2.2.1
  have r6 := rb_in (hV.2.2.1 6 (by decide))
  have hW := hV.2.2.2.2 6 (by decide)
  rw [eD] at hW
  have hrm := hC.2.2.2.2.1.2
  have hca := hC.2.2.2.2.2.1
  have hnt : ∀ y, 8 ≤ y → y < 1482 → ¬ tcs 1 ca 3 4 y := fun y a b => CK_tcs hC a b
  refine g_ald (pc' := 157) cd_Ho_openSession rfl (Or.inr ⟨_, rfl, rfl, rfl⟩) l0 rfl rfl ?_
  refine g_fR (c := 11) (k := 11) (x := (rb (π 6))) (pc' := 160) cd_Ho_openSession rfl rfl rfl rfl rfl (by decide) hH.1.1.1 hH.1.1.2 hH.2.2.2.2.1.2.1 ?_
  refine g_ild (pc' := 161) cd_Ho_openSession rfl (Or.inr ⟨_, rfl, rfl, rfl⟩) l2 rfl ?_
  refine g_callr (pc' := 164) cd_Ho_openSession rfl rfl rfl rfl rfl (tm_invV rfl rfl cd_De_addSession rfl (Nat.le_of_ble_eq_true rfl) (by decide) (RDe_K (hH.2.2.2.2.1.2.2.2.2 6 (by decide))).1 (RDe_K (hH.2.2.2.2.1.2.2.2.2 6 (by decide))).2) (t_addSession hW hp (fun B1 S0 w1 hD1 ew1 ew2 hz1 => ?_))
  have hg : RSe B1 T (sA (rb (π 6)) w1.2.1 p 0) S0 := (RSs_get (hD1.2.2.2.2.1 p hp) (by rw [fset_same]; rfl)).2.1
  have isl := sA_in (rb (π 6)) w1.2.1 hp (k := 0) (by decide)
  have hT1 := TI_fr hC.1 hz1.1 (by omega) (by omega) (by omega)
  have hS1 := HoS_fr hH.1 hz1.1
  show bm_G _ _ _ 164 _ [.ref ((sA (rb (π 6)) w1.2.1 p 0))] B1 _
  refine g_ast (pc' := 166) cd_Ho_openSession rfl (Or.inl ⟨rfl, rfl⟩) rfl (by decide) rfl (fun lv el => ?_)
  have l0 := tm_lk el l0 rfl (by decide)
  have l2 := tm_lk el l2 rfl (by decide)
  have l3 := tm_lk el l3 rfl (by decide)
  have l4 := tm_lk el l4 rfl (by decide)
  have l5 := tm_lk el l5 rfl (by decide)
  have l6 := tm_lk el l6 rfl (by decide)
  have l10 := tm_lk el l10 rfl (by decide)
  have l11 : lv.lookup 11 = some (.ref ((sA (rb (π 6)) w1.2.1 p 0))) := tm_lks el
  clear el
  refine g_ald (pc' := 168) cd_Ho_openSession rfl (Or.inl ⟨rfl, rfl⟩) l11 rfl rfl ?_
  refine g_ald (pc' := 169) cd_Ho_openSession rfl (Or.inr ⟨_, rfl, rfl, rfl⟩) l0 rfl rfl ?_
  refine g_fR (c := 11) (k := 0) (x := 1) (pc' := 172) cd_Ho_openSession rfl rfl rfl rfl rfl (by decide) hS1.1.1 hS1.1.2 hS1.2.1.1 ?_
  refine g_ild (pc' := 174) cd_Ho_openSession rfl (Or.inl ⟨rfl, rfl⟩) l5 rfl ?_
  refine g_calli (pc' := 177) cd_Ho_openSession rfl rfl rfl rfl rfl (tm_invV rfl rfl cd_Te_publicOf rfl (Nat.le_of_ble_eq_true rfl) (by decide) hT1.1.1.1 hT1.1.1.2) (t_publicOf hT1 t5 (fun r2 ht2 => ?_))
  rw [if_pos kE] at ht2
  show bm_G _ _ _ 177 _ [.int r2, .ref ((sA (rb (π 6)) w1.2.1 p 0))] B1 _
  refine g_ild (pc' := 179) cd_Ho_openSession rfl (Or.inl ⟨rfl, rfl⟩) l6 rfl ?_
  refine g_ild (pc' := 181) cd_Ho_openSession rfl (Or.inl ⟨rfl, rfl⟩) l10 rfl ?_
  refine g_ild (pc' := 183) cd_Ho_openSession rfl (Or.inl ⟨rfl, rfl⟩) l4 rfl ?_
  refine g_if1 (t := 190) (pc' := 186) cd_Ho_openSession rfl rfl rfl (fun c183 => ?_) (fun c183 => ?_)
  · have c183 : x4 = 0 := c183
    refine g_k1 (v := 0) (pc' := 191) cd_Ho_openSession rfl (by decide) rfl ?_
    refine g_callv (pc' := 194) cd_Ho_openSession rfl rfl rfl rfl rfl (tm_invV rfl rfl cd_Se_start rfl (Nat.le_of_ble_eq_true rfl) (by decide) (RSe_S hg).1.1 (RSe_S hg).1.2) (t_Sstart (o := false) (c := S0.1.2.2.2.length) hT1 (RSe_S hg) (RSe_c hg) (hnt _ (by omega) (by omega)) (hnt _ (by omega) (by omega)) ht2 t6 t10 (fun B2 hT2 hR2 hz2 => ?_))
    have hS2 := HoS_fr hS1 hz2.1
    show bm_G _ _ _ 194 _ [] B2 _
    refine g_ald (pc' := 196) cd_Ho_openSession rfl (Or.inl ⟨rfl, rfl⟩) l11 rfl rfl ?_
    refine g_ald (pc' := 197) cd_Ho_openSession rfl (Or.inr ⟨_, rfl, rfl, rfl⟩) l0 rfl rfl ?_
    refine g_fR (c := 11) (k := 0) (x := 1) (pc' := 200) cd_Ho_openSession rfl rfl rfl rfl rfl (by decide) hS2.1.1 hS2.1.2 hS2.2.1.1 ?_
    refine g_ild (pc' := 201) cd_Ho_openSession rfl (Or.inr ⟨_, rfl, rfl, rfl⟩) l3 rfl ?_
    refine g_ild (pc' := 203) cd_Ho_openSession rfl (Or.inl ⟨rfl, rfl⟩) l4 rfl ?_
    refine g_callv (pc' := 206) cd_Ho_openSession rfl rfl rfl rfl rfl (tm_invV rfl rfl cd_Se_bear rfl (Nat.le_of_ble_eq_true rfl) (by decide) (RSe_S hR2).1.1 (RSe_S hR2).1.2) (t_bear hT2 hR2 (hnt _ (by omega) (by omega)) (hnt _ (by omega) (by omega)) (hnt _ (by omega) (by omega)) (by omega) t3 t4 kR kP (fun B3 T3 hp3 hl3 hT3 hR3 hz3 => ?_))
    show bm_G _ _ _ 206 _ [] B3 _
    refine g_ald (pc' := 208) cd_Ho_openSession rfl (Or.inl ⟨rfl, rfl⟩) l11 rfl rfl ?_
    have hz23 : fz (fun y => tcs 1 ca 3 4 y ∨ ((sA (rb (π 6)) w1.2.1 p 0) ≤ y ∧ y < (sA (rb (π 6)) w1.2.1 p 0) + 3)) B1 B3 := fz_trans (fz_mono (fun y q => Or.inr (by omega)) hz2) (fz_mono (fun y q => q.elim Or.inl (fun q => Or.inr (by omega))) hz3)
    have hD3 := RDe_ses (k := 0) hD1 hp (by rw [fset_same]; simp) hz23.1 (fun y a b cc q => q.elim (hnt _ (by omega) (by omega)) (by omega)) hp3 hR3
    have hzT : fz (dxs 1 ca 3 4 (rb (π 6))) B B3 := fz_trans (fz_mono (fun y q => Or.inr (by omega)) hz1) (fz_mono (fun y q => q.elim Or.inl (fun q => Or.inr (by omega))) hz23)
    rw [fset_fset, fset_same] at hD3
    have hH3 := RH_work hC hH hzT hp3 hD3
    have hC3 := CK_work hC hH hT3 hzT hp3
    exact g_retr (x := (some (sA (rb (π 6)) w1.2.1 p 0))) cd_Ho_openSession rfl ⟨(some (sA (rb (π 6)) w1.2.1 p 0)), rfl, (kk B3 T3 w1 hp3 hl3 hC3 hH3 hzT)⟩
  · have c183 : ¬ x4 = 0 := c183
    exact absurd ((TI_0 hC.1 t4).mpr hO) c183
set_option maxRecDepth 100000 in
theorem t_open {sc : tm_X} {d : Nat} {B : bm_H} {F : Nat → Prop} {N S M ln : Nat} {T : List Tm} {dr : Nat} {K : Tm → Prop} {ca rm kc kl rk : Nat} {ws : List (Tm × Int32)} {wt : List Tm} {G : LG} {ids dir reg : Nat → Tm} {seen : List Tm} {π : Nat → Nat} {w : Nat → SW} {dev : Nat → DV} {sto : Nat → ST} {id : Tm} {K0 K1 : PK} {on : List (Tm × Int32)} {lnu : Int32} {se : Nat → List SS} {me : Nat → MM} {p : Nat} {v : Int32} {Q : Option Nat → bm_H → Prop} (hC : CK B F N S M ln T dr K ca rm kc kl rk) (hH : RH B T ws wt G ids dir reg seen π w dev sto) (hp : p < 6) (eD : dev 6 = (id, K0, K1, on, lnu, se, me)) (kI : kd id = 1) (kJ : kd (ids p) = 1) (hM : T.length + 14 < M) (hdr : dr + 2 < 100000) (kk0 : an_pre dir ids p = tz → Q none B) (kk : ∀ B' T' w', an_pre dir ids p ≠ tz → T <+: T' → T'.length ≤ T.length + 14 → CK B' F N S M ln T' (dr + 2) K ca rm kc kl rk → RH B' T' ws wt G ids (an_once dir p 4 (p * 5 + 1)).2 reg seen π (fset w 6 w') (fset dev 6 (dv_ses (id, K0, K1, on, lnu, se, me) p (op_ses id (Tsec (nI dr) v 0) (Tsec (nI (dr + 1)) v 2) (ids p) (an_pre dir ids p) (an_once dir p 4 (p * 5 + 1)).1))) sto → fz (fun y => dxs 1 ca 3 4 (rb (π 6)) y ∨ y = 22) B B' → Q (some (sA (rb (π 6)) w'.2.1 p 0)) B') : bm_Gr sc (d + 4) 66 [.ref 0, .int v, .int (nI p)] B Q := by
  have hrm := hC.2.2.2.2.1.2
  have hca := hC.2.2.2.2.2.1
  have hV := hH.2.2.2.2.1
  have r6 := rb_in (hV.2.2.1 6 (by decide))
  have hnt : ∀ y, (y = 0 ∨ (8 ≤ y ∧ y < 1482)) → ¬ tcs 1 ca 3 4 y := fun y a q => by unfold tcs at q; omega
  show bm_G sc (d + 4) 66 0 [(0, .ref 0), (1, .int v), (2, .int (nI p))] [] B _
  generalize elv : ([(0, .ref 0), (1, .int v), (2, .int (nI p))] : tm_L) = lv
  have l0 : lv.lookup 0 = some (.ref 0) := by rw [← elv]; rfl
  have l1 : lv.lookup 1 = some (.int v) := by rw [← elv]; rfl
  have l2 : lv.lookup 2 = some (.int (nI p)) := by rw [← elv]; rfl
  clear elv
  refine g_ald (pc' := 1) cd_Ho_openSession rfl (Or.inr ⟨_, rfl, rfl, rfl⟩) l0 rfl rfl ?_
  refine g_ild (pc' := 2) cd_Ho_openSession rfl (Or.inr ⟨_, rfl, rfl, rfl⟩) l2 rfl ?_
  refine g_calli (pc' := 5) cd_Ho_openSession rfl rfl rfl rfl rfl (tm_invV rfl rfl cd_Ho_announcedPrekey rfl (Nat.le_of_ble_eq_true rfl) (by decide) hH.1.1.1 hH.1.1.2) (t_annPre hC hH hp (fun x3 t3 => ?_))
  show bm_G _ _ _ 5 _ [.int x3] B _
  refine g_ist (pc' := 6) cd_Ho_openSession rfl (Or.inr ⟨_, rfl, rfl, rfl⟩) (by decide) rfl (fun lv el => ?_)
  have l0 := tm_lk el l0 rfl (by decide)
  have l1 := tm_lk el l1 rfl (by decide)
  have l2 := tm_lk el l2 rfl (by decide)
  have l3 : lv.lookup 3 = some (.int x3) := tm_lks el
  clear el
  refine g_ild (pc' := 7) cd_Ho_openSession rfl (Or.inr ⟨_, rfl, rfl, rfl⟩) l3 rfl ?_
  refine g_if1 (t := 12) (pc' := 10) cd_Ho_openSession rfl rfl rfl (fun c7 => ?_) (fun c7 => ?_)
  · have c7 : ¬ x3 = 0 := c7
    refine g_ald (pc' := 13) cd_Ho_openSession rfl (Or.inr ⟨_, rfl, rfl, rfl⟩) l0 rfl rfl ?_
    refine g_ild (pc' := 14) cd_Ho_openSession rfl (Or.inr ⟨_, rfl, rfl, rfl⟩) l2 rfl ?_
    refine g_calli (pc' := 17) cd_Ho_openSession rfl rfl rfl rfl rfl (tm_invV rfl rfl cd_Ho_takeAnnouncedOnce rfl (Nat.le_of_ble_eq_true rfl) (by decide) hH.1.1.1 hH.1.1.2) (t_annOnce hC hH hp (fun B1 x4 t4 hC1 hH1 hz1 => ?_))
    have hne : an_pre dir ids p ≠ tz := fun q => c7 ((TI_0 hC.1 t3).mpr q)
    have kP := pub_p0 (TI_sp hC.1 t3) (an_pre_kd hne)
    have hV1 := hH1.2.2.2.2.1
    have hW1 := hV1.2.2.2.2 6 (by decide)
    rw [eD] at hW1
    have ti := hH1.2.2.2.1.1 p hp
    show bm_G _ _ _ 17 _ [.int x4] B1 _
    refine g_ist (pc' := 19) cd_Ho_openSession rfl (Or.inl ⟨rfl, rfl⟩) (by decide) rfl (fun lv el => ?_)
    have l0 := tm_lk el l0 rfl (by decide)
    have l1 := tm_lk el l1 rfl (by decide)
    have l2 := tm_lk el l2 rfl (by decide)
    have l3 := tm_lk el l3 rfl (by decide)
    have l4 : lv.lookup 4 = some (.int x4) := tm_lks el
    clear el
    refine g_ald (pc' := 20) cd_Ho_openSession rfl (Or.inr ⟨_, rfl, rfl, rfl⟩) l0 rfl rfl ?_
    refine g_fR (c := 11) (k := 0) (x := 1) (pc' := 23) cd_Ho_openSession rfl rfl rfl rfl rfl (by decide) hH1.1.1.1 hH1.1.1.2 hH1.1.2.1.1 ?_
    refine g_ild (pc' := 24) cd_Ho_openSession rfl (Or.inr ⟨_, rfl, rfl, rfl⟩) l1 rfl ?_
    refine g_k1 (v := 0) (pc' := 25) cd_Ho_openSession rfl (by decide) rfl ?_
    refine g_calli (pc' := 28) cd_Ho_openSession rfl rfl rfl rfl rfl (tm_invV rfl rfl cd_Te_secret rfl (Nat.le_of_ble_eq_true rfl) (by decide) hC1.1.1.1.1 hC1.1.1.1.2) (t_secret (xd := v) (xp := 0) hC1.1 (by omega) (by omega) (fun B3 r3 hx3 ht3 => ?_))
    have hT3 := hx3.2.2.1
    have hl3 := hx3.2.1
    have hf3 := (fz_te hx3.2.2.2).1
    have hz3 := fz_te hx3.2.2.2
    have f4_0 := fr_lt hf3 hH1.1.1.1
    have g4_0 := (fr_K hf3 hH1.1.1.1).trans hH1.1.1.2
    have f4_1 := fr_lt hf3 hC1.1.1.1.1
    have g4_1 := (fr_K hf3 hC1.1.1.1.1).trans hC1.1.1.1.2
    have f4_2 := fr_lt hf3 hH1.1.2.2.2.2.1.1
    have g4_2 := (fr_K hf3 hH1.1.2.2.2.2.1.1).trans hH1.1.2.2.2.2.1.2.1
    have f4_3 := fr_lt hf3 (RDe_K (hH1.2.2.2.2.1.2.2.2.2 6 (by decide))).1
    have g4_3 := (fr_K hf3 (RDe_K (hH1.2.2.2.2.1.2.2.2.2 6 (by decide))).1).trans (RDe_K (hH1.2.2.2.2.1.2.2.2.2 6 (by decide))).2
    have q4_0 : bm_FI B3 0 6 (rb (π 6)) = (bm_FI B1 0 6 (rb (π 6))) := (fr_FI hf3 (RDe_K (hH1.2.2.2.2.1.2.2.2.2 6 (by decide))).1 (hnt _ (by omega)) 0 6).trans rfl
    have r4_0 : bm_FR B3 11 0 0 = some 1 := (fr_FR hf3 hH1.1.1.1 (hnt _ (by omega)) 11 0).trans hH1.1.2.1.1
    have r4_1 : bm_FR B3 11 6 0 = some 21 := (fr_FR hf3 hH1.1.1.1 (hnt _ (by omega)) 11 6).trans hH1.1.2.1.2.2.2.2.2.2.1
    have r4_2 : bm_FR B3 11 11 0 = some (rb (π 6)) := (fr_FR hf3 hH1.1.1.1 (hnt _ (by omega)) 11 11).trans hH1.2.2.2.2.1.2.1
    have u4_0 : bm_AI B3 21 = (bm_AI B1 21) := (fr_AI hf3 hH1.1.2.2.2.2.1.1 (hnt _ (by omega))).trans rfl
    have w4_0 : bm_AL B3 21 = 6 := (fr_AL hf3 hH1.1.2.2.2.2.1.1).trans hH1.1.2.2.2.2.1.2.2
    have tv5_0 := tv_mono hx3.1 t3
    have tv5_1 := tv_mono hx3.1 t4
    have tv5_2 := tv_mono hx3.1 hW1.2.1.1
    have tv5_3 := tv_mono hx3.1 ti
    have Z6 : fz (tcs 1 ca 3 4) B1 B3 := fz_trans (fz_rfl _ B1) (fz_mono (fun _ q => q) hz3)
    show bm_G _ _ _ 28 _ [.int r3] B3 _
    refine g_ist (pc' := 30) cd_Ho_openSession rfl (Or.inl ⟨rfl, rfl⟩) (by decide) rfl (fun lv el => ?_)
    have l0 := tm_lk el l0 rfl (by decide)
    have l1 := tm_lk el l1 rfl (by decide)
    have l2 := tm_lk el l2 rfl (by decide)
    have l3 := tm_lk el l3 rfl (by decide)
    have l4 := tm_lk el l4 rfl (by decide)
    have l5 : lv.lookup 5 = some (.int r3) := tm_lks el
    clear el
    refine g_ald (pc' := 31) cd_Ho_openSession rfl (Or.inr ⟨_, rfl, rfl, rfl⟩) l0 rfl rfl ?_
    refine g_fR (c := 11) (k := 0) (x := 1) (pc' := 34) cd_Ho_openSession rfl rfl rfl rfl rfl (by decide) f4_0 g4_0 r4_0 ?_
    refine g_ild (pc' := 35) cd_Ho_openSession rfl (Or.inr ⟨_, rfl, rfl, rfl⟩) l1 rfl ?_
    refine g_k1 (v := 2) (pc' := 36) cd_Ho_openSession rfl (by decide) rfl ?_
    refine g_calli (pc' := 39) cd_Ho_openSession rfl rfl rfl rfl rfl (tm_invV rfl rfl cd_Te_secret rfl (Nat.le_of_ble_eq_true rfl) (by decide) f4_1 g4_1) (t_secret (xd := v) (xp := 2) hT3 (by omega) (by omega) (fun B7 r7 hx7 ht7 => ?_))
    have hT7 := hx7.2.2.1
    have hl7 := hx7.2.1
    have hf7 := (fz_te hx7.2.2.2).1
    have hz7 := fz_te hx7.2.2.2
    have f8_0 := fr_lt hf7 f4_0
    have g8_0 := (fr_K hf7 f4_0).trans g4_0
    have f8_1 := fr_lt hf7 f4_1
    have g8_1 := (fr_K hf7 f4_1).trans g4_1
    have f8_2 := fr_lt hf7 f4_2
    have g8_2 := (fr_K hf7 f4_2).trans g4_2
    have f8_3 := fr_lt hf7 f4_3
    have g8_3 := (fr_K hf7 f4_3).trans g4_3
    have q8_0 : bm_FI B7 0 6 (rb (π 6)) = (bm_FI B1 0 6 (rb (π 6))) := (fr_FI hf7 f4_3 (hnt _ (by omega)) 0 6).trans q4_0
    have r8_0 : bm_FR B7 11 0 0 = some 1 := (fr_FR hf7 f4_0 (hnt _ (by omega)) 11 0).trans r4_0
    have r8_1 : bm_FR B7 11 6 0 = some 21 := (fr_FR hf7 f4_0 (hnt _ (by omega)) 11 6).trans r4_1
    have r8_2 : bm_FR B7 11 11 0 = some (rb (π 6)) := (fr_FR hf7 f4_0 (hnt _ (by omega)) 11 11).trans r4_2
    have u8_0 : bm_AI B7 21 = (bm_AI B1 21) := (fr_AI hf7 f4_2 (hnt _ (by omega))).trans u4_0
    have w8_0 : bm_AL B7 21 = 6 := (fr_AL hf7 f4_2).trans w4_0
    have tv9_0 := tv_mono hx7.1 tv5_0
    have tv9_1 := tv_mono hx7.1 tv5_1
    have tv9_2 := tv_mono hx7.1 tv5_2
    have tv9_3 := tv_mono hx7.1 tv5_3
    have tv9_4 := tv_mono hx7.1 ht3
    have Z10 : fz (tcs 1 ca 3 4) B1 B7 := fz_trans Z6 (fz_mono (fun _ q => q) hz7)
    show bm_G _ _ _ 39 _ [.int r7] B7 _
    refine g_ist (pc' := 41) cd_Ho_openSession rfl (Or.inl ⟨rfl, rfl⟩) (by decide) rfl (fun lv el => ?_)
    have l0 := tm_lk el l0 rfl (by decide)
    have l1 := tm_lk el l1 rfl (by decide)
    have l2 := tm_lk el l2 rfl (by decide)
    have l3 := tm_lk el l3 rfl (by decide)
    have l4 := tm_lk el l4 rfl (by decide)
    have l5 := tm_lk el l5 rfl (by decide)
    have l6 : lv.lookup 6 = some (.int r7) := tm_lks el
    clear el
    refine g_ald (pc' := 42) cd_Ho_openSession rfl (Or.inr ⟨_, rfl, rfl, rfl⟩) l0 rfl rfl ?_
    refine g_fR (c := 11) (k := 0) (x := 1) (pc' := 45) cd_Ho_openSession rfl rfl rfl rfl rfl (by decide) f8_0 g8_0 r8_0 ?_
    refine g_ald (pc' := 46) cd_Ho_openSession rfl (Or.inr ⟨_, rfl, rfl, rfl⟩) l0 rfl rfl ?_
    refine g_fR (c := 11) (k := 6) (x := 21) (pc' := 49) cd_Ho_openSession rfl rfl rfl rfl rfl (by decide) f8_0 g8_0 r8_1 ?_
    refine g_ild (pc' := 50) cd_Ho_openSession rfl (Or.inr ⟨_, rfl, rfl, rfl⟩) l2 rfl ?_
    refine g_aI (x := (bm_AI B1 21 p)) (pc' := 51) cd_Ho_openSession rfl rfl f8_2 g8_2 (by rw [show bm_AL B7 21 = 6 from w8_0]; exact vp_in_nI (by omega) (by decide)) (by rw [show bm_AI B7 21 = _ from u8_0, nI_clamp (by omega)]) ?_
    refine g_calli (pc' := 54) cd_Ho_openSession rfl rfl rfl rfl rfl (tm_invV rfl rfl cd_Te_publicOf rfl (Nat.le_of_ble_eq_true rfl) (by decide) f8_1 g8_1) (t_publicOf hT7 tv9_3 (fun r11 ht11 => ?_))
    rw [if_pos kJ] at ht11
    show bm_G _ _ _ 54 _ [.int r11] B7 _
    refine g_ist (pc' := 56) cd_Ho_openSession rfl (Or.inl ⟨rfl, rfl⟩) (by decide) rfl (fun lv el => ?_)
    have l0 := tm_lk el l0 rfl (by decide)
    have l1 := tm_lk el l1 rfl (by decide)
    have l2 := tm_lk el l2 rfl (by decide)
    have l3 := tm_lk el l3 rfl (by decide)
    have l4 := tm_lk el l4 rfl (by decide)
    have l5 := tm_lk el l5 rfl (by decide)
    have l6 := tm_lk el l6 rfl (by decide)
    have l7 : lv.lookup 7 = some (.int r11) := tm_lks el
    clear el
    refine g_ald (pc' := 57) cd_Ho_openSession rfl (Or.inr ⟨_, rfl, rfl, rfl⟩) l0 rfl rfl ?_
    refine g_fR (c := 11) (k := 0) (x := 1) (pc' := 60) cd_Ho_openSession rfl rfl rfl rfl rfl (by decide) f8_0 g8_0 r8_0 ?_
    refine g_k1 (v := 0) (pc' := 61) cd_Ho_openSession rfl (by decide) rfl ?_
    refine g_ald (pc' := 62) cd_Ho_openSession rfl (Or.inr ⟨_, rfl, rfl, rfl⟩) l0 rfl rfl ?_
    refine g_fR (c := 11) (k := 0) (x := 1) (pc' := 65) cd_Ho_openSession rfl rfl rfl rfl rfl (by decide) f8_0 g8_0 r8_0 ?_
    refine g_ald (pc' := 66) cd_Ho_openSession rfl (Or.inr ⟨_, rfl, rfl, rfl⟩) l0 rfl rfl ?_
    refine g_fR (c := 11) (k := 11) (x := (rb (π 6))) (pc' := 69) cd_Ho_openSession rfl rfl rfl rfl rfl (by decide) f8_0 g8_0 r8_2 ?_
    refine g_fI (c := 0) (k := 6) (x := (bm_FI B1 0 6 (rb (π 6)))) (pc' := 72) cd_Ho_openSession rfl rfl rfl rfl rfl (by decide) f8_3 g8_3 q8_0 ?_
    refine g_ild (pc' := 73) cd_Ho_openSession rfl (Or.inr ⟨_, rfl, rfl, rfl⟩) l3 rfl ?_
    refine g_calli (pc' := 76) cd_Ho_openSession rfl rfl rfl rfl rfl (tm_invV rfl rfl cd_Te_shared rfl (Nat.le_of_ble_eq_true rfl) (by decide) f8_1 g8_1) (t_shared hT7 (by omega) tv9_2 tv9_0 kI kP (fun B12 T12 r12 hx12 ht12 => ?_))
    have hT12 := hx12.2.2.1
    have hl12 := hx12.2.1
    have hf12 := (fz_te hx12.2.2.2).1
    have hz12 := fz_te hx12.2.2.2
    have f13_0 := fr_lt hf12 f8_0
    have g13_0 := (fr_K hf12 f8_0).trans g8_0
    have f13_1 := fr_lt hf12 f8_1
    have g13_1 := (fr_K hf12 f8_1).trans g8_1
    have f13_2 := fr_lt hf12 f8_2
    have g13_2 := (fr_K hf12 f8_2).trans g8_2
    have f13_3 := fr_lt hf12 f8_3
    have g13_3 := (fr_K hf12 f8_3).trans g8_3
    have q13_0 : bm_FI B12 0 6 (rb (π 6)) = (bm_FI B1 0 6 (rb (π 6))) := (fr_FI hf12 f8_3 (hnt _ (by omega)) 0 6).trans q8_0
    have r13_0 : bm_FR B12 11 0 0 = some 1 := (fr_FR hf12 f8_0 (hnt _ (by omega)) 11 0).trans r8_0
    have r13_1 : bm_FR B12 11 6 0 = some 21 := (fr_FR hf12 f8_0 (hnt _ (by omega)) 11 6).trans r8_1
    have r13_2 : bm_FR B12 11 11 0 = some (rb (π 6)) := (fr_FR hf12 f8_0 (hnt _ (by omega)) 11 11).trans r8_2
    have u13_0 : bm_AI B12 21 = (bm_AI B1 21) := (fr_AI hf12 f8_2 (hnt _ (by omega))).trans u8_0
    have w13_0 : bm_AL B12 21 = 6 := (fr_AL hf12 f8_2).trans w8_0
    have tv14_0 := tv_mono hx12.1 tv9_0
    have tv14_1 := tv_mono hx12.1 tv9_1
    have tv14_2 := tv_mono hx12.1 tv9_2
    have tv14_3 := tv_mono hx12.1 tv9_3
    have tv14_4 := tv_mono hx12.1 tv9_4
    have tv14_5 := tv_mono hx12.1 ht7
    have tv14_6 := tv_mono hx12.1 ht11
    have Z15 : fz (tcs 1 ca 3 4) B1 B12 := fz_trans Z10 (fz_mono (fun _ q => q) hz12)
    show bm_G _ _ _ 76 _ [.int r12, .int 0, .ref 1] B12 _
    refine g_ald (pc' := 77) cd_Ho_openSession rfl (Or.inr ⟨_, rfl, rfl, rfl⟩) l0 rfl rfl ?_
    refine g_fR (c := 11) (k := 0) (x := 1) (pc' := 80) cd_Ho_openSession rfl rfl rfl rfl rfl (by decide) f13_0 g13_0 r13_0 ?_
    refine g_ild (pc' := 82) cd_Ho_openSession rfl (Or.inl ⟨rfl, rfl⟩) l5 rfl ?_
    refine g_ild (pc' := 84) cd_Ho_openSession rfl (Or.inl ⟨rfl, rfl⟩) l7 rfl ?_
    refine g_calli (pc' := 87) cd_Ho_openSession rfl rfl rfl rfl rfl (tm_invV rfl rfl cd_Te_shared rfl (Nat.le_of_ble_eq_true rfl) (by decide) f13_1 g13_1) (t_shared hT12 (by omega) tv14_4 tv14_6 rfl kJ (fun B16 T16 r16 hx16 ht16 => ?_))
    have hT16 := hx16.2.2.1
    have hl16 := hx16.2.1
    have hf16 := (fz_te hx16.2.2.2).1
    have hz16 := fz_te hx16.2.2.2
    have f17_0 := fr_lt hf16 f13_0
    have g17_0 := (fr_K hf16 f13_0).trans g13_0
    have f17_1 := fr_lt hf16 f13_1
    have g17_1 := (fr_K hf16 f13_1).trans g13_1
    have f17_2 := fr_lt hf16 f13_2
    have g17_2 := (fr_K hf16 f13_2).trans g13_2
    have f17_3 := fr_lt hf16 f13_3
    have g17_3 := (fr_K hf16 f13_3).trans g13_3
    have q17_0 : bm_FI B16 0 6 (rb (π 6)) = (bm_FI B1 0 6 (rb (π 6))) := (fr_FI hf16 f13_3 (hnt _ (by omega)) 0 6).trans q13_0
    have r17_0 : bm_FR B16 11 0 0 = some 1 := (fr_FR hf16 f13_0 (hnt _ (by omega)) 11 0).trans r13_0
    have r17_1 : bm_FR B16 11 6 0 = some 21 := (fr_FR hf16 f13_0 (hnt _ (by omega)) 11 6).trans r13_1
    have r17_2 : bm_FR B16 11 11 0 = some (rb (π 6)) := (fr_FR hf16 f13_0 (hnt _ (by omega)) 11 11).trans r13_2
    have u17_0 : bm_AI B16 21 = (bm_AI B1 21) := (fr_AI hf16 f13_2 (hnt _ (by omega))).trans u13_0
    have w17_0 : bm_AL B16 21 = 6 := (fr_AL hf16 f13_2).trans w13_0
    have tv18_0 := tv_mono hx16.1 tv14_0
    have tv18_1 := tv_mono hx16.1 tv14_1
    have tv18_2 := tv_mono hx16.1 tv14_2
    have tv18_3 := tv_mono hx16.1 tv14_3
    have tv18_4 := tv_mono hx16.1 tv14_4
    have tv18_5 := tv_mono hx16.1 tv14_5
    have tv18_6 := tv_mono hx16.1 tv14_6
    have tv18_7 := tv_mono hx16.1 ht12
    have Z19 : fz (tcs 1 ca 3 4) B1 B16 := fz_trans Z15 (fz_mono (fun _ q => q) hz16)
    show bm_G _ _ _ 87 _ [.int r16, .int r12, .int 0, .ref 1] B16 _
    refine g_calli (pc' := 90) cd_Ho_openSession rfl rfl rfl rfl rfl (tm_invV rfl rfl cd_Te_mix rfl (Nat.le_of_ble_eq_true rfl) (by decide) f17_1 g17_1) (t_mix (n := 0) hT16 (by omega) tv18_7 ht16 (fun B20 T20 r20 hx20 ht20 => ?_))
    have hT20 := hx20.2.2.1
    have hl20 := hx20.2.1
    have hf20 := (fz_te hx20.2.2.2).1
    have hz20 := fz_te hx20.2.2.2
    have f21_0 := fr_lt hf20 f17_0
    have g21_0 := (fr_K hf20 f17_0).trans g17_0
    have f21_1 := fr_lt hf20 f17_1
    have g21_1 := (fr_K hf20 f17_1).trans g17_1
    have f21_2 := fr_lt hf20 f17_2
    have g21_2 := (fr_K hf20 f17_2).trans g17_2
    have f21_3 := fr_lt hf20 f17_3
    have g21_3 := (fr_K hf20 f17_3).trans g17_3
    have q21_0 : bm_FI B20 0 6 (rb (π 6)) = (bm_FI B1 0 6 (rb (π 6))) := (fr_FI hf20 f17_3 (hnt _ (by omega)) 0 6).trans q17_0
    have r21_0 : bm_FR B20 11 0 0 = some 1 := (fr_FR hf20 f17_0 (hnt _ (by omega)) 11 0).trans r17_0
    have r21_1 : bm_FR B20 11 6 0 = some 21 := (fr_FR hf20 f17_0 (hnt _ (by omega)) 11 6).trans r17_1
    have r21_2 : bm_FR B20 11 11 0 = some (rb (π 6)) := (fr_FR hf20 f17_0 (hnt _ (by omega)) 11 11).trans r17_2
    have u21_0 : bm_AI B20 21 = (bm_AI B1 21) := (fr_AI hf20 f17_2 (hnt _ (by omega))).trans u17_0
    have w21_0 : bm_AL B20 21 = 6 := (fr_AL hf20 f17_2).trans w17_0
    have tv22_0 := tv_mono hx20.1 tv18_0
    have tv22_1 := tv_mono hx20.1 tv18_1
    have tv22_2 := tv_mono hx20.1 tv18_2
    have tv22_3 := tv_mono hx20.1 tv18_3
    have tv22_4 := tv_mono hx20.1 tv18_4
    have tv22_5 := tv_mono hx20.1 tv18_5
    have tv22_6 := tv_mono hx20.1 tv18_6
    have tv22_7 := tv_mono hx20.1 tv18_7
    have tv22_8 := tv_mono hx20.1 ht16
    have Z23 : fz (tcs 1 ca 3 4) B1 B20 := fz_trans Z19 (fz_mono (fun _ q => q) hz20)
    show bm_G _ _ _ 90 _ [.int r20] B20 _
    refine g_ist (pc' := 92) cd_Ho_openSession rfl (Or.inl ⟨rfl, rfl⟩) (by decide) rfl (fun lv el => ?_)
    have l0 := tm_lk el l0 rfl (by decide)
    have l1 := tm_lk el l1 rfl (by decide)
    have l2 := tm_lk el l2 rfl (by decide)
    have l3 := tm_lk el l3 rfl (by decide)
    have l4 := tm_lk el l4 rfl (by decide)
    have l5 := tm_lk el l5 rfl (by decide)
    have l6 := tm_lk el l6 rfl (by decide)
    have l7 := tm_lk el l7 rfl (by decide)
    have l8 : lv.lookup 8 = some (.int r20) := tm_lks el
    clear el
    refine g_ald (pc' := 93) cd_Ho_openSession rfl (Or.inr ⟨_, rfl, rfl, rfl⟩) l0 rfl rfl ?_
    refine g_fR (c := 11) (k := 0) (x := 1) (pc' := 96) cd_Ho_openSession rfl rfl rfl rfl rfl (by decide) f21_0 g21_0 r21_0 ?_
    refine g_k1 (v := 1) (pc' := 97) cd_Ho_openSession rfl (by decide) rfl ?_
    refine g_ild (pc' := 99) cd_Ho_openSession rfl (Or.inl ⟨rfl, rfl⟩) l8 rfl ?_
    refine g_ald (pc' := 100) cd_Ho_openSession rfl (Or.inr ⟨_, rfl, rfl, rfl⟩) l0 rfl rfl ?_
    refine g_fR (c := 11) (k := 0) (x := 1) (pc' := 103) cd_Ho_openSession rfl rfl rfl rfl rfl (by decide) f21_0 g21_0 r21_0 ?_
    refine g_ild (pc' := 105) cd_Ho_openSession rfl (Or.inl ⟨rfl, rfl⟩) l5 rfl ?_
    refine g_ild (pc' := 106) cd_Ho_openSession rfl (Or.inr ⟨_, rfl, rfl, rfl⟩) l3 rfl ?_
    refine g_calli (pc' := 109) cd_Ho_openSession rfl rfl rfl rfl rfl (tm_invV rfl rfl cd_Te_shared rfl (Nat.le_of_ble_eq_true rfl) (by decide) f21_1 g21_1) (t_shared hT20 (by omega) tv22_4 tv22_0 rfl kP (fun B24 T24 r24 hx24 ht24 => ?_))
    have hT24 := hx24.2.2.1
    have hl24 := hx24.2.1
    have hf24 := (fz_te hx24.2.2.2).1
    have hz24 := fz_te hx24.2.2.2
    have f25_0 := fr_lt hf24 f21_0
    have g25_0 := (fr_K hf24 f21_0).trans g21_0
    have f25_1 := fr_lt hf24 f21_1
    have g25_1 := (fr_K hf24 f21_1).trans g21_1
    have f25_2 := fr_lt hf24 f21_2
    have g25_2 := (fr_K hf24 f21_2).trans g21_2
    have f25_3 := fr_lt hf24 f21_3
    have g25_3 := (fr_K hf24 f21_3).trans g21_3
    have q25_0 : bm_FI B24 0 6 (rb (π 6)) = (bm_FI B1 0 6 (rb (π 6))) := (fr_FI hf24 f21_3 (hnt _ (by omega)) 0 6).trans q21_0
    have r25_0 : bm_FR B24 11 0 0 = some 1 := (fr_FR hf24 f21_0 (hnt _ (by omega)) 11 0).trans r21_0
    have r25_1 : bm_FR B24 11 6 0 = some 21 := (fr_FR hf24 f21_0 (hnt _ (by omega)) 11 6).trans r21_1
    have r25_2 : bm_FR B24 11 11 0 = some (rb (π 6)) := (fr_FR hf24 f21_0 (hnt _ (by omega)) 11 11).trans r21_2
    have u25_0 : bm_AI B24 21 = (bm_AI B1 21) := (fr_AI hf24 f21_2 (hnt _ (by omega))).trans u21_0
    have w25_0 : bm_AL B24 21 = 6 := (fr_AL hf24 f21_2).trans w21_0
    have tv26_0 := tv_mono hx24.1 tv22_0
    have tv26_1 := tv_mono hx24.1 tv22_1
    have tv26_2 := tv_mono hx24.1 tv22_2
    have tv26_3 := tv_mono hx24.1 tv22_3
    have tv26_4 := tv_mono hx24.1 tv22_4
    have tv26_5 := tv_mono hx24.1 tv22_5
    have tv26_6 := tv_mono hx24.1 tv22_6
    have tv26_7 := tv_mono hx24.1 tv22_7
    have tv26_8 := tv_mono hx24.1 tv22_8
    have tv26_9 := tv_mono hx24.1 ht20
    have Z27 : fz (tcs 1 ca 3 4) B1 B24 := fz_trans Z23 (fz_mono (fun _ q => q) hz24)
    show bm_G _ _ _ 109 _ [.int r24, .int r20, .int 1, .ref 1] B24 _
    refine g_calli (pc' := 112) cd_Ho_openSession rfl rfl rfl rfl rfl (tm_invV rfl rfl cd_Te_mix rfl (Nat.le_of_ble_eq_true rfl) (by decide) f25_1 g25_1) (t_mix (n := 1) hT24 (by omega) tv26_9 ht24 (fun B28 T28 r28 hx28 ht28 => ?_))
    have hT28 := hx28.2.2.1
    have hl28 := hx28.2.1
    have hf28 := (fz_te hx28.2.2.2).1
    have hz28 := fz_te hx28.2.2.2
    have f29_0 := fr_lt hf28 f25_0
    have g29_0 := (fr_K hf28 f25_0).trans g25_0
    have f29_1 := fr_lt hf28 f25_1
    have g29_1 := (fr_K hf28 f25_1).trans g25_1
    have f29_2 := fr_lt hf28 f25_2
    have g29_2 := (fr_K hf28 f25_2).trans g25_2
    have f29_3 := fr_lt hf28 f25_3
    have g29_3 := (fr_K hf28 f25_3).trans g25_3
    have q29_0 : bm_FI B28 0 6 (rb (π 6)) = (bm_FI B1 0 6 (rb (π 6))) := (fr_FI hf28 f25_3 (hnt _ (by omega)) 0 6).trans q25_0
    have r29_0 : bm_FR B28 11 0 0 = some 1 := (fr_FR hf28 f25_0 (hnt _ (by omega)) 11 0).trans r25_0
    have r29_1 : bm_FR B28 11 6 0 = some 21 := (fr_FR hf28 f25_0 (hnt _ (by omega)) 11 6).trans r25_1
    have r29_2 : bm_FR B28 11 11 0 = some (rb (π 6)) := (fr_FR hf28 f25_0 (hnt _ (by omega)) 11 11).trans r25_2
    have u29_0 : bm_AI B28 21 = (bm_AI B1 21) := (fr_AI hf28 f25_2 (hnt _ (by omega))).trans u25_0
    have w29_0 : bm_AL B28 21 = 6 := (fr_AL hf28 f25_2).trans w25_0
    have tv30_0 := tv_mono hx28.1 tv26_0
    have tv30_1 := tv_mono hx28.1 tv26_1
    have tv30_2 := tv_mono hx28.1 tv26_2
    have tv30_3 := tv_mono hx28.1 tv26_3
    have tv30_4 := tv_mono hx28.1 tv26_4
    have tv30_5 := tv_mono hx28.1 tv26_5
    have tv30_6 := tv_mono hx28.1 tv26_6
    have tv30_7 := tv_mono hx28.1 tv26_7
    have tv30_8 := tv_mono hx28.1 tv26_8
    have tv30_9 := tv_mono hx28.1 tv26_9
    have tv30_10 := tv_mono hx28.1 ht24
    have Z31 : fz (tcs 1 ca 3 4) B1 B28 := fz_trans Z27 (fz_mono (fun _ q => q) hz28)
    show bm_G _ _ _ 112 _ [.int r28] B28 _
    refine g_ist (pc' := 114) cd_Ho_openSession rfl (Or.inl ⟨rfl, rfl⟩) (by decide) rfl (fun lv el => ?_)
    have l0 := tm_lk el l0 rfl (by decide)
    have l1 := tm_lk el l1 rfl (by decide)
    have l2 := tm_lk el l2 rfl (by decide)
    have l3 := tm_lk el l3 rfl (by decide)
    have l4 := tm_lk el l4 rfl (by decide)
    have l5 := tm_lk el l5 rfl (by decide)
    have l6 := tm_lk el l6 rfl (by decide)
    have l7 := tm_lk el l7 rfl (by decide)
    have l8 := tm_lk el l8 rfl (by decide)
    have l9 : lv.lookup 9 = some (.int r28) := tm_lks el
    clear el
    refine g_ild (pc' := 116) cd_Ho_openSession rfl (Or.inl ⟨rfl, rfl⟩) l4 rfl ?_
    refine g_if1 (t := 133) (pc' := 119) cd_Ho_openSession rfl rfl rfl (fun c116 => ?_) (fun c116 => ?_)
    · have c116 : ¬ x4 = 0 := c116
      have hO : (an_once dir p 4 (p * 5 + 1)).1 ≠ tz := fun q => c116 ((TI_0 hC.1 t4).mpr q)
      have kO := pub_p0 (TI_sp hC.1 t4) (an_once_kd hO)
      refine g_ald (pc' := 134) cd_Ho_openSession rfl (Or.inr ⟨_, rfl, rfl, rfl⟩) l0 rfl rfl ?_
      refine g_fR (c := 11) (k := 0) (x := 1) (pc' := 137) cd_Ho_openSession rfl rfl rfl rfl rfl (by decide) f29_0 g29_0 r29_0 ?_
      refine g_k1 (v := 2) (pc' := 138) cd_Ho_openSession rfl (by decide) rfl ?_
      refine g_ild (pc' := 140) cd_Ho_openSession rfl (Or.inl ⟨rfl, rfl⟩) l9 rfl ?_
      refine g_ald (pc' := 141) cd_Ho_openSession rfl (Or.inr ⟨_, rfl, rfl, rfl⟩) l0 rfl rfl ?_
      refine g_fR (c := 11) (k := 0) (x := 1) (pc' := 144) cd_Ho_openSession rfl rfl rfl rfl rfl (by decide) f29_0 g29_0 r29_0 ?_
      refine g_ild (pc' := 146) cd_Ho_openSession rfl (Or.inl ⟨rfl, rfl⟩) l5 rfl ?_
      refine g_ild (pc' := 148) cd_Ho_openSession rfl (Or.inl ⟨rfl, rfl⟩) l4 rfl ?_
      refine g_calli (pc' := 151) cd_Ho_openSession rfl rfl rfl rfl rfl (tm_invV rfl rfl cd_Te_shared rfl (Nat.le_of_ble_eq_true rfl) (by decide) f29_1 g29_1) (t_shared hT28 (by omega) tv30_4 tv30_1 rfl kO (fun B32 T32 r32 hx32 ht32 => ?_))
      have hT32 := hx32.2.2.1
      have hl32 := hx32.2.1
      have hf32 := (fz_te hx32.2.2.2).1
      have hz32 := fz_te hx32.2.2.2
      have f33_0 := fr_lt hf32 f29_0
      have g33_0 := (fr_K hf32 f29_0).trans g29_0
      have f33_1 := fr_lt hf32 f29_1
      have g33_1 := (fr_K hf32 f29_1).trans g29_1
      have f33_2 := fr_lt hf32 f29_2
      have g33_2 := (fr_K hf32 f29_2).trans g29_2
      have f33_3 := fr_lt hf32 f29_3
      have g33_3 := (fr_K hf32 f29_3).trans g29_3
      have q33_0 : bm_FI B32 0 6 (rb (π 6)) = (bm_FI B1 0 6 (rb (π 6))) := (fr_FI hf32 f29_3 (hnt _ (by omega)) 0 6).trans q29_0
      have r33_0 : bm_FR B32 11 0 0 = some 1 := (fr_FR hf32 f29_0 (hnt _ (by omega)) 11 0).trans r29_0
      have r33_1 : bm_FR B32 11 6 0 = some 21 := (fr_FR hf32 f29_0 (hnt _ (by omega)) 11 6).trans r29_1
      have r33_2 : bm_FR B32 11 11 0 = some (rb (π 6)) := (fr_FR hf32 f29_0 (hnt _ (by omega)) 11 11).trans r29_2
      have u33_0 : bm_AI B32 21 = (bm_AI B1 21) := (fr_AI hf32 f29_2 (hnt _ (by omega))).trans u29_0
      have w33_0 : bm_AL B32 21 = 6 := (fr_AL hf32 f29_2).trans w29_0
      have tv34_0 := tv_mono hx32.1 tv30_0
      have tv34_1 := tv_mono hx32.1 tv30_1
      have tv34_2 := tv_mono hx32.1 tv30_2
      have tv34_3 := tv_mono hx32.1 tv30_3
      have tv34_4 := tv_mono hx32.1 tv30_4
      have tv34_5 := tv_mono hx32.1 tv30_5
      have tv34_6 := tv_mono hx32.1 tv30_6
      have tv34_7 := tv_mono hx32.1 tv30_7
      have tv34_8 := tv_mono hx32.1 tv30_8
      have tv34_9 := tv_mono hx32.1 tv30_9
      have tv34_10 := tv_mono hx32.1 tv30_10
      have tv34_11 := tv_mono hx32.1 ht28
      have Z35 : fz (tcs 1 ca 3 4) B1 B32 := fz_trans Z31 (fz_mono (fun _ q => q) hz32)
      show bm_G _ _ _ 151 _ [.int r32, .int r28, .int 2, .ref 1] B32 _
      refine g_calli (pc' := 154) cd_Ho_openSession rfl rfl rfl rfl rfl (tm_invV rfl rfl cd_Te_mix rfl (Nat.le_of_ble_eq_true rfl) (by decide) f33_1 g33_1) (t_mix (n := 2) hT32 (by omega) tv34_11 ht32 (fun B36 T36 r36 hx36 ht36 => ?_))
      have hT36 := hx36.2.2.1
      have hl36 := hx36.2.1
      have hf36 := (fz_te hx36.2.2.2).1
      have hz36 := fz_te hx36.2.2.2
      have f37_0 := fr_lt hf36 f33_0
      have g37_0 := (fr_K hf36 f33_0).trans g33_0
      have f37_1 := fr_lt hf36 f33_1
      have g37_1 := (fr_K hf36 f33_1).trans g33_1
      have f37_2 := fr_lt hf36 f33_2
      have g37_2 := (fr_K hf36 f33_2).trans g33_2
      have f37_3 := fr_lt hf36 f33_3
      have g37_3 := (fr_K hf36 f33_3).trans g33_3
      have q37_0 : bm_FI B36 0 6 (rb (π 6)) = (bm_FI B1 0 6 (rb (π 6))) := (fr_FI hf36 f33_3 (hnt _ (by omega)) 0 6).trans q33_0
      have r37_0 : bm_FR B36 11 0 0 = some 1 := (fr_FR hf36 f33_0 (hnt _ (by omega)) 11 0).trans r33_0
      have r37_1 : bm_FR B36 11 6 0 = some 21 := (fr_FR hf36 f33_0 (hnt _ (by omega)) 11 6).trans r33_1
      have r37_2 : bm_FR B36 11 11 0 = some (rb (π 6)) := (fr_FR hf36 f33_0 (hnt _ (by omega)) 11 11).trans r33_2
      have u37_0 : bm_AI B36 21 = (bm_AI B1 21) := (fr_AI hf36 f33_2 (hnt _ (by omega))).trans u33_0
      have w37_0 : bm_AL B36 21 = 6 := (fr_AL hf36 f33_2).trans w33_0
      have tv38_0 := tv_mono hx36.1 tv34_0
      have tv38_1 := tv_mono hx36.1 tv34_1
      have tv38_2 := tv_mono hx36.1 tv34_2
      have tv38_3 := tv_mono hx36.1 tv34_3
      have tv38_4 := tv_mono hx36.1 tv34_4
      have tv38_5 := tv_mono hx36.1 tv34_5
      have tv38_6 := tv_mono hx36.1 tv34_6
      have tv38_7 := tv_mono hx36.1 tv34_7
      have tv38_8 := tv_mono hx36.1 tv34_8
      have tv38_9 := tv_mono hx36.1 tv34_9
      have tv38_10 := tv_mono hx36.1 tv34_10
      have tv38_11 := tv_mono hx36.1 tv34_11
      have tv38_12 := tv_mono hx36.1 ht32
      have Z39 : fz (tcs 1 ca 3 4) B1 B36 := fz_trans Z35 (fz_mono (fun _ q => q) hz36)
      show bm_G _ _ _ 154 _ [.int r36] B36 _
      refine g_ist (pc' := 156) cd_Ho_openSession rfl (Or.inl ⟨rfl, rfl⟩) (by decide) rfl (fun lv el => ?_)
      have l0 := tm_lk el l0 rfl (by decide)
      have l1 := tm_lk el l1 rfl (by decide)
      have l2 := tm_lk el l2 rfl (by decide)
      have l3 := tm_lk el l3 rfl (by decide)
      have l4 := tm_lk el l4 rfl (by decide)
      have l5 := tm_lk el l5 rfl (by decide)
      have l6 := tm_lk el l6 rfl (by decide)
      have l7 := tm_lk el l7 rfl (by decide)
      have l8 := tm_lk el l8 rfl (by decide)
      have l9 := tm_lk el l9 rfl (by decide)
      have l10 : lv.lookup 10 = some (.int r36) := tm_lks el
      clear el
      have hlen : T36.length ≤ T.length + 11 := by
        try simp only [List.length_append, List.length_cons, List.length_nil] at hl3; try simp only [List.length_append, List.length_cons, List.length_nil] at hl7; try simp only [List.length_append, List.length_cons, List.length_nil] at hl12; try simp only [List.length_append, List.length_cons, List.length_nil] at hl16; try simp only [List.length_append, List.length_cons, List.length_nil] at hl20; try simp only [List.length_append, List.length_cons, List.length_nil] at hl24; try simp only [List.length_append, List.length_cons, List.length_nil] at hl28; try simp only [List.length_append, List.length_cons, List.length_nil] at hl32; try simp only [List.length_append, List.length_cons, List.length_nil] at hl36
        omega
      have hpp := ((((((((hx3.1.trans hx7.1).trans hx12.1).trans hx16.1).trans hx20.1).trans hx24.1).trans hx28.1).trans hx32.1).trans hx36.1)
      have hCk := CK_made hC1 hT36 hpp Z39 (fun y q => Or.inl q)
      have hHk := RH_te hC1 hH1 Z39 hpp
      have hEq : op_ses id (Tsec (nI dr) v 0) (Tsec (nI (dr + 1)) v 2) (ids p) (an_pre dir ids p) (an_once dir p 4 (p * 5 + 1)).1 = ss_bear (ss_start (Tpub (Tsec (nI dr) v 0)) (Tsec (nI (dr + 1)) v 2) (Tmx 2 (Tmx 1 (Tmx 0 (Tsh id (pt (an_pre dir ids p) 0)) (Tsh (Tsec (nI dr) v 0) (pt (Tpub (ids p)) 0))) (Tsh (Tsec (nI dr) v 0) (pt (an_pre dir ids p) 0))) (Tsh (Tsec (nI dr) v 0) (pt ((an_once dir p 4 (p * 5 + 1)).1) 0))) true) (an_pre dir ids p) (an_once dir p 4 (p * 5 + 1)).1 := by unfold op_ses op_root; rw [show tnil (an_once dir p 4 (p * 5 + 1)).1 = false from Bool.eq_false_iff.mpr (fun q => hO (tnil_iff.mp q))]; rfl
      rw [hEq] at kk
      exact l_open1 hCk hHk hp eD tv38_0 tv38_1 tv38_4 tv38_5 ht36 rfl rfl kP hO (by omega) (fun B' T' w' q1 q2 q3 q4 q5 => kk B' T' w' hne (hpp.trans q1) (by omega) q3 q4 (fz_trans (fz_trans (fz_mono (fun y q => Or.inr q) hz1) (fz_mono (fun y q => Or.inl (Or.inl q)) Z39)) (fz_mono (fun y q => Or.inl q) q5))) lv l0 l2 l3 l4 l5 l6 l10
    · have c116 : x4 = 0 := Classical.not_not.mp c116
      have hO : (an_once dir p 4 (p * 5 + 1)).1 = tz := (TI_0 hC.1 t4).mp c116
      refine g_ald (pc' := 120) cd_Ho_openSession rfl (Or.inr ⟨_, rfl, rfl, rfl⟩) l0 rfl rfl ?_
      refine g_fR (c := 11) (k := 0) (x := 1) (pc' := 123) cd_Ho_openSession rfl rfl rfl rfl rfl (by decide) f29_0 g29_0 r29_0 ?_
      refine g_k1 (v := 3) (pc' := 124) cd_Ho_openSession rfl (by decide) rfl ?_
      refine g_ild (pc' := 126) cd_Ho_openSession rfl (Or.inl ⟨rfl, rfl⟩) l9 rfl ?_
      refine g_k1 (v := 0) (pc' := 127) cd_Ho_openSession rfl (by decide) rfl ?_
      refine g_calli (pc' := 130) cd_Ho_openSession rfl rfl rfl rfl rfl (tm_invV rfl rfl cd_Te_mix rfl (Nat.le_of_ble_eq_true rfl) (by decide) f29_1 g29_1) (t_mix (n := 3) hT28 (by omega) ht28 (TI_z hT28) (fun B40 T40 r40 hx40 ht40 => ?_))
      have hT40 := hx40.2.2.1
      have hl40 := hx40.2.1
      have hf40 := (fz_te hx40.2.2.2).1
      have hz40 := fz_te hx40.2.2.2
      have f41_0 := fr_lt hf40 f29_0
      have g41_0 := (fr_K hf40 f29_0).trans g29_0
      have f41_1 := fr_lt hf40 f29_1
      have g41_1 := (fr_K hf40 f29_1).trans g29_1
      have f41_2 := fr_lt hf40 f29_2
      have g41_2 := (fr_K hf40 f29_2).trans g29_2
      have f41_3 := fr_lt hf40 f29_3
      have g41_3 := (fr_K hf40 f29_3).trans g29_3
      have q41_0 : bm_FI B40 0 6 (rb (π 6)) = (bm_FI B1 0 6 (rb (π 6))) := (fr_FI hf40 f29_3 (hnt _ (by omega)) 0 6).trans q29_0
      have r41_0 : bm_FR B40 11 0 0 = some 1 := (fr_FR hf40 f29_0 (hnt _ (by omega)) 11 0).trans r29_0
      have r41_1 : bm_FR B40 11 6 0 = some 21 := (fr_FR hf40 f29_0 (hnt _ (by omega)) 11 6).trans r29_1
      have r41_2 : bm_FR B40 11 11 0 = some (rb (π 6)) := (fr_FR hf40 f29_0 (hnt _ (by omega)) 11 11).trans r29_2
      have u41_0 : bm_AI B40 21 = (bm_AI B1 21) := (fr_AI hf40 f29_2 (hnt _ (by omega))).trans u29_0
      have w41_0 : bm_AL B40 21 = 6 := (fr_AL hf40 f29_2).trans w29_0
      have tv42_0 := tv_mono hx40.1 tv30_0
      have tv42_1 := tv_mono hx40.1 tv30_1
      have tv42_2 := tv_mono hx40.1 tv30_2
      have tv42_3 := tv_mono hx40.1 tv30_3
      have tv42_4 := tv_mono hx40.1 tv30_4
      have tv42_5 := tv_mono hx40.1 tv30_5
      have tv42_6 := tv_mono hx40.1 tv30_6
      have tv42_7 := tv_mono hx40.1 tv30_7
      have tv42_8 := tv_mono hx40.1 tv30_8
      have tv42_9 := tv_mono hx40.1 tv30_9
      have tv42_10 := tv_mono hx40.1 tv30_10
      have tv42_11 := tv_mono hx40.1 ht28
      have Z43 : fz (tcs 1 ca 3 4) B1 B40 := fz_trans Z31 (fz_mono (fun _ q => q) hz40)
      show bm_G _ _ _ 130 _ [.int r40] B40 _
      refine g_pure (pc' := 154) (st' := [.int r40]) cd_Ho_openSession rfl rfl (fun _ _ => rfl) ?_
      refine g_ist (pc' := 156) cd_Ho_openSession rfl (Or.inl ⟨rfl, rfl⟩) (by decide) rfl (fun lv el => ?_)
      have l0 := tm_lk el l0 rfl (by decide)
      have l1 := tm_lk el l1 rfl (by decide)
      have l2 := tm_lk el l2 rfl (by decide)
      have l3 := tm_lk el l3 rfl (by decide)
      have l4 := tm_lk el l4 rfl (by decide)
      have l5 := tm_lk el l5 rfl (by decide)
      have l6 := tm_lk el l6 rfl (by decide)
      have l7 := tm_lk el l7 rfl (by decide)
      have l8 := tm_lk el l8 rfl (by decide)
      have l9 := tm_lk el l9 rfl (by decide)
      have l10 : lv.lookup 10 = some (.int r40) := tm_lks el
      clear el
      have hlen : T40.length ≤ T.length + 11 := by
        try simp only [List.length_append, List.length_cons, List.length_nil] at hl3; try simp only [List.length_append, List.length_cons, List.length_nil] at hl7; try simp only [List.length_append, List.length_cons, List.length_nil] at hl12; try simp only [List.length_append, List.length_cons, List.length_nil] at hl16; try simp only [List.length_append, List.length_cons, List.length_nil] at hl20; try simp only [List.length_append, List.length_cons, List.length_nil] at hl24; try simp only [List.length_append, List.length_cons, List.length_nil] at hl28; try simp only [List.length_append, List.length_cons, List.length_nil] at hl40
        omega
      have hpp := (((((((hx3.1.trans hx7.1).trans hx12.1).trans hx16.1).trans hx20.1).trans hx24.1).trans hx28.1).trans hx40.1)
      have hCk := CK_made hC1 hT40 hpp Z43 (fun y q => Or.inl q)
      have hHk := RH_te hC1 hH1 Z43 hpp
      have hEq : op_ses id (Tsec (nI dr) v 0) (Tsec (nI (dr + 1)) v 2) (ids p) (an_pre dir ids p) (an_once dir p 4 (p * 5 + 1)).1 = ss_bear (ss_start (Tpub (Tsec (nI dr) v 0)) (Tsec (nI (dr + 1)) v 2) (Tmx 3 (Tmx 1 (Tmx 0 (Tsh id (pt (an_pre dir ids p) 0)) (Tsh (Tsec (nI dr) v 0) (pt (Tpub (ids p)) 0))) (Tsh (Tsec (nI dr) v 0) (pt (an_pre dir ids p) 0))) tz) false) (an_pre dir ids p) (an_once dir p 4 (p * 5 + 1)).1 := by unfold op_ses op_root; rw [tnil_iff.mpr hO]; rfl
      rw [hEq] at kk
      exact l_open0 hCk hHk hp eD tv42_0 tv42_1 tv42_4 tv42_5 ht40 rfl rfl kP hO (by omega) (fun B' T' w' q1 q2 q3 q4 q5 => kk B' T' w' hne (hpp.trans q1) (by omega) q3 q4 (fz_trans (fz_trans (fz_mono (fun y q => Or.inr q) hz1) (fz_mono (fun y q => Or.inl (Or.inl q)) Z43)) (fz_mono (fun y q => Or.inl q) q5))) lv l0 l2 l3 l4 l5 l6 l10
  · have c7 : x3 = 0 := Classical.not_not.mp c7
    refine g_pure (pc' := 11) (st' := [.null]) cd_Ho_openSession rfl rfl (fun _ _ => rfl) ?_
    exact g_retr (x := none) cd_Ho_openSession rfl ⟨none, rfl, (kk0 ((TI_0 hC.1 t3).mp c7))⟩
