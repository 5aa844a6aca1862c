/-! A post comes -/
theorem RMe_gv {X : Nat → Prop} {B B' : bm_H} {T T' : List Tm} {m p k : Nat} {w : Nat → Bool} {M : MM} {G : GV} (h : RMe B T m w M) (hp : p < 6) (hk : k < (mgv M p).length) (hf : fr X B B') (n0 : ∀ y, m ≤ y → y < m + 39 → (y < gA m w p k ∨ gA m w p k + 2 < y) → ¬ X y) (hT : T <+: T') (hn : RGv B' T' (gA m w p k) G) : RMe B' T' m w (mm_set M p ((mgv M p).set k G)) := by
  obtain ⟨ve, ma, go, ge, ch, si, ix, ga, sl, gv⟩ := M
  obtain ⟨h1, h2, h3⟩ := h
  have hk2 : k < 2 := by have := (h3 p hp).1.2; omega
  have i0 := gA_in m w hp hk2
  have hM := RMs_fr h1 h2 hf (n0 m (by omega) (by omega) (by omega)) hT
  refine ⟨MeS_fr h1 hf, hM, fun q hq => ?_⟩
  show RGs B' T' m w q (fset gv p ((gv p).set k G) q)
  by_cases c : q = p
  · subst c
    rw [fset_same]
    refine RGs_set h1 hq (h3 q hq) hf (n0 _ (by omega) (by omega) (by omega)) (n0 _ (by omega) (by omega) (by omega)) hk (fun y a b => ?_) hT hn
    have j1 := gA_in m w hq (k := 1 - k) (by omega)
    have j2 := gA_01 m w q
    refine n0 y (by omega) (by omega) ?_
    have hk3 : k = 0 ∨ k = 1 := by omega
    rcases hk3 with rfl | rfl
    · simp at a b; omega
    · simp at a b; omega
  · rw [fset_ne c]
    refine RGs_fr h1 hq (h3 q hq) hf (n0 _ (by omega) (by omega) (by omega)) (n0 _ (by omega) (by omega) (by omega)) (fun k' y hk' a b => ?_) hT
    have j1 := gA_in m w hq hk'
    have j2 := gA_pp m w w c hk' hk2
    exact n0 y (by omega) (by omega) (by omega)
theorem RGv_in {X : Nat → Prop} {B B' : bm_H} {T T' : List Tm} {y : Nat} {G : GV} {I : IB} (h : RGv B T y G) (hf : fr X B B') (n1 : ¬ X y) (hI : RIn B' T' (y + 1) I) : RGv B' T' y (I, G.2.1, G.2.2) := by
  obtain ⟨⟨⟨h1, h2⟩, h3⟩, h4, h5, h6⟩ := h
  exact ⟨⟨⟨fr_lt hf h1, (fr_K hf h1).trans h2⟩, (fr_FS hf h1 1 0 rfl).trans h3⟩, hI, (fr_FI hf h1 n1 1 1).trans h5, (fr_FI hf h1 n1 1 2).trans h6⟩
def gv_find (l : List GV) (b : Int32) : Option (Nat × GV) := match l with
  | [] => none
  | G :: r => if G.2.1 = b then some (0, G) else match r with
    | [] => none
    | G' :: _ => if G'.2.1 = b then some (1, G') else none
theorem gv_find_no {l : List GV} {b : Int32} (h : ∀ (k : Nat) (G : GV), l[k]? = some G → G.2.1 ≠ b) : gv_find l b = none := by
  rcases l with _ | ⟨G, _ | ⟨G', r⟩⟩
  · rfl
  · unfold gv_find; dsimp only; rw [if_neg (h 0 G rfl)]
  · unfold gv_find; dsimp only; rw [if_neg (h 0 G rfl), if_neg (h 1 G' rfl)]
theorem gv_find_at {l : List GV} {b : Int32} {k : Nat} {G : GV} (h2 : l.length ≤ 2) (h : l[k]? = some G) (hb : G.2.1 = b) (hn : ∀ (j : Nat) (G' : GV), j < k → l[j]? = some G' → G'.2.1 ≠ b) : gv_find l b = some (k, G) := by
  rcases len2 h2 with rfl | ⟨a, rfl⟩ | ⟨a, c, rfl⟩
  · simp at h
  · rcases k with _ | k
    · cases h; unfold gv_find; dsimp only; rw [if_pos hb]
    · cases h
  · rcases k with _ | _ | k
    · cases h; unfold gv_find; dsimp only; rw [if_pos hb]
    · cases h; unfold gv_find; dsimp only; rw [if_neg (hn 0 a (by omega) rfl), if_pos hb]
    · cases h
noncomputable def gv_key (I : IB) (ix : Int32) : Option (Tm × IB) := match lf_take I.1 ix I.2.2.2 with
  | some (k, l) => some (k, (I.1, I.2.1, I.2.2.1, l))
  | none => ib_next I ix
/-- the answer, and what becomes of the group -/
noncomputable def tp_spec (A : Tm) (q p : Nat) (M : MM) : Int32 × MM := if p = q then (-11, M) else match gv_find (mgv M p) (nu (pt (pt A 1) 1) 2) with
  | none => (-17, M)
  | some (k, G) => if hbit M.2.1 (nI p) = true then cif ((if kd (pt A 0) = 1 then Tpub (pt A 0) else tz) = G.1.1) (match gv_key G.1 (nu (pt (pt A 1) 1) 3) with
    | none => (-13, M)
    | some (key, I) => cif (key = pt (pt A 1) 0) (if Tgood 4 (pt (pt A 1) 2) = true then (1, mm_set M p ((mgv M p).set k (I, G.2.1, G.2.2))) else (-15, M)) (-14, M)) (-14, M) else (-17, M)
def okI (I : IB) : Prop := ∀ e, e ∈ I.2.2.2 → e.2.2 ≠ tz
theorem lf_take_mem {p : Tm} {ix : Int32} {k : Tm} {r : List (Tm × Int32 × Tm)} : ∀ {l : List (Tm × Int32 × Tm)}, lf_take p ix l = some (k, r) → ∃ e, e ∈ l ∧ e.2.2 = k
  | [], h => by cases h
  | e :: l, h => by
    unfold lf_take at h
    by_cases c : e.1 = p ∧ e.2.1 = ix
    · rw [cif_t c] at h
      cases h
      exact ⟨e, List.mem_cons_self, rfl⟩
    · rw [cif_f c] at h
      cases h2 : lf_take p ix l with
      | none => rw [h2] at h; cases h
      | some r' =>
        rw [h2] at h
        cases h
        obtain ⟨e', h3, h4⟩ := lf_take_mem h2
        exact ⟨e', List.mem_cons_of_mem _ h3, h4⟩
theorem tp_11 {A : Tm} {q p : Nat} {M : MM} (h : p = q) : tp_spec A q p M = (-11, M) := if_pos h
theorem tp_17 {A : Tm} {q p : Nat} {M : MM} (h : p ≠ q) (h2 : gv_find (mgv M p) (nu (pt (pt A 1) 1) 2) = none ∨ hbit M.2.1 (nI p) = false) : tp_spec A q p M = (-17, M) := by
  unfold tp_spec
  rw [if_neg h]
  rcases h2 with h2 | h2
  · rw [h2]
  · cases gv_find (mgv M p) (nu (pt (pt A 1) 1) 2) with
    | none => rfl
    | some r => dsimp only; rw [if_neg (by rw [h2]; decide)]
theorem tp_go {A : Tm} {q p k : Nat} {M : MM} {G : GV} (h : p ≠ q) (h2 : gv_find (mgv M p) (nu (pt (pt A 1) 1) 2) = some (k, G)) (h3 : hbit M.2.1 (nI p) = true) : tp_spec A q p M = cif (α := Int32 × MM) ((if kd (pt A 0) = 1 then Tpub (pt A 0) else tz) = G.1.1) (match gv_key G.1 (nu (pt (pt A 1) 1) 3) with
    | none => (-13, M)
    | some (key, I) => cif (key = pt (pt A 1) 0) (if Tgood 4 (pt (pt A 1) 2) = true then (1, mm_set M p ((mgv M p).set k (I, G.2.1, G.2.2))) else (-15, M)) (-14, M)) (-14, M) := by
  unfold tp_spec
  rw [if_neg h, h2]
  dsimp only
  rw [if_pos h3]
theorem tp_key {A : Tm} {q p k : Nat} {M : MM} {G : GV} {K : Tm} {I : IB} (h : p ≠ q) (h2 : gv_find (mgv M p) (nu (pt (pt A 1) 1) 2) = some (k, G)) (h3 : hbit M.2.1 (nI p) = true) (h4 : (if kd (pt A 0) = 1 then Tpub (pt A 0) else tz) = G.1.1) (h5 : gv_key G.1 (nu (pt (pt A 1) 1) 3) = some (K, I)) : tp_spec A q p M = cif (α := Int32 × MM) (K = pt (pt A 1) 0) (if Tgood 4 (pt (pt A 1) 2) = true then (1, mm_set M p ((mgv M p).set k (I, G.2.1, G.2.2))) else (-15, M)) (-14, M) := by
  rw [tp_go h h2 h3, cif_t h4, h5]
theorem RMs_mk {B : bm_H} {T : List Tm} {m : Nat} {M : MM} (h : RMs B T m M) : bm_FI B 5 3 m = M.2.1 := by
  obtain ⟨ve, ma, go, ge, ch, si, ix, ga, sl, gv⟩ := M
  exact h.1.2.1
set_option maxRecDepth 100000 in
theorem t_takePost {sc : tm_X} {d : Nat} {B : bm_H} {F : Nat → Prop} {N S M ln : Nat} {T : List Tm} {dr : Nat} {K : Tm → Prop} {ca rm kc kl rk : Nat} {ws : List (Tm × Int32)} {wt : List Tm} {L : List LT} {bd ll tc tl tf tg : Nat → Int32} {cf cg : Int32} {ct : Tm} {co : Bool} {li fo db : Int32} {ids dir reg : Nat → Tm} {seen : List Tm} {π : Nat → Nat} {w : Nat → SW} {dev : Nat → DV} {sto : Nat → ST} {id : Tm} {K0 K1 : PK} {on : List (Tm × Int32)} {lnu : Int32} {se : Nat → List SS} {me : Nat → MM} {q p g : Nat} {x : Int32} {A : Tm} {Q : Int32 → bm_H → Prop} (hC : CK B F N S M ln T dr K ca rm kc kl rk) (hH : RH B T ws wt (L, bd, ll, tc, tl, tf, tg, cf, cg, ct, co, li, fo, db) ids dir reg seen π w dev sto) (hq : q < 6) (hp : p < 6) (hg : g < 4) (eg : nu (pt (pt A 1) 1) 0 = nI g) (ep : nu (pt (pt A 1) 1) 1 = nI p) (eD : dev 6 = (id, K0, K1, on, lnu, se, me)) (hokI : ∀ (k : Nat) (G : GV), (mgv (me g) p)[k]? = some G → okI G.1) (hx : tv T x A) (hM : T.length + 13 < M) (kk : ∀ B' T' w' D' G', T <+: T' → T'.length ≤ T.length + 12 → ((tp_spec A q p (me g)).1 = 1 → D' = (id, K0, K1, on, lnu, se, fset me g (tp_spec A q p (me g)).2)) → ((tp_spec A q p (me g)).1 = 1 → ∃ k Gv, gv_find (mgv (me g) p) (nu (pt (pt A 1) 1) 2) = some (k, Gv) ∧ G' = (L, bd, ll, tc, tl, tf, tg, nI p, nI g, pt (pt (pt A 1) 2) 0, Gv.2.2, li, fo, db)) → ((tp_spec A q p (me g)).1 ≠ 1 → G' = (L, bd, ll, tc, tl, tf, tg, cf, cg, ct, co, li, fo, db)) → CK B' F N S M ln T' dr K ca rm kc kl rk → RH B' T' ws wt G' ids dir reg seen π (fset w 6 w') (fset dev 6 D') sto → fr (fun y => ¬ F y) B B' → Q (tp_spec A q p (me g)).1 B') : bm_Gi sc (d + 5) 123 [.ref 0, .int (nI q), .int x] B Q := by
  obtain ⟨hM0, hAR, hnt, r6a, r6b⟩ := mem_at hC hH hg eD
  have hW9 := hH.2.2.2.2.1.2.2.2.2 6 (by decide)
  rw [eD] at hW9
  have hrm := hC.2.2.2.2.1.2
  have hH0 : RH B T ws wt (L, bd, ll, tc, tl, tf, tg, cf, cg, ct, co, li, fo, db) ids dir reg seen π (fset w 6 (w 6)) (fset dev 6 (id, K0, K1, on, lnu, se, me)) sto := by rw [fset_eta, ← eD, fset_eta]; exact hH
  have hmk := RMs_mk hM0.2.1
  have kE : ∀ e : Int32, e ≠ 1 → (tp_spec A q p (me g)).1 = e → Q e B := fun e he h => h ▸ kk B T (w 6) (id, K0, K1, on, lnu, se, me) (L, bd, ll, tc, tl, tf, tg, cf, cg, ct, co, li, fo, db) (List.prefix_refl T) (by omega) (fun q => absurd (h.symm.trans q) he) (fun q => absurd (h.symm.trans q) he) (fun _ => rfl) hC hH0 (fr_rfl _ B)
  show bm_G sc (d + 5) 123 0 [(0, .ref 0), (1, .int (nI q)), (2, .int x)] [] B _
  generalize elv : ([(0, .ref 0), (1, .int (nI q)), (2, .int x)] : tm_L) = lv
  have l0 : lv.lookup 0 = some (.ref 0) := by rw [← elv]; rfl
  have l1 : lv.lookup 1 = some (.int (nI q)) := by rw [← elv]; rfl
  have l2 : lv.lookup 2 = some (.int x) := by rw [← elv]; rfl
  clear elv
  refine g_ald (pc' := 1) cd_Ho_takePost rfl (Or.inr ⟨_, rfl, rfl, rfl⟩) l0 rfl rfl ?_
  refine g_fR (c := 11) (k := 0) (x := 1) (pc' := 4) cd_Ho_takePost rfl rfl rfl rfl rfl (by decide) hH.1.1.1 hH.1.1.2 hH.1.2.1.1 ?_
  refine g_ild (pc' := 5) cd_Ho_takePost rfl (Or.inr ⟨_, rfl, rfl, rfl⟩) l2 rfl ?_
  refine g_k1 (v := 1) (pc' := 6) cd_Ho_takePost rfl (by decide) rfl ?_
  refine g_calli (pc' := 9) cd_Ho_takePost rfl rfl rfl rfl rfl (tm_invV rfl rfl cd_Te_partOf rfl (Nat.le_of_ble_eq_true rfl) (by decide) hC.1.1.1.1 hC.1.1.1.2) (t_partOf (i := 1) hC.1 hx (by decide) (fun r1 ht1 => ?_))
  show bm_G _ _ _ 9 _ [.int r1] B _
  refine g_ist (pc' := 10) cd_Ho_takePost rfl (Or.inr ⟨_, rfl, rfl, rfl⟩) (by decide) rfl (fun lv el => ?_)
  have l0 := tm_lk el l0 rfl (by decide)
  have l1 := tm_lk el l1 rfl (by decide)
  have l2 := tm_lk el l2 rfl (by decide)
  have l3 : lv.lookup 3 = some (.int r1) := tm_lks el
  clear el
  refine g_ald (pc' := 11) cd_Ho_takePost rfl (Or.inr ⟨_, rfl, rfl, rfl⟩) l0 rfl rfl ?_
  refine g_fR (c := 11) (k := 0) (x := 1) (pc' := 14) cd_Ho_takePost rfl rfl rfl rfl rfl (by decide) hH.1.1.1 hH.1.1.2 hH.1.2.1.1 ?_
  refine g_ild (pc' := 15) cd_Ho_takePost rfl (Or.inr ⟨_, rfl, rfl, rfl⟩) l3 rfl ?_
  refine g_k1 (v := 1) (pc' := 16) cd_Ho_takePost rfl (by decide) rfl ?_
  refine g_calli (pc' := 19) cd_Ho_takePost rfl rfl rfl rfl rfl (tm_invV rfl rfl cd_Te_partOf rfl (Nat.le_of_ble_eq_true rfl) (by decide) hC.1.1.1.1 hC.1.1.1.2) (t_partOf (i := 1) hC.1 ht1 (by decide) (fun r2 ht2 => ?_))
  show bm_G _ _ _ 19 _ [.int r2] B _
  refine g_ist (pc' := 21) cd_Ho_takePost rfl (Or.inl ⟨rfl, rfl⟩) (by decide) rfl (fun lv el => ?_)
  have l0 := tm_lk el l0 rfl (by decide)
  have l1 := tm_lk el l1 rfl (by decide)
  have l2 := tm_lk el l2 rfl (by decide)
  have l3 := tm_lk el l3 rfl (by decide)
  have l4 : lv.lookup 4 = some (.int r2) := tm_lks el
  clear el
  refine g_ald (pc' := 22) cd_Ho_takePost rfl (Or.inr ⟨_, rfl, rfl, rfl⟩) l0 rfl rfl ?_
  refine g_fR (c := 11) (k := 0) (x := 1) (pc' := 25) cd_Ho_takePost rfl rfl rfl rfl rfl (by decide) hH.1.1.1 hH.1.1.2 hH.1.2.1.1 ?_
  refine g_ild (pc' := 27) cd_Ho_takePost rfl (Or.inl ⟨rfl, rfl⟩) l4 rfl ?_
  refine g_k1 (v := 0) (pc' := 28) cd_Ho_takePost rfl (by decide) rfl ?_
  refine g_calli (pc' := 31) cd_Ho_takePost rfl rfl rfl rfl rfl (tm_invV rfl rfl cd_Te_numberOf rfl (Nat.le_of_ble_eq_true rfl) (by decide) hC.1.1.1.1 hC.1.1.1.2) (t_numberOf (i := 0) hC.1 ht2 (by decide) ?_)
  rw [eg]
  show bm_G _ _ _ 31 _ [.int (nI g)] B _
  refine g_ist (pc' := 33) cd_Ho_takePost rfl (Or.inl ⟨rfl, rfl⟩) (by decide) rfl (fun lv el => ?_)
  have l0 := tm_lk el l0 rfl (by decide)
  have l1 := tm_lk el l1 rfl (by decide)
  have l2 := tm_lk el l2 rfl (by decide)
  have l3 := tm_lk el l3 rfl (by decide)
  have l4 := tm_lk el l4 rfl (by decide)
  have l5 : lv.lookup 5 = some (.int (nI g)) := tm_lks el
  clear el
  refine g_ald (pc' := 34) cd_Ho_takePost rfl (Or.inr ⟨_, rfl, rfl, rfl⟩) l0 rfl rfl ?_
  refine g_fR (c := 11) (k := 0) (x := 1) (pc' := 37) cd_Ho_takePost rfl rfl rfl rfl rfl (by decide) hH.1.1.1 hH.1.1.2 hH.1.2.1.1 ?_
  refine g_ild (pc' := 39) cd_Ho_takePost rfl (Or.inl ⟨rfl, rfl⟩) l4 rfl ?_
  refine g_k1 (v := 1) (pc' := 40) cd_Ho_takePost rfl (by decide) rfl ?_
  refine g_calli (pc' := 43) cd_Ho_takePost rfl rfl rfl rfl rfl (tm_invV rfl rfl cd_Te_numberOf rfl (Nat.le_of_ble_eq_true rfl) (by decide) hC.1.1.1.1 hC.1.1.1.2) (t_numberOf (i := 1) hC.1 ht2 (by decide) ?_)
  rw [ep]
  show bm_G _ _ _ 43 _ [.int (nI p)] B _
  refine g_ist (pc' := 45) cd_Ho_takePost rfl (Or.inl ⟨rfl, rfl⟩) (by decide) rfl (fun lv el => ?_)
  have l0 := tm_lk el l0 rfl (by decide)
  have l1 := tm_lk el l1 rfl (by decide)
  have l2 := tm_lk el l2 rfl (by decide)
  have l3 := tm_lk el l3 rfl (by decide)
  have l4 := tm_lk el l4 rfl (by decide)
  have l5 := tm_lk el l5 rfl (by decide)
  have l6 : lv.lookup 6 = some (.int (nI p)) := tm_lks el
  clear el
  refine g_ild (pc' := 47) cd_Ho_takePost rfl (Or.inl ⟨rfl, rfl⟩) l6 rfl ?_
  refine g_ild (pc' := 48) cd_Ho_takePost rfl (Or.inr ⟨_, rfl, rfl, rfl⟩) l1 rfl ?_
  refine g_if2 (t := 54) (pc' := 51) cd_Ho_takePost rfl rfl rfl (fun c48 => ?_) (fun c48 => ?_)
  · have c48 : ¬ (nI p) = (nI q) := c48
    refine g_ald (pc' := 55) cd_Ho_takePost rfl (Or.inr ⟨_, rfl, rfl, rfl⟩) l0 rfl rfl ?_
    refine g_fR (c := 11) (k := 11) (x := (rb (π 6))) (pc' := 58) cd_Ho_takePost rfl rfl rfl rfl rfl (by decide) hH.1.1.1 hH.1.1.2 hH.2.2.2.2.1.2.1 ?_
    refine g_fR (c := 0) (k := 5) (x := (rb (π 6) + 10)) (pc' := 61) cd_Ho_takePost rfl rfl rfl rfl rfl (by decide) (RDe_K (hH.2.2.2.2.1.2.2.2.2 6 (by decide))).1 (RDe_K (hH.2.2.2.2.1.2.2.2.2 6 (by decide))).2 hW9.1.2.1.2.2.2.2.2 ?_
    refine g_ild (pc' := 63) cd_Ho_takePost rfl (Or.inl ⟨rfl, rfl⟩) l5 rfl ?_
    refine g_aR (t := 6) (x := (rb (π 6) + 47 + 39 * g)) (pc' := 64) cd_Ho_takePost rfl rfl hW9.1.2.2.2.2.2.2.2.1 hW9.1.2.2.2.2.2.2.2.2.1 (by decide) rfl rfl (by rw [show bm_AL B (rb (π 6) + 10) = 4 from hW9.1.2.2.2.2.2.2.2.2.2]; exact vp_in_nI (by omega) (by decide)) (by rw [nI_clamp (by omega)]; exact hAR) ?_
    refine g_ast (pc' := 66) cd_Ho_takePost rfl (Or.inl ⟨rfl, rfl⟩) rfl (by decide) rfl (fun lv el => ?_)
    have l0 := tm_lk el l0 rfl (by decide)
    have l1 := tm_lk el l1 rfl (by decide)
    have l2 := tm_lk el l2 rfl (by decide)
    have l3 := tm_lk el l3 rfl (by decide)
    have l4 := tm_lk el l4 rfl (by decide)
    have l5 := tm_lk el l5 rfl (by decide)
    have l6 := tm_lk el l6 rfl (by decide)
    have l7 : lv.lookup 7 = some (.ref ((rb (π 6) + 47 + 39 * g))) := tm_lks el
    clear el
    refine g_ald (pc' := 68) cd_Ho_takePost rfl (Or.inl ⟨rfl, rfl⟩) l7 rfl rfl ?_
    refine g_ild (pc' := 70) cd_Ho_takePost rfl (Or.inl ⟨rfl, rfl⟩) l6 rfl ?_
    refine g_ald (pc' := 71) cd_Ho_takePost rfl (Or.inr ⟨_, rfl, rfl, rfl⟩) l0 rfl rfl ?_
    refine g_fR (c := 11) (k := 0) (x := 1) (pc' := 74) cd_Ho_takePost rfl rfl rfl rfl rfl (by decide) hH.1.1.1 hH.1.1.2 hH.1.2.1.1 ?_
    refine g_ild (pc' := 76) cd_Ho_takePost rfl (Or.inl ⟨rfl, rfl⟩) l4 rfl ?_
    refine g_k1 (v := 2) (pc' := 77) cd_Ho_takePost rfl (by decide) rfl ?_
    refine g_calli (pc' := 80) cd_Ho_takePost rfl rfl rfl rfl rfl (tm_invV rfl rfl cd_Te_numberOf rfl (Nat.le_of_ble_eq_true rfl) (by decide) hC.1.1.1.1 hC.1.1.1.2) (t_numberOf (i := 2) hC.1 ht2 (by decide) ?_)
    show bm_G _ _ _ 80 _ [.int (nu (pt (pt A 1) 1) 2), .int (nI p), .ref ((rb (π 6) + 47 + 39 * g))] B _
    refine g_callr (pc' := 83) cd_Ho_takePost rfl rfl rfl rfl rfl (tm_invV rfl rfl cd_Me_find rfl (Nat.le_of_ble_eq_true rfl) (by decide) hM0.1.1.1 hM0.1.1.2) (t_find hM0 hp (fun hno => ?_) (fun k G0 hk hb hno => ?_))
    · skip
      show bm_G _ _ _ 83 _ [.null] B _
      refine g_ast (pc' := 85) cd_Ho_takePost rfl (Or.inl ⟨rfl, rfl⟩) rfl (by decide) rfl (fun lv el => ?_)
      have l0 := tm_lk el l0 rfl (by decide)
      have l1 := tm_lk el l1 rfl (by decide)
      have l2 := tm_lk el l2 rfl (by decide)
      have l3 := tm_lk el l3 rfl (by decide)
      have l4 := tm_lk el l4 rfl (by decide)
      have l5 := tm_lk el l5 rfl (by decide)
      have l6 := tm_lk el l6 rfl (by decide)
      have l7 := tm_lk el l7 rfl (by decide)
      have l8 : lv.lookup 8 = some (.null) := tm_lks el
      clear el
      refine g_ald (pc' := 87) cd_Ho_takePost rfl (Or.inl ⟨rfl, rfl⟩) l7 rfl rfl ?_
      refine g_fI (c := 5) (k := 3) (x := ((me g).2.1)) (pc' := 90) cd_Ho_takePost rfl rfl rfl rfl rfl (by decide) hM0.1.1.1 hM0.1.1.2 hmk ?_
      refine g_ild (pc' := 92) cd_Ho_takePost rfl (Or.inl ⟨rfl, rfl⟩) l6 rfl ?_
      refine g_calli (pc' := 95) cd_Ho_takePost rfl rfl rfl rfl rfl (tm_invS rfl rfl cd_Ho_hasBit rfl (Nat.le_of_ble_eq_true rfl)) (t_hasBit ?_)
      show bm_G _ _ _ 95 _ [.int (bz (hbit (me g).2.1 (nI p)))] B _
      refine g_if1 (t := 103) (pc' := 98) cd_Ho_takePost rfl rfl rfl (fun c95 => ?_) (fun c95 => ?_)
      · have c95 : (hbit (me g).2.1 (nI p)) = false := bz_f c95
        refine g_k2 (v := (-17)) (pc' := 105) cd_Ho_takePost rfl (by decide) rfl ?_
        exact g_reti cd_Ho_takePost rfl ⟨_, rfl, (kE _ (by decide) (by rw [tp_17 (fun e => c48 (by rw [e])) (Or.inl (gv_find_no hno))]))⟩
      · have c95 : (hbit (me g).2.1 (nI p)) = true := bz_t c95
        refine g_ald (pc' := 100) cd_Ho_takePost rfl (Or.inl ⟨rfl, rfl⟩) l8 rfl rfl ?_
        refine g_nnF (t := 106) (pc' := 103) cd_Ho_takePost rfl rfl rfl ?_
        refine g_k2 (v := (-17)) (pc' := 105) cd_Ho_takePost rfl (by decide) rfl ?_
        exact g_reti cd_Ho_takePost rfl ⟨_, rfl, (kE _ (by decide) (by rw [tp_17 (fun e => c48 (by rw [e])) (Or.inl (gv_find_no hno))]))⟩
    · skip
      have hfi := gv_find_at (hM0.2.2 p hp).1.2 hk hb hno
      obtain ⟨hk2, hG0, hGR⟩ := RGs_get (hM0.2.2 p hp) hk
      have hkl := (List.getElem?_eq_some_iff.mp hk).1
      have isl := gA_in (rb (π 6) + 47 + 39 * g) ((w 6).2.2 g) hp hk2
      have hI0 := hokI k G0 hk
      show bm_G _ _ _ 83 _ [.ref ((gA (rb (π 6) + 47 + 39 * g) ((w 6).2.2 g) p k))] B _
      refine g_ast (pc' := 85) cd_Ho_takePost rfl (Or.inl ⟨rfl, rfl⟩) rfl (by decide) rfl (fun lv el => ?_)
      have l0 := tm_lk el l0 rfl (by decide)
      have l1 := tm_lk el l1 rfl (by decide)
      have l2 := tm_lk el l2 rfl (by decide)
      have l3 := tm_lk el l3 rfl (by decide)
      have l4 := tm_lk el l4 rfl (by decide)
      have l5 := tm_lk el l5 rfl (by decide)
      have l6 := tm_lk el l6 rfl (by decide)
      have l7 := tm_lk el l7 rfl (by decide)
      have l8 : lv.lookup 8 = some (.ref ((gA (rb (π 6) + 47 + 39 * g) ((w 6).2.2 g) p k))) := tm_lks el
      clear el
      refine g_ald (pc' := 87) cd_Ho_takePost rfl (Or.inl ⟨rfl, rfl⟩) l7 rfl rfl ?_
      refine g_fI (c := 5) (k := 3) (x := ((me g).2.1)) (pc' := 90) cd_Ho_takePost rfl rfl rfl rfl rfl (by decide) hM0.1.1.1 hM0.1.1.2 hmk ?_
      refine g_ild (pc' := 92) cd_Ho_takePost rfl (Or.inl ⟨rfl, rfl⟩) l6 rfl ?_
      refine g_calli (pc' := 95) cd_Ho_takePost rfl rfl rfl rfl rfl (tm_invS rfl rfl cd_Ho_hasBit rfl (Nat.le_of_ble_eq_true rfl)) (t_hasBit ?_)
      show bm_G _ _ _ 95 _ [.int (bz (hbit (me g).2.1 (nI p)))] B _
      refine g_if1 (t := 103) (pc' := 98) cd_Ho_takePost rfl rfl rfl (fun c95 => ?_) (fun c95 => ?_)
      · have c95 : (hbit (me g).2.1 (nI p)) = false := bz_f c95
        refine g_k2 (v := (-17)) (pc' := 105) cd_Ho_takePost rfl (by decide) rfl ?_
        exact g_reti cd_Ho_takePost rfl ⟨_, rfl, (kE _ (by decide) (by rw [tp_17 (fun e => c48 (by rw [e])) (Or.inr c95)]))⟩
      · have c95 : (hbit (me g).2.1 (nI p)) = true := bz_t c95
        refine g_ald (pc' := 100) cd_Ho_takePost rfl (Or.inl ⟨rfl, rfl⟩) l8 rfl rfl ?_
        refine g_nnT (t := 106) cd_Ho_takePost rfl rfl ?_
        refine g_ald (pc' := 107) cd_Ho_takePost rfl (Or.inr ⟨_, rfl, rfl, rfl⟩) l0 rfl rfl ?_
        refine g_fR (c := 11) (k := 0) (x := 1) (pc' := 110) cd_Ho_takePost rfl rfl rfl rfl rfl (by decide) hH.1.1.1 hH.1.1.2 hH.1.2.1.1 ?_
        refine g_ald (pc' := 111) cd_Ho_takePost rfl (Or.inr ⟨_, rfl, rfl, rfl⟩) l0 rfl rfl ?_
        refine g_fR (c := 11) (k := 0) (x := 1) (pc' := 114) cd_Ho_takePost rfl rfl rfl rfl rfl (by decide) hH.1.1.1 hH.1.1.2 hH.1.2.1.1 ?_
        refine g_ild (pc' := 115) cd_Ho_takePost rfl (Or.inr ⟨_, rfl, rfl, rfl⟩) l2 rfl ?_
        refine g_k1 (v := 0) (pc' := 116) cd_Ho_takePost rfl (by decide) rfl ?_
        refine g_calli (pc' := 119) cd_Ho_takePost rfl rfl rfl rfl rfl (tm_invV rfl rfl cd_Te_partOf rfl (Nat.le_of_ble_eq_true rfl) (by decide) hC.1.1.1.1 hC.1.1.1.2) (t_partOf (i := 0) hC.1 hx (by decide) (fun r3 ht3 => ?_))
        show bm_G _ _ _ 119 _ [.int r3, .ref 1] B _
        refine g_calli (pc' := 122) cd_Ho_takePost rfl rfl rfl rfl rfl (tm_invV rfl rfl cd_Te_publicOf rfl (Nat.le_of_ble_eq_true rfl) (by decide) hC.1.1.1.1 hC.1.1.1.2) (t_publicOf hC.1 ht3 (fun rp hpb => ?_))
        show bm_G _ _ _ 122 _ [.int rp] B _
        refine g_ald (pc' := 124) cd_Ho_takePost rfl (Or.inl ⟨rfl, rfl⟩) l8 rfl rfl ?_
        refine g_fR (c := 1) (k := 0) (x := ((gA (rb (π 6) + 47 + 39 * g) ((w 6).2.2 g) p k) + 1)) (pc' := 127) cd_Ho_takePost rfl rfl rfl rfl rfl (by decide) hG0.1.1.1 hG0.1.1.2 hG0.1.2 ?_
        refine g_fI (c := 2) (k := 2) (x := (bm_FI B 2 2 ((gA (rb (π 6) + 47 + 39 * g) ((w 6).2.2 g) p k) + 1))) (pc' := 130) cd_Ho_takePost rfl rfl rfl rfl rfl (by decide) hG0.2.1.1.1.1 hG0.2.1.1.1.2 rfl ?_
        refine g_if2 (t := 136) (pc' := 133) cd_Ho_takePost rfl rfl rfl (fun c130 => ?_) (fun c130 => ?_)
        · have c130 : rp = (bm_FI B 2 2 ((gA (rb (π 6) + 47 + 39 * g) ((w 6).2.2 g) p k) + 1)) := c130
          refine g_ald (pc' := 137) cd_Ho_takePost rfl (Or.inr ⟨_, rfl, rfl, rfl⟩) l0 rfl rfl ?_
          refine g_fR (c := 11) (k := 0) (x := 1) (pc' := 140) cd_Ho_takePost rfl rfl rfl rfl rfl (by decide) hH.1.1.1 hH.1.1.2 hH.1.2.1.1 ?_
          refine g_ild (pc' := 142) cd_Ho_takePost rfl (Or.inl ⟨rfl, rfl⟩) l4 rfl ?_
          refine g_k1 (v := 3) (pc' := 143) cd_Ho_takePost rfl (by decide) rfl ?_
          refine g_calli (pc' := 146) cd_Ho_takePost rfl rfl rfl rfl rfl (tm_invV rfl rfl cd_Te_numberOf rfl (Nat.le_of_ble_eq_true rfl) (by decide) hC.1.1.1.1 hC.1.1.1.2) (t_numberOf (i := 3) hC.1 ht2 (by decide) ?_)
          show bm_G _ _ _ 146 _ [.int (nu (pt (pt A 1) 1) 3)] B _
          refine g_ist (pc' := 148) cd_Ho_takePost rfl (Or.inl ⟨rfl, rfl⟩) (by decide) rfl (fun lv el => ?_)
          have l0 := tm_lk el l0 rfl (by decide)
          have l1 := tm_lk el l1 rfl (by decide)
          have l2 := tm_lk el l2 rfl (by decide)
          have l3 := tm_lk el l3 rfl (by decide)
          have l4 := tm_lk el l4 rfl (by decide)
          have l5 := tm_lk el l5 rfl (by decide)
          have l6 := tm_lk el l6 rfl (by decide)
          have l7 := tm_lk el l7 rfl (by decide)
          have l8 := tm_lk el l8 rfl (by decide)
          have l9 : lv.lookup 9 = some (.int (nu (pt (pt A 1) 1) 3)) := tm_lks el
          clear el
          refine g_ald (pc' := 150) cd_Ho_takePost rfl (Or.inl ⟨rfl, rfl⟩) l8 rfl rfl ?_
          refine g_fR (c := 1) (k := 0) (x := ((gA (rb (π 6) + 47 + 39 * g) ((w 6).2.2 g) p k) + 1)) (pc' := 153) cd_Ho_takePost rfl rfl rfl rfl rfl (by decide) hG0.1.1.1 hG0.1.1.2 hG0.1.2 ?_
          refine g_ald (pc' := 155) cd_Ho_takePost rfl (Or.inl ⟨rfl, rfl⟩) l8 rfl rfl ?_
          refine g_fR (c := 1) (k := 0) (x := ((gA (rb (π 6) + 47 + 39 * g) ((w 6).2.2 g) p k) + 1)) (pc' := 158) cd_Ho_takePost rfl rfl rfl rfl rfl (by decide) hG0.1.1.1 hG0.1.1.2 hG0.1.2 ?_
          refine g_fI (c := 2) (k := 2) (x := (bm_FI B 2 2 ((gA (rb (π 6) + 47 + 39 * g) ((w 6).2.2 g) p k) + 1))) (pc' := 161) cd_Ho_takePost rfl rfl rfl rfl rfl (by decide) hG0.2.1.1.1.1 hG0.2.1.1.1.2 rfl ?_
          refine g_ild (pc' := 163) cd_Ho_takePost rfl (Or.inl ⟨rfl, rfl⟩) l9 rfl ?_
          refine g_calli (pc' := 166) cd_Ho_takePost rfl rfl rfl rfl rfl (tm_invV rfl rfl cd_In_takeLeft rfl (Nat.le_of_ble_eq_true rfl) (by decide) hG0.2.1.1.1.1 hG0.2.1.1.1.2) (t_takeLeft hC.1 hG0.2.1 hG0.2.1.2.2.1.1 (fun hlf => ?_) (fun Kt lt B1 xk9 hlf htk9 hI1 hz1 => ?_))
          · skip
            show bm_G _ _ _ 166 _ [.int 0] B _
            refine g_ist (pc' := 168) cd_Ho_takePost rfl (Or.inl ⟨rfl, rfl⟩) (by decide) rfl (fun lv el => ?_)
            have l0 := tm_lk el l0 rfl (by decide)
            have l1 := tm_lk el l1 rfl (by decide)
            have l2 := tm_lk el l2 rfl (by decide)
            have l3 := tm_lk el l3 rfl (by decide)
            have l4 := tm_lk el l4 rfl (by decide)
            have l5 := tm_lk el l5 rfl (by decide)
            have l6 := tm_lk el l6 rfl (by decide)
            have l7 := tm_lk el l7 rfl (by decide)
            have l8 := tm_lk el l8 rfl (by decide)
            have l9 := tm_lk el l9 rfl (by decide)
            have l10 : lv.lookup 10 = some (.int 0) := tm_lks el
            clear el
            refine g_ild (pc' := 170) cd_Ho_takePost rfl (Or.inl ⟨rfl, rfl⟩) l10 rfl ?_
            refine g_if1 (t := 189) (pc' := 173) cd_Ho_takePost rfl rfl rfl (fun c170 => ?_) (fun c170 => ?_)
            · exact absurd (show ¬ (0 : Int32) = 0 from c170) (by decide)
            · have c170 : (0 : Int32) = 0 := Classical.not_not.mp c170
              refine g_ald (pc' := 175) cd_Ho_takePost rfl (Or.inl ⟨rfl, rfl⟩) l8 rfl rfl ?_
              refine g_fR (c := 1) (k := 0) (x := ((gA (rb (π 6) + 47 + 39 * g) ((w 6).2.2 g) p k) + 1)) (pc' := 178) cd_Ho_takePost rfl rfl rfl rfl rfl (by decide) hG0.1.1.1 hG0.1.1.2 hG0.1.2 ?_
              refine g_ald (pc' := 179) cd_Ho_takePost rfl (Or.inr ⟨_, rfl, rfl, rfl⟩) l0 rfl rfl ?_
              refine g_fR (c := 11) (k := 0) (x := 1) (pc' := 182) cd_Ho_takePost rfl rfl rfl rfl rfl (by decide) hH.1.1.1 hH.1.1.2 hH.1.2.1.1 ?_
              refine g_ild (pc' := 184) cd_Ho_takePost rfl (Or.inl ⟨rfl, rfl⟩) l9 rfl ?_
              refine g_calli (pc' := 187) cd_Ho_takePost rfl rfl rfl rfl rfl (tm_invV rfl rfl cd_In_nextKey rfl (Nat.le_of_ble_eq_true rfl) (by decide) hG0.2.1.1.1.1 hG0.2.1.1.1.2) (t_nextKey hC.1 hG0.2.1 (by omega) (hnt _ (by omega) (by omega)) (hnt _ (by omega) (by omega)) (fun hnk => ?_) (fun Kt J B1 T1 xk9 hnk hp1 hl1 hT1 htk9 hKn hI1 hz1 => ?_))
              · skip
                show bm_G _ _ _ 187 _ [.int 0] B _
                refine g_ist (pc' := 189) cd_Ho_takePost rfl (Or.inl ⟨rfl, rfl⟩) (by decide) rfl (fun lv el => ?_)
                have l0 := tm_lk el l0 rfl (by decide)
                have l1 := tm_lk el l1 rfl (by decide)
                have l2 := tm_lk el l2 rfl (by decide)
                have l3 := tm_lk el l3 rfl (by decide)
                have l4 := tm_lk el l4 rfl (by decide)
                have l5 := tm_lk el l5 rfl (by decide)
                have l6 := tm_lk el l6 rfl (by decide)
                have l7 := tm_lk el l7 rfl (by decide)
                have l8 := tm_lk el l8 rfl (by decide)
                have l9 := tm_lk el l9 rfl (by decide)
                have l10 : lv.lookup 10 = some (.int 0) := tm_lks el
                clear el
                refine g_ild (pc' := 191) cd_Ho_takePost rfl (Or.inl ⟨rfl, rfl⟩) l10 rfl ?_
                refine g_if1 (t := 197) (pc' := 194) cd_Ho_takePost rfl rfl rfl (fun c191 => ?_) (fun c191 => ?_)
                · exact absurd (show ¬ (0 : Int32) = 0 from c191) (by decide)
                · have c191 : (0 : Int32) = 0 := Classical.not_not.mp c191
                  refine g_k2 (v := (-13)) (pc' := 196) cd_Ho_takePost rfl (by decide) rfl ?_
                  exact g_reti cd_Ho_takePost rfl ⟨_, rfl, (kE _ (by decide) (by rw [tp_go (fun e => c48 (by rw [e])) hfi c95, cif_t ((TI_eq hC.1 hpb hG0.2.1.2.2.1.1).mp c130), show gv_key G0.1 (nu (pt (pt A 1) 1) 3) = none from by unfold gv_key; rw [hlf]; exact hnk]))⟩
              · skip
                have hkey : gv_key G0.1 (nu (pt (pt A 1) 1) 3) = some (Kt, J) := by unfold gv_key; rw [hlf]; exact hnk
                have hGv := RGv_in hG0 hz1.1 (fun q => q.elim (hnt _ (by omega) (by omega)) (by omega)) hI1
                have hMn := RMe_gv hM0 hp hkl hz1.1 (fun y a b cc q => q.elim (hnt _ (by omega) (by omega)) (by omega)) hp1 hGv
                obtain ⟨hC1, hH1, hy1⟩ := RH_mem hC hH hg eD hT1 hz1 (fun y q => q.elim Or.inl (fun q => Or.inr (by omega))) hp1 hMn
                have hf1 : fr (fun y => ¬ F y) B B1 := fr_mono (fun y q => q.elim (nF_tcs hC) (fun q => nF_lo hC (by omega))) hy1.1
                show bm_G _ _ _ 187 _ [.int xk9] B1 _
                refine g_ist (pc' := 189) cd_Ho_takePost rfl (Or.inl ⟨rfl, rfl⟩) (by decide) rfl (fun lv el => ?_)
                have l0 := tm_lk el l0 rfl (by decide)
                have l1 := tm_lk el l1 rfl (by decide)
                have l2 := tm_lk el l2 rfl (by decide)
                have l3 := tm_lk el l3 rfl (by decide)
                have l4 := tm_lk el l4 rfl (by decide)
                have l5 := tm_lk el l5 rfl (by decide)
                have l6 := tm_lk el l6 rfl (by decide)
                have l7 := tm_lk el l7 rfl (by decide)
                have l8 := tm_lk el l8 rfl (by decide)
                have l9 := tm_lk el l9 rfl (by decide)
                have l10 : lv.lookup 10 = some (.int xk9) := tm_lks el
                clear el
                refine g_ild (pc' := 191) cd_Ho_takePost rfl (Or.inl ⟨rfl, rfl⟩) l10 rfl ?_
                refine g_if1 (t := 197) (pc' := 194) cd_Ho_takePost rfl rfl rfl (fun c191 => ?_) (fun c191 => ?_)
                · have c191 : ¬ xk9 = 0 := c191
                  refine g_ild (pc' := 199) cd_Ho_takePost rfl (Or.inl ⟨rfl, rfl⟩) l10 rfl ?_
                  refine g_ald (pc' := 200) cd_Ho_takePost rfl (Or.inr ⟨_, rfl, rfl, rfl⟩) l0 rfl rfl ?_
                  refine g_fR (c := 11) (k := 0) (x := 1) (pc' := 203) cd_Ho_takePost rfl rfl rfl rfl rfl (by decide) hH1.1.1.1 hH1.1.1.2 hH1.1.2.1.1 ?_
                  refine g_ild (pc' := 204) cd_Ho_takePost rfl (Or.inr ⟨_, rfl, rfl, rfl⟩) l3 rfl ?_
                  refine g_k1 (v := 0) (pc' := 205) cd_Ho_takePost rfl (by decide) rfl ?_
                  refine g_calli (pc' := 208) cd_Ho_takePost rfl rfl rfl rfl rfl (tm_invV rfl rfl cd_Te_partOf rfl (Nat.le_of_ble_eq_true rfl) (by decide) hC1.1.1.1.1 hC1.1.1.1.2) (t_partOf (i := 0) hC1.1 (tv_mono hp1 ht1) (by decide) (fun r4 ht4 => ?_))
                  show bm_G _ _ _ 208 _ [.int r4, .int xk9] B1 _
                  refine g_if2 (t := 214) (pc' := 211) cd_Ho_takePost rfl rfl rfl (fun c208 => ?_) (fun c208 => ?_)
                  · have c208 : xk9 = r4 := c208
                    refine g_ald (pc' := 215) cd_Ho_takePost rfl (Or.inr ⟨_, rfl, rfl, rfl⟩) l0 rfl rfl ?_
                    refine g_fR (c := 11) (k := 0) (x := 1) (pc' := 218) cd_Ho_takePost rfl rfl rfl rfl rfl (by decide) hH1.1.1.1 hH1.1.1.2 hH1.1.2.1.1 ?_
                    refine g_ild (pc' := 219) cd_Ho_takePost rfl (Or.inr ⟨_, rfl, rfl, rfl⟩) l3 rfl ?_
                    refine g_k1 (v := 2) (pc' := 220) cd_Ho_takePost rfl (by decide) rfl ?_
                    refine g_calli (pc' := 223) cd_Ho_takePost rfl rfl rfl rfl rfl (tm_invV rfl rfl cd_Te_partOf rfl (Nat.le_of_ble_eq_true rfl) (by decide) hC1.1.1.1.1 hC1.1.1.1.2) (t_partOf (i := 2) hC1.1 (tv_mono hp1 ht1) (by decide) (fun r5 ht5 => ?_))
                    show bm_G _ _ _ 223 _ [.int r5] B1 _
                    refine g_ist (pc' := 225) cd_Ho_takePost rfl (Or.inl ⟨rfl, rfl⟩) (by decide) rfl (fun lv el => ?_)
                    have l0 := tm_lk el l0 rfl (by decide)
                    have l1 := tm_lk el l1 rfl (by decide)
                    have l2 := tm_lk el l2 rfl (by decide)
                    have l3 := tm_lk el l3 rfl (by decide)
                    have l4 := tm_lk el l4 rfl (by decide)
                    have l5 := tm_lk el l5 rfl (by decide)
                    have l6 := tm_lk el l6 rfl (by decide)
                    have l7 := tm_lk el l7 rfl (by decide)
                    have l8 := tm_lk el l8 rfl (by decide)
                    have l9 := tm_lk el l9 rfl (by decide)
                    have l10 := tm_lk el l10 rfl (by decide)
                    have l11 : lv.lookup 11 = some (.int r5) := tm_lks el
                    clear el
                    refine g_ald (pc' := 226) cd_Ho_takePost rfl (Or.inr ⟨_, rfl, rfl, rfl⟩) l0 rfl rfl ?_
                    refine g_fR (c := 11) (k := 0) (x := 1) (pc' := 229) cd_Ho_takePost rfl rfl rfl rfl rfl (by decide) hH1.1.1.1 hH1.1.1.2 hH1.1.2.1.1 ?_
                    refine g_ild (pc' := 231) cd_Ho_takePost rfl (Or.inl ⟨rfl, rfl⟩) l11 rfl ?_
                    refine g_k1 (v := 4) (pc' := 232) cd_Ho_takePost rfl (by decide) rfl ?_
                    refine g_calli (pc' := 235) cd_Ho_takePost rfl rfl rfl rfl rfl (tm_invV rfl rfl cd_Te_isGood rfl (Nat.le_of_ble_eq_true rfl) (by decide) hC1.1.1.1.1 hC1.1.1.1.2) (t_isGood (k := 4) (by decide) hC1.1 ht5 ?_)
                    show bm_G _ _ _ 235 _ [.int (bz (Tgood 4 (pt (pt A 1) 2)))] B1 _
                    refine g_if1 (t := 241) (pc' := 238) cd_Ho_takePost rfl rfl rfl (fun c235 => ?_) (fun c235 => ?_)
                    · have c235 : (Tgood 4 (pt (pt A 1) 2)) = true := bz_t c235
                      refine g_ald (pc' := 242) cd_Ho_takePost rfl (Or.inr ⟨_, rfl, rfl, rfl⟩) l0 rfl rfl ?_
                      refine g_fR (c := 11) (k := 3) (x := 11) (pc' := 245) cd_Ho_takePost rfl rfl rfl rfl rfl (by decide) hH1.1.1.1 hH1.1.1.2 hH1.1.2.1.2.2.2.1 ?_
                      refine g_ild (pc' := 247) cd_Ho_takePost rfl (Or.inl ⟨rfl, rfl⟩) l6 rfl ?_
                      refine g_ild (pc' := 249) cd_Ho_takePost rfl (Or.inl ⟨rfl, rfl⟩) l5 rfl ?_
                      refine g_ald (pc' := 250) cd_Ho_takePost rfl (Or.inr ⟨_, rfl, rfl, rfl⟩) l0 rfl rfl ?_
                      refine g_fR (c := 11) (k := 0) (x := 1) (pc' := 253) cd_Ho_takePost rfl rfl rfl rfl rfl (by decide) hH1.1.1.1 hH1.1.1.2 hH1.1.2.1.1 ?_
                      refine g_ild (pc' := 255) cd_Ho_takePost rfl (Or.inl ⟨rfl, rfl⟩) l11 rfl ?_
                      refine g_k1 (v := 0) (pc' := 256) cd_Ho_takePost rfl (by decide) rfl ?_
                      refine g_calli (pc' := 259) cd_Ho_takePost rfl rfl rfl rfl rfl (tm_invV rfl rfl cd_Te_partOf rfl (Nat.le_of_ble_eq_true rfl) (by decide) hC1.1.1.1.1 hC1.1.1.1.2) (t_partOf (i := 0) hC1.1 ht5 (by decide) (fun r6 ht6 => ?_))
                      show bm_G _ _ _ 259 _ [.int r6, .int (nI g), .int (nI p), .ref 11] B1 _
                      refine g_ald (pc' := 261) cd_Ho_takePost rfl (Or.inl ⟨rfl, rfl⟩) l8 rfl rfl ?_
                      refine g_fI (c := 1) (k := 2) (x := bz G0.2.2) (pc' := 264) cd_Ho_takePost rfl rfl rfl rfl rfl (by decide) hGv.1.1.1 hGv.1.1.2 hGv.2.2.2 ?_
                      refine g_callv (pc' := 267) cd_Ho_takePost rfl rfl rfl rfl rfl (tm_invV rfl rfl cd_Le_expect rfl (Nat.le_of_ble_eq_true rfl) (by decide) hH1.2.2.1.1.1.1 hH1.2.2.1.1.1.2) (t_expect (o := G0.2.2) hH1.2.2.1 ht6 (fun B2 hL2 hz2 => ?_))
                      have hH2 := RH_le hH1 hz2.1 (fun y q => by unfold lex; omega) (List.prefix_refl _) hL2
                      have hC2 := CK_cls hC1 hz2 (fun y q => by unfold lex at q; omega)
                      show bm_G _ _ _ 267 _ [] B2 _
                      refine g_k1 (v := 1) (pc' := 268) cd_Ho_takePost rfl (by decide) rfl ?_
                      have hE := (tp_key (fun e => c48 (by rw [e])) hfi c95 ((TI_eq hC.1 hpb hG0.2.1.2.2.1.1).mp c130) hkey).trans ((cif_t ((TI_eq hC1.1 htk9 ht4).mp c208)).trans (if_pos c235))
                      exact g_reti cd_Ho_takePost rfl ⟨_, rfl, (bm_eq (kk B2 T1 _ _ _ hp1 (by omega) (fun _ => by rw [hE]) (fun _ => ⟨k, G0, hfi, rfl⟩) (fun q => by rw [hE] at q; exact absurd rfl q) hC2 hH2 (fr_trans hf1 (fr_mono (fun y q => nF_lo hC (by unfold lex at q; omega)) hz2.1))) (by rw [hE]))⟩
                    · have c235 : (Tgood 4 (pt (pt A 1) 2)) = false := bz_f (Classical.not_not.mp c235)
                      refine g_k2 (v := (-15)) (pc' := 240) cd_Ho_takePost rfl (by decide) rfl ?_
                      have hE := (tp_key (fun e => c48 (by rw [e])) hfi c95 ((TI_eq hC.1 hpb hG0.2.1.2.2.1.1).mp c130) hkey).trans ((cif_t ((TI_eq hC1.1 htk9 ht4).mp c208)).trans (if_neg (fun q => absurd (c235.symm.trans q) (by decide))))
                      exact g_reti cd_Ho_takePost rfl ⟨_, rfl, (bm_eq (kk B1 T1 _ _ (L, bd, ll, tc, tl, tf, tg, cf, cg, ct, co, li, fo, db) hp1 (by omega) (fun q => by rw [hE] at q; exact absurd (show (-15 : Int32) = 1 from q) (by decide)) (fun q => by rw [hE] at q; exact absurd (show (-15 : Int32) = 1 from q) (by decide)) (fun _ => rfl) hC1 hH1 hf1) (by rw [hE]))⟩
                  · have c208 : ¬ xk9 = r4 := c208
                    refine g_k2 (v := (-14)) (pc' := 213) cd_Ho_takePost rfl (by decide) rfl ?_
                    have hE := (tp_key (fun e => c48 (by rw [e])) hfi c95 ((TI_eq hC.1 hpb hG0.2.1.2.2.1.1).mp c130) hkey).trans (cif_f (fun e => c208 ((TI_eq hC1.1 htk9 ht4).mpr e)))
                    exact g_reti cd_Ho_takePost rfl ⟨_, rfl, (bm_eq (kk B1 T1 _ _ (L, bd, ll, tc, tl, tf, tg, cf, cg, ct, co, li, fo, db) hp1 (by omega) (fun q => by rw [hE] at q; exact absurd (show (-14 : Int32) = 1 from q) (by decide)) (fun q => by rw [hE] at q; exact absurd (show (-14 : Int32) = 1 from q) (by decide)) (fun _ => rfl) hC1 hH1 hf1) (by rw [hE]))⟩
                · have c191 : xk9 = 0 := Classical.not_not.mp c191
                  exact absurd ((TI_0 hC1.1 htk9).mp c191) hKn
          · skip
            have hTn := TI_fr hC.1 hz1.1 (by omega) (by have := hC.2.2.2.2.2.1; omega) (by omega)
            have hkey : gv_key G0.1 (nu (pt (pt A 1) 1) 3) = some (Kt, (G0.1.1, G0.1.2.1, G0.1.2.2.1, lt)) := by unfold gv_key; rw [hlf]
            have hKn : Kt ≠ tz := by obtain ⟨e, h1, h2⟩ := lf_take_mem hlf; rw [← h2]; exact hI0 e h1
            have hGv := RGv_in hG0 hz1.1 (by omega) hI1
            have hMn := RMe_gv hM0 hp hkl hz1.1 (fun y a b cc q => by omega) (List.prefix_refl T) hGv
            obtain ⟨hC1, hH1, hy1⟩ := RH_mem hC hH hg eD hTn hz1 (fun y q => Or.inr (by omega)) (List.prefix_refl T) hMn
            have hf1 : fr (fun y => ¬ F y) B B1 := fr_mono (fun y q => q.elim (nF_tcs hC) (fun q => nF_lo hC (by omega))) hy1.1
            show bm_G _ _ _ 166 _ [.int xk9] B1 _
            refine g_ist (pc' := 168) cd_Ho_takePost rfl (Or.inl ⟨rfl, rfl⟩) (by decide) rfl (fun lv el => ?_)
            have l0 := tm_lk el l0 rfl (by decide)
            have l1 := tm_lk el l1 rfl (by decide)
            have l2 := tm_lk el l2 rfl (by decide)
            have l3 := tm_lk el l3 rfl (by decide)
            have l4 := tm_lk el l4 rfl (by decide)
            have l5 := tm_lk el l5 rfl (by decide)
            have l6 := tm_lk el l6 rfl (by decide)
            have l7 := tm_lk el l7 rfl (by decide)
            have l8 := tm_lk el l8 rfl (by decide)
            have l9 := tm_lk el l9 rfl (by decide)
            have l10 : lv.lookup 10 = some (.int xk9) := tm_lks el
            clear el
            refine g_ild (pc' := 170) cd_Ho_takePost rfl (Or.inl ⟨rfl, rfl⟩) l10 rfl ?_
            refine g_if1 (t := 189) (pc' := 173) cd_Ho_takePost rfl rfl rfl (fun c170 => ?_) (fun c170 => ?_)
            · have c170 : ¬ xk9 = 0 := c170
              refine g_ild (pc' := 191) cd_Ho_takePost rfl (Or.inl ⟨rfl, rfl⟩) l10 rfl ?_
              refine g_if1 (t := 197) (pc' := 194) cd_Ho_takePost rfl rfl rfl (fun c191 => ?_) (fun c191 => ?_)
              · have c191 : ¬ xk9 = 0 := c191
                refine g_ild (pc' := 199) cd_Ho_takePost rfl (Or.inl ⟨rfl, rfl⟩) l10 rfl ?_
                refine g_ald (pc' := 200) cd_Ho_takePost rfl (Or.inr ⟨_, rfl, rfl, rfl⟩) l0 rfl rfl ?_
                refine g_fR (c := 11) (k := 0) (x := 1) (pc' := 203) cd_Ho_takePost rfl rfl rfl rfl rfl (by decide) hH1.1.1.1 hH1.1.1.2 hH1.1.2.1.1 ?_
                refine g_ild (pc' := 204) cd_Ho_takePost rfl (Or.inr ⟨_, rfl, rfl, rfl⟩) l3 rfl ?_
                refine g_k1 (v := 0) (pc' := 205) cd_Ho_takePost rfl (by decide) rfl ?_
                refine g_calli (pc' := 208) cd_Ho_takePost rfl rfl rfl rfl rfl (tm_invV rfl rfl cd_Te_partOf rfl (Nat.le_of_ble_eq_true rfl) (by decide) hC1.1.1.1.1 hC1.1.1.1.2) (t_partOf (i := 0) hC1.1 ht1 (by decide) (fun r7 ht7 => ?_))
                show bm_G _ _ _ 208 _ [.int r7, .int xk9] B1 _
                refine g_if2 (t := 214) (pc' := 211) cd_Ho_takePost rfl rfl rfl (fun c208 => ?_) (fun c208 => ?_)
                · have c208 : xk9 = r7 := c208
                  refine g_ald (pc' := 215) cd_Ho_takePost rfl (Or.inr ⟨_, rfl, rfl, rfl⟩) l0 rfl rfl ?_
                  refine g_fR (c := 11) (k := 0) (x := 1) (pc' := 218) cd_Ho_takePost rfl rfl rfl rfl rfl (by decide) hH1.1.1.1 hH1.1.1.2 hH1.1.2.1.1 ?_
                  refine g_ild (pc' := 219) cd_Ho_takePost rfl (Or.inr ⟨_, rfl, rfl, rfl⟩) l3 rfl ?_
                  refine g_k1 (v := 2) (pc' := 220) cd_Ho_takePost rfl (by decide) rfl ?_
                  refine g_calli (pc' := 223) cd_Ho_takePost rfl rfl rfl rfl rfl (tm_invV rfl rfl cd_Te_partOf rfl (Nat.le_of_ble_eq_true rfl) (by decide) hC1.1.1.1.1 hC1.1.1.1.2) (t_partOf (i := 2) hC1.1 ht1 (by decide) (fun r8 ht8 => ?_))
                  show bm_G _ _ _ 223 _ [.int r8] B1 _
                  refine g_ist (pc' := 225) cd_Ho_takePost rfl (Or.inl ⟨rfl, rfl⟩) (by decide) rfl (fun lv el => ?_)
                  have l0 := tm_lk el l0 rfl (by decide)
                  have l1 := tm_lk el l1 rfl (by decide)
                  have l2 := tm_lk el l2 rfl (by decide)
                  have l3 := tm_lk el l3 rfl (by decide)
                  have l4 := tm_lk el l4 rfl (by decide)
                  have l5 := tm_lk el l5 rfl (by decide)
                  have l6 := tm_lk el l6 rfl (by decide)
                  have l7 := tm_lk el l7 rfl (by decide)
                  have l8 := tm_lk el l8 rfl (by decide)
                  have l9 := tm_lk el l9 rfl (by decide)
                  have l10 := tm_lk el l10 rfl (by decide)
                  have l11 : lv.lookup 11 = some (.int r8) := tm_lks el
                  clear el
                  refine g_ald (pc' := 226) cd_Ho_takePost rfl (Or.inr ⟨_, rfl, rfl, rfl⟩) l0 rfl rfl ?_
                  refine g_fR (c := 11) (k := 0) (x := 1) (pc' := 229) cd_Ho_takePost rfl rfl rfl rfl rfl (by decide) hH1.1.1.1 hH1.1.1.2 hH1.1.2.1.1 ?_
                  refine g_ild (pc' := 231) cd_Ho_takePost rfl (Or.inl ⟨rfl, rfl⟩) l11 rfl ?_
                  refine g_k1 (v := 4) (pc' := 232) cd_Ho_takePost rfl (by decide) rfl ?_
                  refine g_calli (pc' := 235) cd_Ho_takePost rfl rfl rfl rfl rfl (tm_invV rfl rfl cd_Te_isGood rfl (Nat.le_of_ble_eq_true rfl) (by decide) hC1.1.1.1.1 hC1.1.1.1.2) (t_isGood (k := 4) (by decide) hC1.1 ht8 ?_)
                  show bm_G _ _ _ 235 _ [.int (bz (Tgood 4 (pt (pt A 1) 2)))] B1 _
                  refine g_if1 (t := 241) (pc' := 238) cd_Ho_takePost rfl rfl rfl (fun c235 => ?_) (fun c235 => ?_)
                  · have c235 : (Tgood 4 (pt (pt A 1) 2)) = true := bz_t c235
                    refine g_ald (pc' := 242) cd_Ho_takePost rfl (Or.inr ⟨_, rfl, rfl, rfl⟩) l0 rfl rfl ?_
                    refine g_fR (c := 11) (k := 3) (x := 11) (pc' := 245) cd_Ho_takePost rfl rfl rfl rfl rfl (by decide) hH1.1.1.1 hH1.1.1.2 hH1.1.2.1.2.2.2.1 ?_
                    refine g_ild (pc' := 247) cd_Ho_takePost rfl (Or.inl ⟨rfl, rfl⟩) l6 rfl ?_
                    refine g_ild (pc' := 249) cd_Ho_takePost rfl (Or.inl ⟨rfl, rfl⟩) l5 rfl ?_
                    refine g_ald (pc' := 250) cd_Ho_takePost rfl (Or.inr ⟨_, rfl, rfl, rfl⟩) l0 rfl rfl ?_
                    refine g_fR (c := 11) (k := 0) (x := 1) (pc' := 253) cd_Ho_takePost rfl rfl rfl rfl rfl (by decide) hH1.1.1.1 hH1.1.1.2 hH1.1.2.1.1 ?_
                    refine g_ild (pc' := 255) cd_Ho_takePost rfl (Or.inl ⟨rfl, rfl⟩) l11 rfl ?_
                    refine g_k1 (v := 0) (pc' := 256) cd_Ho_takePost rfl (by decide) rfl ?_
                    refine g_calli (pc' := 259) cd_Ho_takePost rfl rfl rfl rfl rfl (tm_invV rfl rfl cd_Te_partOf rfl (Nat.le_of_ble_eq_true rfl) (by decide) hC1.1.1.1.1 hC1.1.1.1.2) (t_partOf (i := 0) hC1.1 ht8 (by decide) (fun r9 ht9 => ?_))
                    show bm_G _ _ _ 259 _ [.int r9, .int (nI g), .int (nI p), .ref 11] B1 _
                    refine g_ald (pc' := 261) cd_Ho_takePost rfl (Or.inl ⟨rfl, rfl⟩) l8 rfl rfl ?_
                    refine g_fI (c := 1) (k := 2) (x := bz G0.2.2) (pc' := 264) cd_Ho_takePost rfl rfl rfl rfl rfl (by decide) hGv.1.1.1 hGv.1.1.2 hGv.2.2.2 ?_
                    refine g_callv (pc' := 267) cd_Ho_takePost rfl rfl rfl rfl rfl (tm_invV rfl rfl cd_Le_expect rfl (Nat.le_of_ble_eq_true rfl) (by decide) hH1.2.2.1.1.1.1 hH1.2.2.1.1.1.2) (t_expect (o := G0.2.2) hH1.2.2.1 ht9 (fun B2 hL2 hz2 => ?_))
                    have hH2 := RH_le hH1 hz2.1 (fun y q => by unfold lex; omega) (List.prefix_refl _) hL2
                    have hC2 := CK_cls hC1 hz2 (fun y q => by unfold lex at q; omega)
                    show bm_G _ _ _ 267 _ [] B2 _
                    refine g_k1 (v := 1) (pc' := 268) cd_Ho_takePost rfl (by decide) rfl ?_
                    have hE := (tp_key (fun e => c48 (by rw [e])) hfi c95 ((TI_eq hC.1 hpb hG0.2.1.2.2.1.1).mp c130) hkey).trans ((cif_t ((TI_eq hC1.1 htk9 ht7).mp c208)).trans (if_pos c235))
                    exact g_reti cd_Ho_takePost rfl ⟨_, rfl, (bm_eq (kk B2 T _ _ _ (List.prefix_refl T) (by omega) (fun _ => by rw [hE]) (fun _ => ⟨k, G0, hfi, rfl⟩) (fun q => by rw [hE] at q; exact absurd rfl q) hC2 hH2 (fr_trans hf1 (fr_mono (fun y q => nF_lo hC (by unfold lex at q; omega)) hz2.1))) (by rw [hE]))⟩
                  · have c235 : (Tgood 4 (pt (pt A 1) 2)) = false := bz_f (Classical.not_not.mp c235)
                    refine g_k2 (v := (-15)) (pc' := 240) cd_Ho_takePost rfl (by decide) rfl ?_
                    have hE := (tp_key (fun e => c48 (by rw [e])) hfi c95 ((TI_eq hC.1 hpb hG0.2.1.2.2.1.1).mp c130) hkey).trans ((cif_t ((TI_eq hC1.1 htk9 ht7).mp c208)).trans (if_neg (fun q => absurd (c235.symm.trans q) (by decide))))
                    exact g_reti cd_Ho_takePost rfl ⟨_, rfl, (bm_eq (kk B1 T _ _ (L, bd, ll, tc, tl, tf, tg, cf, cg, ct, co, li, fo, db) (List.prefix_refl T) (by omega) (fun q => by rw [hE] at q; exact absurd (show (-15 : Int32) = 1 from q) (by decide)) (fun q => by rw [hE] at q; exact absurd (show (-15 : Int32) = 1 from q) (by decide)) (fun _ => rfl) hC1 hH1 hf1) (by rw [hE]))⟩
                · have c208 : ¬ xk9 = r7 := c208
                  refine g_k2 (v := (-14)) (pc' := 213) cd_Ho_takePost rfl (by decide) rfl ?_
                  have hE := (tp_key (fun e => c48 (by rw [e])) hfi c95 ((TI_eq hC.1 hpb hG0.2.1.2.2.1.1).mp c130) hkey).trans (cif_f (fun e => c208 ((TI_eq hC1.1 htk9 ht7).mpr e)))
                  exact g_reti cd_Ho_takePost rfl ⟨_, rfl, (bm_eq (kk B1 T _ _ (L, bd, ll, tc, tl, tf, tg, cf, cg, ct, co, li, fo, db) (List.prefix_refl T) (by omega) (fun q => by rw [hE] at q; exact absurd (show (-14 : Int32) = 1 from q) (by decide)) (fun q => by rw [hE] at q; exact absurd (show (-14 : Int32) = 1 from q) (by decide)) (fun _ => rfl) hC1 hH1 hf1) (by rw [hE]))⟩
              · have c191 : xk9 = 0 := Classical.not_not.mp c191
                exact absurd ((TI_0 hC1.1 htk9).mp c191) hKn
            · have c170 : xk9 = 0 := Classical.not_not.mp c170
              exact absurd ((TI_0 hC1.1 htk9).mp c170) hKn
        · have c130 : ¬ rp = (bm_FI B 2 2 ((gA (rb (π 6) + 47 + 39 * g) ((w 6).2.2 g) p k) + 1)) := c130
          refine g_k2 (v := (-14)) (pc' := 135) cd_Ho_takePost rfl (by decide) rfl ?_
          exact g_reti cd_Ho_takePost rfl ⟨_, rfl, (kE _ (by decide) (by rw [tp_go (fun e => c48 (by rw [e])) hfi c95, cif_f (fun e => c130 ((TI_eq hC.1 hpb hG0.2.1.2.2.1.1).mpr e))]))⟩
  · have c48 : (nI p) = (nI q) := Classical.not_not.mp c48
    refine g_k2 (v := (-11)) (pc' := 53) cd_Ho_takePost rfl (by decide) rfl ?_
    exact g_reti cd_Ho_takePost rfl ⟨_, rfl, (kE _ (by decide) (by rw [tp_11 ((nI_eq (by omega) (by omega)).mp c48)]))⟩
