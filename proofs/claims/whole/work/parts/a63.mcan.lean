/-! The reference: findPublic, has, hasPublic, canMake, learn -/
theorem cz {p : Prop} (h : cif p (1 : Int32) 0 = 0) : ¬ p := fun q => by rw [cif_t q] at h; exact absurd h (by decide)
theorem cnz {p : Prop} (h : ¬ cif p (1 : Int32) 0 = 0) : p := Classical.byContradiction fun q => h (cif_f q)
theorem cif_01 (p : Prop) : cif p (1 : Int32) 0 = 0 ∨ cif p (1 : Int32) 0 = 1 := by
  by_cases h : p
  · exact Or.inr (cif_t h)
  · exact Or.inl (cif_f h)
theorem cif_nar (p : Prop) : vp_nar .boolean (cif p (1 : Int32) 0) = cif p (1 : Int32) 0 := by
  rcases cif_01 p with h | h <;> (rw [h]; decide)
def hs (W : Tm → Prop) (P : Tm) : Prop := P = tz ∨ W P
def hpb (W : Tm → Prop) (P : Tm) : Prop := W P ∨ W (Tpub P)
def cm (W : Tm → Prop) (A : Tm) : Prop := (kd A = 2 ∧ W (pt A 0)) ∨ (kd A = 3 ∧ (W (pt A 0) ∧ hpb W (pt A 1) ∨ W (pt A 1) ∧ hpb W (pt A 0))) ∨ (kd A = 4 ∧ hs W (pt A 0) ∧ hs W (pt A 1)) ∨ (kd A = 5 ∧ W (pt A 0) ∧ W (pt A 1) ∧ W (pt A 2)) ∨ (kd A = 6 ∧ W (pt A 0) ∧ W (pt A 1)) ∨ (kd A = 7 ∧ hs W (pt A 0) ∧ hs W (pt A 1) ∧ hs W (pt A 2) ∧ hs W (pt A 3))
theorem cm1 {W : Tm → Prop} {A : Tm} (h : kd A = 1) : ¬ cm W A := by unfold cm; rw [h]; rintro (q | q | q | q | q | q) <;> exact absurd q.1 (by decide)
theorem cm2 {W : Tm → Prop} {A : Tm} (h : kd A = 2) : cm W A ↔ W (pt A 0) := ⟨fun q => by
  unfold cm at q; rw [h] at q
  rcases q with q | q | q | q | q | q <;> first | exact q.2 | exact absurd q.1 (by decide), fun q => Or.inl ⟨h, q⟩⟩
theorem cm3 {W : Tm → Prop} {A : Tm} (h : kd A = 3) : cm W A ↔ (W (pt A 0) ∧ hpb W (pt A 1) ∨ W (pt A 1) ∧ hpb W (pt A 0)) := ⟨fun q => by
  unfold cm at q; rw [h] at q
  rcases q with q | q | q | q | q | q <;> first | exact absurd q.1 (by decide) | exact q.2, fun q => Or.inr (Or.inl ⟨h, q⟩)⟩
theorem cm4 {W : Tm → Prop} {A : Tm} (h : kd A = 4) : cm W A ↔ (hs W (pt A 0) ∧ hs W (pt A 1)) := ⟨fun q => by
  unfold cm at q; rw [h] at q
  rcases q with q | q | q | q | q | q <;> first | exact absurd q.1 (by decide) | exact q.2, fun q => Or.inr (Or.inr (Or.inl ⟨h, q⟩))⟩
theorem cm5 {W : Tm → Prop} {A : Tm} (h : kd A = 5) : cm W A ↔ (W (pt A 0) ∧ W (pt A 1) ∧ W (pt A 2)) := ⟨fun q => by
  unfold cm at q; rw [h] at q
  rcases q with q | q | q | q | q | q <;> first | exact absurd q.1 (by decide) | exact q.2, fun q => Or.inr (Or.inr (Or.inr (Or.inl ⟨h, q⟩)))⟩
theorem cm6 {W : Tm → Prop} {A : Tm} (h : kd A = 6) : cm W A ↔ (W (pt A 0) ∧ W (pt A 1)) := ⟨fun q => by
  unfold cm at q; rw [h] at q
  rcases q with q | q | q | q | q | q <;> first | exact absurd q.1 (by decide) | exact q.2, fun q => Or.inr (Or.inr (Or.inr (Or.inr (Or.inl ⟨h, q⟩))))⟩
theorem cm7 {W : Tm → Prop} {A : Tm} (h : kd A = 7) : cm W A ↔ (hs W (pt A 0) ∧ hs W (pt A 1) ∧ hs W (pt A 2) ∧ hs W (pt A 3)) := ⟨fun q => by
  unfold cm at q; rw [h] at q
  rcases q with q | q | q | q | q | q <;> first | exact absurd q.1 (by decide) | exact q.2, fun q => Or.inr (Or.inr (Or.inr (Or.inr (Or.inr ⟨h, q⟩))))⟩
/-- a live term and its parts, all before it -/
theorem MT_can {f : Nat → Int32} {A : Nat → Nat → Int32} {T : List Tm} {DL : List (Int32 × Int32)} {G W : Tm → Prop} (hM : MT f A T DL G W) {i : Nat} {X : Tm} (h0 : 0 < i) (hX : T[i]? = some X) : (A 1 i = 1 ∧ kd X = 1 ∧ ∀ k, pt X k = tz) ∨ (A 1 i = 2 ∧ ∃ P, pv T i (A 2 i) P ∧ kd P = 1 ∧ X = Tpub P) ∨ (A 1 i = 3 ∧ ∃ P R, pv T i (A 2 i) P ∧ pv T i (A 3 i) R ∧ kd P = 1 ∧ kd R = 1 ∧ X = Tsh0 P R) ∨ (A 1 i = 4 ∧ ∃ n P R, pv T i (A 3 i) P ∧ pv T i (A 4 i) R ∧ X = Tmx n P R) ∨ (A 1 i = 5 ∧ ∃ P R S, pn T i (A 2 i) P ∧ pn T i (A 3 i) R ∧ pn T i (A 4 i) S ∧ X = Tsl P R S) ∨ (A 1 i = 6 ∧ ∃ P R, pn T i (A 2 i) P ∧ pn T i (A 3 i) R ∧ X = Tsg P R) ∨ (A 1 i = 7 ∧ ∃ n n0 n1 n2 n3 P0 P1 P2 P3, pv T i (mrw (A 1) (A 7) i 4) P0 ∧ pv T i (mrw (A 1) (A 7) i 5) P1 ∧ pv T i (mrw (A 1) (A 7) i 6) P2 ∧ pv T i (mrw (A 1) (A 7) i 7) P3 ∧ X = Trw n n0 n1 n2 n3 P0 P1 P2 P3) := by
  have hr := (MT_row hM h0 hX).2
  rcases hr with ⟨h1, h2, h3, m, d, p, h4, h5, h6⟩ | ⟨h1, h2, h3, P, h4, h5, h6⟩ | ⟨h1, h2, P, R, h3, h4, h5, h5', h6⟩ | ⟨h1, P, R, h2, h3, h4⟩ | ⟨h1, P, R, S, h2, h3, h4, h5⟩ | ⟨h1, h2, P, R, h3, h4, h5⟩ | ⟨h1, h2, h3, P0, P1, P2, P3, h4, h5, h6, h7, h8⟩
  · exact Or.inl ⟨h1, by rw [h6]; rfl, fun k => by
      rw [h6]
      rcases k with _ | _ | _ | _ | k <;> rfl⟩
  · exact Or.inr (Or.inl ⟨h1, P, h4, h5, h6⟩)
  · rw [if_neg (by rw [h1]; decide)] at h4
    exact Or.inr (Or.inr (Or.inl ⟨h1, P, R, h3, h4, h5, h5', h6⟩))
  · rw [if_neg (by rw [h1]; decide)] at h2
    exact Or.inr (Or.inr (Or.inr (Or.inl ⟨h1, _, P, R, h2, h3, h4⟩)))
  · rw [if_neg (by rw [h1]; decide)] at h3
    exact Or.inr (Or.inr (Or.inr (Or.inr (Or.inl ⟨h1, P, R, S, h2, h3, h4, h5⟩))))
  · rw [if_neg (by rw [h1]; decide)] at h4
    exact Or.inr (Or.inr (Or.inr (Or.inr (Or.inr (Or.inl ⟨h1, P, R, h3, h4, h5⟩)))))
  · exact Or.inr (Or.inr (Or.inr (Or.inr (Or.inr (Or.inr ⟨h1, _, _, _, _, _, P0, P1, P2, P3, h4, h5, h6, h7, h8⟩)))))
theorem MT_kn {f : Nat → Int32} {A : Nat → Nat → Int32} {T : List Tm} {DL : List (Int32 × Int32)} {G W : Tm → Prop} (hM : MT f A T DL G W) {i : Nat} {X : Tm} (h0 : 0 < i) (hX : T[i]? = some X) : A 6 i = cif (W X) 1 0 := (hM.2.2.2.2.1 i X h0 hX).2
theorem MT_gv {f : Nat → Int32} {A : Nat → Nat → Int32} {T : List Tm} {DL : List (Int32 × Int32)} {G W : Tm → Prop} (hM : MT f A T DL G W) {i : Nat} {X : Tm} (h0 : 0 < i) (hX : T[i]? = some X) : A 5 i = cif (G X) 1 0 := (hM.2.2.2.2.1 i X h0 hX).1
theorem m_cellV {sc : tm_X} {d : Nat} {f : Nat → Int32} {A : Nat → Nat → Int32} {T : List Tm} {DL : List (Int32 × Int32)} {G W : Tm → Prop} {i k : Nat} {X : Tm} {v : Int32} {Q : Int32 → MS → Prop} (hM : MT f A T DL G W) (hX : T[i]? = some X) (hk7 : kd X = 7) (hk : k < 8) (e : mrw (A 1) (A 7) i k = v) (kk : Q v (f, A)) : mGi sc (d + 0) 214 [.ref 1482, .int (nI i), .int (nI k)] (f, A) Q := m_cell hM hX hk7 hk (by rw [e]; exact kk)
theorem kd1_nz {P : Tm} (h : kd P = 1) : P ≠ tz := fun e => by rw [e] at h; exact absurd h (by decide)
set_option maxRecDepth 100000 in
theorem l_mfp {sc : tm_X} {d : Nat} {f : Nat → Int32} {A : Nat → Nat → Int32} {T : List Tm} {DL : List (Int32 × Int32)} {G W : Tm → Prop} {t e : Nat} {S : Tm} {Q : Int32 → MS → Prop} (hM : MT f A T DL G W) (hS : T[t]? = some S) (kS : kd S = 1) (he : e < 8192) (hz : A 8 (((hix (hky 2 (nI t) 0 0 (fun _ => 0))) + e) % 8192) = 0) (hk : ∀ k, k < e → ∃ u, 0 < u ∧ u < T.length ∧ A 8 (((hix (hky 2 (nI t) 0 0 (fun _ => 0))) + k) % 8192) = nI u) (k0 : (∀ i : Nat, T[i]? ≠ some (Tpub S)) → Q 0 (f, A)) (kk : ∀ i : Nat, T[i]? = some (Tpub S) → Q (nI i) (f, A)) : ∀ (m k : Nat), k + m = e → (∀ i u, i < k → A 8 (((hix (hky 2 (nI t) 0 0 (fun _ => 0))) + i) % 8192) = nI u → T[u]? ≠ some (Tpub S)) → ∀ lv : tm_L, lv.lookup 0 = some (.ref 1482) → lv.lookup 1 = some (.int (nI t)) → lv.lookup 2 = some (.int (nI (((hix (hky 2 (nI t) 0 0 (fun _ => 0))) + k) % 8192))) → mg sc (d + 1) 273 22 lv [] (f, A) (fun r s' => ∃ x, r = some (.int x) ∧ Q x s') := by
  have hL := MT_len hM
  have htl := tv_lt hS
  have hX : tkr 2 (nI t) 0 0 (fun _ => 0) T DL T.length (Tpub S) := Or.inr (Or.inl ⟨rfl, rfl, rfl, S, ⟨t, rfl, htl, hS⟩, kS, rfl⟩)
  intro m
  induction m with
  | zero =>
    intro k hke hnf lv l0 l1 l2
    have hk2 : k = e := by omega
    subst hk2
    have hb := Nat.mod_lt ((hix (hky 2 (nI t) 0 0 (fun _ => 0))) + k) (show 0 < 8192 by decide)
    have hnew : ∀ v : Nat, T[v]? ≠ some (Tpub S) := fun v ht => by
      have ht0 : 0 < v := MT_pos hM ht (Tpub_nz _)
      have hrow := MT_row hM ht0 ht
      obtain ⟨e1, e2, e3, e4, e5⟩ := tkr_key hM.2.2.1.1 hX hrow.2
      obtain ⟨sl, q1, q2⟩ := hM.2.2.1.2
      obtain ⟨a1, d1, a2, a3, a4⟩ := q1 v ht0 (tv_lt ht)
      have hh : mhs (A 1) (A 2) (A 3) (A 4) (A 7) v = (hix (hky 2 (nI t) 0 0 (fun _ => 0))) := by unfold mhs; rw [← e1, ← e2]; rw [e1, ← e3, ← e4, ← e1]; rw [hky_congr e5]
      rw [hh] at a3 a4
      rcases Nat.lt_trichotomy d1 k with g | g | g
      · exact hnf d1 v g (by rw [← a3]; exact a1) ht
      · subst g; rw [a3] at a1; rw [hz] at a1; exact nI_ne0 ht0 (by have := tv_lt ht; omega) a1.symm
      · obtain ⟨u, u0, u1, u2⟩ := a4 k g
        rw [hz] at u2
        exact nI_ne0 u0 (by have := tv_lt ht; omega) u2.symm
    refine m_ald (pc' := 23) cd_Mo_findPublic rfl (Or.inr ⟨_, rfl, rfl, rfl⟩) l0 rfl rfl ?_
    refine m_fR (r := 7) (a := 8) (ad := 1490) (pc' := 26) rfl rfl cd_Mo_findPublic rfl rfl rfl rfl rfl ?_
    refine m_ild (pc' := 27) cd_Mo_findPublic rfl (Or.inr ⟨_, rfl, rfl, rfl⟩) l2 rfl ?_
    refine m_aI (r := 7) (a := 8) (g := (A 8)) (x := 0) (pc' := 28) rfl rfl cd_Mo_findPublic rfl rfl rfl (vp_in_nI (by omega) (by decide)) (by rw [(nI_clamp (by omega))]; exact hz) ?_
    refine m_if1 (t := 75) (pc' := 31) cd_Mo_findPublic rfl rfl rfl (fun c28 => ?_) (fun c28 => ?_)
    · have c28 : (0 : Int32) = 0 := c28
      refine m_k1 (v := 0) (pc' := 76) cd_Mo_findPublic rfl (by decide) rfl ?_
      exact m_reti cd_Mo_findPublic rfl ⟨_, rfl, (k0 hnew)⟩
    · exact absurd (show ¬ (0 : Int32) = 0 from c28) (by decide)
  | succ m ih =>
    intro k hke hnf lv l0 l1 l2
    have hb := Nat.mod_lt ((hix (hky 2 (nI t) 0 0 (fun _ => 0))) + k) (show 0 < 8192 by decide)
    obtain ⟨u, hu0, hu1, hu2⟩ := hk k (by omega)
    obtain ⟨Y, hY⟩ : ∃ Y, T[u]? = some Y := ⟨_, List.getElem?_eq_getElem hu1⟩
    have hrow := MT_row hM hu0 hY
    refine m_ald (pc' := 23) cd_Mo_findPublic rfl (Or.inr ⟨_, rfl, rfl, rfl⟩) l0 rfl rfl ?_
    refine m_fR (r := 7) (a := 8) (ad := 1490) (pc' := 26) rfl rfl cd_Mo_findPublic rfl rfl rfl rfl rfl ?_
    refine m_ild (pc' := 27) cd_Mo_findPublic rfl (Or.inr ⟨_, rfl, rfl, rfl⟩) l2 rfl ?_
    refine m_aI (r := 7) (a := 8) (g := (A 8)) (x := (nI u)) (pc' := 28) rfl rfl cd_Mo_findPublic rfl rfl rfl (vp_in_nI (by omega) (by decide)) (by rw [(nI_clamp (by omega))]; exact hu2) ?_
    refine m_if1 (t := 75) (pc' := 31) cd_Mo_findPublic rfl rfl rfl (fun c28 => ?_) (fun c28 => ?_)
    · have c28 : (nI u) = 0 := c28
      exact absurd c28 (nI_ne0 hu0 (by omega))
    · have c28 : ¬ (nI u) = 0 := c28
      refine m_ald (pc' := 32) cd_Mo_findPublic rfl (Or.inr ⟨_, rfl, rfl, rfl⟩) l0 rfl rfl ?_
      refine m_fR (r := 7) (a := 8) (ad := 1490) (pc' := 35) rfl rfl cd_Mo_findPublic rfl rfl rfl rfl rfl ?_
      refine m_ild (pc' := 36) cd_Mo_findPublic rfl (Or.inr ⟨_, rfl, rfl, rfl⟩) l2 rfl ?_
      refine m_aI (r := 7) (a := 8) (g := (A 8)) (x := (nI u)) (pc' := 37) rfl rfl cd_Mo_findPublic rfl rfl rfl (vp_in_nI (by omega) (by decide)) (by rw [(nI_clamp (by omega))]; exact hu2) ?_
      refine m_ist (pc' := 38) cd_Mo_findPublic rfl (Or.inr ⟨_, rfl, rfl, rfl⟩) (by decide) rfl (fun lv el => ?_)
      have l0 := tm_lk el l0 rfl (by decide)
      have l1 := tm_lk el l1 rfl (by decide)
      have l2 := tm_lk el l2 rfl (by decide)
      have l3 : lv.lookup 3 = some (.int ((nI u))) := tm_lks el
      clear el
      refine m_ald (pc' := 39) cd_Mo_findPublic rfl (Or.inr ⟨_, rfl, rfl, rfl⟩) l0 rfl rfl ?_
      refine m_fR (r := 0) (a := 1) (ad := 1483) (pc' := 42) rfl rfl cd_Mo_findPublic rfl rfl rfl rfl rfl ?_
      refine m_ild (pc' := 43) cd_Mo_findPublic rfl (Or.inr ⟨_, rfl, rfl, rfl⟩) l3 rfl ?_
      refine m_aI (r := 0) (a := 1) (g := (A 1)) (x := ((A 1) u)) (pc' := 44) rfl rfl cd_Mo_findPublic rfl rfl rfl (vp_in_nI (by omega) (by decide)) (congrArg (A 1) (nI_clamp (by omega))) ?_
      refine m_k1 (v := 2) (pc' := 45) cd_Mo_findPublic rfl (by decide) rfl ?_
      refine m_if2 (t := 60) (pc' := 48) cd_Mo_findPublic rfl rfl rfl (fun c45 => ?_) (fun c45 => ?_)
      · have c45 : ¬ ((A 1) u) = 2 := c45
        refine m_ild (pc' := 61) cd_Mo_findPublic rfl (Or.inr ⟨_, rfl, rfl, rfl⟩) l2 rfl ?_
        refine m_k1 (v := 1) (pc' := 62) cd_Mo_findPublic rfl (by decide) rfl ?_
        refine m_pure (pc' := 63) (st' := [.int ((nI (((hix (hky 2 (nI t) 0 0 (fun _ => 0))) + k) % 8192)) + 1)]) cd_Mo_findPublic rfl rfl (fun _ _ => rfl) ?_
        refine m_eq (show ((nI (((hix (hky 2 (nI t) 0 0 (fun _ => 0))) + k) % 8192)) + 1 : Int32) = nI ((((hix (hky 2 (nI t) 0 0 (fun _ => 0))) + k) % 8192) + 1) from nI_add (((hix (hky 2 (nI t) 0 0 (fun _ => 0))) + k) % 8192) 1) ?_
        refine m_ald (pc' := 64) cd_Mo_findPublic rfl (Or.inr ⟨_, rfl, rfl, rfl⟩) l0 rfl rfl ?_
        refine m_fR (r := 7) (a := 8) (ad := 1490) (pc' := 67) rfl rfl cd_Mo_findPublic rfl rfl rfl rfl rfl ?_
        refine m_al (r := 7) (a := 8) (x := 8192) (pc' := 68) rfl (by decide) rfl cd_Mo_findPublic rfl rfl rfl ?_
        refine m_k1 (v := 1) (pc' := 69) cd_Mo_findPublic rfl (by decide) rfl ?_
        refine m_pure (pc' := 70) (st' := [.int ((8192 : Int32) - 1), .int (nI ((((hix (hky 2 (nI t) 0 0 (fun _ => 0))) + k) % 8192) + 1))]) cd_Mo_findPublic rfl rfl (fun _ _ => rfl) ?_
        refine m_eq (show ((8192 : Int32) - 1 : Int32) = 8191 from by decide) ?_
        refine m_pure (pc' := 71) (st' := [.int ((nI ((((hix (hky 2 (nI t) 0 0 (fun _ => 0))) + k) % 8192) + 1)) &&& 8191)]) cd_Mo_findPublic rfl rfl (fun _ _ => rfl) ?_
        refine m_eq (show ((nI ((((hix (hky 2 (nI t) 0 0 (fun _ => 0))) + k) % 8192) + 1)) &&& 8191 : Int32) = nI (((hix (hky 2 (nI t) 0 0 (fun _ => 0))) + (k + 1)) % 8192) from by rw [nxt_and hb]; congr 1; omega) ?_
        refine m_ist (pc' := 72) cd_Mo_findPublic rfl (Or.inr ⟨_, rfl, rfl, rfl⟩) (by decide) rfl (fun lv el => ?_)
        have l0 := tm_lk el l0 rfl (by decide)
        have l1 := tm_lk el l1 rfl (by decide)
        have l3 := tm_lk el l3 rfl (by decide)
        have l2 : lv.lookup 2 = some (.int (nI (((hix (hky 2 (nI t) 0 0 (fun _ => 0))) + (k + 1)) % 8192))) := tm_lks el
        clear el
        refine m_pure (pc' := 22) (st' := []) cd_Mo_findPublic rfl rfl (fun _ _ => rfl) ?_
        refine ih (k + 1) (by omega) (fun i v hi hv hX2 => ?_) lv l0 l1 l2
        rcases Nat.lt_or_ge i k with q | q
        · exact hnf i v q hv hX2
        · have ei : i = k := by omega
          subst ei
          have ev := (nI_eq (by omega) (by have := tv_lt hX2; omega)).mp (hu2.symm.trans hv)
          subst ev
          rw [hY] at hX2
          cases hX2
          obtain ⟨e1, e2, e3, e4, e5⟩ := tkr_key hM.2.2.1.1 hX hrow.2
          exact c45 e1.symm
      · have c45 : ((A 1) u) = 2 := Classical.not_not.mp c45
        refine m_ald (pc' := 49) cd_Mo_findPublic rfl (Or.inr ⟨_, rfl, rfl, rfl⟩) l0 rfl rfl ?_
        refine m_fR (r := 1) (a := 2) (ad := 1484) (pc' := 52) rfl rfl cd_Mo_findPublic rfl rfl rfl rfl rfl ?_
        refine m_ild (pc' := 53) cd_Mo_findPublic rfl (Or.inr ⟨_, rfl, rfl, rfl⟩) l3 rfl ?_
        refine m_aI (r := 1) (a := 2) (g := (A 2)) (x := ((A 2) u)) (pc' := 54) rfl rfl cd_Mo_findPublic rfl rfl rfl (vp_in_nI (by omega) (by decide)) (congrArg (A 2) (nI_clamp (by omega))) ?_
        refine m_ild (pc' := 55) cd_Mo_findPublic rfl (Or.inr ⟨_, rfl, rfl, rfl⟩) l1 rfl ?_
        refine m_if2 (t := 60) (pc' := 58) cd_Mo_findPublic rfl rfl rfl (fun c55 => ?_) (fun c55 => ?_)
        · have c55 : ¬ ((A 2) u) = (nI t) := c55
          refine m_ild (pc' := 61) cd_Mo_findPublic rfl (Or.inr ⟨_, rfl, rfl, rfl⟩) l2 rfl ?_
          refine m_k1 (v := 1) (pc' := 62) cd_Mo_findPublic rfl (by decide) rfl ?_
          refine m_pure (pc' := 63) (st' := [.int ((nI (((hix (hky 2 (nI t) 0 0 (fun _ => 0))) + k) % 8192)) + 1)]) cd_Mo_findPublic rfl rfl (fun _ _ => rfl) ?_
          refine m_eq (show ((nI (((hix (hky 2 (nI t) 0 0 (fun _ => 0))) + k) % 8192)) + 1 : Int32) = nI ((((hix (hky 2 (nI t) 0 0 (fun _ => 0))) + k) % 8192) + 1) from nI_add (((hix (hky 2 (nI t) 0 0 (fun _ => 0))) + k) % 8192) 1) ?_
          refine m_ald (pc' := 64) cd_Mo_findPublic rfl (Or.inr ⟨_, rfl, rfl, rfl⟩) l0 rfl rfl ?_
          refine m_fR (r := 7) (a := 8) (ad := 1490) (pc' := 67) rfl rfl cd_Mo_findPublic rfl rfl rfl rfl rfl ?_
          refine m_al (r := 7) (a := 8) (x := 8192) (pc' := 68) rfl (by decide) rfl cd_Mo_findPublic rfl rfl rfl ?_
          refine m_k1 (v := 1) (pc' := 69) cd_Mo_findPublic rfl (by decide) rfl ?_
          refine m_pure (pc' := 70) (st' := [.int ((8192 : Int32) - 1), .int (nI ((((hix (hky 2 (nI t) 0 0 (fun _ => 0))) + k) % 8192) + 1))]) cd_Mo_findPublic rfl rfl (fun _ _ => rfl) ?_
          refine m_eq (show ((8192 : Int32) - 1 : Int32) = 8191 from by decide) ?_
          refine m_pure (pc' := 71) (st' := [.int ((nI ((((hix (hky 2 (nI t) 0 0 (fun _ => 0))) + k) % 8192) + 1)) &&& 8191)]) cd_Mo_findPublic rfl rfl (fun _ _ => rfl) ?_
          refine m_eq (show ((nI ((((hix (hky 2 (nI t) 0 0 (fun _ => 0))) + k) % 8192) + 1)) &&& 8191 : Int32) = nI (((hix (hky 2 (nI t) 0 0 (fun _ => 0))) + (k + 1)) % 8192) from by rw [nxt_and hb]; congr 1; omega) ?_
          refine m_ist (pc' := 72) cd_Mo_findPublic rfl (Or.inr ⟨_, rfl, rfl, rfl⟩) (by decide) rfl (fun lv el => ?_)
          have l0 := tm_lk el l0 rfl (by decide)
          have l1 := tm_lk el l1 rfl (by decide)
          have l3 := tm_lk el l3 rfl (by decide)
          have l2 : lv.lookup 2 = some (.int (nI (((hix (hky 2 (nI t) 0 0 (fun _ => 0))) + (k + 1)) % 8192))) := tm_lks el
          clear el
          refine m_pure (pc' := 22) (st' := []) cd_Mo_findPublic rfl rfl (fun _ _ => rfl) ?_
          refine ih (k + 1) (by omega) (fun i v hi hv hX2 => ?_) lv l0 l1 l2
          rcases Nat.lt_or_ge i k with q | q
          · exact hnf i v q hv hX2
          · have ei : i = k := by omega
            subst ei
            have ev := (nI_eq (by omega) (by have := tv_lt hX2; omega)).mp (hu2.symm.trans hv)
            subst ev
            rw [hY] at hX2
            cases hX2
            obtain ⟨e1, e2, e3, e4, e5⟩ := tkr_key hM.2.2.1.1 hX hrow.2
            exact c55 e2.symm
        · have c55 : ((A 2) u) = (nI t) := Classical.not_not.mp c55
          refine m_ild (pc' := 59) cd_Mo_findPublic rfl (Or.inr ⟨_, rfl, rfl, rfl⟩) l3 rfl ?_
          have hYX : Y = Tpub S := by
            rcases MT_can hM hu0 hY with q | ⟨-, P, ⟨p, q1, -, q2⟩, -, q3⟩ | q | q | q | q | q
            · exact absurd (q.1.symm.trans c45) (by decide)
            · have ep := (nI_eq (by have := tv_lt q2; omega) (by omega)).mp (q1.symm.trans c55)
              rw [ep, hS] at q2
              cases q2
              exact q3
            · exact absurd (q.1.symm.trans c45) (by decide)
            · exact absurd (q.1.symm.trans c45) (by decide)
            · exact absurd (q.1.symm.trans c45) (by decide)
            · exact absurd (q.1.symm.trans c45) (by decide)
            · exact absurd (q.1.symm.trans c45) (by decide)
          rw [hYX] at hY
          exact m_reti cd_Mo_findPublic rfl ⟨_, rfl, (kk u hY)⟩
set_option maxRecDepth 100000 in
theorem m_findPublic {sc : tm_X} {d : Nat} {f : Nat → Int32} {A : Nat → Nat → Int32} {T : List Tm} {DL : List (Int32 × Int32)} {G W : Tm → Prop} {t : Nat} {S : Tm} {Q : Int32 → MS → Prop} (hM : MT f A T DL G W) (hS : T[t]? = some S) (kS : kd S = 1) (k0 : (∀ i : Nat, T[i]? ≠ some (Tpub S)) → Q 0 (f, A)) (kk : ∀ i : Nat, T[i]? = some (Tpub S) → Q (nI i) (f, A)) : mGi sc (d + 1) 273 [.ref 1482, .int (nI t)] (f, A) Q := by
  have hL := MT_len hM
  obtain ⟨e, he, hz, hk⟩ := mtb_free (show T.length ≤ 4096 by omega) hM.2.2.1.2 (hix (hky 2 (nI t) 0 0 (fun _ => 0)))
  show mg sc (d + 1) 273 0 [(0, .ref 1482), (1, .int (nI t))] [] (f, A) _
  generalize elv : ([(0, .ref 1482), (1, .int (nI t))] : tm_L) = lv
  have l0 : lv.lookup 0 = some (.ref 1482) := by rw [← elv]; rfl
  have l1 : lv.lookup 1 = some (.int (nI t)) := by rw [← elv]; rfl
  clear elv
  refine m_k1 (v := 2) (pc' := 1) cd_Mo_findPublic rfl (by decide) rfl ?_
  refine m_ild (pc' := 2) cd_Mo_findPublic rfl (Or.inr ⟨_, rfl, rfl, rfl⟩) l1 rfl ?_
  refine m_si (pc' := 5) cd_Mo_findPublic rfl rfl rfl rfl rfl cd_Mo_mixed rfl (Nat.le_of_ble_eq_true rfl) (m_mixed ?_)
  show mg _ _ _ 5 _ [.int (mxd 2 (nI t))] _ _
  refine m_k1 (v := 0) (pc' := 6) cd_Mo_findPublic rfl (by decide) rfl ?_
  refine m_si (pc' := 9) cd_Mo_findPublic rfl rfl rfl rfl rfl cd_Mo_mixed rfl (Nat.le_of_ble_eq_true rfl) (m_mixed ?_)
  show mg _ _ _ 9 _ [.int (mxd (mxd 2 (nI t)) 0)] _ _
  refine m_k1 (v := 0) (pc' := 10) cd_Mo_findPublic rfl (by decide) rfl ?_
  refine m_si (pc' := 13) cd_Mo_findPublic rfl rfl rfl rfl rfl cd_Mo_mixed rfl (Nat.le_of_ble_eq_true rfl) (m_mixed ?_)
  show mg _ _ _ 13 _ [.int (mxd (mxd (mxd 2 (nI t)) 0) 0)] _ _
  refine m_ald (pc' := 14) cd_Mo_findPublic rfl (Or.inr ⟨_, rfl, rfl, rfl⟩) l0 rfl rfl ?_
  refine m_fR (r := 7) (a := 8) (ad := 1490) (pc' := 17) rfl rfl cd_Mo_findPublic rfl rfl rfl rfl rfl ?_
  refine m_al (r := 7) (a := 8) (x := 8192) (pc' := 18) rfl (by decide) rfl cd_Mo_findPublic rfl rfl rfl ?_
  refine m_k1 (v := 1) (pc' := 19) cd_Mo_findPublic rfl (by decide) rfl ?_
  refine m_pure (pc' := 20) (st' := [.int ((8192 : Int32) - 1), .int (mxd (mxd (mxd 2 (nI t)) 0) 0)]) cd_Mo_findPublic rfl rfl (fun _ _ => rfl) ?_
  refine m_eq (show ((8192 : Int32) - 1 : Int32) = 8191 from by decide) ?_
  refine m_pure (pc' := 21) (st' := [.int ((mxd (mxd (mxd 2 (nI t)) 0) 0) &&& 8191)]) cd_Mo_findPublic rfl rfl (fun _ _ => rfl) ?_
  refine m_eq (show ((mxd (mxd (mxd 2 (nI t)) 0) 0) &&& 8191 : Int32) = nI (((hix (hky 2 (nI t) 0 0 (fun _ => 0))) + 0) % 8192) from by rw [show mxd (mxd (mxd 2 (nI t)) 0) 0 = hky 2 (nI t) 0 0 (fun _ => 0) from rfl, hix_and]; congr 1; have := hix_lt (hky 2 (nI t) 0 0 (fun _ => 0)); omega) ?_
  refine m_ist (pc' := 22) cd_Mo_findPublic rfl (Or.inr ⟨_, rfl, rfl, rfl⟩) (by decide) rfl (fun lv el => ?_)
  have l0 := tm_lk el l0 rfl (by decide)
  have l1 := tm_lk el l1 rfl (by decide)
  have l2 : lv.lookup 2 = some (.int (nI (((hix (hky 2 (nI t) 0 0 (fun _ => 0))) + 0) % 8192))) := tm_lks el
  clear el
  exact l_mfp hM hS kS he hz hk k0 kk e 0 (by omega) (fun i u hi => absurd hi (by omega)) lv l0 l1 l2
set_option maxRecDepth 100000 in
theorem m_has {sc : tm_X} {d : Nat} {f : Nat → Int32} {A : Nat → Nat → Int32} {T : List Tm} {DL : List (Int32 × Int32)} {G W : Tm → Prop} {p : Nat} {P : Tm} {Q : Int32 → MS → Prop} (hM : MT f A T DL G W) (hP : T[p]? = some P) (kt : hs W P → Q 1 (f, A)) (kf : ¬ hs W P → Q 0 (f, A)) : mGi sc (d + 0) 274 [.ref 1482, .int (nI p)] (f, A) Q := by
  have hL := MT_len hM
  have hpl := tv_lt hP
  show mg sc (d + 0) 274 0 [(0, .ref 1482), (1, .int (nI p))] [] (f, A) _
  generalize elv : ([(0, .ref 1482), (1, .int (nI p))] : tm_L) = lv
  have l0 : lv.lookup 0 = some (.ref 1482) := by rw [← elv]; rfl
  have l1 : lv.lookup 1 = some (.int (nI p)) := by rw [← elv]; rfl
  clear elv
  refine m_ild (pc' := 1) cd_Mo_has rfl (Or.inr ⟨_, rfl, rfl, rfl⟩) l1 rfl ?_
  refine m_if1 (t := 13) (pc' := 4) cd_Mo_has rfl rfl rfl (fun c1 => ?_) (fun c1 => ?_)
  · have c1 : (nI p) = 0 := c1
    refine m_k1 (v := 1) (pc' := 14) cd_Mo_has rfl (by decide) rfl ?_
    refine m_pure (pc' := 18) (st' := [.int 1]) cd_Mo_has rfl rfl (fun _ _ => rfl) ?_
    exact m_retz cd_Mo_has rfl (by decide) ⟨_, rfl, kt (Or.inl ((MT_0 hM ⟨p, rfl, hP⟩).mp c1))⟩
  · have c1 : ¬ (nI p) = 0 := c1
    refine m_ald (pc' := 5) cd_Mo_has rfl (Or.inr ⟨_, rfl, rfl, rfl⟩) l0 rfl rfl ?_
    refine m_fR (r := 5) (a := 6) (ad := 1488) (pc' := 8) rfl rfl cd_Mo_has rfl rfl rfl rfl rfl ?_
    refine m_ild (pc' := 9) cd_Mo_has rfl (Or.inr ⟨_, rfl, rfl, rfl⟩) l1 rfl ?_
    refine m_bI (r := 5) (a := 6) (g := (A 6)) (x := (cif (W P) (1 : Int32) 0)) (pc' := 10) rfl rfl cd_Mo_has rfl rfl rfl (vp_in_nI (by omega) (by decide)) (by rw [(nI_clamp (by omega))]; exact MT_kn hM (Nat.pos_of_ne_zero fun e => c1 (by rw [e]; rfl)) hP) ?_
    refine m_if1 (t := 17) (pc' := 13) cd_Mo_has rfl rfl rfl (fun c10 => ?_) (fun c10 => ?_)
    · have c10 : (cif (W P) (1 : Int32) 0) = 0 := c10
      refine m_k1 (v := 0) (pc' := 18) cd_Mo_has rfl (by decide) rfl ?_
      exact m_retz cd_Mo_has rfl (by decide) ⟨_, rfl, kf (fun q => q.elim (fun e => c1 ((MT_0 hM ⟨p, rfl, hP⟩).mpr e)) (fun e => cz c10 e))⟩
    · have c10 : ¬ (cif (W P) (1 : Int32) 0) = 0 := c10
      refine m_k1 (v := 1) (pc' := 14) cd_Mo_has rfl (by decide) rfl ?_
      refine m_pure (pc' := 18) (st' := [.int 1]) cd_Mo_has rfl rfl (fun _ _ => rfl) ?_
      exact m_retz cd_Mo_has rfl (by decide) ⟨_, rfl, kt (Or.inr (cnz c10))⟩
set_option maxRecDepth 100000 in
theorem m_hasPublic {sc : tm_X} {d : Nat} {f : Nat → Int32} {A : Nat → Nat → Int32} {T : List Tm} {DL : List (Int32 × Int32)} {G W : Tm → Prop} {p : Nat} {P : Tm} {Q : Int32 → MS → Prop} (hM : MT f A T DL G W) (hP : T[p]? = some P) (kP : kd P = 1) (kt : hpb W P → Q 1 (f, A)) (kf : ¬ hpb W P → Q 0 (f, A)) : mGi sc (d + 2) 272 [.ref 1482, .int (nI p)] (f, A) Q := by
  have hL := MT_len hM
  have hpl := tv_lt hP
  have hp0 := MT_pos hM hP (kd1_nz kP)
  show mg sc (d + 2) 272 0 [(0, .ref 1482), (1, .int (nI p))] [] (f, A) _
  generalize elv : ([(0, .ref 1482), (1, .int (nI p))] : tm_L) = lv
  have l0 : lv.lookup 0 = some (.ref 1482) := by rw [← elv]; rfl
  have l1 : lv.lookup 1 = some (.int (nI p)) := by rw [← elv]; rfl
  clear elv
  refine m_ald (pc' := 1) cd_Mo_hasPublic rfl (Or.inr ⟨_, rfl, rfl, rfl⟩) l0 rfl rfl ?_
  refine m_ild (pc' := 2) cd_Mo_hasPublic rfl (Or.inr ⟨_, rfl, rfl, rfl⟩) l1 rfl ?_
  refine m_ci (pc' := 5) cd_Mo_hasPublic rfl rfl rfl rfl rfl cd_Mo_findPublic rfl (Nat.le_of_ble_eq_true rfl) (m_findPublic hM hP kP (fun hno => ?_) (fun i hi => ?_))
  · skip
    show mg _ _ _ 5 _ [.int 0] _ _
    refine m_ist (pc' := 6) cd_Mo_hasPublic rfl (Or.inr ⟨_, rfl, rfl, rfl⟩) (by decide) rfl (fun lv el => ?_)
    have l0 := tm_lk el l0 rfl (by decide)
    have l1 := tm_lk el l1 rfl (by decide)
    have l2 : lv.lookup 2 = some (.int 0) := tm_lks el
    clear el
    refine m_ald (pc' := 7) cd_Mo_hasPublic rfl (Or.inr ⟨_, rfl, rfl, rfl⟩) l0 rfl rfl ?_
    refine m_fR (r := 5) (a := 6) (ad := 1488) (pc' := 10) rfl rfl cd_Mo_hasPublic rfl rfl rfl rfl rfl ?_
    refine m_ild (pc' := 11) cd_Mo_hasPublic rfl (Or.inr ⟨_, rfl, rfl, rfl⟩) l1 rfl ?_
    refine m_bI (r := 5) (a := 6) (g := (A 6)) (x := (cif (W P) (1 : Int32) 0)) (pc' := 12) rfl rfl cd_Mo_hasPublic rfl rfl rfl (vp_in_nI (by omega) (by decide)) (by rw [(nI_clamp (by omega))]; exact MT_kn hM hp0 hP) ?_
    refine m_if1 (t := 28) (pc' := 15) cd_Mo_hasPublic rfl rfl rfl (fun c12 => ?_) (fun c12 => ?_)
    · have c12 : ¬ (cif (W P) (1 : Int32) 0) = 0 := c12
      refine m_k1 (v := 1) (pc' := 29) cd_Mo_hasPublic rfl (by decide) rfl ?_
      refine m_pure (pc' := 33) (st' := [.int 1]) cd_Mo_hasPublic rfl rfl (fun _ _ => rfl) ?_
      exact m_retz cd_Mo_hasPublic rfl (by decide) ⟨_, rfl, kt (Or.inl (cnz c12))⟩
    · have c12 : (cif (W P) (1 : Int32) 0) = 0 := Classical.not_not.mp c12
      refine m_ild (pc' := 16) cd_Mo_hasPublic rfl (Or.inr ⟨_, rfl, rfl, rfl⟩) l2 rfl ?_
      refine m_if1 (t := 32) (pc' := 19) cd_Mo_hasPublic rfl rfl rfl (fun c16 => ?_) (fun c16 => ?_)
      · have c16 : (0 : Int32) ≤ 0 := c16
        refine m_k1 (v := 0) (pc' := 33) cd_Mo_hasPublic rfl (by decide) rfl ?_
        exact m_retz cd_Mo_hasPublic rfl (by decide) ⟨_, rfl, kf (fun q => q.elim (fun e => cz c12 e) (fun e => by obtain ⟨i, hi⟩ := List.getElem?_of_mem (hM.2.2.2.2.2.2 _ e).1; exact hno i hi))⟩
      · exact absurd (show ¬ (0 : Int32) ≤ 0 from c16) (by decide)
  · skip
    have hil := tv_lt hi
    have hi0 := MT_pos hM hi (Tpub_nz _)
    show mg _ _ _ 5 _ [.int (nI i)] _ _
    refine m_ist (pc' := 6) cd_Mo_hasPublic rfl (Or.inr ⟨_, rfl, rfl, rfl⟩) (by decide) rfl (fun lv el => ?_)
    have l0 := tm_lk el l0 rfl (by decide)
    have l1 := tm_lk el l1 rfl (by decide)
    have l2 : lv.lookup 2 = some (.int (nI i)) := tm_lks el
    clear el
    refine m_ald (pc' := 7) cd_Mo_hasPublic rfl (Or.inr ⟨_, rfl, rfl, rfl⟩) l0 rfl rfl ?_
    refine m_fR (r := 5) (a := 6) (ad := 1488) (pc' := 10) rfl rfl cd_Mo_hasPublic rfl rfl rfl rfl rfl ?_
    refine m_ild (pc' := 11) cd_Mo_hasPublic rfl (Or.inr ⟨_, rfl, rfl, rfl⟩) l1 rfl ?_
    refine m_bI (r := 5) (a := 6) (g := (A 6)) (x := (cif (W P) (1 : Int32) 0)) (pc' := 12) rfl rfl cd_Mo_hasPublic rfl rfl rfl (vp_in_nI (by omega) (by decide)) (by rw [(nI_clamp (by omega))]; exact MT_kn hM hp0 hP) ?_
    refine m_if1 (t := 28) (pc' := 15) cd_Mo_hasPublic rfl rfl rfl (fun c12 => ?_) (fun c12 => ?_)
    · have c12 : ¬ (cif (W P) (1 : Int32) 0) = 0 := c12
      refine m_k1 (v := 1) (pc' := 29) cd_Mo_hasPublic rfl (by decide) rfl ?_
      refine m_pure (pc' := 33) (st' := [.int 1]) cd_Mo_hasPublic rfl rfl (fun _ _ => rfl) ?_
      exact m_retz cd_Mo_hasPublic rfl (by decide) ⟨_, rfl, kt (Or.inl (cnz c12))⟩
    · have c12 : (cif (W P) (1 : Int32) 0) = 0 := Classical.not_not.mp c12
      refine m_ild (pc' := 16) cd_Mo_hasPublic rfl (Or.inr ⟨_, rfl, rfl, rfl⟩) l2 rfl ?_
      refine m_if1 (t := 32) (pc' := 19) cd_Mo_hasPublic rfl rfl rfl (fun c16 => ?_) (fun c16 => ?_)
      · have c16 : (nI i) ≤ 0 := c16
        exact absurd c16 (nI_ge hi0 (by omega))
      · have c16 : ¬ (nI i) ≤ 0 := c16
        refine m_ald (pc' := 20) cd_Mo_hasPublic rfl (Or.inr ⟨_, rfl, rfl, rfl⟩) l0 rfl rfl ?_
        refine m_fR (r := 5) (a := 6) (ad := 1488) (pc' := 23) rfl rfl cd_Mo_hasPublic rfl rfl rfl rfl rfl ?_
        refine m_ild (pc' := 24) cd_Mo_hasPublic rfl (Or.inr ⟨_, rfl, rfl, rfl⟩) l2 rfl ?_
        refine m_bI (r := 5) (a := 6) (g := (A 6)) (x := (cif (W (Tpub P)) (1 : Int32) 0)) (pc' := 25) rfl rfl cd_Mo_hasPublic rfl rfl rfl (vp_in_nI (by omega) (by decide)) (by rw [(nI_clamp (by omega))]; exact MT_kn hM hi0 hi) ?_
        refine m_if1 (t := 32) (pc' := 28) cd_Mo_hasPublic rfl rfl rfl (fun c25 => ?_) (fun c25 => ?_)
        · have c25 : (cif (W (Tpub P)) (1 : Int32) 0) = 0 := c25
          refine m_k1 (v := 0) (pc' := 33) cd_Mo_hasPublic rfl (by decide) rfl ?_
          exact m_retz cd_Mo_hasPublic rfl (by decide) ⟨_, rfl, kf (fun q => q.elim (fun e => cz c12 e) (fun e => cz c25 e))⟩
        · have c25 : ¬ (cif (W (Tpub P)) (1 : Int32) 0) = 0 := c25
          refine m_k1 (v := 1) (pc' := 29) cd_Mo_hasPublic rfl (by decide) rfl ?_
          refine m_pure (pc' := 33) (st' := [.int 1]) cd_Mo_hasPublic rfl rfl (fun _ _ => rfl) ?_
          exact m_retz cd_Mo_hasPublic rfl (by decide) ⟨_, rfl, kt (Or.inr (cnz c25))⟩
def unk (g : Nat → Int32) : Nat → Nat
  | 0 => 0
  | i + 1 => unk g i + if g i = 0 then 1 else 0
theorem unk_congr {g h : Nat → Int32} : ∀ {n : Nat}, (∀ i, i < n → g i = h i) → unk g n = unk h n
  | 0, _ => rfl
  | n + 1, e => by
    show unk g n + _ = unk h n + _
    rw [unk_congr (n := n) (fun i hi => e i (by omega)), e n (by omega)]
theorem unk_upd {g : Nat → Int32} {p : Nat} (h0 : g p = 0) : ∀ {n : Nat}, p < n → unk (upd g p 1) n + 1 = unk g n
  | 0, h => absurd h (by omega)
  | n + 1, h => by
    show unk (upd g p 1) n + (if upd g p 1 n = 0 then 1 else 0) + 1 = unk g n + (if g n = 0 then 1 else 0)
    by_cases c : p = n
    · subst c
      rw [upd_same, if_neg (by decide), if_pos h0, unk_congr (h := g) (fun i hi => upd_ne (by omega))]
    · have := unk_upd h0 (n := n) (by omega)
      rw [upd_ne (by omega : n ≠ p)]
      omega
theorem MT_learn {f : Nat → Int32} {A : Nat → Nat → Int32} {T : List Tm} {DL : List (Int32 × Int32)} {G W : Tm → Prop} (hM : MT f A T DL G W) {p : Nat} {P : Tm} (hP : T[p]? = some P) (h0 : P ≠ tz) : MT f (fset A 6 (upd (A 6) p 1)) T DL G (fun y => W y ∨ y = P) := by
  obtain ⟨m1, m2, m3, m4, m5, m6, m7⟩ := hM
  refine ⟨m1, m2, m3, m4, fun i X hi hX => ⟨(m5 i X hi hX).1, ?_⟩, m6, fun X hX => hX.elim (m7 X) (fun e => e ▸ ⟨List.mem_of_getElem? hP, h0⟩)⟩
  show upd (A 6) p 1 i = _
  by_cases c : i = p
  · subst c
    rw [hP] at hX
    cases hX
    rw [upd_same, cif_t (Or.inr rfl)]
  · rw [upd_ne c, (m5 i X hi hX).2]
    by_cases q : W X
    · rw [cif_t q, cif_t (Or.inl q)]
    · rw [cif_f q, cif_f (fun z => z.elim q (fun e => c (m3.1 i p X hX (by rw [e]; exact hP))))]
set_option maxRecDepth 100000 in
theorem m_learn {sc : tm_X} {d : Nat} {f : Nat → Int32} {A : Nat → Nat → Int32} {T : List Tm} {DL : List (Int32 × Int32)} {G W : Tm → Prop} {p : Nat} {P : Tm} {Q : Int32 → MS → Prop} (hM : MT f A T DL G W) (hP : T[p]? = some P) (k0 : hs W P → Q 0 (f, A)) (k1 : ∀ A1, MT f A1 T DL G (fun y => W y ∨ y = P) → P ≠ tz → unk (A1 6) T.length < unk (A 6) T.length → (∀ j, j ≠ 6 → A1 j = A j) → Q 1 (f, A1)) : mGi sc (d + 0) 275 [.ref 1482, .int (nI p)] (f, A) Q := by
  have hL := MT_len hM
  have hpl := tv_lt hP
  show mg sc (d + 0) 275 0 [(0, .ref 1482), (1, .int (nI p))] [] (f, A) _
  generalize elv : ([(0, .ref 1482), (1, .int (nI p))] : tm_L) = lv
  have l0 : lv.lookup 0 = some (.ref 1482) := by rw [← elv]; rfl
  have l1 : lv.lookup 1 = some (.int (nI p)) := by rw [← elv]; rfl
  clear elv
  refine m_ild (pc' := 1) cd_Mo_learn rfl (Or.inr ⟨_, rfl, rfl, rfl⟩) l1 rfl ?_
  refine m_if1 (t := 13) (pc' := 4) cd_Mo_learn rfl rfl rfl (fun c1 => ?_) (fun c1 => ?_)
  · have c1 : (nI p) = 0 := c1
    refine m_k1 (v := 0) (pc' := 14) cd_Mo_learn rfl (by decide) rfl ?_
    exact m_retz cd_Mo_learn rfl (by decide) ⟨_, rfl, k0 (Or.inl ((MT_0 hM ⟨p, rfl, hP⟩).mp c1))⟩
  · have c1 : ¬ (nI p) = 0 := c1
    refine m_ald (pc' := 5) cd_Mo_learn rfl (Or.inr ⟨_, rfl, rfl, rfl⟩) l0 rfl rfl ?_
    refine m_fR (r := 5) (a := 6) (ad := 1488) (pc' := 8) rfl rfl cd_Mo_learn rfl rfl rfl rfl rfl ?_
    refine m_ild (pc' := 9) cd_Mo_learn rfl (Or.inr ⟨_, rfl, rfl, rfl⟩) l1 rfl ?_
    refine m_bI (r := 5) (a := 6) (g := (A 6)) (x := (cif (W P) (1 : Int32) 0)) (pc' := 10) rfl rfl cd_Mo_learn rfl rfl rfl (vp_in_nI (by omega) (by decide)) (by rw [(nI_clamp (by omega))]; exact MT_kn hM (Nat.pos_of_ne_zero fun e => c1 (by rw [e]; rfl)) hP) ?_
    refine m_if1 (t := 15) (pc' := 13) cd_Mo_learn rfl rfl rfl (fun c10 => ?_) (fun c10 => ?_)
    · have c10 : (cif (W P) (1 : Int32) 0) = 0 := c10
      refine m_ald (pc' := 16) cd_Mo_learn rfl (Or.inr ⟨_, rfl, rfl, rfl⟩) l0 rfl rfl ?_
      refine m_fR (r := 5) (a := 6) (ad := 1488) (pc' := 19) rfl rfl cd_Mo_learn rfl rfl rfl rfl rfl ?_
      refine m_ild (pc' := 20) cd_Mo_learn rfl (Or.inr ⟨_, rfl, rfl, rfl⟩) l1 rfl ?_
      refine m_k1 (v := 1) (pc' := 21) cd_Mo_learn rfl (by decide) rfl ?_
      refine m_bS (r := 5) (a := 6) (g := (A 6)) (p := p) (pc' := 22) rfl rfl cd_Mo_learn rfl rfl rfl (vp_in_nI (by omega) (by decide)) (nI_clamp (by omega)) (by decide) ?_
      refine m_k1 (v := 1) (pc' := 23) cd_Mo_learn rfl (by decide) rfl ?_
      have hnz : P ≠ tz := fun e => c1 ((MT_0 hM ⟨p, rfl, hP⟩).mpr e)
      have hp0 := MT_pos hM hP hnz
      exact m_retz cd_Mo_learn rfl (by decide) ⟨_, rfl, k1 _ (MT_learn hM hP hnz) hnz (by show unk (upd (A 6) p 1) T.length < _; have := unk_upd (g := A 6) (p := p) (by rw [MT_kn hM hp0 hP]; exact c10) hpl; omega) (fun j hj => fset_ne hj)⟩
    · have c10 : ¬ (cif (W P) (1 : Int32) 0) = 0 := c10
      refine m_k1 (v := 0) (pc' := 14) cd_Mo_learn rfl (by decide) rfl ?_
      exact m_retz cd_Mo_learn rfl (by decide) ⟨_, rfl, k0 (Or.inr (cnz c10))⟩
set_option maxRecDepth 100000 in
theorem m_canMake {sc : tm_X} {d : Nat} {f : Nat → Int32} {A : Nat → Nat → Int32} {T : List Tm} {DL : List (Int32 × Int32)} {G W : Tm → Prop} {i : Nat} {X : Tm} {Q : Int32 → MS → Prop} (hM : MT f A T DL G W) (hX : T[i]? = some X) (hi0 : 0 < i) (kt : cm W X → Q 1 (f, A)) (kf : ¬ cm W X → Q 0 (f, A)) : mGi sc (d + 3) 271 [.ref 1482, .int (nI i)] (f, A) Q := by
  have hL := MT_len hM
  have hil := tv_lt hX
  rcases MT_can hM hi0 hX with ⟨hw, k1, -⟩ | ⟨hw, P, ⟨p, a1, a2, a3⟩, kP, rfl⟩ | ⟨hw, P, R, ⟨p, a1, a2, a3⟩, ⟨r, b1, b2, b3⟩, kP, kR, rfl⟩ | ⟨hw, n, P, R, ⟨p, a1, a2, a3⟩, ⟨r, b1, b2, b3⟩, rfl⟩ | ⟨hw, P, R, S, ⟨⟨p, a1, a2, a3⟩, a4⟩, ⟨⟨r, b1, b2, b3⟩, b4⟩, ⟨⟨u, c1, c2, c3⟩, c4⟩, rfl⟩ | ⟨hw, P, R, ⟨⟨p, a1, a2, a3⟩, a4⟩, ⟨⟨r, b1, b2, b3⟩, b4⟩, rfl⟩ | ⟨hw, n, n0, n1, n2, n3, P0, P1, P2, P3, ⟨p, a1, a2, a3⟩, ⟨r, b1, b2, b3⟩, ⟨u, c1, c2, c3⟩, ⟨x, d1, d2, d3⟩, rfl⟩
  · skip
    have hc := cm1 (W := W) (A := X) k1
    show mg sc (d + 3) 271 0 [(0, .ref 1482), (1, .int (nI i))] [] (f, A) _
    generalize elv : ([(0, .ref 1482), (1, .int (nI i))] : tm_L) = lv
    have l0 : lv.lookup 0 = some (.ref 1482) := by rw [← elv]; rfl
    have l1 : lv.lookup 1 = some (.int (nI i)) := by rw [← elv]; rfl
    clear elv
    refine m_ald (pc' := 1) cd_Mo_canMake rfl (Or.inr ⟨_, rfl, rfl, rfl⟩) l0 rfl rfl ?_
    refine m_fR (r := 0) (a := 1) (ad := 1483) (pc' := 4) rfl rfl cd_Mo_canMake rfl rfl rfl rfl rfl ?_
    refine m_ild (pc' := 5) cd_Mo_canMake rfl (Or.inr ⟨_, rfl, rfl, rfl⟩) l1 rfl ?_
    refine m_aI (r := 0) (a := 1) (g := (A 1)) (x := 1) (pc' := 6) rfl rfl cd_Mo_canMake rfl rfl rfl (vp_in_nI (by omega) (by decide)) (by rw [(nI_clamp (by omega))]; exact hw) ?_
    refine m_pure (pc' := 290) (st' := []) cd_Mo_canMake rfl rfl (fun _ _ => rfl) ?_
    refine m_k1 (v := 0) (pc' := 291) cd_Mo_canMake rfl (by decide) rfl ?_
    exact m_retz cd_Mo_canMake rfl (by decide) ⟨_, rfl, kf hc⟩
  · skip
    have hp0 := MT_pos hM a3 (kd1_nz kP)
    have hpl := tv_lt a3
    have hc := cm2 (W := W) (A := (Tpub P)) rfl
    show mg sc (d + 3) 271 0 [(0, .ref 1482), (1, .int (nI i))] [] (f, A) _
    generalize elv : ([(0, .ref 1482), (1, .int (nI i))] : tm_L) = lv
    have l0 : lv.lookup 0 = some (.ref 1482) := by rw [← elv]; rfl
    have l1 : lv.lookup 1 = some (.int (nI i)) := by rw [← elv]; rfl
    clear elv
    refine m_ald (pc' := 1) cd_Mo_canMake rfl (Or.inr ⟨_, rfl, rfl, rfl⟩) l0 rfl rfl ?_
    refine m_fR (r := 0) (a := 1) (ad := 1483) (pc' := 4) rfl rfl cd_Mo_canMake rfl rfl rfl rfl rfl ?_
    refine m_ild (pc' := 5) cd_Mo_canMake rfl (Or.inr ⟨_, rfl, rfl, rfl⟩) l1 rfl ?_
    refine m_aI (r := 0) (a := 1) (g := (A 1)) (x := 2) (pc' := 6) rfl rfl cd_Mo_canMake rfl rfl rfl (vp_in_nI (by omega) (by decide)) (by rw [(nI_clamp (by omega))]; exact hw) ?_
    refine m_pure (pc' := 44) (st' := []) cd_Mo_canMake rfl rfl (fun _ _ => rfl) ?_
    refine m_ald (pc' := 45) cd_Mo_canMake rfl (Or.inr ⟨_, rfl, rfl, rfl⟩) l0 rfl rfl ?_
    refine m_fR (r := 5) (a := 6) (ad := 1488) (pc' := 48) rfl rfl cd_Mo_canMake rfl rfl rfl rfl rfl ?_
    refine m_ald (pc' := 49) cd_Mo_canMake rfl (Or.inr ⟨_, rfl, rfl, rfl⟩) l0 rfl rfl ?_
    refine m_fR (r := 1) (a := 2) (ad := 1484) (pc' := 52) rfl rfl cd_Mo_canMake rfl rfl rfl rfl rfl ?_
    refine m_ild (pc' := 53) cd_Mo_canMake rfl (Or.inr ⟨_, rfl, rfl, rfl⟩) l1 rfl ?_
    refine m_aI (r := 1) (a := 2) (g := (A 2)) (x := nI p) (pc' := 54) rfl rfl cd_Mo_canMake rfl rfl rfl (vp_in_nI (by omega) (by decide)) (by rw [(nI_clamp (by omega))]; exact a1) ?_
    refine m_bI (r := 5) (a := 6) (g := (A 6)) (x := (cif (W P) (1 : Int32) 0)) (pc' := 55) rfl rfl cd_Mo_canMake rfl rfl rfl (vp_in_nI (by omega) (by decide)) (by rw [(nI_clamp (by omega))]; exact MT_kn hM hp0 a3) ?_
    exact m_retz cd_Mo_canMake rfl (cif_01 _) ⟨_, rfl, (Classical.em (W P)).elim (fun q => by rw [cif_t q]; exact kt (hc.mpr q)) (fun q => by rw [cif_f q]; exact kf (fun z => q (hc.mp z)))⟩
  · skip
    have hp0 := MT_pos hM a3 (kd1_nz kP)
    have hpl := tv_lt a3
    have hr0 := MT_pos hM b3 (kd1_nz kR)
    have hrl := tv_lt b3
    have hc := cm3 (W := W) (A := (Tsh0 P R)) rfl
    show mg sc (d + 3) 271 0 [(0, .ref 1482), (1, .int (nI i))] [] (f, A) _
    generalize elv : ([(0, .ref 1482), (1, .int (nI i))] : tm_L) = lv
    have l0 : lv.lookup 0 = some (.ref 1482) := by rw [← elv]; rfl
    have l1 : lv.lookup 1 = some (.int (nI i)) := by rw [← elv]; rfl
    clear elv
    refine m_ald (pc' := 1) cd_Mo_canMake rfl (Or.inr ⟨_, rfl, rfl, rfl⟩) l0 rfl rfl ?_
    refine m_fR (r := 0) (a := 1) (ad := 1483) (pc' := 4) rfl rfl cd_Mo_canMake rfl rfl rfl rfl rfl ?_
    refine m_ild (pc' := 5) cd_Mo_canMake rfl (Or.inr ⟨_, rfl, rfl, rfl⟩) l1 rfl ?_
    refine m_aI (r := 0) (a := 1) (g := (A 1)) (x := 3) (pc' := 6) rfl rfl cd_Mo_canMake rfl rfl rfl (vp_in_nI (by omega) (by decide)) (by rw [(nI_clamp (by omega))]; exact hw) ?_
    refine m_pure (pc' := 56) (st' := []) cd_Mo_canMake rfl rfl (fun _ _ => rfl) ?_
    refine m_ald (pc' := 57) cd_Mo_canMake rfl (Or.inr ⟨_, rfl, rfl, rfl⟩) l0 rfl rfl ?_
    refine m_fR (r := 5) (a := 6) (ad := 1488) (pc' := 60) rfl rfl cd_Mo_canMake rfl rfl rfl rfl rfl ?_
    refine m_ald (pc' := 61) cd_Mo_canMake rfl (Or.inr ⟨_, rfl, rfl, rfl⟩) l0 rfl rfl ?_
    refine m_fR (r := 1) (a := 2) (ad := 1484) (pc' := 64) rfl rfl cd_Mo_canMake rfl rfl rfl rfl rfl ?_
    refine m_ild (pc' := 65) cd_Mo_canMake rfl (Or.inr ⟨_, rfl, rfl, rfl⟩) l1 rfl ?_
    refine m_aI (r := 1) (a := 2) (g := (A 2)) (x := nI p) (pc' := 66) rfl rfl cd_Mo_canMake rfl rfl rfl (vp_in_nI (by omega) (by decide)) (by rw [(nI_clamp (by omega))]; exact a1) ?_
    refine m_bI (r := 5) (a := 6) (g := (A 6)) (x := (cif (W P) (1 : Int32) 0)) (pc' := 67) rfl rfl cd_Mo_canMake rfl rfl rfl (vp_in_nI (by omega) (by decide)) (by rw [(nI_clamp (by omega))]; exact MT_kn hM hp0 a3) ?_
    refine m_if1 (t := 83) (pc' := 70) cd_Mo_canMake rfl rfl rfl (fun c67 => ?_) (fun c67 => ?_)
    · have c67 : (cif (W P) (1 : Int32) 0) = 0 := c67
      refine m_ald (pc' := 84) cd_Mo_canMake rfl (Or.inr ⟨_, rfl, rfl, rfl⟩) l0 rfl rfl ?_
      refine m_fR (r := 5) (a := 6) (ad := 1488) (pc' := 87) rfl rfl cd_Mo_canMake rfl rfl rfl rfl rfl ?_
      refine m_ald (pc' := 88) cd_Mo_canMake rfl (Or.inr ⟨_, rfl, rfl, rfl⟩) l0 rfl rfl ?_
      refine m_fR (r := 2) (a := 3) (ad := 1485) (pc' := 91) rfl rfl cd_Mo_canMake rfl rfl rfl rfl rfl ?_
      refine m_ild (pc' := 92) cd_Mo_canMake rfl (Or.inr ⟨_, rfl, rfl, rfl⟩) l1 rfl ?_
      refine m_aI (r := 2) (a := 3) (g := (A 3)) (x := nI r) (pc' := 93) rfl rfl cd_Mo_canMake rfl rfl rfl (vp_in_nI (by omega) (by decide)) (by rw [(nI_clamp (by omega))]; exact b1) ?_
      refine m_bI (r := 5) (a := 6) (g := (A 6)) (x := (cif (W R) (1 : Int32) 0)) (pc' := 94) rfl rfl cd_Mo_canMake rfl rfl rfl (vp_in_nI (by omega) (by decide)) (by rw [(nI_clamp (by omega))]; exact MT_kn hM hr0 b3) ?_
      refine m_if1 (t := 114) (pc' := 97) cd_Mo_canMake rfl rfl rfl (fun c94 => ?_) (fun c94 => ?_)
      · have c94 : (cif (W R) (1 : Int32) 0) = 0 := c94
        refine m_k1 (v := 0) (pc' := 115) cd_Mo_canMake rfl (by decide) rfl ?_
        exact m_retz cd_Mo_canMake rfl (by decide) ⟨_, rfl, kf (fun q => (hc.mp q).elim (fun z => cz c67 z.1) (fun z => cz c94 z.1))⟩
      · have c94 : ¬ (cif (W R) (1 : Int32) 0) = 0 := c94
        refine m_ald (pc' := 98) cd_Mo_canMake rfl (Or.inr ⟨_, rfl, rfl, rfl⟩) l0 rfl rfl ?_
        refine m_ald (pc' := 99) cd_Mo_canMake rfl (Or.inr ⟨_, rfl, rfl, rfl⟩) l0 rfl rfl ?_
        refine m_fR (r := 1) (a := 2) (ad := 1484) (pc' := 102) rfl rfl cd_Mo_canMake rfl rfl rfl rfl rfl ?_
        refine m_ild (pc' := 103) cd_Mo_canMake rfl (Or.inr ⟨_, rfl, rfl, rfl⟩) l1 rfl ?_
        refine m_aI (r := 1) (a := 2) (g := (A 2)) (x := nI p) (pc' := 104) rfl rfl cd_Mo_canMake rfl rfl rfl (vp_in_nI (by omega) (by decide)) (by rw [(nI_clamp (by omega))]; exact a1) ?_
        refine m_ci (pc' := 107) cd_Mo_canMake rfl rfl rfl rfl rfl cd_Mo_hasPublic rfl (Nat.le_of_ble_eq_true rfl) (m_hasPublic hM a3 kP (fun y104 => ?_) (fun y104 => ?_))
        · skip
          show mg _ _ _ 107 _ [.int 1] _ _
          refine m_if1 (t := 114) (pc' := 110) cd_Mo_canMake rfl rfl rfl (fun c107 => ?_) (fun c107 => ?_)
          · exact absurd (show (1 : Int32) = 0 from c107) (by decide)
          · have c107 : ¬ (1 : Int32) = 0 := c107
            refine m_k1 (v := 1) (pc' := 111) cd_Mo_canMake rfl (by decide) rfl ?_
            refine m_pure (pc' := 115) (st' := [.int 1]) cd_Mo_canMake rfl rfl (fun _ _ => rfl) ?_
            exact m_retz cd_Mo_canMake rfl (by decide) ⟨_, rfl, kt (hc.mpr (Or.inr ⟨cnz c94, y104⟩))⟩
        · skip
          show mg _ _ _ 107 _ [.int 0] _ _
          refine m_if1 (t := 114) (pc' := 110) cd_Mo_canMake rfl rfl rfl (fun c107 => ?_) (fun c107 => ?_)
          · have c107 : (0 : Int32) = 0 := c107
            refine m_k1 (v := 0) (pc' := 115) cd_Mo_canMake rfl (by decide) rfl ?_
            exact m_retz cd_Mo_canMake rfl (by decide) ⟨_, rfl, kf (fun q => (hc.mp q).elim (fun z => cz c67 z.1) (fun z => y104 z.2))⟩
          · exact absurd (show ¬ (0 : Int32) = 0 from c107) (by decide)
    · have c67 : ¬ (cif (W P) (1 : Int32) 0) = 0 := c67
      refine m_ald (pc' := 71) cd_Mo_canMake rfl (Or.inr ⟨_, rfl, rfl, rfl⟩) l0 rfl rfl ?_
      refine m_ald (pc' := 72) cd_Mo_canMake rfl (Or.inr ⟨_, rfl, rfl, rfl⟩) l0 rfl rfl ?_
      refine m_fR (r := 2) (a := 3) (ad := 1485) (pc' := 75) rfl rfl cd_Mo_canMake rfl rfl rfl rfl rfl ?_
      refine m_ild (pc' := 76) cd_Mo_canMake rfl (Or.inr ⟨_, rfl, rfl, rfl⟩) l1 rfl ?_
      refine m_aI (r := 2) (a := 3) (g := (A 3)) (x := nI r) (pc' := 77) rfl rfl cd_Mo_canMake rfl rfl rfl (vp_in_nI (by omega) (by decide)) (by rw [(nI_clamp (by omega))]; exact b1) ?_
      refine m_ci (pc' := 80) cd_Mo_canMake rfl rfl rfl rfl rfl cd_Mo_hasPublic rfl (Nat.le_of_ble_eq_true rfl) (m_hasPublic hM b3 kR (fun y77 => ?_) (fun y77 => ?_))
      · skip
        show mg _ _ _ 80 _ [.int 1] _ _
        refine m_if1 (t := 110) (pc' := 83) cd_Mo_canMake rfl rfl rfl (fun c80 => ?_) (fun c80 => ?_)
        · have c80 : ¬ (1 : Int32) = 0 := c80
          refine m_k1 (v := 1) (pc' := 111) cd_Mo_canMake rfl (by decide) rfl ?_
          refine m_pure (pc' := 115) (st' := [.int 1]) cd_Mo_canMake rfl rfl (fun _ _ => rfl) ?_
          exact m_retz cd_Mo_canMake rfl (by decide) ⟨_, rfl, kt (hc.mpr (Or.inl ⟨cnz c67, y77⟩))⟩
        · exact absurd (show ¬ (¬ (1 : Int32) = 0) from c80) (by decide)
      · skip
        show mg _ _ _ 80 _ [.int 0] _ _
        refine m_if1 (t := 110) (pc' := 83) cd_Mo_canMake rfl rfl rfl (fun c80 => ?_) (fun c80 => ?_)
        · exact absurd (show ¬ (0 : Int32) = 0 from c80) (by decide)
        · have c80 : (0 : Int32) = 0 := Classical.not_not.mp c80
          refine m_ald (pc' := 84) cd_Mo_canMake rfl (Or.inr ⟨_, rfl, rfl, rfl⟩) l0 rfl rfl ?_
          refine m_fR (r := 5) (a := 6) (ad := 1488) (pc' := 87) rfl rfl cd_Mo_canMake rfl rfl rfl rfl rfl ?_
          refine m_ald (pc' := 88) cd_Mo_canMake rfl (Or.inr ⟨_, rfl, rfl, rfl⟩) l0 rfl rfl ?_
          refine m_fR (r := 2) (a := 3) (ad := 1485) (pc' := 91) rfl rfl cd_Mo_canMake rfl rfl rfl rfl rfl ?_
          refine m_ild (pc' := 92) cd_Mo_canMake rfl (Or.inr ⟨_, rfl, rfl, rfl⟩) l1 rfl ?_
          refine m_aI (r := 2) (a := 3) (g := (A 3)) (x := nI r) (pc' := 93) rfl rfl cd_Mo_canMake rfl rfl rfl (vp_in_nI (by omega) (by decide)) (by rw [(nI_clamp (by omega))]; exact b1) ?_
          refine m_bI (r := 5) (a := 6) (g := (A 6)) (x := (cif (W R) (1 : Int32) 0)) (pc' := 94) rfl rfl cd_Mo_canMake rfl rfl rfl (vp_in_nI (by omega) (by decide)) (by rw [(nI_clamp (by omega))]; exact MT_kn hM hr0 b3) ?_
          refine m_if1 (t := 114) (pc' := 97) cd_Mo_canMake rfl rfl rfl (fun c94 => ?_) (fun c94 => ?_)
          · have c94 : (cif (W R) (1 : Int32) 0) = 0 := c94
            refine m_k1 (v := 0) (pc' := 115) cd_Mo_canMake rfl (by decide) rfl ?_
            exact m_retz cd_Mo_canMake rfl (by decide) ⟨_, rfl, kf (fun q => (hc.mp q).elim (fun z => y77 z.2) (fun z => cz c94 z.1))⟩
          · have c94 : ¬ (cif (W R) (1 : Int32) 0) = 0 := c94
            refine m_ald (pc' := 98) cd_Mo_canMake rfl (Or.inr ⟨_, rfl, rfl, rfl⟩) l0 rfl rfl ?_
            refine m_ald (pc' := 99) cd_Mo_canMake rfl (Or.inr ⟨_, rfl, rfl, rfl⟩) l0 rfl rfl ?_
            refine m_fR (r := 1) (a := 2) (ad := 1484) (pc' := 102) rfl rfl cd_Mo_canMake rfl rfl rfl rfl rfl ?_
            refine m_ild (pc' := 103) cd_Mo_canMake rfl (Or.inr ⟨_, rfl, rfl, rfl⟩) l1 rfl ?_
            refine m_aI (r := 1) (a := 2) (g := (A 2)) (x := nI p) (pc' := 104) rfl rfl cd_Mo_canMake rfl rfl rfl (vp_in_nI (by omega) (by decide)) (by rw [(nI_clamp (by omega))]; exact a1) ?_
            refine m_ci (pc' := 107) cd_Mo_canMake rfl rfl rfl rfl rfl cd_Mo_hasPublic rfl (Nat.le_of_ble_eq_true rfl) (m_hasPublic hM a3 kP (fun y104 => ?_) (fun y104 => ?_))
            · skip
              show mg _ _ _ 107 _ [.int 1] _ _
              refine m_if1 (t := 114) (pc' := 110) cd_Mo_canMake rfl rfl rfl (fun c107 => ?_) (fun c107 => ?_)
              · exact absurd (show (1 : Int32) = 0 from c107) (by decide)
              · have c107 : ¬ (1 : Int32) = 0 := c107
                refine m_k1 (v := 1) (pc' := 111) cd_Mo_canMake rfl (by decide) rfl ?_
                refine m_pure (pc' := 115) (st' := [.int 1]) cd_Mo_canMake rfl rfl (fun _ _ => rfl) ?_
                exact m_retz cd_Mo_canMake rfl (by decide) ⟨_, rfl, kt (hc.mpr (Or.inr ⟨cnz c94, y104⟩))⟩
            · skip
              show mg _ _ _ 107 _ [.int 0] _ _
              refine m_if1 (t := 114) (pc' := 110) cd_Mo_canMake rfl rfl rfl (fun c107 => ?_) (fun c107 => ?_)
              · have c107 : (0 : Int32) = 0 := c107
                refine m_k1 (v := 0) (pc' := 115) cd_Mo_canMake rfl (by decide) rfl ?_
                exact m_retz cd_Mo_canMake rfl (by decide) ⟨_, rfl, kf (fun q => (hc.mp q).elim (fun z => y77 z.2) (fun z => y104 z.2))⟩
              · exact absurd (show ¬ (0 : Int32) = 0 from c107) (by decide)
  · skip
    have hc := cm4 (W := W) (A := (Tmx n P R)) rfl
    show mg sc (d + 3) 271 0 [(0, .ref 1482), (1, .int (nI i))] [] (f, A) _
    generalize elv : ([(0, .ref 1482), (1, .int (nI i))] : tm_L) = lv
    have l0 : lv.lookup 0 = some (.ref 1482) := by rw [← elv]; rfl
    have l1 : lv.lookup 1 = some (.int (nI i)) := by rw [← elv]; rfl
    clear elv
    refine m_ald (pc' := 1) cd_Mo_canMake rfl (Or.inr ⟨_, rfl, rfl, rfl⟩) l0 rfl rfl ?_
    refine m_fR (r := 0) (a := 1) (ad := 1483) (pc' := 4) rfl rfl cd_Mo_canMake rfl rfl rfl rfl rfl ?_
    refine m_ild (pc' := 5) cd_Mo_canMake rfl (Or.inr ⟨_, rfl, rfl, rfl⟩) l1 rfl ?_
    refine m_aI (r := 0) (a := 1) (g := (A 1)) (x := 4) (pc' := 6) rfl rfl cd_Mo_canMake rfl rfl rfl (vp_in_nI (by omega) (by decide)) (by rw [(nI_clamp (by omega))]; exact hw) ?_
    refine m_pure (pc' := 116) (st' := []) cd_Mo_canMake rfl rfl (fun _ _ => rfl) ?_
    refine m_ald (pc' := 117) cd_Mo_canMake rfl (Or.inr ⟨_, rfl, rfl, rfl⟩) l0 rfl rfl ?_
    refine m_ald (pc' := 118) cd_Mo_canMake rfl (Or.inr ⟨_, rfl, rfl, rfl⟩) l0 rfl rfl ?_
    refine m_fR (r := 2) (a := 3) (ad := 1485) (pc' := 121) rfl rfl cd_Mo_canMake rfl rfl rfl rfl rfl ?_
    refine m_ild (pc' := 122) cd_Mo_canMake rfl (Or.inr ⟨_, rfl, rfl, rfl⟩) l1 rfl ?_
    refine m_aI (r := 2) (a := 3) (g := (A 3)) (x := nI p) (pc' := 123) rfl rfl cd_Mo_canMake rfl rfl rfl (vp_in_nI (by omega) (by decide)) (by rw [(nI_clamp (by omega))]; exact a1) ?_
    refine m_ci (pc' := 126) cd_Mo_canMake rfl rfl rfl rfl rfl cd_Mo_has rfl (Nat.le_of_ble_eq_true rfl) (m_has hM a3 (fun y123 => ?_) (fun y123 => ?_))
    · skip
      show mg _ _ _ 126 _ [.int 1] _ _
      refine m_if1 (t := 146) (pc' := 129) cd_Mo_canMake rfl rfl rfl (fun c126 => ?_) (fun c126 => ?_)
      · exact absurd (show (1 : Int32) = 0 from c126) (by decide)
      · have c126 : ¬ (1 : Int32) = 0 := c126
        refine m_ald (pc' := 130) cd_Mo_canMake rfl (Or.inr ⟨_, rfl, rfl, rfl⟩) l0 rfl rfl ?_
        refine m_ald (pc' := 131) cd_Mo_canMake rfl (Or.inr ⟨_, rfl, rfl, rfl⟩) l0 rfl rfl ?_
        refine m_fR (r := 3) (a := 4) (ad := 1486) (pc' := 134) rfl rfl cd_Mo_canMake rfl rfl rfl rfl rfl ?_
        refine m_ild (pc' := 135) cd_Mo_canMake rfl (Or.inr ⟨_, rfl, rfl, rfl⟩) l1 rfl ?_
        refine m_aI (r := 3) (a := 4) (g := (A 4)) (x := nI r) (pc' := 136) rfl rfl cd_Mo_canMake rfl rfl rfl (vp_in_nI (by omega) (by decide)) (by rw [(nI_clamp (by omega))]; exact b1) ?_
        refine m_ci (pc' := 139) cd_Mo_canMake rfl rfl rfl rfl rfl cd_Mo_has rfl (Nat.le_of_ble_eq_true rfl) (m_has hM b3 (fun y136 => ?_) (fun y136 => ?_))
        · skip
          show mg _ _ _ 139 _ [.int 1] _ _
          refine m_if1 (t := 146) (pc' := 142) cd_Mo_canMake rfl rfl rfl (fun c139 => ?_) (fun c139 => ?_)
          · exact absurd (show (1 : Int32) = 0 from c139) (by decide)
          · have c139 : ¬ (1 : Int32) = 0 := c139
            refine m_k1 (v := 1) (pc' := 143) cd_Mo_canMake rfl (by decide) rfl ?_
            refine m_pure (pc' := 147) (st' := [.int 1]) cd_Mo_canMake rfl rfl (fun _ _ => rfl) ?_
            exact m_retz cd_Mo_canMake rfl (by decide) ⟨_, rfl, kt (hc.mpr ⟨y123, y136⟩)⟩
        · skip
          show mg _ _ _ 139 _ [.int 0] _ _
          refine m_if1 (t := 146) (pc' := 142) cd_Mo_canMake rfl rfl rfl (fun c139 => ?_) (fun c139 => ?_)
          · have c139 : (0 : Int32) = 0 := c139
            refine m_k1 (v := 0) (pc' := 147) cd_Mo_canMake rfl (by decide) rfl ?_
            exact m_retz cd_Mo_canMake rfl (by decide) ⟨_, rfl, kf (fun z => y136 (hc.mp z).2)⟩
          · exact absurd (show ¬ (0 : Int32) = 0 from c139) (by decide)
    · skip
      show mg _ _ _ 126 _ [.int 0] _ _
      refine m_if1 (t := 146) (pc' := 129) cd_Mo_canMake rfl rfl rfl (fun c126 => ?_) (fun c126 => ?_)
      · have c126 : (0 : Int32) = 0 := c126
        refine m_k1 (v := 0) (pc' := 147) cd_Mo_canMake rfl (by decide) rfl ?_
        exact m_retz cd_Mo_canMake rfl (by decide) ⟨_, rfl, kf (fun z => y123 (hc.mp z).1)⟩
      · exact absurd (show ¬ (0 : Int32) = 0 from c126) (by decide)
  · skip
    have hp0 := MT_pos hM a3 a4
    have hr0 := MT_pos hM b3 b4
    have hpl := tv_lt a3
    have hrl := tv_lt b3
    have hu0 := MT_pos hM c3 c4
    have hul := tv_lt c3
    have hc := cm5 (W := W) (A := (Tsl P R S)) rfl
    show mg sc (d + 3) 271 0 [(0, .ref 1482), (1, .int (nI i))] [] (f, A) _
    generalize elv : ([(0, .ref 1482), (1, .int (nI i))] : tm_L) = lv
    have l0 : lv.lookup 0 = some (.ref 1482) := by rw [← elv]; rfl
    have l1 : lv.lookup 1 = some (.int (nI i)) := by rw [← elv]; rfl
    clear elv
    refine m_ald (pc' := 1) cd_Mo_canMake rfl (Or.inr ⟨_, rfl, rfl, rfl⟩) l0 rfl rfl ?_
    refine m_fR (r := 0) (a := 1) (ad := 1483) (pc' := 4) rfl rfl cd_Mo_canMake rfl rfl rfl rfl rfl ?_
    refine m_ild (pc' := 5) cd_Mo_canMake rfl (Or.inr ⟨_, rfl, rfl, rfl⟩) l1 rfl ?_
    refine m_aI (r := 0) (a := 1) (g := (A 1)) (x := 5) (pc' := 6) rfl rfl cd_Mo_canMake rfl rfl rfl (vp_in_nI (by omega) (by decide)) (by rw [(nI_clamp (by omega))]; exact hw) ?_
    refine m_pure (pc' := 148) (st' := []) cd_Mo_canMake rfl rfl (fun _ _ => rfl) ?_
    refine m_ald (pc' := 149) cd_Mo_canMake rfl (Or.inr ⟨_, rfl, rfl, rfl⟩) l0 rfl rfl ?_
    refine m_fR (r := 5) (a := 6) (ad := 1488) (pc' := 152) rfl rfl cd_Mo_canMake rfl rfl rfl rfl rfl ?_
    refine m_ald (pc' := 153) cd_Mo_canMake rfl (Or.inr ⟨_, rfl, rfl, rfl⟩) l0 rfl rfl ?_
    refine m_fR (r := 1) (a := 2) (ad := 1484) (pc' := 156) rfl rfl cd_Mo_canMake rfl rfl rfl rfl rfl ?_
    refine m_ild (pc' := 157) cd_Mo_canMake rfl (Or.inr ⟨_, rfl, rfl, rfl⟩) l1 rfl ?_
    refine m_aI (r := 1) (a := 2) (g := (A 2)) (x := nI p) (pc' := 158) rfl rfl cd_Mo_canMake rfl rfl rfl (vp_in_nI (by omega) (by decide)) (by rw [(nI_clamp (by omega))]; exact a1) ?_
    refine m_bI (r := 5) (a := 6) (g := (A 6)) (x := (cif (W P) (1 : Int32) 0)) (pc' := 159) rfl rfl cd_Mo_canMake rfl rfl rfl (vp_in_nI (by omega) (by decide)) (by rw [(nI_clamp (by omega))]; exact MT_kn hM hp0 a3) ?_
    refine m_if1 (t := 194) (pc' := 162) cd_Mo_canMake rfl rfl rfl (fun c159 => ?_) (fun c159 => ?_)
    · have c159 : (cif (W P) (1 : Int32) 0) = 0 := c159
      refine m_k1 (v := 0) (pc' := 195) cd_Mo_canMake rfl (by decide) rfl ?_
      exact m_retz cd_Mo_canMake rfl (by decide) ⟨_, rfl, kf (fun z => cz c159 (hc.mp z).1)⟩
    · have c159 : ¬ (cif (W P) (1 : Int32) 0) = 0 := c159
      refine m_ald (pc' := 163) cd_Mo_canMake rfl (Or.inr ⟨_, rfl, rfl, rfl⟩) l0 rfl rfl ?_
      refine m_fR (r := 5) (a := 6) (ad := 1488) (pc' := 166) rfl rfl cd_Mo_canMake rfl rfl rfl rfl rfl ?_
      refine m_ald (pc' := 167) cd_Mo_canMake rfl (Or.inr ⟨_, rfl, rfl, rfl⟩) l0 rfl rfl ?_
      refine m_fR (r := 2) (a := 3) (ad := 1485) (pc' := 170) rfl rfl cd_Mo_canMake rfl rfl rfl rfl rfl ?_
      refine m_ild (pc' := 171) cd_Mo_canMake rfl (Or.inr ⟨_, rfl, rfl, rfl⟩) l1 rfl ?_
      refine m_aI (r := 2) (a := 3) (g := (A 3)) (x := nI r) (pc' := 172) rfl rfl cd_Mo_canMake rfl rfl rfl (vp_in_nI (by omega) (by decide)) (by rw [(nI_clamp (by omega))]; exact b1) ?_
      refine m_bI (r := 5) (a := 6) (g := (A 6)) (x := (cif (W R) (1 : Int32) 0)) (pc' := 173) rfl rfl cd_Mo_canMake rfl rfl rfl (vp_in_nI (by omega) (by decide)) (by rw [(nI_clamp (by omega))]; exact MT_kn hM hr0 b3) ?_
      refine m_if1 (t := 194) (pc' := 176) cd_Mo_canMake rfl rfl rfl (fun c173 => ?_) (fun c173 => ?_)
      · have c173 : (cif (W R) (1 : Int32) 0) = 0 := c173
        refine m_k1 (v := 0) (pc' := 195) cd_Mo_canMake rfl (by decide) rfl ?_
        exact m_retz cd_Mo_canMake rfl (by decide) ⟨_, rfl, kf (fun z => cz c173 (hc.mp z).2.1)⟩
      · have c173 : ¬ (cif (W R) (1 : Int32) 0) = 0 := c173
        refine m_ald (pc' := 177) cd_Mo_canMake rfl (Or.inr ⟨_, rfl, rfl, rfl⟩) l0 rfl rfl ?_
        refine m_fR (r := 5) (a := 6) (ad := 1488) (pc' := 180) rfl rfl cd_Mo_canMake rfl rfl rfl rfl rfl ?_
        refine m_ald (pc' := 181) cd_Mo_canMake rfl (Or.inr ⟨_, rfl, rfl, rfl⟩) l0 rfl rfl ?_
        refine m_fR (r := 3) (a := 4) (ad := 1486) (pc' := 184) rfl rfl cd_Mo_canMake rfl rfl rfl rfl rfl ?_
        refine m_ild (pc' := 185) cd_Mo_canMake rfl (Or.inr ⟨_, rfl, rfl, rfl⟩) l1 rfl ?_
        refine m_aI (r := 3) (a := 4) (g := (A 4)) (x := nI u) (pc' := 186) rfl rfl cd_Mo_canMake rfl rfl rfl (vp_in_nI (by omega) (by decide)) (by rw [(nI_clamp (by omega))]; exact c1) ?_
        refine m_bI (r := 5) (a := 6) (g := (A 6)) (x := (cif (W S) (1 : Int32) 0)) (pc' := 187) rfl rfl cd_Mo_canMake rfl rfl rfl (vp_in_nI (by omega) (by decide)) (by rw [(nI_clamp (by omega))]; exact MT_kn hM hu0 c3) ?_
        refine m_if1 (t := 194) (pc' := 190) cd_Mo_canMake rfl rfl rfl (fun c187 => ?_) (fun c187 => ?_)
        · have c187 : (cif (W S) (1 : Int32) 0) = 0 := c187
          refine m_k1 (v := 0) (pc' := 195) cd_Mo_canMake rfl (by decide) rfl ?_
          exact m_retz cd_Mo_canMake rfl (by decide) ⟨_, rfl, kf (fun z => cz c187 (hc.mp z).2.2)⟩
        · have c187 : ¬ (cif (W S) (1 : Int32) 0) = 0 := c187
          refine m_k1 (v := 1) (pc' := 191) cd_Mo_canMake rfl (by decide) rfl ?_
          refine m_pure (pc' := 195) (st' := [.int 1]) cd_Mo_canMake rfl rfl (fun _ _ => rfl) ?_
          exact m_retz cd_Mo_canMake rfl (by decide) ⟨_, rfl, kt (hc.mpr ⟨cnz c159, cnz c173, cnz c187⟩)⟩
  · skip
    have hp0 := MT_pos hM a3 a4
    have hr0 := MT_pos hM b3 b4
    have hpl := tv_lt a3
    have hrl := tv_lt b3
    have hc := cm6 (W := W) (A := (Tsg P R)) rfl
    show mg sc (d + 3) 271 0 [(0, .ref 1482), (1, .int (nI i))] [] (f, A) _
    generalize elv : ([(0, .ref 1482), (1, .int (nI i))] : tm_L) = lv
    have l0 : lv.lookup 0 = some (.ref 1482) := by rw [← elv]; rfl
    have l1 : lv.lookup 1 = some (.int (nI i)) := by rw [← elv]; rfl
    clear elv
    refine m_ald (pc' := 1) cd_Mo_canMake rfl (Or.inr ⟨_, rfl, rfl, rfl⟩) l0 rfl rfl ?_
    refine m_fR (r := 0) (a := 1) (ad := 1483) (pc' := 4) rfl rfl cd_Mo_canMake rfl rfl rfl rfl rfl ?_
    refine m_ild (pc' := 5) cd_Mo_canMake rfl (Or.inr ⟨_, rfl, rfl, rfl⟩) l1 rfl ?_
    refine m_aI (r := 0) (a := 1) (g := (A 1)) (x := 6) (pc' := 6) rfl rfl cd_Mo_canMake rfl rfl rfl (vp_in_nI (by omega) (by decide)) (by rw [(nI_clamp (by omega))]; exact hw) ?_
    refine m_pure (pc' := 196) (st' := []) cd_Mo_canMake rfl rfl (fun _ _ => rfl) ?_
    refine m_ald (pc' := 197) cd_Mo_canMake rfl (Or.inr ⟨_, rfl, rfl, rfl⟩) l0 rfl rfl ?_
    refine m_fR (r := 5) (a := 6) (ad := 1488) (pc' := 200) rfl rfl cd_Mo_canMake rfl rfl rfl rfl rfl ?_
    refine m_ald (pc' := 201) cd_Mo_canMake rfl (Or.inr ⟨_, rfl, rfl, rfl⟩) l0 rfl rfl ?_
    refine m_fR (r := 1) (a := 2) (ad := 1484) (pc' := 204) rfl rfl cd_Mo_canMake rfl rfl rfl rfl rfl ?_
    refine m_ild (pc' := 205) cd_Mo_canMake rfl (Or.inr ⟨_, rfl, rfl, rfl⟩) l1 rfl ?_
    refine m_aI (r := 1) (a := 2) (g := (A 2)) (x := nI p) (pc' := 206) rfl rfl cd_Mo_canMake rfl rfl rfl (vp_in_nI (by omega) (by decide)) (by rw [(nI_clamp (by omega))]; exact a1) ?_
    refine m_bI (r := 5) (a := 6) (g := (A 6)) (x := (cif (W P) (1 : Int32) 0)) (pc' := 207) rfl rfl cd_Mo_canMake rfl rfl rfl (vp_in_nI (by omega) (by decide)) (by rw [(nI_clamp (by omega))]; exact MT_kn hM hp0 a3) ?_
    refine m_if1 (t := 228) (pc' := 210) cd_Mo_canMake rfl rfl rfl (fun c207 => ?_) (fun c207 => ?_)
    · have c207 : (cif (W P) (1 : Int32) 0) = 0 := c207
      refine m_k1 (v := 0) (pc' := 229) cd_Mo_canMake rfl (by decide) rfl ?_
      exact m_retz cd_Mo_canMake rfl (by decide) ⟨_, rfl, kf (fun z => cz c207 (hc.mp z).1)⟩
    · have c207 : ¬ (cif (W P) (1 : Int32) 0) = 0 := c207
      refine m_ald (pc' := 211) cd_Mo_canMake rfl (Or.inr ⟨_, rfl, rfl, rfl⟩) l0 rfl rfl ?_
      refine m_fR (r := 5) (a := 6) (ad := 1488) (pc' := 214) rfl rfl cd_Mo_canMake rfl rfl rfl rfl rfl ?_
      refine m_ald (pc' := 215) cd_Mo_canMake rfl (Or.inr ⟨_, rfl, rfl, rfl⟩) l0 rfl rfl ?_
      refine m_fR (r := 2) (a := 3) (ad := 1485) (pc' := 218) rfl rfl cd_Mo_canMake rfl rfl rfl rfl rfl ?_
      refine m_ild (pc' := 219) cd_Mo_canMake rfl (Or.inr ⟨_, rfl, rfl, rfl⟩) l1 rfl ?_
      refine m_aI (r := 2) (a := 3) (g := (A 3)) (x := nI r) (pc' := 220) rfl rfl cd_Mo_canMake rfl rfl rfl (vp_in_nI (by omega) (by decide)) (by rw [(nI_clamp (by omega))]; exact b1) ?_
      refine m_bI (r := 5) (a := 6) (g := (A 6)) (x := (cif (W R) (1 : Int32) 0)) (pc' := 221) rfl rfl cd_Mo_canMake rfl rfl rfl (vp_in_nI (by omega) (by decide)) (by rw [(nI_clamp (by omega))]; exact MT_kn hM hr0 b3) ?_
      refine m_if1 (t := 228) (pc' := 224) cd_Mo_canMake rfl rfl rfl (fun c221 => ?_) (fun c221 => ?_)
      · have c221 : (cif (W R) (1 : Int32) 0) = 0 := c221
        refine m_k1 (v := 0) (pc' := 229) cd_Mo_canMake rfl (by decide) rfl ?_
        exact m_retz cd_Mo_canMake rfl (by decide) ⟨_, rfl, kf (fun z => cz c221 (hc.mp z).2)⟩
      · have c221 : ¬ (cif (W R) (1 : Int32) 0) = 0 := c221
        refine m_k1 (v := 1) (pc' := 225) cd_Mo_canMake rfl (by decide) rfl ?_
        refine m_pure (pc' := 229) (st' := [.int 1]) cd_Mo_canMake rfl rfl (fun _ _ => rfl) ?_
        exact m_retz cd_Mo_canMake rfl (by decide) ⟨_, rfl, kt (hc.mpr ⟨cnz c207, cnz c221⟩)⟩
  · skip
    have hc := cm7 (W := W) (A := (Trw n n0 n1 n2 n3 P0 P1 P2 P3)) rfl
    show mg sc (d + 3) 271 0 [(0, .ref 1482), (1, .int (nI i))] [] (f, A) _
    generalize elv : ([(0, .ref 1482), (1, .int (nI i))] : tm_L) = lv
    have l0 : lv.lookup 0 = some (.ref 1482) := by rw [← elv]; rfl
    have l1 : lv.lookup 1 = some (.int (nI i)) := by rw [← elv]; rfl
    clear elv
    refine m_ald (pc' := 1) cd_Mo_canMake rfl (Or.inr ⟨_, rfl, rfl, rfl⟩) l0 rfl rfl ?_
    refine m_fR (r := 0) (a := 1) (ad := 1483) (pc' := 4) rfl rfl cd_Mo_canMake rfl rfl rfl rfl rfl ?_
    refine m_ild (pc' := 5) cd_Mo_canMake rfl (Or.inr ⟨_, rfl, rfl, rfl⟩) l1 rfl ?_
    refine m_aI (r := 0) (a := 1) (g := (A 1)) (x := 7) (pc' := 6) rfl rfl cd_Mo_canMake rfl rfl rfl (vp_in_nI (by omega) (by decide)) (by rw [(nI_clamp (by omega))]; exact hw) ?_
    refine m_pure (pc' := 230) (st' := []) cd_Mo_canMake rfl rfl (fun _ _ => rfl) ?_
    refine m_ald (pc' := 231) cd_Mo_canMake rfl (Or.inr ⟨_, rfl, rfl, rfl⟩) l0 rfl rfl ?_
    refine m_ald (pc' := 232) cd_Mo_canMake rfl (Or.inr ⟨_, rfl, rfl, rfl⟩) l0 rfl rfl ?_
    refine m_ild (pc' := 233) cd_Mo_canMake rfl (Or.inr ⟨_, rfl, rfl, rfl⟩) l1 rfl ?_
    refine m_k1 (v := 4) (pc' := 234) cd_Mo_canMake rfl (by decide) rfl ?_
    refine m_ci (pc' := 237) cd_Mo_canMake rfl rfl rfl rfl rfl cd_Mo_cell rfl (Nat.le_of_ble_eq_true rfl) (m_cellV (k := 4) hM hX rfl (by decide) a1 ?_)
    show mg _ _ _ 237 _ [.int (nI p), .ref 1482] _ _
    refine m_ci (pc' := 240) cd_Mo_canMake rfl rfl rfl rfl rfl cd_Mo_has rfl (Nat.le_of_ble_eq_true rfl) (m_has hM a3 (fun y237 => ?_) (fun y237 => ?_))
    · skip
      show mg _ _ _ 240 _ [.int 1] _ _
      refine m_if1 (t := 288) (pc' := 243) cd_Mo_canMake rfl rfl rfl (fun c240 => ?_) (fun c240 => ?_)
      · exact absurd (show (1 : Int32) = 0 from c240) (by decide)
      · have c240 : ¬ (1 : Int32) = 0 := c240
        refine m_ald (pc' := 244) cd_Mo_canMake rfl (Or.inr ⟨_, rfl, rfl, rfl⟩) l0 rfl rfl ?_
        refine m_ald (pc' := 245) cd_Mo_canMake rfl (Or.inr ⟨_, rfl, rfl, rfl⟩) l0 rfl rfl ?_
        refine m_ild (pc' := 246) cd_Mo_canMake rfl (Or.inr ⟨_, rfl, rfl, rfl⟩) l1 rfl ?_
        refine m_k1 (v := 5) (pc' := 247) cd_Mo_canMake rfl (by decide) rfl ?_
        refine m_ci (pc' := 250) cd_Mo_canMake rfl rfl rfl rfl rfl cd_Mo_cell rfl (Nat.le_of_ble_eq_true rfl) (m_cellV (k := 5) hM hX rfl (by decide) b1 ?_)
        show mg _ _ _ 250 _ [.int (nI r), .ref 1482] _ _
        refine m_ci (pc' := 253) cd_Mo_canMake rfl rfl rfl rfl rfl cd_Mo_has rfl (Nat.le_of_ble_eq_true rfl) (m_has hM b3 (fun y250 => ?_) (fun y250 => ?_))
        · skip
          show mg _ _ _ 253 _ [.int 1] _ _
          refine m_if1 (t := 288) (pc' := 256) cd_Mo_canMake rfl rfl rfl (fun c253 => ?_) (fun c253 => ?_)
          · exact absurd (show (1 : Int32) = 0 from c253) (by decide)
          · have c253 : ¬ (1 : Int32) = 0 := c253
            refine m_ald (pc' := 257) cd_Mo_canMake rfl (Or.inr ⟨_, rfl, rfl, rfl⟩) l0 rfl rfl ?_
            refine m_ald (pc' := 258) cd_Mo_canMake rfl (Or.inr ⟨_, rfl, rfl, rfl⟩) l0 rfl rfl ?_
            refine m_ild (pc' := 259) cd_Mo_canMake rfl (Or.inr ⟨_, rfl, rfl, rfl⟩) l1 rfl ?_
            refine m_k2 (v := 6) (pc' := 261) cd_Mo_canMake rfl (by decide) rfl ?_
            refine m_ci (pc' := 264) cd_Mo_canMake rfl rfl rfl rfl rfl cd_Mo_cell rfl (Nat.le_of_ble_eq_true rfl) (m_cellV (k := 6) hM hX rfl (by decide) c1 ?_)
            show mg _ _ _ 264 _ [.int (nI u), .ref 1482] _ _
            refine m_ci (pc' := 267) cd_Mo_canMake rfl rfl rfl rfl rfl cd_Mo_has rfl (Nat.le_of_ble_eq_true rfl) (m_has hM c3 (fun y264 => ?_) (fun y264 => ?_))
            · skip
              show mg _ _ _ 267 _ [.int 1] _ _
              refine m_if1 (t := 288) (pc' := 270) cd_Mo_canMake rfl rfl rfl (fun c267 => ?_) (fun c267 => ?_)
              · exact absurd (show (1 : Int32) = 0 from c267) (by decide)
              · have c267 : ¬ (1 : Int32) = 0 := c267
                refine m_ald (pc' := 271) cd_Mo_canMake rfl (Or.inr ⟨_, rfl, rfl, rfl⟩) l0 rfl rfl ?_
                refine m_ald (pc' := 272) cd_Mo_canMake rfl (Or.inr ⟨_, rfl, rfl, rfl⟩) l0 rfl rfl ?_
                refine m_ild (pc' := 273) cd_Mo_canMake rfl (Or.inr ⟨_, rfl, rfl, rfl⟩) l1 rfl ?_
                refine m_k2 (v := 7) (pc' := 275) cd_Mo_canMake rfl (by decide) rfl ?_
                refine m_ci (pc' := 278) cd_Mo_canMake rfl rfl rfl rfl rfl cd_Mo_cell rfl (Nat.le_of_ble_eq_true rfl) (m_cellV (k := 7) hM hX rfl (by decide) d1 ?_)
                show mg _ _ _ 278 _ [.int (nI x), .ref 1482] _ _
                refine m_ci (pc' := 281) cd_Mo_canMake rfl rfl rfl rfl rfl cd_Mo_has rfl (Nat.le_of_ble_eq_true rfl) (m_has hM d3 (fun y278 => ?_) (fun y278 => ?_))
                · skip
                  show mg _ _ _ 281 _ [.int 1] _ _
                  refine m_if1 (t := 288) (pc' := 284) cd_Mo_canMake rfl rfl rfl (fun c281 => ?_) (fun c281 => ?_)
                  · exact absurd (show (1 : Int32) = 0 from c281) (by decide)
                  · have c281 : ¬ (1 : Int32) = 0 := c281
                    refine m_k1 (v := 1) (pc' := 285) cd_Mo_canMake rfl (by decide) rfl ?_
                    refine m_pure (pc' := 289) (st' := [.int 1]) cd_Mo_canMake rfl rfl (fun _ _ => rfl) ?_
                    exact m_retz cd_Mo_canMake rfl (by decide) ⟨_, rfl, kt (hc.mpr ⟨y237, y250, y264, y278⟩)⟩
                · skip
                  show mg _ _ _ 281 _ [.int 0] _ _
                  refine m_if1 (t := 288) (pc' := 284) cd_Mo_canMake rfl rfl rfl (fun c281 => ?_) (fun c281 => ?_)
                  · have c281 : (0 : Int32) = 0 := c281
                    refine m_k1 (v := 0) (pc' := 289) cd_Mo_canMake rfl (by decide) rfl ?_
                    exact m_retz cd_Mo_canMake rfl (by decide) ⟨_, rfl, kf (fun z => y278 (hc.mp z).2.2.2)⟩
                  · exact absurd (show ¬ (0 : Int32) = 0 from c281) (by decide)
            · skip
              show mg _ _ _ 267 _ [.int 0] _ _
              refine m_if1 (t := 288) (pc' := 270) cd_Mo_canMake rfl rfl rfl (fun c267 => ?_) (fun c267 => ?_)
              · have c267 : (0 : Int32) = 0 := c267
                refine m_k1 (v := 0) (pc' := 289) cd_Mo_canMake rfl (by decide) rfl ?_
                exact m_retz cd_Mo_canMake rfl (by decide) ⟨_, rfl, kf (fun z => y264 (hc.mp z).2.2.1)⟩
              · exact absurd (show ¬ (0 : Int32) = 0 from c267) (by decide)
        · skip
          show mg _ _ _ 253 _ [.int 0] _ _
          refine m_if1 (t := 288) (pc' := 256) cd_Mo_canMake rfl rfl rfl (fun c253 => ?_) (fun c253 => ?_)
          · have c253 : (0 : Int32) = 0 := c253
            refine m_k1 (v := 0) (pc' := 289) cd_Mo_canMake rfl (by decide) rfl ?_
            exact m_retz cd_Mo_canMake rfl (by decide) ⟨_, rfl, kf (fun z => y250 (hc.mp z).2.1)⟩
          · exact absurd (show ¬ (0 : Int32) = 0 from c253) (by decide)
    · skip
      show mg _ _ _ 240 _ [.int 0] _ _
      refine m_if1 (t := 288) (pc' := 243) cd_Mo_canMake rfl rfl rfl (fun c240 => ?_) (fun c240 => ?_)
      · have c240 : (0 : Int32) = 0 := c240
        refine m_k1 (v := 0) (pc' := 289) cd_Mo_canMake rfl (by decide) rfl ?_
        exact m_retz cd_Mo_canMake rfl (by decide) ⟨_, rfl, kf (fun z => y237 (hc.mp z).1)⟩
      · exact absurd (show ¬ (0 : Int32) = 0 from c240) (by decide)
