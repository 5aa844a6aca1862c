/-! The reference: drawn, give, forget; rows read -/
def drA (A : Nat → Nat → Int32) (n : Nat) (ck by' rt : Int32) : Nat → Nat → Int32 := fset (fset (fset (fset A 10 (upd (A 10) n ck)) 11 (upd (A 11) n by')) 12 (upd (A 12) n rt)) 13 (upd (A 13) n (-1))
theorem MT_G {f : Nat → Int32} {A : Nat → Nat → Int32} {T : List Tm} {DL : List (Int32 × Int32)} {G W : Tm → Prop} (hM : MT f A T DL G W) {G' W' : Tm → Prop} (h : ∀ y, G y ↔ G' y) (h2 : ∀ y, W y ↔ W' y) : MT f A T DL G' W' := by
  have e : G = G' := funext fun y => propext (h y)
  have e2 : W = W' := funext fun y => propext (h2 y)
  subst e; subst e2
  exact hM
theorem MT_give {f : Nat → Int32} {A : Nat → Nat → Int32} {T : List Tm} {DL : List (Int32 × Int32)} {G W : Tm → Prop} (hM : MT f A T DL G W) {i : Nat} {X : Tm} (hi : T[i]? = some X) (hX : X ≠ tz) : MT (fset f 16 1) (fset A 5 (upd (A 5) i 1)) T DL (fun y => G y ∨ (y = X ∧ X ≠ tz)) W := by
  obtain ⟨h1, h2, h3, h4, h5, h6, h7⟩ := hM
  refine ⟨h1, h2, h3, h4, fun j Y j0 hY => ⟨?_, (h5 j Y j0 hY).2⟩, fun Y q => q.elim (h6 Y) (fun q => q.1 ▸ ⟨List.mem_of_getElem? hi, q.2⟩), h7⟩
  show upd (A 5) i 1 j = _
  by_cases c : j = i
  · subst c
    rw [hi] at hY
    cases hY
    rw [upd_same, cif_t (Or.inr ⟨rfl, hX⟩)]
  · rw [upd_ne c, (h5 j Y j0 hY).1]
    have hne : ¬ (Y = X ∧ X ≠ tz) := fun q => c (h3.1 j i X (q.1 ▸ hY) hi)
    by_cases g : G Y
    · rw [cif_t g, cif_t (Or.inl g)]
    · rw [cif_f g, cif_f (fun q => q.elim g hne)]
theorem pv_cut {T E : List Tm} {i : Nat} {x : Int32} {P : Tm} (hi : i ≤ T.length) (h : pv (T ++ E) i x P) : pv T i x P := by
  obtain ⟨p, e, h1, h2⟩ := h
  rw [List.getElem?_append_left (by omega)] at h2
  exact ⟨p, e, h1, h2⟩
theorem tkr_cut {w a b c : Int32} {r : Nat → Int32} {T E : List Tm} {DL : List (Int32 × Int32)} {i : Nat} {X : Tm} (hi : i ≤ T.length) (h : tkr w a b c r (T ++ E) DL i X) : tkr w a b c r T DL i X := by
  rcases h with ⟨h1, h2, h3, m, d, p, h4, h5, h6⟩ | ⟨h1, h2, h3, P, h4, h5, h6⟩ | ⟨h1, h2, P, R, h3, h4, h5⟩ | ⟨h1, P, R, h2, h3, h4⟩ | ⟨h1, P, R, S, h2, h3, h4, h5⟩ | ⟨h1, h2, P, R, h3, h4, h5⟩ | ⟨h1, h2, h3, P0, P1, P2, P3, h4, h5, h6, h7, h8⟩
  · exact Or.inl ⟨h1, h2, h3, m, d, p, h4, h5, h6⟩
  · exact Or.inr (Or.inl ⟨h1, h2, h3, P, pv_cut hi h4, h5, h6⟩)
  · exact Or.inr (Or.inr (Or.inl ⟨h1, h2, P, R, pv_cut hi h3, pv_cut hi h4, h5⟩))
  · exact Or.inr (Or.inr (Or.inr (Or.inl ⟨h1, P, R, pv_cut hi h2, pv_cut hi h3, h4⟩)))
  · exact Or.inr (Or.inr (Or.inr (Or.inr (Or.inl ⟨h1, P, R, S, ⟨pv_cut hi h2.1, h2.2⟩, ⟨pv_cut hi h3.1, h3.2⟩, ⟨pv_cut hi h4.1, h4.2⟩, h5⟩))))
  · exact Or.inr (Or.inr (Or.inr (Or.inr (Or.inr (Or.inl ⟨h1, h2, P, R, ⟨pv_cut hi h3.1, h3.2⟩, ⟨pv_cut hi h4.1, h4.2⟩, h5⟩)))))
  · exact Or.inr (Or.inr (Or.inr (Or.inr (Or.inr (Or.inr ⟨h1, h2, h3, P0, P1, P2, P3, pv_cut hi h4, pv_cut hi h5, pv_cut hi h6, pv_cut hi h7, h8⟩)))))
theorem MT_del {n r : Int32} {w o b c gv kn cl tb : Nat → Int32} {T : List Tm} {X : Tm} {DL : List (Int32 × Int32)} {G W : Tm → Prop} {p : Nat} (hM : MT0 n r w o b c gv kn cl tb (T ++ [X]) DL G W) (hT : 1 ≤ T.length) (hG : ¬ G X) (hW : ¬ W X) (hp : p < 8192) (hz : tb p = nI T.length) : MT0 (nI T.length) (nI (rc w T.length)) w o b c gv kn cl (upd tb p 0) T DL G W := by
  obtain ⟨⟨⟨m1, m2, m3⟩, ⟨m4, m5⟩, ⟨m6, m7⟩, m8⟩, m9, ⟨m10, m11⟩, m12, m13, m14, m15⟩ := hM
  have hlen : (T ++ [X]).length = T.length + 1 := by simp
  rw [hlen] at m3 m5 m11
  have hold : ∀ {i : Nat} {Y : Tm}, T[i]? = some Y → (T ++ [X])[i]? = some Y := fun {i Y} hY => by rw [List.getElem?_append_left (tv_lt hY)]; exact hY
  have hmem : ∀ {Y : Tm}, Y ∈ T ++ [X] → Y ≠ X → Y ∈ T := fun {Y} q hne => by
    rcases List.mem_append.mp q with q | q
    · exact q
    · exact absurd (List.mem_singleton.mp q) hne
  refine ⟨⟨⟨rfl, hT, by omega⟩, ⟨rfl, Nat.le_trans (rc_mono w (Nat.le_succ _)) m5⟩, ⟨by rw [List.getElem?_append_left (by omega)] at m6; exact m6, m7⟩, m8⟩, fun i Y i0 hY => ⟨(m9 i Y i0 (hold hY)).1, tkr_cut (Nat.le_of_lt (tv_lt hY)) (m9 i Y i0 (hold hY)).2⟩, ⟨fun i j Y hi hj => m10 i j Y (hold hi) (hold hj), mtb_del (by omega) (by omega) m11 hp hz⟩, fun i j Y Z hij hY hZ kY kZ => m12 i j Y Z hij (hold hY) (hold hZ) kY kZ, fun i Y i0 hY => m13 i Y i0 (hold hY), fun Y q => ⟨hmem (m14 Y q).1 (fun e => hG (e ▸ q)), (m14 Y q).2⟩, fun Y q => ⟨hmem (m15 Y q).1 (fun e => hW (e ▸ q)), (m15 Y q).2⟩⟩
set_option maxRecDepth 100000 in
theorem m_drawn {sc : tm_X} {d : Nat} {f : Nat → Int32} {A : Nat → Nat → Int32} {T : List Tm} {DL : List (Int32 × Int32)} {G W : Tm → Prop} {y xd xp : Int32} {rt : Bool} {Q : Int32 → MS → Prop} (hM : MT f A T DL G W) (hl : T.length < 4000) (hr : rc (A 1) T.length < 1000) (h11 : f 11 = nI DL.length) (hdl : DL.length < 3000) (kk : ∀ f1 A1 T' r, mx (fset f 11 (nI (DL.length + 1))) f1 (drA A DL.length (f 21) y (bz rt)) A1 T T' 1 0 (DL ++ [(xd, xp)]) G W → tv T' r (Tsec (nI DL.length) xd xp) → Q r (mjF f1 (fset f 11 (nI (DL.length + 1))), mjA A1 (drA A DL.length (f 21) y (bz rt)))) : mGi sc (d + 3) 179 [.ref 1482, .int y, .int (bz rt)] (f, A) Q := by
  have hM2 := MT_DL hM (List.prefix_append DL [(xd, xp)]) (by simp; omega)
  show mg sc (d + 3) 179 0 [(0, .ref 1482), (1, .int y), (2, .int (bz rt))] [] (f, A) _
  generalize elv : ([(0, .ref 1482), (1, .int y), (2, .int (bz rt))] : tm_L) = lv
  have l0 : lv.lookup 0 = some (.ref 1482) := by rw [← elv]; rfl
  have l1 : lv.lookup 1 = some (.int y) := by rw [← elv]; rfl
  have l2 : lv.lookup 2 = some (.int (bz rt)) := by rw [← elv]; rfl
  clear elv
  refine m_ald (pc' := 1) cd_Mo_drawn rfl (Or.inr ⟨_, rfl, rfl, rfl⟩) l0 rfl rfl ?_
  refine m_fR (r := 9) (a := 10) (ad := 1492) (pc' := 4) rfl rfl cd_Mo_drawn rfl rfl rfl rfl rfl ?_
  refine m_ald (pc' := 5) cd_Mo_drawn rfl (Or.inr ⟨_, rfl, rfl, rfl⟩) l0 rfl rfl ?_
  refine m_fI (k := 11) (x := (nI DL.length)) (pc' := 8) cd_Mo_drawn rfl rfl rfl rfl rfl h11 ?_
  refine m_ald (pc' := 9) cd_Mo_drawn rfl (Or.inr ⟨_, rfl, rfl, rfl⟩) l0 rfl rfl ?_
  refine m_fI (k := 21) (x := (f 21)) (pc' := 12) cd_Mo_drawn rfl rfl rfl rfl rfl rfl ?_
  refine m_aS (r := 9) (a := 10) (g := (A 10)) (p := DL.length) (pc' := 13) rfl rfl cd_Mo_drawn rfl rfl rfl (vp_in_nI (by omega) (by decide)) (nI_clamp (by omega)) ?_
  refine m_ald (pc' := 14) cd_Mo_drawn rfl (Or.inr ⟨_, rfl, rfl, rfl⟩) l0 rfl rfl ?_
  refine m_fR (r := 10) (a := 11) (ad := 1493) (pc' := 17) rfl rfl cd_Mo_drawn rfl rfl rfl rfl rfl ?_
  refine m_ald (pc' := 18) cd_Mo_drawn rfl (Or.inr ⟨_, rfl, rfl, rfl⟩) l0 rfl rfl ?_
  refine m_fI (k := 11) (x := (nI DL.length)) (pc' := 21) cd_Mo_drawn rfl rfl rfl rfl rfl h11 ?_
  refine m_ild (pc' := 22) cd_Mo_drawn rfl (Or.inr ⟨_, rfl, rfl, rfl⟩) l1 rfl ?_
  refine m_aS (r := 10) (a := 11) (g := (A 11)) (p := DL.length) (pc' := 23) rfl rfl cd_Mo_drawn rfl rfl rfl (vp_in_nI (by omega) (by decide)) (nI_clamp (by omega)) ?_
  refine m_ald (pc' := 24) cd_Mo_drawn rfl (Or.inr ⟨_, rfl, rfl, rfl⟩) l0 rfl rfl ?_
  refine m_fR (r := 11) (a := 12) (ad := 1494) (pc' := 27) rfl rfl cd_Mo_drawn rfl rfl rfl rfl rfl ?_
  refine m_ald (pc' := 28) cd_Mo_drawn rfl (Or.inr ⟨_, rfl, rfl, rfl⟩) l0 rfl rfl ?_
  refine m_fI (k := 11) (x := (nI DL.length)) (pc' := 31) cd_Mo_drawn rfl rfl rfl rfl rfl h11 ?_
  refine m_ild (pc' := 32) cd_Mo_drawn rfl (Or.inr ⟨_, rfl, rfl, rfl⟩) l2 rfl ?_
  refine m_bS (r := 11) (a := 12) (g := (A 12)) (p := DL.length) (pc' := 33) rfl rfl cd_Mo_drawn rfl rfl rfl (vp_in_nI (by omega) (by decide)) (nI_clamp (by omega)) (bz_nar rt) ?_
  refine m_ald (pc' := 34) cd_Mo_drawn rfl (Or.inr ⟨_, rfl, rfl, rfl⟩) l0 rfl rfl ?_
  refine m_fR (r := 12) (a := 13) (ad := 1495) (pc' := 37) rfl rfl cd_Mo_drawn rfl rfl rfl rfl rfl ?_
  refine m_ald (pc' := 38) cd_Mo_drawn rfl (Or.inr ⟨_, rfl, rfl, rfl⟩) l0 rfl rfl ?_
  refine m_fI (k := 11) (x := (nI DL.length)) (pc' := 41) cd_Mo_drawn rfl rfl rfl rfl rfl h11 ?_
  refine m_k1 (v := (-1)) (pc' := 42) cd_Mo_drawn rfl (by decide) rfl ?_
  refine m_aS (r := 12) (a := 13) (g := (A 13)) (p := DL.length) (pc' := 43) rfl rfl cd_Mo_drawn rfl rfl rfl (vp_in_nI (by omega) (by decide)) (nI_clamp (by omega)) ?_
  refine m_ald (pc' := 44) cd_Mo_drawn rfl (Or.inr ⟨_, rfl, rfl, rfl⟩) l0 rfl rfl ?_
  refine m_pure (pc' := 45) (st' := [.ref 1482, .ref 1482]) cd_Mo_drawn rfl rfl (fun _ _ => rfl) ?_
  refine m_fI (k := 11) (x := (nI DL.length)) (pc' := 48) cd_Mo_drawn rfl rfl rfl rfl rfl h11 ?_
  refine m_k1 (v := 1) (pc' := 49) cd_Mo_drawn rfl (by decide) rfl ?_
  refine m_pure (pc' := 50) (st' := [.int ((nI DL.length) + 1), .ref 1482]) cd_Mo_drawn rfl rfl (fun _ _ => rfl) ?_
  refine m_eq (show ((nI DL.length) + 1 : Int32) = nI (DL.length + 1) from nI_add DL.length 1) ?_
  refine m_pI (k := 11) (pc' := 53) cd_Mo_drawn rfl rfl rfl rfl (by simp [tm_okV, narrow, fits]) rfl rfl ?_
  refine m_ald (pc' := 54) cd_Mo_drawn rfl (Or.inr ⟨_, rfl, rfl, rfl⟩) l0 rfl rfl ?_
  refine m_k1 (v := 1) (pc' := 55) cd_Mo_drawn rfl (by decide) rfl ?_
  refine m_ald (pc' := 56) cd_Mo_drawn rfl (Or.inr ⟨_, rfl, rfl, rfl⟩) l0 rfl rfl ?_
  refine m_fI (k := 11) (x := (nI (DL.length + 1))) (pc' := 59) cd_Mo_drawn rfl rfl rfl rfl rfl rfl ?_
  refine m_k1 (v := 1) (pc' := 60) cd_Mo_drawn rfl (by decide) rfl ?_
  refine m_pure (pc' := 61) (st' := [.int ((nI (DL.length + 1)) - 1), .int 1, .ref 1482]) cd_Mo_drawn rfl rfl (fun _ _ => rfl) ?_
  refine m_eq (show ((nI (DL.length + 1)) - 1 : Int32) = nI ((DL.length + 1) - 1) from pk_sub (a := (DL.length + 1)) (b := 1) (by omega)) ?_
  refine m_k1 (v := 0) (pc' := 62) cd_Mo_drawn rfl (by decide) rfl ?_
  refine m_k1 (v := 0) (pc' := 63) cd_Mo_drawn rfl (by decide) rfl ?_
  refine m_ci (pc' := 66) cd_Mo_drawn rfl rfl rfl rfl rfl cd_Mo_term rfl (Nat.le_of_ble_eq_true rfl) (m_term (X := Tsec (nI DL.length) xd xp) hM2 (Or.inl ⟨rfl, rfl, rfl, DL.length, xd, xp, rfl, by simp, rfl⟩) hl hr (fun _ Y hY kY => ?_) (fun f1 A1 T' i h1 h2 h3 h4 _ h5 => ?_))
  · skip
    obtain ⟨m, d5, p5, hm, -, rfl⟩ := MT_sec hM hY kY
    exact nI_lt hm (by omega)
  · skip
    show mg _ _ _ 66 _ [.int (nI i)] _ _
    exact m_reti cd_Mo_drawn rfl ⟨_, rfl, (kk f1 A1 T' _ ⟨h1, h2, h3, h5⟩ ⟨i, rfl, h4⟩)⟩
set_option maxRecDepth 100000 in
theorem m_give {sc : tm_X} {d : Nat} {f : Nat → Int32} {A : Nat → Nat → Int32} {T : List Tm} {DL : List (Int32 × Int32)} {G W : Tm → Prop} {x : Int32} {X : Tm} {Q : MS → Prop} (hM : MT f A T DL G W) (hx : tv T x X) (kk : ∀ v g, (v = 1 ∨ (v = f 16 ∧ (X = tz ∨ G X))) → MT (fset f 16 v) (fset A 5 g) T DL (fun y => G y ∨ (y = X ∧ X ≠ tz)) W → Q (fset f 16 v, fset A 5 g)) : mGv sc (d + 0) 189 [.ref 1482, .int x] (f, A) Q := by
  obtain ⟨i, rfl, hi, hX⟩ := tv_ix hx
  have hlen := MT_len hM
  have kn : (X = tz ∨ G X) → Q (f, A) := fun h => by
    have k2 := kk (f 16) (A 5) (Or.inr ⟨rfl, h⟩)
    rw [fset_eta, fset_eta] at k2
    exact k2 (MT_G hM (fun y => ⟨Or.inl, fun q => q.elim id (fun q => h.elim (fun e => absurd e q.2) (fun e => q.1 ▸ e))⟩) (fun _ => Iff.rfl))
  have hgv : 0 < i → A 5 i = cif (G X) 1 0 := fun z => (hM.2.2.2.2.1 i X z hX).1
  show mg sc (d + 0) 189 0 [(0, .ref 1482), (1, .int (nI i))] [] (f, A) _
  generalize elv : ([(0, .ref 1482), (1, .int (nI i))] : tm_L) = lv
  have l0 : lv.lookup 0 = some (.ref 1482) := by rw [← elv]; rfl
  have l1 : lv.lookup 1 = some (.int (nI i)) := by rw [← elv]; rfl
  clear elv
  refine m_ild (pc' := 1) cd_Mo_give rfl (Or.inr ⟨_, rfl, rfl, rfl⟩) l1 rfl ?_
  refine m_if1 (t := 13) (pc' := 4) cd_Mo_give rfl rfl rfl (fun c1 => ?_) (fun c1 => ?_)
  · have c1 : (nI i) = 0 := c1
    exact m_retv cd_Mo_give rfl ⟨rfl, (kn (Or.inl ((MT_0 hM ⟨i, rfl, hX⟩).mp c1)))⟩
  · have c1 : ¬ (nI i) = 0 := c1
    refine m_ald (pc' := 5) cd_Mo_give rfl (Or.inr ⟨_, rfl, rfl, rfl⟩) l0 rfl rfl ?_
    refine m_fR (r := 4) (a := 5) (ad := 1487) (pc' := 8) rfl rfl cd_Mo_give rfl rfl rfl rfl rfl ?_
    refine m_ild (pc' := 9) cd_Mo_give rfl (Or.inr ⟨_, rfl, rfl, rfl⟩) l1 rfl ?_
    refine m_bI (r := 4) (a := 5) (g := (A 5)) (x := ((A 5) i)) (pc' := 10) rfl rfl cd_Mo_give rfl rfl rfl (vp_in_nI (by omega) (by decide)) (congrArg (A 5) (nI_clamp (by omega))) ?_
    refine m_if1 (t := 14) (pc' := 13) cd_Mo_give rfl rfl rfl (fun c10 => ?_) (fun c10 => ?_)
    · have c10 : ((A 5) i) = 0 := c10
      refine m_ald (pc' := 15) cd_Mo_give rfl (Or.inr ⟨_, rfl, rfl, rfl⟩) l0 rfl rfl ?_
      refine m_fR (r := 4) (a := 5) (ad := 1487) (pc' := 18) rfl rfl cd_Mo_give rfl rfl rfl rfl rfl ?_
      refine m_ild (pc' := 19) cd_Mo_give rfl (Or.inr ⟨_, rfl, rfl, rfl⟩) l1 rfl ?_
      refine m_k1 (v := 1) (pc' := 20) cd_Mo_give rfl (by decide) rfl ?_
      refine m_bS (r := 4) (a := 5) (g := (A 5)) (p := i) (pc' := 21) rfl rfl cd_Mo_give rfl rfl rfl (vp_in_nI (by omega) (by decide)) (nI_clamp (by omega)) (by decide) ?_
      refine m_ald (pc' := 22) cd_Mo_give rfl (Or.inr ⟨_, rfl, rfl, rfl⟩) l0 rfl rfl ?_
      refine m_k1 (v := 1) (pc' := 23) cd_Mo_give rfl (by decide) rfl ?_
      refine m_pI (k := 16) (pc' := 26) cd_Mo_give rfl rfl rfl rfl (by decide) rfl rfl ?_
      have hXz : X ≠ tz := fun q => c1 ((MT_0 hM ⟨i, rfl, hX⟩).mpr q)
      have hi0 := MT_pos hM hX hXz
      exact m_retv cd_Mo_give rfl ⟨rfl, (kk 1 _ (Or.inl rfl) (MT_give hM hX hXz))⟩
    · have c10 : ¬ ((A 5) i) = 0 := c10
      have hXz : X ≠ tz := fun q => c1 ((MT_0 hM ⟨i, rfl, hX⟩).mpr q)
      have hi0 := MT_pos hM hX hXz
      exact m_retv cd_Mo_give rfl ⟨rfl, (kn (Or.inr (Classical.byContradiction fun q => c10 ((hgv hi0).trans (cif_f q)))))⟩
set_option maxRecDepth 100000 in
theorem m_cell {sc : tm_X} {d : Nat} {f : Nat → Int32} {A : Nat → Nat → Int32} {T : List Tm} {DL : List (Int32 × Int32)} {G W : Tm → Prop} {i k : Nat} {X : Tm} {Q : Int32 → MS → Prop} (hM : MT f A T DL G W) (hX : T[i]? = some X) (hk7 : kd X = 7) (hk : k < 8) (kk : Q (mrw (A 1) (A 7) i k) (f, A)) : mGi sc (d + 0) 214 [.ref 1482, .int (nI i), .int (nI k)] (f, A) Q := by
  have hlen := MT_len hM
  have hi := tv_lt hX
  have hu := MT_u hM (MT_pos hM hX (kd_nz hk7 (by decide))) hX ((MT_kd hM hX).trans hk7)
  show mg sc (d + 0) 214 0 [(0, .ref 1482), (1, .int (nI i)), (2, .int (nI k))] [] (f, A) _
  generalize elv : ([(0, .ref 1482), (1, .int (nI i)), (2, .int (nI k))] : tm_L) = lv
  have l0 : lv.lookup 0 = some (.ref 1482) := by rw [← elv]; rfl
  have l1 : lv.lookup 1 = some (.int (nI i)) := by rw [← elv]; rfl
  have l2 : lv.lookup 2 = some (.int (nI k)) := by rw [← elv]; rfl
  clear elv
  refine m_ald (pc' := 1) cd_Mo_cell rfl (Or.inr ⟨_, rfl, rfl, rfl⟩) l0 rfl rfl ?_
  refine m_fR (r := 6) (a := 7) (ad := 1489) (pc' := 4) rfl rfl cd_Mo_cell rfl rfl rfl rfl rfl ?_
  refine m_k2 (v := 8) (pc' := 6) cd_Mo_cell rfl (by decide) rfl ?_
  refine m_ald (pc' := 7) cd_Mo_cell rfl (Or.inr ⟨_, rfl, rfl, rfl⟩) l0 rfl rfl ?_
  refine m_fR (r := 2) (a := 3) (ad := 1485) (pc' := 10) rfl rfl cd_Mo_cell rfl rfl rfl rfl rfl ?_
  refine m_ild (pc' := 11) cd_Mo_cell rfl (Or.inr ⟨_, rfl, rfl, rfl⟩) l1 rfl ?_
  refine m_aI (r := 2) (a := 3) (g := (A 3)) (x := (nI (rc (A 1) i))) (pc' := 12) rfl rfl cd_Mo_cell rfl rfl rfl (vp_in_nI (by omega) (by decide)) (by rw [(nI_clamp (by omega))]; exact hu.1) ?_
  refine m_pure (pc' := 13) (st' := [.int ((8 : Int32) * (nI (rc (A 1) i))), .ref 1489]) cd_Mo_cell rfl rfl (fun _ _ => rfl) ?_
  refine m_eq (show ((8 : Int32) * (nI (rc (A 1) i)) : Int32) = nI (8 * (rc (A 1) i)) from pk_mul 8 (rc (A 1) i)) ?_
  refine m_ild (pc' := 14) cd_Mo_cell rfl (Or.inr ⟨_, rfl, rfl, rfl⟩) l2 rfl ?_
  refine m_pure (pc' := 15) (st' := [.int ((nI (8 * (rc (A 1) i))) + (nI k)), .ref 1489]) cd_Mo_cell rfl rfl (fun _ _ => rfl) ?_
  refine m_eq (show ((nI (8 * (rc (A 1) i))) + (nI k) : Int32) = nI ((8 * (rc (A 1) i)) + k) from nI_add (8 * (rc (A 1) i)) k) ?_
  refine m_aI (r := 6) (a := 7) (g := (A 7)) (x := ((A 7) ((8 * (rc (A 1) i)) + k))) (pc' := 16) rfl rfl cd_Mo_cell rfl rfl rfl (vp_in_nI (by omega) (by decide)) (congrArg (A 7) (nI_clamp (by omega))) ?_
  exact m_reti cd_Mo_cell rfl ⟨_, rfl, kk⟩
theorem m_cellN {sc : tm_X} {d : Nat} {f : Nat → Int32} {A : Nat → Nat → Int32} {T : List Tm} {DL : List (Int32 × Int32)} {G W : Tm → Prop} {i k : Nat} {X : Tm} {Q : Int32 → MS → Prop} (hM : MT f A T DL G W) (hX : T[i]? = some X) (hk7 : kd X = 7) (hk : k < 4) (kk : Q (nu X k) (f, A)) : mGi sc (d + 0) 214 [.ref 1482, .int (nI i), .int (nI k)] (f, A) Q := m_cell hM hX hk7 (by omega) (by rw [(MT_cells hM hX hk7).1 k hk]; exact kk)
theorem m_cellP {sc : tm_X} {d : Nat} {f : Nat → Int32} {A : Nat → Nat → Int32} {T : List Tm} {DL : List (Int32 × Int32)} {G W : Tm → Prop} {i k : Nat} {X : Tm} {Q : Int32 → MS → Prop} (hM : MT f A T DL G W) (hX : T[i]? = some X) (hk7 : kd X = 7) (hk : k < 4) (kk : ∀ r, tv T r (pt X k) → Q r (f, A)) : mGi sc (d + 0) 214 [.ref 1482, .int (nI i), .int (nI (4 + k))] (f, A) Q := m_cell hM hX hk7 (by omega) (kk _ ((MT_cells hM hX hk7).2 k hk))
set_option maxRecDepth 100000 in
theorem m_isRow {sc : tm_X} {d : Nat} {f : Nat → Int32} {A : Nat → Nat → Int32} {T : List Tm} {DL : List (Int32 × Int32)} {G W : Tm → Prop} {i : Nat} {k : Int32} {X : Tm} {Q : Int32 → MS → Prop} (hM : MT f A T DL G W) (hX : T[i]? = some X) (kk : Q (bz (decide (kd X = 7) && decide (mk X = k))) (f, A)) : mGi sc (d + 0) 213 [.ref 1482, .int (nI i), .int k] (f, A) Q := by
  have hlen := MT_len hM
  have hi := tv_lt hX
  have hw := MT_kd hM hX
  show mg sc (d + 0) 213 0 [(0, .ref 1482), (1, .int (nI i)), (2, .int k)] [] (f, A) _
  generalize elv : ([(0, .ref 1482), (1, .int (nI i)), (2, .int k)] : tm_L) = lv
  have l0 : lv.lookup 0 = some (.ref 1482) := by rw [← elv]; rfl
  have l1 : lv.lookup 1 = some (.int (nI i)) := by rw [← elv]; rfl
  have l2 : lv.lookup 2 = some (.int k) := by rw [← elv]; rfl
  clear elv
  refine m_ild (pc' := 1) cd_Mo_isRow rfl (Or.inr ⟨_, rfl, rfl, rfl⟩) l1 rfl ?_
  refine m_if1 (t := 29) (pc' := 4) cd_Mo_isRow rfl rfl rfl (fun c1 => ?_) (fun c1 => ?_)
  · have c1 : (nI i) ≤ 0 := c1
    refine m_k1 (v := 0) (pc' := 30) cd_Mo_isRow rfl (by decide) rfl ?_
    have hz : X = tz := (MT_0 hM ⟨i, rfl, hX⟩).mp (by
      rcases Nat.eq_zero_or_pos i with z | z
      · rw [z]; rfl
      · exact absurd c1 (nI_nle z (by omega)))
    exact m_retz cd_Mo_isRow rfl (Or.inl rfl) ⟨_, rfl, (by rw [hz] at kk; exact kk)⟩
  · have c1 : ¬ (nI i) ≤ 0 := c1
    refine m_ald (pc' := 5) cd_Mo_isRow rfl (Or.inr ⟨_, rfl, rfl, rfl⟩) l0 rfl rfl ?_
    refine m_fR (r := 0) (a := 1) (ad := 1483) (pc' := 8) rfl rfl cd_Mo_isRow rfl rfl rfl rfl rfl ?_
    refine m_ild (pc' := 9) cd_Mo_isRow rfl (Or.inr ⟨_, rfl, rfl, rfl⟩) l1 rfl ?_
    refine m_aI (r := 0) (a := 1) (g := (A 1)) (x := (kd X)) (pc' := 10) rfl rfl cd_Mo_isRow rfl rfl rfl (vp_in_nI (by omega) (by decide)) (by rw [(nI_clamp (by omega))]; exact hw) ?_
    refine m_k2 (v := 7) (pc' := 12) cd_Mo_isRow rfl (by decide) rfl ?_
    refine m_if2 (t := 29) (pc' := 15) cd_Mo_isRow rfl rfl rfl (fun c12 => ?_) (fun c12 => ?_)
    · have c12 : ¬ (kd X) = 7 := c12
      refine m_k1 (v := 0) (pc' := 30) cd_Mo_isRow rfl (by decide) rfl ?_
      exact m_retz cd_Mo_isRow rfl (Or.inl rfl) ⟨_, rfl, (by rw [decide_eq_false c12] at kk; exact kk)⟩
    · have c12 : (kd X) = 7 := Classical.not_not.mp c12
      refine m_ald (pc' := 16) cd_Mo_isRow rfl (Or.inr ⟨_, rfl, rfl, rfl⟩) l0 rfl rfl ?_
      refine m_fR (r := 1) (a := 2) (ad := 1484) (pc' := 19) rfl rfl cd_Mo_isRow rfl rfl rfl rfl rfl ?_
      refine m_ild (pc' := 20) cd_Mo_isRow rfl (Or.inr ⟨_, rfl, rfl, rfl⟩) l1 rfl ?_
      refine m_aI (r := 1) (a := 2) (g := (A 2)) (x := ((A 2) i)) (pc' := 21) rfl rfl cd_Mo_isRow rfl rfl rfl (vp_in_nI (by omega) (by decide)) (congrArg (A 2) (nI_clamp (by omega))) ?_
      refine m_ild (pc' := 22) cd_Mo_isRow rfl (Or.inr ⟨_, rfl, rfl, rfl⟩) l2 rfl ?_
      refine m_if2 (t := 29) (pc' := 25) cd_Mo_isRow rfl rfl rfl (fun c22 => ?_) (fun c22 => ?_)
      · have c22 : ¬ ((A 2) i) = k := c22
        refine m_k1 (v := 0) (pc' := 30) cd_Mo_isRow rfl (by decide) rfl ?_
        have hm := MT_mk hM hX (Or.inr (Or.inr c12))
        exact m_retz cd_Mo_isRow rfl (Or.inl rfl) ⟨_, rfl, (by rw [decide_eq_true c12, decide_eq_false (fun q => c22 (hm.trans q))] at kk; exact kk)⟩
      · have c22 : ((A 2) i) = k := Classical.not_not.mp c22
        refine m_k1 (v := 1) (pc' := 26) cd_Mo_isRow rfl (by decide) rfl ?_
        refine m_pure (pc' := 30) (st' := [.int 1]) cd_Mo_isRow rfl rfl (fun _ _ => rfl) ?_
        have hm := MT_mk hM hX (Or.inr (Or.inr c12))
        exact m_retz cd_Mo_isRow rfl (Or.inr rfl) ⟨_, rfl, (by rw [decide_eq_true c12, decide_eq_true (hm.symm.trans c22)] at kk; exact kk)⟩
set_option maxRecDepth 100000 in
theorem m_isPublic {sc : tm_X} {d : Nat} {f : Nat → Int32} {A : Nat → Nat → Int32} {T : List Tm} {DL : List (Int32 × Int32)} {G W : Tm → Prop} {x : Int32} {X : Tm} {Q : Int32 → MS → Prop} (hM : MT f A T DL G W) (hx : tv T x X) (kk : Q (bz (decide (kd X = 2))) (f, A)) : mGi sc (d + 0) 217 [.ref 1482, .int x] (f, A) Q := by
  obtain ⟨i, rfl, hi, hX⟩ := tv_ix hx
  have hlen := MT_len hM
  have hw := MT_kd hM hX
  show mg sc (d + 0) 217 0 [(0, .ref 1482), (1, .int (nI i))] [] (f, A) _
  generalize elv : ([(0, .ref 1482), (1, .int (nI i))] : tm_L) = lv
  have l0 : lv.lookup 0 = some (.ref 1482) := by rw [← elv]; rfl
  have l1 : lv.lookup 1 = some (.int (nI i)) := by rw [← elv]; rfl
  clear elv
  refine m_ild (pc' := 1) cd_Mo_isPublic rfl (Or.inr ⟨_, rfl, rfl, rfl⟩) l1 rfl ?_
  refine m_if1 (t := 18) (pc' := 4) cd_Mo_isPublic rfl rfl rfl (fun c1 => ?_) (fun c1 => ?_)
  · have c1 : (nI i) ≤ 0 := c1
    refine m_k1 (v := 0) (pc' := 19) cd_Mo_isPublic rfl (by decide) rfl ?_
    have hz : X = tz := (MT_0 hM ⟨i, rfl, hX⟩).mp (by
      rcases Nat.eq_zero_or_pos i with z | z
      · rw [z]; rfl
      · exact absurd c1 (nI_nle z (by omega)))
    exact m_retz cd_Mo_isPublic rfl (Or.inl rfl) ⟨_, rfl, (by rw [hz] at kk; exact kk)⟩
  · have c1 : ¬ (nI i) ≤ 0 := c1
    refine m_ald (pc' := 5) cd_Mo_isPublic rfl (Or.inr ⟨_, rfl, rfl, rfl⟩) l0 rfl rfl ?_
    refine m_fR (r := 0) (a := 1) (ad := 1483) (pc' := 8) rfl rfl cd_Mo_isPublic rfl rfl rfl rfl rfl ?_
    refine m_ild (pc' := 9) cd_Mo_isPublic rfl (Or.inr ⟨_, rfl, rfl, rfl⟩) l1 rfl ?_
    refine m_aI (r := 0) (a := 1) (g := (A 1)) (x := (kd X)) (pc' := 10) rfl rfl cd_Mo_isPublic rfl rfl rfl (vp_in_nI (by omega) (by decide)) (by rw [(nI_clamp (by omega))]; exact hw) ?_
    refine m_k1 (v := 2) (pc' := 11) cd_Mo_isPublic rfl (by decide) rfl ?_
    refine m_if2 (t := 18) (pc' := 14) cd_Mo_isPublic rfl rfl rfl (fun c11 => ?_) (fun c11 => ?_)
    · have c11 : ¬ (kd X) = 2 := c11
      refine m_k1 (v := 0) (pc' := 19) cd_Mo_isPublic rfl (by decide) rfl ?_
      exact m_retz cd_Mo_isPublic rfl (Or.inl rfl) ⟨_, rfl, (by rw [decide_eq_false c11] at kk; exact kk)⟩
    · have c11 : (kd X) = 2 := Classical.not_not.mp c11
      refine m_k1 (v := 1) (pc' := 15) cd_Mo_isPublic rfl (by decide) rfl ?_
      refine m_pure (pc' := 19) (st' := [.int 1]) cd_Mo_isPublic rfl rfl (fun _ _ => rfl) ?_
      exact m_retz cd_Mo_isPublic rfl (Or.inr rfl) ⟨_, rfl, (by rw [decide_eq_true c11] at kk; exact kk)⟩
set_option maxRecDepth 100000 in
theorem m_within {sc : tm_X} {d : Nat} {f : Nat → Int32} {A : Nat → Nat → Int32} {v lo hi : Int32} {Q : Int32 → MS → Prop} (kk : Q (bz (!decide (v < lo) && decide (v ≤ hi))) (f, A)) : mGi sc (d + 0) 215 [.int v, .int lo, .int hi] (f, A) Q := by
  show mg sc (d + 0) 215 0 [(0, .int v), (1, .int lo), (2, .int hi)] [] (f, A) _
  generalize elv : ([(0, .int v), (1, .int lo), (2, .int hi)] : tm_L) = lv
  have l0 : lv.lookup 0 = some (.int v) := by rw [← elv]; rfl
  have l1 : lv.lookup 1 = some (.int lo) := by rw [← elv]; rfl
  have l2 : lv.lookup 2 = some (.int hi) := by rw [← elv]; rfl
  clear elv
  refine m_ild (pc' := 1) cd_Mo_within rfl (Or.inr ⟨_, rfl, rfl, rfl⟩) l0 rfl ?_
  refine m_ild (pc' := 2) cd_Mo_within rfl (Or.inr ⟨_, rfl, rfl, rfl⟩) l1 rfl ?_
  refine m_if2 (t := 14) (pc' := 5) cd_Mo_within rfl rfl rfl (fun c2 => ?_) (fun c2 => ?_)
  · have c2 : v < lo := c2
    refine m_k1 (v := 0) (pc' := 15) cd_Mo_within rfl (by decide) rfl ?_
    exact m_retz cd_Mo_within rfl (Or.inl rfl) ⟨_, rfl, (by rw [decide_eq_true c2] at kk; exact kk)⟩
  · have c2 : ¬ v < lo := c2
    refine m_ild (pc' := 6) cd_Mo_within rfl (Or.inr ⟨_, rfl, rfl, rfl⟩) l0 rfl ?_
    refine m_ild (pc' := 7) cd_Mo_within rfl (Or.inr ⟨_, rfl, rfl, rfl⟩) l2 rfl ?_
    refine m_if2 (t := 14) (pc' := 10) cd_Mo_within rfl rfl rfl (fun c7 => ?_) (fun c7 => ?_)
    · have c7 : hi < v := c7
      refine m_k1 (v := 0) (pc' := 15) cd_Mo_within rfl (by decide) rfl ?_
      exact m_retz cd_Mo_within rfl (Or.inl rfl) ⟨_, rfl, (by rw [decide_eq_false c2, decide_eq_false (Int32.not_le.mpr c7)] at kk; exact kk)⟩
    · have c7 : ¬ hi < v := c7
      refine m_k1 (v := 1) (pc' := 11) cd_Mo_within rfl (by decide) rfl ?_
      refine m_pure (pc' := 15) (st' := [.int 1]) cd_Mo_within rfl rfl (fun _ _ => rfl) ?_
      exact m_retz cd_Mo_within rfl (Or.inr rfl) ⟨_, rfl, (by rw [decide_eq_false c2, decide_eq_true (Int32.not_lt.mp c7)] at kk; exact kk)⟩
