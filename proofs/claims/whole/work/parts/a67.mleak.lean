/-! The reference: derived, leaked -/
noncomputable def rl_count (K : Tm → Prop) (dt db rt fl ll : Nat → Int32) : List RL → Nat
  | [] => 0
  | e :: l => cif (Kn K e.1 ∧ rl_safe dt db rt fl ll e = true) 1 0 + rl_count K dt db rt fl ll l
theorem rl_cons (K : Tm → Prop) (dt db rt fl ll : Nat → Int32) (e : RL) (l : List RL) : rl_count K dt db rt fl ll (e :: l) = cif (Kn K e.1 ∧ rl_safe dt db rt fl ll e = true) 1 0 + rl_count K dt db rt fl ll l := rfl
theorem rl_le (K : Tm → Prop) (dt db rt fl ll : Nat → Int32) : ∀ l : List RL, rl_count K dt db rt fl ll l ≤ l.length
  | [] => Nat.le_refl _
  | e :: l => by
    have h := rl_le K dt db rt fl ll l
    rw [rl_cons, List.length_cons]
    by_cases c : Kn K e.1 ∧ rl_safe dt db rt fl ll e = true
    · rw [cif_t c]; omega
    · rw [cif_f c]; omega
theorem RS_d {f : Nat → Int32} {A A1 : Nat → Nat → Int32} {T : List Tm} {DL : List (Int32 × Int32)} {dev : Nat → DV} {sto : Nat → ST} {ws : List (Tm × Int32)} {dir reg : Nat → Tm} {seen : List Tm} {ls : List RL} {lo : Nat → Int32} {R : RR} (hS : RS f A T DL dev sto ws dir reg seen ls lo R) (e : ∀ j, j ≠ 6 → A1 j = A j) : RS (fset f 16 0) A1 T DL dev sto ws dir reg seen ls lo R := by
  have h : A1 = fset A 6 (A1 6) := by
    funext j
    by_cases c : j = 6
    · rw [c, fset_same]
    · rw [fset_ne c, e j c]
  rw [h]
  obtain ⟨dt, db, rt, fl, ll, tl, tf, tg, tm, ck, fo, du⟩ := R
  obtain ⟨⟨q1, q2, q3⟩, ⟨q4, q5, q6, q7, q8, q9⟩, ⟨q10, q12⟩, q13⟩ := hS
  exact ⟨⟨q1, q2, fun p hp => qSt_c (List.prefix_refl T) rfl rfl rfl (fun _ _ => rfl) (fun _ _ _ _ => rfl) (fun _ _ _ _ => rfl) (q3 p hp)⟩, ⟨q4, q5, q6, q7, q8, q9⟩, ⟨q10, q12⟩, q13⟩
set_option maxRecDepth 100000 in
theorem mo_derived {sc : tm_X} {d : Nat} {f : Nat → Int32} {A : Nat → Nat → Int32} {T : List Tm} {DL : List (Int32 × Int32)} {G Kw : Tm → Prop} {dev : Nat → DV} {sto : Nat → ST} {ws : List (Tm × Int32)} {dir reg : Nat → Tm} {seen : List Tm} {ls : List RL} {lo dt db rt fl ll tl tf tg tm : Nat → Int32} {ck fo du : Int32} {i : Nat} {e : RL} {Q : Int32 → MS → Prop} (hM : MT f A T DL G Kw) (hS : RS f A T DL dev sto ws dir reg seen ls lo (dt, db, rt, fl, ll, tl, tf, tg, tm, ck, fo, du)) (hK : ∀ y, Kw y → Kn G y) (hst : f 16 = 0 → ∀ e, e ∈ ls → Kn G e.1 → Kw e.1) (kall : ∀ e, e ∈ ls → kd e.1 = 1) (he : ls[i]? = some e) (kk : ∀ f1 A1 W1, MT f1 A1 T DL G W1 → (∀ y, W1 y → Kn G y) → (∀ e, e ∈ ls → Kn G e.1 → W1 e.1) → f1 16 = 0 → RS f1 A1 T DL dev sto ws dir reg seen ls lo (dt, db, rt, fl, ll, tl, tf, tg, tm, ck, fo, du) →  Q (cif (Kn G e.1) 1 0) (f1, A1)) : mGi sc (d + 5) 269 [.ref 1482, .int (nI i)] (f, A) Q := by
  have kse := kall e (List.mem_of_getElem? he)
  have hil := (List.getElem?_eq_some_iff.mp he).1
  have h43 := hS.2.2.1.1.1.1
  have h7 := hS.2.2.1.1.1.2
  obtain ⟨u, eu, hu⟩ := (hS.2.2.1.1.2 i e he).1
  have hul := tv_lt hu
  have hL := MT_len hM
  have hu0 := MT_pos hM hu (kd1_nz kse)
  show mg sc (d + 5) 269 0 [(0, .ref 1482), (1, .int (nI i))] [] (f, A) _
  generalize elv : ([(0, .ref 1482), (1, .int (nI i))] : tm_L) = lv
  have l0 : lv.lookup 0 = some (.ref 1482) := by rw [← elv]; rfl
  have l1 : lv.lookup 1 = some (.int (nI i)) := by rw [← elv]; rfl
  clear elv
  refine m_ild (pc' := 1) cd_Mo_derived rfl (Or.inr ⟨_, rfl, rfl, rfl⟩) l1 rfl ?_
  refine m_if1 (t := 12) (pc' := 4) cd_Mo_derived rfl rfl rfl (fun c1 => ?_) (fun c1 => ?_)
  · have c1 : (nI i) < 0 := c1
    exact absurd c1 (Int32.not_lt.mpr (nI_le (a := 0) (by omega) (by omega)))
  · have c1 : ¬ (nI i) < 0 := c1
    refine m_ild (pc' := 5) cd_Mo_derived rfl (Or.inr ⟨_, rfl, rfl, rfl⟩) l1 rfl ?_
    refine m_ald (pc' := 6) cd_Mo_derived rfl (Or.inr ⟨_, rfl, rfl, rfl⟩) l0 rfl rfl ?_
    refine m_fI (k := 43) (x := (nI ls.length)) (pc' := 9) cd_Mo_derived rfl rfl rfl rfl rfl h43 ?_
    refine m_if2 (t := 14) (pc' := 12) cd_Mo_derived rfl rfl rfl (fun c9 => ?_) (fun c9 => ?_)
    · have c9 : (nI i) < (nI ls.length) := c9
      refine m_ald (pc' := 15) cd_Mo_derived rfl (Or.inr ⟨_, rfl, rfl, rfl⟩) l0 rfl rfl ?_
      refine m_cv (pc' := 18) cd_Mo_derived rfl rfl rfl rfl rfl cd_Mo_derive rfl (Nat.le_of_ble_eq_true rfl) (m_derive (Pp := fun X => ∃ e, e ∈ ls ∧ e.1 = X) hM hK (fun z X h1 h2 h3 h4 => by obtain ⟨e, h5, rfl⟩ := h3; exact hst z e h5 h4) (fun A1 W1 h1 e1 hso hW0 => ?_))
      have hW1 : ∀ e, e ∈ ls → kd e.1 = 1 → (W1 e.1 ↔ Kn G e.1) := fun e h1 h2 => by
        obtain ⟨i, hi⟩ := List.getElem?_of_mem h1
        exact hW0 e.1 (tv_mem (hS.2.2.1.1.2 i e hi).1) (kd1_nz h2) ⟨e, h1, rfl⟩
      show mg _ _ _ 18 _ [] _ _
      refine m_ald (pc' := 19) cd_Mo_derived rfl (Or.inr ⟨_, rfl, rfl, rfl⟩) l0 rfl rfl ?_
      refine m_fR (r := 5) (a := 6) (ad := 1488) (pc' := 22) rfl rfl cd_Mo_derived rfl rfl rfl rfl rfl ?_
      refine m_ald (pc' := 23) cd_Mo_derived rfl (Or.inr ⟨_, rfl, rfl, rfl⟩) l0 rfl rfl ?_
      refine m_fR (r := 29) (a := 30) (ad := 1512) (pc' := 26) rfl rfl cd_Mo_derived rfl rfl rfl rfl rfl ?_
      refine m_ild (pc' := 27) cd_Mo_derived rfl (Or.inr ⟨_, rfl, rfl, rfl⟩) l1 rfl ?_
      refine m_aI (r := 29) (a := 30) (g := (A1 30)) (x := nI u) (pc' := 28) rfl rfl cd_Mo_derived rfl rfl rfl (vp_in_nI (by omega) (by decide)) (by rw [(nI_clamp (by omega)), e1 30 (by decide)]; exact eu) ?_
      refine m_bI (r := 5) (a := 6) (g := (A1 6)) (x := (cif (W1 e.1) (1 : Int32) 0)) (pc' := 29) rfl rfl cd_Mo_derived rfl rfl rfl (vp_in_nI (by omega) (by decide)) (by rw [(nI_clamp (by omega))]; exact MT_kn h1 hu0 hu) ?_
      refine m_if1 (t := 36) (pc' := 32) cd_Mo_derived rfl rfl rfl (fun c29 => ?_) (fun c29 => ?_)
      · have c29 : (cif (W1 e.1) (1 : Int32) 0) = 0 := c29
        refine m_k1 (v := 0) (pc' := 37) cd_Mo_derived rfl (by decide) rfl ?_
        exact m_reti cd_Mo_derived rfl ⟨_, rfl, (by have k2 := kk _ A1 W1 h1 hso (fun x hx hk => (hW1 x hx (kall x hx)).mpr hk) (fset_same _ _ _) (RS_d hS e1); rw [cif_f (fun q => cz c29 ((hW1 e (List.mem_of_getElem? he) kse).mpr q))] at k2; exact k2)⟩
      · have c29 : ¬ (cif (W1 e.1) (1 : Int32) 0) = 0 := c29
        refine m_k1 (v := 1) (pc' := 33) cd_Mo_derived rfl (by decide) rfl ?_
        refine m_pure (pc' := 37) (st' := [.int 1]) cd_Mo_derived rfl rfl (fun _ _ => rfl) ?_
        exact m_reti cd_Mo_derived rfl ⟨_, rfl, (by have k2 := kk _ A1 W1 h1 hso (fun x hx hk => (hW1 x hx (kall x hx)).mpr hk) (fset_same _ _ _) (RS_d hS e1); rw [cif_t ((hW1 e (List.mem_of_getElem? he) kse).mp (cnz c29))] at k2; exact k2)⟩
    · have c9 : ¬ (nI i) < (nI ls.length) := c9
      exact absurd (nI_lt (by omega) (by omega)) c9
set_option maxRecDepth 100000 in
theorem mo_derivedB {sc : tm_X} {d : Nat} {f : Nat → Int32} {A : Nat → Nat → Int32} {T : List Tm} {DL : List (Int32 × Int32)} {G Kw : Tm → Prop} {dev : Nat → DV} {sto : Nat → ST} {ws : List (Tm × Int32)} {dir reg : Nat → Tm} {seen : List Tm} {ls : List RL} {lo dt db rt fl ll tl tf tg tm : Nat → Int32} {ck fo du : Int32} {x : Int32} {Q : Int32 → MS → Prop} (hS : RS f A T DL dev sto ws dir reg seen ls lo (dt, db, rt, fl, ll, tl, tf, tg, tm, ck, fo, du)) (hB : inR x (nI ls.length) = false) (kk : Q (-1) (f, A)) : mGi sc (d + 5) 269 [.ref 1482, .int x] (f, A) Q := by
  have h43 := hS.2.2.1.1.1.1
  show mg sc (d + 5) 269 0 [(0, .ref 1482), (1, .int x)] [] (f, A) _
  generalize elv : ([(0, .ref 1482), (1, .int x)] : tm_L) = lv
  have l0 : lv.lookup 0 = some (.ref 1482) := by rw [← elv]; rfl
  have l1 : lv.lookup 1 = some (.int x) := by rw [← elv]; rfl
  clear elv
  refine m_ild (pc' := 1) cd_Mo_derived rfl (Or.inr ⟨_, rfl, rfl, rfl⟩) l1 rfl ?_
  refine m_if1 (t := 12) (pc' := 4) cd_Mo_derived rfl rfl rfl (fun c1 => ?_) (fun c1 => ?_)
  · have c1 : x < 0 := c1
    refine m_k1 (v := (-1)) (pc' := 13) cd_Mo_derived rfl (by decide) rfl ?_
    exact m_reti cd_Mo_derived rfl ⟨_, rfl, kk⟩
  · have c1 : ¬ x < 0 := c1
    refine m_ild (pc' := 5) cd_Mo_derived rfl (Or.inr ⟨_, rfl, rfl, rfl⟩) l1 rfl ?_
    refine m_ald (pc' := 6) cd_Mo_derived rfl (Or.inr ⟨_, rfl, rfl, rfl⟩) l0 rfl rfl ?_
    refine m_fI (k := 43) (x := (nI ls.length)) (pc' := 9) cd_Mo_derived rfl rfl rfl rfl rfl h43 ?_
    refine m_if2 (t := 14) (pc' := 12) cd_Mo_derived rfl rfl rfl (fun c9 => ?_) (fun c9 => ?_)
    · have c9 : x < (nI ls.length) := c9
      exact absurd hB (by rw [show inR x (nI ls.length) = true from by unfold inR; rw [decide_eq_true (Int32.not_lt.mp c1), decide_eq_true c9]; rfl]; decide)
    · have c9 : ¬ x < (nI ls.length) := c9
      refine m_k1 (v := (-1)) (pc' := 13) cd_Mo_derived rfl (by decide) rfl ?_
      exact m_reti cd_Mo_derived rfl ⟨_, rfl, kk⟩
set_option maxRecDepth 100000 in
theorem l_mleak {sc : tm_X} {d : Nat} {f : Nat → Int32} {A : Nat → Nat → Int32} {T : List Tm} {DL : List (Int32 × Int32)} {G Kw : Tm → Prop} {dev : Nat → DV} {sto : Nat → ST} {ws : List (Tm × Int32)} {dir reg : Nat → Tm} {seen : List Tm} {ls : List RL} {lo dt db rt fl ll tl tf tg tm : Nat → Int32} {ck fo du : Int32} {Q : Int32 → MS → Prop} (hM : MT f A T DL G Kw) (hS : RS f A T DL dev sto ws dir reg seen ls lo (dt, db, rt, fl, ll, tl, tf, tg, tm, ck, fo, du)) (hW : ∀ e, e ∈ ls → kd e.1 = 1 → (Kw e.1 ↔ Kn G e.1)) (hto : ∀ (i : Nat) (e : RL), ls[i]? = some e → (∃ s, s < 6 ∧ e.2.1 = nI s) ∧ (e.2.2.1 < 16 → (∃ q, q < 6 ∧ e.2.2.1 = nI q) ∧ kd e.2.2.2.2.1 = 1 ∧ kd e.2.2.2.2.2.1 = 1) ∧ kd e.1 = 1) (kk : Q (nI (rl_count G dt db rt fl ll ls)) (f, A)) : ∀ (m i n : Nat), i + m = ls.length → n + rl_count G dt db rt fl ll (ls.drop i) = rl_count G dt db rt fl ll ls → ∀ lv : tm_L, lv.lookup 0 = some (.ref 1482) → lv.lookup 1 = some (.int (nI n)) → lv.lookup 2 = some (.int (nI i)) → mg sc (d + 1) 285 8 lv [] (f, A) (fun r s' => ∃ x, r = some (.int x) ∧ Q x s') := by
  have h43 := hS.2.2.1.1.1.1
  have h7 := hS.2.2.1.1.1.2
  have hL := MT_len hM
  have hle := rl_le G dt db rt fl ll ls
  intro m
  induction m with
  | zero =>
    intro i n hi hc lv l0 l1 l2
    have ei : i = ls.length := by omega
    rw [ei, List.drop_length] at hc
    have hc : n + 0 = _ := hc
    refine m_ild (pc' := 9) cd_Mo_leaked rfl (Or.inr ⟨_, rfl, rfl, rfl⟩) l2 rfl ?_
    refine m_ald (pc' := 10) cd_Mo_leaked rfl (Or.inr ⟨_, rfl, rfl, rfl⟩) l0 rfl rfl ?_
    refine m_fI (k := 43) (x := (nI ls.length)) (pc' := 13) cd_Mo_leaked rfl rfl rfl rfl rfl h43 ?_
    refine m_if2 (t := 52) (pc' := 16) cd_Mo_leaked rfl rfl rfl (fun c13 => ?_) (fun c13 => ?_)
    · have c13 : (nI ls.length) ≤ (nI i) := c13
      refine m_ild (pc' := 53) cd_Mo_leaked rfl (Or.inr ⟨_, rfl, rfl, rfl⟩) l1 rfl ?_
      exact m_reti cd_Mo_leaked rfl ⟨_, rfl, (by rw [← hc] at kk; exact kk)⟩
    · have c13 : ¬ (nI ls.length) ≤ (nI i) := c13
      exact absurd (nI_le (by omega) (by omega)) c13
  | succ m ih =>
    intro i n hi hc lv l0 l1 l2
    obtain ⟨e, he⟩ : ∃ e, ls[i]? = some e := ⟨_, List.getElem?_eq_getElem (by omega)⟩
    obtain ⟨t1, t2, t3⟩ := hto i e he
    have hE := hS.2.2.1.1.2 i e he
    obtain ⟨u, eu, hu⟩ := hE.1
    have hul := tv_lt hu
    have hu0 := MT_pos hM hu (kd1_nz t3)
    have hWe := hW e (List.mem_of_getElem? he) t3
    rw [drop_at he, rl_cons] at hc
    have hcl := rl_le G dt db rt fl ll (ls.drop (i + 1))
    refine m_ild (pc' := 9) cd_Mo_leaked rfl (Or.inr ⟨_, rfl, rfl, rfl⟩) l2 rfl ?_
    refine m_ald (pc' := 10) cd_Mo_leaked rfl (Or.inr ⟨_, rfl, rfl, rfl⟩) l0 rfl rfl ?_
    refine m_fI (k := 43) (x := (nI ls.length)) (pc' := 13) cd_Mo_leaked rfl rfl rfl rfl rfl h43 ?_
    refine m_if2 (t := 52) (pc' := 16) cd_Mo_leaked rfl rfl rfl (fun c13 => ?_) (fun c13 => ?_)
    · have c13 : (nI ls.length) ≤ (nI i) := c13
      exact absurd c13 (nI_ge (by omega) (by omega))
    · have c13 : ¬ (nI ls.length) ≤ (nI i) := c13
      refine m_ild (pc' := 17) cd_Mo_leaked rfl (Or.inr ⟨_, rfl, rfl, rfl⟩) l1 rfl ?_
      refine m_ald (pc' := 18) cd_Mo_leaked rfl (Or.inr ⟨_, rfl, rfl, rfl⟩) l0 rfl rfl ?_
      refine m_fR (r := 5) (a := 6) (ad := 1488) (pc' := 21) rfl rfl cd_Mo_leaked rfl rfl rfl rfl rfl ?_
      refine m_ald (pc' := 22) cd_Mo_leaked rfl (Or.inr ⟨_, rfl, rfl, rfl⟩) l0 rfl rfl ?_
      refine m_fR (r := 29) (a := 30) (ad := 1512) (pc' := 25) rfl rfl cd_Mo_leaked rfl rfl rfl rfl rfl ?_
      refine m_ild (pc' := 26) cd_Mo_leaked rfl (Or.inr ⟨_, rfl, rfl, rfl⟩) l2 rfl ?_
      refine m_aI (r := 29) (a := 30) (g := (A 30)) (x := nI u) (pc' := 27) rfl rfl cd_Mo_leaked rfl rfl rfl (vp_in_nI (by omega) (by decide)) (by rw [(nI_clamp (by omega))]; exact eu) ?_
      refine m_bI (r := 5) (a := 6) (g := (A 6)) (x := (cif (Kw e.1) (1 : Int32) 0)) (pc' := 28) rfl rfl cd_Mo_leaked rfl rfl rfl (vp_in_nI (by omega) (by decide)) (by rw [(nI_clamp (by omega))]; exact MT_kn hM hu0 hu) ?_
      refine m_if1 (t := 43) (pc' := 31) cd_Mo_leaked rfl rfl rfl (fun c28 => ?_) (fun c28 => ?_)
      · have c28 : (cif (Kw e.1) (1 : Int32) 0) = 0 := c28
        refine m_k1 (v := 0) (pc' := 44) cd_Mo_leaked rfl (by decide) rfl ?_
        refine m_pure (pc' := 45) (st' := [.int ((nI n) + 0)]) cd_Mo_leaked rfl rfl (fun _ _ => rfl) ?_
        refine m_eq (show ((nI n) + 0 : Int32) = nI (n + 0) from nI_add n 0) ?_
        refine m_ist (pc' := 46) cd_Mo_leaked rfl (Or.inr ⟨_, rfl, rfl, rfl⟩) (by decide) rfl (fun lv el => ?_)
        have l0 := tm_lk el l0 rfl (by decide)
        have l2 := tm_lk el l2 rfl (by decide)
        have l1 : lv.lookup 1 = some (.int (nI (n + 0))) := tm_lks el
        clear el
        refine m_inc (y := nI (i + 1)) (pc' := 49) cd_Mo_leaked rfl l2 (by decide) (nI_add i 1) rfl (fun lv el => ?_)
        have l0 := tm_lk el l0 rfl (by decide)
        have l1 := tm_lk el l1 rfl (by decide)
        have l2 : lv.lookup 2 = some (.int (nI (i + 1))) := tm_lks el
        clear el
        refine m_pure (pc' := 8) (st' := []) cd_Mo_leaked rfl rfl (fun _ _ => rfl) ?_
        rw [cif_f (fun q => cz c28 (hWe.mpr q.1))] at hc
        exact ih (i + 1) _ (by omega) (by omega) lv l0 l1 l2
      · have c28 : ¬ (cif (Kw e.1) (1 : Int32) 0) = 0 := c28
        refine m_ald (pc' := 32) cd_Mo_leaked rfl (Or.inr ⟨_, rfl, rfl, rfl⟩) l0 rfl rfl ?_
        refine m_ild (pc' := 33) cd_Mo_leaked rfl (Or.inr ⟨_, rfl, rfl, rfl⟩) l2 rfl ?_
        refine m_ci (pc' := 36) cd_Mo_leaked rfl rfl rfl rfl rfl cd_Mo_isSafe rfl (Nat.le_of_ble_eq_true rfl) (m_isSafe hM hS.2.2.2.2.1.1 hS.2.2.2.2.1.2.1 hS.2.2.2.2.1.2.2 hS.2.2.2.2.2.1.1 hS.2.2.2.2.2.1.2 (by omega) hE t1 t2 t3 ?_)
        show mg _ _ _ 36 _ [.int (bz (rl_safe dt db rt fl ll e)), .int (nI n)] _ _
        refine m_if1 (t := 43) (pc' := 39) cd_Mo_leaked rfl rfl rfl (fun c36 => ?_) (fun c36 => ?_)
        · have c36 : (rl_safe dt db rt fl ll e) = false := bz_f c36
          refine m_k1 (v := 0) (pc' := 44) cd_Mo_leaked rfl (by decide) rfl ?_
          refine m_pure (pc' := 45) (st' := [.int ((nI n) + 0)]) cd_Mo_leaked rfl rfl (fun _ _ => rfl) ?_
          refine m_eq (show ((nI n) + 0 : Int32) = nI (n + 0) from nI_add n 0) ?_
          refine m_ist (pc' := 46) cd_Mo_leaked rfl (Or.inr ⟨_, rfl, rfl, rfl⟩) (by decide) rfl (fun lv el => ?_)
          have l0 := tm_lk el l0 rfl (by decide)
          have l2 := tm_lk el l2 rfl (by decide)
          have l1 : lv.lookup 1 = some (.int (nI (n + 0))) := tm_lks el
          clear el
          refine m_inc (y := nI (i + 1)) (pc' := 49) cd_Mo_leaked rfl l2 (by decide) (nI_add i 1) rfl (fun lv el => ?_)
          have l0 := tm_lk el l0 rfl (by decide)
          have l1 := tm_lk el l1 rfl (by decide)
          have l2 : lv.lookup 2 = some (.int (nI (i + 1))) := tm_lks el
          clear el
          refine m_pure (pc' := 8) (st' := []) cd_Mo_leaked rfl rfl (fun _ _ => rfl) ?_
          rw [cif_f (fun q => absurd (c36.symm.trans q.2) (by decide))] at hc
          exact ih (i + 1) _ (by omega) (by omega) lv l0 l1 l2
        · have c36 : (rl_safe dt db rt fl ll e) = true := bz_t c36
          refine m_k1 (v := 1) (pc' := 40) cd_Mo_leaked rfl (by decide) rfl ?_
          refine m_pure (pc' := 44) (st' := [.int 1, .int (nI n)]) cd_Mo_leaked rfl rfl (fun _ _ => rfl) ?_
          refine m_pure (pc' := 45) (st' := [.int ((nI n) + 1)]) cd_Mo_leaked rfl rfl (fun _ _ => rfl) ?_
          refine m_eq (show ((nI n) + 1 : Int32) = nI (n + 1) from nI_add n 1) ?_
          refine m_ist (pc' := 46) cd_Mo_leaked rfl (Or.inr ⟨_, rfl, rfl, rfl⟩) (by decide) rfl (fun lv el => ?_)
          have l0 := tm_lk el l0 rfl (by decide)
          have l2 := tm_lk el l2 rfl (by decide)
          have l1 : lv.lookup 1 = some (.int (nI (n + 1))) := tm_lks el
          clear el
          refine m_inc (y := nI (i + 1)) (pc' := 49) cd_Mo_leaked rfl l2 (by decide) (nI_add i 1) rfl (fun lv el => ?_)
          have l0 := tm_lk el l0 rfl (by decide)
          have l1 := tm_lk el l1 rfl (by decide)
          have l2 : lv.lookup 2 = some (.int (nI (i + 1))) := tm_lks el
          clear el
          refine m_pure (pc' := 8) (st' := []) cd_Mo_leaked rfl rfl (fun _ _ => rfl) ?_
          rw [cif_t ⟨hWe.mp (cnz c28), c36⟩] at hc
          exact ih (i + 1) _ (by omega) (by omega) lv l0 l1 l2
set_option maxRecDepth 100000 in
theorem mo_leaked {sc : tm_X} {d : Nat} {f : Nat → Int32} {A : Nat → Nat → Int32} {T : List Tm} {DL : List (Int32 × Int32)} {G Kw : Tm → Prop} {dev : Nat → DV} {sto : Nat → ST} {ws : List (Tm × Int32)} {dir reg : Nat → Tm} {seen : List Tm} {ls : List RL} {lo dt db rt fl ll tl tf tg tm : Nat → Int32} {ck fo du : Int32} {Q : Int32 → MS → Prop} (hM : MT f A T DL G Kw) (hS : RS f A T DL dev sto ws dir reg seen ls lo (dt, db, rt, fl, ll, tl, tf, tg, tm, ck, fo, du)) (hK : ∀ y, Kw y → Kn G y) (hst : f 16 = 0 → ∀ e, e ∈ ls → Kn G e.1 → Kw e.1) (hto : ∀ (i : Nat) (e : RL), ls[i]? = some e → (∃ s, s < 6 ∧ e.2.1 = nI s) ∧ (e.2.2.1 < 16 → (∃ q, q < 6 ∧ e.2.2.1 = nI q) ∧ kd e.2.2.2.2.1 = 1 ∧ kd e.2.2.2.2.2.1 = 1) ∧ kd e.1 = 1) (kk : ∀ f1 A1 W1, MT f1 A1 T DL G W1 → (∀ y, W1 y → Kn G y) → (∀ e, e ∈ ls → Kn G e.1 → W1 e.1) → f1 16 = 0 → RS f1 A1 T DL dev sto ws dir reg seen ls lo (dt, db, rt, fl, ll, tl, tf, tg, tm, ck, fo, du) →  Q (nI (rl_count G dt db rt fl ll ls)) (f1, A1)) : mGi sc (d + 5) 285 [.ref 1482] (f, A) Q := by
  show mg sc (d + 5) 285 0 [(0, .ref 1482)] [] (f, A) _
  generalize elv : ([(0, .ref 1482)] : tm_L) = lv
  have l0 : lv.lookup 0 = some (.ref 1482) := by rw [← elv]; rfl
  clear elv
  refine m_ald (pc' := 1) cd_Mo_leaked rfl (Or.inr ⟨_, rfl, rfl, rfl⟩) l0 rfl rfl ?_
  refine m_cv (pc' := 4) cd_Mo_leaked rfl rfl rfl rfl rfl cd_Mo_derive rfl (Nat.le_of_ble_eq_true rfl) (m_derive (Pp := fun X => ∃ e, e ∈ ls ∧ e.1 = X) hM hK (fun z X h1 h2 h3 h4 => by obtain ⟨e, h5, rfl⟩ := h3; exact hst z e h5 h4) (fun A1 W1 h1 e1 hso hW0 => ?_))
  have hW1 : ∀ e, e ∈ ls → kd e.1 = 1 → (W1 e.1 ↔ Kn G e.1) := fun e h1 h2 => by
    obtain ⟨i, hi⟩ := List.getElem?_of_mem h1
    exact hW0 e.1 (tv_mem (hS.2.2.1.1.2 i e hi).1) (kd1_nz h2) ⟨e, h1, rfl⟩
  show mg _ _ _ 4 _ [] _ _
  refine m_k1 (v := 0) (pc' := 5) cd_Mo_leaked rfl (by decide) rfl ?_
  refine m_ist (pc' := 6) cd_Mo_leaked rfl (Or.inr ⟨_, rfl, rfl, rfl⟩) (by decide) rfl (fun lv el => ?_)
  have l0 := tm_lk el l0 rfl (by decide)
  have l1 : lv.lookup 1 = some (.int 0) := tm_lks el
  clear el
  refine m_k1 (v := 0) (pc' := 7) cd_Mo_leaked rfl (by decide) rfl ?_
  refine m_ist (pc' := 8) cd_Mo_leaked rfl (Or.inr ⟨_, rfl, rfl, rfl⟩) (by decide) rfl (fun lv el => ?_)
  have l0 := tm_lk el l0 rfl (by decide)
  have l1 := tm_lk el l1 rfl (by decide)
  have l2 : lv.lookup 2 = some (.int 0) := tm_lks el
  clear el
  exact l_mleak h1 (RS_d hS e1) hW1 hto (kk _ A1 W1 h1 hso (fun x hx hk => by obtain ⟨i, hi⟩ := List.getElem?_of_mem hx; exact (hW1 x hx (hto i x hi).2.2).mpr hk) (fset_same _ _ _) (RS_d hS e1)) ls.length 0 0 (by omega) (by rw [Nat.zero_add]; rfl) lv l0 l1 l2
