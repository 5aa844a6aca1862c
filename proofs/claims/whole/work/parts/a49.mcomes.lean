/-! The reference: comes, its pieces -/
def rt_l (lo : Nat → Int32) (S : Tm) : Int32 := if kd S = 1 then lo (mk S).toNatClampNeg else -1
def rt_e (ls : List RL) (lo : Nat → Int32) (S : Tm) : Option RL := if rt_l lo S = -1 then none else ls[(rt_l lo S).toNatClampNeg]?
def rt_to (q : Nat) (g : Int32) : Int32 := if g = -1 then nI q else 16 + g
def rt_ls (ls : List RL) (lo : Nat → Int32) (q : Nat) (g : Int32) (S : Tm) (oc : Bool) (ck : Int32) : List RL := match rt_e ls lo S with
  | none => ls
  | some e => if e.2.2.2.2.2.2.2.2 q = 2147483647 then ls.set (rt_l lo S).toNatClampNeg (rl_take e q ck (if g = -1 then false else oc)) else ls
def rt_fo (ls : List RL) (lo fl : Nat → Int32) (q : Nat) (p g : Int32) (S : Tm) (fo : Int32) : Int32 := match rt_e ls lo S with
  | none => if tl_cl fl q p.toNatClampNeg = true then fo + 1 else fo
  | some e => if tl_cl fl q p.toNatClampNeg = true ∧ tl_did e (rt_to q g) p = false then fo + 1 else fo
def rt_du (ls : List RL) (lo fl : Nat → Int32) (q : Nat) (p : Int32) (S : Tm) (du : Int32) : Int32 := match rt_e ls lo S with
  | none => du
  | some e => if tl_cl fl q p.toNatClampNeg = true ∧ e.2.2.2.2.2.2.2.2 q ≠ 2147483647 then du + 1 else du
theorem rt_none {ls : List RL} {lo : Nat → Int32} {S : Tm} (h : rt_l lo S = -1) : rt_e ls lo S = none := if_pos h
theorem rt_some {ls : List RL} {lo : Nat → Int32} {S : Tm} {i : Nat} {e : RL} (h : rt_l lo S = nI i) (he : ls[i]? = some e) (h7 : ls.length ≤ 700) : rt_e ls lo S = some e := by
  have hi := (List.getElem?_eq_some_iff.mp he).1
  unfold rt_e
  rw [h, if_neg (nI_nm1 (by omega)), nI_clamp (by omega), he]
theorem rc_MT {f f' : Nat → Int32} {A A' : Nat → Nat → Int32} {T : List Tm} {DL DL' : List (Int32 × Int32)} {G W G' W' : Tm → Prop} (h : MT f A T DL G W) (h' : MT f' A' T DL' G' W') : rc (A 1) T.length = rc (A' 1) T.length := rc_congr (fun i hi => by rw [MT_kd h (List.getElem?_eq_getElem hi), MT_kd h' (List.getElem?_eq_getElem hi)])
theorem MT_out {f : Nat → Int32} {A : Nat → Nat → Int32} {f' : Nat → Int32} {A' : Nat → Nat → Int32} {T E : List Tm} {DL : List (Int32 × Int32)} {G W : Tm → Prop} (h : MT f A T DL G W) (h' : MT f' A' (T ++ E) DL G W) : ∀ X, X ∈ E → ¬ G X ∧ ¬ W X := by
  intro X hX
  have nd : X ∉ T := fun hT => by
    obtain ⟨i, hi⟩ := List.getElem?_of_mem hT
    obtain ⟨j, hj⟩ := List.getElem?_of_mem hX
    have hl := (List.getElem?_eq_some_iff.mp hi).1
    have h1 : (T ++ E)[i]? = some X := by rw [List.getElem?_append_left hl]; exact hi
    have h2 : (T ++ E)[T.length + j]? = some X := by rw [List.getElem?_append_right (by omega), Nat.add_sub_cancel_left]; exact hj
    have := h'.2.2.1.1 _ _ X h1 h2
    omega
  exact ⟨fun hG => nd (h.2.2.2.2.2.1 X hG).1, fun hW => nd (h.2.2.2.2.2.2 X hW).1⟩
theorem form_cases (X : Tm) : (tm_form X = 3 ∧ kd X = 5 ∧ Tgood 3 (pt X 1) = true) ∨ (tm_form X = 6 ∧ kd X = 6 ∧ Tgood 6 (pt X 1) = true) ∨ (tm_form X = 7 ∧ kd X = 6 ∧ Tgood 6 (pt X 1) = false ∧ kd (pt X 1) = 5 ∧ Tgood 7 (pt (pt X 1) 1) = true) ∨ (tm_form X = 0 ∧ (kd X = 5 → Tgood 3 (pt X 1) = false) ∧ (kd X = 6 → Tgood 6 (pt X 1) = false ∧ ¬ (kd (pt X 1) = 5 ∧ Tgood 7 (pt (pt X 1) 1) = true))) := by
  unfold tm_form
  by_cases c5 : kd X = 5
  · rw [if_pos c5]
    cases g : Tgood 3 (pt X 1) with
    | true => exact Or.inl ⟨rfl, c5, rfl⟩
    | false => exact Or.inr (Or.inr (Or.inr ⟨rfl, fun _ => rfl, fun q => absurd (c5.symm.trans q) (by decide)⟩))
  · rw [if_neg c5]
    by_cases c6 : kd X = 6
    · rw [if_pos c6]
      cases g : Tgood 6 (pt X 1) with
      | true => exact Or.inr (Or.inl ⟨rfl, c6, rfl⟩)
      | false =>
        by_cases c7 : kd (pt X 1) = 5 ∧ Tgood 7 (pt (pt X 1) 1) = true
        · exact Or.inr (Or.inr (Or.inl ⟨by rw [if_neg (by decide), if_pos c7], c6, rfl, c7.1, c7.2⟩))
        · exact Or.inr (Or.inr (Or.inr ⟨by rw [if_neg (by decide), if_neg c7], fun q => absurd q c5, fun _ => ⟨rfl, c7⟩⟩))
    · rw [if_neg c6]
      exact Or.inr (Or.inr (Or.inr ⟨rfl, fun q => absurd q c5, fun q => absurd q c6⟩))
set_option maxRecDepth 100000 in
theorem l_mcoN {sc : tm_X} {d : Nat} {f : Nat → Int32} {A : Nat → Nat → Int32} {T : List Tm} {DL : List (Int32 × Int32)} {G Kw : Tm → Prop} {f0 : Nat → Int32} {A0 : Nat → Nat → Int32} {E : List Tm} {v : Int32} {Q : Int32 → MS → Prop} (h0 : MT f0 A0 T DL G Kw) (hM : MT f A (T ++ E) DL G Kw) (hv : v < 0) (kk : ∀ f1 A1, MT (mjF f1 f) (mjA A1 A) T DL G Kw → Q v (mjF f1 f, mjA A1 A)) : ∀ lv : tm_L, lv.lookup 0 = some (.ref 1482) → lv.lookup 3 = some (.int (nI T.length)) → lv.lookup 5 = some (.int v) → mg sc (d + 8) 230 114 lv [] (f, A) (fun r s' => ∃ v, r = some (.int v) ∧ Q v s') := by
  intro lv l0 l3 l5
  refine m_ild (pc' := 116) cd_Mo_comes rfl (Or.inl ⟨rfl, rfl⟩) l5 rfl ?_
  refine m_if1 (t := 127) (pc' := 119) cd_Mo_comes rfl rfl rfl (fun c116 => ?_) (fun c116 => ?_)
  · have c116 : (0 : Int32) ≤ v := c116
    exact absurd hv (Int32.not_lt.mpr c116)
  · have c116 : ¬ (0 : Int32) ≤ v := c116
    refine m_ald (pc' := 120) cd_Mo_comes rfl (Or.inr ⟨_, rfl, rfl, rfl⟩) l0 rfl rfl ?_
    refine m_ild (pc' := 121) cd_Mo_comes rfl (Or.inr ⟨_, rfl, rfl, rfl⟩) l3 rfl ?_
    refine m_cv (pc' := 124) cd_Mo_comes rfl rfl rfl rfl rfl cd_Mo_forget rfl (Nat.le_of_ble_eq_true rfl) (m_forget hM (MT_len h0).1 (MT_out h0 hM) (fun f1 A1 hM1 => ?_))
    show mg _ _ _ 124 _ [] _ _
    refine m_ild (pc' := 126) cd_Mo_comes rfl (Or.inl ⟨rfl, rfl⟩) l5 rfl ?_
    exact m_reti cd_Mo_comes rfl ⟨_, rfl, (kk f1 A1 hM1)⟩
set_option maxRecDepth 100000 in
theorem l_mcoC {sc : tm_X} {d : Nat} {f : Nat → Int32} {A : Nat → Nat → Int32} {T : List Tm} {DL : List (Int32 × Int32)} {G Kw : Tm → Prop} {dev : Nat → DV} {sto : Nat → ST} {ws : List (Tm × Int32)} {dir reg : Nat → Tm} {seen : List Tm} {ls : List RL} {lo dt db rt fl ll tl tf tg tm : Nat → Int32} {ck fo du : Int32} {id' : Tm} {K0' K1' : PK} {on' : List (Tm × Int32)} {lnu' : Int32} {se' : Nat → List SS} {me' : Nat → MM} {p0 : Bool} {P O : EN2} {c : Option Nat} {q ti : Nat} {x4 v : Int32} {Q : Int32 → MS → Prop} (hM : MT f A T DL G Kw) (hS : RS f A T DL dev sto ws dir reg seen ls lo (dt, db, rt, fl, ll, tl, tf, tg, tm, ck, fo, du)) (hws : ws.length ≤ 692) (hq : q < 6) (hv : 0 ≤ v) (h30 : f 30 = 0) (h32 : f 32 = 0) (eid : (dev q).1 = id') (hD : qDv (A 15) T (id', K0', K1', on', lnu', se', me')) (hz0 : K0'.1 = tz ↔ K0'.2.1 = 0) (hz1 : K1'.1 = tz ↔ K1'.2.1 = 0) (hen : (dv_en (id', K0', K1', on', lnu', se', me')).length ≤ 536) (hst : sto q = (p0, P, O, c, false)) (k0 : (st_commit p0 P c (dv_en (id', K0', K1', on', lnu', se', me'))).1 = 0 → ∀ f1 A1, MT f1 A1 T DL G Kw → A1 1 = A 1 → f1 16 = f 16 → RS f1 A1 T DL dev (fset sto q (st_commit p0 P c (dv_en (id', K0', K1', on', lnu', se', me'))).2) ws dir reg seen ls lo (dt, db, rt, fl, ll, tl, tf, tg, tm, ck, fo, du) → Q (-4) (f1, A1)) (k1 : (st_commit p0 P c (dv_en (id', K0', K1', on', lnu', se', me'))).1 = 1 → ∀ f1 A1, MT f1 A1 T DL G Kw → A1 1 = A 1 → f1 16 = f 16 → RS f1 A1 T DL (fset dev q (id', K0', K1', on', lnu', se', me')) (fset sto q (st_commit p0 P c (dv_en (id', K0', K1', on', lnu', se', me'))).2) ws dir reg seen ls lo (dt, db, rt, fl, ll, tl, tf, tg, tm, ck, fo, du) → Q (-4) (f1, A1)) (k2 : (st_commit p0 P c (dv_en (id', K0', K1', on', lnu', se', me'))).1 = 2 → ∀ f1 A1 (lv : tm_L), MT f1 A1 T DL G Kw → A1 1 = A 1 → (f1 16 = 1 ∨ f1 16 = f 16) → A1 44 = A 44 → A1 2 = A 2 → A1 3 = A 3 → RS f1 A1 T DL (fset dev q (id', K0', K1', on', lnu', se', me')) (fset sto q (st_commit p0 P c (dv_en (id', K0', K1', on', lnu', se', me'))).2) ws dir reg seen ls lo (dt, db, rt, fl, ll, tl, tf, tg, tm, ck, fo, du) → lv.lookup 0 = some (.ref 1482) → lv.lookup 1 = some (.int (nI q)) → lv.lookup 2 = some (.int (nI ti)) → lv.lookup 4 = some (.int x4) → lv.lookup 5 = some (.int v) → mg sc (d + 8) 230 138 lv [] (f1, A1) (fun r s' => ∃ v, r = some (.int v) ∧ Q v s')) : ∀ lv : tm_L, lv.lookup 0 = some (.ref 1482) → lv.lookup 1 = some (.int (nI q)) → lv.lookup 2 = some (.int (nI ti)) → lv.lookup 4 = some (.int x4) → lv.lookup 5 = some (.int v) → mg sc (d + 8) 230 114 lv [] (f, A) (fun r s' => ∃ v, r = some (.int v) ∧ Q v s') := by
  intro lv l0 l1 l2 l4 l5
  refine m_ild (pc' := 116) cd_Mo_comes rfl (Or.inl ⟨rfl, rfl⟩) l5 rfl ?_
  refine m_if1 (t := 127) (pc' := 119) cd_Mo_comes rfl rfl rfl (fun c116 => ?_) (fun c116 => ?_)
  · have c116 : (0 : Int32) ≤ v := c116
    refine m_ald (pc' := 128) cd_Mo_comes rfl (Or.inr ⟨_, rfl, rfl, rfl⟩) l0 rfl rfl ?_
    refine m_ild (pc' := 129) cd_Mo_comes rfl (Or.inr ⟨_, rfl, rfl, rfl⟩) l1 rfl ?_
    refine m_ci (pc' := 132) cd_Mo_comes rfl rfl rfl rfl rfl cd_Mo_commits rfl (Nat.le_of_ble_eq_true rfl) (m_commits0 (NW := []) (f := f) (A := A) hM hS hq eid hD hz0 hz1 hen hst h30 (by decide) (fun i X q => by simp at q) (fun X q => absurd q List.not_mem_nil) (by simp only [List.length_nil]; omega) h32 (fun hc f2 A2 hM2 e16 hS2 => ?_) (fun hc f2 A2 hM2 e16 hS2 => ?_) (fun hc f2 A2 hM2 e16 hS2 => ?_))
    · skip
      show mg _ _ _ 132 _ [.int 0] _ _
      refine m_if1 (t := 138) (pc' := 135) cd_Mo_comes rfl rfl rfl (fun c132 => ?_) (fun c132 => ?_)
      · exact absurd (show ¬ (0 : Int32) = 0 from c132) (by decide)
      · have c132 : (0 : Int32) = 0 := Classical.not_not.mp c132
        refine m_k2 (v := (-4)) (pc' := 137) cd_Mo_comes rfl (by decide) rfl ?_
        exact m_reti cd_Mo_comes rfl ⟨_, rfl, (k0 hc _ _ hM2 rfl e16 hS2)⟩
    · skip
      show mg _ _ _ 132 _ [.int 0] _ _
      refine m_if1 (t := 138) (pc' := 135) cd_Mo_comes rfl rfl rfl (fun c132 => ?_) (fun c132 => ?_)
      · exact absurd (show ¬ (0 : Int32) = 0 from c132) (by decide)
      · have c132 : (0 : Int32) = 0 := Classical.not_not.mp c132
        refine m_k2 (v := (-4)) (pc' := 137) cd_Mo_comes rfl (by decide) rfl ?_
        exact m_reti cd_Mo_comes rfl ⟨_, rfl, (k1 hc _ _ hM2 rfl e16 hS2)⟩
    · skip
      have hM2 := MT_G hM2 (G' := G) (W' := Kw) (fun y => ⟨fun q => q.elim (fun z => z) (fun q => absurd q List.not_mem_nil), Or.inl⟩) (fun _ => Iff.rfl)
      rw [List.map_nil, List.append_nil] at hS2
      show mg _ _ _ 132 _ [.int 1] _ _
      refine m_if1 (t := 138) (pc' := 135) cd_Mo_comes rfl rfl rfl (fun c132 => ?_) (fun c132 => ?_)
      · have c132 : ¬ (1 : Int32) = 0 := c132
        exact k2 hc _ _ lv hM2 rfl (e16.imp (fun z => z) (fun q => q.1)) rfl rfl rfl hS2 l0 l1 l2 l4 l5
      · exact absurd (show ¬ (¬ (1 : Int32) = 0) from c132) (by decide)
  · have c116 : ¬ (0 : Int32) ≤ v := c116
    exact absurd hv c116
set_option maxRecDepth 100000 in
theorem l_mcoE {sc : tm_X} {d : Nat} {f : Nat → Int32} {A : Nat → Nat → Int32} {q ti : Nat} {x4 v : Int32} {Q : Int32 → MS → Prop} (hv : ¬ v = 1) (kk : Q v (f, A)) : ∀ lv : tm_L, lv.lookup 0 = some (.ref 1482) → lv.lookup 1 = some (.int (nI q)) → lv.lookup 2 = some (.int (nI ti)) → lv.lookup 4 = some (.int x4) → lv.lookup 5 = some (.int v) → mg sc (d + 8) 230 138 lv [] (f, A) (fun r s' => ∃ v, r = some (.int v) ∧ Q v s') := by
  intro lv l0 l1 l2 l4 l5
  refine m_ild (pc' := 140) cd_Mo_comes rfl (Or.inl ⟨rfl, rfl⟩) l5 rfl ?_
  refine m_k1 (v := 1) (pc' := 141) cd_Mo_comes rfl (by decide) rfl ?_
  refine m_if2 (t := 166) (pc' := 144) cd_Mo_comes rfl rfl rfl (fun c141 => ?_) (fun c141 => ?_)
  · have c141 : ¬ v = 1 := c141
    refine m_ild (pc' := 168) cd_Mo_comes rfl (Or.inl ⟨rfl, rfl⟩) l5 rfl ?_
    exact m_reti cd_Mo_comes rfl ⟨_, rfl, kk⟩
  · have c141 : v = 1 := Classical.not_not.mp c141
    exact absurd c141 hv
set_option maxRecDepth 100000 in
theorem l_mcoTD {sc : tm_X} {d : Nat} {f : Nat → Int32} {A : Nat → Nat → Int32} {T : List Tm} {DL : List (Int32 × Int32)} {G Kw : Tm → Prop} {dev : Nat → DV} {sto : Nat → ST} {ws : List (Tm × Int32)} {dir reg : Nat → Tm} {seen : List Tm} {ls : List RL} {lo dt db rt fl ll tl tf tg tm : Nat → Int32} {ck fo du : Int32} {q p ti : Nat} {X : Tm} {oc : Bool} {Q : Int32 → MS → Prop} (hM : MT f A T DL G Kw) (hS : RS f A T DL dev sto ws dir reg seen ls lo (dt, db, rt, fl, ll, tl, tf, tg, tm, ck, fo, du)) (hq : q < 6) (hp : p < 6) (hX : T[ti]? = some X) (kX : kd X = 5) (k7h : kd (pt X 1) = 7) (k7b : kd (pt X 2) = 7) (ep : nu (pt X 1) 0 = nI p) (hlo : ∀ m, m < DL.length → lo m = -1 ∨ ∃ i e, ls[i]? = some e ∧ lo m = nI i) (kk : ∀ f1 A1, MT f1 A1 T DL G Kw → f1 16 = f 16 → RS f1 A1 T DL dev sto ws dir reg seen (rt_ls ls lo q (-1) (pt (pt X 2) 0) oc ck) lo (dt, db, rt, fl, ll, (upd tl q (rt_l lo (pt (pt X 2) 0))), (upd tf q (nI p)), (upd tg q (-1)), (upd tm q (tm q + 1)), ck, (rt_fo ls lo fl q (nI p) (-1) (pt (pt X 2) 0) fo), (rt_du ls lo fl q (nI p) (pt (pt X 2) 0) du)) → Q 1 (f1, A1)) : ∀ lv : tm_L, lv.lookup 0 = some (.ref 1482) → lv.lookup 1 = some (.int (nI q)) → lv.lookup 2 = some (.int (nI ti)) → lv.lookup 4 = some (.int 0) → lv.lookup 5 = some (.int 1) → mg sc (d + 8) 230 138 lv [] (f, A) (fun r s' => ∃ v, r = some (.int v) ∧ Q v s') := by
  intro lv l0 l1 l2 l4 l5
  have hTl := MT_len hM
  have hti := tv_lt hX
  have h700 := hS.2.2.1.1.1.2
  have hDl : DL.length ≤ 3000 := hM.1.2.2.2
  have hcase : (rt_l lo (pt (pt X 2) 0) = -1 ∧ (kd (pt (pt X 2) 0) = 1 → ∃ m, mk (pt (pt X 2) 0) = nI m ∧ m < 3000 ∧ lo m = -1)) ∨ (kd (pt (pt X 2) 0) = 1 ∧ ∃ m i e, mk (pt (pt X 2) 0) = nI m ∧ m < 3000 ∧ lo m = nI i ∧ ls[i]? = some e ∧ rt_l lo (pt (pt X 2) 0) = nI i) := by
    by_cases ck1 : kd (pt (pt X 2) 0) = 1
    · obtain ⟨bi, ebi, hbi⟩ := MT_three hM hX kX
      obtain ⟨yi, eyi, hyi⟩ := (MT_cells hM hbi k7b).2 0 (by decide)
      obtain ⟨m, hmk, hml⟩ := MT_secm hM hyi ck1
      have el : rt_l lo (pt (pt X 2) 0) = lo m := (if_pos ck1).trans (by rw [hmk, nI_clamp (by omega)])
      rcases hlo m hml with h1 | ⟨i, e, he, h1⟩
      · exact Or.inl ⟨el.trans h1, fun _ => ⟨m, hmk, by omega, h1⟩⟩
      · exact Or.inr ⟨ck1, m, i, e, hmk, by omega, h1, he, el.trans h1⟩
    · exact Or.inl ⟨if_neg ck1, fun q => absurd q ck1⟩
  rcases hcase with ⟨hl, hln⟩ | ⟨kY, m, i, e, hmk, hm, hlo2, he, hl⟩
  · skip
    have hre := rt_none (ls := ls) hl
    unfold rt_ls rt_fo rt_du at kk
    rw [hre, hl, nI_clamp (show p < 2147483648 by omega)] at kk
    dsimp only at kk
    refine m_ild (pc' := 140) cd_Mo_comes rfl (Or.inl ⟨rfl, rfl⟩) l5 rfl ?_
    refine m_k1 (v := 1) (pc' := 141) cd_Mo_comes rfl (by decide) rfl ?_
    refine m_if2 (t := 166) (pc' := 144) cd_Mo_comes rfl rfl rfl (fun c141 => ?_) (fun c141 => ?_)
    · exact absurd (show ¬ (1 : Int32) = 1 from c141) (by decide)
    · have c141 : (1 : Int32) = 1 := Classical.not_not.mp c141
      refine m_ald (pc' := 145) cd_Mo_comes rfl (Or.inr ⟨_, rfl, rfl, rfl⟩) l0 rfl rfl ?_
      refine m_ild (pc' := 146) cd_Mo_comes rfl (Or.inr ⟨_, rfl, rfl, rfl⟩) l1 rfl ?_
      refine m_ild (pc' := 148) cd_Mo_comes rfl (Or.inl ⟨rfl, rfl⟩) l4 rfl ?_
      refine m_if1 (t := 160) (pc' := 151) cd_Mo_comes rfl rfl rfl (fun c148 => ?_) (fun c148 => ?_)
      · have c148 : (0 : Int32) = 0 := c148
        refine m_ild (pc' := 161) cd_Mo_comes rfl (Or.inr ⟨_, rfl, rfl, rfl⟩) l2 rfl ?_
        refine m_ild (pc' := 163) cd_Mo_comes rfl (Or.inl ⟨rfl, rfl⟩) l4 rfl ?_
        refine m_cv (pc' := 166) cd_Mo_comes rfl rfl rfl rfl rfl cd_Mo_tells rfl (Nat.le_of_ble_eq_true rfl) (m_tellsDN hM hS hq hp hX kX k7h k7b ep hln (fun f1 A1 q1 q2 q3 => ?_))
        show mg _ _ _ 166 _ [] _ _
        refine m_ild (pc' := 168) cd_Mo_comes rfl (Or.inl ⟨rfl, rfl⟩) l5 rfl ?_
        exact m_reti cd_Mo_comes rfl ⟨_, rfl, (kk f1 A1 q1 q2 q3)⟩
      · exact absurd (show ¬ (0 : Int32) = 0 from c148) (by decide)
  · skip
    have hre := rt_some hl he h700
    have eli : (nI i : Int32).toNatClampNeg = i := nI_clamp (by have := (List.getElem?_eq_some_iff.mp he).1; omega)
    unfold rt_ls rt_fo rt_du at kk
    rw [hre, hl, nI_clamp (show p < 2147483648 by omega), eli] at kk
    dsimp only at kk
    unfold rt_to at kk
    rw [if_pos rfl, if_pos rfl] at kk
    refine m_ild (pc' := 140) cd_Mo_comes rfl (Or.inl ⟨rfl, rfl⟩) l5 rfl ?_
    refine m_k1 (v := 1) (pc' := 141) cd_Mo_comes rfl (by decide) rfl ?_
    refine m_if2 (t := 166) (pc' := 144) cd_Mo_comes rfl rfl rfl (fun c141 => ?_) (fun c141 => ?_)
    · exact absurd (show ¬ (1 : Int32) = 1 from c141) (by decide)
    · have c141 : (1 : Int32) = 1 := Classical.not_not.mp c141
      refine m_ald (pc' := 145) cd_Mo_comes rfl (Or.inr ⟨_, rfl, rfl, rfl⟩) l0 rfl rfl ?_
      refine m_ild (pc' := 146) cd_Mo_comes rfl (Or.inr ⟨_, rfl, rfl, rfl⟩) l1 rfl ?_
      refine m_ild (pc' := 148) cd_Mo_comes rfl (Or.inl ⟨rfl, rfl⟩) l4 rfl ?_
      refine m_if1 (t := 160) (pc' := 151) cd_Mo_comes rfl rfl rfl (fun c148 => ?_) (fun c148 => ?_)
      · have c148 : (0 : Int32) = 0 := c148
        refine m_ild (pc' := 161) cd_Mo_comes rfl (Or.inr ⟨_, rfl, rfl, rfl⟩) l2 rfl ?_
        refine m_ild (pc' := 163) cd_Mo_comes rfl (Or.inl ⟨rfl, rfl⟩) l4 rfl ?_
        refine m_cv (pc' := 166) cd_Mo_comes rfl rfl rfl rfl rfl cd_Mo_tells rfl (Nat.le_of_ble_eq_true rfl) (m_tellsDS hM hS hq hp hX kX k7h k7b ep kY hmk hm hlo2 he (fun f1 A1 q1 q2 q3 => ?_))
        show mg _ _ _ 166 _ [] _ _
        refine m_ild (pc' := 168) cd_Mo_comes rfl (Or.inl ⟨rfl, rfl⟩) l5 rfl ?_
        exact m_reti cd_Mo_comes rfl ⟨_, rfl, (kk f1 A1 q1 q2 q3)⟩
      · exact absurd (show ¬ (0 : Int32) = 0 from c148) (by decide)
set_option maxRecDepth 100000 in
theorem l_mcoTP {sc : tm_X} {d : Nat} {f : Nat → Int32} {A : Nat → Nat → Int32} {T : List Tm} {DL : List (Int32 × Int32)} {G Kw : Tm → Prop} {dev : Nat → DV} {sto : Nat → ST} {ws : List (Tm × Int32)} {dir reg : Nat → Tm} {seen : List Tm} {ls : List RL} {lo dt db rt fl ll tl tf tg tm : Nat → Int32} {ck fo du : Int32} {q p ti : Nat} {X : Tm} {oc : Bool} {Q : Int32 → MS → Prop} (hM : MT f A T DL G Kw) (hS : RS f A T DL dev sto ws dir reg seen ls lo (dt, db, rt, fl, ll, tl, tf, tg, tm, ck, fo, du)) (hq : q < 6) (hp : p < 6) (hX : T[ti]? = some X) (kX : kd X = 6) (kS : kd (pt X 1) = 5) (k7h : kd (pt (pt X 1) 1) = 7) (k7b : kd (pt (pt X 1) 2) = 7) (ep : nu (pt (pt X 1) 1) 1 = nI p) (hg0 : ¬ nu (pt (pt X 1) 1) 0 = -1) (h21 : A 44 21 = bz oc) (hlo : ∀ m, m < DL.length → lo m = -1 ∨ ∃ i e, ls[i]? = some e ∧ lo m = nI i) (kk : ∀ f1 A1, MT f1 A1 T DL G Kw → f1 16 = f 16 → RS f1 A1 T DL dev sto ws dir reg seen (rt_ls ls lo q (nu (pt (pt X 1) 1) 0) (pt (pt (pt X 1) 2) 0) oc ck) lo (dt, db, rt, fl, ll, (upd tl q (rt_l lo (pt (pt (pt X 1) 2) 0))), (upd tf q (nI p)), (upd tg q (nu (pt (pt X 1) 1) 0)), (upd tm q (tm q + 1)), ck, (rt_fo ls lo fl q (nI p) (nu (pt (pt X 1) 1) 0) (pt (pt (pt X 1) 2) 0) fo), (rt_du ls lo fl q (nI p) (pt (pt (pt X 1) 2) 0) du)) → Q 1 (f1, A1)) : ∀ lv : tm_L, lv.lookup 0 = some (.ref 1482) → lv.lookup 1 = some (.int (nI q)) → lv.lookup 2 = some (.int (nI ti)) → lv.lookup 4 = some (.int 1) → lv.lookup 5 = some (.int 1) → mg sc (d + 8) 230 138 lv [] (f, A) (fun r s' => ∃ v, r = some (.int v) ∧ Q v s') := by
  intro lv l0 l1 l2 l4 l5
  have hTl := MT_len hM
  have hti := tv_lt hX
  have h700 := hS.2.2.1.1.1.2
  have hDl : DL.length ≤ 3000 := hM.1.2.2.2
  obtain ⟨si_, esi, hSi⟩ := MT_two hM hX (Or.inr (Or.inr kX))
  have hcase : (rt_l lo (pt (pt (pt X 1) 2) 0) = -1 ∧ (kd (pt (pt (pt X 1) 2) 0) = 1 → ∃ m, mk (pt (pt (pt X 1) 2) 0) = nI m ∧ m < 3000 ∧ lo m = -1)) ∨ (kd (pt (pt (pt X 1) 2) 0) = 1 ∧ ∃ m i e, mk (pt (pt (pt X 1) 2) 0) = nI m ∧ m < 3000 ∧ lo m = nI i ∧ ls[i]? = some e ∧ rt_l lo (pt (pt (pt X 1) 2) 0) = nI i) := by
    by_cases ck1 : kd (pt (pt (pt X 1) 2) 0) = 1
    · obtain ⟨bi, ebi, hbi⟩ := MT_three hM hSi kS
      obtain ⟨yi, eyi, hyi⟩ := (MT_cells hM hbi k7b).2 0 (by decide)
      obtain ⟨m, hmk, hml⟩ := MT_secm hM hyi ck1
      have el : rt_l lo (pt (pt (pt X 1) 2) 0) = lo m := (if_pos ck1).trans (by rw [hmk, nI_clamp (by omega)])
      rcases hlo m hml with h1 | ⟨i, e, he, h1⟩
      · exact Or.inl ⟨el.trans h1, fun _ => ⟨m, hmk, by omega, h1⟩⟩
      · exact Or.inr ⟨ck1, m, i, e, hmk, by omega, h1, he, el.trans h1⟩
    · exact Or.inl ⟨if_neg ck1, fun q => absurd q ck1⟩
  rcases hcase with ⟨hl, hln⟩ | ⟨kY, m, i, e, hmk, hm, hlo2, he, hl⟩
  · skip
    have hre := rt_none (ls := ls) hl
    unfold rt_ls rt_fo rt_du at kk
    rw [hre, hl, nI_clamp (show p < 2147483648 by omega)] at kk
    dsimp only at kk
    refine m_ild (pc' := 140) cd_Mo_comes rfl (Or.inl ⟨rfl, rfl⟩) l5 rfl ?_
    refine m_k1 (v := 1) (pc' := 141) cd_Mo_comes rfl (by decide) rfl ?_
    refine m_if2 (t := 166) (pc' := 144) cd_Mo_comes rfl rfl rfl (fun c141 => ?_) (fun c141 => ?_)
    · exact absurd (show ¬ (1 : Int32) = 1 from c141) (by decide)
    · have c141 : (1 : Int32) = 1 := Classical.not_not.mp c141
      refine m_ald (pc' := 145) cd_Mo_comes rfl (Or.inr ⟨_, rfl, rfl, rfl⟩) l0 rfl rfl ?_
      refine m_ild (pc' := 146) cd_Mo_comes rfl (Or.inr ⟨_, rfl, rfl, rfl⟩) l1 rfl ?_
      refine m_ild (pc' := 148) cd_Mo_comes rfl (Or.inl ⟨rfl, rfl⟩) l4 rfl ?_
      refine m_if1 (t := 160) (pc' := 151) cd_Mo_comes rfl rfl rfl (fun c148 => ?_) (fun c148 => ?_)
      · exact absurd (show (1 : Int32) = 0 from c148) (by decide)
      · have c148 : ¬ (1 : Int32) = 0 := c148
        refine m_ald (pc' := 152) cd_Mo_comes rfl (Or.inr ⟨_, rfl, rfl, rfl⟩) l0 rfl rfl ?_
        refine m_fR (r := 2) (a := 3) (ad := 1485) (pc' := 155) rfl rfl cd_Mo_comes rfl rfl rfl rfl rfl ?_
        refine m_ild (pc' := 156) cd_Mo_comes rfl (Or.inr ⟨_, rfl, rfl, rfl⟩) l2 rfl ?_
        refine m_aI (r := 2) (a := 3) (g := (A 3)) (x := nI si_) (pc' := 157) rfl rfl cd_Mo_comes rfl rfl rfl (vp_in_nI (by omega) (by decide)) ((congrArg (A 3) (nI_clamp (by omega))).trans esi) ?_
        refine m_pure (pc' := 161) (st' := [.int (nI si_), .int (nI q), .ref 1482]) cd_Mo_comes rfl rfl (fun _ _ => rfl) ?_
        refine m_ild (pc' := 163) cd_Mo_comes rfl (Or.inl ⟨rfl, rfl⟩) l4 rfl ?_
        refine m_cv (pc' := 166) cd_Mo_comes rfl rfl rfl rfl rfl cd_Mo_tells rfl (Nat.le_of_ble_eq_true rfl) (m_tellsPN hM hS hq hp hSi kS k7h k7b ep hln h21 (fun f1 A1 q1 q2 q3 => ?_))
        show mg _ _ _ 166 _ [] _ _
        refine m_ild (pc' := 168) cd_Mo_comes rfl (Or.inl ⟨rfl, rfl⟩) l5 rfl ?_
        exact m_reti cd_Mo_comes rfl ⟨_, rfl, (kk f1 A1 q1 q2 q3)⟩
  · skip
    have hre := rt_some hl he h700
    have eli : (nI i : Int32).toNatClampNeg = i := nI_clamp (by have := (List.getElem?_eq_some_iff.mp he).1; omega)
    unfold rt_ls rt_fo rt_du at kk
    rw [hre, hl, nI_clamp (show p < 2147483648 by omega), eli] at kk
    dsimp only at kk
    unfold rt_to at kk
    rw [if_neg hg0, if_neg hg0] at kk
    refine m_ild (pc' := 140) cd_Mo_comes rfl (Or.inl ⟨rfl, rfl⟩) l5 rfl ?_
    refine m_k1 (v := 1) (pc' := 141) cd_Mo_comes rfl (by decide) rfl ?_
    refine m_if2 (t := 166) (pc' := 144) cd_Mo_comes rfl rfl rfl (fun c141 => ?_) (fun c141 => ?_)
    · exact absurd (show ¬ (1 : Int32) = 1 from c141) (by decide)
    · have c141 : (1 : Int32) = 1 := Classical.not_not.mp c141
      refine m_ald (pc' := 145) cd_Mo_comes rfl (Or.inr ⟨_, rfl, rfl, rfl⟩) l0 rfl rfl ?_
      refine m_ild (pc' := 146) cd_Mo_comes rfl (Or.inr ⟨_, rfl, rfl, rfl⟩) l1 rfl ?_
      refine m_ild (pc' := 148) cd_Mo_comes rfl (Or.inl ⟨rfl, rfl⟩) l4 rfl ?_
      refine m_if1 (t := 160) (pc' := 151) cd_Mo_comes rfl rfl rfl (fun c148 => ?_) (fun c148 => ?_)
      · exact absurd (show (1 : Int32) = 0 from c148) (by decide)
      · have c148 : ¬ (1 : Int32) = 0 := c148
        refine m_ald (pc' := 152) cd_Mo_comes rfl (Or.inr ⟨_, rfl, rfl, rfl⟩) l0 rfl rfl ?_
        refine m_fR (r := 2) (a := 3) (ad := 1485) (pc' := 155) rfl rfl cd_Mo_comes rfl rfl rfl rfl rfl ?_
        refine m_ild (pc' := 156) cd_Mo_comes rfl (Or.inr ⟨_, rfl, rfl, rfl⟩) l2 rfl ?_
        refine m_aI (r := 2) (a := 3) (g := (A 3)) (x := nI si_) (pc' := 157) rfl rfl cd_Mo_comes rfl rfl rfl (vp_in_nI (by omega) (by decide)) ((congrArg (A 3) (nI_clamp (by omega))).trans esi) ?_
        refine m_pure (pc' := 161) (st' := [.int (nI si_), .int (nI q), .ref 1482]) cd_Mo_comes rfl rfl (fun _ _ => rfl) ?_
        refine m_ild (pc' := 163) cd_Mo_comes rfl (Or.inl ⟨rfl, rfl⟩) l4 rfl ?_
        refine m_cv (pc' := 166) cd_Mo_comes rfl rfl rfl rfl rfl cd_Mo_tells rfl (Nat.le_of_ble_eq_true rfl) (m_tellsPS hM hS hq hp hSi kS k7h k7b ep kY hmk hm hlo2 he h21 (fun f1 A1 q1 q2 q3 => ?_))
        show mg _ _ _ 166 _ [] _ _
        refine m_ild (pc' := 168) cd_Mo_comes rfl (Or.inl ⟨rfl, rfl⟩) l5 rfl ?_
        exact m_reti cd_Mo_comes rfl ⟨_, rfl, (kk f1 A1 q1 q2 q3)⟩
