/-! The reference: isSafe, leaked, derived -/
def nx (X : Tm) : Nat := (mk X).toNatClampNeg
def fmin (ma : Int32) (fl : Nat → Int32) : Nat → Int32
  | 0 => 2147483647
  | p + 1 => if ma >>> (nI p &&& 31) &&& 1 = 1 ∧ fl p < fmin ma fl p then fl p else fmin ma fl p
def fall (fm ma gi x : Int32) (tk : Nat → Int32) (b0 : Bool) : Nat → Bool
  | 0 => b0
  | p + 1 => if nI p = fm ∨ ma >>> (nI p &&& 31) &&& 1 = 0 then fall fm ma gi x tk b0 p else fall fm ma gi x tk b0 p && (decide (tk p < x) && decide (gi >>> (nI p &&& 31) &&& 1 = 1))
/-- the healed keys of a letter from s to d -/
def rl_heal (dt db rt ll : Nat → Int32) (s d : Nat) (mi th : Tm) : Bool := decide (ll s < dt (nx mi)) && (decide (db (nx th) = nI d) && (decide (rt (nx th) ≠ 0) && decide (ll d < dt (nx th))))
def rl_safe (dt db rt fl ll : Nat → Int32) : RL → Bool
  | (se, fm, to, on, mi, th, ma, gi, tk) => if to < 16 then (on && (decide (tk to.toNatClampNeg ≠ 2147483647) && (decide (tk to.toNatClampNeg < fl fm.toNatClampNeg) && decide (tk to.toNatClampNeg < fl to.toNatClampNeg)))) || rl_heal dt db rt ll fm.toNatClampNeg to.toNatClampNeg mi th
    else if fmin ma fl 6 = 2147483647 then true else fall fm ma gi (fmin ma fl 6) tk (decide (dt (nx se) < fmin ma fl 6)) 6
theorem nx_lt {f : Nat → Int32} {A : Nat → Nat → Int32} {T : List Tm} {DL : List (Int32 × Int32)} {G W : Tm → Prop} (hM : MT f A T DL G W) {X : Tm} (hX : X ∈ T) (kX : kd X = 1) : nx X < 3000 ∧ mk X = nI (nx X) := by
  obtain ⟨m, d, p, h1, -, rfl⟩ := MT_sec hM hX kX
  have := hM.1.2.2.2
  have e : nx (Tsec (nI m) d p) = m := nI_clamp (by omega)
  rw [e]
  exact ⟨by omega, rfl⟩
theorem tv_mem {T : List Tm} {x : Int32} {X : Tm} (h : tv T x X) : X ∈ T := by
  obtain ⟨p, -, h⟩ := h
  exact List.mem_of_getElem? h
set_option maxRecDepth 100000 in
theorem l_msafe1 {sc : tm_X} {d : Nat} {f : Nat → Int32} {A : Nat → Nat → Int32} {T : List Tm} {DL : List (Int32 × Int32)} {G W : Tm → Prop} {dt db rt fl ll : Nat → Int32} {i s q : Nat} {mi th : Tm} {Q : Int32 → MS → Prop} (hM : MT f A T DL G W) (h10 : A 10 = dt) (h11 : A 11 = db) (h12 : A 12 = rt) (h24 : A 24 = fl) (h25 : A 25 = ll) (hi : i < 700) (hs : s < 6) (hq : q < 6) (hm : tv T (A 34 i) mi) (ht : tv T (A 35 i) th) (km : kd mi = 1) (kt : kd th = 1) (kk : Q (bz (rl_heal dt db rt ll s q mi th)) (f, A)) : ∀ lv : tm_L, lv.lookup 0 = some (.ref 1482) → lv.lookup 1 = some (.int (nI i)) → lv.lookup 2 = some (.int (nI s)) → lv.lookup 3 = some (.int (nI q)) → mg sc d 286 79 lv [] (f, A) (fun r s' => ∃ x, r = some (.int x) ∧ Q x s') := by
  intro lv l0 l1 l2 l3
  obtain ⟨em1, em2⟩ := nx_lt hM (tv_mem hm) km
  obtain ⟨et1, et2⟩ := nx_lt hM (tv_mem ht) kt
  obtain ⟨u, eu, hu⟩ := hm
  obtain ⟨v, ev, hv⟩ := ht
  have hL := MT_len hM
  have hul := tv_lt hu
  have hvl := tv_lt hv
  refine m_ald (pc' := 80) cd_Mo_isSafe rfl (Or.inr ⟨_, rfl, rfl, rfl⟩) l0 rfl rfl ?_
  refine m_fR (r := 1) (a := 2) (ad := 1484) (pc' := 83) rfl rfl cd_Mo_isSafe rfl rfl rfl rfl rfl ?_
  refine m_ald (pc' := 84) cd_Mo_isSafe rfl (Or.inr ⟨_, rfl, rfl, rfl⟩) l0 rfl rfl ?_
  refine m_fR (r := 34) (a := 35) (ad := 1517) (pc' := 87) rfl rfl cd_Mo_isSafe rfl rfl rfl rfl rfl ?_
  refine m_ild (pc' := 88) cd_Mo_isSafe rfl (Or.inr ⟨_, rfl, rfl, rfl⟩) l1 rfl ?_
  refine m_aI (r := 34) (a := 35) (g := (A 35)) (x := nI v) (pc' := 89) rfl rfl cd_Mo_isSafe rfl rfl rfl (vp_in_nI (by omega) (by decide)) (by rw [(nI_clamp (by omega))]; exact ev) ?_
  refine m_aI (r := 1) (a := 2) (g := (A 2)) (x := nI (nx th)) (pc' := 90) rfl rfl cd_Mo_isSafe rfl rfl rfl (vp_in_nI (by omega) (by decide)) (by rw [(nI_clamp (by omega))]; exact (MT_mk hM hv (Or.inl kt)).trans et2) ?_
  refine m_ist (pc' := 92) cd_Mo_isSafe rfl (Or.inl ⟨rfl, rfl⟩) (by decide) rfl (fun lv el => ?_)
  have l0 := tm_lk el l0 rfl (by decide)
  have l1 := tm_lk el l1 rfl (by decide)
  have l2 := tm_lk el l2 rfl (by decide)
  have l3 := tm_lk el l3 rfl (by decide)
  have l5 : lv.lookup 5 = some (.int (nI (nx th))) := tm_lks el
  clear el
  refine m_ald (pc' := 93) cd_Mo_isSafe rfl (Or.inr ⟨_, rfl, rfl, rfl⟩) l0 rfl rfl ?_
  refine m_fR (r := 9) (a := 10) (ad := 1492) (pc' := 96) rfl rfl cd_Mo_isSafe rfl rfl rfl rfl rfl ?_
  refine m_ald (pc' := 97) cd_Mo_isSafe rfl (Or.inr ⟨_, rfl, rfl, rfl⟩) l0 rfl rfl ?_
  refine m_fR (r := 1) (a := 2) (ad := 1484) (pc' := 100) rfl rfl cd_Mo_isSafe rfl rfl rfl rfl rfl ?_
  refine m_ald (pc' := 101) cd_Mo_isSafe rfl (Or.inr ⟨_, rfl, rfl, rfl⟩) l0 rfl rfl ?_
  refine m_fR (r := 33) (a := 34) (ad := 1516) (pc' := 104) rfl rfl cd_Mo_isSafe rfl rfl rfl rfl rfl ?_
  refine m_ild (pc' := 105) cd_Mo_isSafe rfl (Or.inr ⟨_, rfl, rfl, rfl⟩) l1 rfl ?_
  refine m_aI (r := 33) (a := 34) (g := (A 34)) (x := nI u) (pc' := 106) rfl rfl cd_Mo_isSafe rfl rfl rfl (vp_in_nI (by omega) (by decide)) (by rw [(nI_clamp (by omega))]; exact eu) ?_
  refine m_aI (r := 1) (a := 2) (g := (A 2)) (x := nI (nx mi)) (pc' := 107) rfl rfl cd_Mo_isSafe rfl rfl rfl (vp_in_nI (by omega) (by decide)) (by rw [(nI_clamp (by omega))]; exact (MT_mk hM hu (Or.inl km)).trans em2) ?_
  refine m_aI (r := 9) (a := 10) (g := (A 10)) (x := (dt (nx mi))) (pc' := 108) rfl rfl cd_Mo_isSafe rfl rfl rfl (vp_in_nI (by omega) (by decide)) (by rw [(nI_clamp (by omega)), h10]) ?_
  refine m_ald (pc' := 109) cd_Mo_isSafe rfl (Or.inr ⟨_, rfl, rfl, rfl⟩) l0 rfl rfl ?_
  refine m_fR (r := 24) (a := 25) (ad := 1507) (pc' := 112) rfl rfl cd_Mo_isSafe rfl rfl rfl rfl rfl ?_
  refine m_ild (pc' := 113) cd_Mo_isSafe rfl (Or.inr ⟨_, rfl, rfl, rfl⟩) l2 rfl ?_
  refine m_aI (r := 24) (a := 25) (g := (A 25)) (x := (ll s)) (pc' := 114) rfl rfl cd_Mo_isSafe rfl rfl rfl (vp_in_nI (by omega) (by decide)) (by rw [(nI_clamp (by omega)), h25]) ?_
  refine m_if2 (t := 158) (pc' := 117) cd_Mo_isSafe rfl rfl rfl (fun c114 => ?_) (fun c114 => ?_)
  · have c114 : (dt (nx mi)) ≤ (ll s) := c114
    refine m_k1 (v := 0) (pc' := 159) cd_Mo_isSafe rfl (by decide) rfl ?_
    exact m_retz cd_Mo_isSafe rfl (by decide) ⟨_, rfl, (by rw [show rl_heal dt db rt ll s q mi th = false from by unfold rl_heal; rw [decide_eq_false (Int32.not_lt.mpr c114)]; rfl] at kk; exact kk)⟩
  · have c114 : ¬ (dt (nx mi)) ≤ (ll s) := c114
    refine m_ald (pc' := 118) cd_Mo_isSafe rfl (Or.inr ⟨_, rfl, rfl, rfl⟩) l0 rfl rfl ?_
    refine m_fR (r := 10) (a := 11) (ad := 1493) (pc' := 121) rfl rfl cd_Mo_isSafe rfl rfl rfl rfl rfl ?_
    refine m_ild (pc' := 123) cd_Mo_isSafe rfl (Or.inl ⟨rfl, rfl⟩) l5 rfl ?_
    refine m_aI (r := 10) (a := 11) (g := (A 11)) (x := (db (nx th))) (pc' := 124) rfl rfl cd_Mo_isSafe rfl rfl rfl (vp_in_nI (by omega) (by decide)) (by rw [(nI_clamp (by omega)), h11]) ?_
    refine m_ild (pc' := 125) cd_Mo_isSafe rfl (Or.inr ⟨_, rfl, rfl, rfl⟩) l3 rfl ?_
    refine m_if2 (t := 158) (pc' := 128) cd_Mo_isSafe rfl rfl rfl (fun c125 => ?_) (fun c125 => ?_)
    · have c125 : ¬ (db (nx th)) = (nI q) := c125
      refine m_k1 (v := 0) (pc' := 159) cd_Mo_isSafe rfl (by decide) rfl ?_
      exact m_retz cd_Mo_isSafe rfl (by decide) ⟨_, rfl, (by rw [show rl_heal dt db rt ll s q mi th = false from by unfold rl_heal; rw [decide_eq_true (Int32.not_le.mp c114), decide_eq_false c125]; rfl] at kk; exact kk)⟩
    · have c125 : (db (nx th)) = (nI q) := Classical.not_not.mp c125
      refine m_ald (pc' := 129) cd_Mo_isSafe rfl (Or.inr ⟨_, rfl, rfl, rfl⟩) l0 rfl rfl ?_
      refine m_fR (r := 11) (a := 12) (ad := 1494) (pc' := 132) rfl rfl cd_Mo_isSafe rfl rfl rfl rfl rfl ?_
      refine m_ild (pc' := 134) cd_Mo_isSafe rfl (Or.inl ⟨rfl, rfl⟩) l5 rfl ?_
      refine m_bI (r := 11) (a := 12) (g := (A 12)) (x := (rt (nx th))) (pc' := 135) rfl rfl cd_Mo_isSafe rfl rfl rfl (vp_in_nI (by omega) (by decide)) (by rw [(nI_clamp (by omega)), h12]) ?_
      refine m_if1 (t := 158) (pc' := 138) cd_Mo_isSafe rfl rfl rfl (fun c135 => ?_) (fun c135 => ?_)
      · have c135 : (rt (nx th)) = 0 := c135
        refine m_k1 (v := 0) (pc' := 159) cd_Mo_isSafe rfl (by decide) rfl ?_
        exact m_retz cd_Mo_isSafe rfl (by decide) ⟨_, rfl, (by rw [show rl_heal dt db rt ll s q mi th = false from by unfold rl_heal; rw [decide_eq_true (Int32.not_le.mp c114), decide_eq_true c125, decide_eq_false (fun z => z c135)]; rfl] at kk; exact kk)⟩
      · have c135 : ¬ (rt (nx th)) = 0 := c135
        refine m_ald (pc' := 139) cd_Mo_isSafe rfl (Or.inr ⟨_, rfl, rfl, rfl⟩) l0 rfl rfl ?_
        refine m_fR (r := 9) (a := 10) (ad := 1492) (pc' := 142) rfl rfl cd_Mo_isSafe rfl rfl rfl rfl rfl ?_
        refine m_ild (pc' := 144) cd_Mo_isSafe rfl (Or.inl ⟨rfl, rfl⟩) l5 rfl ?_
        refine m_aI (r := 9) (a := 10) (g := (A 10)) (x := (dt (nx th))) (pc' := 145) rfl rfl cd_Mo_isSafe rfl rfl rfl (vp_in_nI (by omega) (by decide)) (by rw [(nI_clamp (by omega)), h10]) ?_
        refine m_ald (pc' := 146) cd_Mo_isSafe rfl (Or.inr ⟨_, rfl, rfl, rfl⟩) l0 rfl rfl ?_
        refine m_fR (r := 24) (a := 25) (ad := 1507) (pc' := 149) rfl rfl cd_Mo_isSafe rfl rfl rfl rfl rfl ?_
        refine m_ild (pc' := 150) cd_Mo_isSafe rfl (Or.inr ⟨_, rfl, rfl, rfl⟩) l3 rfl ?_
        refine m_aI (r := 24) (a := 25) (g := (A 25)) (x := (ll q)) (pc' := 151) rfl rfl cd_Mo_isSafe rfl rfl rfl (vp_in_nI (by omega) (by decide)) (by rw [(nI_clamp (by omega)), h25]) ?_
        refine m_if2 (t := 158) (pc' := 154) cd_Mo_isSafe rfl rfl rfl (fun c151 => ?_) (fun c151 => ?_)
        · have c151 : (dt (nx th)) ≤ (ll q) := c151
          refine m_k1 (v := 0) (pc' := 159) cd_Mo_isSafe rfl (by decide) rfl ?_
          exact m_retz cd_Mo_isSafe rfl (by decide) ⟨_, rfl, (by rw [show rl_heal dt db rt ll s q mi th = false from by unfold rl_heal; rw [decide_eq_true (Int32.not_le.mp c114), decide_eq_true c125, decide_eq_true c135, decide_eq_false (Int32.not_lt.mpr c151)]; rfl] at kk; exact kk)⟩
        · have c151 : ¬ (dt (nx th)) ≤ (ll q) := c151
          refine m_k1 (v := 1) (pc' := 155) cd_Mo_isSafe rfl (by decide) rfl ?_
          refine m_pure (pc' := 159) (st' := [.int 1]) cd_Mo_isSafe rfl rfl (fun _ _ => rfl) ?_
          exact m_retz cd_Mo_isSafe rfl (by decide) ⟨_, rfl, (by rw [show rl_heal dt db rt ll s q mi th = true from by unfold rl_heal; rw [decide_eq_true (Int32.not_le.mp c114), decide_eq_true c125, decide_eq_true c135, decide_eq_true (Int32.not_le.mp c151)]; rfl] at kk; exact kk)⟩
set_option maxRecDepth 100000 in
theorem l_msafe2 {sc : tm_X} {d : Nat} {f : Nat → Int32} {A : Nat → Nat → Int32} {i s : Nat} {ma : Int32} {fl : Nat → Int32} {Q : Option Value → MS → Prop} (hi : i < 700) (hma : A 36 i = ma) (h24 : A 24 = fl) (kk : ∀ lv : tm_L, lv.lookup 0 = some (.ref 1482) → lv.lookup 1 = some (.int (nI i)) → lv.lookup 2 = some (.int (nI s)) → lv.lookup 3 = some (.int (fmin ma fl 6)) → mg sc d 286 214 lv [] (f, A) Q) : ∀ (r k : Nat), k + r = 6 → ∀ lv : tm_L, lv.lookup 0 = some (.ref 1482) → lv.lookup 1 = some (.int (nI i)) → lv.lookup 2 = some (.int (nI s)) → lv.lookup 3 = some (.int (fmin ma fl k)) → lv.lookup 4 = some (.int (nI k)) → mg sc d 286 167 lv [] (f, A) Q := by
  intro r
  induction r with
  | zero =>
    intro k hk lv l0 l1 l2 l3 l4
    have hk6 : k = 6 := by omega
    subst hk6
    refine m_ild (pc' := 169) cd_Mo_isSafe rfl (Or.inl ⟨rfl, rfl⟩) l4 rfl ?_
    refine m_k2 (v := 6) (pc' := 171) cd_Mo_isSafe rfl (by decide) rfl ?_
    refine m_if2 (t := 214) (pc' := 174) cd_Mo_isSafe rfl rfl rfl (fun c171 => ?_) (fun c171 => ?_)
    · have c171 : (6 : Int32) ≤ (nI 6) := c171
      exact kk lv l0 l1 l2 l3
    · have c171 : ¬ (6 : Int32) ≤ (nI 6) := c171
      exact absurd (by decide) c171
  | succ r ih =>
    intro k hk lv l0 l1 l2 l3 l4
    refine m_ild (pc' := 169) cd_Mo_isSafe rfl (Or.inl ⟨rfl, rfl⟩) l4 rfl ?_
    refine m_k2 (v := 6) (pc' := 171) cd_Mo_isSafe rfl (by decide) rfl ?_
    refine m_if2 (t := 214) (pc' := 174) cd_Mo_isSafe rfl rfl rfl (fun c171 => ?_) (fun c171 => ?_)
    · have c171 : (6 : Int32) ≤ (nI k) := c171
      exact absurd c171 (show ¬ nI 6 ≤ nI k from nI_ge (by omega) (by omega))
    · have c171 : ¬ (6 : Int32) ≤ (nI k) := c171
      refine m_ald (pc' := 175) cd_Mo_isSafe rfl (Or.inr ⟨_, rfl, rfl, rfl⟩) l0 rfl rfl ?_
      refine m_fR (r := 35) (a := 36) (ad := 1518) (pc' := 178) rfl rfl cd_Mo_isSafe rfl rfl rfl rfl rfl ?_
      refine m_ild (pc' := 179) cd_Mo_isSafe rfl (Or.inr ⟨_, rfl, rfl, rfl⟩) l1 rfl ?_
      refine m_aI (r := 35) (a := 36) (g := (A 36)) (x := ma) (pc' := 180) rfl rfl cd_Mo_isSafe rfl rfl rfl (vp_in_nI (by omega) (by decide)) (by rw [(nI_clamp (by omega))]; exact hma) ?_
      refine m_ild (pc' := 182) cd_Mo_isSafe rfl (Or.inl ⟨rfl, rfl⟩) l4 rfl ?_
      refine m_pure (pc' := 183) (st' := [.int (ma >>> ((nI k) &&& 31))]) cd_Mo_isSafe rfl rfl (fun _ _ => rfl) ?_
      refine m_k1 (v := 1) (pc' := 184) cd_Mo_isSafe rfl (by decide) rfl ?_
      refine m_pure (pc' := 185) (st' := [.int ((ma >>> ((nI k) &&& 31)) &&& 1)]) cd_Mo_isSafe rfl rfl (fun _ _ => rfl) ?_
      refine m_k1 (v := 1) (pc' := 186) cd_Mo_isSafe rfl (by decide) rfl ?_
      refine m_if2 (t := 208) (pc' := 189) cd_Mo_isSafe rfl rfl rfl (fun c186 => ?_) (fun c186 => ?_)
      · have c186 : ¬ ((ma >>> ((nI k) &&& 31)) &&& 1) = 1 := c186
        refine m_inc (y := nI (k + 1)) (pc' := 211) cd_Mo_isSafe rfl l4 (by decide) (nI_add k 1) rfl (fun lv el => ?_)
        have l0 := tm_lk el l0 rfl (by decide)
        have l1 := tm_lk el l1 rfl (by decide)
        have l2 := tm_lk el l2 rfl (by decide)
        have l3 := tm_lk el l3 rfl (by decide)
        have l4 : lv.lookup 4 = some (.int (nI (k + 1))) := tm_lks el
        clear el
        refine m_pure (pc' := 167) (st' := []) cd_Mo_isSafe rfl rfl (fun _ _ => rfl) ?_
        exact ih (k + 1) (by omega) lv l0 l1 l2 (by rw [l3]; exact congrArg (fun z => some (Value.int z)) (Eq.symm (if_neg (fun q => c186 q.1)))) l4
      · have c186 : ((ma >>> ((nI k) &&& 31)) &&& 1) = 1 := Classical.not_not.mp c186
        refine m_ald (pc' := 190) cd_Mo_isSafe rfl (Or.inr ⟨_, rfl, rfl, rfl⟩) l0 rfl rfl ?_
        refine m_fR (r := 23) (a := 24) (ad := 1506) (pc' := 193) rfl rfl cd_Mo_isSafe rfl rfl rfl rfl rfl ?_
        refine m_ild (pc' := 195) cd_Mo_isSafe rfl (Or.inl ⟨rfl, rfl⟩) l4 rfl ?_
        refine m_aI (r := 23) (a := 24) (g := (A 24)) (x := (fl k)) (pc' := 196) rfl rfl cd_Mo_isSafe rfl rfl rfl (vp_in_nI (by omega) (by decide)) (by rw [(nI_clamp (by omega)), h24]) ?_
        refine m_ild (pc' := 197) cd_Mo_isSafe rfl (Or.inr ⟨_, rfl, rfl, rfl⟩) l3 rfl ?_
        refine m_if2 (t := 208) (pc' := 200) cd_Mo_isSafe rfl rfl rfl (fun c197 => ?_) (fun c197 => ?_)
        · have c197 : (fmin ma fl k) ≤ (fl k) := c197
          refine m_inc (y := nI (k + 1)) (pc' := 211) cd_Mo_isSafe rfl l4 (by decide) (nI_add k 1) rfl (fun lv el => ?_)
          have l0 := tm_lk el l0 rfl (by decide)
          have l1 := tm_lk el l1 rfl (by decide)
          have l2 := tm_lk el l2 rfl (by decide)
          have l3 := tm_lk el l3 rfl (by decide)
          have l4 : lv.lookup 4 = some (.int (nI (k + 1))) := tm_lks el
          clear el
          refine m_pure (pc' := 167) (st' := []) cd_Mo_isSafe rfl rfl (fun _ _ => rfl) ?_
          exact ih (k + 1) (by omega) lv l0 l1 l2 (by rw [l3]; exact congrArg (fun z => some (Value.int z)) (Eq.symm (if_neg (fun q => Int32.not_lt.mpr c197 q.2)))) l4
        · have c197 : ¬ (fmin ma fl k) ≤ (fl k) := c197
          refine m_ald (pc' := 201) cd_Mo_isSafe rfl (Or.inr ⟨_, rfl, rfl, rfl⟩) l0 rfl rfl ?_
          refine m_fR (r := 23) (a := 24) (ad := 1506) (pc' := 204) rfl rfl cd_Mo_isSafe rfl rfl rfl rfl rfl ?_
          refine m_ild (pc' := 206) cd_Mo_isSafe rfl (Or.inl ⟨rfl, rfl⟩) l4 rfl ?_
          refine m_aI (r := 23) (a := 24) (g := (A 24)) (x := (fl k)) (pc' := 207) rfl rfl cd_Mo_isSafe rfl rfl rfl (vp_in_nI (by omega) (by decide)) (by rw [(nI_clamp (by omega)), h24]) ?_
          refine m_ist (pc' := 208) cd_Mo_isSafe rfl (Or.inr ⟨_, rfl, rfl, rfl⟩) (by decide) rfl (fun lv el => ?_)
          have l0 := tm_lk el l0 rfl (by decide)
          have l1 := tm_lk el l1 rfl (by decide)
          have l2 := tm_lk el l2 rfl (by decide)
          have l4 := tm_lk el l4 rfl (by decide)
          have l3 : lv.lookup 3 = some (.int ((fl k))) := tm_lks el
          clear el
          refine m_inc (y := nI (k + 1)) (pc' := 211) cd_Mo_isSafe rfl l4 (by decide) (nI_add k 1) rfl (fun lv el => ?_)
          have l0 := tm_lk el l0 rfl (by decide)
          have l1 := tm_lk el l1 rfl (by decide)
          have l2 := tm_lk el l2 rfl (by decide)
          have l3 := tm_lk el l3 rfl (by decide)
          have l4 : lv.lookup 4 = some (.int (nI (k + 1))) := tm_lks el
          clear el
          refine m_pure (pc' := 167) (st' := []) cd_Mo_isSafe rfl rfl (fun _ _ => rfl) ?_
          exact ih (k + 1) (by omega) lv l0 l1 l2 (by rw [l3]; exact congrArg (fun z => some (Value.int z)) (Eq.symm (if_pos ⟨c186, Int32.not_le.mp c197⟩))) l4
set_option maxRecDepth 100000 in
theorem l_msafe3 {sc : tm_X} {d : Nat} {f : Nat → Int32} {A : Nat → Nat → Int32} {i s : Nat} {ma gi x : Int32} {tk : Nat → Int32} {b0 : Bool} {Q : Int32 → MS → Prop} (hi : i < 700) (hs : s < 6) (hma : A 36 i = ma) (hgi : A 38 i = gi) (htk : ∀ p, p < 6 → A 37 (6 * i + p) = tk p) (kk : Q (bz (fall (nI s) ma gi x tk b0 6)) (f, A)) : ∀ (r k : Nat), k + r = 6 → ∀ lv : tm_L, lv.lookup 0 = some (.ref 1482) → lv.lookup 1 = some (.int (nI i)) → lv.lookup 2 = some (.int (nI s)) → lv.lookup 3 = some (.int x) → lv.lookup 4 = some (.int (bz (fall (nI s) ma gi x tk b0 k))) → lv.lookup 5 = some (.int (nI k)) → mg sc d 286 253 lv [] (f, A) (fun r s' => ∃ x, r = some (.int x) ∧ Q x s') := by
  intro r
  induction r with
  | zero =>
    intro k hk lv l0 l1 l2 l3 l4 l5
    have hk6 : k = 6 := by omega
    subst hk6
    refine m_ild (pc' := 255) cd_Mo_isSafe rfl (Or.inl ⟨rfl, rfl⟩) l5 rfl ?_
    refine m_k2 (v := 6) (pc' := 257) cd_Mo_isSafe rfl (by decide) rfl ?_
    refine m_if2 (t := 332) (pc' := 260) cd_Mo_isSafe rfl rfl rfl (fun c257 => ?_) (fun c257 => ?_)
    · have c257 : (6 : Int32) ≤ (nI 6) := c257
      refine m_ild (pc' := 334) cd_Mo_isSafe rfl (Or.inl ⟨rfl, rfl⟩) l4 rfl ?_
      exact m_retz cd_Mo_isSafe rfl (bz_01 _) ⟨_, rfl, kk⟩
    · have c257 : ¬ (6 : Int32) ≤ (nI 6) := c257
      exact absurd (by decide) c257
  | succ r ih =>
    intro k hk lv l0 l1 l2 l3 l4 l5
    refine m_ild (pc' := 255) cd_Mo_isSafe rfl (Or.inl ⟨rfl, rfl⟩) l5 rfl ?_
    refine m_k2 (v := 6) (pc' := 257) cd_Mo_isSafe rfl (by decide) rfl ?_
    refine m_if2 (t := 332) (pc' := 260) cd_Mo_isSafe rfl rfl rfl (fun c257 => ?_) (fun c257 => ?_)
    · have c257 : (6 : Int32) ≤ (nI k) := c257
      exact absurd c257 (show ¬ nI 6 ≤ nI k from nI_ge (by omega) (by omega))
    · have c257 : ¬ (6 : Int32) ≤ (nI k) := c257
      refine m_ild (pc' := 262) cd_Mo_isSafe rfl (Or.inl ⟨rfl, rfl⟩) l5 rfl ?_
      refine m_ild (pc' := 263) cd_Mo_isSafe rfl (Or.inr ⟨_, rfl, rfl, rfl⟩) l2 rfl ?_
      refine m_if2 (t := 326) (pc' := 266) cd_Mo_isSafe rfl rfl rfl (fun c263 => ?_) (fun c263 => ?_)
      · have c263 : (nI k) = (nI s) := c263
        refine m_inc (y := nI (k + 1)) (pc' := 329) cd_Mo_isSafe rfl l5 (by decide) (nI_add k 1) rfl (fun lv el => ?_)
        have l0 := tm_lk el l0 rfl (by decide)
        have l1 := tm_lk el l1 rfl (by decide)
        have l2 := tm_lk el l2 rfl (by decide)
        have l3 := tm_lk el l3 rfl (by decide)
        have l4 := tm_lk el l4 rfl (by decide)
        have l5 : lv.lookup 5 = some (.int (nI (k + 1))) := tm_lks el
        clear el
        refine m_pure (pc' := 253) (st' := []) cd_Mo_isSafe rfl rfl (fun _ _ => rfl) ?_
        have e : fall (nI s) ma gi x tk b0 (k + 1) = fall (nI s) ma gi x tk b0 k := if_pos (Or.inl c263)
        exact ih (k + 1) (by omega) lv l0 l1 l2 l3 (by rw [l4, e]) l5
      · have c263 : ¬ (nI k) = (nI s) := c263
        refine m_ald (pc' := 267) cd_Mo_isSafe rfl (Or.inr ⟨_, rfl, rfl, rfl⟩) l0 rfl rfl ?_
        refine m_fR (r := 35) (a := 36) (ad := 1518) (pc' := 270) rfl rfl cd_Mo_isSafe rfl rfl rfl rfl rfl ?_
        refine m_ild (pc' := 271) cd_Mo_isSafe rfl (Or.inr ⟨_, rfl, rfl, rfl⟩) l1 rfl ?_
        refine m_aI (r := 35) (a := 36) (g := (A 36)) (x := ma) (pc' := 272) rfl rfl cd_Mo_isSafe rfl rfl rfl (vp_in_nI (by omega) (by decide)) (by rw [(nI_clamp (by omega))]; exact hma) ?_
        refine m_ild (pc' := 274) cd_Mo_isSafe rfl (Or.inl ⟨rfl, rfl⟩) l5 rfl ?_
        refine m_pure (pc' := 275) (st' := [.int (ma >>> ((nI k) &&& 31))]) cd_Mo_isSafe rfl rfl (fun _ _ => rfl) ?_
        refine m_k1 (v := 1) (pc' := 276) cd_Mo_isSafe rfl (by decide) rfl ?_
        refine m_pure (pc' := 277) (st' := [.int ((ma >>> ((nI k) &&& 31)) &&& 1)]) cd_Mo_isSafe rfl rfl (fun _ _ => rfl) ?_
        refine m_if1 (t := 283) (pc' := 280) cd_Mo_isSafe rfl rfl rfl (fun c277 => ?_) (fun c277 => ?_)
        · have c277 : ¬ ((ma >>> ((nI k) &&& 31)) &&& 1) = 0 := c277
          refine m_ild (pc' := 285) cd_Mo_isSafe rfl (Or.inl ⟨rfl, rfl⟩) l4 rfl ?_
          refine m_if1 (t := 323) (pc' := 288) cd_Mo_isSafe rfl rfl rfl (fun c285 => ?_) (fun c285 => ?_)
          · have c285 : (fall (nI s) ma gi x tk b0 k) = false := bz_f c285
            refine m_k1 (v := 0) (pc' := 324) cd_Mo_isSafe rfl (by decide) rfl ?_
            refine m_ist (pc' := 326) cd_Mo_isSafe rfl (Or.inl ⟨rfl, rfl⟩) (by decide) rfl (fun lv el => ?_)
            have l0 := tm_lk el l0 rfl (by decide)
            have l1 := tm_lk el l1 rfl (by decide)
            have l2 := tm_lk el l2 rfl (by decide)
            have l3 := tm_lk el l3 rfl (by decide)
            have l5 := tm_lk el l5 rfl (by decide)
            have l4 : lv.lookup 4 = some (.int 0) := tm_lks el
            clear el
            refine m_inc (y := nI (k + 1)) (pc' := 329) cd_Mo_isSafe rfl l5 (by decide) (nI_add k 1) rfl (fun lv el => ?_)
            have l0 := tm_lk el l0 rfl (by decide)
            have l1 := tm_lk el l1 rfl (by decide)
            have l2 := tm_lk el l2 rfl (by decide)
            have l3 := tm_lk el l3 rfl (by decide)
            have l4 := tm_lk el l4 rfl (by decide)
            have l5 : lv.lookup 5 = some (.int (nI (k + 1))) := tm_lks el
            clear el
            refine m_pure (pc' := 253) (st' := []) cd_Mo_isSafe rfl rfl (fun _ _ => rfl) ?_
            have e : fall (nI s) ma gi x tk b0 (k + 1) = false := (if_neg (fun q => q.elim c263 c277)).trans (by rw [c285]; rfl)
            exact ih (k + 1) (by omega) lv l0 l1 l2 l3 (by rw [l4, e]; rfl) l5
          · have c285 : (fall (nI s) ma gi x tk b0 k) = true := bz_t c285
            refine m_ald (pc' := 289) cd_Mo_isSafe rfl (Or.inr ⟨_, rfl, rfl, rfl⟩) l0 rfl rfl ?_
            refine m_fR (r := 36) (a := 37) (ad := 1519) (pc' := 292) rfl rfl cd_Mo_isSafe rfl rfl rfl rfl rfl ?_
            refine m_k2 (v := 6) (pc' := 294) cd_Mo_isSafe rfl (by decide) rfl ?_
            refine m_ild (pc' := 295) cd_Mo_isSafe rfl (Or.inr ⟨_, rfl, rfl, rfl⟩) l1 rfl ?_
            refine m_pure (pc' := 296) (st' := [.int ((6 : Int32) * (nI i)), .ref 1519]) cd_Mo_isSafe rfl rfl (fun _ _ => rfl) ?_
            refine m_eq (show ((6 : Int32) * (nI i) : Int32) = nI (6 * i) from pk_mul 6 i) ?_
            refine m_ild (pc' := 298) cd_Mo_isSafe rfl (Or.inl ⟨rfl, rfl⟩) l5 rfl ?_
            refine m_pure (pc' := 299) (st' := [.int ((nI (6 * i)) + (nI k)), .ref 1519]) cd_Mo_isSafe rfl rfl (fun _ _ => rfl) ?_
            refine m_eq (show ((nI (6 * i)) + (nI k) : Int32) = nI ((6 * i) + k) from nI_add (6 * i) k) ?_
            refine m_aI (r := 36) (a := 37) (g := (A 37)) (x := (tk k)) (pc' := 300) rfl rfl cd_Mo_isSafe rfl rfl rfl (vp_in_nI (by omega) (by decide)) (by rw [(nI_clamp (by omega))]; exact htk k (by omega)) ?_
            refine m_ild (pc' := 301) cd_Mo_isSafe rfl (Or.inr ⟨_, rfl, rfl, rfl⟩) l3 rfl ?_
            refine m_if2 (t := 323) (pc' := 304) cd_Mo_isSafe rfl rfl rfl (fun c301 => ?_) (fun c301 => ?_)
            · have c301 : x ≤ (tk k) := c301
              refine m_k1 (v := 0) (pc' := 324) cd_Mo_isSafe rfl (by decide) rfl ?_
              refine m_ist (pc' := 326) cd_Mo_isSafe rfl (Or.inl ⟨rfl, rfl⟩) (by decide) rfl (fun lv el => ?_)
              have l0 := tm_lk el l0 rfl (by decide)
              have l1 := tm_lk el l1 rfl (by decide)
              have l2 := tm_lk el l2 rfl (by decide)
              have l3 := tm_lk el l3 rfl (by decide)
              have l5 := tm_lk el l5 rfl (by decide)
              have l4 : lv.lookup 4 = some (.int 0) := tm_lks el
              clear el
              refine m_inc (y := nI (k + 1)) (pc' := 329) cd_Mo_isSafe rfl l5 (by decide) (nI_add k 1) rfl (fun lv el => ?_)
              have l0 := tm_lk el l0 rfl (by decide)
              have l1 := tm_lk el l1 rfl (by decide)
              have l2 := tm_lk el l2 rfl (by decide)
              have l3 := tm_lk el l3 rfl (by decide)
              have l4 := tm_lk el l4 rfl (by decide)
              have l5 : lv.lookup 5 = some (.int (nI (k + 1))) := tm_lks el
              clear el
              refine m_pure (pc' := 253) (st' := []) cd_Mo_isSafe rfl rfl (fun _ _ => rfl) ?_
              have e : fall (nI s) ma gi x tk b0 (k + 1) = false := (if_neg (fun q => q.elim c263 c277)).trans (by rw [c285, decide_eq_false (Int32.not_lt.mpr c301)]; rfl)
              exact ih (k + 1) (by omega) lv l0 l1 l2 l3 (by rw [l4, e]; rfl) l5
            · have c301 : ¬ x ≤ (tk k) := c301
              refine m_ald (pc' := 305) cd_Mo_isSafe rfl (Or.inr ⟨_, rfl, rfl, rfl⟩) l0 rfl rfl ?_
              refine m_fR (r := 37) (a := 38) (ad := 1520) (pc' := 308) rfl rfl cd_Mo_isSafe rfl rfl rfl rfl rfl ?_
              refine m_ild (pc' := 309) cd_Mo_isSafe rfl (Or.inr ⟨_, rfl, rfl, rfl⟩) l1 rfl ?_
              refine m_aI (r := 37) (a := 38) (g := (A 38)) (x := gi) (pc' := 310) rfl rfl cd_Mo_isSafe rfl rfl rfl (vp_in_nI (by omega) (by decide)) (by rw [(nI_clamp (by omega))]; exact hgi) ?_
              refine m_ild (pc' := 312) cd_Mo_isSafe rfl (Or.inl ⟨rfl, rfl⟩) l5 rfl ?_
              refine m_pure (pc' := 313) (st' := [.int (gi >>> ((nI k) &&& 31))]) cd_Mo_isSafe rfl rfl (fun _ _ => rfl) ?_
              refine m_k1 (v := 1) (pc' := 314) cd_Mo_isSafe rfl (by decide) rfl ?_
              refine m_pure (pc' := 315) (st' := [.int ((gi >>> ((nI k) &&& 31)) &&& 1)]) cd_Mo_isSafe rfl rfl (fun _ _ => rfl) ?_
              refine m_k1 (v := 1) (pc' := 316) cd_Mo_isSafe rfl (by decide) rfl ?_
              refine m_if2 (t := 323) (pc' := 319) cd_Mo_isSafe rfl rfl rfl (fun c316 => ?_) (fun c316 => ?_)
              · have c316 : ¬ ((gi >>> ((nI k) &&& 31)) &&& 1) = 1 := c316
                refine m_k1 (v := 0) (pc' := 324) cd_Mo_isSafe rfl (by decide) rfl ?_
                refine m_ist (pc' := 326) cd_Mo_isSafe rfl (Or.inl ⟨rfl, rfl⟩) (by decide) rfl (fun lv el => ?_)
                have l0 := tm_lk el l0 rfl (by decide)
                have l1 := tm_lk el l1 rfl (by decide)
                have l2 := tm_lk el l2 rfl (by decide)
                have l3 := tm_lk el l3 rfl (by decide)
                have l5 := tm_lk el l5 rfl (by decide)
                have l4 : lv.lookup 4 = some (.int 0) := tm_lks el
                clear el
                refine m_inc (y := nI (k + 1)) (pc' := 329) cd_Mo_isSafe rfl l5 (by decide) (nI_add k 1) rfl (fun lv el => ?_)
                have l0 := tm_lk el l0 rfl (by decide)
                have l1 := tm_lk el l1 rfl (by decide)
                have l2 := tm_lk el l2 rfl (by decide)
                have l3 := tm_lk el l3 rfl (by decide)
                have l4 := tm_lk el l4 rfl (by decide)
                have l5 : lv.lookup 5 = some (.int (nI (k + 1))) := tm_lks el
                clear el
                refine m_pure (pc' := 253) (st' := []) cd_Mo_isSafe rfl rfl (fun _ _ => rfl) ?_
                have e : fall (nI s) ma gi x tk b0 (k + 1) = false := (if_neg (fun q => q.elim c263 c277)).trans (by rw [c285, decide_eq_true (Int32.not_le.mp c301), decide_eq_false c316]; rfl)
                exact ih (k + 1) (by omega) lv l0 l1 l2 l3 (by rw [l4, e]; rfl) l5
              · have c316 : ((gi >>> ((nI k) &&& 31)) &&& 1) = 1 := Classical.not_not.mp c316
                refine m_k1 (v := 1) (pc' := 320) cd_Mo_isSafe rfl (by decide) rfl ?_
                refine m_pure (pc' := 324) (st' := [.int 1]) cd_Mo_isSafe rfl rfl (fun _ _ => rfl) ?_
                refine m_ist (pc' := 326) cd_Mo_isSafe rfl (Or.inl ⟨rfl, rfl⟩) (by decide) rfl (fun lv el => ?_)
                have l0 := tm_lk el l0 rfl (by decide)
                have l1 := tm_lk el l1 rfl (by decide)
                have l2 := tm_lk el l2 rfl (by decide)
                have l3 := tm_lk el l3 rfl (by decide)
                have l5 := tm_lk el l5 rfl (by decide)
                have l4 : lv.lookup 4 = some (.int 1) := tm_lks el
                clear el
                refine m_inc (y := nI (k + 1)) (pc' := 329) cd_Mo_isSafe rfl l5 (by decide) (nI_add k 1) rfl (fun lv el => ?_)
                have l0 := tm_lk el l0 rfl (by decide)
                have l1 := tm_lk el l1 rfl (by decide)
                have l2 := tm_lk el l2 rfl (by decide)
                have l3 := tm_lk el l3 rfl (by decide)
                have l4 := tm_lk el l4 rfl (by decide)
                have l5 : lv.lookup 5 = some (.int (nI (k + 1))) := tm_lks el
                clear el
                refine m_pure (pc' := 253) (st' := []) cd_Mo_isSafe rfl rfl (fun _ _ => rfl) ?_
                have e : fall (nI s) ma gi x tk b0 (k + 1) = true := (if_neg (fun q => q.elim c263 c277)).trans (by rw [c285, decide_eq_true (Int32.not_le.mp c301), decide_eq_true c316]; rfl)
                exact ih (k + 1) (by omega) lv l0 l1 l2 l3 (by rw [l4, e]; rfl) l5
        · have c277 : ((ma >>> ((nI k) &&& 31)) &&& 1) = 0 := Classical.not_not.mp c277
          refine m_pure (pc' := 326) (st' := []) cd_Mo_isSafe rfl rfl (fun _ _ => rfl) ?_
          refine m_inc (y := nI (k + 1)) (pc' := 329) cd_Mo_isSafe rfl l5 (by decide) (nI_add k 1) rfl (fun lv el => ?_)
          have l0 := tm_lk el l0 rfl (by decide)
          have l1 := tm_lk el l1 rfl (by decide)
          have l2 := tm_lk el l2 rfl (by decide)
          have l3 := tm_lk el l3 rfl (by decide)
          have l4 := tm_lk el l4 rfl (by decide)
          have l5 : lv.lookup 5 = some (.int (nI (k + 1))) := tm_lks el
          clear el
          refine m_pure (pc' := 253) (st' := []) cd_Mo_isSafe rfl rfl (fun _ _ => rfl) ?_
          have e : fall (nI s) ma gi x tk b0 (k + 1) = fall (nI s) ma gi x tk b0 k := if_pos (Or.inr c277)
          exact ih (k + 1) (by omega) lv l0 l1 l2 l3 (by rw [l4, e]) l5
set_option maxRecDepth 100000 in
theorem m_isSafe {sc : tm_X} {d : Nat} {f : Nat → Int32} {A : Nat → Nat → Int32} {T : List Tm} {DL : List (Int32 × Int32)} {G W : Tm → Prop} {dt db rt fl ll : Nat → Int32} {i : Nat} {se mi th : Tm} {fm to ma gi : Int32} {on : Bool} {tk : Nat → Int32} {Q : Int32 → MS → Prop} (hM : MT f A T DL G W) (h10 : A 10 = dt) (h11 : A 11 = db) (h12 : A 12 = rt) (h24 : A 24 = fl) (h25 : A 25 = ll) (hi : i < 700) (hE : qL1 A T i (se, fm, to, on, mi, th, ma, gi, tk)) (hfm : ∃ s, s < 6 ∧ fm = nI s) (hto : to < 16 → (∃ q, q < 6 ∧ to = nI q) ∧ kd mi = 1 ∧ kd th = 1) (kse : kd se = 1) (kk : Q (bz (rl_safe dt db rt fl ll (se, fm, to, on, mi, th, ma, gi, tk))) (f, A)) : mGi sc (d + 0) 286 [.ref 1482, .int (nI i)] (f, A) Q := by
  obtain ⟨g1, g2, g3, g4, g5, g6, g7, g8, g9⟩ := hE
  dsimp only at g1 g2 g3 g4 g5 g6 g7 g8 g9
  obtain ⟨s, hs, rfl⟩ := hfm
  obtain ⟨es1, es2⟩ := nx_lt hM (tv_mem g1) kse
  obtain ⟨u, eu, hu⟩ := g1
  have hL := MT_len hM
  have hul := tv_lt hu
  show mg sc (d + 0) 286 0 [(0, .ref 1482), (1, .int (nI i))] [] (f, A) _
  generalize elv : ([(0, .ref 1482), (1, .int (nI i))] : tm_L) = lv
  have l0 : lv.lookup 0 = some (.ref 1482) := by rw [← elv]; rfl
  have l1 : lv.lookup 1 = some (.int (nI i)) := by rw [← elv]; rfl
  clear elv
  refine m_ald (pc' := 1) cd_Mo_isSafe rfl (Or.inr ⟨_, rfl, rfl, rfl⟩) l0 rfl rfl ?_
  refine m_fR (r := 30) (a := 31) (ad := 1513) (pc' := 4) rfl rfl cd_Mo_isSafe rfl rfl rfl rfl rfl ?_
  refine m_ild (pc' := 5) cd_Mo_isSafe rfl (Or.inr ⟨_, rfl, rfl, rfl⟩) l1 rfl ?_
  refine m_aI (r := 30) (a := 31) (g := (A 31)) (x := nI s) (pc' := 6) rfl rfl cd_Mo_isSafe rfl rfl rfl (vp_in_nI (by omega) (by decide)) (by rw [(nI_clamp (by omega))]; exact g2) ?_
  refine m_ist (pc' := 7) cd_Mo_isSafe rfl (Or.inr ⟨_, rfl, rfl, rfl⟩) (by decide) rfl (fun lv el => ?_)
  have l0 := tm_lk el l0 rfl (by decide)
  have l1 := tm_lk el l1 rfl (by decide)
  have l2 : lv.lookup 2 = some (.int (nI s)) := tm_lks el
  clear el
  refine m_ald (pc' := 8) cd_Mo_isSafe rfl (Or.inr ⟨_, rfl, rfl, rfl⟩) l0 rfl rfl ?_
  refine m_fR (r := 31) (a := 32) (ad := 1514) (pc' := 11) rfl rfl cd_Mo_isSafe rfl rfl rfl rfl rfl ?_
  refine m_ild (pc' := 12) cd_Mo_isSafe rfl (Or.inr ⟨_, rfl, rfl, rfl⟩) l1 rfl ?_
  refine m_aI (r := 31) (a := 32) (g := (A 32)) (x := to) (pc' := 13) rfl rfl cd_Mo_isSafe rfl rfl rfl (vp_in_nI (by omega) (by decide)) (by rw [(nI_clamp (by omega))]; exact g3) ?_
  refine m_k2 (v := 16) (pc' := 15) cd_Mo_isSafe rfl (by decide) rfl ?_
  refine m_if2 (t := 160) (pc' := 18) cd_Mo_isSafe rfl rfl rfl (fun c15 => ?_) (fun c15 => ?_)
  · have c15 : (16 : Int32) ≤ to := c15
    refine m_ldcw (pc' := 163) cd_Mo_isSafe rfl rfl rfl ?_
    refine m_ist (pc' := 164) cd_Mo_isSafe rfl (Or.inr ⟨_, rfl, rfl, rfl⟩) (by decide) rfl (fun lv el => ?_)
    have l0 := tm_lk el l0 rfl (by decide)
    have l1 := tm_lk el l1 rfl (by decide)
    have l2 := tm_lk el l2 rfl (by decide)
    have l3 : lv.lookup 3 = some (.int 2147483647) := tm_lks el
    clear el
    refine m_k1 (v := 0) (pc' := 165) cd_Mo_isSafe rfl (by decide) rfl ?_
    refine m_ist (pc' := 167) cd_Mo_isSafe rfl (Or.inl ⟨rfl, rfl⟩) (by decide) rfl (fun lv el => ?_)
    have l0 := tm_lk el l0 rfl (by decide)
    have l1 := tm_lk el l1 rfl (by decide)
    have l2 := tm_lk el l2 rfl (by decide)
    have l3 := tm_lk el l3 rfl (by decide)
    have l4 : lv.lookup 4 = some (.int 0) := tm_lks el
    clear el
    refine l_msafe2 hi g7 h24 (fun lv l0 l1 l2 l3 => ?_) 6 0 (by omega) lv l0 l1 l2 l3 l4
    refine m_ild (pc' := 215) cd_Mo_isSafe rfl (Or.inr ⟨_, rfl, rfl, rfl⟩) l3 rfl ?_
    refine m_ldcw (pc' := 218) cd_Mo_isSafe rfl rfl rfl ?_
    refine m_if2 (t := 223) (pc' := 221) cd_Mo_isSafe rfl rfl rfl (fun c218 => ?_) (fun c218 => ?_)
    · have c218 : ¬ (fmin ma fl 6) = 2147483647 := c218
      refine m_ald (pc' := 224) cd_Mo_isSafe rfl (Or.inr ⟨_, rfl, rfl, rfl⟩) l0 rfl rfl ?_
      refine m_fR (r := 9) (a := 10) (ad := 1492) (pc' := 227) rfl rfl cd_Mo_isSafe rfl rfl rfl rfl rfl ?_
      refine m_ald (pc' := 228) cd_Mo_isSafe rfl (Or.inr ⟨_, rfl, rfl, rfl⟩) l0 rfl rfl ?_
      refine m_fR (r := 1) (a := 2) (ad := 1484) (pc' := 231) rfl rfl cd_Mo_isSafe rfl rfl rfl rfl rfl ?_
      refine m_ald (pc' := 232) cd_Mo_isSafe rfl (Or.inr ⟨_, rfl, rfl, rfl⟩) l0 rfl rfl ?_
      refine m_fR (r := 29) (a := 30) (ad := 1512) (pc' := 235) rfl rfl cd_Mo_isSafe rfl rfl rfl rfl rfl ?_
      refine m_ild (pc' := 236) cd_Mo_isSafe rfl (Or.inr ⟨_, rfl, rfl, rfl⟩) l1 rfl ?_
      refine m_aI (r := 29) (a := 30) (g := (A 30)) (x := nI u) (pc' := 237) rfl rfl cd_Mo_isSafe rfl rfl rfl (vp_in_nI (by omega) (by decide)) (by rw [(nI_clamp (by omega))]; exact eu) ?_
      refine m_aI (r := 1) (a := 2) (g := (A 2)) (x := nI (nx se)) (pc' := 238) rfl rfl cd_Mo_isSafe rfl rfl rfl (vp_in_nI (by omega) (by decide)) (by rw [(nI_clamp (by omega))]; exact (MT_mk hM hu (Or.inl kse)).trans es2) ?_
      refine m_aI (r := 9) (a := 10) (g := (A 10)) (x := (dt (nx se))) (pc' := 239) rfl rfl cd_Mo_isSafe rfl rfl rfl (vp_in_nI (by omega) (by decide)) (by rw [(nI_clamp (by omega)), h10]) ?_
      refine m_ild (pc' := 240) cd_Mo_isSafe rfl (Or.inr ⟨_, rfl, rfl, rfl⟩) l3 rfl ?_
      refine m_if2 (t := 247) (pc' := 243) cd_Mo_isSafe rfl rfl rfl (fun c240 => ?_) (fun c240 => ?_)
      · have c240 : (fmin ma fl 6) ≤ (dt (nx se)) := c240
        refine m_k1 (v := 0) (pc' := 248) cd_Mo_isSafe rfl (by decide) rfl ?_
        refine m_ist (pc' := 250) cd_Mo_isSafe rfl (Or.inl ⟨rfl, rfl⟩) (by decide) rfl (fun lv el => ?_)
        have l0 := tm_lk el l0 rfl (by decide)
        have l1 := tm_lk el l1 rfl (by decide)
        have l2 := tm_lk el l2 rfl (by decide)
        have l3 := tm_lk el l3 rfl (by decide)
        have l4 : lv.lookup 4 = some (.int 0) := tm_lks el
        clear el
        refine m_k1 (v := 0) (pc' := 251) cd_Mo_isSafe rfl (by decide) rfl ?_
        refine m_ist (pc' := 253) cd_Mo_isSafe rfl (Or.inl ⟨rfl, rfl⟩) (by decide) rfl (fun lv el => ?_)
        have l0 := tm_lk el l0 rfl (by decide)
        have l1 := tm_lk el l1 rfl (by decide)
        have l2 := tm_lk el l2 rfl (by decide)
        have l3 := tm_lk el l3 rfl (by decide)
        have l4 := tm_lk el l4 rfl (by decide)
        have l5 : lv.lookup 5 = some (.int 0) := tm_lks el
        clear el
        have e : rl_safe dt db rt fl ll (se, nI s, to, on, mi, th, ma, gi, tk) = fall (nI s) ma gi (fmin ma fl 6) tk false 6 := by
          unfold rl_safe; dsimp only
          rw [if_neg (Int32.not_lt.mpr c15), if_neg c218, decide_eq_false (Int32.not_lt.mpr c240)]
        rw [e] at kk
        exact l_msafe3 hi hs g7 g8 g9 kk 6 0 (by omega) lv l0 l1 l2 l3 l4 l5
      · have c240 : ¬ (fmin ma fl 6) ≤ (dt (nx se)) := c240
        refine m_k1 (v := 1) (pc' := 244) cd_Mo_isSafe rfl (by decide) rfl ?_
        refine m_pure (pc' := 248) (st' := [.int 1]) cd_Mo_isSafe rfl rfl (fun _ _ => rfl) ?_
        refine m_ist (pc' := 250) cd_Mo_isSafe rfl (Or.inl ⟨rfl, rfl⟩) (by decide) rfl (fun lv el => ?_)
        have l0 := tm_lk el l0 rfl (by decide)
        have l1 := tm_lk el l1 rfl (by decide)
        have l2 := tm_lk el l2 rfl (by decide)
        have l3 := tm_lk el l3 rfl (by decide)
        have l4 : lv.lookup 4 = some (.int 1) := tm_lks el
        clear el
        refine m_k1 (v := 0) (pc' := 251) cd_Mo_isSafe rfl (by decide) rfl ?_
        refine m_ist (pc' := 253) cd_Mo_isSafe rfl (Or.inl ⟨rfl, rfl⟩) (by decide) rfl (fun lv el => ?_)
        have l0 := tm_lk el l0 rfl (by decide)
        have l1 := tm_lk el l1 rfl (by decide)
        have l2 := tm_lk el l2 rfl (by decide)
        have l3 := tm_lk el l3 rfl (by decide)
        have l4 := tm_lk el l4 rfl (by decide)
        have l5 : lv.lookup 5 = some (.int 0) := tm_lks el
        clear el
        have e : rl_safe dt db rt fl ll (se, nI s, to, on, mi, th, ma, gi, tk) = fall (nI s) ma gi (fmin ma fl 6) tk true 6 := by
          unfold rl_safe; dsimp only
          rw [if_neg (Int32.not_lt.mpr c15), if_neg c218, decide_eq_true (Int32.not_le.mp c240)]
        rw [e] at kk
        exact l_msafe3 hi hs g7 g8 g9 kk 6 0 (by omega) lv l0 l1 l2 l3 l4 l5
    · have c218 : (fmin ma fl 6) = 2147483647 := Classical.not_not.mp c218
      refine m_k1 (v := 1) (pc' := 222) cd_Mo_isSafe rfl (by decide) rfl ?_
      exact m_retz cd_Mo_isSafe rfl (by decide) ⟨_, rfl, (by rw [show rl_safe dt db rt fl ll (se, nI s, to, on, mi, th, ma, gi, tk) = true from by unfold rl_safe; dsimp only; rw [if_neg (Int32.not_lt.mpr c15), if_pos c218]] at kk; exact kk)⟩
  · have c15 : ¬ (16 : Int32) ≤ to := c15
    obtain ⟨⟨q, hq, eq⟩, km, kt⟩ := hto (Int32.not_le.mp c15)
    have qc := nI_clamp (show q < 2 ^ 31 by omega)
    have sc_ := nI_clamp (show s < 2 ^ 31 by omega)
    refine m_ald (pc' := 19) cd_Mo_isSafe rfl (Or.inr ⟨_, rfl, rfl, rfl⟩) l0 rfl rfl ?_
    refine m_fR (r := 31) (a := 32) (ad := 1514) (pc' := 22) rfl rfl cd_Mo_isSafe rfl rfl rfl rfl rfl ?_
    refine m_ild (pc' := 23) cd_Mo_isSafe rfl (Or.inr ⟨_, rfl, rfl, rfl⟩) l1 rfl ?_
    refine m_aI (r := 31) (a := 32) (g := (A 32)) (x := nI q) (pc' := 24) rfl rfl cd_Mo_isSafe rfl rfl rfl (vp_in_nI (by omega) (by decide)) (by rw [(nI_clamp (by omega))]; exact g3.trans eq) ?_
    refine m_ist (pc' := 25) cd_Mo_isSafe rfl (Or.inr ⟨_, rfl, rfl, rfl⟩) (by decide) rfl (fun lv el => ?_)
    have l0 := tm_lk el l0 rfl (by decide)
    have l1 := tm_lk el l1 rfl (by decide)
    have l2 := tm_lk el l2 rfl (by decide)
    have l3 : lv.lookup 3 = some (.int (nI q)) := tm_lks el
    clear el
    refine m_ald (pc' := 26) cd_Mo_isSafe rfl (Or.inr ⟨_, rfl, rfl, rfl⟩) l0 rfl rfl ?_
    refine m_fR (r := 36) (a := 37) (ad := 1519) (pc' := 29) rfl rfl cd_Mo_isSafe rfl rfl rfl rfl rfl ?_
    refine m_k2 (v := 6) (pc' := 31) cd_Mo_isSafe rfl (by decide) rfl ?_
    refine m_ild (pc' := 32) cd_Mo_isSafe rfl (Or.inr ⟨_, rfl, rfl, rfl⟩) l1 rfl ?_
    refine m_pure (pc' := 33) (st' := [.int ((6 : Int32) * (nI i)), .ref 1519]) cd_Mo_isSafe rfl rfl (fun _ _ => rfl) ?_
    refine m_eq (show ((6 : Int32) * (nI i) : Int32) = nI (6 * i) from pk_mul 6 i) ?_
    refine m_ild (pc' := 34) cd_Mo_isSafe rfl (Or.inr ⟨_, rfl, rfl, rfl⟩) l3 rfl ?_
    refine m_pure (pc' := 35) (st' := [.int ((nI (6 * i)) + (nI q)), .ref 1519]) cd_Mo_isSafe rfl rfl (fun _ _ => rfl) ?_
    refine m_eq (show ((nI (6 * i)) + (nI q) : Int32) = nI ((6 * i) + q) from nI_add (6 * i) q) ?_
    refine m_aI (r := 36) (a := 37) (g := (A 37)) (x := (tk q)) (pc' := 36) rfl rfl cd_Mo_isSafe rfl rfl rfl (vp_in_nI (by omega) (by decide)) (by rw [(nI_clamp (by omega))]; exact g9 q hq) ?_
    refine m_ist (pc' := 38) cd_Mo_isSafe rfl (Or.inl ⟨rfl, rfl⟩) (by decide) rfl (fun lv el => ?_)
    have l0 := tm_lk el l0 rfl (by decide)
    have l1 := tm_lk el l1 rfl (by decide)
    have l2 := tm_lk el l2 rfl (by decide)
    have l3 := tm_lk el l3 rfl (by decide)
    have l4 : lv.lookup 4 = some (.int ((tk q))) := tm_lks el
    clear el
    refine m_ald (pc' := 39) cd_Mo_isSafe rfl (Or.inr ⟨_, rfl, rfl, rfl⟩) l0 rfl rfl ?_
    refine m_fR (r := 32) (a := 33) (ad := 1515) (pc' := 42) rfl rfl cd_Mo_isSafe rfl rfl rfl rfl rfl ?_
    refine m_ild (pc' := 43) cd_Mo_isSafe rfl (Or.inr ⟨_, rfl, rfl, rfl⟩) l1 rfl ?_
    refine m_bI (r := 32) (a := 33) (g := (A 33)) (x := bz on) (pc' := 44) rfl rfl cd_Mo_isSafe rfl rfl rfl (vp_in_nI (by omega) (by decide)) (by rw [(nI_clamp (by omega))]; exact g4) ?_
    refine m_if1 (t := 79) (pc' := 47) cd_Mo_isSafe rfl rfl rfl (fun c44 => ?_) (fun c44 => ?_)
    · have c44 : on = false := bz_f c44
      have e : rl_safe dt db rt fl ll (se, nI s, to, on, mi, th, ma, gi, tk) = rl_heal dt db rt ll s q mi th := by
        unfold rl_safe; dsimp only
        rw [if_pos (Int32.not_le.mp c15), eq, qc, sc_, c44]
        rfl
      rw [e] at kk
      exact l_msafe1 hM h10 h11 h12 h24 h25 hi hs hq g5 g6 km kt kk lv l0 l1 l2 l3
    · have c44 : on = true := bz_t c44
      refine m_ild (pc' := 49) cd_Mo_isSafe rfl (Or.inl ⟨rfl, rfl⟩) l4 rfl ?_
      refine m_ldcw (pc' := 52) cd_Mo_isSafe rfl rfl rfl ?_
      refine m_if2 (t := 79) (pc' := 55) cd_Mo_isSafe rfl rfl rfl (fun c52 => ?_) (fun c52 => ?_)
      · have c52 : (tk q) = 2147483647 := c52
        have e : rl_safe dt db rt fl ll (se, nI s, to, on, mi, th, ma, gi, tk) = rl_heal dt db rt ll s q mi th := by
          unfold rl_safe; dsimp only
          rw [if_pos (Int32.not_le.mp c15), eq, qc, sc_, c44, decide_eq_false (fun z => z c52)]
          rfl
        rw [e] at kk
        exact l_msafe1 hM h10 h11 h12 h24 h25 hi hs hq g5 g6 km kt kk lv l0 l1 l2 l3
      · have c52 : ¬ (tk q) = 2147483647 := c52
        refine m_ild (pc' := 57) cd_Mo_isSafe rfl (Or.inl ⟨rfl, rfl⟩) l4 rfl ?_
        refine m_ald (pc' := 58) cd_Mo_isSafe rfl (Or.inr ⟨_, rfl, rfl, rfl⟩) l0 rfl rfl ?_
        refine m_fR (r := 23) (a := 24) (ad := 1506) (pc' := 61) rfl rfl cd_Mo_isSafe rfl rfl rfl rfl rfl ?_
        refine m_ild (pc' := 62) cd_Mo_isSafe rfl (Or.inr ⟨_, rfl, rfl, rfl⟩) l2 rfl ?_
        refine m_aI (r := 23) (a := 24) (g := (A 24)) (x := (fl s)) (pc' := 63) rfl rfl cd_Mo_isSafe rfl rfl rfl (vp_in_nI (by omega) (by decide)) (by rw [(nI_clamp (by omega)), h24]) ?_
        refine m_if2 (t := 79) (pc' := 66) cd_Mo_isSafe rfl rfl rfl (fun c63 => ?_) (fun c63 => ?_)
        · have c63 : (fl s) ≤ (tk q) := c63
          have e : rl_safe dt db rt fl ll (se, nI s, to, on, mi, th, ma, gi, tk) = rl_heal dt db rt ll s q mi th := by
            unfold rl_safe; dsimp only
            rw [if_pos (Int32.not_le.mp c15), eq, qc, sc_, c44, decide_eq_true c52, decide_eq_false (Int32.not_lt.mpr c63)]
            rfl
          rw [e] at kk
          exact l_msafe1 hM h10 h11 h12 h24 h25 hi hs hq g5 g6 km kt kk lv l0 l1 l2 l3
        · have c63 : ¬ (fl s) ≤ (tk q) := c63
          refine m_ild (pc' := 68) cd_Mo_isSafe rfl (Or.inl ⟨rfl, rfl⟩) l4 rfl ?_
          refine m_ald (pc' := 69) cd_Mo_isSafe rfl (Or.inr ⟨_, rfl, rfl, rfl⟩) l0 rfl rfl ?_
          refine m_fR (r := 23) (a := 24) (ad := 1506) (pc' := 72) rfl rfl cd_Mo_isSafe rfl rfl rfl rfl rfl ?_
          refine m_ild (pc' := 73) cd_Mo_isSafe rfl (Or.inr ⟨_, rfl, rfl, rfl⟩) l3 rfl ?_
          refine m_aI (r := 23) (a := 24) (g := (A 24)) (x := (fl q)) (pc' := 74) rfl rfl cd_Mo_isSafe rfl rfl rfl (vp_in_nI (by omega) (by decide)) (by rw [(nI_clamp (by omega)), h24]) ?_
          refine m_if2 (t := 79) (pc' := 77) cd_Mo_isSafe rfl rfl rfl (fun c74 => ?_) (fun c74 => ?_)
          · have c74 : (fl q) ≤ (tk q) := c74
            have e : rl_safe dt db rt fl ll (se, nI s, to, on, mi, th, ma, gi, tk) = rl_heal dt db rt ll s q mi th := by
              unfold rl_safe; dsimp only
              rw [if_pos (Int32.not_le.mp c15), eq, qc, sc_, c44, decide_eq_true c52, decide_eq_true (Int32.not_le.mp c63), decide_eq_false (Int32.not_lt.mpr c74)]
              rfl
            rw [e] at kk
            exact l_msafe1 hM h10 h11 h12 h24 h25 hi hs hq g5 g6 km kt kk lv l0 l1 l2 l3
          · have c74 : ¬ (fl q) ≤ (tk q) := c74
            refine m_k1 (v := 1) (pc' := 78) cd_Mo_isSafe rfl (by decide) rfl ?_
            exact m_retz cd_Mo_isSafe rfl (by decide) ⟨_, rfl, (by rw [show rl_safe dt db rt fl ll (se, nI s, to, on, mi, th, ma, gi, tk) = true from by unfold rl_safe; dsimp only; rw [if_pos (Int32.not_le.mp c15), eq, qc, sc_, c44, decide_eq_true c52, decide_eq_true (Int32.not_le.mp c63), decide_eq_true (Int32.not_le.mp c74)]; rfl] at kk; exact kk)⟩
