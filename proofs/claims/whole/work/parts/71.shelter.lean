/-! Ledger: shelter -/
theorem t_noteTaken {sc : tm_X} {d : Nat} {ca rm dr : Nat} {B : bm_H} {T : List Tm} {L : List LT} {bd ll tc tl tf tg : Nat → Int32} {cf cg : Int32} {ct : Tm} {co : Bool} {li fo db : Int32} {p : Nat} {Q : bm_H → Prop} (hT : TI B 1 ca 3 4 rm dr T) (hR : RLe B T (L, bd, ll, tc, tl, tf, tg, cf, cg, ct, co, li, fo, db)) (hp : p < 6) (kk : ∀ B', RLe B' T (lg_taken (L, bd, ll, tc, tl, tf, tg, cf, cg, ct, co, li, fo, db) p) → fz lex B B' → Q B') : bm_Gv sc (d + 3) 125 [.ref 11, .ref 1, .int (nI p)] B Q := by
  rcases lg_cases L hR.2.1.1.2 (lg_with bd ct) with h | ⟨i, ⟨se, fm, to, gr, ma, on, mi, th, tk, sf⟩, h, he⟩
  · exact t_noteTaken0 hT hR hp h kk
  · exact t_noteTaken1 hT hR hp h he kk
def lt_fresh (e : LT) (ll : Nat → Int32) : Bool := match e with
  | (_, fm, to, _, _, _, mi, th, _, _) => decide (kd th = 1) && (decide (nu th 0 = to) && ((decide (nu th 1 = 1) || decide (nu th 1 = 2)) && (decide (ll to.toNatClampNeg ≤ mk th) && decide (ll fm.toNatClampNeg ≤ mk mi))))
def lt_safe (e : LT) (ll : Nat → Int32) (li : Int32) : Bool := match e with
  | (se, fm, to, gr, ma, on, mi, th, tk, sf) => if gr = -1 then (decide (on = 1) && hbit sf to) || lt_fresh (se, fm, to, gr, ma, on, mi, th, tk, sf) ll else decide (ma &&& li = 0) || decide (ma &&& (sf ^^^ (-1)) = 0)
theorem t_drawnFor {sc : tm_X} {d a ca ba da rm dr : Nat} {B : bm_H} {T : List Tm} {x : Int32} {A : Tm} {Q : Int32 → bm_H → Prop} (hT : TI B a ca ba da rm dr T) (hx : tv T x A) (kk : Q (nu A 1) B) : bm_Gi sc (d + 1) 176 [.ref a, .int x] B Q := by
  show bm_G sc (d + 1) 176 0 [(0, .ref a), (1, .int x)] [] B _
  generalize elv : ([(0, .ref a), (1, .int x)] : tm_L) = lv
  have l0 : lv.lookup 0 = some (.ref a) := by rw [← elv]; rfl
  have l1 : lv.lookup 1 = some (.int x) := by rw [← elv]; rfl
  clear elv
  refine g_ald (pc' := 1) cd_Te_drawnFor rfl (Or.inr ⟨_, rfl, rfl, rfl⟩) l0 rfl rfl ?_
  refine g_ild (pc' := 2) cd_Te_drawnFor rfl (Or.inr ⟨_, rfl, rfl, rfl⟩) l1 rfl ?_
  refine g_k1 (v := 1) (pc' := 3) cd_Te_drawnFor rfl (by decide) rfl ?_
  refine g_calli (pc' := 6) cd_Te_drawnFor rfl rfl rfl rfl rfl (tm_invV rfl rfl cd_Te_numberOf rfl (Nat.le_of_ble_eq_true rfl) (by decide) hT.1.1.1 hT.1.1.2) (t_numberOf (i := 1) hT hx (by decide) ?_)
  show bm_G _ _ _ 6 _ [.int (nu A 1)] B _
  exact g_reti cd_Te_drawnFor rfl ⟨_, rfl, kk⟩
theorem t_drawnBy {sc : tm_X} {d a ca ba da rm dr : Nat} {B : bm_H} {T : List Tm} {x : Int32} {A : Tm} {Q : Int32 → bm_H → Prop} (hT : TI B a ca ba da rm dr T) (hx : tv T x A) (kk : Q (nu A 0) B) : bm_Gi sc (d + 1) 177 [.ref a, .int x] B Q := by
  show bm_G sc (d + 1) 177 0 [(0, .ref a), (1, .int x)] [] B _
  generalize elv : ([(0, .ref a), (1, .int x)] : tm_L) = lv
  have l0 : lv.lookup 0 = some (.ref a) := by rw [← elv]; rfl
  have l1 : lv.lookup 1 = some (.int x) := by rw [← elv]; rfl
  clear elv
  refine g_ald (pc' := 1) cd_Te_drawnBy rfl (Or.inr ⟨_, rfl, rfl, rfl⟩) l0 rfl rfl ?_
  refine g_ild (pc' := 2) cd_Te_drawnBy rfl (Or.inr ⟨_, rfl, rfl, rfl⟩) l1 rfl ?_
  refine g_k1 (v := 0) (pc' := 3) cd_Te_drawnBy rfl (by decide) rfl ?_
  refine g_calli (pc' := 6) cd_Te_drawnBy rfl rfl rfl rfl rfl (tm_invV rfl rfl cd_Te_numberOf rfl (Nat.le_of_ble_eq_true rfl) (by decide) hT.1.1.1 hT.1.1.2) (t_numberOf (i := 0) hT hx (by decide) ?_)
  show bm_G _ _ _ 6 _ [.int (nu A 0)] B _
  exact g_reti cd_Te_drawnBy rfl ⟨_, rfl, kk⟩
set_option maxRecDepth 100000 in
theorem t_freshKeys {sc : tm_X} {d : Nat} {ca rm dr : Nat} {B : bm_H} {T : List Tm} {L : List LT} {bd ll tc tl tf tg : Nat → Int32} {cf cg : Int32} {ct : Tm} {co : Bool} {li fo db : Int32} {i q r : Nat} {se mi th : Tm} {gr ma on tk sf : Int32} {Q : Int32 → bm_H → Prop} (hT : TI B 1 ca 3 4 rm dr T) (hR : RLe B T (L, bd, ll, tc, tl, tf, tg, cf, cg, ct, co, li, fo, db)) (he : L[i]? = some (se, nI r, nI q, gr, ma, on, mi, th, tk, sf)) (hq : q < 6) (hr : r < 6) (kk : Q (bz (lt_fresh (se, nI r, nI q, gr, ma, on, mi, th, tk, sf) ll)) B) : bm_Gi sc (d + 2) 175 [.ref 11, .ref 1, .int (nI i)] B Q := by
  have h7 := hR.2.1.1.2
  have hi := (List.getElem?_eq_some_iff.mp he).1
  have hrow := hR.2.2.1 i _ he
  have eq : (nI q).toNatClampNeg = q := nI_clamp (by omega)
  have er : (nI r).toNatClampNeg = r := nI_clamp (by omega)
  show bm_G sc (d + 2) 175 0 [(0, .ref 11), (1, .ref 1), (2, .int (nI i))] [] B _
  generalize elv : ([(0, .ref 11), (1, .ref 1), (2, .int (nI i))] : tm_L) = lv
  have l0 : lv.lookup 0 = some (.ref 11) := by rw [← elv]; rfl
  have l1 : lv.lookup 1 = some (.ref 1) := by rw [← elv]; rfl
  have l2 : lv.lookup 2 = some (.int (nI i)) := by rw [← elv]; rfl
  clear elv
  refine g_ald (pc' := 1) cd_Le_hasFreshKeys rfl (Or.inr ⟨_, rfl, rfl, rfl⟩) l0 rfl rfl ?_
  refine g_ild (pc' := 2) cd_Le_hasFreshKeys rfl (Or.inr ⟨_, rfl, rfl, rfl⟩) l2 rfl ?_
  refine g_k1 (v := 2) (pc' := 3) cd_Le_hasFreshKeys rfl (by decide) rfl ?_
  refine g_calli (pc' := 6) cd_Le_hasFreshKeys rfl rfl rfl rfl rfl (tm_invV rfl rfl cd_Le_of rfl (Nat.le_of_ble_eq_true rfl) (by decide) hR.1.1.1 hR.1.1.2) (t_Lof (k := 2) hR hi (by decide) ?_)
  rw [show bm_AI B 12 (i * 10 + 2) = nI q from hrow.2.2.1]
  show bm_G _ _ _ 6 _ [.int (nI q)] B _
  refine g_ist (pc' := 7) cd_Le_hasFreshKeys rfl (Or.inr ⟨_, rfl, rfl, rfl⟩) (by decide) rfl (fun lv el => ?_)
  have l0 := tm_lk el l0 rfl (by decide)
  have l1 := tm_lk el l1 rfl (by decide)
  have l2 := tm_lk el l2 rfl (by decide)
  have l3 : lv.lookup 3 = some (.int (nI q)) := tm_lks el
  clear el
  refine g_ald (pc' := 8) cd_Le_hasFreshKeys rfl (Or.inr ⟨_, rfl, rfl, rfl⟩) l0 rfl rfl ?_
  refine g_ild (pc' := 9) cd_Le_hasFreshKeys rfl (Or.inr ⟨_, rfl, rfl, rfl⟩) l2 rfl ?_
  refine g_k2 (v := 7) (pc' := 11) cd_Le_hasFreshKeys rfl (by decide) rfl ?_
  refine g_calli (pc' := 14) cd_Le_hasFreshKeys rfl rfl rfl rfl rfl (tm_invV rfl rfl cd_Le_of rfl (Nat.le_of_ble_eq_true rfl) (by decide) hR.1.1.1 hR.1.1.2) (t_Lof (k := 7) hR hi (by decide) ?_)
  show bm_G _ _ _ 14 _ [.int ((bm_AI B 12 (i * 10 + 7)))] B _
  refine g_ist (pc' := 16) cd_Le_hasFreshKeys rfl (Or.inl ⟨rfl, rfl⟩) (by decide) rfl (fun lv el => ?_)
  have l0 := tm_lk el l0 rfl (by decide)
  have l1 := tm_lk el l1 rfl (by decide)
  have l2 := tm_lk el l2 rfl (by decide)
  have l3 := tm_lk el l3 rfl (by decide)
  have l4 : lv.lookup 4 = some (.int ((bm_AI B 12 (i * 10 + 7)))) := tm_lks el
  clear el
  refine g_ald (pc' := 17) cd_Le_hasFreshKeys rfl (Or.inr ⟨_, rfl, rfl, rfl⟩) l1 rfl rfl ?_
  refine g_ild (pc' := 19) cd_Le_hasFreshKeys rfl (Or.inl ⟨rfl, rfl⟩) l4 rfl ?_
  refine g_calli (pc' := 22) cd_Le_hasFreshKeys rfl rfl rfl rfl rfl (tm_invV rfl rfl cd_Te_drawnFor rfl (Nat.le_of_ble_eq_true rfl) (by decide) hT.1.1.1 hT.1.1.2) (t_drawnFor hT hrow.2.2.2.2.2.2.2.1 ?_)
  show bm_G _ _ _ 22 _ [.int (nu th 1)] B _
  refine g_ist (pc' := 24) cd_Le_hasFreshKeys rfl (Or.inl ⟨rfl, rfl⟩) (by decide) rfl (fun lv el => ?_)
  have l0 := tm_lk el l0 rfl (by decide)
  have l1 := tm_lk el l1 rfl (by decide)
  have l2 := tm_lk el l2 rfl (by decide)
  have l3 := tm_lk el l3 rfl (by decide)
  have l4 := tm_lk el l4 rfl (by decide)
  have l5 : lv.lookup 5 = some (.int (nu th 1)) := tm_lks el
  clear el
  refine g_ald (pc' := 25) cd_Le_hasFreshKeys rfl (Or.inr ⟨_, rfl, rfl, rfl⟩) l1 rfl rfl ?_
  refine g_ild (pc' := 27) cd_Le_hasFreshKeys rfl (Or.inl ⟨rfl, rfl⟩) l4 rfl ?_
  refine g_calli (pc' := 30) cd_Le_hasFreshKeys rfl rfl rfl rfl rfl (tm_invV rfl rfl cd_Te_kindOf rfl (Nat.le_of_ble_eq_true rfl) (by decide) hT.1.1.1 hT.1.1.2) (t_kindOf hT hrow.2.2.2.2.2.2.2.1 ?_)
  show bm_G _ _ _ 30 _ [.int (kd th)] B _
  refine g_k1 (v := 1) (pc' := 31) cd_Le_hasFreshKeys rfl (by decide) rfl ?_
  refine g_if2 (t := 60) (pc' := 34) cd_Le_hasFreshKeys rfl rfl rfl (fun c31 => ?_) (fun c31 => ?_)
  · have c31 : ¬ (kd th) = 1 := c31
    refine g_k1 (v := 0) (pc' := 61) cd_Le_hasFreshKeys rfl (by decide) rfl ?_
    refine g_ist (pc' := 63) cd_Le_hasFreshKeys rfl (Or.inl ⟨rfl, rfl⟩) (by decide) rfl (fun lv el => ?_)
    have l0 := tm_lk el l0 rfl (by decide)
    have l1 := tm_lk el l1 rfl (by decide)
    have l2 := tm_lk el l2 rfl (by decide)
    have l3 := tm_lk el l3 rfl (by decide)
    have l4 := tm_lk el l4 rfl (by decide)
    have l5 := tm_lk el l5 rfl (by decide)
    have l6 : lv.lookup 6 = some (.int 0) := tm_lks el
    clear el
    refine g_ild (pc' := 65) cd_Le_hasFreshKeys rfl (Or.inl ⟨rfl, rfl⟩) l6 rfl ?_
    refine g_if1 (t := 112) (pc' := 68) cd_Le_hasFreshKeys rfl rfl rfl (fun c65 => ?_) (fun c65 => ?_)
    · have c65 : (0 : Int32) = 0 := c65
      refine g_k1 (v := 0) (pc' := 113) cd_Le_hasFreshKeys rfl (by decide) rfl ?_
      exact g_retz cd_Le_hasFreshKeys rfl (Or.inl rfl) ⟨_, rfl, (bm_eq kk (by rw [show lt_fresh (se, nI r, nI q, gr, ma, on, mi, th, tk, sf) ll = false from by unfold lt_fresh; dsimp only; rw [eq, er]; simp [c31]]; rfl))⟩
    · exact absurd (show ¬ (0 : Int32) = 0 from c65) (by decide)
  · have c31 : (kd th) = 1 := Classical.not_not.mp c31
    refine g_ald (pc' := 35) cd_Le_hasFreshKeys rfl (Or.inr ⟨_, rfl, rfl, rfl⟩) l1 rfl rfl ?_
    refine g_ild (pc' := 37) cd_Le_hasFreshKeys rfl (Or.inl ⟨rfl, rfl⟩) l4 rfl ?_
    refine g_calli (pc' := 40) cd_Le_hasFreshKeys rfl rfl rfl rfl rfl (tm_invV rfl rfl cd_Te_drawnBy rfl (Nat.le_of_ble_eq_true rfl) (by decide) hT.1.1.1 hT.1.1.2) (t_drawnBy hT hrow.2.2.2.2.2.2.2.1 ?_)
    show bm_G _ _ _ 40 _ [.int (nu th 0)] B _
    refine g_ild (pc' := 41) cd_Le_hasFreshKeys rfl (Or.inr ⟨_, rfl, rfl, rfl⟩) l3 rfl ?_
    refine g_if2 (t := 60) (pc' := 44) cd_Le_hasFreshKeys rfl rfl rfl (fun c41 => ?_) (fun c41 => ?_)
    · have c41 : ¬ (nu th 0) = (nI q) := c41
      refine g_k1 (v := 0) (pc' := 61) cd_Le_hasFreshKeys rfl (by decide) rfl ?_
      refine g_ist (pc' := 63) cd_Le_hasFreshKeys rfl (Or.inl ⟨rfl, rfl⟩) (by decide) rfl (fun lv el => ?_)
      have l0 := tm_lk el l0 rfl (by decide)
      have l1 := tm_lk el l1 rfl (by decide)
      have l2 := tm_lk el l2 rfl (by decide)
      have l3 := tm_lk el l3 rfl (by decide)
      have l4 := tm_lk el l4 rfl (by decide)
      have l5 := tm_lk el l5 rfl (by decide)
      have l6 : lv.lookup 6 = some (.int 0) := tm_lks el
      clear el
      refine g_ild (pc' := 65) cd_Le_hasFreshKeys rfl (Or.inl ⟨rfl, rfl⟩) l6 rfl ?_
      refine g_if1 (t := 112) (pc' := 68) cd_Le_hasFreshKeys rfl rfl rfl (fun c65 => ?_) (fun c65 => ?_)
      · have c65 : (0 : Int32) = 0 := c65
        refine g_k1 (v := 0) (pc' := 113) cd_Le_hasFreshKeys rfl (by decide) rfl ?_
        exact g_retz cd_Le_hasFreshKeys rfl (Or.inl rfl) ⟨_, rfl, (bm_eq kk (by rw [show lt_fresh (se, nI r, nI q, gr, ma, on, mi, th, tk, sf) ll = false from by unfold lt_fresh; dsimp only; rw [eq, er]; simp [c31, c41]]; rfl))⟩
      · exact absurd (show ¬ (0 : Int32) = 0 from c65) (by decide)
    · have c41 : (nu th 0) = (nI q) := Classical.not_not.mp c41
      refine g_ild (pc' := 46) cd_Le_hasFreshKeys rfl (Or.inl ⟨rfl, rfl⟩) l5 rfl ?_
      refine g_k1 (v := 1) (pc' := 47) cd_Le_hasFreshKeys rfl (by decide) rfl ?_
      refine g_if2 (t := 56) (pc' := 50) cd_Le_hasFreshKeys rfl rfl rfl (fun c47 => ?_) (fun c47 => ?_)
      · have c47 : (nu th 1) = 1 := c47
        refine g_k1 (v := 1) (pc' := 57) cd_Le_hasFreshKeys rfl (by decide) rfl ?_
        refine g_pure (pc' := 61) (st' := [.int 1]) cd_Le_hasFreshKeys rfl rfl (fun _ _ => rfl) ?_
        refine g_ist (pc' := 63) cd_Le_hasFreshKeys rfl (Or.inl ⟨rfl, rfl⟩) (by decide) rfl (fun lv el => ?_)
        have l0 := tm_lk el l0 rfl (by decide)
        have l1 := tm_lk el l1 rfl (by decide)
        have l2 := tm_lk el l2 rfl (by decide)
        have l3 := tm_lk el l3 rfl (by decide)
        have l4 := tm_lk el l4 rfl (by decide)
        have l5 := tm_lk el l5 rfl (by decide)
        have l6 : lv.lookup 6 = some (.int 1) := tm_lks el
        clear el
        refine g_ild (pc' := 65) cd_Le_hasFreshKeys rfl (Or.inl ⟨rfl, rfl⟩) l6 rfl ?_
        refine g_if1 (t := 112) (pc' := 68) cd_Le_hasFreshKeys rfl rfl rfl (fun c65 => ?_) (fun c65 => ?_)
        · exact absurd (show (1 : Int32) = 0 from c65) (by decide)
        · have c65 : ¬ (1 : Int32) = 0 := c65
          refine g_ald (pc' := 69) cd_Le_hasFreshKeys rfl (Or.inr ⟨_, rfl, rfl, rfl⟩) l1 rfl rfl ?_
          refine g_ild (pc' := 71) cd_Le_hasFreshKeys rfl (Or.inl ⟨rfl, rfl⟩) l4 rfl ?_
          refine g_calli (pc' := 74) cd_Le_hasFreshKeys rfl rfl rfl rfl rfl (tm_invV rfl rfl cd_Te_markOf rfl (Nat.le_of_ble_eq_true rfl) (by decide) hT.1.1.1 hT.1.1.2) (t_markOf hT hrow.2.2.2.2.2.2.2.1 ?_)
          show bm_G _ _ _ 74 _ [.int (mk th)] B _
          refine g_ald (pc' := 75) cd_Le_hasFreshKeys rfl (Or.inr ⟨_, rfl, rfl, rfl⟩) l0 rfl rfl ?_
          refine g_fR (c := 4) (k := 2) (x := 14) (pc' := 78) cd_Le_hasFreshKeys rfl rfl rfl rfl rfl (by decide) hR.1.1.1 hR.1.1.2 hR.1.2.1.2.2.1 ?_
          refine g_ild (pc' := 79) cd_Le_hasFreshKeys rfl (Or.inr ⟨_, rfl, rfl, rfl⟩) l3 rfl ?_
          refine g_aI (x := (ll q)) (pc' := 80) cd_Le_hasFreshKeys rfl rfl hR.1.2.2.2.2.1.1 hR.1.2.2.2.2.1.2.1 (by rw [show bm_AL B 14 = 6 from hR.1.2.2.2.2.1.2.2]; exact vp_in_nI (by omega) (by decide)) (by rw [eq]; exact congrFun hR.2.1.2.1.2.1 q) ?_
          refine g_if2 (t := 112) (pc' := 83) cd_Le_hasFreshKeys rfl rfl rfl (fun c80 => ?_) (fun c80 => ?_)
          · have c80 : (mk th) < (ll q) := c80
            refine g_k1 (v := 0) (pc' := 113) cd_Le_hasFreshKeys rfl (by decide) rfl ?_
            exact g_retz cd_Le_hasFreshKeys rfl (Or.inl rfl) ⟨_, rfl, (bm_eq kk (by rw [show lt_fresh (se, nI r, nI q, gr, ma, on, mi, th, tk, sf) ll = false from by unfold lt_fresh; dsimp only; rw [eq, er]; simp [c31, c41, c47]; exact fun h => absurd (Int32.not_lt.mpr h) (fun q => q c80)]; rfl))⟩
          · have c80 : ¬ (mk th) < (ll q) := c80
            refine g_ald (pc' := 84) cd_Le_hasFreshKeys rfl (Or.inr ⟨_, rfl, rfl, rfl⟩) l1 rfl rfl ?_
            refine g_ald (pc' := 85) cd_Le_hasFreshKeys rfl (Or.inr ⟨_, rfl, rfl, rfl⟩) l0 rfl rfl ?_
            refine g_ild (pc' := 86) cd_Le_hasFreshKeys rfl (Or.inr ⟨_, rfl, rfl, rfl⟩) l2 rfl ?_
            refine g_k2 (v := 6) (pc' := 88) cd_Le_hasFreshKeys rfl (by decide) rfl ?_
            refine g_calli (pc' := 91) cd_Le_hasFreshKeys rfl rfl rfl rfl rfl (tm_invV rfl rfl cd_Le_of rfl (Nat.le_of_ble_eq_true rfl) (by decide) hR.1.1.1 hR.1.1.2) (t_Lof (k := 6) hR hi (by decide) ?_)
            show bm_G _ _ _ 91 _ [.int ((bm_AI B 12 (i * 10 + 6))), .ref 1] B _
            refine g_calli (pc' := 94) cd_Le_hasFreshKeys rfl rfl rfl rfl rfl (tm_invV rfl rfl cd_Te_markOf rfl (Nat.le_of_ble_eq_true rfl) (by decide) hT.1.1.1 hT.1.1.2) (t_markOf hT hrow.2.2.2.2.2.2.1 ?_)
            show bm_G _ _ _ 94 _ [.int (mk mi)] B _
            refine g_ald (pc' := 95) cd_Le_hasFreshKeys rfl (Or.inr ⟨_, rfl, rfl, rfl⟩) l0 rfl rfl ?_
            refine g_fR (c := 4) (k := 2) (x := 14) (pc' := 98) cd_Le_hasFreshKeys rfl rfl rfl rfl rfl (by decide) hR.1.1.1 hR.1.1.2 hR.1.2.1.2.2.1 ?_
            refine g_ald (pc' := 99) cd_Le_hasFreshKeys rfl (Or.inr ⟨_, rfl, rfl, rfl⟩) l0 rfl rfl ?_
            refine g_ild (pc' := 100) cd_Le_hasFreshKeys rfl (Or.inr ⟨_, rfl, rfl, rfl⟩) l2 rfl ?_
            refine g_k1 (v := 1) (pc' := 101) cd_Le_hasFreshKeys rfl (by decide) rfl ?_
            refine g_calli (pc' := 104) cd_Le_hasFreshKeys rfl rfl rfl rfl rfl (tm_invV rfl rfl cd_Le_of rfl (Nat.le_of_ble_eq_true rfl) (by decide) hR.1.1.1 hR.1.1.2) (t_Lof (k := 1) hR hi (by decide) ?_)
            rw [show bm_AI B 12 (i * 10 + 1) = nI r from hrow.2.1]
            show bm_G _ _ _ 104 _ [.int (nI r), .ref 14, .int (mk mi)] B _
            refine g_aI (x := (ll r)) (pc' := 105) cd_Le_hasFreshKeys rfl rfl hR.1.2.2.2.2.1.1 hR.1.2.2.2.2.1.2.1 (by rw [show bm_AL B 14 = 6 from hR.1.2.2.2.2.1.2.2]; exact vp_in_nI (by omega) (by decide)) (by rw [er]; exact congrFun hR.2.1.2.1.2.1 r) ?_
            refine g_if2 (t := 112) (pc' := 108) cd_Le_hasFreshKeys rfl rfl rfl (fun c105 => ?_) (fun c105 => ?_)
            · have c105 : (mk mi) < (ll r) := c105
              refine g_k1 (v := 0) (pc' := 113) cd_Le_hasFreshKeys rfl (by decide) rfl ?_
              exact g_retz cd_Le_hasFreshKeys rfl (Or.inl rfl) ⟨_, rfl, (bm_eq kk (by rw [show lt_fresh (se, nI r, nI q, gr, ma, on, mi, th, tk, sf) ll = false from by unfold lt_fresh; dsimp only; rw [eq, er]; simp [c31, c41, c47]; exact fun _ => c105]; rfl))⟩
            · have c105 : ¬ (mk mi) < (ll r) := c105
              refine g_k1 (v := 1) (pc' := 109) cd_Le_hasFreshKeys rfl (by decide) rfl ?_
              refine g_pure (pc' := 113) (st' := [.int 1]) cd_Le_hasFreshKeys rfl rfl (fun _ _ => rfl) ?_
              exact g_retz cd_Le_hasFreshKeys rfl (Or.inr rfl) ⟨_, rfl, (bm_eq kk (by rw [show lt_fresh (se, nI r, nI q, gr, ma, on, mi, th, tk, sf) ll = true from by unfold lt_fresh; dsimp only; rw [eq, er]; simp [c31, c41, c47]; exact ⟨Int32.not_lt.mp c80, Int32.not_lt.mp c105⟩]; rfl))⟩
      · have c47 : ¬ (nu th 1) = 1 := c47
        refine g_ild (pc' := 52) cd_Le_hasFreshKeys rfl (Or.inl ⟨rfl, rfl⟩) l5 rfl ?_
        refine g_k1 (v := 2) (pc' := 53) cd_Le_hasFreshKeys rfl (by decide) rfl ?_
        refine g_if2 (t := 60) (pc' := 56) cd_Le_hasFreshKeys rfl rfl rfl (fun c53 => ?_) (fun c53 => ?_)
        · have c53 : ¬ (nu th 1) = 2 := c53
          refine g_k1 (v := 0) (pc' := 61) cd_Le_hasFreshKeys rfl (by decide) rfl ?_
          refine g_ist (pc' := 63) cd_Le_hasFreshKeys rfl (Or.inl ⟨rfl, rfl⟩) (by decide) rfl (fun lv el => ?_)
          have l0 := tm_lk el l0 rfl (by decide)
          have l1 := tm_lk el l1 rfl (by decide)
          have l2 := tm_lk el l2 rfl (by decide)
          have l3 := tm_lk el l3 rfl (by decide)
          have l4 := tm_lk el l4 rfl (by decide)
          have l5 := tm_lk el l5 rfl (by decide)
          have l6 : lv.lookup 6 = some (.int 0) := tm_lks el
          clear el
          refine g_ild (pc' := 65) cd_Le_hasFreshKeys rfl (Or.inl ⟨rfl, rfl⟩) l6 rfl ?_
          refine g_if1 (t := 112) (pc' := 68) cd_Le_hasFreshKeys rfl rfl rfl (fun c65 => ?_) (fun c65 => ?_)
          · have c65 : (0 : Int32) = 0 := c65
            refine g_k1 (v := 0) (pc' := 113) cd_Le_hasFreshKeys rfl (by decide) rfl ?_
            exact g_retz cd_Le_hasFreshKeys rfl (Or.inl rfl) ⟨_, rfl, (bm_eq kk (by rw [show lt_fresh (se, nI r, nI q, gr, ma, on, mi, th, tk, sf) ll = false from by unfold lt_fresh; dsimp only; rw [eq, er]; simp [c31, c41, c47, c53]]; rfl))⟩
          · exact absurd (show ¬ (0 : Int32) = 0 from c65) (by decide)
        · have c53 : (nu th 1) = 2 := Classical.not_not.mp c53
          refine g_k1 (v := 1) (pc' := 57) cd_Le_hasFreshKeys rfl (by decide) rfl ?_
          refine g_pure (pc' := 61) (st' := [.int 1]) cd_Le_hasFreshKeys rfl rfl (fun _ _ => rfl) ?_
          refine g_ist (pc' := 63) cd_Le_hasFreshKeys rfl (Or.inl ⟨rfl, rfl⟩) (by decide) rfl (fun lv el => ?_)
          have l0 := tm_lk el l0 rfl (by decide)
          have l1 := tm_lk el l1 rfl (by decide)
          have l2 := tm_lk el l2 rfl (by decide)
          have l3 := tm_lk el l3 rfl (by decide)
          have l4 := tm_lk el l4 rfl (by decide)
          have l5 := tm_lk el l5 rfl (by decide)
          have l6 : lv.lookup 6 = some (.int 1) := tm_lks el
          clear el
          refine g_ild (pc' := 65) cd_Le_hasFreshKeys rfl (Or.inl ⟨rfl, rfl⟩) l6 rfl ?_
          refine g_if1 (t := 112) (pc' := 68) cd_Le_hasFreshKeys rfl rfl rfl (fun c65 => ?_) (fun c65 => ?_)
          · exact absurd (show (1 : Int32) = 0 from c65) (by decide)
          · have c65 : ¬ (1 : Int32) = 0 := c65
            refine g_ald (pc' := 69) cd_Le_hasFreshKeys rfl (Or.inr ⟨_, rfl, rfl, rfl⟩) l1 rfl rfl ?_
            refine g_ild (pc' := 71) cd_Le_hasFreshKeys rfl (Or.inl ⟨rfl, rfl⟩) l4 rfl ?_
            refine g_calli (pc' := 74) cd_Le_hasFreshKeys rfl rfl rfl rfl rfl (tm_invV rfl rfl cd_Te_markOf rfl (Nat.le_of_ble_eq_true rfl) (by decide) hT.1.1.1 hT.1.1.2) (t_markOf hT hrow.2.2.2.2.2.2.2.1 ?_)
            show bm_G _ _ _ 74 _ [.int (mk th)] B _
            refine g_ald (pc' := 75) cd_Le_hasFreshKeys rfl (Or.inr ⟨_, rfl, rfl, rfl⟩) l0 rfl rfl ?_
            refine g_fR (c := 4) (k := 2) (x := 14) (pc' := 78) cd_Le_hasFreshKeys rfl rfl rfl rfl rfl (by decide) hR.1.1.1 hR.1.1.2 hR.1.2.1.2.2.1 ?_
            refine g_ild (pc' := 79) cd_Le_hasFreshKeys rfl (Or.inr ⟨_, rfl, rfl, rfl⟩) l3 rfl ?_
            refine g_aI (x := (ll q)) (pc' := 80) cd_Le_hasFreshKeys rfl rfl hR.1.2.2.2.2.1.1 hR.1.2.2.2.2.1.2.1 (by rw [show bm_AL B 14 = 6 from hR.1.2.2.2.2.1.2.2]; exact vp_in_nI (by omega) (by decide)) (by rw [eq]; exact congrFun hR.2.1.2.1.2.1 q) ?_
            refine g_if2 (t := 112) (pc' := 83) cd_Le_hasFreshKeys rfl rfl rfl (fun c80 => ?_) (fun c80 => ?_)
            · have c80 : (mk th) < (ll q) := c80
              refine g_k1 (v := 0) (pc' := 113) cd_Le_hasFreshKeys rfl (by decide) rfl ?_
              exact g_retz cd_Le_hasFreshKeys rfl (Or.inl rfl) ⟨_, rfl, (bm_eq kk (by rw [show lt_fresh (se, nI r, nI q, gr, ma, on, mi, th, tk, sf) ll = false from by unfold lt_fresh; dsimp only; rw [eq, er]; simp [c31, c41, c47, c53]; exact fun h => absurd (Int32.not_lt.mpr h) (fun q => q c80)]; rfl))⟩
            · have c80 : ¬ (mk th) < (ll q) := c80
              refine g_ald (pc' := 84) cd_Le_hasFreshKeys rfl (Or.inr ⟨_, rfl, rfl, rfl⟩) l1 rfl rfl ?_
              refine g_ald (pc' := 85) cd_Le_hasFreshKeys rfl (Or.inr ⟨_, rfl, rfl, rfl⟩) l0 rfl rfl ?_
              refine g_ild (pc' := 86) cd_Le_hasFreshKeys rfl (Or.inr ⟨_, rfl, rfl, rfl⟩) l2 rfl ?_
              refine g_k2 (v := 6) (pc' := 88) cd_Le_hasFreshKeys rfl (by decide) rfl ?_
              refine g_calli (pc' := 91) cd_Le_hasFreshKeys rfl rfl rfl rfl rfl (tm_invV rfl rfl cd_Le_of rfl (Nat.le_of_ble_eq_true rfl) (by decide) hR.1.1.1 hR.1.1.2) (t_Lof (k := 6) hR hi (by decide) ?_)
              show bm_G _ _ _ 91 _ [.int ((bm_AI B 12 (i * 10 + 6))), .ref 1] B _
              refine g_calli (pc' := 94) cd_Le_hasFreshKeys rfl rfl rfl rfl rfl (tm_invV rfl rfl cd_Te_markOf rfl (Nat.le_of_ble_eq_true rfl) (by decide) hT.1.1.1 hT.1.1.2) (t_markOf hT hrow.2.2.2.2.2.2.1 ?_)
              show bm_G _ _ _ 94 _ [.int (mk mi)] B _
              refine g_ald (pc' := 95) cd_Le_hasFreshKeys rfl (Or.inr ⟨_, rfl, rfl, rfl⟩) l0 rfl rfl ?_
              refine g_fR (c := 4) (k := 2) (x := 14) (pc' := 98) cd_Le_hasFreshKeys rfl rfl rfl rfl rfl (by decide) hR.1.1.1 hR.1.1.2 hR.1.2.1.2.2.1 ?_
              refine g_ald (pc' := 99) cd_Le_hasFreshKeys rfl (Or.inr ⟨_, rfl, rfl, rfl⟩) l0 rfl rfl ?_
              refine g_ild (pc' := 100) cd_Le_hasFreshKeys rfl (Or.inr ⟨_, rfl, rfl, rfl⟩) l2 rfl ?_
              refine g_k1 (v := 1) (pc' := 101) cd_Le_hasFreshKeys rfl (by decide) rfl ?_
              refine g_calli (pc' := 104) cd_Le_hasFreshKeys rfl rfl rfl rfl rfl (tm_invV rfl rfl cd_Le_of rfl (Nat.le_of_ble_eq_true rfl) (by decide) hR.1.1.1 hR.1.1.2) (t_Lof (k := 1) hR hi (by decide) ?_)
              rw [show bm_AI B 12 (i * 10 + 1) = nI r from hrow.2.1]
              show bm_G _ _ _ 104 _ [.int (nI r), .ref 14, .int (mk mi)] B _
              refine g_aI (x := (ll r)) (pc' := 105) cd_Le_hasFreshKeys rfl rfl hR.1.2.2.2.2.1.1 hR.1.2.2.2.2.1.2.1 (by rw [show bm_AL B 14 = 6 from hR.1.2.2.2.2.1.2.2]; exact vp_in_nI (by omega) (by decide)) (by rw [er]; exact congrFun hR.2.1.2.1.2.1 r) ?_
              refine g_if2 (t := 112) (pc' := 108) cd_Le_hasFreshKeys rfl rfl rfl (fun c105 => ?_) (fun c105 => ?_)
              · have c105 : (mk mi) < (ll r) := c105
                refine g_k1 (v := 0) (pc' := 113) cd_Le_hasFreshKeys rfl (by decide) rfl ?_
                exact g_retz cd_Le_hasFreshKeys rfl (Or.inl rfl) ⟨_, rfl, (bm_eq kk (by rw [show lt_fresh (se, nI r, nI q, gr, ma, on, mi, th, tk, sf) ll = false from by unfold lt_fresh; dsimp only; rw [eq, er]; simp [c31, c41, c47, c53]; exact fun _ => c105]; rfl))⟩
              · have c105 : ¬ (mk mi) < (ll r) := c105
                refine g_k1 (v := 1) (pc' := 109) cd_Le_hasFreshKeys rfl (by decide) rfl ?_
                refine g_pure (pc' := 113) (st' := [.int 1]) cd_Le_hasFreshKeys rfl rfl (fun _ _ => rfl) ?_
                exact g_retz cd_Le_hasFreshKeys rfl (Or.inr rfl) ⟨_, rfl, (bm_eq kk (by rw [show lt_fresh (se, nI r, nI q, gr, ma, on, mi, th, tk, sf) ll = true from by unfold lt_fresh; dsimp only; rw [eq, er]; simp [c31, c41, c47, c53]; exact ⟨Int32.not_lt.mp c80, Int32.not_lt.mp c105⟩]; rfl))⟩
set_option maxRecDepth 100000 in
theorem t_sheltered {sc : tm_X} {d : Nat} {ca rm dr : Nat} {B : bm_H} {T : List Tm} {L : List LT} {bd ll tc tl tf tg : Nat → Int32} {cf cg : Int32} {ct : Tm} {co : Bool} {li fo db : Int32} {i : Nat} {se mi th : Tm} {fm to gr ma on tk sf : Int32} {Q : Int32 → bm_H → Prop} (hT : TI B 1 ca 3 4 rm dr T) (hR : RLe B T (L, bd, ll, tc, tl, tf, tg, cf, cg, ct, co, li, fo, db)) (he : L[i]? = some (se, fm, to, gr, ma, on, mi, th, tk, sf)) (hto : gr = -1 → ∃ q, q < 6 ∧ to = nI q) (hfm : ∃ r, r < 6 ∧ fm = nI r) (kk : Q (bz (lt_safe (se, fm, to, gr, ma, on, mi, th, tk, sf) ll li)) B) : bm_Gi sc (d + 3) 174 [.ref 11, .ref 1, .int (nI i)] B Q := by
  have h7 := hR.2.1.1.2
  have hi := (List.getElem?_eq_some_iff.mp he).1
  have hrow := hR.2.2.1 i _ he
  show bm_G sc (d + 3) 174 0 [(0, .ref 11), (1, .ref 1), (2, .int (nI i))] [] B _
  generalize elv : ([(0, .ref 11), (1, .ref 1), (2, .int (nI i))] : tm_L) = lv
  have l0 : lv.lookup 0 = some (.ref 11) := by rw [← elv]; rfl
  have l1 : lv.lookup 1 = some (.ref 1) := by rw [← elv]; rfl
  have l2 : lv.lookup 2 = some (.int (nI i)) := by rw [← elv]; rfl
  clear elv
  refine g_ald (pc' := 1) cd_Le_isSheltered rfl (Or.inr ⟨_, rfl, rfl, rfl⟩) l0 rfl rfl ?_
  refine g_ild (pc' := 2) cd_Le_isSheltered rfl (Or.inr ⟨_, rfl, rfl, rfl⟩) l2 rfl ?_
  refine g_k1 (v := 4) (pc' := 3) cd_Le_isSheltered rfl (by decide) rfl ?_
  refine g_calli (pc' := 6) cd_Le_isSheltered rfl rfl rfl rfl rfl (tm_invV rfl rfl cd_Le_of rfl (Nat.le_of_ble_eq_true rfl) (by decide) hR.1.1.1 hR.1.1.2) (t_Lof (k := 4) hR hi (by decide) ?_)
  rw [show bm_AI B 12 (i * 10 + 4) = ma from hrow.2.2.2.2.1]
  show bm_G _ _ _ 6 _ [.int ma] B _
  refine g_ist (pc' := 7) cd_Le_isSheltered rfl (Or.inr ⟨_, rfl, rfl, rfl⟩) (by decide) rfl (fun lv el => ?_)
  have l0 := tm_lk el l0 rfl (by decide)
  have l1 := tm_lk el l1 rfl (by decide)
  have l2 := tm_lk el l2 rfl (by decide)
  have l3 : lv.lookup 3 = some (.int ma) := tm_lks el
  clear el
  refine g_ald (pc' := 8) cd_Le_isSheltered rfl (Or.inr ⟨_, rfl, rfl, rfl⟩) l0 rfl rfl ?_
  refine g_ild (pc' := 9) cd_Le_isSheltered rfl (Or.inr ⟨_, rfl, rfl, rfl⟩) l2 rfl ?_
  refine g_k1 (v := 3) (pc' := 10) cd_Le_isSheltered rfl (by decide) rfl ?_
  refine g_calli (pc' := 13) cd_Le_isSheltered rfl rfl rfl rfl rfl (tm_invV rfl rfl cd_Le_of rfl (Nat.le_of_ble_eq_true rfl) (by decide) hR.1.1.1 hR.1.1.2) (t_Lof (k := 3) hR hi (by decide) ?_)
  rw [show bm_AI B 12 (i * 10 + 3) = gr from hrow.2.2.2.1]
  show bm_G _ _ _ 13 _ [.int gr] B _
  refine g_k1 (v := (-1)) (pc' := 14) cd_Le_isSheltered rfl (by decide) rfl ?_
  refine g_if2 (t := 46) (pc' := 17) cd_Le_isSheltered rfl rfl rfl (fun c14 => ?_) (fun c14 => ?_)
  · have c14 : gr = (-1) := c14
    refine g_ald (pc' := 47) cd_Le_isSheltered rfl (Or.inr ⟨_, rfl, rfl, rfl⟩) l0 rfl rfl ?_
    refine g_ild (pc' := 48) cd_Le_isSheltered rfl (Or.inr ⟨_, rfl, rfl, rfl⟩) l2 rfl ?_
    refine g_k2 (v := 9) (pc' := 50) cd_Le_isSheltered rfl (by decide) rfl ?_
    refine g_calli (pc' := 53) cd_Le_isSheltered rfl rfl rfl rfl rfl (tm_invV rfl rfl cd_Le_of rfl (Nat.le_of_ble_eq_true rfl) (by decide) hR.1.1.1 hR.1.1.2) (t_Lof (k := 9) hR hi (by decide) ?_)
    rw [show bm_AI B 12 (i * 10 + 9) = sf from hrow.2.2.2.2.2.2.2.2.2]
    show bm_G _ _ _ 53 _ [.int sf] B _
    refine g_ald (pc' := 54) cd_Le_isSheltered rfl (Or.inr ⟨_, rfl, rfl, rfl⟩) l0 rfl rfl ?_
    refine g_ild (pc' := 55) cd_Le_isSheltered rfl (Or.inr ⟨_, rfl, rfl, rfl⟩) l2 rfl ?_
    refine g_k1 (v := 2) (pc' := 56) cd_Le_isSheltered rfl (by decide) rfl ?_
    refine g_calli (pc' := 59) cd_Le_isSheltered rfl rfl rfl rfl rfl (tm_invV rfl rfl cd_Le_of rfl (Nat.le_of_ble_eq_true rfl) (by decide) hR.1.1.1 hR.1.1.2) (t_Lof (k := 2) hR hi (by decide) ?_)
    rw [show bm_AI B 12 (i * 10 + 2) = to from hrow.2.2.1]
    show bm_G _ _ _ 59 _ [.int to, .int sf] B _
    refine g_calli (pc' := 62) cd_Le_isSheltered rfl rfl rfl rfl rfl (tm_invS rfl rfl cd_Ho_hasBit rfl (Nat.le_of_ble_eq_true rfl)) (t_hasBit ?_)
    show bm_G _ _ _ 62 _ [.int (bz (hbit sf to))] B _
    refine g_ist (pc' := 64) cd_Le_isSheltered rfl (Or.inl ⟨rfl, rfl⟩) (by decide) rfl (fun lv el => ?_)
    have l0 := tm_lk el l0 rfl (by decide)
    have l1 := tm_lk el l1 rfl (by decide)
    have l2 := tm_lk el l2 rfl (by decide)
    have l3 := tm_lk el l3 rfl (by decide)
    have l4 : lv.lookup 4 = some (.int (bz (hbit sf to))) := tm_lks el
    clear el
    refine g_ald (pc' := 65) cd_Le_isSheltered rfl (Or.inr ⟨_, rfl, rfl, rfl⟩) l0 rfl rfl ?_
    refine g_ild (pc' := 66) cd_Le_isSheltered rfl (Or.inr ⟨_, rfl, rfl, rfl⟩) l2 rfl ?_
    refine g_k1 (v := 5) (pc' := 67) cd_Le_isSheltered rfl (by decide) rfl ?_
    refine g_calli (pc' := 70) cd_Le_isSheltered rfl rfl rfl rfl rfl (tm_invV rfl rfl cd_Le_of rfl (Nat.le_of_ble_eq_true rfl) (by decide) hR.1.1.1 hR.1.1.2) (t_Lof (k := 5) hR hi (by decide) ?_)
    rw [show bm_AI B 12 (i * 10 + 5) = on from hrow.2.2.2.2.2.1]
    show bm_G _ _ _ 70 _ [.int on] B _
    refine g_k1 (v := 1) (pc' := 71) cd_Le_isSheltered rfl (by decide) rfl ?_
    refine g_if2 (t := 79) (pc' := 74) cd_Le_isSheltered rfl rfl rfl (fun c71 => ?_) (fun c71 => ?_)
    · have c71 : ¬ on = 1 := c71
      refine g_ald (pc' := 80) cd_Le_isSheltered rfl (Or.inr ⟨_, rfl, rfl, rfl⟩) l0 rfl rfl ?_
      refine g_ald (pc' := 81) cd_Le_isSheltered rfl (Or.inr ⟨_, rfl, rfl, rfl⟩) l1 rfl rfl ?_
      refine g_ild (pc' := 82) cd_Le_isSheltered rfl (Or.inr ⟨_, rfl, rfl, rfl⟩) l2 rfl ?_
      obtain ⟨q, hq, eq⟩ := hto c14
      obtain ⟨r, hr, er⟩ := hfm
      refine g_calli (pc' := 85) cd_Le_isSheltered rfl rfl rfl rfl rfl (tm_invV rfl rfl cd_Le_hasFreshKeys rfl (Nat.le_of_ble_eq_true rfl) (by decide) hR.1.1.1 hR.1.1.2) (t_freshKeys (q := q) (r := r) hT hR (by rw [he, eq, er]) hq hr ?_)
      rw [← eq, ← er]
      show bm_G _ _ _ 85 _ [.int (bz (lt_fresh (se, fm, to, gr, ma, on, mi, th, tk, sf) ll))] B _
      refine g_if1 (t := 92) (pc' := 88) cd_Le_isSheltered rfl rfl rfl (fun c85 => ?_) (fun c85 => ?_)
      · have c85 : (lt_fresh (se, fm, to, gr, ma, on, mi, th, tk, sf) ll) = false := bz_f c85
        refine g_k1 (v := 0) (pc' := 93) cd_Le_isSheltered rfl (by decide) rfl ?_
        exact g_retz cd_Le_isSheltered rfl (Or.inl rfl) ⟨_, rfl, (bm_eq kk (by rw [show lt_safe (se, fm, to, gr, ma, on, mi, th, tk, sf) ll li = false from by unfold lt_safe; dsimp only; rw [if_pos c14, decide_eq_false c71, c85]; simp]; rfl))⟩
      · have c85 : (lt_fresh (se, fm, to, gr, ma, on, mi, th, tk, sf) ll) = true := bz_t c85
        refine g_k1 (v := 1) (pc' := 89) cd_Le_isSheltered rfl (by decide) rfl ?_
        refine g_pure (pc' := 93) (st' := [.int 1]) cd_Le_isSheltered rfl rfl (fun _ _ => rfl) ?_
        exact g_retz cd_Le_isSheltered rfl (Or.inr rfl) ⟨_, rfl, (bm_eq kk (by rw [show lt_safe (se, fm, to, gr, ma, on, mi, th, tk, sf) ll li = true from by unfold lt_safe; dsimp only; rw [if_pos c14, decide_eq_false c71, c85]; simp]; rfl))⟩
    · have c71 : on = 1 := Classical.not_not.mp c71
      refine g_ild (pc' := 76) cd_Le_isSheltered rfl (Or.inl ⟨rfl, rfl⟩) l4 rfl ?_
      refine g_if1 (t := 88) (pc' := 79) cd_Le_isSheltered rfl rfl rfl (fun c76 => ?_) (fun c76 => ?_)
      · have c76 : (hbit sf to) = true := bz_t c76
        refine g_k1 (v := 1) (pc' := 89) cd_Le_isSheltered rfl (by decide) rfl ?_
        refine g_pure (pc' := 93) (st' := [.int 1]) cd_Le_isSheltered rfl rfl (fun _ _ => rfl) ?_
        exact g_retz cd_Le_isSheltered rfl (Or.inr rfl) ⟨_, rfl, (bm_eq kk (by rw [show lt_safe (se, fm, to, gr, ma, on, mi, th, tk, sf) ll li = true from by unfold lt_safe; dsimp only; rw [if_pos c14, decide_eq_true c71, c76]; simp]; rfl))⟩
      · have c76 : (hbit sf to) = false := bz_f (Classical.not_not.mp c76)
        refine g_ald (pc' := 80) cd_Le_isSheltered rfl (Or.inr ⟨_, rfl, rfl, rfl⟩) l0 rfl rfl ?_
        refine g_ald (pc' := 81) cd_Le_isSheltered rfl (Or.inr ⟨_, rfl, rfl, rfl⟩) l1 rfl rfl ?_
        refine g_ild (pc' := 82) cd_Le_isSheltered rfl (Or.inr ⟨_, rfl, rfl, rfl⟩) l2 rfl ?_
        obtain ⟨q, hq, eq⟩ := hto c14
        obtain ⟨r, hr, er⟩ := hfm
        refine g_calli (pc' := 85) cd_Le_isSheltered rfl rfl rfl rfl rfl (tm_invV rfl rfl cd_Le_hasFreshKeys rfl (Nat.le_of_ble_eq_true rfl) (by decide) hR.1.1.1 hR.1.1.2) (t_freshKeys (q := q) (r := r) hT hR (by rw [he, eq, er]) hq hr ?_)
        rw [← eq, ← er]
        show bm_G _ _ _ 85 _ [.int (bz (lt_fresh (se, fm, to, gr, ma, on, mi, th, tk, sf) ll))] B _
        refine g_if1 (t := 92) (pc' := 88) cd_Le_isSheltered rfl rfl rfl (fun c85 => ?_) (fun c85 => ?_)
        · have c85 : (lt_fresh (se, fm, to, gr, ma, on, mi, th, tk, sf) ll) = false := bz_f c85
          refine g_k1 (v := 0) (pc' := 93) cd_Le_isSheltered rfl (by decide) rfl ?_
          exact g_retz cd_Le_isSheltered rfl (Or.inl rfl) ⟨_, rfl, (bm_eq kk (by rw [show lt_safe (se, fm, to, gr, ma, on, mi, th, tk, sf) ll li = false from by unfold lt_safe; dsimp only; rw [if_pos c14, decide_eq_true c71, c76, c85]; simp]; rfl))⟩
        · have c85 : (lt_fresh (se, fm, to, gr, ma, on, mi, th, tk, sf) ll) = true := bz_t c85
          refine g_k1 (v := 1) (pc' := 89) cd_Le_isSheltered rfl (by decide) rfl ?_
          refine g_pure (pc' := 93) (st' := [.int 1]) cd_Le_isSheltered rfl rfl (fun _ _ => rfl) ?_
          exact g_retz cd_Le_isSheltered rfl (Or.inr rfl) ⟨_, rfl, (bm_eq kk (by rw [show lt_safe (se, fm, to, gr, ma, on, mi, th, tk, sf) ll li = true from by unfold lt_safe; dsimp only; rw [if_pos c14, decide_eq_true c71, c76, c85]; simp]; rfl))⟩
  · have c14 : ¬ gr = (-1) := c14
    refine g_ild (pc' := 18) cd_Le_isSheltered rfl (Or.inr ⟨_, rfl, rfl, rfl⟩) l3 rfl ?_
    refine g_ald (pc' := 19) cd_Le_isSheltered rfl (Or.inr ⟨_, rfl, rfl, rfl⟩) l0 rfl rfl ?_
    refine g_fI (c := 4) (k := 12) (x := li) (pc' := 22) cd_Le_isSheltered rfl rfl rfl rfl rfl (by decide) hR.1.1.1 hR.1.1.2 hR.2.1.2.2.2.1 ?_
    refine g_pure (pc' := 23) (st' := [.int (ma &&& li)]) cd_Le_isSheltered rfl rfl (fun _ _ => rfl) ?_
    refine g_if1 (t := 40) (pc' := 26) cd_Le_isSheltered rfl rfl rfl (fun c23 => ?_) (fun c23 => ?_)
    · have c23 : (ma &&& li) = 0 := c23
      refine g_k1 (v := 1) (pc' := 41) cd_Le_isSheltered rfl (by decide) rfl ?_
      refine g_pure (pc' := 45) (st' := [.int 1]) cd_Le_isSheltered rfl rfl (fun _ _ => rfl) ?_
      exact g_retz cd_Le_isSheltered rfl (Or.inr rfl) ⟨_, rfl, (bm_eq kk (by rw [show lt_safe (se, fm, to, gr, ma, on, mi, th, tk, sf) ll li = true from by unfold lt_safe; dsimp only; rw [if_neg c14, decide_eq_true c23]; rfl]; rfl))⟩
    · have c23 : ¬ (ma &&& li) = 0 := c23
      refine g_ild (pc' := 27) cd_Le_isSheltered rfl (Or.inr ⟨_, rfl, rfl, rfl⟩) l3 rfl ?_
      refine g_ald (pc' := 28) cd_Le_isSheltered rfl (Or.inr ⟨_, rfl, rfl, rfl⟩) l0 rfl rfl ?_
      refine g_ild (pc' := 29) cd_Le_isSheltered rfl (Or.inr ⟨_, rfl, rfl, rfl⟩) l2 rfl ?_
      refine g_k2 (v := 9) (pc' := 31) cd_Le_isSheltered rfl (by decide) rfl ?_
      refine g_calli (pc' := 34) cd_Le_isSheltered rfl rfl rfl rfl rfl (tm_invV rfl rfl cd_Le_of rfl (Nat.le_of_ble_eq_true rfl) (by decide) hR.1.1.1 hR.1.1.2) (t_Lof (k := 9) hR hi (by decide) ?_)
      rw [show bm_AI B 12 (i * 10 + 9) = sf from hrow.2.2.2.2.2.2.2.2.2]
      show bm_G _ _ _ 34 _ [.int sf, .int ma] B _
      refine g_k1 (v := (-1)) (pc' := 35) cd_Le_isSheltered rfl (by decide) rfl ?_
      refine g_pure (pc' := 36) (st' := [.int (sf ^^^ (-1)), .int ma]) cd_Le_isSheltered rfl rfl (fun _ _ => rfl) ?_
      refine g_pure (pc' := 37) (st' := [.int (ma &&& (sf ^^^ (-1)))]) cd_Le_isSheltered rfl rfl (fun _ _ => rfl) ?_
      refine g_if1 (t := 44) (pc' := 40) cd_Le_isSheltered rfl rfl rfl (fun c37 => ?_) (fun c37 => ?_)
      · have c37 : ¬ (ma &&& (sf ^^^ (-1))) = 0 := c37
        refine g_k1 (v := 0) (pc' := 45) cd_Le_isSheltered rfl (by decide) rfl ?_
        exact g_retz cd_Le_isSheltered rfl (Or.inl rfl) ⟨_, rfl, (bm_eq kk (by rw [show lt_safe (se, fm, to, gr, ma, on, mi, th, tk, sf) ll li = false from by unfold lt_safe; dsimp only; rw [if_neg c14, decide_eq_false c23, decide_eq_false c37]; rfl]; rfl))⟩
      · have c37 : (ma &&& (sf ^^^ (-1))) = 0 := Classical.not_not.mp c37
        refine g_k1 (v := 1) (pc' := 41) cd_Le_isSheltered rfl (by decide) rfl ?_
        refine g_pure (pc' := 45) (st' := [.int 1]) cd_Le_isSheltered rfl rfl (fun _ _ => rfl) ?_
        exact g_retz cd_Le_isSheltered rfl (Or.inr rfl) ⟨_, rfl, (bm_eq kk (by rw [show lt_safe (se, fm, to, gr, ma, on, mi, th, tk, sf) ll li = true from by unfold lt_safe; dsimp only; rw [if_neg c14, decide_eq_false c23, decide_eq_true c37]; rfl]; rfl))⟩
