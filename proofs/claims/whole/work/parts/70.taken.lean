/-! Ledger: what is taken -/
def lg_get (L : List LT) (l : Int32) : Option LT := if inR l (nI L.length) = true then L[l.toNatClampNeg]? else none
def lt_so (e : LT) (cf cg d : Int32) : Bool := decide (e.2.1 = cf) && (decide (e.2.2.2.1 = cg) && (!decide (cg = -1) || decide (e.2.2.1 = d)))
def lt_take (e : LT) (b sb : Int32) : LT := match e with
  | (se, fm, to, gr, ma, on, mi, th, tk, sf) => (se, fm, to, gr, ma, on, mi, th, tk ||| b, sf ||| sb)
def lg_taken (G : LG) (p : Nat) : LG := match G with
  | (L, bd, ll, tc, tl, tf, tg, cf, cg, ct, co, li, fo, db) => match lg_get L (lg_with bd ct) with
    | none => (L, bd, ll, upd tc p (tc p + 1), upd tl p (lg_with bd ct), upd tf p cf, upd tg p cg, cf, cg, ct, co, li, (if hbit li (nI p) = true ∨ hbit li cf = true then fo else fo + 1), db)
    | some e => (L.set (lg_with bd ct).toNatClampNeg (lt_take e (1 <<< (nI p &&& 31)) (if lt_so e cf cg (nI p) = true ∧ co = true ∧ e.2.2.2.2.1 &&& li = 0 then 1 <<< (nI p &&& 31) else 0)), bd, ll, upd tc p (tc p + 1), upd tl p (lg_with bd ct), upd tf p cf, upd tg p cg, cf, cg, ct, co, li, (if hbit li (nI p) = true ∨ hbit li cf = true ∨ lt_so e cf cg (nI p) = true then fo else fo + 1), (if hbit li (nI p) = true ∨ hbit li cf = true ∨ hbit e.2.2.2.2.2.2.2.2.1 (nI p) = false then db else db + 1))
theorem lg_get_t {L : List LT} {i : Nat} {e : LT} (h : L[i]? = some e) (h7 : L.length ≤ 700) : lg_get L (nI i) = some e := by
  have hl := (List.getElem?_eq_some_iff.mp h).1
  unfold lg_get
  rw [if_pos (inR_nI hl (by omega)), nI_clamp (by omega), h]
theorem lg_get_f {L : List LT} {l : Int32} (h : inR l (nI L.length) = false) : lg_get L l = none := by
  unfold lg_get
  rw [h]; rfl
theorem lg_cases (L : List LT) (h7 : L.length ≤ 700) (l : Int32) : inR l (nI L.length) = false ∨ ∃ i e, l = nI i ∧ L[i]? = some e := by
  cases h : inR l (nI L.length)
  · exact Or.inl rfl
  · obtain ⟨i, hi, rfl⟩ := inR_of (by omega) h
    exact Or.inr ⟨i, L[i], rfl, List.getElem?_eq_getElem hi⟩
theorem t_sentSo {sc : tm_X} {d : Nat} {B : bm_H} {T : List Tm} {L : List LT} {bd ll tc tl tf tg : Nat → Int32} {cf cg : Int32} {ct : Tm} {co : Bool} {li fo db : Int32} {i : Nat} {se mi th : Tm} {fm to gr ma on tk sf : Int32} {x : Int32} {Q : Int32 → bm_H → Prop} (hR : RLe B T (L, bd, ll, tc, tl, tf, tg, cf, cg, ct, co, li, fo, db)) (he : L[i]? = some (se, fm, to, gr, ma, on, mi, th, tk, sf)) (kk : Q (bz (lt_so (se, fm, to, gr, ma, on, mi, th, tk, sf) cf cg x)) B) : bm_Gi sc (d + 2) 127 [.ref 11, .int (nI i), .int x] B Q := by
  have h7 := hR.2.1.1.2
  have hi := (List.getElem?_eq_some_iff.mp he).1
  have hrow := hR.2.2.1 i _ he
  show bm_G sc (d + 2) 127 0 [(0, .ref 11), (1, .int (nI i)), (2, .int x)] [] B _
  generalize elv : ([(0, .ref 11), (1, .int (nI i)), (2, .int x)] : tm_L) = lv
  have l0 : lv.lookup 0 = some (.ref 11) := by rw [← elv]; rfl
  have l1 : lv.lookup 1 = some (.int (nI i)) := by rw [← elv]; rfl
  have l2 : lv.lookup 2 = some (.int x) := by rw [← elv]; rfl
  clear elv
  refine g_ald (pc' := 1) cd_Le_isSentSo rfl (Or.inr ⟨_, rfl, rfl, rfl⟩) l0 rfl rfl ?_
  refine g_ild (pc' := 2) cd_Le_isSentSo rfl (Or.inr ⟨_, rfl, rfl, rfl⟩) l1 rfl ?_
  refine g_calli (pc' := 5) cd_Le_isSentSo rfl rfl rfl rfl rfl (tm_invV rfl rfl cd_Le_has rfl (Nat.le_of_ble_eq_true rfl) (by decide) hR.1.1.1 hR.1.1.2) (t_Lhas hR ?_)
  rw [inR_nI hi (by omega)]
  show bm_G _ _ _ _ _ (.int 1 :: _) _ _
  show bm_G _ _ _ 5 _ [.int 1] B _
  refine g_if1 (t := 34) (pc' := 8) cd_Le_isSentSo rfl rfl rfl (fun c5 => ?_) (fun c5 => ?_)
  · exact absurd (show (1 : Int32) = 0 from c5) (by decide)
  · have c5 : ¬ (1 : Int32) = 0 := c5
    refine g_ald (pc' := 9) cd_Le_isSentSo rfl (Or.inr ⟨_, rfl, rfl, rfl⟩) l0 rfl rfl ?_
    refine g_ild (pc' := 10) cd_Le_isSentSo rfl (Or.inr ⟨_, rfl, rfl, rfl⟩) l1 rfl ?_
    refine g_k1 (v := 1) (pc' := 11) cd_Le_isSentSo rfl (by decide) rfl ?_
    refine g_calli (pc' := 14) cd_Le_isSentSo rfl rfl rfl rfl rfl (tm_invV rfl rfl cd_Le_of rfl (Nat.le_of_ble_eq_true rfl) (by decide) hR.1.1.1 hR.1.1.2) (t_Lof (k := 1) hR hi (by decide) ?_)
    rw [show bm_AI B 12 (i * 10 + 1) = fm from hrow.2.1]
    show bm_G _ _ _ 14 _ [.int fm] B _
    refine g_ald (pc' := 15) cd_Le_isSentSo rfl (Or.inr ⟨_, rfl, rfl, rfl⟩) l0 rfl rfl ?_
    refine g_fI (c := 4) (k := 7) (x := cf) (pc' := 18) cd_Le_isSentSo rfl rfl rfl rfl rfl (by decide) hR.1.1.1 hR.1.1.2 hR.2.1.2.2.1.1 ?_
    refine g_if2 (t := 34) (pc' := 21) cd_Le_isSentSo rfl rfl rfl (fun c18 => ?_) (fun c18 => ?_)
    · have c18 : ¬ fm = cf := c18
      refine g_k1 (v := 0) (pc' := 35) cd_Le_isSentSo rfl (by decide) rfl ?_
      exact g_retz cd_Le_isSentSo rfl (Or.inl rfl) ⟨_, rfl, (bm_eq kk (by unfold lt_so; rw [decide_eq_false c18]; rfl))⟩
    · have c18 : fm = cf := Classical.not_not.mp c18
      refine g_ald (pc' := 22) cd_Le_isSentSo rfl (Or.inr ⟨_, rfl, rfl, rfl⟩) l0 rfl rfl ?_
      refine g_ild (pc' := 23) cd_Le_isSentSo rfl (Or.inr ⟨_, rfl, rfl, rfl⟩) l1 rfl ?_
      refine g_k1 (v := 3) (pc' := 24) cd_Le_isSentSo rfl (by decide) rfl ?_
      refine g_calli (pc' := 27) cd_Le_isSentSo rfl rfl rfl rfl rfl (tm_invV rfl rfl cd_Le_of rfl (Nat.le_of_ble_eq_true rfl) (by decide) hR.1.1.1 hR.1.1.2) (t_Lof (k := 3) hR hi (by decide) ?_)
      rw [show bm_AI B 12 (i * 10 + 3) = gr from hrow.2.2.2.1]
      show bm_G _ _ _ 27 _ [.int gr] B _
      refine g_ald (pc' := 28) cd_Le_isSentSo rfl (Or.inr ⟨_, rfl, rfl, rfl⟩) l0 rfl rfl ?_
      refine g_fI (c := 4) (k := 8) (x := cg) (pc' := 31) cd_Le_isSentSo rfl rfl rfl rfl rfl (by decide) hR.1.1.1 hR.1.1.2 hR.2.1.2.2.1.2.1 ?_
      refine g_if2 (t := 36) (pc' := 34) cd_Le_isSentSo rfl rfl rfl (fun c31 => ?_) (fun c31 => ?_)
      · have c31 : gr = cg := c31
        refine g_ald (pc' := 37) cd_Le_isSentSo rfl (Or.inr ⟨_, rfl, rfl, rfl⟩) l0 rfl rfl ?_
        refine g_fI (c := 4) (k := 8) (x := cg) (pc' := 40) cd_Le_isSentSo rfl rfl rfl rfl rfl (by decide) hR.1.1.1 hR.1.1.2 hR.2.1.2.2.1.2.1 ?_
        refine g_k1 (v := (-1)) (pc' := 41) cd_Le_isSentSo rfl (by decide) rfl ?_
        refine g_if2 (t := 54) (pc' := 44) cd_Le_isSentSo rfl rfl rfl (fun c41 => ?_) (fun c41 => ?_)
        · have c41 : ¬ cg = (-1) := c41
          refine g_k1 (v := 1) (pc' := 55) cd_Le_isSentSo rfl (by decide) rfl ?_
          refine g_pure (pc' := 59) (st' := [.int 1]) cd_Le_isSentSo rfl rfl (fun _ _ => rfl) ?_
          exact g_retz cd_Le_isSentSo rfl (Or.inr rfl) ⟨_, rfl, (bm_eq kk (by unfold lt_so; rw [decide_eq_true c18, decide_eq_true c31, decide_eq_false c41]; rfl))⟩
        · have c41 : cg = (-1) := Classical.not_not.mp c41
          refine g_ald (pc' := 45) cd_Le_isSentSo rfl (Or.inr ⟨_, rfl, rfl, rfl⟩) l0 rfl rfl ?_
          refine g_ild (pc' := 46) cd_Le_isSentSo rfl (Or.inr ⟨_, rfl, rfl, rfl⟩) l1 rfl ?_
          refine g_k1 (v := 2) (pc' := 47) cd_Le_isSentSo rfl (by decide) rfl ?_
          refine g_calli (pc' := 50) cd_Le_isSentSo rfl rfl rfl rfl rfl (tm_invV rfl rfl cd_Le_of rfl (Nat.le_of_ble_eq_true rfl) (by decide) hR.1.1.1 hR.1.1.2) (t_Lof (k := 2) hR hi (by decide) ?_)
          rw [show bm_AI B 12 (i * 10 + 2) = to from hrow.2.2.1]
          show bm_G _ _ _ 50 _ [.int to] B _
          refine g_ild (pc' := 51) cd_Le_isSentSo rfl (Or.inr ⟨_, rfl, rfl, rfl⟩) l2 rfl ?_
          refine g_if2 (t := 58) (pc' := 54) cd_Le_isSentSo rfl rfl rfl (fun c51 => ?_) (fun c51 => ?_)
          · have c51 : ¬ to = x := c51
            refine g_k1 (v := 0) (pc' := 59) cd_Le_isSentSo rfl (by decide) rfl ?_
            exact g_retz cd_Le_isSentSo rfl (Or.inl rfl) ⟨_, rfl, (bm_eq kk (by unfold lt_so; rw [decide_eq_true c18, decide_eq_true c31, decide_eq_true c41, decide_eq_false c51]; rfl))⟩
          · have c51 : to = x := Classical.not_not.mp c51
            refine g_k1 (v := 1) (pc' := 55) cd_Le_isSentSo rfl (by decide) rfl ?_
            refine g_pure (pc' := 59) (st' := [.int 1]) cd_Le_isSentSo rfl rfl (fun _ _ => rfl) ?_
            exact g_retz cd_Le_isSentSo rfl (Or.inr rfl) ⟨_, rfl, (bm_eq kk (by unfold lt_so; rw [decide_eq_true c18, decide_eq_true c31, decide_eq_true c41, decide_eq_true c51]; rfl))⟩
      · have c31 : ¬ gr = cg := c31
        refine g_k1 (v := 0) (pc' := 35) cd_Le_isSentSo rfl (by decide) rfl ?_
        exact g_retz cd_Le_isSentSo rfl (Or.inl rfl) ⟨_, rfl, (bm_eq kk (by unfold lt_so; rw [decide_eq_true c18, decide_eq_false c31]; rfl))⟩
theorem t_sentSo0 {sc : tm_X} {d : Nat} {B : bm_H} {T : List Tm} {L : List LT} {bd ll tc tl tf tg : Nat → Int32} {cf cg : Int32} {ct : Tm} {co : Bool} {li fo db : Int32} {x y : Int32} {Q : Int32 → bm_H → Prop} (hR : RLe B T (L, bd, ll, tc, tl, tf, tg, cf, cg, ct, co, li, fo, db)) (hi : inR y (nI L.length) = false) (kk : Q 0 B) : bm_Gi sc (d + 2) 127 [.ref 11, .int y, .int x] B Q := by
  show bm_G sc (d + 2) 127 0 [(0, .ref 11), (1, .int y), (2, .int x)] [] B _
  generalize elv : ([(0, .ref 11), (1, .int y), (2, .int x)] : tm_L) = lv
  have l0 : lv.lookup 0 = some (.ref 11) := by rw [← elv]; rfl
  have l1 : lv.lookup 1 = some (.int y) := by rw [← elv]; rfl
  have l2 : lv.lookup 2 = some (.int x) := by rw [← elv]; rfl
  clear elv
  refine g_ald (pc' := 1) cd_Le_isSentSo rfl (Or.inr ⟨_, rfl, rfl, rfl⟩) l0 rfl rfl ?_
  refine g_ild (pc' := 2) cd_Le_isSentSo rfl (Or.inr ⟨_, rfl, rfl, rfl⟩) l1 rfl ?_
  refine g_calli (pc' := 5) cd_Le_isSentSo rfl rfl rfl rfl rfl (tm_invV rfl rfl cd_Le_has rfl (Nat.le_of_ble_eq_true rfl) (by decide) hR.1.1.1 hR.1.1.2) (t_Lhas hR ?_)
  rw [hi]
  show bm_G _ _ _ _ _ (.int 0 :: _) _ _
  show bm_G _ _ _ 5 _ [.int 0] B _
  refine g_if1 (t := 34) (pc' := 8) cd_Le_isSentSo rfl rfl rfl (fun c5 => ?_) (fun c5 => ?_)
  · have c5 : (0 : Int32) = 0 := c5
    refine g_k1 (v := 0) (pc' := 35) cd_Le_isSentSo rfl (by decide) rfl ?_
    exact g_retz cd_Le_isSentSo rfl (Or.inl rfl) ⟨_, rfl, kk⟩
  · exact absurd (show ¬ (0 : Int32) = 0 from c5) (by decide)
set_option maxRecDepth 100000 in
theorem t_noteTaken1 {sc : tm_X} {d : Nat} {ca rm dr : Nat} {B : bm_H} {T : List Tm} {L : List LT} {bd ll tc tl tf tg : Nat → Int32} {cf cg : Int32} {ct : Tm} {co : Bool} {li fo db : Int32} {i : Nat} {se mi th : Tm} {fm to gr ma on tk sf : Int32} {p : Nat} {Q : bm_H → Prop} (hT : TI B 1 ca 3 4 rm dr T) (hR : RLe B T (L, bd, ll, tc, tl, tf, tg, cf, cg, ct, co, li, fo, db)) (hp : p < 6) (hl : lg_with bd ct = nI i) (he : L[i]? = some (se, fm, to, gr, ma, on, mi, th, tk, sf)) (kk : ∀ B', RLe B' T (lg_taken (L, bd, ll, tc, tl, tf, tg, cf, cg, ct, co, li, fo, db) p) → fz lex B B' → Q B') : bm_Gv sc (d + 3) 125 [.ref 11, .ref 1, .int (nI p)] B Q := by
  have h7 := hR.2.1.1.2
  have hi := (List.getElem?_eq_some_iff.mp he).1
  obtain ⟨so, hso⟩ : ∃ so, so = lt_so (se, fm, to, gr, ma, on, mi, th, tk, sf) cf cg (nI p) := ⟨_, rfl⟩
  show bm_G sc (d + 3) 125 0 [(0, .ref 11), (1, .ref 1), (2, .int (nI p))] [] B _
  generalize elv : ([(0, .ref 11), (1, .ref 1), (2, .int (nI p))] : tm_L) = lv
  have l0 : lv.lookup 0 = some (.ref 11) := by rw [← elv]; rfl
  have l1 : lv.lookup 1 = some (.ref 1) := by rw [← elv]; rfl
  have l2 : lv.lookup 2 = some (.int (nI p)) := by rw [← elv]; rfl
  clear elv
  refine g_ald (pc' := 1) cd_Le_noteTaken rfl (Or.inr ⟨_, rfl, rfl, rfl⟩) l0 rfl rfl ?_
  refine g_ald (pc' := 2) cd_Le_noteTaken rfl (Or.inr ⟨_, rfl, rfl, rfl⟩) l1 rfl rfl ?_
  refine g_ald (pc' := 3) cd_Le_noteTaken rfl (Or.inr ⟨_, rfl, rfl, rfl⟩) l0 rfl rfl ?_
  refine g_fI (c := 4) (k := 9) (x := (bm_FI B 4 9 11)) (pc' := 6) cd_Le_noteTaken rfl rfl rfl rfl rfl (by decide) hR.1.1.1 hR.1.1.2 rfl ?_
  refine g_calli (pc' := 9) cd_Le_noteTaken rfl rfl rfl rfl rfl (tm_invV rfl rfl cd_Le_letterWith rfl (Nat.le_of_ble_eq_true rfl) (by decide) hR.1.1.1 hR.1.1.2) (t_letterWith hT hR hR.2.1.2.2.1.2.2.1 ?_)
  rw [hl]
  show bm_G _ _ _ 9 _ [.int (nI i)] B _
  refine g_ist (pc' := 10) cd_Le_noteTaken rfl (Or.inr ⟨_, rfl, rfl, rfl⟩) (by decide) rfl (fun lv el => ?_)
  have l0 := tm_lk el l0 rfl (by decide)
  have l1 := tm_lk el l1 rfl (by decide)
  have l2 := tm_lk el l2 rfl (by decide)
  have l3 : lv.lookup 3 = some (.int (nI i)) := tm_lks el
  clear el
  refine g_ald (pc' := 11) cd_Le_noteTaken rfl (Or.inr ⟨_, rfl, rfl, rfl⟩) l0 rfl rfl ?_
  refine g_ild (pc' := 12) cd_Le_noteTaken rfl (Or.inr ⟨_, rfl, rfl, rfl⟩) l3 rfl ?_
  refine g_ild (pc' := 13) cd_Le_noteTaken rfl (Or.inr ⟨_, rfl, rfl, rfl⟩) l2 rfl ?_
  refine g_calli (pc' := 16) cd_Le_noteTaken rfl rfl rfl rfl rfl (tm_invV rfl rfl cd_Le_isSentSo rfl (Nat.le_of_ble_eq_true rfl) (by decide) hR.1.1.1 hR.1.1.2) (t_sentSo hR he ?_)
  rw [← hso]
  show bm_G _ _ _ 16 _ [.int (bz so)] B _
  refine g_ist (pc' := 18) cd_Le_noteTaken rfl (Or.inl ⟨rfl, rfl⟩) (by decide) rfl (fun lv el => ?_)
  have l0 := tm_lk el l0 rfl (by decide)
  have l1 := tm_lk el l1 rfl (by decide)
  have l2 := tm_lk el l2 rfl (by decide)
  have l3 := tm_lk el l3 rfl (by decide)
  have l4 : lv.lookup 4 = some (.int (bz so)) := tm_lks el
  clear el
  refine g_ald (pc' := 19) cd_Le_noteTaken rfl (Or.inr ⟨_, rfl, rfl, rfl⟩) l0 rfl rfl ?_
  refine g_fI (c := 4) (k := 12) (x := li) (pc' := 22) cd_Le_noteTaken rfl rfl rfl rfl rfl (by decide) hR.1.1.1 hR.1.1.2 hR.2.1.2.2.2.1 ?_
  refine g_ild (pc' := 23) cd_Le_noteTaken rfl (Or.inr ⟨_, rfl, rfl, rfl⟩) l2 rfl ?_
  refine g_calli (pc' := 26) cd_Le_noteTaken rfl rfl rfl rfl rfl (tm_invS rfl rfl cd_Ho_hasBit rfl (Nat.le_of_ble_eq_true rfl)) (t_hasBit ?_)
  show bm_G _ _ _ 26 _ [.int (bz (hbit li (nI p)))] B _
  refine g_if1 (t := 90) (pc' := 29) cd_Le_noteTaken rfl rfl rfl (fun c26 => ?_) (fun c26 => ?_)
  · have c26 : (hbit li (nI p)) = true := bz_t c26
    have n26 := c26
    refine g_ald (pc' := 91) cd_Le_noteTaken rfl (Or.inr ⟨_, rfl, rfl, rfl⟩) l0 rfl rfl ?_
    refine g_ild (pc' := 92) cd_Le_noteTaken rfl (Or.inr ⟨_, rfl, rfl, rfl⟩) l3 rfl ?_
    refine g_calli (pc' := 95) cd_Le_noteTaken rfl rfl rfl rfl rfl (tm_invV rfl rfl cd_Le_has rfl (Nat.le_of_ble_eq_true rfl) (by decide) hR.1.1.1 hR.1.1.2) (t_Lhas hR ?_)
    rw [inR_nI hi (by omega)]
    show bm_G _ _ _ _ _ (.int 1 :: _) _ _
    show bm_G _ _ _ 95 _ [.int 1] B _
    refine g_if1 (t := 116) (pc' := 98) cd_Le_noteTaken rfl rfl rfl (fun c95 => ?_) (fun c95 => ?_)
    · exact absurd (show (1 : Int32) = 0 from c95) (by decide)
    · have c95 : ¬ (1 : Int32) = 0 := c95
      refine g_ald (pc' := 99) cd_Le_noteTaken rfl (Or.inr ⟨_, rfl, rfl, rfl⟩) l0 rfl rfl ?_
      refine g_fR (c := 4) (k := 0) (x := 12) (pc' := 102) cd_Le_noteTaken rfl rfl rfl rfl rfl (by decide) hR.1.1.1 hR.1.1.2 hR.1.2.1.1 ?_
      refine g_ild (pc' := 103) cd_Le_noteTaken rfl (Or.inr ⟨_, rfl, rfl, rfl⟩) l3 rfl ?_
      refine g_k2 (v := 10) (pc' := 105) cd_Le_noteTaken rfl (by decide) rfl ?_
      refine g_pure (pc' := 106) (st' := [.int ((nI i) * 10), .ref 12]) cd_Le_noteTaken rfl rfl (fun _ _ => rfl) ?_
      rw [show ((nI i) * 10 : Int32) = nI (i * 10) from pk_mul i 10]
      refine g_k2 (v := 8) (pc' := 108) cd_Le_noteTaken rfl (by decide) rfl ?_
      refine g_pure (pc' := 109) (st' := [.int ((nI (i * 10)) + 8), .ref 12]) cd_Le_noteTaken rfl rfl (fun _ _ => rfl) ?_
      rw [show ((nI (i * 10)) + 8 : Int32) = nI ((i * 10) + 8) from nI_add (i * 10) 8]
      refine g_pure (pc' := 110) (st' := [.int (nI ((i * 10) + 8)), .ref 12, .int (nI ((i * 10) + 8)), .ref 12]) cd_Le_noteTaken rfl rfl (fun _ _ => rfl) ?_
      refine g_aI (x := tk) (pc' := 111) cd_Le_noteTaken rfl rfl hR.1.2.2.1.1 hR.1.2.2.1.2.1 (by rw [show bm_AL B 12 = 7000 from hR.1.2.2.1.2.2]; exact vp_in_nI (by omega) (by decide)) (by rw [nI_clamp (by omega)]; exact (hR.2.2.1 i _ he).2.2.2.2.2.2.2.2.1) ?_
      refine g_k1 (v := 1) (pc' := 112) cd_Le_noteTaken rfl (by decide) rfl ?_
      refine g_ild (pc' := 113) cd_Le_noteTaken rfl (Or.inr ⟨_, rfl, rfl, rfl⟩) l2 rfl ?_
      refine g_pure (pc' := 114) (st' := [.int (1 <<< ((nI p) &&& 31)), .int tk, .int (nI ((i * 10) + 8)), .ref 12]) cd_Le_noteTaken rfl rfl (fun _ _ => rfl) ?_
      refine g_pure (pc' := 115) (st' := [.int (tk ||| (1 <<< ((nI p) &&& 31))), .int (nI ((i * 10) + 8)), .ref 12]) cd_Le_noteTaken rfl rfl (fun _ _ => rfl) ?_
      refine g_iast (pc' := 116) cd_Le_noteTaken rfl rfl hR.1.2.2.1.1 hR.1.2.2.1.2.1 (by rw [show bm_AL B 12 = 7000 from hR.1.2.2.1.2.2]; exact vp_in_nI (by omega) (by decide)) ?_
      rw [show (nI ((i * 10) + 8) : Int32).toNatClampNeg = ((i * 10) + 8) from nI_clamp (by omega)]
      have A1 : bm_AI (bm_setI B 12 ((i * 10) + 8) (tk ||| (1 <<< ((nI p) &&& 31)))) 12 = (upd (bm_AI B 12) ((i * 10) + 8) (tk ||| (1 <<< ((nI p) &&& 31)))) := ((AI_set B 12 ((i * 10) + 8) (tk ||| (1 <<< ((nI p) &&& 31)))).trans (congrArg (fun f => upd f ((i * 10) + 8) (tk ||| (1 <<< ((nI p) &&& 31)))) (show bm_AI B 12 = (bm_AI B 12) from rfl)))
      have A2 : bm_AI (bm_setI B 12 ((i * 10) + 8) (tk ||| (1 <<< ((nI p) &&& 31)))) 13 = bd := ((AI_setn B ((i * 10) + 8) (tk ||| (1 <<< ((nI p) &&& 31))) 13 (by decide)).trans (show bm_AI B 13 = bd from hR.2.1.2.1.1))
      have A3 : bm_AI (bm_setI B 12 ((i * 10) + 8) (tk ||| (1 <<< ((nI p) &&& 31)))) 14 = ll := ((AI_setn B ((i * 10) + 8) (tk ||| (1 <<< ((nI p) &&& 31))) 14 (by decide)).trans (show bm_AI B 14 = ll from hR.2.1.2.1.2.1))
      have A4 : bm_AI (bm_setI B 12 ((i * 10) + 8) (tk ||| (1 <<< ((nI p) &&& 31)))) 15 = tc := ((AI_setn B ((i * 10) + 8) (tk ||| (1 <<< ((nI p) &&& 31))) 15 (by decide)).trans (show bm_AI B 15 = tc from hR.2.1.2.1.2.2.1))
      have A5 : bm_AI (bm_setI B 12 ((i * 10) + 8) (tk ||| (1 <<< ((nI p) &&& 31)))) 16 = tl := ((AI_setn B ((i * 10) + 8) (tk ||| (1 <<< ((nI p) &&& 31))) 16 (by decide)).trans (show bm_AI B 16 = tl from hR.2.1.2.1.2.2.2.1))
      have A6 : bm_AI (bm_setI B 12 ((i * 10) + 8) (tk ||| (1 <<< ((nI p) &&& 31)))) 17 = tf := ((AI_setn B ((i * 10) + 8) (tk ||| (1 <<< ((nI p) &&& 31))) 17 (by decide)).trans (show bm_AI B 17 = tf from hR.2.1.2.1.2.2.2.2.1))
      have A7 : bm_AI (bm_setI B 12 ((i * 10) + 8) (tk ||| (1 <<< ((nI p) &&& 31)))) 18 = tg := ((AI_setn B ((i * 10) + 8) (tk ||| (1 <<< ((nI p) &&& 31))) 18 (by decide)).trans (show bm_AI B 18 = tg from hR.2.1.2.1.2.2.2.2.2))
      have Z8 : fz lex B (bm_setI B 12 ((i * 10) + 8) (tk ||| (1 <<< ((nI p) &&& 31)))) := fz_trans (fz_rfl _ B) ⟨fr_mono (fun _ q => by unfold lex; omega) (fr_setI _ 12 _ _), rfl, rfl⟩
      have hR10 : RLe (bm_setI B 12 ((i * 10) + 8) (tk ||| (1 <<< ((nI p) &&& 31)))) T ((L.set i (se, fm, to, gr, ma, on, mi, th, (tk ||| (1 <<< (nI p &&& 31))), sf)), bd, ll, tc, tl, tf, tg, cf, cg, ct, co, li, fo, db) := ⟨LgS_fr hR.1 Z8.1, ⟨⟨(hR.2.1.1.1).trans (by simp), (by have := hR.2.1.1.2; simpa using this)⟩, ⟨A2, A3, A4, A5, A6, A7⟩, hR.2.1.2.2⟩, (RLc_set (i := i) hR.2.2 he (fun j h8 h9 => by rw [show bm_AI (bm_setI B 12 ((i * 10) + 8) (tk ||| (1 <<< ((nI p) &&& 31)))) 12 = _ from A1]; exact pk_un (by omega)) (by rw [show bm_AI (bm_setI B 12 ((i * 10) + 8) (tk ||| (1 <<< ((nI p) &&& 31)))) 12 = _ from A1]; exact if_pos rfl) (by rw [show bm_AI (bm_setI B 12 ((i * 10) + 8) (tk ||| (1 <<< ((nI p) &&& 31)))) 12 = _ from A1]; exact (pk_un (by omega)).trans ((hR.2.2.1 i _ he).2.2.2.2.2.2.2.2.2)))⟩
      have hz10 : fz lex B (bm_setI B 12 ((i * 10) + 8) (tk ||| (1 <<< ((nI p) &&& 31)))) := Z8
      generalize (bm_setI B 12 ((i * 10) + 8) (tk ||| (1 <<< ((nI p) &&& 31)))) = B10 at hR10 hz10 ⊢
      have he9 : (L.set i (se, fm, to, gr, ma, on, mi, th, (tk ||| (1 <<< (nI p &&& 31))), sf))[i]? = some (se, fm, to, gr, ma, on, mi, th, (tk ||| (1 <<< (nI p &&& 31))), sf) := List.getElem?_set_self hi
      have hi9 : i < (L.set i (se, fm, to, gr, ma, on, mi, th, (tk ||| (1 <<< (nI p &&& 31))), sf)).length := by have := hi; simpa using this
      refine g_ild (pc' := 118) cd_Le_noteTaken rfl (Or.inl ⟨rfl, rfl⟩) l4 rfl ?_
      refine g_if1 (t := 160) (pc' := 121) cd_Le_noteTaken rfl rfl rfl (fun c118 => ?_) (fun c118 => ?_)
      · have c118 : so = false := bz_f c118
        have n118 := c118
        refine g_ald (pc' := 161) cd_Le_noteTaken rfl (Or.inr ⟨_, rfl, rfl, rfl⟩) l0 rfl rfl ?_
        refine g_fR (c := 4) (k := 3) (x := 15) (pc' := 164) cd_Le_noteTaken rfl rfl rfl rfl rfl (by decide) hR10.1.1.1 hR10.1.1.2 hR10.1.2.1.2.2.2.1 ?_
        refine g_ild (pc' := 165) cd_Le_noteTaken rfl (Or.inr ⟨_, rfl, rfl, rfl⟩) l2 rfl ?_
        refine g_pure (pc' := 166) (st' := [.int (nI p), .ref 15, .int (nI p), .ref 15]) cd_Le_noteTaken rfl rfl (fun _ _ => rfl) ?_
        refine g_aI (x := (tc p)) (pc' := 167) cd_Le_noteTaken rfl rfl hR10.1.2.2.2.2.2.1.1 hR10.1.2.2.2.2.2.1.2.1 (by rw [show bm_AL B10 15 = 6 from hR10.1.2.2.2.2.2.1.2.2]; exact vp_in_nI (by omega) (by decide)) (by rw [nI_clamp (by omega)]; exact congrFun (show bm_AI B10 15 = tc from hR10.2.1.2.1.2.2.1) p) ?_
        refine g_k1 (v := 1) (pc' := 168) cd_Le_noteTaken rfl (by decide) rfl ?_
        refine g_pure (pc' := 169) (st' := [.int ((tc p) + 1), .int (nI p), .ref 15]) cd_Le_noteTaken rfl rfl (fun _ _ => rfl) ?_
        refine g_iast (pc' := 170) cd_Le_noteTaken rfl rfl hR10.1.2.2.2.2.2.1.1 hR10.1.2.2.2.2.2.1.2.1 (by rw [show bm_AL B10 15 = 6 from hR10.1.2.2.2.2.2.1.2.2]; exact vp_in_nI (by omega) (by decide)) ?_
        rw [show (nI p : Int32).toNatClampNeg = p from nI_clamp (by omega)]
        have A11 : bm_AI (bm_setI B10 15 p ((tc p) + 1)) 12 = (bm_AI B10 12) := ((AI_setn B10 p ((tc p) + 1) 12 (by decide)).trans (show bm_AI B10 12 = (bm_AI B10 12) from rfl))
        have A12 : bm_AI (bm_setI B10 15 p ((tc p) + 1)) 13 = bd := ((AI_setn B10 p ((tc p) + 1) 13 (by decide)).trans (show bm_AI B10 13 = bd from hR10.2.1.2.1.1))
        have A13 : bm_AI (bm_setI B10 15 p ((tc p) + 1)) 14 = ll := ((AI_setn B10 p ((tc p) + 1) 14 (by decide)).trans (show bm_AI B10 14 = ll from hR10.2.1.2.1.2.1))
        have A14 : bm_AI (bm_setI B10 15 p ((tc p) + 1)) 15 = (upd tc p ((tc p) + 1)) := ((AI_set B10 15 p ((tc p) + 1)).trans (congrArg (fun f => upd f p ((tc p) + 1)) (show bm_AI B10 15 = tc from hR10.2.1.2.1.2.2.1)))
        have A15 : bm_AI (bm_setI B10 15 p ((tc p) + 1)) 16 = tl := ((AI_setn B10 p ((tc p) + 1) 16 (by decide)).trans (show bm_AI B10 16 = tl from hR10.2.1.2.1.2.2.2.1))
        have A16 : bm_AI (bm_setI B10 15 p ((tc p) + 1)) 17 = tf := ((AI_setn B10 p ((tc p) + 1) 17 (by decide)).trans (show bm_AI B10 17 = tf from hR10.2.1.2.1.2.2.2.2.1))
        have A17 : bm_AI (bm_setI B10 15 p ((tc p) + 1)) 18 = tg := ((AI_setn B10 p ((tc p) + 1) 18 (by decide)).trans (show bm_AI B10 18 = tg from hR10.2.1.2.1.2.2.2.2.2))
        have Z18 : fz lex B10 (bm_setI B10 15 p ((tc p) + 1)) := fz_trans (fz_rfl _ B10) ⟨fr_mono (fun _ q => by unfold lex; omega) (fr_setI _ 15 _ _), rfl, rfl⟩
        refine g_ald (pc' := 171) cd_Le_noteTaken rfl (Or.inr ⟨_, rfl, rfl, rfl⟩) l0 rfl rfl ?_
        refine g_fR (c := 4) (k := 4) (x := 16) (pc' := 174) cd_Le_noteTaken rfl rfl rfl rfl rfl (by decide) hR10.1.1.1 hR10.1.1.2 hR10.1.2.1.2.2.2.2.1 ?_
        refine g_ild (pc' := 175) cd_Le_noteTaken rfl (Or.inr ⟨_, rfl, rfl, rfl⟩) l2 rfl ?_
        refine g_ild (pc' := 176) cd_Le_noteTaken rfl (Or.inr ⟨_, rfl, rfl, rfl⟩) l3 rfl ?_
        refine g_iast (pc' := 177) cd_Le_noteTaken rfl rfl hR10.1.2.2.2.2.2.2.1.1 hR10.1.2.2.2.2.2.2.1.2.1 (by rw [show bm_AL (bm_setI B10 15 p ((tc p) + 1)) 16 = 6 from hR10.1.2.2.2.2.2.2.1.2.2]; exact vp_in_nI (by omega) (by decide)) ?_
        rw [show (nI p : Int32).toNatClampNeg = p from nI_clamp (by omega)]
        have A19 : bm_AI (bm_setI (bm_setI B10 15 p ((tc p) + 1)) 16 p (nI i)) 12 = (bm_AI B10 12) := ((AI_setn (bm_setI B10 15 p ((tc p) + 1)) p (nI i) 12 (by decide)).trans (show bm_AI (bm_setI B10 15 p ((tc p) + 1)) 12 = (bm_AI B10 12) from A11))
        have A20 : bm_AI (bm_setI (bm_setI B10 15 p ((tc p) + 1)) 16 p (nI i)) 13 = bd := ((AI_setn (bm_setI B10 15 p ((tc p) + 1)) p (nI i) 13 (by decide)).trans (show bm_AI (bm_setI B10 15 p ((tc p) + 1)) 13 = bd from A12))
        have A21 : bm_AI (bm_setI (bm_setI B10 15 p ((tc p) + 1)) 16 p (nI i)) 14 = ll := ((AI_setn (bm_setI B10 15 p ((tc p) + 1)) p (nI i) 14 (by decide)).trans (show bm_AI (bm_setI B10 15 p ((tc p) + 1)) 14 = ll from A13))
        have A22 : bm_AI (bm_setI (bm_setI B10 15 p ((tc p) + 1)) 16 p (nI i)) 15 = (upd tc p ((tc p) + 1)) := ((AI_setn (bm_setI B10 15 p ((tc p) + 1)) p (nI i) 15 (by decide)).trans (show bm_AI (bm_setI B10 15 p ((tc p) + 1)) 15 = (upd tc p ((tc p) + 1)) from A14))
        have A23 : bm_AI (bm_setI (bm_setI B10 15 p ((tc p) + 1)) 16 p (nI i)) 16 = (upd tl p (nI i)) := ((AI_set (bm_setI B10 15 p ((tc p) + 1)) 16 p (nI i)).trans (congrArg (fun f => upd f p (nI i)) (show bm_AI (bm_setI B10 15 p ((tc p) + 1)) 16 = tl from A15)))
        have A24 : bm_AI (bm_setI (bm_setI B10 15 p ((tc p) + 1)) 16 p (nI i)) 17 = tf := ((AI_setn (bm_setI B10 15 p ((tc p) + 1)) p (nI i) 17 (by decide)).trans (show bm_AI (bm_setI B10 15 p ((tc p) + 1)) 17 = tf from A16))
        have A25 : bm_AI (bm_setI (bm_setI B10 15 p ((tc p) + 1)) 16 p (nI i)) 18 = tg := ((AI_setn (bm_setI B10 15 p ((tc p) + 1)) p (nI i) 18 (by decide)).trans (show bm_AI (bm_setI B10 15 p ((tc p) + 1)) 18 = tg from A17))
        have Z26 : fz lex B10 (bm_setI (bm_setI B10 15 p ((tc p) + 1)) 16 p (nI i)) := fz_trans Z18 ⟨fr_mono (fun _ q => by unfold lex; omega) (fr_setI _ 16 _ _), rfl, rfl⟩
        refine g_ald (pc' := 178) cd_Le_noteTaken rfl (Or.inr ⟨_, rfl, rfl, rfl⟩) l0 rfl rfl ?_
        refine g_fR (c := 4) (k := 5) (x := 17) (pc' := 181) cd_Le_noteTaken rfl rfl rfl rfl rfl (by decide) hR10.1.1.1 hR10.1.1.2 hR10.1.2.1.2.2.2.2.2.1 ?_
        refine g_ild (pc' := 182) cd_Le_noteTaken rfl (Or.inr ⟨_, rfl, rfl, rfl⟩) l2 rfl ?_
        refine g_ald (pc' := 183) cd_Le_noteTaken rfl (Or.inr ⟨_, rfl, rfl, rfl⟩) l0 rfl rfl ?_
        refine g_fI (c := 4) (k := 7) (x := cf) (pc' := 186) cd_Le_noteTaken rfl rfl rfl rfl rfl (by decide) hR10.1.1.1 hR10.1.1.2 hR10.2.1.2.2.1.1 ?_
        refine g_iast (pc' := 187) cd_Le_noteTaken rfl rfl hR10.1.2.2.2.2.2.2.2.1.1 hR10.1.2.2.2.2.2.2.2.1.2.1 (by rw [show bm_AL (bm_setI (bm_setI B10 15 p ((tc p) + 1)) 16 p (nI i)) 17 = 6 from hR10.1.2.2.2.2.2.2.2.1.2.2]; exact vp_in_nI (by omega) (by decide)) ?_
        rw [show (nI p : Int32).toNatClampNeg = p from nI_clamp (by omega)]
        have A27 : bm_AI (bm_setI (bm_setI (bm_setI B10 15 p ((tc p) + 1)) 16 p (nI i)) 17 p cf) 12 = (bm_AI B10 12) := ((AI_setn (bm_setI (bm_setI B10 15 p ((tc p) + 1)) 16 p (nI i)) p cf 12 (by decide)).trans (show bm_AI (bm_setI (bm_setI B10 15 p ((tc p) + 1)) 16 p (nI i)) 12 = (bm_AI B10 12) from A19))
        have A28 : bm_AI (bm_setI (bm_setI (bm_setI B10 15 p ((tc p) + 1)) 16 p (nI i)) 17 p cf) 13 = bd := ((AI_setn (bm_setI (bm_setI B10 15 p ((tc p) + 1)) 16 p (nI i)) p cf 13 (by decide)).trans (show bm_AI (bm_setI (bm_setI B10 15 p ((tc p) + 1)) 16 p (nI i)) 13 = bd from A20))
        have A29 : bm_AI (bm_setI (bm_setI (bm_setI B10 15 p ((tc p) + 1)) 16 p (nI i)) 17 p cf) 14 = ll := ((AI_setn (bm_setI (bm_setI B10 15 p ((tc p) + 1)) 16 p (nI i)) p cf 14 (by decide)).trans (show bm_AI (bm_setI (bm_setI B10 15 p ((tc p) + 1)) 16 p (nI i)) 14 = ll from A21))
        have A30 : bm_AI (bm_setI (bm_setI (bm_setI B10 15 p ((tc p) + 1)) 16 p (nI i)) 17 p cf) 15 = (upd tc p ((tc p) + 1)) := ((AI_setn (bm_setI (bm_setI B10 15 p ((tc p) + 1)) 16 p (nI i)) p cf 15 (by decide)).trans (show bm_AI (bm_setI (bm_setI B10 15 p ((tc p) + 1)) 16 p (nI i)) 15 = (upd tc p ((tc p) + 1)) from A22))
        have A31 : bm_AI (bm_setI (bm_setI (bm_setI B10 15 p ((tc p) + 1)) 16 p (nI i)) 17 p cf) 16 = (upd tl p (nI i)) := ((AI_setn (bm_setI (bm_setI B10 15 p ((tc p) + 1)) 16 p (nI i)) p cf 16 (by decide)).trans (show bm_AI (bm_setI (bm_setI B10 15 p ((tc p) + 1)) 16 p (nI i)) 16 = (upd tl p (nI i)) from A23))
        have A32 : bm_AI (bm_setI (bm_setI (bm_setI B10 15 p ((tc p) + 1)) 16 p (nI i)) 17 p cf) 17 = (upd tf p cf) := ((AI_set (bm_setI (bm_setI B10 15 p ((tc p) + 1)) 16 p (nI i)) 17 p cf).trans (congrArg (fun f => upd f p cf) (show bm_AI (bm_setI (bm_setI B10 15 p ((tc p) + 1)) 16 p (nI i)) 17 = tf from A24)))
        have A33 : bm_AI (bm_setI (bm_setI (bm_setI B10 15 p ((tc p) + 1)) 16 p (nI i)) 17 p cf) 18 = tg := ((AI_setn (bm_setI (bm_setI B10 15 p ((tc p) + 1)) 16 p (nI i)) p cf 18 (by decide)).trans (show bm_AI (bm_setI (bm_setI B10 15 p ((tc p) + 1)) 16 p (nI i)) 18 = tg from A25))
        have Z34 : fz lex B10 (bm_setI (bm_setI (bm_setI B10 15 p ((tc p) + 1)) 16 p (nI i)) 17 p cf) := fz_trans Z26 ⟨fr_mono (fun _ q => by unfold lex; omega) (fr_setI _ 17 _ _), rfl, rfl⟩
        refine g_ald (pc' := 188) cd_Le_noteTaken rfl (Or.inr ⟨_, rfl, rfl, rfl⟩) l0 rfl rfl ?_
        refine g_fR (c := 4) (k := 6) (x := 18) (pc' := 191) cd_Le_noteTaken rfl rfl rfl rfl rfl (by decide) hR10.1.1.1 hR10.1.1.2 hR10.1.2.1.2.2.2.2.2.2 ?_
        refine g_ild (pc' := 192) cd_Le_noteTaken rfl (Or.inr ⟨_, rfl, rfl, rfl⟩) l2 rfl ?_
        refine g_ald (pc' := 193) cd_Le_noteTaken rfl (Or.inr ⟨_, rfl, rfl, rfl⟩) l0 rfl rfl ?_
        refine g_fI (c := 4) (k := 8) (x := cg) (pc' := 196) cd_Le_noteTaken rfl rfl rfl rfl rfl (by decide) hR10.1.1.1 hR10.1.1.2 hR10.2.1.2.2.1.2.1 ?_
        refine g_iast (pc' := 197) cd_Le_noteTaken rfl rfl hR10.1.2.2.2.2.2.2.2.2.1 hR10.1.2.2.2.2.2.2.2.2.2.1 (by rw [show bm_AL (bm_setI (bm_setI (bm_setI B10 15 p ((tc p) + 1)) 16 p (nI i)) 17 p cf) 18 = 6 from hR10.1.2.2.2.2.2.2.2.2.2.2]; exact vp_in_nI (by omega) (by decide)) ?_
        rw [show (nI p : Int32).toNatClampNeg = p from nI_clamp (by omega)]
        have A35 : bm_AI (bm_setI (bm_setI (bm_setI (bm_setI B10 15 p ((tc p) + 1)) 16 p (nI i)) 17 p cf) 18 p cg) 12 = (bm_AI B10 12) := ((AI_setn (bm_setI (bm_setI (bm_setI B10 15 p ((tc p) + 1)) 16 p (nI i)) 17 p cf) p cg 12 (by decide)).trans (show bm_AI (bm_setI (bm_setI (bm_setI B10 15 p ((tc p) + 1)) 16 p (nI i)) 17 p cf) 12 = (bm_AI B10 12) from A27))
        have A36 : bm_AI (bm_setI (bm_setI (bm_setI (bm_setI B10 15 p ((tc p) + 1)) 16 p (nI i)) 17 p cf) 18 p cg) 13 = bd := ((AI_setn (bm_setI (bm_setI (bm_setI B10 15 p ((tc p) + 1)) 16 p (nI i)) 17 p cf) p cg 13 (by decide)).trans (show bm_AI (bm_setI (bm_setI (bm_setI B10 15 p ((tc p) + 1)) 16 p (nI i)) 17 p cf) 13 = bd from A28))
        have A37 : bm_AI (bm_setI (bm_setI (bm_setI (bm_setI B10 15 p ((tc p) + 1)) 16 p (nI i)) 17 p cf) 18 p cg) 14 = ll := ((AI_setn (bm_setI (bm_setI (bm_setI B10 15 p ((tc p) + 1)) 16 p (nI i)) 17 p cf) p cg 14 (by decide)).trans (show bm_AI (bm_setI (bm_setI (bm_setI B10 15 p ((tc p) + 1)) 16 p (nI i)) 17 p cf) 14 = ll from A29))
        have A38 : bm_AI (bm_setI (bm_setI (bm_setI (bm_setI B10 15 p ((tc p) + 1)) 16 p (nI i)) 17 p cf) 18 p cg) 15 = (upd tc p ((tc p) + 1)) := ((AI_setn (bm_setI (bm_setI (bm_setI B10 15 p ((tc p) + 1)) 16 p (nI i)) 17 p cf) p cg 15 (by decide)).trans (show bm_AI (bm_setI (bm_setI (bm_setI B10 15 p ((tc p) + 1)) 16 p (nI i)) 17 p cf) 15 = (upd tc p ((tc p) + 1)) from A30))
        have A39 : bm_AI (bm_setI (bm_setI (bm_setI (bm_setI B10 15 p ((tc p) + 1)) 16 p (nI i)) 17 p cf) 18 p cg) 16 = (upd tl p (nI i)) := ((AI_setn (bm_setI (bm_setI (bm_setI B10 15 p ((tc p) + 1)) 16 p (nI i)) 17 p cf) p cg 16 (by decide)).trans (show bm_AI (bm_setI (bm_setI (bm_setI B10 15 p ((tc p) + 1)) 16 p (nI i)) 17 p cf) 16 = (upd tl p (nI i)) from A31))
        have A40 : bm_AI (bm_setI (bm_setI (bm_setI (bm_setI B10 15 p ((tc p) + 1)) 16 p (nI i)) 17 p cf) 18 p cg) 17 = (upd tf p cf) := ((AI_setn (bm_setI (bm_setI (bm_setI B10 15 p ((tc p) + 1)) 16 p (nI i)) 17 p cf) p cg 17 (by decide)).trans (show bm_AI (bm_setI (bm_setI (bm_setI B10 15 p ((tc p) + 1)) 16 p (nI i)) 17 p cf) 17 = (upd tf p cf) from A32))
        have A41 : bm_AI (bm_setI (bm_setI (bm_setI (bm_setI B10 15 p ((tc p) + 1)) 16 p (nI i)) 17 p cf) 18 p cg) 18 = (upd tg p cg) := ((AI_set (bm_setI (bm_setI (bm_setI B10 15 p ((tc p) + 1)) 16 p (nI i)) 17 p cf) 18 p cg).trans (congrArg (fun f => upd f p cg) (show bm_AI (bm_setI (bm_setI (bm_setI B10 15 p ((tc p) + 1)) 16 p (nI i)) 17 p cf) 18 = tg from A33)))
        have Z42 : fz lex B10 (bm_setI (bm_setI (bm_setI (bm_setI B10 15 p ((tc p) + 1)) 16 p (nI i)) 17 p cf) 18 p cg) := fz_trans Z34 ⟨fr_mono (fun _ q => by unfold lex; omega) (fr_setI _ 18 _ _), rfl, rfl⟩
        have hRz : RLe (bm_setI (bm_setI (bm_setI (bm_setI B10 15 p ((tc p) + 1)) 16 p (nI i)) 17 p cf) 18 p cg) T ((L.set i (se, fm, to, gr, ma, on, mi, th, (tk ||| (1 <<< (nI p &&& 31))), sf)), bd, ll, upd tc p (tc p + 1), upd tl p (nI i), upd tf p cf, upd tg p cg, cf, cg, ct, co, li, fo, db) := ⟨LgS_fr hR10.1 Z42.1, ⟨hR10.2.1.1, ⟨A36, A37, A38, A39, A40, A41⟩, hR10.2.1.2.2⟩, (by rw [show bm_AI (bm_setI (bm_setI (bm_setI (bm_setI B10 15 p ((tc p) + 1)) 16 p (nI i)) 17 p cf) 18 p cg) 12 = _ from A35]; exact hR10.2.2)⟩
        have hEq : lg_taken (L, bd, ll, tc, tl, tf, tg, cf, cg, ct, co, li, fo, db) p = ((L.set i (se, fm, to, gr, ma, on, mi, th, (tk ||| (1 <<< (nI p &&& 31))), sf)), bd, ll, upd tc p (tc p + 1), upd tl p (nI i), upd tf p cf, upd tg p cg, cf, cg, ct, co, li, fo, db) := by unfold lg_taken; dsimp only; rw [hl, lg_get_t he h7]; dsimp only; rw [nI_clamp (show i < 2 ^ 31 by omega)]; simp only [lt_take, ← hso, n26, n118]; simp
        exact g_retv cd_Le_noteTaken rfl ⟨rfl, (kk _ (hEq ▸ hRz) (fz_trans hz10 Z42))⟩
      · have c118 : so = true := bz_t c118
        have n118 := c118
        refine g_ald (pc' := 122) cd_Le_noteTaken rfl (Or.inr ⟨_, rfl, rfl, rfl⟩) l0 rfl rfl ?_
        refine g_fI (c := 4) (k := 10) (x := bz co) (pc' := 125) cd_Le_noteTaken rfl rfl rfl rfl rfl (by decide) hR10.1.1.1 hR10.1.1.2 hR10.2.1.2.2.1.2.2.2 ?_
        refine g_if1 (t := 160) (pc' := 128) cd_Le_noteTaken rfl rfl rfl (fun c125 => ?_) (fun c125 => ?_)
        · have c125 : co = false := bz_f c125
          have n125 := c125
          refine g_ald (pc' := 161) cd_Le_noteTaken rfl (Or.inr ⟨_, rfl, rfl, rfl⟩) l0 rfl rfl ?_
          refine g_fR (c := 4) (k := 3) (x := 15) (pc' := 164) cd_Le_noteTaken rfl rfl rfl rfl rfl (by decide) hR10.1.1.1 hR10.1.1.2 hR10.1.2.1.2.2.2.1 ?_
          refine g_ild (pc' := 165) cd_Le_noteTaken rfl (Or.inr ⟨_, rfl, rfl, rfl⟩) l2 rfl ?_
          refine g_pure (pc' := 166) (st' := [.int (nI p), .ref 15, .int (nI p), .ref 15]) cd_Le_noteTaken rfl rfl (fun _ _ => rfl) ?_
          refine g_aI (x := (tc p)) (pc' := 167) cd_Le_noteTaken rfl rfl hR10.1.2.2.2.2.2.1.1 hR10.1.2.2.2.2.2.1.2.1 (by rw [show bm_AL B10 15 = 6 from hR10.1.2.2.2.2.2.1.2.2]; exact vp_in_nI (by omega) (by decide)) (by rw [nI_clamp (by omega)]; exact congrFun (show bm_AI B10 15 = tc from hR10.2.1.2.1.2.2.1) p) ?_
          refine g_k1 (v := 1) (pc' := 168) cd_Le_noteTaken rfl (by decide) rfl ?_
          refine g_pure (pc' := 169) (st' := [.int ((tc p) + 1), .int (nI p), .ref 15]) cd_Le_noteTaken rfl rfl (fun _ _ => rfl) ?_
          refine g_iast (pc' := 170) cd_Le_noteTaken rfl rfl hR10.1.2.2.2.2.2.1.1 hR10.1.2.2.2.2.2.1.2.1 (by rw [show bm_AL B10 15 = 6 from hR10.1.2.2.2.2.2.1.2.2]; exact vp_in_nI (by omega) (by decide)) ?_
          rw [show (nI p : Int32).toNatClampNeg = p from nI_clamp (by omega)]
          have A43 : bm_AI (bm_setI B10 15 p ((tc p) + 1)) 12 = (bm_AI B10 12) := ((AI_setn B10 p ((tc p) + 1) 12 (by decide)).trans (show bm_AI B10 12 = (bm_AI B10 12) from rfl))
          have A44 : bm_AI (bm_setI B10 15 p ((tc p) + 1)) 13 = bd := ((AI_setn B10 p ((tc p) + 1) 13 (by decide)).trans (show bm_AI B10 13 = bd from hR10.2.1.2.1.1))
          have A45 : bm_AI (bm_setI B10 15 p ((tc p) + 1)) 14 = ll := ((AI_setn B10 p ((tc p) + 1) 14 (by decide)).trans (show bm_AI B10 14 = ll from hR10.2.1.2.1.2.1))
          have A46 : bm_AI (bm_setI B10 15 p ((tc p) + 1)) 15 = (upd tc p ((tc p) + 1)) := ((AI_set B10 15 p ((tc p) + 1)).trans (congrArg (fun f => upd f p ((tc p) + 1)) (show bm_AI B10 15 = tc from hR10.2.1.2.1.2.2.1)))
          have A47 : bm_AI (bm_setI B10 15 p ((tc p) + 1)) 16 = tl := ((AI_setn B10 p ((tc p) + 1) 16 (by decide)).trans (show bm_AI B10 16 = tl from hR10.2.1.2.1.2.2.2.1))
          have A48 : bm_AI (bm_setI B10 15 p ((tc p) + 1)) 17 = tf := ((AI_setn B10 p ((tc p) + 1) 17 (by decide)).trans (show bm_AI B10 17 = tf from hR10.2.1.2.1.2.2.2.2.1))
          have A49 : bm_AI (bm_setI B10 15 p ((tc p) + 1)) 18 = tg := ((AI_setn B10 p ((tc p) + 1) 18 (by decide)).trans (show bm_AI B10 18 = tg from hR10.2.1.2.1.2.2.2.2.2))
          have Z50 : fz lex B10 (bm_setI B10 15 p ((tc p) + 1)) := fz_trans (fz_rfl _ B10) ⟨fr_mono (fun _ q => by unfold lex; omega) (fr_setI _ 15 _ _), rfl, rfl⟩
          refine g_ald (pc' := 171) cd_Le_noteTaken rfl (Or.inr ⟨_, rfl, rfl, rfl⟩) l0 rfl rfl ?_
          refine g_fR (c := 4) (k := 4) (x := 16) (pc' := 174) cd_Le_noteTaken rfl rfl rfl rfl rfl (by decide) hR10.1.1.1 hR10.1.1.2 hR10.1.2.1.2.2.2.2.1 ?_
          refine g_ild (pc' := 175) cd_Le_noteTaken rfl (Or.inr ⟨_, rfl, rfl, rfl⟩) l2 rfl ?_
          refine g_ild (pc' := 176) cd_Le_noteTaken rfl (Or.inr ⟨_, rfl, rfl, rfl⟩) l3 rfl ?_
          refine g_iast (pc' := 177) cd_Le_noteTaken rfl rfl hR10.1.2.2.2.2.2.2.1.1 hR10.1.2.2.2.2.2.2.1.2.1 (by rw [show bm_AL (bm_setI B10 15 p ((tc p) + 1)) 16 = 6 from hR10.1.2.2.2.2.2.2.1.2.2]; exact vp_in_nI (by omega) (by decide)) ?_
          rw [show (nI p : Int32).toNatClampNeg = p from nI_clamp (by omega)]
          have A51 : bm_AI (bm_setI (bm_setI B10 15 p ((tc p) + 1)) 16 p (nI i)) 12 = (bm_AI B10 12) := ((AI_setn (bm_setI B10 15 p ((tc p) + 1)) p (nI i) 12 (by decide)).trans (show bm_AI (bm_setI B10 15 p ((tc p) + 1)) 12 = (bm_AI B10 12) from A43))
          have A52 : bm_AI (bm_setI (bm_setI B10 15 p ((tc p) + 1)) 16 p (nI i)) 13 = bd := ((AI_setn (bm_setI B10 15 p ((tc p) + 1)) p (nI i) 13 (by decide)).trans (show bm_AI (bm_setI B10 15 p ((tc p) + 1)) 13 = bd from A44))
          have A53 : bm_AI (bm_setI (bm_setI B10 15 p ((tc p) + 1)) 16 p (nI i)) 14 = ll := ((AI_setn (bm_setI B10 15 p ((tc p) + 1)) p (nI i) 14 (by decide)).trans (show bm_AI (bm_setI B10 15 p ((tc p) + 1)) 14 = ll from A45))
          have A54 : bm_AI (bm_setI (bm_setI B10 15 p ((tc p) + 1)) 16 p (nI i)) 15 = (upd tc p ((tc p) + 1)) := ((AI_setn (bm_setI B10 15 p ((tc p) + 1)) p (nI i) 15 (by decide)).trans (show bm_AI (bm_setI B10 15 p ((tc p) + 1)) 15 = (upd tc p ((tc p) + 1)) from A46))
          have A55 : bm_AI (bm_setI (bm_setI B10 15 p ((tc p) + 1)) 16 p (nI i)) 16 = (upd tl p (nI i)) := ((AI_set (bm_setI B10 15 p ((tc p) + 1)) 16 p (nI i)).trans (congrArg (fun f => upd f p (nI i)) (show bm_AI (bm_setI B10 15 p ((tc p) + 1)) 16 = tl from A47)))
          have A56 : bm_AI (bm_setI (bm_setI B10 15 p ((tc p) + 1)) 16 p (nI i)) 17 = tf := ((AI_setn (bm_setI B10 15 p ((tc p) + 1)) p (nI i) 17 (by decide)).trans (show bm_AI (bm_setI B10 15 p ((tc p) + 1)) 17 = tf from A48))
          have A57 : bm_AI (bm_setI (bm_setI B10 15 p ((tc p) + 1)) 16 p (nI i)) 18 = tg := ((AI_setn (bm_setI B10 15 p ((tc p) + 1)) p (nI i) 18 (by decide)).trans (show bm_AI (bm_setI B10 15 p ((tc p) + 1)) 18 = tg from A49))
          have Z58 : fz lex B10 (bm_setI (bm_setI B10 15 p ((tc p) + 1)) 16 p (nI i)) := fz_trans Z50 ⟨fr_mono (fun _ q => by unfold lex; omega) (fr_setI _ 16 _ _), rfl, rfl⟩
          refine g_ald (pc' := 178) cd_Le_noteTaken rfl (Or.inr ⟨_, rfl, rfl, rfl⟩) l0 rfl rfl ?_
          refine g_fR (c := 4) (k := 5) (x := 17) (pc' := 181) cd_Le_noteTaken rfl rfl rfl rfl rfl (by decide) hR10.1.1.1 hR10.1.1.2 hR10.1.2.1.2.2.2.2.2.1 ?_
          refine g_ild (pc' := 182) cd_Le_noteTaken rfl (Or.inr ⟨_, rfl, rfl, rfl⟩) l2 rfl ?_
          refine g_ald (pc' := 183) cd_Le_noteTaken rfl (Or.inr ⟨_, rfl, rfl, rfl⟩) l0 rfl rfl ?_
          refine g_fI (c := 4) (k := 7) (x := cf) (pc' := 186) cd_Le_noteTaken rfl rfl rfl rfl rfl (by decide) hR10.1.1.1 hR10.1.1.2 hR10.2.1.2.2.1.1 ?_
          refine g_iast (pc' := 187) cd_Le_noteTaken rfl rfl hR10.1.2.2.2.2.2.2.2.1.1 hR10.1.2.2.2.2.2.2.2.1.2.1 (by rw [show bm_AL (bm_setI (bm_setI B10 15 p ((tc p) + 1)) 16 p (nI i)) 17 = 6 from hR10.1.2.2.2.2.2.2.2.1.2.2]; exact vp_in_nI (by omega) (by decide)) ?_
          rw [show (nI p : Int32).toNatClampNeg = p from nI_clamp (by omega)]
          have A59 : bm_AI (bm_setI (bm_setI (bm_setI B10 15 p ((tc p) + 1)) 16 p (nI i)) 17 p cf) 12 = (bm_AI B10 12) := ((AI_setn (bm_setI (bm_setI B10 15 p ((tc p) + 1)) 16 p (nI i)) p cf 12 (by decide)).trans (show bm_AI (bm_setI (bm_setI B10 15 p ((tc p) + 1)) 16 p (nI i)) 12 = (bm_AI B10 12) from A51))
          have A60 : bm_AI (bm_setI (bm_setI (bm_setI B10 15 p ((tc p) + 1)) 16 p (nI i)) 17 p cf) 13 = bd := ((AI_setn (bm_setI (bm_setI B10 15 p ((tc p) + 1)) 16 p (nI i)) p cf 13 (by decide)).trans (show bm_AI (bm_setI (bm_setI B10 15 p ((tc p) + 1)) 16 p (nI i)) 13 = bd from A52))
          have A61 : bm_AI (bm_setI (bm_setI (bm_setI B10 15 p ((tc p) + 1)) 16 p (nI i)) 17 p cf) 14 = ll := ((AI_setn (bm_setI (bm_setI B10 15 p ((tc p) + 1)) 16 p (nI i)) p cf 14 (by decide)).trans (show bm_AI (bm_setI (bm_setI B10 15 p ((tc p) + 1)) 16 p (nI i)) 14 = ll from A53))
          have A62 : bm_AI (bm_setI (bm_setI (bm_setI B10 15 p ((tc p) + 1)) 16 p (nI i)) 17 p cf) 15 = (upd tc p ((tc p) + 1)) := ((AI_setn (bm_setI (bm_setI B10 15 p ((tc p) + 1)) 16 p (nI i)) p cf 15 (by decide)).trans (show bm_AI (bm_setI (bm_setI B10 15 p ((tc p) + 1)) 16 p (nI i)) 15 = (upd tc p ((tc p) + 1)) from A54))
          have A63 : bm_AI (bm_setI (bm_setI (bm_setI B10 15 p ((tc p) + 1)) 16 p (nI i)) 17 p cf) 16 = (upd tl p (nI i)) := ((AI_setn (bm_setI (bm_setI B10 15 p ((tc p) + 1)) 16 p (nI i)) p cf 16 (by decide)).trans (show bm_AI (bm_setI (bm_setI B10 15 p ((tc p) + 1)) 16 p (nI i)) 16 = (upd tl p (nI i)) from A55))
          have A64 : bm_AI (bm_setI (bm_setI (bm_setI B10 15 p ((tc p) + 1)) 16 p (nI i)) 17 p cf) 17 = (upd tf p cf) := ((AI_set (bm_setI (bm_setI B10 15 p ((tc p) + 1)) 16 p (nI i)) 17 p cf).trans (congrArg (fun f => upd f p cf) (show bm_AI (bm_setI (bm_setI B10 15 p ((tc p) + 1)) 16 p (nI i)) 17 = tf from A56)))
          have A65 : bm_AI (bm_setI (bm_setI (bm_setI B10 15 p ((tc p) + 1)) 16 p (nI i)) 17 p cf) 18 = tg := ((AI_setn (bm_setI (bm_setI B10 15 p ((tc p) + 1)) 16 p (nI i)) p cf 18 (by decide)).trans (show bm_AI (bm_setI (bm_setI B10 15 p ((tc p) + 1)) 16 p (nI i)) 18 = tg from A57))
          have Z66 : fz lex B10 (bm_setI (bm_setI (bm_setI B10 15 p ((tc p) + 1)) 16 p (nI i)) 17 p cf) := fz_trans Z58 ⟨fr_mono (fun _ q => by unfold lex; omega) (fr_setI _ 17 _ _), rfl, rfl⟩
          refine g_ald (pc' := 188) cd_Le_noteTaken rfl (Or.inr ⟨_, rfl, rfl, rfl⟩) l0 rfl rfl ?_
          refine g_fR (c := 4) (k := 6) (x := 18) (pc' := 191) cd_Le_noteTaken rfl rfl rfl rfl rfl (by decide) hR10.1.1.1 hR10.1.1.2 hR10.1.2.1.2.2.2.2.2.2 ?_
          refine g_ild (pc' := 192) cd_Le_noteTaken rfl (Or.inr ⟨_, rfl, rfl, rfl⟩) l2 rfl ?_
          refine g_ald (pc' := 193) cd_Le_noteTaken rfl (Or.inr ⟨_, rfl, rfl, rfl⟩) l0 rfl rfl ?_
          refine g_fI (c := 4) (k := 8) (x := cg) (pc' := 196) cd_Le_noteTaken rfl rfl rfl rfl rfl (by decide) hR10.1.1.1 hR10.1.1.2 hR10.2.1.2.2.1.2.1 ?_
          refine g_iast (pc' := 197) cd_Le_noteTaken rfl rfl hR10.1.2.2.2.2.2.2.2.2.1 hR10.1.2.2.2.2.2.2.2.2.2.1 (by rw [show bm_AL (bm_setI (bm_setI (bm_setI B10 15 p ((tc p) + 1)) 16 p (nI i)) 17 p cf) 18 = 6 from hR10.1.2.2.2.2.2.2.2.2.2.2]; exact vp_in_nI (by omega) (by decide)) ?_
          rw [show (nI p : Int32).toNatClampNeg = p from nI_clamp (by omega)]
          have A67 : bm_AI (bm_setI (bm_setI (bm_setI (bm_setI B10 15 p ((tc p) + 1)) 16 p (nI i)) 17 p cf) 18 p cg) 12 = (bm_AI B10 12) := ((AI_setn (bm_setI (bm_setI (bm_setI B10 15 p ((tc p) + 1)) 16 p (nI i)) 17 p cf) p cg 12 (by decide)).trans (show bm_AI (bm_setI (bm_setI (bm_setI B10 15 p ((tc p) + 1)) 16 p (nI i)) 17 p cf) 12 = (bm_AI B10 12) from A59))
          have A68 : bm_AI (bm_setI (bm_setI (bm_setI (bm_setI B10 15 p ((tc p) + 1)) 16 p (nI i)) 17 p cf) 18 p cg) 13 = bd := ((AI_setn (bm_setI (bm_setI (bm_setI B10 15 p ((tc p) + 1)) 16 p (nI i)) 17 p cf) p cg 13 (by decide)).trans (show bm_AI (bm_setI (bm_setI (bm_setI B10 15 p ((tc p) + 1)) 16 p (nI i)) 17 p cf) 13 = bd from A60))
          have A69 : bm_AI (bm_setI (bm_setI (bm_setI (bm_setI B10 15 p ((tc p) + 1)) 16 p (nI i)) 17 p cf) 18 p cg) 14 = ll := ((AI_setn (bm_setI (bm_setI (bm_setI B10 15 p ((tc p) + 1)) 16 p (nI i)) 17 p cf) p cg 14 (by decide)).trans (show bm_AI (bm_setI (bm_setI (bm_setI B10 15 p ((tc p) + 1)) 16 p (nI i)) 17 p cf) 14 = ll from A61))
          have A70 : bm_AI (bm_setI (bm_setI (bm_setI (bm_setI B10 15 p ((tc p) + 1)) 16 p (nI i)) 17 p cf) 18 p cg) 15 = (upd tc p ((tc p) + 1)) := ((AI_setn (bm_setI (bm_setI (bm_setI B10 15 p ((tc p) + 1)) 16 p (nI i)) 17 p cf) p cg 15 (by decide)).trans (show bm_AI (bm_setI (bm_setI (bm_setI B10 15 p ((tc p) + 1)) 16 p (nI i)) 17 p cf) 15 = (upd tc p ((tc p) + 1)) from A62))
          have A71 : bm_AI (bm_setI (bm_setI (bm_setI (bm_setI B10 15 p ((tc p) + 1)) 16 p (nI i)) 17 p cf) 18 p cg) 16 = (upd tl p (nI i)) := ((AI_setn (bm_setI (bm_setI (bm_setI B10 15 p ((tc p) + 1)) 16 p (nI i)) 17 p cf) p cg 16 (by decide)).trans (show bm_AI (bm_setI (bm_setI (bm_setI B10 15 p ((tc p) + 1)) 16 p (nI i)) 17 p cf) 16 = (upd tl p (nI i)) from A63))
          have A72 : bm_AI (bm_setI (bm_setI (bm_setI (bm_setI B10 15 p ((tc p) + 1)) 16 p (nI i)) 17 p cf) 18 p cg) 17 = (upd tf p cf) := ((AI_setn (bm_setI (bm_setI (bm_setI B10 15 p ((tc p) + 1)) 16 p (nI i)) 17 p cf) p cg 17 (by decide)).trans (show bm_AI (bm_setI (bm_setI (bm_setI B10 15 p ((tc p) + 1)) 16 p (nI i)) 17 p cf) 17 = (upd tf p cf) from A64))
          have A73 : bm_AI (bm_setI (bm_setI (bm_setI (bm_setI B10 15 p ((tc p) + 1)) 16 p (nI i)) 17 p cf) 18 p cg) 18 = (upd tg p cg) := ((AI_set (bm_setI (bm_setI (bm_setI B10 15 p ((tc p) + 1)) 16 p (nI i)) 17 p cf) 18 p cg).trans (congrArg (fun f => upd f p cg) (show bm_AI (bm_setI (bm_setI (bm_setI B10 15 p ((tc p) + 1)) 16 p (nI i)) 17 p cf) 18 = tg from A65)))
          have Z74 : fz lex B10 (bm_setI (bm_setI (bm_setI (bm_setI B10 15 p ((tc p) + 1)) 16 p (nI i)) 17 p cf) 18 p cg) := fz_trans Z66 ⟨fr_mono (fun _ q => by unfold lex; omega) (fr_setI _ 18 _ _), rfl, rfl⟩
          have hRz : RLe (bm_setI (bm_setI (bm_setI (bm_setI B10 15 p ((tc p) + 1)) 16 p (nI i)) 17 p cf) 18 p cg) T ((L.set i (se, fm, to, gr, ma, on, mi, th, (tk ||| (1 <<< (nI p &&& 31))), sf)), bd, ll, upd tc p (tc p + 1), upd tl p (nI i), upd tf p cf, upd tg p cg, cf, cg, ct, co, li, fo, db) := ⟨LgS_fr hR10.1 Z74.1, ⟨hR10.2.1.1, ⟨A68, A69, A70, A71, A72, A73⟩, hR10.2.1.2.2⟩, (by rw [show bm_AI (bm_setI (bm_setI (bm_setI (bm_setI B10 15 p ((tc p) + 1)) 16 p (nI i)) 17 p cf) 18 p cg) 12 = _ from A67]; exact hR10.2.2)⟩
          have hEq : lg_taken (L, bd, ll, tc, tl, tf, tg, cf, cg, ct, co, li, fo, db) p = ((L.set i (se, fm, to, gr, ma, on, mi, th, (tk ||| (1 <<< (nI p &&& 31))), sf)), bd, ll, upd tc p (tc p + 1), upd tl p (nI i), upd tf p cf, upd tg p cg, cf, cg, ct, co, li, fo, db) := by unfold lg_taken; dsimp only; rw [hl, lg_get_t he h7]; dsimp only; rw [nI_clamp (show i < 2 ^ 31 by omega)]; simp only [lt_take, ← hso, n26, n118, n125]; simp
          exact g_retv cd_Le_noteTaken rfl ⟨rfl, (kk _ (hEq ▸ hRz) (fz_trans hz10 Z74))⟩
        · have c125 : co = true := bz_t c125
          have n125 := c125
          refine g_ald (pc' := 129) cd_Le_noteTaken rfl (Or.inr ⟨_, rfl, rfl, rfl⟩) l0 rfl rfl ?_
          refine g_ild (pc' := 130) cd_Le_noteTaken rfl (Or.inr ⟨_, rfl, rfl, rfl⟩) l3 rfl ?_
          refine g_k1 (v := 4) (pc' := 131) cd_Le_noteTaken rfl (by decide) rfl ?_
          refine g_calli (pc' := 134) cd_Le_noteTaken rfl rfl rfl rfl rfl (tm_invV rfl rfl cd_Le_of rfl (Nat.le_of_ble_eq_true rfl) (by decide) hR10.1.1.1 hR10.1.1.2) (t_Lof (k := 4) hR10 hi9 (by decide) ?_)
          rw [show bm_AI B10 12 (i * 10 + 4) = ma from (hR10.2.2.1 i _ he9).2.2.2.2.1]
          show bm_G _ _ _ 134 _ [.int ma] B10 _
          refine g_ald (pc' := 135) cd_Le_noteTaken rfl (Or.inr ⟨_, rfl, rfl, rfl⟩) l0 rfl rfl ?_
          refine g_fI (c := 4) (k := 12) (x := li) (pc' := 138) cd_Le_noteTaken rfl rfl rfl rfl rfl (by decide) hR10.1.1.1 hR10.1.1.2 hR10.2.1.2.2.2.1 ?_
          refine g_pure (pc' := 139) (st' := [.int (ma &&& li)]) cd_Le_noteTaken rfl rfl (fun _ _ => rfl) ?_
          refine g_if1 (t := 160) (pc' := 142) cd_Le_noteTaken rfl rfl rfl (fun c139 => ?_) (fun c139 => ?_)
          · have c139 : ¬ (ma &&& li) = 0 := c139
            have n139 := c139
            refine g_ald (pc' := 161) cd_Le_noteTaken rfl (Or.inr ⟨_, rfl, rfl, rfl⟩) l0 rfl rfl ?_
            refine g_fR (c := 4) (k := 3) (x := 15) (pc' := 164) cd_Le_noteTaken rfl rfl rfl rfl rfl (by decide) hR10.1.1.1 hR10.1.1.2 hR10.1.2.1.2.2.2.1 ?_
            refine g_ild (pc' := 165) cd_Le_noteTaken rfl (Or.inr ⟨_, rfl, rfl, rfl⟩) l2 rfl ?_
            refine g_pure (pc' := 166) (st' := [.int (nI p), .ref 15, .int (nI p), .ref 15]) cd_Le_noteTaken rfl rfl (fun _ _ => rfl) ?_
            refine g_aI (x := (tc p)) (pc' := 167) cd_Le_noteTaken rfl rfl hR10.1.2.2.2.2.2.1.1 hR10.1.2.2.2.2.2.1.2.1 (by rw [show bm_AL B10 15 = 6 from hR10.1.2.2.2.2.2.1.2.2]; exact vp_in_nI (by omega) (by decide)) (by rw [nI_clamp (by omega)]; exact congrFun (show bm_AI B10 15 = tc from hR10.2.1.2.1.2.2.1) p) ?_
            refine g_k1 (v := 1) (pc' := 168) cd_Le_noteTaken rfl (by decide) rfl ?_
            refine g_pure (pc' := 169) (st' := [.int ((tc p) + 1), .int (nI p), .ref 15]) cd_Le_noteTaken rfl rfl (fun _ _ => rfl) ?_
            refine g_iast (pc' := 170) cd_Le_noteTaken rfl rfl hR10.1.2.2.2.2.2.1.1 hR10.1.2.2.2.2.2.1.2.1 (by rw [show bm_AL B10 15 = 6 from hR10.1.2.2.2.2.2.1.2.2]; exact vp_in_nI (by omega) (by decide)) ?_
            rw [show (nI p : Int32).toNatClampNeg = p from nI_clamp (by omega)]
            have A75 : bm_AI (bm_setI B10 15 p ((tc p) + 1)) 12 = (bm_AI B10 12) := ((AI_setn B10 p ((tc p) + 1) 12 (by decide)).trans (show bm_AI B10 12 = (bm_AI B10 12) from rfl))
            have A76 : bm_AI (bm_setI B10 15 p ((tc p) + 1)) 13 = bd := ((AI_setn B10 p ((tc p) + 1) 13 (by decide)).trans (show bm_AI B10 13 = bd from hR10.2.1.2.1.1))
            have A77 : bm_AI (bm_setI B10 15 p ((tc p) + 1)) 14 = ll := ((AI_setn B10 p ((tc p) + 1) 14 (by decide)).trans (show bm_AI B10 14 = ll from hR10.2.1.2.1.2.1))
            have A78 : bm_AI (bm_setI B10 15 p ((tc p) + 1)) 15 = (upd tc p ((tc p) + 1)) := ((AI_set B10 15 p ((tc p) + 1)).trans (congrArg (fun f => upd f p ((tc p) + 1)) (show bm_AI B10 15 = tc from hR10.2.1.2.1.2.2.1)))
            have A79 : bm_AI (bm_setI B10 15 p ((tc p) + 1)) 16 = tl := ((AI_setn B10 p ((tc p) + 1) 16 (by decide)).trans (show bm_AI B10 16 = tl from hR10.2.1.2.1.2.2.2.1))
            have A80 : bm_AI (bm_setI B10 15 p ((tc p) + 1)) 17 = tf := ((AI_setn B10 p ((tc p) + 1) 17 (by decide)).trans (show bm_AI B10 17 = tf from hR10.2.1.2.1.2.2.2.2.1))
            have A81 : bm_AI (bm_setI B10 15 p ((tc p) + 1)) 18 = tg := ((AI_setn B10 p ((tc p) + 1) 18 (by decide)).trans (show bm_AI B10 18 = tg from hR10.2.1.2.1.2.2.2.2.2))
            have Z82 : fz lex B10 (bm_setI B10 15 p ((tc p) + 1)) := fz_trans (fz_rfl _ B10) ⟨fr_mono (fun _ q => by unfold lex; omega) (fr_setI _ 15 _ _), rfl, rfl⟩
            refine g_ald (pc' := 171) cd_Le_noteTaken rfl (Or.inr ⟨_, rfl, rfl, rfl⟩) l0 rfl rfl ?_
            refine g_fR (c := 4) (k := 4) (x := 16) (pc' := 174) cd_Le_noteTaken rfl rfl rfl rfl rfl (by decide) hR10.1.1.1 hR10.1.1.2 hR10.1.2.1.2.2.2.2.1 ?_
            refine g_ild (pc' := 175) cd_Le_noteTaken rfl (Or.inr ⟨_, rfl, rfl, rfl⟩) l2 rfl ?_
            refine g_ild (pc' := 176) cd_Le_noteTaken rfl (Or.inr ⟨_, rfl, rfl, rfl⟩) l3 rfl ?_
            refine g_iast (pc' := 177) cd_Le_noteTaken rfl rfl hR10.1.2.2.2.2.2.2.1.1 hR10.1.2.2.2.2.2.2.1.2.1 (by rw [show bm_AL (bm_setI B10 15 p ((tc p) + 1)) 16 = 6 from hR10.1.2.2.2.2.2.2.1.2.2]; exact vp_in_nI (by omega) (by decide)) ?_
            rw [show (nI p : Int32).toNatClampNeg = p from nI_clamp (by omega)]
            have A83 : bm_AI (bm_setI (bm_setI B10 15 p ((tc p) + 1)) 16 p (nI i)) 12 = (bm_AI B10 12) := ((AI_setn (bm_setI B10 15 p ((tc p) + 1)) p (nI i) 12 (by decide)).trans (show bm_AI (bm_setI B10 15 p ((tc p) + 1)) 12 = (bm_AI B10 12) from A75))
            have A84 : bm_AI (bm_setI (bm_setI B10 15 p ((tc p) + 1)) 16 p (nI i)) 13 = bd := ((AI_setn (bm_setI B10 15 p ((tc p) + 1)) p (nI i) 13 (by decide)).trans (show bm_AI (bm_setI B10 15 p ((tc p) + 1)) 13 = bd from A76))
            have A85 : bm_AI (bm_setI (bm_setI B10 15 p ((tc p) + 1)) 16 p (nI i)) 14 = ll := ((AI_setn (bm_setI B10 15 p ((tc p) + 1)) p (nI i) 14 (by decide)).trans (show bm_AI (bm_setI B10 15 p ((tc p) + 1)) 14 = ll from A77))
            have A86 : bm_AI (bm_setI (bm_setI B10 15 p ((tc p) + 1)) 16 p (nI i)) 15 = (upd tc p ((tc p) + 1)) := ((AI_setn (bm_setI B10 15 p ((tc p) + 1)) p (nI i) 15 (by decide)).trans (show bm_AI (bm_setI B10 15 p ((tc p) + 1)) 15 = (upd tc p ((tc p) + 1)) from A78))
            have A87 : bm_AI (bm_setI (bm_setI B10 15 p ((tc p) + 1)) 16 p (nI i)) 16 = (upd tl p (nI i)) := ((AI_set (bm_setI B10 15 p ((tc p) + 1)) 16 p (nI i)).trans (congrArg (fun f => upd f p (nI i)) (show bm_AI (bm_setI B10 15 p ((tc p) + 1)) 16 = tl from A79)))
            have A88 : bm_AI (bm_setI (bm_setI B10 15 p ((tc p) + 1)) 16 p (nI i)) 17 = tf := ((AI_setn (bm_setI B10 15 p ((tc p) + 1)) p (nI i) 17 (by decide)).trans (show bm_AI (bm_setI B10 15 p ((tc p) + 1)) 17 = tf from A80))
            have A89 : bm_AI (bm_setI (bm_setI B10 15 p ((tc p) + 1)) 16 p (nI i)) 18 = tg := ((AI_setn (bm_setI B10 15 p ((tc p) + 1)) p (nI i) 18 (by decide)).trans (show bm_AI (bm_setI B10 15 p ((tc p) + 1)) 18 = tg from A81))
            have Z90 : fz lex B10 (bm_setI (bm_setI B10 15 p ((tc p) + 1)) 16 p (nI i)) := fz_trans Z82 ⟨fr_mono (fun _ q => by unfold lex; omega) (fr_setI _ 16 _ _), rfl, rfl⟩
            refine g_ald (pc' := 178) cd_Le_noteTaken rfl (Or.inr ⟨_, rfl, rfl, rfl⟩) l0 rfl rfl ?_
            refine g_fR (c := 4) (k := 5) (x := 17) (pc' := 181) cd_Le_noteTaken rfl rfl rfl rfl rfl (by decide) hR10.1.1.1 hR10.1.1.2 hR10.1.2.1.2.2.2.2.2.1 ?_
            refine g_ild (pc' := 182) cd_Le_noteTaken rfl (Or.inr ⟨_, rfl, rfl, rfl⟩) l2 rfl ?_
            refine g_ald (pc' := 183) cd_Le_noteTaken rfl (Or.inr ⟨_, rfl, rfl, rfl⟩) l0 rfl rfl ?_
            refine g_fI (c := 4) (k := 7) (x := cf) (pc' := 186) cd_Le_noteTaken rfl rfl rfl rfl rfl (by decide) hR10.1.1.1 hR10.1.1.2 hR10.2.1.2.2.1.1 ?_
            refine g_iast (pc' := 187) cd_Le_noteTaken rfl rfl hR10.1.2.2.2.2.2.2.2.1.1 hR10.1.2.2.2.2.2.2.2.1.2.1 (by rw [show bm_AL (bm_setI (bm_setI B10 15 p ((tc p) + 1)) 16 p (nI i)) 17 = 6 from hR10.1.2.2.2.2.2.2.2.1.2.2]; exact vp_in_nI (by omega) (by decide)) ?_
            rw [show (nI p : Int32).toNatClampNeg = p from nI_clamp (by omega)]
            have A91 : bm_AI (bm_setI (bm_setI (bm_setI B10 15 p ((tc p) + 1)) 16 p (nI i)) 17 p cf) 12 = (bm_AI B10 12) := ((AI_setn (bm_setI (bm_setI B10 15 p ((tc p) + 1)) 16 p (nI i)) p cf 12 (by decide)).trans (show bm_AI (bm_setI (bm_setI B10 15 p ((tc p) + 1)) 16 p (nI i)) 12 = (bm_AI B10 12) from A83))
            have A92 : bm_AI (bm_setI (bm_setI (bm_setI B10 15 p ((tc p) + 1)) 16 p (nI i)) 17 p cf) 13 = bd := ((AI_setn (bm_setI (bm_setI B10 15 p ((tc p) + 1)) 16 p (nI i)) p cf 13 (by decide)).trans (show bm_AI (bm_setI (bm_setI B10 15 p ((tc p) + 1)) 16 p (nI i)) 13 = bd from A84))
            have A93 : bm_AI (bm_setI (bm_setI (bm_setI B10 15 p ((tc p) + 1)) 16 p (nI i)) 17 p cf) 14 = ll := ((AI_setn (bm_setI (bm_setI B10 15 p ((tc p) + 1)) 16 p (nI i)) p cf 14 (by decide)).trans (show bm_AI (bm_setI (bm_setI B10 15 p ((tc p) + 1)) 16 p (nI i)) 14 = ll from A85))
            have A94 : bm_AI (bm_setI (bm_setI (bm_setI B10 15 p ((tc p) + 1)) 16 p (nI i)) 17 p cf) 15 = (upd tc p ((tc p) + 1)) := ((AI_setn (bm_setI (bm_setI B10 15 p ((tc p) + 1)) 16 p (nI i)) p cf 15 (by decide)).trans (show bm_AI (bm_setI (bm_setI B10 15 p ((tc p) + 1)) 16 p (nI i)) 15 = (upd tc p ((tc p) + 1)) from A86))
            have A95 : bm_AI (bm_setI (bm_setI (bm_setI B10 15 p ((tc p) + 1)) 16 p (nI i)) 17 p cf) 16 = (upd tl p (nI i)) := ((AI_setn (bm_setI (bm_setI B10 15 p ((tc p) + 1)) 16 p (nI i)) p cf 16 (by decide)).trans (show bm_AI (bm_setI (bm_setI B10 15 p ((tc p) + 1)) 16 p (nI i)) 16 = (upd tl p (nI i)) from A87))
            have A96 : bm_AI (bm_setI (bm_setI (bm_setI B10 15 p ((tc p) + 1)) 16 p (nI i)) 17 p cf) 17 = (upd tf p cf) := ((AI_set (bm_setI (bm_setI B10 15 p ((tc p) + 1)) 16 p (nI i)) 17 p cf).trans (congrArg (fun f => upd f p cf) (show bm_AI (bm_setI (bm_setI B10 15 p ((tc p) + 1)) 16 p (nI i)) 17 = tf from A88)))
            have A97 : bm_AI (bm_setI (bm_setI (bm_setI B10 15 p ((tc p) + 1)) 16 p (nI i)) 17 p cf) 18 = tg := ((AI_setn (bm_setI (bm_setI B10 15 p ((tc p) + 1)) 16 p (nI i)) p cf 18 (by decide)).trans (show bm_AI (bm_setI (bm_setI B10 15 p ((tc p) + 1)) 16 p (nI i)) 18 = tg from A89))
            have Z98 : fz lex B10 (bm_setI (bm_setI (bm_setI B10 15 p ((tc p) + 1)) 16 p (nI i)) 17 p cf) := fz_trans Z90 ⟨fr_mono (fun _ q => by unfold lex; omega) (fr_setI _ 17 _ _), rfl, rfl⟩
            refine g_ald (pc' := 188) cd_Le_noteTaken rfl (Or.inr ⟨_, rfl, rfl, rfl⟩) l0 rfl rfl ?_
            refine g_fR (c := 4) (k := 6) (x := 18) (pc' := 191) cd_Le_noteTaken rfl rfl rfl rfl rfl (by decide) hR10.1.1.1 hR10.1.1.2 hR10.1.2.1.2.2.2.2.2.2 ?_
            refine g_ild (pc' := 192) cd_Le_noteTaken rfl (Or.inr ⟨_, rfl, rfl, rfl⟩) l2 rfl ?_
            refine g_ald (pc' := 193) cd_Le_noteTaken rfl (Or.inr ⟨_, rfl, rfl, rfl⟩) l0 rfl rfl ?_
            refine g_fI (c := 4) (k := 8) (x := cg) (pc' := 196) cd_Le_noteTaken rfl rfl rfl rfl rfl (by decide) hR10.1.1.1 hR10.1.1.2 hR10.2.1.2.2.1.2.1 ?_
            refine g_iast (pc' := 197) cd_Le_noteTaken rfl rfl hR10.1.2.2.2.2.2.2.2.2.1 hR10.1.2.2.2.2.2.2.2.2.2.1 (by rw [show bm_AL (bm_setI (bm_setI (bm_setI B10 15 p ((tc p) + 1)) 16 p (nI i)) 17 p cf) 18 = 6 from hR10.1.2.2.2.2.2.2.2.2.2.2]; exact vp_in_nI (by omega) (by decide)) ?_
            rw [show (nI p : Int32).toNatClampNeg = p from nI_clamp (by omega)]
            have A99 : bm_AI (bm_setI (bm_setI (bm_setI (bm_setI B10 15 p ((tc p) + 1)) 16 p (nI i)) 17 p cf) 18 p cg) 12 = (bm_AI B10 12) := ((AI_setn (bm_setI (bm_setI (bm_setI B10 15 p ((tc p) + 1)) 16 p (nI i)) 17 p cf) p cg 12 (by decide)).trans (show bm_AI (bm_setI (bm_setI (bm_setI B10 15 p ((tc p) + 1)) 16 p (nI i)) 17 p cf) 12 = (bm_AI B10 12) from A91))
            have A100 : bm_AI (bm_setI (bm_setI (bm_setI (bm_setI B10 15 p ((tc p) + 1)) 16 p (nI i)) 17 p cf) 18 p cg) 13 = bd := ((AI_setn (bm_setI (bm_setI (bm_setI B10 15 p ((tc p) + 1)) 16 p (nI i)) 17 p cf) p cg 13 (by decide)).trans (show bm_AI (bm_setI (bm_setI (bm_setI B10 15 p ((tc p) + 1)) 16 p (nI i)) 17 p cf) 13 = bd from A92))
            have A101 : bm_AI (bm_setI (bm_setI (bm_setI (bm_setI B10 15 p ((tc p) + 1)) 16 p (nI i)) 17 p cf) 18 p cg) 14 = ll := ((AI_setn (bm_setI (bm_setI (bm_setI B10 15 p ((tc p) + 1)) 16 p (nI i)) 17 p cf) p cg 14 (by decide)).trans (show bm_AI (bm_setI (bm_setI (bm_setI B10 15 p ((tc p) + 1)) 16 p (nI i)) 17 p cf) 14 = ll from A93))
            have A102 : bm_AI (bm_setI (bm_setI (bm_setI (bm_setI B10 15 p ((tc p) + 1)) 16 p (nI i)) 17 p cf) 18 p cg) 15 = (upd tc p ((tc p) + 1)) := ((AI_setn (bm_setI (bm_setI (bm_setI B10 15 p ((tc p) + 1)) 16 p (nI i)) 17 p cf) p cg 15 (by decide)).trans (show bm_AI (bm_setI (bm_setI (bm_setI B10 15 p ((tc p) + 1)) 16 p (nI i)) 17 p cf) 15 = (upd tc p ((tc p) + 1)) from A94))
            have A103 : bm_AI (bm_setI (bm_setI (bm_setI (bm_setI B10 15 p ((tc p) + 1)) 16 p (nI i)) 17 p cf) 18 p cg) 16 = (upd tl p (nI i)) := ((AI_setn (bm_setI (bm_setI (bm_setI B10 15 p ((tc p) + 1)) 16 p (nI i)) 17 p cf) p cg 16 (by decide)).trans (show bm_AI (bm_setI (bm_setI (bm_setI B10 15 p ((tc p) + 1)) 16 p (nI i)) 17 p cf) 16 = (upd tl p (nI i)) from A95))
            have A104 : bm_AI (bm_setI (bm_setI (bm_setI (bm_setI B10 15 p ((tc p) + 1)) 16 p (nI i)) 17 p cf) 18 p cg) 17 = (upd tf p cf) := ((AI_setn (bm_setI (bm_setI (bm_setI B10 15 p ((tc p) + 1)) 16 p (nI i)) 17 p cf) p cg 17 (by decide)).trans (show bm_AI (bm_setI (bm_setI (bm_setI B10 15 p ((tc p) + 1)) 16 p (nI i)) 17 p cf) 17 = (upd tf p cf) from A96))
            have A105 : bm_AI (bm_setI (bm_setI (bm_setI (bm_setI B10 15 p ((tc p) + 1)) 16 p (nI i)) 17 p cf) 18 p cg) 18 = (upd tg p cg) := ((AI_set (bm_setI (bm_setI (bm_setI B10 15 p ((tc p) + 1)) 16 p (nI i)) 17 p cf) 18 p cg).trans (congrArg (fun f => upd f p cg) (show bm_AI (bm_setI (bm_setI (bm_setI B10 15 p ((tc p) + 1)) 16 p (nI i)) 17 p cf) 18 = tg from A97)))
            have Z106 : fz lex B10 (bm_setI (bm_setI (bm_setI (bm_setI B10 15 p ((tc p) + 1)) 16 p (nI i)) 17 p cf) 18 p cg) := fz_trans Z98 ⟨fr_mono (fun _ q => by unfold lex; omega) (fr_setI _ 18 _ _), rfl, rfl⟩
            have hRz : RLe (bm_setI (bm_setI (bm_setI (bm_setI B10 15 p ((tc p) + 1)) 16 p (nI i)) 17 p cf) 18 p cg) T ((L.set i (se, fm, to, gr, ma, on, mi, th, (tk ||| (1 <<< (nI p &&& 31))), sf)), bd, ll, upd tc p (tc p + 1), upd tl p (nI i), upd tf p cf, upd tg p cg, cf, cg, ct, co, li, fo, db) := ⟨LgS_fr hR10.1 Z106.1, ⟨hR10.2.1.1, ⟨A100, A101, A102, A103, A104, A105⟩, hR10.2.1.2.2⟩, (by rw [show bm_AI (bm_setI (bm_setI (bm_setI (bm_setI B10 15 p ((tc p) + 1)) 16 p (nI i)) 17 p cf) 18 p cg) 12 = _ from A99]; exact hR10.2.2)⟩
            have hEq : lg_taken (L, bd, ll, tc, tl, tf, tg, cf, cg, ct, co, li, fo, db) p = ((L.set i (se, fm, to, gr, ma, on, mi, th, (tk ||| (1 <<< (nI p &&& 31))), sf)), bd, ll, upd tc p (tc p + 1), upd tl p (nI i), upd tf p cf, upd tg p cg, cf, cg, ct, co, li, fo, db) := by unfold lg_taken; dsimp only; rw [hl, lg_get_t he h7]; dsimp only; rw [nI_clamp (show i < 2 ^ 31 by omega)]; simp only [lt_take, ← hso, n26, n118, n125, n139]; simp
            exact g_retv cd_Le_noteTaken rfl ⟨rfl, (kk _ (hEq ▸ hRz) (fz_trans hz10 Z106))⟩
          · have c139 : (ma &&& li) = 0 := Classical.not_not.mp c139
            have n139 := c139
            refine g_ald (pc' := 143) cd_Le_noteTaken rfl (Or.inr ⟨_, rfl, rfl, rfl⟩) l0 rfl rfl ?_
            refine g_fR (c := 4) (k := 0) (x := 12) (pc' := 146) cd_Le_noteTaken rfl rfl rfl rfl rfl (by decide) hR10.1.1.1 hR10.1.1.2 hR10.1.2.1.1 ?_
            refine g_ild (pc' := 147) cd_Le_noteTaken rfl (Or.inr ⟨_, rfl, rfl, rfl⟩) l3 rfl ?_
            refine g_k2 (v := 10) (pc' := 149) cd_Le_noteTaken rfl (by decide) rfl ?_
            refine g_pure (pc' := 150) (st' := [.int ((nI i) * 10), .ref 12]) cd_Le_noteTaken rfl rfl (fun _ _ => rfl) ?_
            rw [show ((nI i) * 10 : Int32) = nI (i * 10) from pk_mul i 10]
            refine g_k2 (v := 9) (pc' := 152) cd_Le_noteTaken rfl (by decide) rfl ?_
            refine g_pure (pc' := 153) (st' := [.int ((nI (i * 10)) + 9), .ref 12]) cd_Le_noteTaken rfl rfl (fun _ _ => rfl) ?_
            rw [show ((nI (i * 10)) + 9 : Int32) = nI ((i * 10) + 9) from nI_add (i * 10) 9]
            refine g_pure (pc' := 154) (st' := [.int (nI ((i * 10) + 9)), .ref 12, .int (nI ((i * 10) + 9)), .ref 12]) cd_Le_noteTaken rfl rfl (fun _ _ => rfl) ?_
            refine g_aI (x := sf) (pc' := 155) cd_Le_noteTaken rfl rfl hR10.1.2.2.1.1 hR10.1.2.2.1.2.1 (by rw [show bm_AL B10 12 = 7000 from hR10.1.2.2.1.2.2]; exact vp_in_nI (by omega) (by decide)) (by rw [nI_clamp (by omega)]; exact (hR10.2.2.1 i _ he9).2.2.2.2.2.2.2.2.2) ?_
            refine g_k1 (v := 1) (pc' := 156) cd_Le_noteTaken rfl (by decide) rfl ?_
            refine g_ild (pc' := 157) cd_Le_noteTaken rfl (Or.inr ⟨_, rfl, rfl, rfl⟩) l2 rfl ?_
            refine g_pure (pc' := 158) (st' := [.int (1 <<< ((nI p) &&& 31)), .int sf, .int (nI ((i * 10) + 9)), .ref 12]) cd_Le_noteTaken rfl rfl (fun _ _ => rfl) ?_
            refine g_pure (pc' := 159) (st' := [.int (sf ||| (1 <<< ((nI p) &&& 31))), .int (nI ((i * 10) + 9)), .ref 12]) cd_Le_noteTaken rfl rfl (fun _ _ => rfl) ?_
            refine g_iast (pc' := 160) cd_Le_noteTaken rfl rfl hR10.1.2.2.1.1 hR10.1.2.2.1.2.1 (by rw [show bm_AL B10 12 = 7000 from hR10.1.2.2.1.2.2]; exact vp_in_nI (by omega) (by decide)) ?_
            rw [show (nI ((i * 10) + 9) : Int32).toNatClampNeg = ((i * 10) + 9) from nI_clamp (by omega)]
            have A107 : bm_AI (bm_setI B10 12 ((i * 10) + 9) (sf ||| (1 <<< ((nI p) &&& 31)))) 12 = (upd (bm_AI B10 12) ((i * 10) + 9) (sf ||| (1 <<< ((nI p) &&& 31)))) := ((AI_set B10 12 ((i * 10) + 9) (sf ||| (1 <<< ((nI p) &&& 31)))).trans (congrArg (fun f => upd f ((i * 10) + 9) (sf ||| (1 <<< ((nI p) &&& 31)))) (show bm_AI B10 12 = (bm_AI B10 12) from rfl)))
            have A108 : bm_AI (bm_setI B10 12 ((i * 10) + 9) (sf ||| (1 <<< ((nI p) &&& 31)))) 13 = bd := ((AI_setn B10 ((i * 10) + 9) (sf ||| (1 <<< ((nI p) &&& 31))) 13 (by decide)).trans (show bm_AI B10 13 = bd from hR10.2.1.2.1.1))
            have A109 : bm_AI (bm_setI B10 12 ((i * 10) + 9) (sf ||| (1 <<< ((nI p) &&& 31)))) 14 = ll := ((AI_setn B10 ((i * 10) + 9) (sf ||| (1 <<< ((nI p) &&& 31))) 14 (by decide)).trans (show bm_AI B10 14 = ll from hR10.2.1.2.1.2.1))
            have A110 : bm_AI (bm_setI B10 12 ((i * 10) + 9) (sf ||| (1 <<< ((nI p) &&& 31)))) 15 = tc := ((AI_setn B10 ((i * 10) + 9) (sf ||| (1 <<< ((nI p) &&& 31))) 15 (by decide)).trans (show bm_AI B10 15 = tc from hR10.2.1.2.1.2.2.1))
            have A111 : bm_AI (bm_setI B10 12 ((i * 10) + 9) (sf ||| (1 <<< ((nI p) &&& 31)))) 16 = tl := ((AI_setn B10 ((i * 10) + 9) (sf ||| (1 <<< ((nI p) &&& 31))) 16 (by decide)).trans (show bm_AI B10 16 = tl from hR10.2.1.2.1.2.2.2.1))
            have A112 : bm_AI (bm_setI B10 12 ((i * 10) + 9) (sf ||| (1 <<< ((nI p) &&& 31)))) 17 = tf := ((AI_setn B10 ((i * 10) + 9) (sf ||| (1 <<< ((nI p) &&& 31))) 17 (by decide)).trans (show bm_AI B10 17 = tf from hR10.2.1.2.1.2.2.2.2.1))
            have A113 : bm_AI (bm_setI B10 12 ((i * 10) + 9) (sf ||| (1 <<< ((nI p) &&& 31)))) 18 = tg := ((AI_setn B10 ((i * 10) + 9) (sf ||| (1 <<< ((nI p) &&& 31))) 18 (by decide)).trans (show bm_AI B10 18 = tg from hR10.2.1.2.1.2.2.2.2.2))
            have Z114 : fz lex B10 (bm_setI B10 12 ((i * 10) + 9) (sf ||| (1 <<< ((nI p) &&& 31)))) := fz_trans (fz_rfl _ B10) ⟨fr_mono (fun _ q => by unfold lex; omega) (fr_setI _ 12 _ _), rfl, rfl⟩
            have hR116 : RLe (bm_setI B10 12 ((i * 10) + 9) (sf ||| (1 <<< ((nI p) &&& 31)))) T (((L.set i (se, fm, to, gr, ma, on, mi, th, (tk ||| (1 <<< (nI p &&& 31))), sf)).set i (se, fm, to, gr, ma, on, mi, th, (tk ||| (1 <<< (nI p &&& 31))), (sf ||| (1 <<< (nI p &&& 31))))), bd, ll, tc, tl, tf, tg, cf, cg, ct, co, li, fo, db) := ⟨LgS_fr hR10.1 Z114.1, ⟨⟨(hR10.2.1.1.1).trans (by simp), (by have := hR10.2.1.1.2; simpa using this)⟩, ⟨A108, A109, A110, A111, A112, A113⟩, hR10.2.1.2.2⟩, (RLc_set (i := i) hR10.2.2 he9 (fun j h8 h9 => by rw [show bm_AI (bm_setI B10 12 ((i * 10) + 9) (sf ||| (1 <<< ((nI p) &&& 31)))) 12 = _ from A107]; exact pk_un (by omega)) (by rw [show bm_AI (bm_setI B10 12 ((i * 10) + 9) (sf ||| (1 <<< ((nI p) &&& 31)))) 12 = _ from A107]; exact (pk_un (by omega)).trans ((hR10.2.2.1 i _ he9).2.2.2.2.2.2.2.2.1)) (by rw [show bm_AI (bm_setI B10 12 ((i * 10) + 9) (sf ||| (1 <<< ((nI p) &&& 31)))) 12 = _ from A107]; exact if_pos rfl))⟩
            have hz116 : fz lex B (bm_setI B10 12 ((i * 10) + 9) (sf ||| (1 <<< ((nI p) &&& 31)))) := fz_trans hz10 Z114
            generalize (bm_setI B10 12 ((i * 10) + 9) (sf ||| (1 <<< ((nI p) &&& 31)))) = B116 at hR116 hz116 ⊢
            have he115 : ((L.set i (se, fm, to, gr, ma, on, mi, th, (tk ||| (1 <<< (nI p &&& 31))), sf)).set i (se, fm, to, gr, ma, on, mi, th, (tk ||| (1 <<< (nI p &&& 31))), (sf ||| (1 <<< (nI p &&& 31)))))[i]? = some (se, fm, to, gr, ma, on, mi, th, (tk ||| (1 <<< (nI p &&& 31))), (sf ||| (1 <<< (nI p &&& 31)))) := List.getElem?_set_self hi9
            have hi115 : i < ((L.set i (se, fm, to, gr, ma, on, mi, th, (tk ||| (1 <<< (nI p &&& 31))), sf)).set i (se, fm, to, gr, ma, on, mi, th, (tk ||| (1 <<< (nI p &&& 31))), (sf ||| (1 <<< (nI p &&& 31))))).length := by have := hi9; simpa using this
            refine g_ald (pc' := 161) cd_Le_noteTaken rfl (Or.inr ⟨_, rfl, rfl, rfl⟩) l0 rfl rfl ?_
            refine g_fR (c := 4) (k := 3) (x := 15) (pc' := 164) cd_Le_noteTaken rfl rfl rfl rfl rfl (by decide) hR116.1.1.1 hR116.1.1.2 hR116.1.2.1.2.2.2.1 ?_
            refine g_ild (pc' := 165) cd_Le_noteTaken rfl (Or.inr ⟨_, rfl, rfl, rfl⟩) l2 rfl ?_
            refine g_pure (pc' := 166) (st' := [.int (nI p), .ref 15, .int (nI p), .ref 15]) cd_Le_noteTaken rfl rfl (fun _ _ => rfl) ?_
            refine g_aI (x := (tc p)) (pc' := 167) cd_Le_noteTaken rfl rfl hR116.1.2.2.2.2.2.1.1 hR116.1.2.2.2.2.2.1.2.1 (by rw [show bm_AL B116 15 = 6 from hR116.1.2.2.2.2.2.1.2.2]; exact vp_in_nI (by omega) (by decide)) (by rw [nI_clamp (by omega)]; exact congrFun (show bm_AI B116 15 = tc from hR116.2.1.2.1.2.2.1) p) ?_
            refine g_k1 (v := 1) (pc' := 168) cd_Le_noteTaken rfl (by decide) rfl ?_
            refine g_pure (pc' := 169) (st' := [.int ((tc p) + 1), .int (nI p), .ref 15]) cd_Le_noteTaken rfl rfl (fun _ _ => rfl) ?_
            refine g_iast (pc' := 170) cd_Le_noteTaken rfl rfl hR116.1.2.2.2.2.2.1.1 hR116.1.2.2.2.2.2.1.2.1 (by rw [show bm_AL B116 15 = 6 from hR116.1.2.2.2.2.2.1.2.2]; exact vp_in_nI (by omega) (by decide)) ?_
            rw [show (nI p : Int32).toNatClampNeg = p from nI_clamp (by omega)]
            have A117 : bm_AI (bm_setI B116 15 p ((tc p) + 1)) 12 = (bm_AI B116 12) := ((AI_setn B116 p ((tc p) + 1) 12 (by decide)).trans (show bm_AI B116 12 = (bm_AI B116 12) from rfl))
            have A118 : bm_AI (bm_setI B116 15 p ((tc p) + 1)) 13 = bd := ((AI_setn B116 p ((tc p) + 1) 13 (by decide)).trans (show bm_AI B116 13 = bd from hR116.2.1.2.1.1))
            have A119 : bm_AI (bm_setI B116 15 p ((tc p) + 1)) 14 = ll := ((AI_setn B116 p ((tc p) + 1) 14 (by decide)).trans (show bm_AI B116 14 = ll from hR116.2.1.2.1.2.1))
            have A120 : bm_AI (bm_setI B116 15 p ((tc p) + 1)) 15 = (upd tc p ((tc p) + 1)) := ((AI_set B116 15 p ((tc p) + 1)).trans (congrArg (fun f => upd f p ((tc p) + 1)) (show bm_AI B116 15 = tc from hR116.2.1.2.1.2.2.1)))
            have A121 : bm_AI (bm_setI B116 15 p ((tc p) + 1)) 16 = tl := ((AI_setn B116 p ((tc p) + 1) 16 (by decide)).trans (show bm_AI B116 16 = tl from hR116.2.1.2.1.2.2.2.1))
            have A122 : bm_AI (bm_setI B116 15 p ((tc p) + 1)) 17 = tf := ((AI_setn B116 p ((tc p) + 1) 17 (by decide)).trans (show bm_AI B116 17 = tf from hR116.2.1.2.1.2.2.2.2.1))
            have A123 : bm_AI (bm_setI B116 15 p ((tc p) + 1)) 18 = tg := ((AI_setn B116 p ((tc p) + 1) 18 (by decide)).trans (show bm_AI B116 18 = tg from hR116.2.1.2.1.2.2.2.2.2))
            have Z124 : fz lex B116 (bm_setI B116 15 p ((tc p) + 1)) := fz_trans (fz_rfl _ B116) ⟨fr_mono (fun _ q => by unfold lex; omega) (fr_setI _ 15 _ _), rfl, rfl⟩
            refine g_ald (pc' := 171) cd_Le_noteTaken rfl (Or.inr ⟨_, rfl, rfl, rfl⟩) l0 rfl rfl ?_
            refine g_fR (c := 4) (k := 4) (x := 16) (pc' := 174) cd_Le_noteTaken rfl rfl rfl rfl rfl (by decide) hR116.1.1.1 hR116.1.1.2 hR116.1.2.1.2.2.2.2.1 ?_
            refine g_ild (pc' := 175) cd_Le_noteTaken rfl (Or.inr ⟨_, rfl, rfl, rfl⟩) l2 rfl ?_
            refine g_ild (pc' := 176) cd_Le_noteTaken rfl (Or.inr ⟨_, rfl, rfl, rfl⟩) l3 rfl ?_
            refine g_iast (pc' := 177) cd_Le_noteTaken rfl rfl hR116.1.2.2.2.2.2.2.1.1 hR116.1.2.2.2.2.2.2.1.2.1 (by rw [show bm_AL (bm_setI B116 15 p ((tc p) + 1)) 16 = 6 from hR116.1.2.2.2.2.2.2.1.2.2]; exact vp_in_nI (by omega) (by decide)) ?_
            rw [show (nI p : Int32).toNatClampNeg = p from nI_clamp (by omega)]
            have A125 : bm_AI (bm_setI (bm_setI B116 15 p ((tc p) + 1)) 16 p (nI i)) 12 = (bm_AI B116 12) := ((AI_setn (bm_setI B116 15 p ((tc p) + 1)) p (nI i) 12 (by decide)).trans (show bm_AI (bm_setI B116 15 p ((tc p) + 1)) 12 = (bm_AI B116 12) from A117))
            have A126 : bm_AI (bm_setI (bm_setI B116 15 p ((tc p) + 1)) 16 p (nI i)) 13 = bd := ((AI_setn (bm_setI B116 15 p ((tc p) + 1)) p (nI i) 13 (by decide)).trans (show bm_AI (bm_setI B116 15 p ((tc p) + 1)) 13 = bd from A118))
            have A127 : bm_AI (bm_setI (bm_setI B116 15 p ((tc p) + 1)) 16 p (nI i)) 14 = ll := ((AI_setn (bm_setI B116 15 p ((tc p) + 1)) p (nI i) 14 (by decide)).trans (show bm_AI (bm_setI B116 15 p ((tc p) + 1)) 14 = ll from A119))
            have A128 : bm_AI (bm_setI (bm_setI B116 15 p ((tc p) + 1)) 16 p (nI i)) 15 = (upd tc p ((tc p) + 1)) := ((AI_setn (bm_setI B116 15 p ((tc p) + 1)) p (nI i) 15 (by decide)).trans (show bm_AI (bm_setI B116 15 p ((tc p) + 1)) 15 = (upd tc p ((tc p) + 1)) from A120))
            have A129 : bm_AI (bm_setI (bm_setI B116 15 p ((tc p) + 1)) 16 p (nI i)) 16 = (upd tl p (nI i)) := ((AI_set (bm_setI B116 15 p ((tc p) + 1)) 16 p (nI i)).trans (congrArg (fun f => upd f p (nI i)) (show bm_AI (bm_setI B116 15 p ((tc p) + 1)) 16 = tl from A121)))
            have A130 : bm_AI (bm_setI (bm_setI B116 15 p ((tc p) + 1)) 16 p (nI i)) 17 = tf := ((AI_setn (bm_setI B116 15 p ((tc p) + 1)) p (nI i) 17 (by decide)).trans (show bm_AI (bm_setI B116 15 p ((tc p) + 1)) 17 = tf from A122))
            have A131 : bm_AI (bm_setI (bm_setI B116 15 p ((tc p) + 1)) 16 p (nI i)) 18 = tg := ((AI_setn (bm_setI B116 15 p ((tc p) + 1)) p (nI i) 18 (by decide)).trans (show bm_AI (bm_setI B116 15 p ((tc p) + 1)) 18 = tg from A123))
            have Z132 : fz lex B116 (bm_setI (bm_setI B116 15 p ((tc p) + 1)) 16 p (nI i)) := fz_trans Z124 ⟨fr_mono (fun _ q => by unfold lex; omega) (fr_setI _ 16 _ _), rfl, rfl⟩
            refine g_ald (pc' := 178) cd_Le_noteTaken rfl (Or.inr ⟨_, rfl, rfl, rfl⟩) l0 rfl rfl ?_
            refine g_fR (c := 4) (k := 5) (x := 17) (pc' := 181) cd_Le_noteTaken rfl rfl rfl rfl rfl (by decide) hR116.1.1.1 hR116.1.1.2 hR116.1.2.1.2.2.2.2.2.1 ?_
            refine g_ild (pc' := 182) cd_Le_noteTaken rfl (Or.inr ⟨_, rfl, rfl, rfl⟩) l2 rfl ?_
            refine g_ald (pc' := 183) cd_Le_noteTaken rfl (Or.inr ⟨_, rfl, rfl, rfl⟩) l0 rfl rfl ?_
            refine g_fI (c := 4) (k := 7) (x := cf) (pc' := 186) cd_Le_noteTaken rfl rfl rfl rfl rfl (by decide) hR116.1.1.1 hR116.1.1.2 hR116.2.1.2.2.1.1 ?_
            refine g_iast (pc' := 187) cd_Le_noteTaken rfl rfl hR116.1.2.2.2.2.2.2.2.1.1 hR116.1.2.2.2.2.2.2.2.1.2.1 (by rw [show bm_AL (bm_setI (bm_setI B116 15 p ((tc p) + 1)) 16 p (nI i)) 17 = 6 from hR116.1.2.2.2.2.2.2.2.1.2.2]; exact vp_in_nI (by omega) (by decide)) ?_
            rw [show (nI p : Int32).toNatClampNeg = p from nI_clamp (by omega)]
            have A133 : bm_AI (bm_setI (bm_setI (bm_setI B116 15 p ((tc p) + 1)) 16 p (nI i)) 17 p cf) 12 = (bm_AI B116 12) := ((AI_setn (bm_setI (bm_setI B116 15 p ((tc p) + 1)) 16 p (nI i)) p cf 12 (by decide)).trans (show bm_AI (bm_setI (bm_setI B116 15 p ((tc p) + 1)) 16 p (nI i)) 12 = (bm_AI B116 12) from A125))
            have A134 : bm_AI (bm_setI (bm_setI (bm_setI B116 15 p ((tc p) + 1)) 16 p (nI i)) 17 p cf) 13 = bd := ((AI_setn (bm_setI (bm_setI B116 15 p ((tc p) + 1)) 16 p (nI i)) p cf 13 (by decide)).trans (show bm_AI (bm_setI (bm_setI B116 15 p ((tc p) + 1)) 16 p (nI i)) 13 = bd from A126))
            have A135 : bm_AI (bm_setI (bm_setI (bm_setI B116 15 p ((tc p) + 1)) 16 p (nI i)) 17 p cf) 14 = ll := ((AI_setn (bm_setI (bm_setI B116 15 p ((tc p) + 1)) 16 p (nI i)) p cf 14 (by decide)).trans (show bm_AI (bm_setI (bm_setI B116 15 p ((tc p) + 1)) 16 p (nI i)) 14 = ll from A127))
            have A136 : bm_AI (bm_setI (bm_setI (bm_setI B116 15 p ((tc p) + 1)) 16 p (nI i)) 17 p cf) 15 = (upd tc p ((tc p) + 1)) := ((AI_setn (bm_setI (bm_setI B116 15 p ((tc p) + 1)) 16 p (nI i)) p cf 15 (by decide)).trans (show bm_AI (bm_setI (bm_setI B116 15 p ((tc p) + 1)) 16 p (nI i)) 15 = (upd tc p ((tc p) + 1)) from A128))
            have A137 : bm_AI (bm_setI (bm_setI (bm_setI B116 15 p ((tc p) + 1)) 16 p (nI i)) 17 p cf) 16 = (upd tl p (nI i)) := ((AI_setn (bm_setI (bm_setI B116 15 p ((tc p) + 1)) 16 p (nI i)) p cf 16 (by decide)).trans (show bm_AI (bm_setI (bm_setI B116 15 p ((tc p) + 1)) 16 p (nI i)) 16 = (upd tl p (nI i)) from A129))
            have A138 : bm_AI (bm_setI (bm_setI (bm_setI B116 15 p ((tc p) + 1)) 16 p (nI i)) 17 p cf) 17 = (upd tf p cf) := ((AI_set (bm_setI (bm_setI B116 15 p ((tc p) + 1)) 16 p (nI i)) 17 p cf).trans (congrArg (fun f => upd f p cf) (show bm_AI (bm_setI (bm_setI B116 15 p ((tc p) + 1)) 16 p (nI i)) 17 = tf from A130)))
            have A139 : bm_AI (bm_setI (bm_setI (bm_setI B116 15 p ((tc p) + 1)) 16 p (nI i)) 17 p cf) 18 = tg := ((AI_setn (bm_setI (bm_setI B116 15 p ((tc p) + 1)) 16 p (nI i)) p cf 18 (by decide)).trans (show bm_AI (bm_setI (bm_setI B116 15 p ((tc p) + 1)) 16 p (nI i)) 18 = tg from A131))
            have Z140 : fz lex B116 (bm_setI (bm_setI (bm_setI B116 15 p ((tc p) + 1)) 16 p (nI i)) 17 p cf) := fz_trans Z132 ⟨fr_mono (fun _ q => by unfold lex; omega) (fr_setI _ 17 _ _), rfl, rfl⟩
            refine g_ald (pc' := 188) cd_Le_noteTaken rfl (Or.inr ⟨_, rfl, rfl, rfl⟩) l0 rfl rfl ?_
            refine g_fR (c := 4) (k := 6) (x := 18) (pc' := 191) cd_Le_noteTaken rfl rfl rfl rfl rfl (by decide) hR116.1.1.1 hR116.1.1.2 hR116.1.2.1.2.2.2.2.2.2 ?_
            refine g_ild (pc' := 192) cd_Le_noteTaken rfl (Or.inr ⟨_, rfl, rfl, rfl⟩) l2 rfl ?_
            refine g_ald (pc' := 193) cd_Le_noteTaken rfl (Or.inr ⟨_, rfl, rfl, rfl⟩) l0 rfl rfl ?_
            refine g_fI (c := 4) (k := 8) (x := cg) (pc' := 196) cd_Le_noteTaken rfl rfl rfl rfl rfl (by decide) hR116.1.1.1 hR116.1.1.2 hR116.2.1.2.2.1.2.1 ?_
            refine g_iast (pc' := 197) cd_Le_noteTaken rfl rfl hR116.1.2.2.2.2.2.2.2.2.1 hR116.1.2.2.2.2.2.2.2.2.2.1 (by rw [show bm_AL (bm_setI (bm_setI (bm_setI B116 15 p ((tc p) + 1)) 16 p (nI i)) 17 p cf) 18 = 6 from hR116.1.2.2.2.2.2.2.2.2.2.2]; exact vp_in_nI (by omega) (by decide)) ?_
            rw [show (nI p : Int32).toNatClampNeg = p from nI_clamp (by omega)]
            have A141 : bm_AI (bm_setI (bm_setI (bm_setI (bm_setI B116 15 p ((tc p) + 1)) 16 p (nI i)) 17 p cf) 18 p cg) 12 = (bm_AI B116 12) := ((AI_setn (bm_setI (bm_setI (bm_setI B116 15 p ((tc p) + 1)) 16 p (nI i)) 17 p cf) p cg 12 (by decide)).trans (show bm_AI (bm_setI (bm_setI (bm_setI B116 15 p ((tc p) + 1)) 16 p (nI i)) 17 p cf) 12 = (bm_AI B116 12) from A133))
            have A142 : bm_AI (bm_setI (bm_setI (bm_setI (bm_setI B116 15 p ((tc p) + 1)) 16 p (nI i)) 17 p cf) 18 p cg) 13 = bd := ((AI_setn (bm_setI (bm_setI (bm_setI B116 15 p ((tc p) + 1)) 16 p (nI i)) 17 p cf) p cg 13 (by decide)).trans (show bm_AI (bm_setI (bm_setI (bm_setI B116 15 p ((tc p) + 1)) 16 p (nI i)) 17 p cf) 13 = bd from A134))
            have A143 : bm_AI (bm_setI (bm_setI (bm_setI (bm_setI B116 15 p ((tc p) + 1)) 16 p (nI i)) 17 p cf) 18 p cg) 14 = ll := ((AI_setn (bm_setI (bm_setI (bm_setI B116 15 p ((tc p) + 1)) 16 p (nI i)) 17 p cf) p cg 14 (by decide)).trans (show bm_AI (bm_setI (bm_setI (bm_setI B116 15 p ((tc p) + 1)) 16 p (nI i)) 17 p cf) 14 = ll from A135))
            have A144 : bm_AI (bm_setI (bm_setI (bm_setI (bm_setI B116 15 p ((tc p) + 1)) 16 p (nI i)) 17 p cf) 18 p cg) 15 = (upd tc p ((tc p) + 1)) := ((AI_setn (bm_setI (bm_setI (bm_setI B116 15 p ((tc p) + 1)) 16 p (nI i)) 17 p cf) p cg 15 (by decide)).trans (show bm_AI (bm_setI (bm_setI (bm_setI B116 15 p ((tc p) + 1)) 16 p (nI i)) 17 p cf) 15 = (upd tc p ((tc p) + 1)) from A136))
            have A145 : bm_AI (bm_setI (bm_setI (bm_setI (bm_setI B116 15 p ((tc p) + 1)) 16 p (nI i)) 17 p cf) 18 p cg) 16 = (upd tl p (nI i)) := ((AI_setn (bm_setI (bm_setI (bm_setI B116 15 p ((tc p) + 1)) 16 p (nI i)) 17 p cf) p cg 16 (by decide)).trans (show bm_AI (bm_setI (bm_setI (bm_setI B116 15 p ((tc p) + 1)) 16 p (nI i)) 17 p cf) 16 = (upd tl p (nI i)) from A137))
            have A146 : bm_AI (bm_setI (bm_setI (bm_setI (bm_setI B116 15 p ((tc p) + 1)) 16 p (nI i)) 17 p cf) 18 p cg) 17 = (upd tf p cf) := ((AI_setn (bm_setI (bm_setI (bm_setI B116 15 p ((tc p) + 1)) 16 p (nI i)) 17 p cf) p cg 17 (by decide)).trans (show bm_AI (bm_setI (bm_setI (bm_setI B116 15 p ((tc p) + 1)) 16 p (nI i)) 17 p cf) 17 = (upd tf p cf) from A138))
            have A147 : bm_AI (bm_setI (bm_setI (bm_setI (bm_setI B116 15 p ((tc p) + 1)) 16 p (nI i)) 17 p cf) 18 p cg) 18 = (upd tg p cg) := ((AI_set (bm_setI (bm_setI (bm_setI B116 15 p ((tc p) + 1)) 16 p (nI i)) 17 p cf) 18 p cg).trans (congrArg (fun f => upd f p cg) (show bm_AI (bm_setI (bm_setI (bm_setI B116 15 p ((tc p) + 1)) 16 p (nI i)) 17 p cf) 18 = tg from A139)))
            have Z148 : fz lex B116 (bm_setI (bm_setI (bm_setI (bm_setI B116 15 p ((tc p) + 1)) 16 p (nI i)) 17 p cf) 18 p cg) := fz_trans Z140 ⟨fr_mono (fun _ q => by unfold lex; omega) (fr_setI _ 18 _ _), rfl, rfl⟩
            have hRz : RLe (bm_setI (bm_setI (bm_setI (bm_setI B116 15 p ((tc p) + 1)) 16 p (nI i)) 17 p cf) 18 p cg) T (((L.set i (se, fm, to, gr, ma, on, mi, th, (tk ||| (1 <<< (nI p &&& 31))), sf)).set i (se, fm, to, gr, ma, on, mi, th, (tk ||| (1 <<< (nI p &&& 31))), (sf ||| (1 <<< (nI p &&& 31))))), bd, ll, upd tc p (tc p + 1), upd tl p (nI i), upd tf p cf, upd tg p cg, cf, cg, ct, co, li, fo, db) := ⟨LgS_fr hR116.1 Z148.1, ⟨hR116.2.1.1, ⟨A142, A143, A144, A145, A146, A147⟩, hR116.2.1.2.2⟩, (by rw [show bm_AI (bm_setI (bm_setI (bm_setI (bm_setI B116 15 p ((tc p) + 1)) 16 p (nI i)) 17 p cf) 18 p cg) 12 = _ from A141]; exact hR116.2.2)⟩
            have hEq : lg_taken (L, bd, ll, tc, tl, tf, tg, cf, cg, ct, co, li, fo, db) p = (((L.set i (se, fm, to, gr, ma, on, mi, th, (tk ||| (1 <<< (nI p &&& 31))), sf)).set i (se, fm, to, gr, ma, on, mi, th, (tk ||| (1 <<< (nI p &&& 31))), (sf ||| (1 <<< (nI p &&& 31))))), bd, ll, upd tc p (tc p + 1), upd tl p (nI i), upd tf p cf, upd tg p cg, cf, cg, ct, co, li, fo, db) := by unfold lg_taken; dsimp only; rw [hl, lg_get_t he h7]; dsimp only; rw [nI_clamp (show i < 2 ^ 31 by omega)]; simp only [lt_take, ← hso, n26, n118, n125, n139]; simp
            exact g_retv cd_Le_noteTaken rfl ⟨rfl, (kk _ (hEq ▸ hRz) (fz_trans hz116 Z148))⟩
  · have c26 : (hbit li (nI p)) = false := bz_f (Classical.not_not.mp c26)
    have n26 := c26
    refine g_ald (pc' := 30) cd_Le_noteTaken rfl (Or.inr ⟨_, rfl, rfl, rfl⟩) l0 rfl rfl ?_
    refine g_fI (c := 4) (k := 12) (x := li) (pc' := 33) cd_Le_noteTaken rfl rfl rfl rfl rfl (by decide) hR.1.1.1 hR.1.1.2 hR.2.1.2.2.2.1 ?_
    refine g_ald (pc' := 34) cd_Le_noteTaken rfl (Or.inr ⟨_, rfl, rfl, rfl⟩) l0 rfl rfl ?_
    refine g_fI (c := 4) (k := 7) (x := cf) (pc' := 37) cd_Le_noteTaken rfl rfl rfl rfl rfl (by decide) hR.1.1.1 hR.1.1.2 hR.2.1.2.2.1.1 ?_
    refine g_calli (pc' := 40) cd_Le_noteTaken rfl rfl rfl rfl rfl (tm_invS rfl rfl cd_Ho_hasBit rfl (Nat.le_of_ble_eq_true rfl)) (t_hasBit ?_)
    show bm_G _ _ _ 40 _ [.int (bz (hbit li cf))] B _
    refine g_if1 (t := 90) (pc' := 43) cd_Le_noteTaken rfl rfl rfl (fun c40 => ?_) (fun c40 => ?_)
    · have c40 : (hbit li cf) = true := bz_t c40
      have n40 := c40
      refine g_ald (pc' := 91) cd_Le_noteTaken rfl (Or.inr ⟨_, rfl, rfl, rfl⟩) l0 rfl rfl ?_
      refine g_ild (pc' := 92) cd_Le_noteTaken rfl (Or.inr ⟨_, rfl, rfl, rfl⟩) l3 rfl ?_
      refine g_calli (pc' := 95) cd_Le_noteTaken rfl rfl rfl rfl rfl (tm_invV rfl rfl cd_Le_has rfl (Nat.le_of_ble_eq_true rfl) (by decide) hR.1.1.1 hR.1.1.2) (t_Lhas hR ?_)
      rw [inR_nI hi (by omega)]
      show bm_G _ _ _ _ _ (.int 1 :: _) _ _
      show bm_G _ _ _ 95 _ [.int 1] B _
      refine g_if1 (t := 116) (pc' := 98) cd_Le_noteTaken rfl rfl rfl (fun c95 => ?_) (fun c95 => ?_)
      · exact absurd (show (1 : Int32) = 0 from c95) (by decide)
      · have c95 : ¬ (1 : Int32) = 0 := c95
        refine g_ald (pc' := 99) cd_Le_noteTaken rfl (Or.inr ⟨_, rfl, rfl, rfl⟩) l0 rfl rfl ?_
        refine g_fR (c := 4) (k := 0) (x := 12) (pc' := 102) cd_Le_noteTaken rfl rfl rfl rfl rfl (by decide) hR.1.1.1 hR.1.1.2 hR.1.2.1.1 ?_
        refine g_ild (pc' := 103) cd_Le_noteTaken rfl (Or.inr ⟨_, rfl, rfl, rfl⟩) l3 rfl ?_
        refine g_k2 (v := 10) (pc' := 105) cd_Le_noteTaken rfl (by decide) rfl ?_
        refine g_pure (pc' := 106) (st' := [.int ((nI i) * 10), .ref 12]) cd_Le_noteTaken rfl rfl (fun _ _ => rfl) ?_
        rw [show ((nI i) * 10 : Int32) = nI (i * 10) from pk_mul i 10]
        refine g_k2 (v := 8) (pc' := 108) cd_Le_noteTaken rfl (by decide) rfl ?_
        refine g_pure (pc' := 109) (st' := [.int ((nI (i * 10)) + 8), .ref 12]) cd_Le_noteTaken rfl rfl (fun _ _ => rfl) ?_
        rw [show ((nI (i * 10)) + 8 : Int32) = nI ((i * 10) + 8) from nI_add (i * 10) 8]
        refine g_pure (pc' := 110) (st' := [.int (nI ((i * 10) + 8)), .ref 12, .int (nI ((i * 10) + 8)), .ref 12]) cd_Le_noteTaken rfl rfl (fun _ _ => rfl) ?_
        refine g_aI (x := tk) (pc' := 111) cd_Le_noteTaken rfl rfl hR.1.2.2.1.1 hR.1.2.2.1.2.1 (by rw [show bm_AL B 12 = 7000 from hR.1.2.2.1.2.2]; exact vp_in_nI (by omega) (by decide)) (by rw [nI_clamp (by omega)]; exact (hR.2.2.1 i _ he).2.2.2.2.2.2.2.2.1) ?_
        refine g_k1 (v := 1) (pc' := 112) cd_Le_noteTaken rfl (by decide) rfl ?_
        refine g_ild (pc' := 113) cd_Le_noteTaken rfl (Or.inr ⟨_, rfl, rfl, rfl⟩) l2 rfl ?_
        refine g_pure (pc' := 114) (st' := [.int (1 <<< ((nI p) &&& 31)), .int tk, .int (nI ((i * 10) + 8)), .ref 12]) cd_Le_noteTaken rfl rfl (fun _ _ => rfl) ?_
        refine g_pure (pc' := 115) (st' := [.int (tk ||| (1 <<< ((nI p) &&& 31))), .int (nI ((i * 10) + 8)), .ref 12]) cd_Le_noteTaken rfl rfl (fun _ _ => rfl) ?_
        refine g_iast (pc' := 116) cd_Le_noteTaken rfl rfl hR.1.2.2.1.1 hR.1.2.2.1.2.1 (by rw [show bm_AL B 12 = 7000 from hR.1.2.2.1.2.2]; exact vp_in_nI (by omega) (by decide)) ?_
        rw [show (nI ((i * 10) + 8) : Int32).toNatClampNeg = ((i * 10) + 8) from nI_clamp (by omega)]
        have A149 : bm_AI (bm_setI B 12 ((i * 10) + 8) (tk ||| (1 <<< ((nI p) &&& 31)))) 12 = (upd (bm_AI B 12) ((i * 10) + 8) (tk ||| (1 <<< ((nI p) &&& 31)))) := ((AI_set B 12 ((i * 10) + 8) (tk ||| (1 <<< ((nI p) &&& 31)))).trans (congrArg (fun f => upd f ((i * 10) + 8) (tk ||| (1 <<< ((nI p) &&& 31)))) (show bm_AI B 12 = (bm_AI B 12) from rfl)))
        have A150 : bm_AI (bm_setI B 12 ((i * 10) + 8) (tk ||| (1 <<< ((nI p) &&& 31)))) 13 = bd := ((AI_setn B ((i * 10) + 8) (tk ||| (1 <<< ((nI p) &&& 31))) 13 (by decide)).trans (show bm_AI B 13 = bd from hR.2.1.2.1.1))
        have A151 : bm_AI (bm_setI B 12 ((i * 10) + 8) (tk ||| (1 <<< ((nI p) &&& 31)))) 14 = ll := ((AI_setn B ((i * 10) + 8) (tk ||| (1 <<< ((nI p) &&& 31))) 14 (by decide)).trans (show bm_AI B 14 = ll from hR.2.1.2.1.2.1))
        have A152 : bm_AI (bm_setI B 12 ((i * 10) + 8) (tk ||| (1 <<< ((nI p) &&& 31)))) 15 = tc := ((AI_setn B ((i * 10) + 8) (tk ||| (1 <<< ((nI p) &&& 31))) 15 (by decide)).trans (show bm_AI B 15 = tc from hR.2.1.2.1.2.2.1))
        have A153 : bm_AI (bm_setI B 12 ((i * 10) + 8) (tk ||| (1 <<< ((nI p) &&& 31)))) 16 = tl := ((AI_setn B ((i * 10) + 8) (tk ||| (1 <<< ((nI p) &&& 31))) 16 (by decide)).trans (show bm_AI B 16 = tl from hR.2.1.2.1.2.2.2.1))
        have A154 : bm_AI (bm_setI B 12 ((i * 10) + 8) (tk ||| (1 <<< ((nI p) &&& 31)))) 17 = tf := ((AI_setn B ((i * 10) + 8) (tk ||| (1 <<< ((nI p) &&& 31))) 17 (by decide)).trans (show bm_AI B 17 = tf from hR.2.1.2.1.2.2.2.2.1))
        have A155 : bm_AI (bm_setI B 12 ((i * 10) + 8) (tk ||| (1 <<< ((nI p) &&& 31)))) 18 = tg := ((AI_setn B ((i * 10) + 8) (tk ||| (1 <<< ((nI p) &&& 31))) 18 (by decide)).trans (show bm_AI B 18 = tg from hR.2.1.2.1.2.2.2.2.2))
        have Z156 : fz lex B (bm_setI B 12 ((i * 10) + 8) (tk ||| (1 <<< ((nI p) &&& 31)))) := fz_trans (fz_rfl _ B) ⟨fr_mono (fun _ q => by unfold lex; omega) (fr_setI _ 12 _ _), rfl, rfl⟩
        have hR158 : RLe (bm_setI B 12 ((i * 10) + 8) (tk ||| (1 <<< ((nI p) &&& 31)))) T ((L.set i (se, fm, to, gr, ma, on, mi, th, (tk ||| (1 <<< (nI p &&& 31))), sf)), bd, ll, tc, tl, tf, tg, cf, cg, ct, co, li, fo, db) := ⟨LgS_fr hR.1 Z156.1, ⟨⟨(hR.2.1.1.1).trans (by simp), (by have := hR.2.1.1.2; simpa using this)⟩, ⟨A150, A151, A152, A153, A154, A155⟩, hR.2.1.2.2⟩, (RLc_set (i := i) hR.2.2 he (fun j h8 h9 => by rw [show bm_AI (bm_setI B 12 ((i * 10) + 8) (tk ||| (1 <<< ((nI p) &&& 31)))) 12 = _ from A149]; exact pk_un (by omega)) (by rw [show bm_AI (bm_setI B 12 ((i * 10) + 8) (tk ||| (1 <<< ((nI p) &&& 31)))) 12 = _ from A149]; exact if_pos rfl) (by rw [show bm_AI (bm_setI B 12 ((i * 10) + 8) (tk ||| (1 <<< ((nI p) &&& 31)))) 12 = _ from A149]; exact (pk_un (by omega)).trans ((hR.2.2.1 i _ he).2.2.2.2.2.2.2.2.2)))⟩
        have hz158 : fz lex B (bm_setI B 12 ((i * 10) + 8) (tk ||| (1 <<< ((nI p) &&& 31)))) := Z156
        generalize (bm_setI B 12 ((i * 10) + 8) (tk ||| (1 <<< ((nI p) &&& 31)))) = B158 at hR158 hz158 ⊢
        have he157 : (L.set i (se, fm, to, gr, ma, on, mi, th, (tk ||| (1 <<< (nI p &&& 31))), sf))[i]? = some (se, fm, to, gr, ma, on, mi, th, (tk ||| (1 <<< (nI p &&& 31))), sf) := List.getElem?_set_self hi
        have hi157 : i < (L.set i (se, fm, to, gr, ma, on, mi, th, (tk ||| (1 <<< (nI p &&& 31))), sf)).length := by have := hi; simpa using this
        refine g_ild (pc' := 118) cd_Le_noteTaken rfl (Or.inl ⟨rfl, rfl⟩) l4 rfl ?_
        refine g_if1 (t := 160) (pc' := 121) cd_Le_noteTaken rfl rfl rfl (fun c118 => ?_) (fun c118 => ?_)
        · have c118 : so = false := bz_f c118
          have n118 := c118
          refine g_ald (pc' := 161) cd_Le_noteTaken rfl (Or.inr ⟨_, rfl, rfl, rfl⟩) l0 rfl rfl ?_
          refine g_fR (c := 4) (k := 3) (x := 15) (pc' := 164) cd_Le_noteTaken rfl rfl rfl rfl rfl (by decide) hR158.1.1.1 hR158.1.1.2 hR158.1.2.1.2.2.2.1 ?_
          refine g_ild (pc' := 165) cd_Le_noteTaken rfl (Or.inr ⟨_, rfl, rfl, rfl⟩) l2 rfl ?_
          refine g_pure (pc' := 166) (st' := [.int (nI p), .ref 15, .int (nI p), .ref 15]) cd_Le_noteTaken rfl rfl (fun _ _ => rfl) ?_
          refine g_aI (x := (tc p)) (pc' := 167) cd_Le_noteTaken rfl rfl hR158.1.2.2.2.2.2.1.1 hR158.1.2.2.2.2.2.1.2.1 (by rw [show bm_AL B158 15 = 6 from hR158.1.2.2.2.2.2.1.2.2]; exact vp_in_nI (by omega) (by decide)) (by rw [nI_clamp (by omega)]; exact congrFun (show bm_AI B158 15 = tc from hR158.2.1.2.1.2.2.1) p) ?_
          refine g_k1 (v := 1) (pc' := 168) cd_Le_noteTaken rfl (by decide) rfl ?_
          refine g_pure (pc' := 169) (st' := [.int ((tc p) + 1), .int (nI p), .ref 15]) cd_Le_noteTaken rfl rfl (fun _ _ => rfl) ?_
          refine g_iast (pc' := 170) cd_Le_noteTaken rfl rfl hR158.1.2.2.2.2.2.1.1 hR158.1.2.2.2.2.2.1.2.1 (by rw [show bm_AL B158 15 = 6 from hR158.1.2.2.2.2.2.1.2.2]; exact vp_in_nI (by omega) (by decide)) ?_
          rw [show (nI p : Int32).toNatClampNeg = p from nI_clamp (by omega)]
          have A159 : bm_AI (bm_setI B158 15 p ((tc p) + 1)) 12 = (bm_AI B158 12) := ((AI_setn B158 p ((tc p) + 1) 12 (by decide)).trans (show bm_AI B158 12 = (bm_AI B158 12) from rfl))
          have A160 : bm_AI (bm_setI B158 15 p ((tc p) + 1)) 13 = bd := ((AI_setn B158 p ((tc p) + 1) 13 (by decide)).trans (show bm_AI B158 13 = bd from hR158.2.1.2.1.1))
          have A161 : bm_AI (bm_setI B158 15 p ((tc p) + 1)) 14 = ll := ((AI_setn B158 p ((tc p) + 1) 14 (by decide)).trans (show bm_AI B158 14 = ll from hR158.2.1.2.1.2.1))
          have A162 : bm_AI (bm_setI B158 15 p ((tc p) + 1)) 15 = (upd tc p ((tc p) + 1)) := ((AI_set B158 15 p ((tc p) + 1)).trans (congrArg (fun f => upd f p ((tc p) + 1)) (show bm_AI B158 15 = tc from hR158.2.1.2.1.2.2.1)))
          have A163 : bm_AI (bm_setI B158 15 p ((tc p) + 1)) 16 = tl := ((AI_setn B158 p ((tc p) + 1) 16 (by decide)).trans (show bm_AI B158 16 = tl from hR158.2.1.2.1.2.2.2.1))
          have A164 : bm_AI (bm_setI B158 15 p ((tc p) + 1)) 17 = tf := ((AI_setn B158 p ((tc p) + 1) 17 (by decide)).trans (show bm_AI B158 17 = tf from hR158.2.1.2.1.2.2.2.2.1))
          have A165 : bm_AI (bm_setI B158 15 p ((tc p) + 1)) 18 = tg := ((AI_setn B158 p ((tc p) + 1) 18 (by decide)).trans (show bm_AI B158 18 = tg from hR158.2.1.2.1.2.2.2.2.2))
          have Z166 : fz lex B158 (bm_setI B158 15 p ((tc p) + 1)) := fz_trans (fz_rfl _ B158) ⟨fr_mono (fun _ q => by unfold lex; omega) (fr_setI _ 15 _ _), rfl, rfl⟩
          refine g_ald (pc' := 171) cd_Le_noteTaken rfl (Or.inr ⟨_, rfl, rfl, rfl⟩) l0 rfl rfl ?_
          refine g_fR (c := 4) (k := 4) (x := 16) (pc' := 174) cd_Le_noteTaken rfl rfl rfl rfl rfl (by decide) hR158.1.1.1 hR158.1.1.2 hR158.1.2.1.2.2.2.2.1 ?_
          refine g_ild (pc' := 175) cd_Le_noteTaken rfl (Or.inr ⟨_, rfl, rfl, rfl⟩) l2 rfl ?_
          refine g_ild (pc' := 176) cd_Le_noteTaken rfl (Or.inr ⟨_, rfl, rfl, rfl⟩) l3 rfl ?_
          refine g_iast (pc' := 177) cd_Le_noteTaken rfl rfl hR158.1.2.2.2.2.2.2.1.1 hR158.1.2.2.2.2.2.2.1.2.1 (by rw [show bm_AL (bm_setI B158 15 p ((tc p) + 1)) 16 = 6 from hR158.1.2.2.2.2.2.2.1.2.2]; exact vp_in_nI (by omega) (by decide)) ?_
          rw [show (nI p : Int32).toNatClampNeg = p from nI_clamp (by omega)]
          have A167 : bm_AI (bm_setI (bm_setI B158 15 p ((tc p) + 1)) 16 p (nI i)) 12 = (bm_AI B158 12) := ((AI_setn (bm_setI B158 15 p ((tc p) + 1)) p (nI i) 12 (by decide)).trans (show bm_AI (bm_setI B158 15 p ((tc p) + 1)) 12 = (bm_AI B158 12) from A159))
          have A168 : bm_AI (bm_setI (bm_setI B158 15 p ((tc p) + 1)) 16 p (nI i)) 13 = bd := ((AI_setn (bm_setI B158 15 p ((tc p) + 1)) p (nI i) 13 (by decide)).trans (show bm_AI (bm_setI B158 15 p ((tc p) + 1)) 13 = bd from A160))
          have A169 : bm_AI (bm_setI (bm_setI B158 15 p ((tc p) + 1)) 16 p (nI i)) 14 = ll := ((AI_setn (bm_setI B158 15 p ((tc p) + 1)) p (nI i) 14 (by decide)).trans (show bm_AI (bm_setI B158 15 p ((tc p) + 1)) 14 = ll from A161))
          have A170 : bm_AI (bm_setI (bm_setI B158 15 p ((tc p) + 1)) 16 p (nI i)) 15 = (upd tc p ((tc p) + 1)) := ((AI_setn (bm_setI B158 15 p ((tc p) + 1)) p (nI i) 15 (by decide)).trans (show bm_AI (bm_setI B158 15 p ((tc p) + 1)) 15 = (upd tc p ((tc p) + 1)) from A162))
          have A171 : bm_AI (bm_setI (bm_setI B158 15 p ((tc p) + 1)) 16 p (nI i)) 16 = (upd tl p (nI i)) := ((AI_set (bm_setI B158 15 p ((tc p) + 1)) 16 p (nI i)).trans (congrArg (fun f => upd f p (nI i)) (show bm_AI (bm_setI B158 15 p ((tc p) + 1)) 16 = tl from A163)))
          have A172 : bm_AI (bm_setI (bm_setI B158 15 p ((tc p) + 1)) 16 p (nI i)) 17 = tf := ((AI_setn (bm_setI B158 15 p ((tc p) + 1)) p (nI i) 17 (by decide)).trans (show bm_AI (bm_setI B158 15 p ((tc p) + 1)) 17 = tf from A164))
          have A173 : bm_AI (bm_setI (bm_setI B158 15 p ((tc p) + 1)) 16 p (nI i)) 18 = tg := ((AI_setn (bm_setI B158 15 p ((tc p) + 1)) p (nI i) 18 (by decide)).trans (show bm_AI (bm_setI B158 15 p ((tc p) + 1)) 18 = tg from A165))
          have Z174 : fz lex B158 (bm_setI (bm_setI B158 15 p ((tc p) + 1)) 16 p (nI i)) := fz_trans Z166 ⟨fr_mono (fun _ q => by unfold lex; omega) (fr_setI _ 16 _ _), rfl, rfl⟩
          refine g_ald (pc' := 178) cd_Le_noteTaken rfl (Or.inr ⟨_, rfl, rfl, rfl⟩) l0 rfl rfl ?_
          refine g_fR (c := 4) (k := 5) (x := 17) (pc' := 181) cd_Le_noteTaken rfl rfl rfl rfl rfl (by decide) hR158.1.1.1 hR158.1.1.2 hR158.1.2.1.2.2.2.2.2.1 ?_
          refine g_ild (pc' := 182) cd_Le_noteTaken rfl (Or.inr ⟨_, rfl, rfl, rfl⟩) l2 rfl ?_
          refine g_ald (pc' := 183) cd_Le_noteTaken rfl (Or.inr ⟨_, rfl, rfl, rfl⟩) l0 rfl rfl ?_
          refine g_fI (c := 4) (k := 7) (x := cf) (pc' := 186) cd_Le_noteTaken rfl rfl rfl rfl rfl (by decide) hR158.1.1.1 hR158.1.1.2 hR158.2.1.2.2.1.1 ?_
          refine g_iast (pc' := 187) cd_Le_noteTaken rfl rfl hR158.1.2.2.2.2.2.2.2.1.1 hR158.1.2.2.2.2.2.2.2.1.2.1 (by rw [show bm_AL (bm_setI (bm_setI B158 15 p ((tc p) + 1)) 16 p (nI i)) 17 = 6 from hR158.1.2.2.2.2.2.2.2.1.2.2]; exact vp_in_nI (by omega) (by decide)) ?_
          rw [show (nI p : Int32).toNatClampNeg = p from nI_clamp (by omega)]
          have A175 : bm_AI (bm_setI (bm_setI (bm_setI B158 15 p ((tc p) + 1)) 16 p (nI i)) 17 p cf) 12 = (bm_AI B158 12) := ((AI_setn (bm_setI (bm_setI B158 15 p ((tc p) + 1)) 16 p (nI i)) p cf 12 (by decide)).trans (show bm_AI (bm_setI (bm_setI B158 15 p ((tc p) + 1)) 16 p (nI i)) 12 = (bm_AI B158 12) from A167))
          have A176 : bm_AI (bm_setI (bm_setI (bm_setI B158 15 p ((tc p) + 1)) 16 p (nI i)) 17 p cf) 13 = bd := ((AI_setn (bm_setI (bm_setI B158 15 p ((tc p) + 1)) 16 p (nI i)) p cf 13 (by decide)).trans (show bm_AI (bm_setI (bm_setI B158 15 p ((tc p) + 1)) 16 p (nI i)) 13 = bd from A168))
          have A177 : bm_AI (bm_setI (bm_setI (bm_setI B158 15 p ((tc p) + 1)) 16 p (nI i)) 17 p cf) 14 = ll := ((AI_setn (bm_setI (bm_setI B158 15 p ((tc p) + 1)) 16 p (nI i)) p cf 14 (by decide)).trans (show bm_AI (bm_setI (bm_setI B158 15 p ((tc p) + 1)) 16 p (nI i)) 14 = ll from A169))
          have A178 : bm_AI (bm_setI (bm_setI (bm_setI B158 15 p ((tc p) + 1)) 16 p (nI i)) 17 p cf) 15 = (upd tc p ((tc p) + 1)) := ((AI_setn (bm_setI (bm_setI B158 15 p ((tc p) + 1)) 16 p (nI i)) p cf 15 (by decide)).trans (show bm_AI (bm_setI (bm_setI B158 15 p ((tc p) + 1)) 16 p (nI i)) 15 = (upd tc p ((tc p) + 1)) from A170))
          have A179 : bm_AI (bm_setI (bm_setI (bm_setI B158 15 p ((tc p) + 1)) 16 p (nI i)) 17 p cf) 16 = (upd tl p (nI i)) := ((AI_setn (bm_setI (bm_setI B158 15 p ((tc p) + 1)) 16 p (nI i)) p cf 16 (by decide)).trans (show bm_AI (bm_setI (bm_setI B158 15 p ((tc p) + 1)) 16 p (nI i)) 16 = (upd tl p (nI i)) from A171))
          have A180 : bm_AI (bm_setI (bm_setI (bm_setI B158 15 p ((tc p) + 1)) 16 p (nI i)) 17 p cf) 17 = (upd tf p cf) := ((AI_set (bm_setI (bm_setI B158 15 p ((tc p) + 1)) 16 p (nI i)) 17 p cf).trans (congrArg (fun f => upd f p cf) (show bm_AI (bm_setI (bm_setI B158 15 p ((tc p) + 1)) 16 p (nI i)) 17 = tf from A172)))
          have A181 : bm_AI (bm_setI (bm_setI (bm_setI B158 15 p ((tc p) + 1)) 16 p (nI i)) 17 p cf) 18 = tg := ((AI_setn (bm_setI (bm_setI B158 15 p ((tc p) + 1)) 16 p (nI i)) p cf 18 (by decide)).trans (show bm_AI (bm_setI (bm_setI B158 15 p ((tc p) + 1)) 16 p (nI i)) 18 = tg from A173))
          have Z182 : fz lex B158 (bm_setI (bm_setI (bm_setI B158 15 p ((tc p) + 1)) 16 p (nI i)) 17 p cf) := fz_trans Z174 ⟨fr_mono (fun _ q => by unfold lex; omega) (fr_setI _ 17 _ _), rfl, rfl⟩
          refine g_ald (pc' := 188) cd_Le_noteTaken rfl (Or.inr ⟨_, rfl, rfl, rfl⟩) l0 rfl rfl ?_
          refine g_fR (c := 4) (k := 6) (x := 18) (pc' := 191) cd_Le_noteTaken rfl rfl rfl rfl rfl (by decide) hR158.1.1.1 hR158.1.1.2 hR158.1.2.1.2.2.2.2.2.2 ?_
          refine g_ild (pc' := 192) cd_Le_noteTaken rfl (Or.inr ⟨_, rfl, rfl, rfl⟩) l2 rfl ?_
          refine g_ald (pc' := 193) cd_Le_noteTaken rfl (Or.inr ⟨_, rfl, rfl, rfl⟩) l0 rfl rfl ?_
          refine g_fI (c := 4) (k := 8) (x := cg) (pc' := 196) cd_Le_noteTaken rfl rfl rfl rfl rfl (by decide) hR158.1.1.1 hR158.1.1.2 hR158.2.1.2.2.1.2.1 ?_
          refine g_iast (pc' := 197) cd_Le_noteTaken rfl rfl hR158.1.2.2.2.2.2.2.2.2.1 hR158.1.2.2.2.2.2.2.2.2.2.1 (by rw [show bm_AL (bm_setI (bm_setI (bm_setI B158 15 p ((tc p) + 1)) 16 p (nI i)) 17 p cf) 18 = 6 from hR158.1.2.2.2.2.2.2.2.2.2.2]; exact vp_in_nI (by omega) (by decide)) ?_
          rw [show (nI p : Int32).toNatClampNeg = p from nI_clamp (by omega)]
          have A183 : bm_AI (bm_setI (bm_setI (bm_setI (bm_setI B158 15 p ((tc p) + 1)) 16 p (nI i)) 17 p cf) 18 p cg) 12 = (bm_AI B158 12) := ((AI_setn (bm_setI (bm_setI (bm_setI B158 15 p ((tc p) + 1)) 16 p (nI i)) 17 p cf) p cg 12 (by decide)).trans (show bm_AI (bm_setI (bm_setI (bm_setI B158 15 p ((tc p) + 1)) 16 p (nI i)) 17 p cf) 12 = (bm_AI B158 12) from A175))
          have A184 : bm_AI (bm_setI (bm_setI (bm_setI (bm_setI B158 15 p ((tc p) + 1)) 16 p (nI i)) 17 p cf) 18 p cg) 13 = bd := ((AI_setn (bm_setI (bm_setI (bm_setI B158 15 p ((tc p) + 1)) 16 p (nI i)) 17 p cf) p cg 13 (by decide)).trans (show bm_AI (bm_setI (bm_setI (bm_setI B158 15 p ((tc p) + 1)) 16 p (nI i)) 17 p cf) 13 = bd from A176))
          have A185 : bm_AI (bm_setI (bm_setI (bm_setI (bm_setI B158 15 p ((tc p) + 1)) 16 p (nI i)) 17 p cf) 18 p cg) 14 = ll := ((AI_setn (bm_setI (bm_setI (bm_setI B158 15 p ((tc p) + 1)) 16 p (nI i)) 17 p cf) p cg 14 (by decide)).trans (show bm_AI (bm_setI (bm_setI (bm_setI B158 15 p ((tc p) + 1)) 16 p (nI i)) 17 p cf) 14 = ll from A177))
          have A186 : bm_AI (bm_setI (bm_setI (bm_setI (bm_setI B158 15 p ((tc p) + 1)) 16 p (nI i)) 17 p cf) 18 p cg) 15 = (upd tc p ((tc p) + 1)) := ((AI_setn (bm_setI (bm_setI (bm_setI B158 15 p ((tc p) + 1)) 16 p (nI i)) 17 p cf) p cg 15 (by decide)).trans (show bm_AI (bm_setI (bm_setI (bm_setI B158 15 p ((tc p) + 1)) 16 p (nI i)) 17 p cf) 15 = (upd tc p ((tc p) + 1)) from A178))
          have A187 : bm_AI (bm_setI (bm_setI (bm_setI (bm_setI B158 15 p ((tc p) + 1)) 16 p (nI i)) 17 p cf) 18 p cg) 16 = (upd tl p (nI i)) := ((AI_setn (bm_setI (bm_setI (bm_setI B158 15 p ((tc p) + 1)) 16 p (nI i)) 17 p cf) p cg 16 (by decide)).trans (show bm_AI (bm_setI (bm_setI (bm_setI B158 15 p ((tc p) + 1)) 16 p (nI i)) 17 p cf) 16 = (upd tl p (nI i)) from A179))
          have A188 : bm_AI (bm_setI (bm_setI (bm_setI (bm_setI B158 15 p ((tc p) + 1)) 16 p (nI i)) 17 p cf) 18 p cg) 17 = (upd tf p cf) := ((AI_setn (bm_setI (bm_setI (bm_setI B158 15 p ((tc p) + 1)) 16 p (nI i)) 17 p cf) p cg 17 (by decide)).trans (show bm_AI (bm_setI (bm_setI (bm_setI B158 15 p ((tc p) + 1)) 16 p (nI i)) 17 p cf) 17 = (upd tf p cf) from A180))
          have A189 : bm_AI (bm_setI (bm_setI (bm_setI (bm_setI B158 15 p ((tc p) + 1)) 16 p (nI i)) 17 p cf) 18 p cg) 18 = (upd tg p cg) := ((AI_set (bm_setI (bm_setI (bm_setI B158 15 p ((tc p) + 1)) 16 p (nI i)) 17 p cf) 18 p cg).trans (congrArg (fun f => upd f p cg) (show bm_AI (bm_setI (bm_setI (bm_setI B158 15 p ((tc p) + 1)) 16 p (nI i)) 17 p cf) 18 = tg from A181)))
          have Z190 : fz lex B158 (bm_setI (bm_setI (bm_setI (bm_setI B158 15 p ((tc p) + 1)) 16 p (nI i)) 17 p cf) 18 p cg) := fz_trans Z182 ⟨fr_mono (fun _ q => by unfold lex; omega) (fr_setI _ 18 _ _), rfl, rfl⟩
          have hRz : RLe (bm_setI (bm_setI (bm_setI (bm_setI B158 15 p ((tc p) + 1)) 16 p (nI i)) 17 p cf) 18 p cg) T ((L.set i (se, fm, to, gr, ma, on, mi, th, (tk ||| (1 <<< (nI p &&& 31))), sf)), bd, ll, upd tc p (tc p + 1), upd tl p (nI i), upd tf p cf, upd tg p cg, cf, cg, ct, co, li, fo, db) := ⟨LgS_fr hR158.1 Z190.1, ⟨hR158.2.1.1, ⟨A184, A185, A186, A187, A188, A189⟩, hR158.2.1.2.2⟩, (by rw [show bm_AI (bm_setI (bm_setI (bm_setI (bm_setI B158 15 p ((tc p) + 1)) 16 p (nI i)) 17 p cf) 18 p cg) 12 = _ from A183]; exact hR158.2.2)⟩
          have hEq : lg_taken (L, bd, ll, tc, tl, tf, tg, cf, cg, ct, co, li, fo, db) p = ((L.set i (se, fm, to, gr, ma, on, mi, th, (tk ||| (1 <<< (nI p &&& 31))), sf)), bd, ll, upd tc p (tc p + 1), upd tl p (nI i), upd tf p cf, upd tg p cg, cf, cg, ct, co, li, fo, db) := by unfold lg_taken; dsimp only; rw [hl, lg_get_t he h7]; dsimp only; rw [nI_clamp (show i < 2 ^ 31 by omega)]; simp only [lt_take, ← hso, n26, n40, n118]; simp
          exact g_retv cd_Le_noteTaken rfl ⟨rfl, (kk _ (hEq ▸ hRz) (fz_trans hz158 Z190))⟩
        · have c118 : so = true := bz_t c118
          have n118 := c118
          refine g_ald (pc' := 122) cd_Le_noteTaken rfl (Or.inr ⟨_, rfl, rfl, rfl⟩) l0 rfl rfl ?_
          refine g_fI (c := 4) (k := 10) (x := bz co) (pc' := 125) cd_Le_noteTaken rfl rfl rfl rfl rfl (by decide) hR158.1.1.1 hR158.1.1.2 hR158.2.1.2.2.1.2.2.2 ?_
          refine g_if1 (t := 160) (pc' := 128) cd_Le_noteTaken rfl rfl rfl (fun c125 => ?_) (fun c125 => ?_)
          · have c125 : co = false := bz_f c125
            have n125 := c125
            refine g_ald (pc' := 161) cd_Le_noteTaken rfl (Or.inr ⟨_, rfl, rfl, rfl⟩) l0 rfl rfl ?_
            refine g_fR (c := 4) (k := 3) (x := 15) (pc' := 164) cd_Le_noteTaken rfl rfl rfl rfl rfl (by decide) hR158.1.1.1 hR158.1.1.2 hR158.1.2.1.2.2.2.1 ?_
            refine g_ild (pc' := 165) cd_Le_noteTaken rfl (Or.inr ⟨_, rfl, rfl, rfl⟩) l2 rfl ?_
            refine g_pure (pc' := 166) (st' := [.int (nI p), .ref 15, .int (nI p), .ref 15]) cd_Le_noteTaken rfl rfl (fun _ _ => rfl) ?_
            refine g_aI (x := (tc p)) (pc' := 167) cd_Le_noteTaken rfl rfl hR158.1.2.2.2.2.2.1.1 hR158.1.2.2.2.2.2.1.2.1 (by rw [show bm_AL B158 15 = 6 from hR158.1.2.2.2.2.2.1.2.2]; exact vp_in_nI (by omega) (by decide)) (by rw [nI_clamp (by omega)]; exact congrFun (show bm_AI B158 15 = tc from hR158.2.1.2.1.2.2.1) p) ?_
            refine g_k1 (v := 1) (pc' := 168) cd_Le_noteTaken rfl (by decide) rfl ?_
            refine g_pure (pc' := 169) (st' := [.int ((tc p) + 1), .int (nI p), .ref 15]) cd_Le_noteTaken rfl rfl (fun _ _ => rfl) ?_
            refine g_iast (pc' := 170) cd_Le_noteTaken rfl rfl hR158.1.2.2.2.2.2.1.1 hR158.1.2.2.2.2.2.1.2.1 (by rw [show bm_AL B158 15 = 6 from hR158.1.2.2.2.2.2.1.2.2]; exact vp_in_nI (by omega) (by decide)) ?_
            rw [show (nI p : Int32).toNatClampNeg = p from nI_clamp (by omega)]
            have A191 : bm_AI (bm_setI B158 15 p ((tc p) + 1)) 12 = (bm_AI B158 12) := ((AI_setn B158 p ((tc p) + 1) 12 (by decide)).trans (show bm_AI B158 12 = (bm_AI B158 12) from rfl))
            have A192 : bm_AI (bm_setI B158 15 p ((tc p) + 1)) 13 = bd := ((AI_setn B158 p ((tc p) + 1) 13 (by decide)).trans (show bm_AI B158 13 = bd from hR158.2.1.2.1.1))
            have A193 : bm_AI (bm_setI B158 15 p ((tc p) + 1)) 14 = ll := ((AI_setn B158 p ((tc p) + 1) 14 (by decide)).trans (show bm_AI B158 14 = ll from hR158.2.1.2.1.2.1))
            have A194 : bm_AI (bm_setI B158 15 p ((tc p) + 1)) 15 = (upd tc p ((tc p) + 1)) := ((AI_set B158 15 p ((tc p) + 1)).trans (congrArg (fun f => upd f p ((tc p) + 1)) (show bm_AI B158 15 = tc from hR158.2.1.2.1.2.2.1)))
            have A195 : bm_AI (bm_setI B158 15 p ((tc p) + 1)) 16 = tl := ((AI_setn B158 p ((tc p) + 1) 16 (by decide)).trans (show bm_AI B158 16 = tl from hR158.2.1.2.1.2.2.2.1))
            have A196 : bm_AI (bm_setI B158 15 p ((tc p) + 1)) 17 = tf := ((AI_setn B158 p ((tc p) + 1) 17 (by decide)).trans (show bm_AI B158 17 = tf from hR158.2.1.2.1.2.2.2.2.1))
            have A197 : bm_AI (bm_setI B158 15 p ((tc p) + 1)) 18 = tg := ((AI_setn B158 p ((tc p) + 1) 18 (by decide)).trans (show bm_AI B158 18 = tg from hR158.2.1.2.1.2.2.2.2.2))
            have Z198 : fz lex B158 (bm_setI B158 15 p ((tc p) + 1)) := fz_trans (fz_rfl _ B158) ⟨fr_mono (fun _ q => by unfold lex; omega) (fr_setI _ 15 _ _), rfl, rfl⟩
            refine g_ald (pc' := 171) cd_Le_noteTaken rfl (Or.inr ⟨_, rfl, rfl, rfl⟩) l0 rfl rfl ?_
            refine g_fR (c := 4) (k := 4) (x := 16) (pc' := 174) cd_Le_noteTaken rfl rfl rfl rfl rfl (by decide) hR158.1.1.1 hR158.1.1.2 hR158.1.2.1.2.2.2.2.1 ?_
            refine g_ild (pc' := 175) cd_Le_noteTaken rfl (Or.inr ⟨_, rfl, rfl, rfl⟩) l2 rfl ?_
            refine g_ild (pc' := 176) cd_Le_noteTaken rfl (Or.inr ⟨_, rfl, rfl, rfl⟩) l3 rfl ?_
            refine g_iast (pc' := 177) cd_Le_noteTaken rfl rfl hR158.1.2.2.2.2.2.2.1.1 hR158.1.2.2.2.2.2.2.1.2.1 (by rw [show bm_AL (bm_setI B158 15 p ((tc p) + 1)) 16 = 6 from hR158.1.2.2.2.2.2.2.1.2.2]; exact vp_in_nI (by omega) (by decide)) ?_
            rw [show (nI p : Int32).toNatClampNeg = p from nI_clamp (by omega)]
            have A199 : bm_AI (bm_setI (bm_setI B158 15 p ((tc p) + 1)) 16 p (nI i)) 12 = (bm_AI B158 12) := ((AI_setn (bm_setI B158 15 p ((tc p) + 1)) p (nI i) 12 (by decide)).trans (show bm_AI (bm_setI B158 15 p ((tc p) + 1)) 12 = (bm_AI B158 12) from A191))
            have A200 : bm_AI (bm_setI (bm_setI B158 15 p ((tc p) + 1)) 16 p (nI i)) 13 = bd := ((AI_setn (bm_setI B158 15 p ((tc p) + 1)) p (nI i) 13 (by decide)).trans (show bm_AI (bm_setI B158 15 p ((tc p) + 1)) 13 = bd from A192))
            have A201 : bm_AI (bm_setI (bm_setI B158 15 p ((tc p) + 1)) 16 p (nI i)) 14 = ll := ((AI_setn (bm_setI B158 15 p ((tc p) + 1)) p (nI i) 14 (by decide)).trans (show bm_AI (bm_setI B158 15 p ((tc p) + 1)) 14 = ll from A193))
            have A202 : bm_AI (bm_setI (bm_setI B158 15 p ((tc p) + 1)) 16 p (nI i)) 15 = (upd tc p ((tc p) + 1)) := ((AI_setn (bm_setI B158 15 p ((tc p) + 1)) p (nI i) 15 (by decide)).trans (show bm_AI (bm_setI B158 15 p ((tc p) + 1)) 15 = (upd tc p ((tc p) + 1)) from A194))
            have A203 : bm_AI (bm_setI (bm_setI B158 15 p ((tc p) + 1)) 16 p (nI i)) 16 = (upd tl p (nI i)) := ((AI_set (bm_setI B158 15 p ((tc p) + 1)) 16 p (nI i)).trans (congrArg (fun f => upd f p (nI i)) (show bm_AI (bm_setI B158 15 p ((tc p) + 1)) 16 = tl from A195)))
            have A204 : bm_AI (bm_setI (bm_setI B158 15 p ((tc p) + 1)) 16 p (nI i)) 17 = tf := ((AI_setn (bm_setI B158 15 p ((tc p) + 1)) p (nI i) 17 (by decide)).trans (show bm_AI (bm_setI B158 15 p ((tc p) + 1)) 17 = tf from A196))
            have A205 : bm_AI (bm_setI (bm_setI B158 15 p ((tc p) + 1)) 16 p (nI i)) 18 = tg := ((AI_setn (bm_setI B158 15 p ((tc p) + 1)) p (nI i) 18 (by decide)).trans (show bm_AI (bm_setI B158 15 p ((tc p) + 1)) 18 = tg from A197))
            have Z206 : fz lex B158 (bm_setI (bm_setI B158 15 p ((tc p) + 1)) 16 p (nI i)) := fz_trans Z198 ⟨fr_mono (fun _ q => by unfold lex; omega) (fr_setI _ 16 _ _), rfl, rfl⟩
            refine g_ald (pc' := 178) cd_Le_noteTaken rfl (Or.inr ⟨_, rfl, rfl, rfl⟩) l0 rfl rfl ?_
            refine g_fR (c := 4) (k := 5) (x := 17) (pc' := 181) cd_Le_noteTaken rfl rfl rfl rfl rfl (by decide) hR158.1.1.1 hR158.1.1.2 hR158.1.2.1.2.2.2.2.2.1 ?_
            refine g_ild (pc' := 182) cd_Le_noteTaken rfl (Or.inr ⟨_, rfl, rfl, rfl⟩) l2 rfl ?_
            refine g_ald (pc' := 183) cd_Le_noteTaken rfl (Or.inr ⟨_, rfl, rfl, rfl⟩) l0 rfl rfl ?_
            refine g_fI (c := 4) (k := 7) (x := cf) (pc' := 186) cd_Le_noteTaken rfl rfl rfl rfl rfl (by decide) hR158.1.1.1 hR158.1.1.2 hR158.2.1.2.2.1.1 ?_
            refine g_iast (pc' := 187) cd_Le_noteTaken rfl rfl hR158.1.2.2.2.2.2.2.2.1.1 hR158.1.2.2.2.2.2.2.2.1.2.1 (by rw [show bm_AL (bm_setI (bm_setI B158 15 p ((tc p) + 1)) 16 p (nI i)) 17 = 6 from hR158.1.2.2.2.2.2.2.2.1.2.2]; exact vp_in_nI (by omega) (by decide)) ?_
            rw [show (nI p : Int32).toNatClampNeg = p from nI_clamp (by omega)]
            have A207 : bm_AI (bm_setI (bm_setI (bm_setI B158 15 p ((tc p) + 1)) 16 p (nI i)) 17 p cf) 12 = (bm_AI B158 12) := ((AI_setn (bm_setI (bm_setI B158 15 p ((tc p) + 1)) 16 p (nI i)) p cf 12 (by decide)).trans (show bm_AI (bm_setI (bm_setI B158 15 p ((tc p) + 1)) 16 p (nI i)) 12 = (bm_AI B158 12) from A199))
            have A208 : bm_AI (bm_setI (bm_setI (bm_setI B158 15 p ((tc p) + 1)) 16 p (nI i)) 17 p cf) 13 = bd := ((AI_setn (bm_setI (bm_setI B158 15 p ((tc p) + 1)) 16 p (nI i)) p cf 13 (by decide)).trans (show bm_AI (bm_setI (bm_setI B158 15 p ((tc p) + 1)) 16 p (nI i)) 13 = bd from A200))
            have A209 : bm_AI (bm_setI (bm_setI (bm_setI B158 15 p ((tc p) + 1)) 16 p (nI i)) 17 p cf) 14 = ll := ((AI_setn (bm_setI (bm_setI B158 15 p ((tc p) + 1)) 16 p (nI i)) p cf 14 (by decide)).trans (show bm_AI (bm_setI (bm_setI B158 15 p ((tc p) + 1)) 16 p (nI i)) 14 = ll from A201))
            have A210 : bm_AI (bm_setI (bm_setI (bm_setI B158 15 p ((tc p) + 1)) 16 p (nI i)) 17 p cf) 15 = (upd tc p ((tc p) + 1)) := ((AI_setn (bm_setI (bm_setI B158 15 p ((tc p) + 1)) 16 p (nI i)) p cf 15 (by decide)).trans (show bm_AI (bm_setI (bm_setI B158 15 p ((tc p) + 1)) 16 p (nI i)) 15 = (upd tc p ((tc p) + 1)) from A202))
            have A211 : bm_AI (bm_setI (bm_setI (bm_setI B158 15 p ((tc p) + 1)) 16 p (nI i)) 17 p cf) 16 = (upd tl p (nI i)) := ((AI_setn (bm_setI (bm_setI B158 15 p ((tc p) + 1)) 16 p (nI i)) p cf 16 (by decide)).trans (show bm_AI (bm_setI (bm_setI B158 15 p ((tc p) + 1)) 16 p (nI i)) 16 = (upd tl p (nI i)) from A203))
            have A212 : bm_AI (bm_setI (bm_setI (bm_setI B158 15 p ((tc p) + 1)) 16 p (nI i)) 17 p cf) 17 = (upd tf p cf) := ((AI_set (bm_setI (bm_setI B158 15 p ((tc p) + 1)) 16 p (nI i)) 17 p cf).trans (congrArg (fun f => upd f p cf) (show bm_AI (bm_setI (bm_setI B158 15 p ((tc p) + 1)) 16 p (nI i)) 17 = tf from A204)))
            have A213 : bm_AI (bm_setI (bm_setI (bm_setI B158 15 p ((tc p) + 1)) 16 p (nI i)) 17 p cf) 18 = tg := ((AI_setn (bm_setI (bm_setI B158 15 p ((tc p) + 1)) 16 p (nI i)) p cf 18 (by decide)).trans (show bm_AI (bm_setI (bm_setI B158 15 p ((tc p) + 1)) 16 p (nI i)) 18 = tg from A205))
            have Z214 : fz lex B158 (bm_setI (bm_setI (bm_setI B158 15 p ((tc p) + 1)) 16 p (nI i)) 17 p cf) := fz_trans Z206 ⟨fr_mono (fun _ q => by unfold lex; omega) (fr_setI _ 17 _ _), rfl, rfl⟩
            refine g_ald (pc' := 188) cd_Le_noteTaken rfl (Or.inr ⟨_, rfl, rfl, rfl⟩) l0 rfl rfl ?_
            refine g_fR (c := 4) (k := 6) (x := 18) (pc' := 191) cd_Le_noteTaken rfl rfl rfl rfl rfl (by decide) hR158.1.1.1 hR158.1.1.2 hR158.1.2.1.2.2.2.2.2.2 ?_
            refine g_ild (pc' := 192) cd_Le_noteTaken rfl (Or.inr ⟨_, rfl, rfl, rfl⟩) l2 rfl ?_
            refine g_ald (pc' := 193) cd_Le_noteTaken rfl (Or.inr ⟨_, rfl, rfl, rfl⟩) l0 rfl rfl ?_
            refine g_fI (c := 4) (k := 8) (x := cg) (pc' := 196) cd_Le_noteTaken rfl rfl rfl rfl rfl (by decide) hR158.1.1.1 hR158.1.1.2 hR158.2.1.2.2.1.2.1 ?_
            refine g_iast (pc' := 197) cd_Le_noteTaken rfl rfl hR158.1.2.2.2.2.2.2.2.2.1 hR158.1.2.2.2.2.2.2.2.2.2.1 (by rw [show bm_AL (bm_setI (bm_setI (bm_setI B158 15 p ((tc p) + 1)) 16 p (nI i)) 17 p cf) 18 = 6 from hR158.1.2.2.2.2.2.2.2.2.2.2]; exact vp_in_nI (by omega) (by decide)) ?_
            rw [show (nI p : Int32).toNatClampNeg = p from nI_clamp (by omega)]
            have A215 : bm_AI (bm_setI (bm_setI (bm_setI (bm_setI B158 15 p ((tc p) + 1)) 16 p (nI i)) 17 p cf) 18 p cg) 12 = (bm_AI B158 12) := ((AI_setn (bm_setI (bm_setI (bm_setI B158 15 p ((tc p) + 1)) 16 p (nI i)) 17 p cf) p cg 12 (by decide)).trans (show bm_AI (bm_setI (bm_setI (bm_setI B158 15 p ((tc p) + 1)) 16 p (nI i)) 17 p cf) 12 = (bm_AI B158 12) from A207))
            have A216 : bm_AI (bm_setI (bm_setI (bm_setI (bm_setI B158 15 p ((tc p) + 1)) 16 p (nI i)) 17 p cf) 18 p cg) 13 = bd := ((AI_setn (bm_setI (bm_setI (bm_setI B158 15 p ((tc p) + 1)) 16 p (nI i)) 17 p cf) p cg 13 (by decide)).trans (show bm_AI (bm_setI (bm_setI (bm_setI B158 15 p ((tc p) + 1)) 16 p (nI i)) 17 p cf) 13 = bd from A208))
            have A217 : bm_AI (bm_setI (bm_setI (bm_setI (bm_setI B158 15 p ((tc p) + 1)) 16 p (nI i)) 17 p cf) 18 p cg) 14 = ll := ((AI_setn (bm_setI (bm_setI (bm_setI B158 15 p ((tc p) + 1)) 16 p (nI i)) 17 p cf) p cg 14 (by decide)).trans (show bm_AI (bm_setI (bm_setI (bm_setI B158 15 p ((tc p) + 1)) 16 p (nI i)) 17 p cf) 14 = ll from A209))
            have A218 : bm_AI (bm_setI (bm_setI (bm_setI (bm_setI B158 15 p ((tc p) + 1)) 16 p (nI i)) 17 p cf) 18 p cg) 15 = (upd tc p ((tc p) + 1)) := ((AI_setn (bm_setI (bm_setI (bm_setI B158 15 p ((tc p) + 1)) 16 p (nI i)) 17 p cf) p cg 15 (by decide)).trans (show bm_AI (bm_setI (bm_setI (bm_setI B158 15 p ((tc p) + 1)) 16 p (nI i)) 17 p cf) 15 = (upd tc p ((tc p) + 1)) from A210))
            have A219 : bm_AI (bm_setI (bm_setI (bm_setI (bm_setI B158 15 p ((tc p) + 1)) 16 p (nI i)) 17 p cf) 18 p cg) 16 = (upd tl p (nI i)) := ((AI_setn (bm_setI (bm_setI (bm_setI B158 15 p ((tc p) + 1)) 16 p (nI i)) 17 p cf) p cg 16 (by decide)).trans (show bm_AI (bm_setI (bm_setI (bm_setI B158 15 p ((tc p) + 1)) 16 p (nI i)) 17 p cf) 16 = (upd tl p (nI i)) from A211))
            have A220 : bm_AI (bm_setI (bm_setI (bm_setI (bm_setI B158 15 p ((tc p) + 1)) 16 p (nI i)) 17 p cf) 18 p cg) 17 = (upd tf p cf) := ((AI_setn (bm_setI (bm_setI (bm_setI B158 15 p ((tc p) + 1)) 16 p (nI i)) 17 p cf) p cg 17 (by decide)).trans (show bm_AI (bm_setI (bm_setI (bm_setI B158 15 p ((tc p) + 1)) 16 p (nI i)) 17 p cf) 17 = (upd tf p cf) from A212))
            have A221 : bm_AI (bm_setI (bm_setI (bm_setI (bm_setI B158 15 p ((tc p) + 1)) 16 p (nI i)) 17 p cf) 18 p cg) 18 = (upd tg p cg) := ((AI_set (bm_setI (bm_setI (bm_setI B158 15 p ((tc p) + 1)) 16 p (nI i)) 17 p cf) 18 p cg).trans (congrArg (fun f => upd f p cg) (show bm_AI (bm_setI (bm_setI (bm_setI B158 15 p ((tc p) + 1)) 16 p (nI i)) 17 p cf) 18 = tg from A213)))
            have Z222 : fz lex B158 (bm_setI (bm_setI (bm_setI (bm_setI B158 15 p ((tc p) + 1)) 16 p (nI i)) 17 p cf) 18 p cg) := fz_trans Z214 ⟨fr_mono (fun _ q => by unfold lex; omega) (fr_setI _ 18 _ _), rfl, rfl⟩
            have hRz : RLe (bm_setI (bm_setI (bm_setI (bm_setI B158 15 p ((tc p) + 1)) 16 p (nI i)) 17 p cf) 18 p cg) T ((L.set i (se, fm, to, gr, ma, on, mi, th, (tk ||| (1 <<< (nI p &&& 31))), sf)), bd, ll, upd tc p (tc p + 1), upd tl p (nI i), upd tf p cf, upd tg p cg, cf, cg, ct, co, li, fo, db) := ⟨LgS_fr hR158.1 Z222.1, ⟨hR158.2.1.1, ⟨A216, A217, A218, A219, A220, A221⟩, hR158.2.1.2.2⟩, (by rw [show bm_AI (bm_setI (bm_setI (bm_setI (bm_setI B158 15 p ((tc p) + 1)) 16 p (nI i)) 17 p cf) 18 p cg) 12 = _ from A215]; exact hR158.2.2)⟩
            have hEq : lg_taken (L, bd, ll, tc, tl, tf, tg, cf, cg, ct, co, li, fo, db) p = ((L.set i (se, fm, to, gr, ma, on, mi, th, (tk ||| (1 <<< (nI p &&& 31))), sf)), bd, ll, upd tc p (tc p + 1), upd tl p (nI i), upd tf p cf, upd tg p cg, cf, cg, ct, co, li, fo, db) := by unfold lg_taken; dsimp only; rw [hl, lg_get_t he h7]; dsimp only; rw [nI_clamp (show i < 2 ^ 31 by omega)]; simp only [lt_take, ← hso, n26, n40, n118, n125]; simp
            exact g_retv cd_Le_noteTaken rfl ⟨rfl, (kk _ (hEq ▸ hRz) (fz_trans hz158 Z222))⟩
          · have c125 : co = true := bz_t c125
            have n125 := c125
            refine g_ald (pc' := 129) cd_Le_noteTaken rfl (Or.inr ⟨_, rfl, rfl, rfl⟩) l0 rfl rfl ?_
            refine g_ild (pc' := 130) cd_Le_noteTaken rfl (Or.inr ⟨_, rfl, rfl, rfl⟩) l3 rfl ?_
            refine g_k1 (v := 4) (pc' := 131) cd_Le_noteTaken rfl (by decide) rfl ?_
            refine g_calli (pc' := 134) cd_Le_noteTaken rfl rfl rfl rfl rfl (tm_invV rfl rfl cd_Le_of rfl (Nat.le_of_ble_eq_true rfl) (by decide) hR158.1.1.1 hR158.1.1.2) (t_Lof (k := 4) hR158 hi157 (by decide) ?_)
            rw [show bm_AI B158 12 (i * 10 + 4) = ma from (hR158.2.2.1 i _ he157).2.2.2.2.1]
            show bm_G _ _ _ 134 _ [.int ma] B158 _
            refine g_ald (pc' := 135) cd_Le_noteTaken rfl (Or.inr ⟨_, rfl, rfl, rfl⟩) l0 rfl rfl ?_
            refine g_fI (c := 4) (k := 12) (x := li) (pc' := 138) cd_Le_noteTaken rfl rfl rfl rfl rfl (by decide) hR158.1.1.1 hR158.1.1.2 hR158.2.1.2.2.2.1 ?_
            refine g_pure (pc' := 139) (st' := [.int (ma &&& li)]) cd_Le_noteTaken rfl rfl (fun _ _ => rfl) ?_
            refine g_if1 (t := 160) (pc' := 142) cd_Le_noteTaken rfl rfl rfl (fun c139 => ?_) (fun c139 => ?_)
            · have c139 : ¬ (ma &&& li) = 0 := c139
              have n139 := c139
              refine g_ald (pc' := 161) cd_Le_noteTaken rfl (Or.inr ⟨_, rfl, rfl, rfl⟩) l0 rfl rfl ?_
              refine g_fR (c := 4) (k := 3) (x := 15) (pc' := 164) cd_Le_noteTaken rfl rfl rfl rfl rfl (by decide) hR158.1.1.1 hR158.1.1.2 hR158.1.2.1.2.2.2.1 ?_
              refine g_ild (pc' := 165) cd_Le_noteTaken rfl (Or.inr ⟨_, rfl, rfl, rfl⟩) l2 rfl ?_
              refine g_pure (pc' := 166) (st' := [.int (nI p), .ref 15, .int (nI p), .ref 15]) cd_Le_noteTaken rfl rfl (fun _ _ => rfl) ?_
              refine g_aI (x := (tc p)) (pc' := 167) cd_Le_noteTaken rfl rfl hR158.1.2.2.2.2.2.1.1 hR158.1.2.2.2.2.2.1.2.1 (by rw [show bm_AL B158 15 = 6 from hR158.1.2.2.2.2.2.1.2.2]; exact vp_in_nI (by omega) (by decide)) (by rw [nI_clamp (by omega)]; exact congrFun (show bm_AI B158 15 = tc from hR158.2.1.2.1.2.2.1) p) ?_
              refine g_k1 (v := 1) (pc' := 168) cd_Le_noteTaken rfl (by decide) rfl ?_
              refine g_pure (pc' := 169) (st' := [.int ((tc p) + 1), .int (nI p), .ref 15]) cd_Le_noteTaken rfl rfl (fun _ _ => rfl) ?_
              refine g_iast (pc' := 170) cd_Le_noteTaken rfl rfl hR158.1.2.2.2.2.2.1.1 hR158.1.2.2.2.2.2.1.2.1 (by rw [show bm_AL B158 15 = 6 from hR158.1.2.2.2.2.2.1.2.2]; exact vp_in_nI (by omega) (by decide)) ?_
              rw [show (nI p : Int32).toNatClampNeg = p from nI_clamp (by omega)]
              have A223 : bm_AI (bm_setI B158 15 p ((tc p) + 1)) 12 = (bm_AI B158 12) := ((AI_setn B158 p ((tc p) + 1) 12 (by decide)).trans (show bm_AI B158 12 = (bm_AI B158 12) from rfl))
              have A224 : bm_AI (bm_setI B158 15 p ((tc p) + 1)) 13 = bd := ((AI_setn B158 p ((tc p) + 1) 13 (by decide)).trans (show bm_AI B158 13 = bd from hR158.2.1.2.1.1))
              have A225 : bm_AI (bm_setI B158 15 p ((tc p) + 1)) 14 = ll := ((AI_setn B158 p ((tc p) + 1) 14 (by decide)).trans (show bm_AI B158 14 = ll from hR158.2.1.2.1.2.1))
              have A226 : bm_AI (bm_setI B158 15 p ((tc p) + 1)) 15 = (upd tc p ((tc p) + 1)) := ((AI_set B158 15 p ((tc p) + 1)).trans (congrArg (fun f => upd f p ((tc p) + 1)) (show bm_AI B158 15 = tc from hR158.2.1.2.1.2.2.1)))
              have A227 : bm_AI (bm_setI B158 15 p ((tc p) + 1)) 16 = tl := ((AI_setn B158 p ((tc p) + 1) 16 (by decide)).trans (show bm_AI B158 16 = tl from hR158.2.1.2.1.2.2.2.1))
              have A228 : bm_AI (bm_setI B158 15 p ((tc p) + 1)) 17 = tf := ((AI_setn B158 p ((tc p) + 1) 17 (by decide)).trans (show bm_AI B158 17 = tf from hR158.2.1.2.1.2.2.2.2.1))
              have A229 : bm_AI (bm_setI B158 15 p ((tc p) + 1)) 18 = tg := ((AI_setn B158 p ((tc p) + 1) 18 (by decide)).trans (show bm_AI B158 18 = tg from hR158.2.1.2.1.2.2.2.2.2))
              have Z230 : fz lex B158 (bm_setI B158 15 p ((tc p) + 1)) := fz_trans (fz_rfl _ B158) ⟨fr_mono (fun _ q => by unfold lex; omega) (fr_setI _ 15 _ _), rfl, rfl⟩
              refine g_ald (pc' := 171) cd_Le_noteTaken rfl (Or.inr ⟨_, rfl, rfl, rfl⟩) l0 rfl rfl ?_
              refine g_fR (c := 4) (k := 4) (x := 16) (pc' := 174) cd_Le_noteTaken rfl rfl rfl rfl rfl (by decide) hR158.1.1.1 hR158.1.1.2 hR158.1.2.1.2.2.2.2.1 ?_
              refine g_ild (pc' := 175) cd_Le_noteTaken rfl (Or.inr ⟨_, rfl, rfl, rfl⟩) l2 rfl ?_
              refine g_ild (pc' := 176) cd_Le_noteTaken rfl (Or.inr ⟨_, rfl, rfl, rfl⟩) l3 rfl ?_
              refine g_iast (pc' := 177) cd_Le_noteTaken rfl rfl hR158.1.2.2.2.2.2.2.1.1 hR158.1.2.2.2.2.2.2.1.2.1 (by rw [show bm_AL (bm_setI B158 15 p ((tc p) + 1)) 16 = 6 from hR158.1.2.2.2.2.2.2.1.2.2]; exact vp_in_nI (by omega) (by decide)) ?_
              rw [show (nI p : Int32).toNatClampNeg = p from nI_clamp (by omega)]
              have A231 : bm_AI (bm_setI (bm_setI B158 15 p ((tc p) + 1)) 16 p (nI i)) 12 = (bm_AI B158 12) := ((AI_setn (bm_setI B158 15 p ((tc p) + 1)) p (nI i) 12 (by decide)).trans (show bm_AI (bm_setI B158 15 p ((tc p) + 1)) 12 = (bm_AI B158 12) from A223))
              have A232 : bm_AI (bm_setI (bm_setI B158 15 p ((tc p) + 1)) 16 p (nI i)) 13 = bd := ((AI_setn (bm_setI B158 15 p ((tc p) + 1)) p (nI i) 13 (by decide)).trans (show bm_AI (bm_setI B158 15 p ((tc p) + 1)) 13 = bd from A224))
              have A233 : bm_AI (bm_setI (bm_setI B158 15 p ((tc p) + 1)) 16 p (nI i)) 14 = ll := ((AI_setn (bm_setI B158 15 p ((tc p) + 1)) p (nI i) 14 (by decide)).trans (show bm_AI (bm_setI B158 15 p ((tc p) + 1)) 14 = ll from A225))
              have A234 : bm_AI (bm_setI (bm_setI B158 15 p ((tc p) + 1)) 16 p (nI i)) 15 = (upd tc p ((tc p) + 1)) := ((AI_setn (bm_setI B158 15 p ((tc p) + 1)) p (nI i) 15 (by decide)).trans (show bm_AI (bm_setI B158 15 p ((tc p) + 1)) 15 = (upd tc p ((tc p) + 1)) from A226))
              have A235 : bm_AI (bm_setI (bm_setI B158 15 p ((tc p) + 1)) 16 p (nI i)) 16 = (upd tl p (nI i)) := ((AI_set (bm_setI B158 15 p ((tc p) + 1)) 16 p (nI i)).trans (congrArg (fun f => upd f p (nI i)) (show bm_AI (bm_setI B158 15 p ((tc p) + 1)) 16 = tl from A227)))
              have A236 : bm_AI (bm_setI (bm_setI B158 15 p ((tc p) + 1)) 16 p (nI i)) 17 = tf := ((AI_setn (bm_setI B158 15 p ((tc p) + 1)) p (nI i) 17 (by decide)).trans (show bm_AI (bm_setI B158 15 p ((tc p) + 1)) 17 = tf from A228))
              have A237 : bm_AI (bm_setI (bm_setI B158 15 p ((tc p) + 1)) 16 p (nI i)) 18 = tg := ((AI_setn (bm_setI B158 15 p ((tc p) + 1)) p (nI i) 18 (by decide)).trans (show bm_AI (bm_setI B158 15 p ((tc p) + 1)) 18 = tg from A229))
              have Z238 : fz lex B158 (bm_setI (bm_setI B158 15 p ((tc p) + 1)) 16 p (nI i)) := fz_trans Z230 ⟨fr_mono (fun _ q => by unfold lex; omega) (fr_setI _ 16 _ _), rfl, rfl⟩
              refine g_ald (pc' := 178) cd_Le_noteTaken rfl (Or.inr ⟨_, rfl, rfl, rfl⟩) l0 rfl rfl ?_
              refine g_fR (c := 4) (k := 5) (x := 17) (pc' := 181) cd_Le_noteTaken rfl rfl rfl rfl rfl (by decide) hR158.1.1.1 hR158.1.1.2 hR158.1.2.1.2.2.2.2.2.1 ?_
              refine g_ild (pc' := 182) cd_Le_noteTaken rfl (Or.inr ⟨_, rfl, rfl, rfl⟩) l2 rfl ?_
              refine g_ald (pc' := 183) cd_Le_noteTaken rfl (Or.inr ⟨_, rfl, rfl, rfl⟩) l0 rfl rfl ?_
              refine g_fI (c := 4) (k := 7) (x := cf) (pc' := 186) cd_Le_noteTaken rfl rfl rfl rfl rfl (by decide) hR158.1.1.1 hR158.1.1.2 hR158.2.1.2.2.1.1 ?_
              refine g_iast (pc' := 187) cd_Le_noteTaken rfl rfl hR158.1.2.2.2.2.2.2.2.1.1 hR158.1.2.2.2.2.2.2.2.1.2.1 (by rw [show bm_AL (bm_setI (bm_setI B158 15 p ((tc p) + 1)) 16 p (nI i)) 17 = 6 from hR158.1.2.2.2.2.2.2.2.1.2.2]; exact vp_in_nI (by omega) (by decide)) ?_
              rw [show (nI p : Int32).toNatClampNeg = p from nI_clamp (by omega)]
              have A239 : bm_AI (bm_setI (bm_setI (bm_setI B158 15 p ((tc p) + 1)) 16 p (nI i)) 17 p cf) 12 = (bm_AI B158 12) := ((AI_setn (bm_setI (bm_setI B158 15 p ((tc p) + 1)) 16 p (nI i)) p cf 12 (by decide)).trans (show bm_AI (bm_setI (bm_setI B158 15 p ((tc p) + 1)) 16 p (nI i)) 12 = (bm_AI B158 12) from A231))
              have A240 : bm_AI (bm_setI (bm_setI (bm_setI B158 15 p ((tc p) + 1)) 16 p (nI i)) 17 p cf) 13 = bd := ((AI_setn (bm_setI (bm_setI B158 15 p ((tc p) + 1)) 16 p (nI i)) p cf 13 (by decide)).trans (show bm_AI (bm_setI (bm_setI B158 15 p ((tc p) + 1)) 16 p (nI i)) 13 = bd from A232))
              have A241 : bm_AI (bm_setI (bm_setI (bm_setI B158 15 p ((tc p) + 1)) 16 p (nI i)) 17 p cf) 14 = ll := ((AI_setn (bm_setI (bm_setI B158 15 p ((tc p) + 1)) 16 p (nI i)) p cf 14 (by decide)).trans (show bm_AI (bm_setI (bm_setI B158 15 p ((tc p) + 1)) 16 p (nI i)) 14 = ll from A233))
              have A242 : bm_AI (bm_setI (bm_setI (bm_setI B158 15 p ((tc p) + 1)) 16 p (nI i)) 17 p cf) 15 = (upd tc p ((tc p) + 1)) := ((AI_setn (bm_setI (bm_setI B158 15 p ((tc p) + 1)) 16 p (nI i)) p cf 15 (by decide)).trans (show bm_AI (bm_setI (bm_setI B158 15 p ((tc p) + 1)) 16 p (nI i)) 15 = (upd tc p ((tc p) + 1)) from A234))
              have A243 : bm_AI (bm_setI (bm_setI (bm_setI B158 15 p ((tc p) + 1)) 16 p (nI i)) 17 p cf) 16 = (upd tl p (nI i)) := ((AI_setn (bm_setI (bm_setI B158 15 p ((tc p) + 1)) 16 p (nI i)) p cf 16 (by decide)).trans (show bm_AI (bm_setI (bm_setI B158 15 p ((tc p) + 1)) 16 p (nI i)) 16 = (upd tl p (nI i)) from A235))
              have A244 : bm_AI (bm_setI (bm_setI (bm_setI B158 15 p ((tc p) + 1)) 16 p (nI i)) 17 p cf) 17 = (upd tf p cf) := ((AI_set (bm_setI (bm_setI B158 15 p ((tc p) + 1)) 16 p (nI i)) 17 p cf).trans (congrArg (fun f => upd f p cf) (show bm_AI (bm_setI (bm_setI B158 15 p ((tc p) + 1)) 16 p (nI i)) 17 = tf from A236)))
              have A245 : bm_AI (bm_setI (bm_setI (bm_setI B158 15 p ((tc p) + 1)) 16 p (nI i)) 17 p cf) 18 = tg := ((AI_setn (bm_setI (bm_setI B158 15 p ((tc p) + 1)) 16 p (nI i)) p cf 18 (by decide)).trans (show bm_AI (bm_setI (bm_setI B158 15 p ((tc p) + 1)) 16 p (nI i)) 18 = tg from A237))
              have Z246 : fz lex B158 (bm_setI (bm_setI (bm_setI B158 15 p ((tc p) + 1)) 16 p (nI i)) 17 p cf) := fz_trans Z238 ⟨fr_mono (fun _ q => by unfold lex; omega) (fr_setI _ 17 _ _), rfl, rfl⟩
              refine g_ald (pc' := 188) cd_Le_noteTaken rfl (Or.inr ⟨_, rfl, rfl, rfl⟩) l0 rfl rfl ?_
              refine g_fR (c := 4) (k := 6) (x := 18) (pc' := 191) cd_Le_noteTaken rfl rfl rfl rfl rfl (by decide) hR158.1.1.1 hR158.1.1.2 hR158.1.2.1.2.2.2.2.2.2 ?_
              refine g_ild (pc' := 192) cd_Le_noteTaken rfl (Or.inr ⟨_, rfl, rfl, rfl⟩) l2 rfl ?_
              refine g_ald (pc' := 193) cd_Le_noteTaken rfl (Or.inr ⟨_, rfl, rfl, rfl⟩) l0 rfl rfl ?_
              refine g_fI (c := 4) (k := 8) (x := cg) (pc' := 196) cd_Le_noteTaken rfl rfl rfl rfl rfl (by decide) hR158.1.1.1 hR158.1.1.2 hR158.2.1.2.2.1.2.1 ?_
              refine g_iast (pc' := 197) cd_Le_noteTaken rfl rfl hR158.1.2.2.2.2.2.2.2.2.1 hR158.1.2.2.2.2.2.2.2.2.2.1 (by rw [show bm_AL (bm_setI (bm_setI (bm_setI B158 15 p ((tc p) + 1)) 16 p (nI i)) 17 p cf) 18 = 6 from hR158.1.2.2.2.2.2.2.2.2.2.2]; exact vp_in_nI (by omega) (by decide)) ?_
              rw [show (nI p : Int32).toNatClampNeg = p from nI_clamp (by omega)]
              have A247 : bm_AI (bm_setI (bm_setI (bm_setI (bm_setI B158 15 p ((tc p) + 1)) 16 p (nI i)) 17 p cf) 18 p cg) 12 = (bm_AI B158 12) := ((AI_setn (bm_setI (bm_setI (bm_setI B158 15 p ((tc p) + 1)) 16 p (nI i)) 17 p cf) p cg 12 (by decide)).trans (show bm_AI (bm_setI (bm_setI (bm_setI B158 15 p ((tc p) + 1)) 16 p (nI i)) 17 p cf) 12 = (bm_AI B158 12) from A239))
              have A248 : bm_AI (bm_setI (bm_setI (bm_setI (bm_setI B158 15 p ((tc p) + 1)) 16 p (nI i)) 17 p cf) 18 p cg) 13 = bd := ((AI_setn (bm_setI (bm_setI (bm_setI B158 15 p ((tc p) + 1)) 16 p (nI i)) 17 p cf) p cg 13 (by decide)).trans (show bm_AI (bm_setI (bm_setI (bm_setI B158 15 p ((tc p) + 1)) 16 p (nI i)) 17 p cf) 13 = bd from A240))
              have A249 : bm_AI (bm_setI (bm_setI (bm_setI (bm_setI B158 15 p ((tc p) + 1)) 16 p (nI i)) 17 p cf) 18 p cg) 14 = ll := ((AI_setn (bm_setI (bm_setI (bm_setI B158 15 p ((tc p) + 1)) 16 p (nI i)) 17 p cf) p cg 14 (by decide)).trans (show bm_AI (bm_setI (bm_setI (bm_setI B158 15 p ((tc p) + 1)) 16 p (nI i)) 17 p cf) 14 = ll from A241))
              have A250 : bm_AI (bm_setI (bm_setI (bm_setI (bm_setI B158 15 p ((tc p) + 1)) 16 p (nI i)) 17 p cf) 18 p cg) 15 = (upd tc p ((tc p) + 1)) := ((AI_setn (bm_setI (bm_setI (bm_setI B158 15 p ((tc p) + 1)) 16 p (nI i)) 17 p cf) p cg 15 (by decide)).trans (show bm_AI (bm_setI (bm_setI (bm_setI B158 15 p ((tc p) + 1)) 16 p (nI i)) 17 p cf) 15 = (upd tc p ((tc p) + 1)) from A242))
              have A251 : bm_AI (bm_setI (bm_setI (bm_setI (bm_setI B158 15 p ((tc p) + 1)) 16 p (nI i)) 17 p cf) 18 p cg) 16 = (upd tl p (nI i)) := ((AI_setn (bm_setI (bm_setI (bm_setI B158 15 p ((tc p) + 1)) 16 p (nI i)) 17 p cf) p cg 16 (by decide)).trans (show bm_AI (bm_setI (bm_setI (bm_setI B158 15 p ((tc p) + 1)) 16 p (nI i)) 17 p cf) 16 = (upd tl p (nI i)) from A243))
              have A252 : bm_AI (bm_setI (bm_setI (bm_setI (bm_setI B158 15 p ((tc p) + 1)) 16 p (nI i)) 17 p cf) 18 p cg) 17 = (upd tf p cf) := ((AI_setn (bm_setI (bm_setI (bm_setI B158 15 p ((tc p) + 1)) 16 p (nI i)) 17 p cf) p cg 17 (by decide)).trans (show bm_AI (bm_setI (bm_setI (bm_setI B158 15 p ((tc p) + 1)) 16 p (nI i)) 17 p cf) 17 = (upd tf p cf) from A244))
              have A253 : bm_AI (bm_setI (bm_setI (bm_setI (bm_setI B158 15 p ((tc p) + 1)) 16 p (nI i)) 17 p cf) 18 p cg) 18 = (upd tg p cg) := ((AI_set (bm_setI (bm_setI (bm_setI B158 15 p ((tc p) + 1)) 16 p (nI i)) 17 p cf) 18 p cg).trans (congrArg (fun f => upd f p cg) (show bm_AI (bm_setI (bm_setI (bm_setI B158 15 p ((tc p) + 1)) 16 p (nI i)) 17 p cf) 18 = tg from A245)))
              have Z254 : fz lex B158 (bm_setI (bm_setI (bm_setI (bm_setI B158 15 p ((tc p) + 1)) 16 p (nI i)) 17 p cf) 18 p cg) := fz_trans Z246 ⟨fr_mono (fun _ q => by unfold lex; omega) (fr_setI _ 18 _ _), rfl, rfl⟩
              have hRz : RLe (bm_setI (bm_setI (bm_setI (bm_setI B158 15 p ((tc p) + 1)) 16 p (nI i)) 17 p cf) 18 p cg) T ((L.set i (se, fm, to, gr, ma, on, mi, th, (tk ||| (1 <<< (nI p &&& 31))), sf)), bd, ll, upd tc p (tc p + 1), upd tl p (nI i), upd tf p cf, upd tg p cg, cf, cg, ct, co, li, fo, db) := ⟨LgS_fr hR158.1 Z254.1, ⟨hR158.2.1.1, ⟨A248, A249, A250, A251, A252, A253⟩, hR158.2.1.2.2⟩, (by rw [show bm_AI (bm_setI (bm_setI (bm_setI (bm_setI B158 15 p ((tc p) + 1)) 16 p (nI i)) 17 p cf) 18 p cg) 12 = _ from A247]; exact hR158.2.2)⟩
              have hEq : lg_taken (L, bd, ll, tc, tl, tf, tg, cf, cg, ct, co, li, fo, db) p = ((L.set i (se, fm, to, gr, ma, on, mi, th, (tk ||| (1 <<< (nI p &&& 31))), sf)), bd, ll, upd tc p (tc p + 1), upd tl p (nI i), upd tf p cf, upd tg p cg, cf, cg, ct, co, li, fo, db) := by unfold lg_taken; dsimp only; rw [hl, lg_get_t he h7]; dsimp only; rw [nI_clamp (show i < 2 ^ 31 by omega)]; simp only [lt_take, ← hso, n26, n40, n118, n125, n139]; simp
              exact g_retv cd_Le_noteTaken rfl ⟨rfl, (kk _ (hEq ▸ hRz) (fz_trans hz158 Z254))⟩
            · have c139 : (ma &&& li) = 0 := Classical.not_not.mp c139
              have n139 := c139
              refine g_ald (pc' := 143) cd_Le_noteTaken rfl (Or.inr ⟨_, rfl, rfl, rfl⟩) l0 rfl rfl ?_
              refine g_fR (c := 4) (k := 0) (x := 12) (pc' := 146) cd_Le_noteTaken rfl rfl rfl rfl rfl (by decide) hR158.1.1.1 hR158.1.1.2 hR158.1.2.1.1 ?_
              refine g_ild (pc' := 147) cd_Le_noteTaken rfl (Or.inr ⟨_, rfl, rfl, rfl⟩) l3 rfl ?_
              refine g_k2 (v := 10) (pc' := 149) cd_Le_noteTaken rfl (by decide) rfl ?_
              refine g_pure (pc' := 150) (st' := [.int ((nI i) * 10), .ref 12]) cd_Le_noteTaken rfl rfl (fun _ _ => rfl) ?_
              rw [show ((nI i) * 10 : Int32) = nI (i * 10) from pk_mul i 10]
              refine g_k2 (v := 9) (pc' := 152) cd_Le_noteTaken rfl (by decide) rfl ?_
              refine g_pure (pc' := 153) (st' := [.int ((nI (i * 10)) + 9), .ref 12]) cd_Le_noteTaken rfl rfl (fun _ _ => rfl) ?_
              rw [show ((nI (i * 10)) + 9 : Int32) = nI ((i * 10) + 9) from nI_add (i * 10) 9]
              refine g_pure (pc' := 154) (st' := [.int (nI ((i * 10) + 9)), .ref 12, .int (nI ((i * 10) + 9)), .ref 12]) cd_Le_noteTaken rfl rfl (fun _ _ => rfl) ?_
              refine g_aI (x := sf) (pc' := 155) cd_Le_noteTaken rfl rfl hR158.1.2.2.1.1 hR158.1.2.2.1.2.1 (by rw [show bm_AL B158 12 = 7000 from hR158.1.2.2.1.2.2]; exact vp_in_nI (by omega) (by decide)) (by rw [nI_clamp (by omega)]; exact (hR158.2.2.1 i _ he157).2.2.2.2.2.2.2.2.2) ?_
              refine g_k1 (v := 1) (pc' := 156) cd_Le_noteTaken rfl (by decide) rfl ?_
              refine g_ild (pc' := 157) cd_Le_noteTaken rfl (Or.inr ⟨_, rfl, rfl, rfl⟩) l2 rfl ?_
              refine g_pure (pc' := 158) (st' := [.int (1 <<< ((nI p) &&& 31)), .int sf, .int (nI ((i * 10) + 9)), .ref 12]) cd_Le_noteTaken rfl rfl (fun _ _ => rfl) ?_
              refine g_pure (pc' := 159) (st' := [.int (sf ||| (1 <<< ((nI p) &&& 31))), .int (nI ((i * 10) + 9)), .ref 12]) cd_Le_noteTaken rfl rfl (fun _ _ => rfl) ?_
              refine g_iast (pc' := 160) cd_Le_noteTaken rfl rfl hR158.1.2.2.1.1 hR158.1.2.2.1.2.1 (by rw [show bm_AL B158 12 = 7000 from hR158.1.2.2.1.2.2]; exact vp_in_nI (by omega) (by decide)) ?_
              rw [show (nI ((i * 10) + 9) : Int32).toNatClampNeg = ((i * 10) + 9) from nI_clamp (by omega)]
              have A255 : bm_AI (bm_setI B158 12 ((i * 10) + 9) (sf ||| (1 <<< ((nI p) &&& 31)))) 12 = (upd (bm_AI B158 12) ((i * 10) + 9) (sf ||| (1 <<< ((nI p) &&& 31)))) := ((AI_set B158 12 ((i * 10) + 9) (sf ||| (1 <<< ((nI p) &&& 31)))).trans (congrArg (fun f => upd f ((i * 10) + 9) (sf ||| (1 <<< ((nI p) &&& 31)))) (show bm_AI B158 12 = (bm_AI B158 12) from rfl)))
              have A256 : bm_AI (bm_setI B158 12 ((i * 10) + 9) (sf ||| (1 <<< ((nI p) &&& 31)))) 13 = bd := ((AI_setn B158 ((i * 10) + 9) (sf ||| (1 <<< ((nI p) &&& 31))) 13 (by decide)).trans (show bm_AI B158 13 = bd from hR158.2.1.2.1.1))
              have A257 : bm_AI (bm_setI B158 12 ((i * 10) + 9) (sf ||| (1 <<< ((nI p) &&& 31)))) 14 = ll := ((AI_setn B158 ((i * 10) + 9) (sf ||| (1 <<< ((nI p) &&& 31))) 14 (by decide)).trans (show bm_AI B158 14 = ll from hR158.2.1.2.1.2.1))
              have A258 : bm_AI (bm_setI B158 12 ((i * 10) + 9) (sf ||| (1 <<< ((nI p) &&& 31)))) 15 = tc := ((AI_setn B158 ((i * 10) + 9) (sf ||| (1 <<< ((nI p) &&& 31))) 15 (by decide)).trans (show bm_AI B158 15 = tc from hR158.2.1.2.1.2.2.1))
              have A259 : bm_AI (bm_setI B158 12 ((i * 10) + 9) (sf ||| (1 <<< ((nI p) &&& 31)))) 16 = tl := ((AI_setn B158 ((i * 10) + 9) (sf ||| (1 <<< ((nI p) &&& 31))) 16 (by decide)).trans (show bm_AI B158 16 = tl from hR158.2.1.2.1.2.2.2.1))
              have A260 : bm_AI (bm_setI B158 12 ((i * 10) + 9) (sf ||| (1 <<< ((nI p) &&& 31)))) 17 = tf := ((AI_setn B158 ((i * 10) + 9) (sf ||| (1 <<< ((nI p) &&& 31))) 17 (by decide)).trans (show bm_AI B158 17 = tf from hR158.2.1.2.1.2.2.2.2.1))
              have A261 : bm_AI (bm_setI B158 12 ((i * 10) + 9) (sf ||| (1 <<< ((nI p) &&& 31)))) 18 = tg := ((AI_setn B158 ((i * 10) + 9) (sf ||| (1 <<< ((nI p) &&& 31))) 18 (by decide)).trans (show bm_AI B158 18 = tg from hR158.2.1.2.1.2.2.2.2.2))
              have Z262 : fz lex B158 (bm_setI B158 12 ((i * 10) + 9) (sf ||| (1 <<< ((nI p) &&& 31)))) := fz_trans (fz_rfl _ B158) ⟨fr_mono (fun _ q => by unfold lex; omega) (fr_setI _ 12 _ _), rfl, rfl⟩
              have hR264 : RLe (bm_setI B158 12 ((i * 10) + 9) (sf ||| (1 <<< ((nI p) &&& 31)))) T (((L.set i (se, fm, to, gr, ma, on, mi, th, (tk ||| (1 <<< (nI p &&& 31))), sf)).set i (se, fm, to, gr, ma, on, mi, th, (tk ||| (1 <<< (nI p &&& 31))), (sf ||| (1 <<< (nI p &&& 31))))), bd, ll, tc, tl, tf, tg, cf, cg, ct, co, li, fo, db) := ⟨LgS_fr hR158.1 Z262.1, ⟨⟨(hR158.2.1.1.1).trans (by simp), (by have := hR158.2.1.1.2; simpa using this)⟩, ⟨A256, A257, A258, A259, A260, A261⟩, hR158.2.1.2.2⟩, (RLc_set (i := i) hR158.2.2 he157 (fun j h8 h9 => by rw [show bm_AI (bm_setI B158 12 ((i * 10) + 9) (sf ||| (1 <<< ((nI p) &&& 31)))) 12 = _ from A255]; exact pk_un (by omega)) (by rw [show bm_AI (bm_setI B158 12 ((i * 10) + 9) (sf ||| (1 <<< ((nI p) &&& 31)))) 12 = _ from A255]; exact (pk_un (by omega)).trans ((hR158.2.2.1 i _ he157).2.2.2.2.2.2.2.2.1)) (by rw [show bm_AI (bm_setI B158 12 ((i * 10) + 9) (sf ||| (1 <<< ((nI p) &&& 31)))) 12 = _ from A255]; exact if_pos rfl))⟩
              have hz264 : fz lex B (bm_setI B158 12 ((i * 10) + 9) (sf ||| (1 <<< ((nI p) &&& 31)))) := fz_trans hz158 Z262
              generalize (bm_setI B158 12 ((i * 10) + 9) (sf ||| (1 <<< ((nI p) &&& 31)))) = B264 at hR264 hz264 ⊢
              have he263 : ((L.set i (se, fm, to, gr, ma, on, mi, th, (tk ||| (1 <<< (nI p &&& 31))), sf)).set i (se, fm, to, gr, ma, on, mi, th, (tk ||| (1 <<< (nI p &&& 31))), (sf ||| (1 <<< (nI p &&& 31)))))[i]? = some (se, fm, to, gr, ma, on, mi, th, (tk ||| (1 <<< (nI p &&& 31))), (sf ||| (1 <<< (nI p &&& 31)))) := List.getElem?_set_self hi157
              have hi263 : i < ((L.set i (se, fm, to, gr, ma, on, mi, th, (tk ||| (1 <<< (nI p &&& 31))), sf)).set i (se, fm, to, gr, ma, on, mi, th, (tk ||| (1 <<< (nI p &&& 31))), (sf ||| (1 <<< (nI p &&& 31))))).length := by have := hi157; simpa using this
              refine g_ald (pc' := 161) cd_Le_noteTaken rfl (Or.inr ⟨_, rfl, rfl, rfl⟩) l0 rfl rfl ?_
              refine g_fR (c := 4) (k := 3) (x := 15) (pc' := 164) cd_Le_noteTaken rfl rfl rfl rfl rfl (by decide) hR264.1.1.1 hR264.1.1.2 hR264.1.2.1.2.2.2.1 ?_
              refine g_ild (pc' := 165) cd_Le_noteTaken rfl (Or.inr ⟨_, rfl, rfl, rfl⟩) l2 rfl ?_
              refine g_pure (pc' := 166) (st' := [.int (nI p), .ref 15, .int (nI p), .ref 15]) cd_Le_noteTaken rfl rfl (fun _ _ => rfl) ?_
              refine g_aI (x := (tc p)) (pc' := 167) cd_Le_noteTaken rfl rfl hR264.1.2.2.2.2.2.1.1 hR264.1.2.2.2.2.2.1.2.1 (by rw [show bm_AL B264 15 = 6 from hR264.1.2.2.2.2.2.1.2.2]; exact vp_in_nI (by omega) (by decide)) (by rw [nI_clamp (by omega)]; exact congrFun (show bm_AI B264 15 = tc from hR264.2.1.2.1.2.2.1) p) ?_
              refine g_k1 (v := 1) (pc' := 168) cd_Le_noteTaken rfl (by decide) rfl ?_
              refine g_pure (pc' := 169) (st' := [.int ((tc p) + 1), .int (nI p), .ref 15]) cd_Le_noteTaken rfl rfl (fun _ _ => rfl) ?_
              refine g_iast (pc' := 170) cd_Le_noteTaken rfl rfl hR264.1.2.2.2.2.2.1.1 hR264.1.2.2.2.2.2.1.2.1 (by rw [show bm_AL B264 15 = 6 from hR264.1.2.2.2.2.2.1.2.2]; exact vp_in_nI (by omega) (by decide)) ?_
              rw [show (nI p : Int32).toNatClampNeg = p from nI_clamp (by omega)]
              have A265 : bm_AI (bm_setI B264 15 p ((tc p) + 1)) 12 = (bm_AI B264 12) := ((AI_setn B264 p ((tc p) + 1) 12 (by decide)).trans (show bm_AI B264 12 = (bm_AI B264 12) from rfl))
              have A266 : bm_AI (bm_setI B264 15 p ((tc p) + 1)) 13 = bd := ((AI_setn B264 p ((tc p) + 1) 13 (by decide)).trans (show bm_AI B264 13 = bd from hR264.2.1.2.1.1))
              have A267 : bm_AI (bm_setI B264 15 p ((tc p) + 1)) 14 = ll := ((AI_setn B264 p ((tc p) + 1) 14 (by decide)).trans (show bm_AI B264 14 = ll from hR264.2.1.2.1.2.1))
              have A268 : bm_AI (bm_setI B264 15 p ((tc p) + 1)) 15 = (upd tc p ((tc p) + 1)) := ((AI_set B264 15 p ((tc p) + 1)).trans (congrArg (fun f => upd f p ((tc p) + 1)) (show bm_AI B264 15 = tc from hR264.2.1.2.1.2.2.1)))
              have A269 : bm_AI (bm_setI B264 15 p ((tc p) + 1)) 16 = tl := ((AI_setn B264 p ((tc p) + 1) 16 (by decide)).trans (show bm_AI B264 16 = tl from hR264.2.1.2.1.2.2.2.1))
              have A270 : bm_AI (bm_setI B264 15 p ((tc p) + 1)) 17 = tf := ((AI_setn B264 p ((tc p) + 1) 17 (by decide)).trans (show bm_AI B264 17 = tf from hR264.2.1.2.1.2.2.2.2.1))
              have A271 : bm_AI (bm_setI B264 15 p ((tc p) + 1)) 18 = tg := ((AI_setn B264 p ((tc p) + 1) 18 (by decide)).trans (show bm_AI B264 18 = tg from hR264.2.1.2.1.2.2.2.2.2))
              have Z272 : fz lex B264 (bm_setI B264 15 p ((tc p) + 1)) := fz_trans (fz_rfl _ B264) ⟨fr_mono (fun _ q => by unfold lex; omega) (fr_setI _ 15 _ _), rfl, rfl⟩
              refine g_ald (pc' := 171) cd_Le_noteTaken rfl (Or.inr ⟨_, rfl, rfl, rfl⟩) l0 rfl rfl ?_
              refine g_fR (c := 4) (k := 4) (x := 16) (pc' := 174) cd_Le_noteTaken rfl rfl rfl rfl rfl (by decide) hR264.1.1.1 hR264.1.1.2 hR264.1.2.1.2.2.2.2.1 ?_
              refine g_ild (pc' := 175) cd_Le_noteTaken rfl (Or.inr ⟨_, rfl, rfl, rfl⟩) l2 rfl ?_
              refine g_ild (pc' := 176) cd_Le_noteTaken rfl (Or.inr ⟨_, rfl, rfl, rfl⟩) l3 rfl ?_
              refine g_iast (pc' := 177) cd_Le_noteTaken rfl rfl hR264.1.2.2.2.2.2.2.1.1 hR264.1.2.2.2.2.2.2.1.2.1 (by rw [show bm_AL (bm_setI B264 15 p ((tc p) + 1)) 16 = 6 from hR264.1.2.2.2.2.2.2.1.2.2]; exact vp_in_nI (by omega) (by decide)) ?_
              rw [show (nI p : Int32).toNatClampNeg = p from nI_clamp (by omega)]
              have A273 : bm_AI (bm_setI (bm_setI B264 15 p ((tc p) + 1)) 16 p (nI i)) 12 = (bm_AI B264 12) := ((AI_setn (bm_setI B264 15 p ((tc p) + 1)) p (nI i) 12 (by decide)).trans (show bm_AI (bm_setI B264 15 p ((tc p) + 1)) 12 = (bm_AI B264 12) from A265))
              have A274 : bm_AI (bm_setI (bm_setI B264 15 p ((tc p) + 1)) 16 p (nI i)) 13 = bd := ((AI_setn (bm_setI B264 15 p ((tc p) + 1)) p (nI i) 13 (by decide)).trans (show bm_AI (bm_setI B264 15 p ((tc p) + 1)) 13 = bd from A266))
              have A275 : bm_AI (bm_setI (bm_setI B264 15 p ((tc p) + 1)) 16 p (nI i)) 14 = ll := ((AI_setn (bm_setI B264 15 p ((tc p) + 1)) p (nI i) 14 (by decide)).trans (show bm_AI (bm_setI B264 15 p ((tc p) + 1)) 14 = ll from A267))
              have A276 : bm_AI (bm_setI (bm_setI B264 15 p ((tc p) + 1)) 16 p (nI i)) 15 = (upd tc p ((tc p) + 1)) := ((AI_setn (bm_setI B264 15 p ((tc p) + 1)) p (nI i) 15 (by decide)).trans (show bm_AI (bm_setI B264 15 p ((tc p) + 1)) 15 = (upd tc p ((tc p) + 1)) from A268))
              have A277 : bm_AI (bm_setI (bm_setI B264 15 p ((tc p) + 1)) 16 p (nI i)) 16 = (upd tl p (nI i)) := ((AI_set (bm_setI B264 15 p ((tc p) + 1)) 16 p (nI i)).trans (congrArg (fun f => upd f p (nI i)) (show bm_AI (bm_setI B264 15 p ((tc p) + 1)) 16 = tl from A269)))
              have A278 : bm_AI (bm_setI (bm_setI B264 15 p ((tc p) + 1)) 16 p (nI i)) 17 = tf := ((AI_setn (bm_setI B264 15 p ((tc p) + 1)) p (nI i) 17 (by decide)).trans (show bm_AI (bm_setI B264 15 p ((tc p) + 1)) 17 = tf from A270))
              have A279 : bm_AI (bm_setI (bm_setI B264 15 p ((tc p) + 1)) 16 p (nI i)) 18 = tg := ((AI_setn (bm_setI B264 15 p ((tc p) + 1)) p (nI i) 18 (by decide)).trans (show bm_AI (bm_setI B264 15 p ((tc p) + 1)) 18 = tg from A271))
              have Z280 : fz lex B264 (bm_setI (bm_setI B264 15 p ((tc p) + 1)) 16 p (nI i)) := fz_trans Z272 ⟨fr_mono (fun _ q => by unfold lex; omega) (fr_setI _ 16 _ _), rfl, rfl⟩
              refine g_ald (pc' := 178) cd_Le_noteTaken rfl (Or.inr ⟨_, rfl, rfl, rfl⟩) l0 rfl rfl ?_
              refine g_fR (c := 4) (k := 5) (x := 17) (pc' := 181) cd_Le_noteTaken rfl rfl rfl rfl rfl (by decide) hR264.1.1.1 hR264.1.1.2 hR264.1.2.1.2.2.2.2.2.1 ?_
              refine g_ild (pc' := 182) cd_Le_noteTaken rfl (Or.inr ⟨_, rfl, rfl, rfl⟩) l2 rfl ?_
              refine g_ald (pc' := 183) cd_Le_noteTaken rfl (Or.inr ⟨_, rfl, rfl, rfl⟩) l0 rfl rfl ?_
              refine g_fI (c := 4) (k := 7) (x := cf) (pc' := 186) cd_Le_noteTaken rfl rfl rfl rfl rfl (by decide) hR264.1.1.1 hR264.1.1.2 hR264.2.1.2.2.1.1 ?_
              refine g_iast (pc' := 187) cd_Le_noteTaken rfl rfl hR264.1.2.2.2.2.2.2.2.1.1 hR264.1.2.2.2.2.2.2.2.1.2.1 (by rw [show bm_AL (bm_setI (bm_setI B264 15 p ((tc p) + 1)) 16 p (nI i)) 17 = 6 from hR264.1.2.2.2.2.2.2.2.1.2.2]; exact vp_in_nI (by omega) (by decide)) ?_
              rw [show (nI p : Int32).toNatClampNeg = p from nI_clamp (by omega)]
              have A281 : bm_AI (bm_setI (bm_setI (bm_setI B264 15 p ((tc p) + 1)) 16 p (nI i)) 17 p cf) 12 = (bm_AI B264 12) := ((AI_setn (bm_setI (bm_setI B264 15 p ((tc p) + 1)) 16 p (nI i)) p cf 12 (by decide)).trans (show bm_AI (bm_setI (bm_setI B264 15 p ((tc p) + 1)) 16 p (nI i)) 12 = (bm_AI B264 12) from A273))
              have A282 : bm_AI (bm_setI (bm_setI (bm_setI B264 15 p ((tc p) + 1)) 16 p (nI i)) 17 p cf) 13 = bd := ((AI_setn (bm_setI (bm_setI B264 15 p ((tc p) + 1)) 16 p (nI i)) p cf 13 (by decide)).trans (show bm_AI (bm_setI (bm_setI B264 15 p ((tc p) + 1)) 16 p (nI i)) 13 = bd from A274))
              have A283 : bm_AI (bm_setI (bm_setI (bm_setI B264 15 p ((tc p) + 1)) 16 p (nI i)) 17 p cf) 14 = ll := ((AI_setn (bm_setI (bm_setI B264 15 p ((tc p) + 1)) 16 p (nI i)) p cf 14 (by decide)).trans (show bm_AI (bm_setI (bm_setI B264 15 p ((tc p) + 1)) 16 p (nI i)) 14 = ll from A275))
              have A284 : bm_AI (bm_setI (bm_setI (bm_setI B264 15 p ((tc p) + 1)) 16 p (nI i)) 17 p cf) 15 = (upd tc p ((tc p) + 1)) := ((AI_setn (bm_setI (bm_setI B264 15 p ((tc p) + 1)) 16 p (nI i)) p cf 15 (by decide)).trans (show bm_AI (bm_setI (bm_setI B264 15 p ((tc p) + 1)) 16 p (nI i)) 15 = (upd tc p ((tc p) + 1)) from A276))
              have A285 : bm_AI (bm_setI (bm_setI (bm_setI B264 15 p ((tc p) + 1)) 16 p (nI i)) 17 p cf) 16 = (upd tl p (nI i)) := ((AI_setn (bm_setI (bm_setI B264 15 p ((tc p) + 1)) 16 p (nI i)) p cf 16 (by decide)).trans (show bm_AI (bm_setI (bm_setI B264 15 p ((tc p) + 1)) 16 p (nI i)) 16 = (upd tl p (nI i)) from A277))
              have A286 : bm_AI (bm_setI (bm_setI (bm_setI B264 15 p ((tc p) + 1)) 16 p (nI i)) 17 p cf) 17 = (upd tf p cf) := ((AI_set (bm_setI (bm_setI B264 15 p ((tc p) + 1)) 16 p (nI i)) 17 p cf).trans (congrArg (fun f => upd f p cf) (show bm_AI (bm_setI (bm_setI B264 15 p ((tc p) + 1)) 16 p (nI i)) 17 = tf from A278)))
              have A287 : bm_AI (bm_setI (bm_setI (bm_setI B264 15 p ((tc p) + 1)) 16 p (nI i)) 17 p cf) 18 = tg := ((AI_setn (bm_setI (bm_setI B264 15 p ((tc p) + 1)) 16 p (nI i)) p cf 18 (by decide)).trans (show bm_AI (bm_setI (bm_setI B264 15 p ((tc p) + 1)) 16 p (nI i)) 18 = tg from A279))
              have Z288 : fz lex B264 (bm_setI (bm_setI (bm_setI B264 15 p ((tc p) + 1)) 16 p (nI i)) 17 p cf) := fz_trans Z280 ⟨fr_mono (fun _ q => by unfold lex; omega) (fr_setI _ 17 _ _), rfl, rfl⟩
              refine g_ald (pc' := 188) cd_Le_noteTaken rfl (Or.inr ⟨_, rfl, rfl, rfl⟩) l0 rfl rfl ?_
              refine g_fR (c := 4) (k := 6) (x := 18) (pc' := 191) cd_Le_noteTaken rfl rfl rfl rfl rfl (by decide) hR264.1.1.1 hR264.1.1.2 hR264.1.2.1.2.2.2.2.2.2 ?_
              refine g_ild (pc' := 192) cd_Le_noteTaken rfl (Or.inr ⟨_, rfl, rfl, rfl⟩) l2 rfl ?_
              refine g_ald (pc' := 193) cd_Le_noteTaken rfl (Or.inr ⟨_, rfl, rfl, rfl⟩) l0 rfl rfl ?_
              refine g_fI (c := 4) (k := 8) (x := cg) (pc' := 196) cd_Le_noteTaken rfl rfl rfl rfl rfl (by decide) hR264.1.1.1 hR264.1.1.2 hR264.2.1.2.2.1.2.1 ?_
              refine g_iast (pc' := 197) cd_Le_noteTaken rfl rfl hR264.1.2.2.2.2.2.2.2.2.1 hR264.1.2.2.2.2.2.2.2.2.2.1 (by rw [show bm_AL (bm_setI (bm_setI (bm_setI B264 15 p ((tc p) + 1)) 16 p (nI i)) 17 p cf) 18 = 6 from hR264.1.2.2.2.2.2.2.2.2.2.2]; exact vp_in_nI (by omega) (by decide)) ?_
              rw [show (nI p : Int32).toNatClampNeg = p from nI_clamp (by omega)]
              have A289 : bm_AI (bm_setI (bm_setI (bm_setI (bm_setI B264 15 p ((tc p) + 1)) 16 p (nI i)) 17 p cf) 18 p cg) 12 = (bm_AI B264 12) := ((AI_setn (bm_setI (bm_setI (bm_setI B264 15 p ((tc p) + 1)) 16 p (nI i)) 17 p cf) p cg 12 (by decide)).trans (show bm_AI (bm_setI (bm_setI (bm_setI B264 15 p ((tc p) + 1)) 16 p (nI i)) 17 p cf) 12 = (bm_AI B264 12) from A281))
              have A290 : bm_AI (bm_setI (bm_setI (bm_setI (bm_setI B264 15 p ((tc p) + 1)) 16 p (nI i)) 17 p cf) 18 p cg) 13 = bd := ((AI_setn (bm_setI (bm_setI (bm_setI B264 15 p ((tc p) + 1)) 16 p (nI i)) 17 p cf) p cg 13 (by decide)).trans (show bm_AI (bm_setI (bm_setI (bm_setI B264 15 p ((tc p) + 1)) 16 p (nI i)) 17 p cf) 13 = bd from A282))
              have A291 : bm_AI (bm_setI (bm_setI (bm_setI (bm_setI B264 15 p ((tc p) + 1)) 16 p (nI i)) 17 p cf) 18 p cg) 14 = ll := ((AI_setn (bm_setI (bm_setI (bm_setI B264 15 p ((tc p) + 1)) 16 p (nI i)) 17 p cf) p cg 14 (by decide)).trans (show bm_AI (bm_setI (bm_setI (bm_setI B264 15 p ((tc p) + 1)) 16 p (nI i)) 17 p cf) 14 = ll from A283))
              have A292 : bm_AI (bm_setI (bm_setI (bm_setI (bm_setI B264 15 p ((tc p) + 1)) 16 p (nI i)) 17 p cf) 18 p cg) 15 = (upd tc p ((tc p) + 1)) := ((AI_setn (bm_setI (bm_setI (bm_setI B264 15 p ((tc p) + 1)) 16 p (nI i)) 17 p cf) p cg 15 (by decide)).trans (show bm_AI (bm_setI (bm_setI (bm_setI B264 15 p ((tc p) + 1)) 16 p (nI i)) 17 p cf) 15 = (upd tc p ((tc p) + 1)) from A284))
              have A293 : bm_AI (bm_setI (bm_setI (bm_setI (bm_setI B264 15 p ((tc p) + 1)) 16 p (nI i)) 17 p cf) 18 p cg) 16 = (upd tl p (nI i)) := ((AI_setn (bm_setI (bm_setI (bm_setI B264 15 p ((tc p) + 1)) 16 p (nI i)) 17 p cf) p cg 16 (by decide)).trans (show bm_AI (bm_setI (bm_setI (bm_setI B264 15 p ((tc p) + 1)) 16 p (nI i)) 17 p cf) 16 = (upd tl p (nI i)) from A285))
              have A294 : bm_AI (bm_setI (bm_setI (bm_setI (bm_setI B264 15 p ((tc p) + 1)) 16 p (nI i)) 17 p cf) 18 p cg) 17 = (upd tf p cf) := ((AI_setn (bm_setI (bm_setI (bm_setI B264 15 p ((tc p) + 1)) 16 p (nI i)) 17 p cf) p cg 17 (by decide)).trans (show bm_AI (bm_setI (bm_setI (bm_setI B264 15 p ((tc p) + 1)) 16 p (nI i)) 17 p cf) 17 = (upd tf p cf) from A286))
              have A295 : bm_AI (bm_setI (bm_setI (bm_setI (bm_setI B264 15 p ((tc p) + 1)) 16 p (nI i)) 17 p cf) 18 p cg) 18 = (upd tg p cg) := ((AI_set (bm_setI (bm_setI (bm_setI B264 15 p ((tc p) + 1)) 16 p (nI i)) 17 p cf) 18 p cg).trans (congrArg (fun f => upd f p cg) (show bm_AI (bm_setI (bm_setI (bm_setI B264 15 p ((tc p) + 1)) 16 p (nI i)) 17 p cf) 18 = tg from A287)))
              have Z296 : fz lex B264 (bm_setI (bm_setI (bm_setI (bm_setI B264 15 p ((tc p) + 1)) 16 p (nI i)) 17 p cf) 18 p cg) := fz_trans Z288 ⟨fr_mono (fun _ q => by unfold lex; omega) (fr_setI _ 18 _ _), rfl, rfl⟩
              have hRz : RLe (bm_setI (bm_setI (bm_setI (bm_setI B264 15 p ((tc p) + 1)) 16 p (nI i)) 17 p cf) 18 p cg) T (((L.set i (se, fm, to, gr, ma, on, mi, th, (tk ||| (1 <<< (nI p &&& 31))), sf)).set i (se, fm, to, gr, ma, on, mi, th, (tk ||| (1 <<< (nI p &&& 31))), (sf ||| (1 <<< (nI p &&& 31))))), bd, ll, upd tc p (tc p + 1), upd tl p (nI i), upd tf p cf, upd tg p cg, cf, cg, ct, co, li, fo, db) := ⟨LgS_fr hR264.1 Z296.1, ⟨hR264.2.1.1, ⟨A290, A291, A292, A293, A294, A295⟩, hR264.2.1.2.2⟩, (by rw [show bm_AI (bm_setI (bm_setI (bm_setI (bm_setI B264 15 p ((tc p) + 1)) 16 p (nI i)) 17 p cf) 18 p cg) 12 = _ from A289]; exact hR264.2.2)⟩
              have hEq : lg_taken (L, bd, ll, tc, tl, tf, tg, cf, cg, ct, co, li, fo, db) p = (((L.set i (se, fm, to, gr, ma, on, mi, th, (tk ||| (1 <<< (nI p &&& 31))), sf)).set i (se, fm, to, gr, ma, on, mi, th, (tk ||| (1 <<< (nI p &&& 31))), (sf ||| (1 <<< (nI p &&& 31))))), bd, ll, upd tc p (tc p + 1), upd tl p (nI i), upd tf p cf, upd tg p cg, cf, cg, ct, co, li, fo, db) := by unfold lg_taken; dsimp only; rw [hl, lg_get_t he h7]; dsimp only; rw [nI_clamp (show i < 2 ^ 31 by omega)]; simp only [lt_take, ← hso, n26, n40, n118, n125, n139]; simp
              exact g_retv cd_Le_noteTaken rfl ⟨rfl, (kk _ (hEq ▸ hRz) (fz_trans hz264 Z296))⟩
    · have c40 : (hbit li cf) = false := bz_f (Classical.not_not.mp c40)
      have n40 := c40
      refine g_ild (pc' := 45) cd_Le_noteTaken rfl (Or.inl ⟨rfl, rfl⟩) l4 rfl ?_
      refine g_if1 (t := 58) (pc' := 48) cd_Le_noteTaken rfl rfl rfl (fun c45 => ?_) (fun c45 => ?_)
      · have c45 : so = true := bz_t c45
        have n45 := c45
        refine g_ald (pc' := 59) cd_Le_noteTaken rfl (Or.inr ⟨_, rfl, rfl, rfl⟩) l0 rfl rfl ?_
        refine g_ild (pc' := 60) cd_Le_noteTaken rfl (Or.inr ⟨_, rfl, rfl, rfl⟩) l3 rfl ?_
        refine g_calli (pc' := 63) cd_Le_noteTaken rfl rfl rfl rfl rfl (tm_invV rfl rfl cd_Le_has rfl (Nat.le_of_ble_eq_true rfl) (by decide) hR.1.1.1 hR.1.1.2) (t_Lhas hR ?_)
        rw [inR_nI hi (by omega)]
        show bm_G _ _ _ _ _ (.int 1 :: _) _ _
        show bm_G _ _ _ 63 _ [.int 1] B _
        refine g_if1 (t := 90) (pc' := 66) cd_Le_noteTaken rfl rfl rfl (fun c63 => ?_) (fun c63 => ?_)
        · exact absurd (show (1 : Int32) = 0 from c63) (by decide)
        · have c63 : ¬ (1 : Int32) = 0 := c63
          refine g_ald (pc' := 67) cd_Le_noteTaken rfl (Or.inr ⟨_, rfl, rfl, rfl⟩) l0 rfl rfl ?_
          refine g_ild (pc' := 68) cd_Le_noteTaken rfl (Or.inr ⟨_, rfl, rfl, rfl⟩) l3 rfl ?_
          refine g_k2 (v := 8) (pc' := 70) cd_Le_noteTaken rfl (by decide) rfl ?_
          refine g_calli (pc' := 73) cd_Le_noteTaken rfl rfl rfl rfl rfl (tm_invV rfl rfl cd_Le_of rfl (Nat.le_of_ble_eq_true rfl) (by decide) hR.1.1.1 hR.1.1.2) (t_Lof (k := 8) hR hi (by decide) ?_)
          rw [show bm_AI B 12 (i * 10 + 8) = tk from (hR.2.2.1 i _ he).2.2.2.2.2.2.2.2.1]
          show bm_G _ _ _ 73 _ [.int tk] B _
          refine g_ild (pc' := 74) cd_Le_noteTaken rfl (Or.inr ⟨_, rfl, rfl, rfl⟩) l2 rfl ?_
          refine g_calli (pc' := 77) cd_Le_noteTaken rfl rfl rfl rfl rfl (tm_invS rfl rfl cd_Ho_hasBit rfl (Nat.le_of_ble_eq_true rfl)) (t_hasBit ?_)
          show bm_G _ _ _ 77 _ [.int (bz (hbit tk (nI p)))] B _
          refine g_if1 (t := 90) (pc' := 80) cd_Le_noteTaken rfl rfl rfl (fun c77 => ?_) (fun c77 => ?_)
          · have c77 : (hbit tk (nI p)) = false := bz_f c77
            have n77 := c77
            refine g_ald (pc' := 91) cd_Le_noteTaken rfl (Or.inr ⟨_, rfl, rfl, rfl⟩) l0 rfl rfl ?_
            refine g_ild (pc' := 92) cd_Le_noteTaken rfl (Or.inr ⟨_, rfl, rfl, rfl⟩) l3 rfl ?_
            refine g_calli (pc' := 95) cd_Le_noteTaken rfl rfl rfl rfl rfl (tm_invV rfl rfl cd_Le_has rfl (Nat.le_of_ble_eq_true rfl) (by decide) hR.1.1.1 hR.1.1.2) (t_Lhas hR ?_)
            rw [inR_nI hi (by omega)]
            show bm_G _ _ _ _ _ (.int 1 :: _) _ _
            show bm_G _ _ _ 95 _ [.int 1] B _
            refine g_if1 (t := 116) (pc' := 98) cd_Le_noteTaken rfl rfl rfl (fun c95 => ?_) (fun c95 => ?_)
            · exact absurd (show (1 : Int32) = 0 from c95) (by decide)
            · have c95 : ¬ (1 : Int32) = 0 := c95
              refine g_ald (pc' := 99) cd_Le_noteTaken rfl (Or.inr ⟨_, rfl, rfl, rfl⟩) l0 rfl rfl ?_
              refine g_fR (c := 4) (k := 0) (x := 12) (pc' := 102) cd_Le_noteTaken rfl rfl rfl rfl rfl (by decide) hR.1.1.1 hR.1.1.2 hR.1.2.1.1 ?_
              refine g_ild (pc' := 103) cd_Le_noteTaken rfl (Or.inr ⟨_, rfl, rfl, rfl⟩) l3 rfl ?_
              refine g_k2 (v := 10) (pc' := 105) cd_Le_noteTaken rfl (by decide) rfl ?_
              refine g_pure (pc' := 106) (st' := [.int ((nI i) * 10), .ref 12]) cd_Le_noteTaken rfl rfl (fun _ _ => rfl) ?_
              rw [show ((nI i) * 10 : Int32) = nI (i * 10) from pk_mul i 10]
              refine g_k2 (v := 8) (pc' := 108) cd_Le_noteTaken rfl (by decide) rfl ?_
              refine g_pure (pc' := 109) (st' := [.int ((nI (i * 10)) + 8), .ref 12]) cd_Le_noteTaken rfl rfl (fun _ _ => rfl) ?_
              rw [show ((nI (i * 10)) + 8 : Int32) = nI ((i * 10) + 8) from nI_add (i * 10) 8]
              refine g_pure (pc' := 110) (st' := [.int (nI ((i * 10) + 8)), .ref 12, .int (nI ((i * 10) + 8)), .ref 12]) cd_Le_noteTaken rfl rfl (fun _ _ => rfl) ?_
              refine g_aI (x := tk) (pc' := 111) cd_Le_noteTaken rfl rfl hR.1.2.2.1.1 hR.1.2.2.1.2.1 (by rw [show bm_AL B 12 = 7000 from hR.1.2.2.1.2.2]; exact vp_in_nI (by omega) (by decide)) (by rw [nI_clamp (by omega)]; exact (hR.2.2.1 i _ he).2.2.2.2.2.2.2.2.1) ?_
              refine g_k1 (v := 1) (pc' := 112) cd_Le_noteTaken rfl (by decide) rfl ?_
              refine g_ild (pc' := 113) cd_Le_noteTaken rfl (Or.inr ⟨_, rfl, rfl, rfl⟩) l2 rfl ?_
              refine g_pure (pc' := 114) (st' := [.int (1 <<< ((nI p) &&& 31)), .int tk, .int (nI ((i * 10) + 8)), .ref 12]) cd_Le_noteTaken rfl rfl (fun _ _ => rfl) ?_
              refine g_pure (pc' := 115) (st' := [.int (tk ||| (1 <<< ((nI p) &&& 31))), .int (nI ((i * 10) + 8)), .ref 12]) cd_Le_noteTaken rfl rfl (fun _ _ => rfl) ?_
              refine g_iast (pc' := 116) cd_Le_noteTaken rfl rfl hR.1.2.2.1.1 hR.1.2.2.1.2.1 (by rw [show bm_AL B 12 = 7000 from hR.1.2.2.1.2.2]; exact vp_in_nI (by omega) (by decide)) ?_
              rw [show (nI ((i * 10) + 8) : Int32).toNatClampNeg = ((i * 10) + 8) from nI_clamp (by omega)]
              have A297 : bm_AI (bm_setI B 12 ((i * 10) + 8) (tk ||| (1 <<< ((nI p) &&& 31)))) 12 = (upd (bm_AI B 12) ((i * 10) + 8) (tk ||| (1 <<< ((nI p) &&& 31)))) := ((AI_set B 12 ((i * 10) + 8) (tk ||| (1 <<< ((nI p) &&& 31)))).trans (congrArg (fun f => upd f ((i * 10) + 8) (tk ||| (1 <<< ((nI p) &&& 31)))) (show bm_AI B 12 = (bm_AI B 12) from rfl)))
              have A298 : bm_AI (bm_setI B 12 ((i * 10) + 8) (tk ||| (1 <<< ((nI p) &&& 31)))) 13 = bd := ((AI_setn B ((i * 10) + 8) (tk ||| (1 <<< ((nI p) &&& 31))) 13 (by decide)).trans (show bm_AI B 13 = bd from hR.2.1.2.1.1))
              have A299 : bm_AI (bm_setI B 12 ((i * 10) + 8) (tk ||| (1 <<< ((nI p) &&& 31)))) 14 = ll := ((AI_setn B ((i * 10) + 8) (tk ||| (1 <<< ((nI p) &&& 31))) 14 (by decide)).trans (show bm_AI B 14 = ll from hR.2.1.2.1.2.1))
              have A300 : bm_AI (bm_setI B 12 ((i * 10) + 8) (tk ||| (1 <<< ((nI p) &&& 31)))) 15 = tc := ((AI_setn B ((i * 10) + 8) (tk ||| (1 <<< ((nI p) &&& 31))) 15 (by decide)).trans (show bm_AI B 15 = tc from hR.2.1.2.1.2.2.1))
              have A301 : bm_AI (bm_setI B 12 ((i * 10) + 8) (tk ||| (1 <<< ((nI p) &&& 31)))) 16 = tl := ((AI_setn B ((i * 10) + 8) (tk ||| (1 <<< ((nI p) &&& 31))) 16 (by decide)).trans (show bm_AI B 16 = tl from hR.2.1.2.1.2.2.2.1))
              have A302 : bm_AI (bm_setI B 12 ((i * 10) + 8) (tk ||| (1 <<< ((nI p) &&& 31)))) 17 = tf := ((AI_setn B ((i * 10) + 8) (tk ||| (1 <<< ((nI p) &&& 31))) 17 (by decide)).trans (show bm_AI B 17 = tf from hR.2.1.2.1.2.2.2.2.1))
              have A303 : bm_AI (bm_setI B 12 ((i * 10) + 8) (tk ||| (1 <<< ((nI p) &&& 31)))) 18 = tg := ((AI_setn B ((i * 10) + 8) (tk ||| (1 <<< ((nI p) &&& 31))) 18 (by decide)).trans (show bm_AI B 18 = tg from hR.2.1.2.1.2.2.2.2.2))
              have Z304 : fz lex B (bm_setI B 12 ((i * 10) + 8) (tk ||| (1 <<< ((nI p) &&& 31)))) := fz_trans (fz_rfl _ B) ⟨fr_mono (fun _ q => by unfold lex; omega) (fr_setI _ 12 _ _), rfl, rfl⟩
              have hR306 : RLe (bm_setI B 12 ((i * 10) + 8) (tk ||| (1 <<< ((nI p) &&& 31)))) T ((L.set i (se, fm, to, gr, ma, on, mi, th, (tk ||| (1 <<< (nI p &&& 31))), sf)), bd, ll, tc, tl, tf, tg, cf, cg, ct, co, li, fo, db) := ⟨LgS_fr hR.1 Z304.1, ⟨⟨(hR.2.1.1.1).trans (by simp), (by have := hR.2.1.1.2; simpa using this)⟩, ⟨A298, A299, A300, A301, A302, A303⟩, hR.2.1.2.2⟩, (RLc_set (i := i) hR.2.2 he (fun j h8 h9 => by rw [show bm_AI (bm_setI B 12 ((i * 10) + 8) (tk ||| (1 <<< ((nI p) &&& 31)))) 12 = _ from A297]; exact pk_un (by omega)) (by rw [show bm_AI (bm_setI B 12 ((i * 10) + 8) (tk ||| (1 <<< ((nI p) &&& 31)))) 12 = _ from A297]; exact if_pos rfl) (by rw [show bm_AI (bm_setI B 12 ((i * 10) + 8) (tk ||| (1 <<< ((nI p) &&& 31)))) 12 = _ from A297]; exact (pk_un (by omega)).trans ((hR.2.2.1 i _ he).2.2.2.2.2.2.2.2.2)))⟩
              have hz306 : fz lex B (bm_setI B 12 ((i * 10) + 8) (tk ||| (1 <<< ((nI p) &&& 31)))) := Z304
              generalize (bm_setI B 12 ((i * 10) + 8) (tk ||| (1 <<< ((nI p) &&& 31)))) = B306 at hR306 hz306 ⊢
              have he305 : (L.set i (se, fm, to, gr, ma, on, mi, th, (tk ||| (1 <<< (nI p &&& 31))), sf))[i]? = some (se, fm, to, gr, ma, on, mi, th, (tk ||| (1 <<< (nI p &&& 31))), sf) := List.getElem?_set_self hi
              have hi305 : i < (L.set i (se, fm, to, gr, ma, on, mi, th, (tk ||| (1 <<< (nI p &&& 31))), sf)).length := by have := hi; simpa using this
              refine g_ild (pc' := 118) cd_Le_noteTaken rfl (Or.inl ⟨rfl, rfl⟩) l4 rfl ?_
              refine g_if1 (t := 160) (pc' := 121) cd_Le_noteTaken rfl rfl rfl (fun c118 => ?_) (fun c118 => ?_)
              · have c118 : so = false := bz_f c118
                exact absurd (c118.symm.trans n45) (by decide)
              · have c118 : so = true := bz_t c118
                have n118 := c118
                refine g_ald (pc' := 122) cd_Le_noteTaken rfl (Or.inr ⟨_, rfl, rfl, rfl⟩) l0 rfl rfl ?_
                refine g_fI (c := 4) (k := 10) (x := bz co) (pc' := 125) cd_Le_noteTaken rfl rfl rfl rfl rfl (by decide) hR306.1.1.1 hR306.1.1.2 hR306.2.1.2.2.1.2.2.2 ?_
                refine g_if1 (t := 160) (pc' := 128) cd_Le_noteTaken rfl rfl rfl (fun c125 => ?_) (fun c125 => ?_)
                · have c125 : co = false := bz_f c125
                  have n125 := c125
                  refine g_ald (pc' := 161) cd_Le_noteTaken rfl (Or.inr ⟨_, rfl, rfl, rfl⟩) l0 rfl rfl ?_
                  refine g_fR (c := 4) (k := 3) (x := 15) (pc' := 164) cd_Le_noteTaken rfl rfl rfl rfl rfl (by decide) hR306.1.1.1 hR306.1.1.2 hR306.1.2.1.2.2.2.1 ?_
                  refine g_ild (pc' := 165) cd_Le_noteTaken rfl (Or.inr ⟨_, rfl, rfl, rfl⟩) l2 rfl ?_
                  refine g_pure (pc' := 166) (st' := [.int (nI p), .ref 15, .int (nI p), .ref 15]) cd_Le_noteTaken rfl rfl (fun _ _ => rfl) ?_
                  refine g_aI (x := (tc p)) (pc' := 167) cd_Le_noteTaken rfl rfl hR306.1.2.2.2.2.2.1.1 hR306.1.2.2.2.2.2.1.2.1 (by rw [show bm_AL B306 15 = 6 from hR306.1.2.2.2.2.2.1.2.2]; exact vp_in_nI (by omega) (by decide)) (by rw [nI_clamp (by omega)]; exact congrFun (show bm_AI B306 15 = tc from hR306.2.1.2.1.2.2.1) p) ?_
                  refine g_k1 (v := 1) (pc' := 168) cd_Le_noteTaken rfl (by decide) rfl ?_
                  refine g_pure (pc' := 169) (st' := [.int ((tc p) + 1), .int (nI p), .ref 15]) cd_Le_noteTaken rfl rfl (fun _ _ => rfl) ?_
                  refine g_iast (pc' := 170) cd_Le_noteTaken rfl rfl hR306.1.2.2.2.2.2.1.1 hR306.1.2.2.2.2.2.1.2.1 (by rw [show bm_AL B306 15 = 6 from hR306.1.2.2.2.2.2.1.2.2]; exact vp_in_nI (by omega) (by decide)) ?_
                  rw [show (nI p : Int32).toNatClampNeg = p from nI_clamp (by omega)]
                  have A307 : bm_AI (bm_setI B306 15 p ((tc p) + 1)) 12 = (bm_AI B306 12) := ((AI_setn B306 p ((tc p) + 1) 12 (by decide)).trans (show bm_AI B306 12 = (bm_AI B306 12) from rfl))
                  have A308 : bm_AI (bm_setI B306 15 p ((tc p) + 1)) 13 = bd := ((AI_setn B306 p ((tc p) + 1) 13 (by decide)).trans (show bm_AI B306 13 = bd from hR306.2.1.2.1.1))
                  have A309 : bm_AI (bm_setI B306 15 p ((tc p) + 1)) 14 = ll := ((AI_setn B306 p ((tc p) + 1) 14 (by decide)).trans (show bm_AI B306 14 = ll from hR306.2.1.2.1.2.1))
                  have A310 : bm_AI (bm_setI B306 15 p ((tc p) + 1)) 15 = (upd tc p ((tc p) + 1)) := ((AI_set B306 15 p ((tc p) + 1)).trans (congrArg (fun f => upd f p ((tc p) + 1)) (show bm_AI B306 15 = tc from hR306.2.1.2.1.2.2.1)))
                  have A311 : bm_AI (bm_setI B306 15 p ((tc p) + 1)) 16 = tl := ((AI_setn B306 p ((tc p) + 1) 16 (by decide)).trans (show bm_AI B306 16 = tl from hR306.2.1.2.1.2.2.2.1))
                  have A312 : bm_AI (bm_setI B306 15 p ((tc p) + 1)) 17 = tf := ((AI_setn B306 p ((tc p) + 1) 17 (by decide)).trans (show bm_AI B306 17 = tf from hR306.2.1.2.1.2.2.2.2.1))
                  have A313 : bm_AI (bm_setI B306 15 p ((tc p) + 1)) 18 = tg := ((AI_setn B306 p ((tc p) + 1) 18 (by decide)).trans (show bm_AI B306 18 = tg from hR306.2.1.2.1.2.2.2.2.2))
                  have Z314 : fz lex B306 (bm_setI B306 15 p ((tc p) + 1)) := fz_trans (fz_rfl _ B306) ⟨fr_mono (fun _ q => by unfold lex; omega) (fr_setI _ 15 _ _), rfl, rfl⟩
                  refine g_ald (pc' := 171) cd_Le_noteTaken rfl (Or.inr ⟨_, rfl, rfl, rfl⟩) l0 rfl rfl ?_
                  refine g_fR (c := 4) (k := 4) (x := 16) (pc' := 174) cd_Le_noteTaken rfl rfl rfl rfl rfl (by decide) hR306.1.1.1 hR306.1.1.2 hR306.1.2.1.2.2.2.2.1 ?_
                  refine g_ild (pc' := 175) cd_Le_noteTaken rfl (Or.inr ⟨_, rfl, rfl, rfl⟩) l2 rfl ?_
                  refine g_ild (pc' := 176) cd_Le_noteTaken rfl (Or.inr ⟨_, rfl, rfl, rfl⟩) l3 rfl ?_
                  refine g_iast (pc' := 177) cd_Le_noteTaken rfl rfl hR306.1.2.2.2.2.2.2.1.1 hR306.1.2.2.2.2.2.2.1.2.1 (by rw [show bm_AL (bm_setI B306 15 p ((tc p) + 1)) 16 = 6 from hR306.1.2.2.2.2.2.2.1.2.2]; exact vp_in_nI (by omega) (by decide)) ?_
                  rw [show (nI p : Int32).toNatClampNeg = p from nI_clamp (by omega)]
                  have A315 : bm_AI (bm_setI (bm_setI B306 15 p ((tc p) + 1)) 16 p (nI i)) 12 = (bm_AI B306 12) := ((AI_setn (bm_setI B306 15 p ((tc p) + 1)) p (nI i) 12 (by decide)).trans (show bm_AI (bm_setI B306 15 p ((tc p) + 1)) 12 = (bm_AI B306 12) from A307))
                  have A316 : bm_AI (bm_setI (bm_setI B306 15 p ((tc p) + 1)) 16 p (nI i)) 13 = bd := ((AI_setn (bm_setI B306 15 p ((tc p) + 1)) p (nI i) 13 (by decide)).trans (show bm_AI (bm_setI B306 15 p ((tc p) + 1)) 13 = bd from A308))
                  have A317 : bm_AI (bm_setI (bm_setI B306 15 p ((tc p) + 1)) 16 p (nI i)) 14 = ll := ((AI_setn (bm_setI B306 15 p ((tc p) + 1)) p (nI i) 14 (by decide)).trans (show bm_AI (bm_setI B306 15 p ((tc p) + 1)) 14 = ll from A309))
                  have A318 : bm_AI (bm_setI (bm_setI B306 15 p ((tc p) + 1)) 16 p (nI i)) 15 = (upd tc p ((tc p) + 1)) := ((AI_setn (bm_setI B306 15 p ((tc p) + 1)) p (nI i) 15 (by decide)).trans (show bm_AI (bm_setI B306 15 p ((tc p) + 1)) 15 = (upd tc p ((tc p) + 1)) from A310))
                  have A319 : bm_AI (bm_setI (bm_setI B306 15 p ((tc p) + 1)) 16 p (nI i)) 16 = (upd tl p (nI i)) := ((AI_set (bm_setI B306 15 p ((tc p) + 1)) 16 p (nI i)).trans (congrArg (fun f => upd f p (nI i)) (show bm_AI (bm_setI B306 15 p ((tc p) + 1)) 16 = tl from A311)))
                  have A320 : bm_AI (bm_setI (bm_setI B306 15 p ((tc p) + 1)) 16 p (nI i)) 17 = tf := ((AI_setn (bm_setI B306 15 p ((tc p) + 1)) p (nI i) 17 (by decide)).trans (show bm_AI (bm_setI B306 15 p ((tc p) + 1)) 17 = tf from A312))
                  have A321 : bm_AI (bm_setI (bm_setI B306 15 p ((tc p) + 1)) 16 p (nI i)) 18 = tg := ((AI_setn (bm_setI B306 15 p ((tc p) + 1)) p (nI i) 18 (by decide)).trans (show bm_AI (bm_setI B306 15 p ((tc p) + 1)) 18 = tg from A313))
                  have Z322 : fz lex B306 (bm_setI (bm_setI B306 15 p ((tc p) + 1)) 16 p (nI i)) := fz_trans Z314 ⟨fr_mono (fun _ q => by unfold lex; omega) (fr_setI _ 16 _ _), rfl, rfl⟩
                  refine g_ald (pc' := 178) cd_Le_noteTaken rfl (Or.inr ⟨_, rfl, rfl, rfl⟩) l0 rfl rfl ?_
                  refine g_fR (c := 4) (k := 5) (x := 17) (pc' := 181) cd_Le_noteTaken rfl rfl rfl rfl rfl (by decide) hR306.1.1.1 hR306.1.1.2 hR306.1.2.1.2.2.2.2.2.1 ?_
                  refine g_ild (pc' := 182) cd_Le_noteTaken rfl (Or.inr ⟨_, rfl, rfl, rfl⟩) l2 rfl ?_
                  refine g_ald (pc' := 183) cd_Le_noteTaken rfl (Or.inr ⟨_, rfl, rfl, rfl⟩) l0 rfl rfl ?_
                  refine g_fI (c := 4) (k := 7) (x := cf) (pc' := 186) cd_Le_noteTaken rfl rfl rfl rfl rfl (by decide) hR306.1.1.1 hR306.1.1.2 hR306.2.1.2.2.1.1 ?_
                  refine g_iast (pc' := 187) cd_Le_noteTaken rfl rfl hR306.1.2.2.2.2.2.2.2.1.1 hR306.1.2.2.2.2.2.2.2.1.2.1 (by rw [show bm_AL (bm_setI (bm_setI B306 15 p ((tc p) + 1)) 16 p (nI i)) 17 = 6 from hR306.1.2.2.2.2.2.2.2.1.2.2]; exact vp_in_nI (by omega) (by decide)) ?_
                  rw [show (nI p : Int32).toNatClampNeg = p from nI_clamp (by omega)]
                  have A323 : bm_AI (bm_setI (bm_setI (bm_setI B306 15 p ((tc p) + 1)) 16 p (nI i)) 17 p cf) 12 = (bm_AI B306 12) := ((AI_setn (bm_setI (bm_setI B306 15 p ((tc p) + 1)) 16 p (nI i)) p cf 12 (by decide)).trans (show bm_AI (bm_setI (bm_setI B306 15 p ((tc p) + 1)) 16 p (nI i)) 12 = (bm_AI B306 12) from A315))
                  have A324 : bm_AI (bm_setI (bm_setI (bm_setI B306 15 p ((tc p) + 1)) 16 p (nI i)) 17 p cf) 13 = bd := ((AI_setn (bm_setI (bm_setI B306 15 p ((tc p) + 1)) 16 p (nI i)) p cf 13 (by decide)).trans (show bm_AI (bm_setI (bm_setI B306 15 p ((tc p) + 1)) 16 p (nI i)) 13 = bd from A316))
                  have A325 : bm_AI (bm_setI (bm_setI (bm_setI B306 15 p ((tc p) + 1)) 16 p (nI i)) 17 p cf) 14 = ll := ((AI_setn (bm_setI (bm_setI B306 15 p ((tc p) + 1)) 16 p (nI i)) p cf 14 (by decide)).trans (show bm_AI (bm_setI (bm_setI B306 15 p ((tc p) + 1)) 16 p (nI i)) 14 = ll from A317))
                  have A326 : bm_AI (bm_setI (bm_setI (bm_setI B306 15 p ((tc p) + 1)) 16 p (nI i)) 17 p cf) 15 = (upd tc p ((tc p) + 1)) := ((AI_setn (bm_setI (bm_setI B306 15 p ((tc p) + 1)) 16 p (nI i)) p cf 15 (by decide)).trans (show bm_AI (bm_setI (bm_setI B306 15 p ((tc p) + 1)) 16 p (nI i)) 15 = (upd tc p ((tc p) + 1)) from A318))
                  have A327 : bm_AI (bm_setI (bm_setI (bm_setI B306 15 p ((tc p) + 1)) 16 p (nI i)) 17 p cf) 16 = (upd tl p (nI i)) := ((AI_setn (bm_setI (bm_setI B306 15 p ((tc p) + 1)) 16 p (nI i)) p cf 16 (by decide)).trans (show bm_AI (bm_setI (bm_setI B306 15 p ((tc p) + 1)) 16 p (nI i)) 16 = (upd tl p (nI i)) from A319))
                  have A328 : bm_AI (bm_setI (bm_setI (bm_setI B306 15 p ((tc p) + 1)) 16 p (nI i)) 17 p cf) 17 = (upd tf p cf) := ((AI_set (bm_setI (bm_setI B306 15 p ((tc p) + 1)) 16 p (nI i)) 17 p cf).trans (congrArg (fun f => upd f p cf) (show bm_AI (bm_setI (bm_setI B306 15 p ((tc p) + 1)) 16 p (nI i)) 17 = tf from A320)))
                  have A329 : bm_AI (bm_setI (bm_setI (bm_setI B306 15 p ((tc p) + 1)) 16 p (nI i)) 17 p cf) 18 = tg := ((AI_setn (bm_setI (bm_setI B306 15 p ((tc p) + 1)) 16 p (nI i)) p cf 18 (by decide)).trans (show bm_AI (bm_setI (bm_setI B306 15 p ((tc p) + 1)) 16 p (nI i)) 18 = tg from A321))
                  have Z330 : fz lex B306 (bm_setI (bm_setI (bm_setI B306 15 p ((tc p) + 1)) 16 p (nI i)) 17 p cf) := fz_trans Z322 ⟨fr_mono (fun _ q => by unfold lex; omega) (fr_setI _ 17 _ _), rfl, rfl⟩
                  refine g_ald (pc' := 188) cd_Le_noteTaken rfl (Or.inr ⟨_, rfl, rfl, rfl⟩) l0 rfl rfl ?_
                  refine g_fR (c := 4) (k := 6) (x := 18) (pc' := 191) cd_Le_noteTaken rfl rfl rfl rfl rfl (by decide) hR306.1.1.1 hR306.1.1.2 hR306.1.2.1.2.2.2.2.2.2 ?_
                  refine g_ild (pc' := 192) cd_Le_noteTaken rfl (Or.inr ⟨_, rfl, rfl, rfl⟩) l2 rfl ?_
                  refine g_ald (pc' := 193) cd_Le_noteTaken rfl (Or.inr ⟨_, rfl, rfl, rfl⟩) l0 rfl rfl ?_
                  refine g_fI (c := 4) (k := 8) (x := cg) (pc' := 196) cd_Le_noteTaken rfl rfl rfl rfl rfl (by decide) hR306.1.1.1 hR306.1.1.2 hR306.2.1.2.2.1.2.1 ?_
                  refine g_iast (pc' := 197) cd_Le_noteTaken rfl rfl hR306.1.2.2.2.2.2.2.2.2.1 hR306.1.2.2.2.2.2.2.2.2.2.1 (by rw [show bm_AL (bm_setI (bm_setI (bm_setI B306 15 p ((tc p) + 1)) 16 p (nI i)) 17 p cf) 18 = 6 from hR306.1.2.2.2.2.2.2.2.2.2.2]; exact vp_in_nI (by omega) (by decide)) ?_
                  rw [show (nI p : Int32).toNatClampNeg = p from nI_clamp (by omega)]
                  have A331 : bm_AI (bm_setI (bm_setI (bm_setI (bm_setI B306 15 p ((tc p) + 1)) 16 p (nI i)) 17 p cf) 18 p cg) 12 = (bm_AI B306 12) := ((AI_setn (bm_setI (bm_setI (bm_setI B306 15 p ((tc p) + 1)) 16 p (nI i)) 17 p cf) p cg 12 (by decide)).trans (show bm_AI (bm_setI (bm_setI (bm_setI B306 15 p ((tc p) + 1)) 16 p (nI i)) 17 p cf) 12 = (bm_AI B306 12) from A323))
                  have A332 : bm_AI (bm_setI (bm_setI (bm_setI (bm_setI B306 15 p ((tc p) + 1)) 16 p (nI i)) 17 p cf) 18 p cg) 13 = bd := ((AI_setn (bm_setI (bm_setI (bm_setI B306 15 p ((tc p) + 1)) 16 p (nI i)) 17 p cf) p cg 13 (by decide)).trans (show bm_AI (bm_setI (bm_setI (bm_setI B306 15 p ((tc p) + 1)) 16 p (nI i)) 17 p cf) 13 = bd from A324))
                  have A333 : bm_AI (bm_setI (bm_setI (bm_setI (bm_setI B306 15 p ((tc p) + 1)) 16 p (nI i)) 17 p cf) 18 p cg) 14 = ll := ((AI_setn (bm_setI (bm_setI (bm_setI B306 15 p ((tc p) + 1)) 16 p (nI i)) 17 p cf) p cg 14 (by decide)).trans (show bm_AI (bm_setI (bm_setI (bm_setI B306 15 p ((tc p) + 1)) 16 p (nI i)) 17 p cf) 14 = ll from A325))
                  have A334 : bm_AI (bm_setI (bm_setI (bm_setI (bm_setI B306 15 p ((tc p) + 1)) 16 p (nI i)) 17 p cf) 18 p cg) 15 = (upd tc p ((tc p) + 1)) := ((AI_setn (bm_setI (bm_setI (bm_setI B306 15 p ((tc p) + 1)) 16 p (nI i)) 17 p cf) p cg 15 (by decide)).trans (show bm_AI (bm_setI (bm_setI (bm_setI B306 15 p ((tc p) + 1)) 16 p (nI i)) 17 p cf) 15 = (upd tc p ((tc p) + 1)) from A326))
                  have A335 : bm_AI (bm_setI (bm_setI (bm_setI (bm_setI B306 15 p ((tc p) + 1)) 16 p (nI i)) 17 p cf) 18 p cg) 16 = (upd tl p (nI i)) := ((AI_setn (bm_setI (bm_setI (bm_setI B306 15 p ((tc p) + 1)) 16 p (nI i)) 17 p cf) p cg 16 (by decide)).trans (show bm_AI (bm_setI (bm_setI (bm_setI B306 15 p ((tc p) + 1)) 16 p (nI i)) 17 p cf) 16 = (upd tl p (nI i)) from A327))
                  have A336 : bm_AI (bm_setI (bm_setI (bm_setI (bm_setI B306 15 p ((tc p) + 1)) 16 p (nI i)) 17 p cf) 18 p cg) 17 = (upd tf p cf) := ((AI_setn (bm_setI (bm_setI (bm_setI B306 15 p ((tc p) + 1)) 16 p (nI i)) 17 p cf) p cg 17 (by decide)).trans (show bm_AI (bm_setI (bm_setI (bm_setI B306 15 p ((tc p) + 1)) 16 p (nI i)) 17 p cf) 17 = (upd tf p cf) from A328))
                  have A337 : bm_AI (bm_setI (bm_setI (bm_setI (bm_setI B306 15 p ((tc p) + 1)) 16 p (nI i)) 17 p cf) 18 p cg) 18 = (upd tg p cg) := ((AI_set (bm_setI (bm_setI (bm_setI B306 15 p ((tc p) + 1)) 16 p (nI i)) 17 p cf) 18 p cg).trans (congrArg (fun f => upd f p cg) (show bm_AI (bm_setI (bm_setI (bm_setI B306 15 p ((tc p) + 1)) 16 p (nI i)) 17 p cf) 18 = tg from A329)))
                  have Z338 : fz lex B306 (bm_setI (bm_setI (bm_setI (bm_setI B306 15 p ((tc p) + 1)) 16 p (nI i)) 17 p cf) 18 p cg) := fz_trans Z330 ⟨fr_mono (fun _ q => by unfold lex; omega) (fr_setI _ 18 _ _), rfl, rfl⟩
                  have hRz : RLe (bm_setI (bm_setI (bm_setI (bm_setI B306 15 p ((tc p) + 1)) 16 p (nI i)) 17 p cf) 18 p cg) T ((L.set i (se, fm, to, gr, ma, on, mi, th, (tk ||| (1 <<< (nI p &&& 31))), sf)), bd, ll, upd tc p (tc p + 1), upd tl p (nI i), upd tf p cf, upd tg p cg, cf, cg, ct, co, li, fo, db) := ⟨LgS_fr hR306.1 Z338.1, ⟨hR306.2.1.1, ⟨A332, A333, A334, A335, A336, A337⟩, hR306.2.1.2.2⟩, (by rw [show bm_AI (bm_setI (bm_setI (bm_setI (bm_setI B306 15 p ((tc p) + 1)) 16 p (nI i)) 17 p cf) 18 p cg) 12 = _ from A331]; exact hR306.2.2)⟩
                  have hEq : lg_taken (L, bd, ll, tc, tl, tf, tg, cf, cg, ct, co, li, fo, db) p = ((L.set i (se, fm, to, gr, ma, on, mi, th, (tk ||| (1 <<< (nI p &&& 31))), sf)), bd, ll, upd tc p (tc p + 1), upd tl p (nI i), upd tf p cf, upd tg p cg, cf, cg, ct, co, li, fo, db) := by unfold lg_taken; dsimp only; rw [hl, lg_get_t he h7]; dsimp only; rw [nI_clamp (show i < 2 ^ 31 by omega)]; simp only [lt_take, ← hso, n26, n40, n45, n77, n118, n125]; simp
                  exact g_retv cd_Le_noteTaken rfl ⟨rfl, (kk _ (hEq ▸ hRz) (fz_trans hz306 Z338))⟩
                · have c125 : co = true := bz_t c125
                  have n125 := c125
                  refine g_ald (pc' := 129) cd_Le_noteTaken rfl (Or.inr ⟨_, rfl, rfl, rfl⟩) l0 rfl rfl ?_
                  refine g_ild (pc' := 130) cd_Le_noteTaken rfl (Or.inr ⟨_, rfl, rfl, rfl⟩) l3 rfl ?_
                  refine g_k1 (v := 4) (pc' := 131) cd_Le_noteTaken rfl (by decide) rfl ?_
                  refine g_calli (pc' := 134) cd_Le_noteTaken rfl rfl rfl rfl rfl (tm_invV rfl rfl cd_Le_of rfl (Nat.le_of_ble_eq_true rfl) (by decide) hR306.1.1.1 hR306.1.1.2) (t_Lof (k := 4) hR306 hi305 (by decide) ?_)
                  rw [show bm_AI B306 12 (i * 10 + 4) = ma from (hR306.2.2.1 i _ he305).2.2.2.2.1]
                  show bm_G _ _ _ 134 _ [.int ma] B306 _
                  refine g_ald (pc' := 135) cd_Le_noteTaken rfl (Or.inr ⟨_, rfl, rfl, rfl⟩) l0 rfl rfl ?_
                  refine g_fI (c := 4) (k := 12) (x := li) (pc' := 138) cd_Le_noteTaken rfl rfl rfl rfl rfl (by decide) hR306.1.1.1 hR306.1.1.2 hR306.2.1.2.2.2.1 ?_
                  refine g_pure (pc' := 139) (st' := [.int (ma &&& li)]) cd_Le_noteTaken rfl rfl (fun _ _ => rfl) ?_
                  refine g_if1 (t := 160) (pc' := 142) cd_Le_noteTaken rfl rfl rfl (fun c139 => ?_) (fun c139 => ?_)
                  · have c139 : ¬ (ma &&& li) = 0 := c139
                    have n139 := c139
                    refine g_ald (pc' := 161) cd_Le_noteTaken rfl (Or.inr ⟨_, rfl, rfl, rfl⟩) l0 rfl rfl ?_
                    refine g_fR (c := 4) (k := 3) (x := 15) (pc' := 164) cd_Le_noteTaken rfl rfl rfl rfl rfl (by decide) hR306.1.1.1 hR306.1.1.2 hR306.1.2.1.2.2.2.1 ?_
                    refine g_ild (pc' := 165) cd_Le_noteTaken rfl (Or.inr ⟨_, rfl, rfl, rfl⟩) l2 rfl ?_
                    refine g_pure (pc' := 166) (st' := [.int (nI p), .ref 15, .int (nI p), .ref 15]) cd_Le_noteTaken rfl rfl (fun _ _ => rfl) ?_
                    refine g_aI (x := (tc p)) (pc' := 167) cd_Le_noteTaken rfl rfl hR306.1.2.2.2.2.2.1.1 hR306.1.2.2.2.2.2.1.2.1 (by rw [show bm_AL B306 15 = 6 from hR306.1.2.2.2.2.2.1.2.2]; exact vp_in_nI (by omega) (by decide)) (by rw [nI_clamp (by omega)]; exact congrFun (show bm_AI B306 15 = tc from hR306.2.1.2.1.2.2.1) p) ?_
                    refine g_k1 (v := 1) (pc' := 168) cd_Le_noteTaken rfl (by decide) rfl ?_
                    refine g_pure (pc' := 169) (st' := [.int ((tc p) + 1), .int (nI p), .ref 15]) cd_Le_noteTaken rfl rfl (fun _ _ => rfl) ?_
                    refine g_iast (pc' := 170) cd_Le_noteTaken rfl rfl hR306.1.2.2.2.2.2.1.1 hR306.1.2.2.2.2.2.1.2.1 (by rw [show bm_AL B306 15 = 6 from hR306.1.2.2.2.2.2.1.2.2]; exact vp_in_nI (by omega) (by decide)) ?_
                    rw [show (nI p : Int32).toNatClampNeg = p from nI_clamp (by omega)]
                    have A339 : bm_AI (bm_setI B306 15 p ((tc p) + 1)) 12 = (bm_AI B306 12) := ((AI_setn B306 p ((tc p) + 1) 12 (by decide)).trans (show bm_AI B306 12 = (bm_AI B306 12) from rfl))
                    have A340 : bm_AI (bm_setI B306 15 p ((tc p) + 1)) 13 = bd := ((AI_setn B306 p ((tc p) + 1) 13 (by decide)).trans (show bm_AI B306 13 = bd from hR306.2.1.2.1.1))
                    have A341 : bm_AI (bm_setI B306 15 p ((tc p) + 1)) 14 = ll := ((AI_setn B306 p ((tc p) + 1) 14 (by decide)).trans (show bm_AI B306 14 = ll from hR306.2.1.2.1.2.1))
                    have A342 : bm_AI (bm_setI B306 15 p ((tc p) + 1)) 15 = (upd tc p ((tc p) + 1)) := ((AI_set B306 15 p ((tc p) + 1)).trans (congrArg (fun f => upd f p ((tc p) + 1)) (show bm_AI B306 15 = tc from hR306.2.1.2.1.2.2.1)))
                    have A343 : bm_AI (bm_setI B306 15 p ((tc p) + 1)) 16 = tl := ((AI_setn B306 p ((tc p) + 1) 16 (by decide)).trans (show bm_AI B306 16 = tl from hR306.2.1.2.1.2.2.2.1))
                    have A344 : bm_AI (bm_setI B306 15 p ((tc p) + 1)) 17 = tf := ((AI_setn B306 p ((tc p) + 1) 17 (by decide)).trans (show bm_AI B306 17 = tf from hR306.2.1.2.1.2.2.2.2.1))
                    have A345 : bm_AI (bm_setI B306 15 p ((tc p) + 1)) 18 = tg := ((AI_setn B306 p ((tc p) + 1) 18 (by decide)).trans (show bm_AI B306 18 = tg from hR306.2.1.2.1.2.2.2.2.2))
                    have Z346 : fz lex B306 (bm_setI B306 15 p ((tc p) + 1)) := fz_trans (fz_rfl _ B306) ⟨fr_mono (fun _ q => by unfold lex; omega) (fr_setI _ 15 _ _), rfl, rfl⟩
                    refine g_ald (pc' := 171) cd_Le_noteTaken rfl (Or.inr ⟨_, rfl, rfl, rfl⟩) l0 rfl rfl ?_
                    refine g_fR (c := 4) (k := 4) (x := 16) (pc' := 174) cd_Le_noteTaken rfl rfl rfl rfl rfl (by decide) hR306.1.1.1 hR306.1.1.2 hR306.1.2.1.2.2.2.2.1 ?_
                    refine g_ild (pc' := 175) cd_Le_noteTaken rfl (Or.inr ⟨_, rfl, rfl, rfl⟩) l2 rfl ?_
                    refine g_ild (pc' := 176) cd_Le_noteTaken rfl (Or.inr ⟨_, rfl, rfl, rfl⟩) l3 rfl ?_
                    refine g_iast (pc' := 177) cd_Le_noteTaken rfl rfl hR306.1.2.2.2.2.2.2.1.1 hR306.1.2.2.2.2.2.2.1.2.1 (by rw [show bm_AL (bm_setI B306 15 p ((tc p) + 1)) 16 = 6 from hR306.1.2.2.2.2.2.2.1.2.2]; exact vp_in_nI (by omega) (by decide)) ?_
                    rw [show (nI p : Int32).toNatClampNeg = p from nI_clamp (by omega)]
                    have A347 : bm_AI (bm_setI (bm_setI B306 15 p ((tc p) + 1)) 16 p (nI i)) 12 = (bm_AI B306 12) := ((AI_setn (bm_setI B306 15 p ((tc p) + 1)) p (nI i) 12 (by decide)).trans (show bm_AI (bm_setI B306 15 p ((tc p) + 1)) 12 = (bm_AI B306 12) from A339))
                    have A348 : bm_AI (bm_setI (bm_setI B306 15 p ((tc p) + 1)) 16 p (nI i)) 13 = bd := ((AI_setn (bm_setI B306 15 p ((tc p) + 1)) p (nI i) 13 (by decide)).trans (show bm_AI (bm_setI B306 15 p ((tc p) + 1)) 13 = bd from A340))
                    have A349 : bm_AI (bm_setI (bm_setI B306 15 p ((tc p) + 1)) 16 p (nI i)) 14 = ll := ((AI_setn (bm_setI B306 15 p ((tc p) + 1)) p (nI i) 14 (by decide)).trans (show bm_AI (bm_setI B306 15 p ((tc p) + 1)) 14 = ll from A341))
                    have A350 : bm_AI (bm_setI (bm_setI B306 15 p ((tc p) + 1)) 16 p (nI i)) 15 = (upd tc p ((tc p) + 1)) := ((AI_setn (bm_setI B306 15 p ((tc p) + 1)) p (nI i) 15 (by decide)).trans (show bm_AI (bm_setI B306 15 p ((tc p) + 1)) 15 = (upd tc p ((tc p) + 1)) from A342))
                    have A351 : bm_AI (bm_setI (bm_setI B306 15 p ((tc p) + 1)) 16 p (nI i)) 16 = (upd tl p (nI i)) := ((AI_set (bm_setI B306 15 p ((tc p) + 1)) 16 p (nI i)).trans (congrArg (fun f => upd f p (nI i)) (show bm_AI (bm_setI B306 15 p ((tc p) + 1)) 16 = tl from A343)))
                    have A352 : bm_AI (bm_setI (bm_setI B306 15 p ((tc p) + 1)) 16 p (nI i)) 17 = tf := ((AI_setn (bm_setI B306 15 p ((tc p) + 1)) p (nI i) 17 (by decide)).trans (show bm_AI (bm_setI B306 15 p ((tc p) + 1)) 17 = tf from A344))
                    have A353 : bm_AI (bm_setI (bm_setI B306 15 p ((tc p) + 1)) 16 p (nI i)) 18 = tg := ((AI_setn (bm_setI B306 15 p ((tc p) + 1)) p (nI i) 18 (by decide)).trans (show bm_AI (bm_setI B306 15 p ((tc p) + 1)) 18 = tg from A345))
                    have Z354 : fz lex B306 (bm_setI (bm_setI B306 15 p ((tc p) + 1)) 16 p (nI i)) := fz_trans Z346 ⟨fr_mono (fun _ q => by unfold lex; omega) (fr_setI _ 16 _ _), rfl, rfl⟩
                    refine g_ald (pc' := 178) cd_Le_noteTaken rfl (Or.inr ⟨_, rfl, rfl, rfl⟩) l0 rfl rfl ?_
                    refine g_fR (c := 4) (k := 5) (x := 17) (pc' := 181) cd_Le_noteTaken rfl rfl rfl rfl rfl (by decide) hR306.1.1.1 hR306.1.1.2 hR306.1.2.1.2.2.2.2.2.1 ?_
                    refine g_ild (pc' := 182) cd_Le_noteTaken rfl (Or.inr ⟨_, rfl, rfl, rfl⟩) l2 rfl ?_
                    refine g_ald (pc' := 183) cd_Le_noteTaken rfl (Or.inr ⟨_, rfl, rfl, rfl⟩) l0 rfl rfl ?_
                    refine g_fI (c := 4) (k := 7) (x := cf) (pc' := 186) cd_Le_noteTaken rfl rfl rfl rfl rfl (by decide) hR306.1.1.1 hR306.1.1.2 hR306.2.1.2.2.1.1 ?_
                    refine g_iast (pc' := 187) cd_Le_noteTaken rfl rfl hR306.1.2.2.2.2.2.2.2.1.1 hR306.1.2.2.2.2.2.2.2.1.2.1 (by rw [show bm_AL (bm_setI (bm_setI B306 15 p ((tc p) + 1)) 16 p (nI i)) 17 = 6 from hR306.1.2.2.2.2.2.2.2.1.2.2]; exact vp_in_nI (by omega) (by decide)) ?_
                    rw [show (nI p : Int32).toNatClampNeg = p from nI_clamp (by omega)]
                    have A355 : bm_AI (bm_setI (bm_setI (bm_setI B306 15 p ((tc p) + 1)) 16 p (nI i)) 17 p cf) 12 = (bm_AI B306 12) := ((AI_setn (bm_setI (bm_setI B306 15 p ((tc p) + 1)) 16 p (nI i)) p cf 12 (by decide)).trans (show bm_AI (bm_setI (bm_setI B306 15 p ((tc p) + 1)) 16 p (nI i)) 12 = (bm_AI B306 12) from A347))
                    have A356 : bm_AI (bm_setI (bm_setI (bm_setI B306 15 p ((tc p) + 1)) 16 p (nI i)) 17 p cf) 13 = bd := ((AI_setn (bm_setI (bm_setI B306 15 p ((tc p) + 1)) 16 p (nI i)) p cf 13 (by decide)).trans (show bm_AI (bm_setI (bm_setI B306 15 p ((tc p) + 1)) 16 p (nI i)) 13 = bd from A348))
                    have A357 : bm_AI (bm_setI (bm_setI (bm_setI B306 15 p ((tc p) + 1)) 16 p (nI i)) 17 p cf) 14 = ll := ((AI_setn (bm_setI (bm_setI B306 15 p ((tc p) + 1)) 16 p (nI i)) p cf 14 (by decide)).trans (show bm_AI (bm_setI (bm_setI B306 15 p ((tc p) + 1)) 16 p (nI i)) 14 = ll from A349))
                    have A358 : bm_AI (bm_setI (bm_setI (bm_setI B306 15 p ((tc p) + 1)) 16 p (nI i)) 17 p cf) 15 = (upd tc p ((tc p) + 1)) := ((AI_setn (bm_setI (bm_setI B306 15 p ((tc p) + 1)) 16 p (nI i)) p cf 15 (by decide)).trans (show bm_AI (bm_setI (bm_setI B306 15 p ((tc p) + 1)) 16 p (nI i)) 15 = (upd tc p ((tc p) + 1)) from A350))
                    have A359 : bm_AI (bm_setI (bm_setI (bm_setI B306 15 p ((tc p) + 1)) 16 p (nI i)) 17 p cf) 16 = (upd tl p (nI i)) := ((AI_setn (bm_setI (bm_setI B306 15 p ((tc p) + 1)) 16 p (nI i)) p cf 16 (by decide)).trans (show bm_AI (bm_setI (bm_setI B306 15 p ((tc p) + 1)) 16 p (nI i)) 16 = (upd tl p (nI i)) from A351))
                    have A360 : bm_AI (bm_setI (bm_setI (bm_setI B306 15 p ((tc p) + 1)) 16 p (nI i)) 17 p cf) 17 = (upd tf p cf) := ((AI_set (bm_setI (bm_setI B306 15 p ((tc p) + 1)) 16 p (nI i)) 17 p cf).trans (congrArg (fun f => upd f p cf) (show bm_AI (bm_setI (bm_setI B306 15 p ((tc p) + 1)) 16 p (nI i)) 17 = tf from A352)))
                    have A361 : bm_AI (bm_setI (bm_setI (bm_setI B306 15 p ((tc p) + 1)) 16 p (nI i)) 17 p cf) 18 = tg := ((AI_setn (bm_setI (bm_setI B306 15 p ((tc p) + 1)) 16 p (nI i)) p cf 18 (by decide)).trans (show bm_AI (bm_setI (bm_setI B306 15 p ((tc p) + 1)) 16 p (nI i)) 18 = tg from A353))
                    have Z362 : fz lex B306 (bm_setI (bm_setI (bm_setI B306 15 p ((tc p) + 1)) 16 p (nI i)) 17 p cf) := fz_trans Z354 ⟨fr_mono (fun _ q => by unfold lex; omega) (fr_setI _ 17 _ _), rfl, rfl⟩
                    refine g_ald (pc' := 188) cd_Le_noteTaken rfl (Or.inr ⟨_, rfl, rfl, rfl⟩) l0 rfl rfl ?_
                    refine g_fR (c := 4) (k := 6) (x := 18) (pc' := 191) cd_Le_noteTaken rfl rfl rfl rfl rfl (by decide) hR306.1.1.1 hR306.1.1.2 hR306.1.2.1.2.2.2.2.2.2 ?_
                    refine g_ild (pc' := 192) cd_Le_noteTaken rfl (Or.inr ⟨_, rfl, rfl, rfl⟩) l2 rfl ?_
                    refine g_ald (pc' := 193) cd_Le_noteTaken rfl (Or.inr ⟨_, rfl, rfl, rfl⟩) l0 rfl rfl ?_
                    refine g_fI (c := 4) (k := 8) (x := cg) (pc' := 196) cd_Le_noteTaken rfl rfl rfl rfl rfl (by decide) hR306.1.1.1 hR306.1.1.2 hR306.2.1.2.2.1.2.1 ?_
                    refine g_iast (pc' := 197) cd_Le_noteTaken rfl rfl hR306.1.2.2.2.2.2.2.2.2.1 hR306.1.2.2.2.2.2.2.2.2.2.1 (by rw [show bm_AL (bm_setI (bm_setI (bm_setI B306 15 p ((tc p) + 1)) 16 p (nI i)) 17 p cf) 18 = 6 from hR306.1.2.2.2.2.2.2.2.2.2.2]; exact vp_in_nI (by omega) (by decide)) ?_
                    rw [show (nI p : Int32).toNatClampNeg = p from nI_clamp (by omega)]
                    have A363 : bm_AI (bm_setI (bm_setI (bm_setI (bm_setI B306 15 p ((tc p) + 1)) 16 p (nI i)) 17 p cf) 18 p cg) 12 = (bm_AI B306 12) := ((AI_setn (bm_setI (bm_setI (bm_setI B306 15 p ((tc p) + 1)) 16 p (nI i)) 17 p cf) p cg 12 (by decide)).trans (show bm_AI (bm_setI (bm_setI (bm_setI B306 15 p ((tc p) + 1)) 16 p (nI i)) 17 p cf) 12 = (bm_AI B306 12) from A355))
                    have A364 : bm_AI (bm_setI (bm_setI (bm_setI (bm_setI B306 15 p ((tc p) + 1)) 16 p (nI i)) 17 p cf) 18 p cg) 13 = bd := ((AI_setn (bm_setI (bm_setI (bm_setI B306 15 p ((tc p) + 1)) 16 p (nI i)) 17 p cf) p cg 13 (by decide)).trans (show bm_AI (bm_setI (bm_setI (bm_setI B306 15 p ((tc p) + 1)) 16 p (nI i)) 17 p cf) 13 = bd from A356))
                    have A365 : bm_AI (bm_setI (bm_setI (bm_setI (bm_setI B306 15 p ((tc p) + 1)) 16 p (nI i)) 17 p cf) 18 p cg) 14 = ll := ((AI_setn (bm_setI (bm_setI (bm_setI B306 15 p ((tc p) + 1)) 16 p (nI i)) 17 p cf) p cg 14 (by decide)).trans (show bm_AI (bm_setI (bm_setI (bm_setI B306 15 p ((tc p) + 1)) 16 p (nI i)) 17 p cf) 14 = ll from A357))
                    have A366 : bm_AI (bm_setI (bm_setI (bm_setI (bm_setI B306 15 p ((tc p) + 1)) 16 p (nI i)) 17 p cf) 18 p cg) 15 = (upd tc p ((tc p) + 1)) := ((AI_setn (bm_setI (bm_setI (bm_setI B306 15 p ((tc p) + 1)) 16 p (nI i)) 17 p cf) p cg 15 (by decide)).trans (show bm_AI (bm_setI (bm_setI (bm_setI B306 15 p ((tc p) + 1)) 16 p (nI i)) 17 p cf) 15 = (upd tc p ((tc p) + 1)) from A358))
                    have A367 : bm_AI (bm_setI (bm_setI (bm_setI (bm_setI B306 15 p ((tc p) + 1)) 16 p (nI i)) 17 p cf) 18 p cg) 16 = (upd tl p (nI i)) := ((AI_setn (bm_setI (bm_setI (bm_setI B306 15 p ((tc p) + 1)) 16 p (nI i)) 17 p cf) p cg 16 (by decide)).trans (show bm_AI (bm_setI (bm_setI (bm_setI B306 15 p ((tc p) + 1)) 16 p (nI i)) 17 p cf) 16 = (upd tl p (nI i)) from A359))
                    have A368 : bm_AI (bm_setI (bm_setI (bm_setI (bm_setI B306 15 p ((tc p) + 1)) 16 p (nI i)) 17 p cf) 18 p cg) 17 = (upd tf p cf) := ((AI_setn (bm_setI (bm_setI (bm_setI B306 15 p ((tc p) + 1)) 16 p (nI i)) 17 p cf) p cg 17 (by decide)).trans (show bm_AI (bm_setI (bm_setI (bm_setI B306 15 p ((tc p) + 1)) 16 p (nI i)) 17 p cf) 17 = (upd tf p cf) from A360))
                    have A369 : bm_AI (bm_setI (bm_setI (bm_setI (bm_setI B306 15 p ((tc p) + 1)) 16 p (nI i)) 17 p cf) 18 p cg) 18 = (upd tg p cg) := ((AI_set (bm_setI (bm_setI (bm_setI B306 15 p ((tc p) + 1)) 16 p (nI i)) 17 p cf) 18 p cg).trans (congrArg (fun f => upd f p cg) (show bm_AI (bm_setI (bm_setI (bm_setI B306 15 p ((tc p) + 1)) 16 p (nI i)) 17 p cf) 18 = tg from A361)))
                    have Z370 : fz lex B306 (bm_setI (bm_setI (bm_setI (bm_setI B306 15 p ((tc p) + 1)) 16 p (nI i)) 17 p cf) 18 p cg) := fz_trans Z362 ⟨fr_mono (fun _ q => by unfold lex; omega) (fr_setI _ 18 _ _), rfl, rfl⟩
                    have hRz : RLe (bm_setI (bm_setI (bm_setI (bm_setI B306 15 p ((tc p) + 1)) 16 p (nI i)) 17 p cf) 18 p cg) T ((L.set i (se, fm, to, gr, ma, on, mi, th, (tk ||| (1 <<< (nI p &&& 31))), sf)), bd, ll, upd tc p (tc p + 1), upd tl p (nI i), upd tf p cf, upd tg p cg, cf, cg, ct, co, li, fo, db) := ⟨LgS_fr hR306.1 Z370.1, ⟨hR306.2.1.1, ⟨A364, A365, A366, A367, A368, A369⟩, hR306.2.1.2.2⟩, (by rw [show bm_AI (bm_setI (bm_setI (bm_setI (bm_setI B306 15 p ((tc p) + 1)) 16 p (nI i)) 17 p cf) 18 p cg) 12 = _ from A363]; exact hR306.2.2)⟩
                    have hEq : lg_taken (L, bd, ll, tc, tl, tf, tg, cf, cg, ct, co, li, fo, db) p = ((L.set i (se, fm, to, gr, ma, on, mi, th, (tk ||| (1 <<< (nI p &&& 31))), sf)), bd, ll, upd tc p (tc p + 1), upd tl p (nI i), upd tf p cf, upd tg p cg, cf, cg, ct, co, li, fo, db) := by unfold lg_taken; dsimp only; rw [hl, lg_get_t he h7]; dsimp only; rw [nI_clamp (show i < 2 ^ 31 by omega)]; simp only [lt_take, ← hso, n26, n40, n45, n77, n118, n125, n139]; simp
                    exact g_retv cd_Le_noteTaken rfl ⟨rfl, (kk _ (hEq ▸ hRz) (fz_trans hz306 Z370))⟩
                  · have c139 : (ma &&& li) = 0 := Classical.not_not.mp c139
                    have n139 := c139
                    refine g_ald (pc' := 143) cd_Le_noteTaken rfl (Or.inr ⟨_, rfl, rfl, rfl⟩) l0 rfl rfl ?_
                    refine g_fR (c := 4) (k := 0) (x := 12) (pc' := 146) cd_Le_noteTaken rfl rfl rfl rfl rfl (by decide) hR306.1.1.1 hR306.1.1.2 hR306.1.2.1.1 ?_
                    refine g_ild (pc' := 147) cd_Le_noteTaken rfl (Or.inr ⟨_, rfl, rfl, rfl⟩) l3 rfl ?_
                    refine g_k2 (v := 10) (pc' := 149) cd_Le_noteTaken rfl (by decide) rfl ?_
                    refine g_pure (pc' := 150) (st' := [.int ((nI i) * 10), .ref 12]) cd_Le_noteTaken rfl rfl (fun _ _ => rfl) ?_
                    rw [show ((nI i) * 10 : Int32) = nI (i * 10) from pk_mul i 10]
                    refine g_k2 (v := 9) (pc' := 152) cd_Le_noteTaken rfl (by decide) rfl ?_
                    refine g_pure (pc' := 153) (st' := [.int ((nI (i * 10)) + 9), .ref 12]) cd_Le_noteTaken rfl rfl (fun _ _ => rfl) ?_
                    rw [show ((nI (i * 10)) + 9 : Int32) = nI ((i * 10) + 9) from nI_add (i * 10) 9]
                    refine g_pure (pc' := 154) (st' := [.int (nI ((i * 10) + 9)), .ref 12, .int (nI ((i * 10) + 9)), .ref 12]) cd_Le_noteTaken rfl rfl (fun _ _ => rfl) ?_
                    refine g_aI (x := sf) (pc' := 155) cd_Le_noteTaken rfl rfl hR306.1.2.2.1.1 hR306.1.2.2.1.2.1 (by rw [show bm_AL B306 12 = 7000 from hR306.1.2.2.1.2.2]; exact vp_in_nI (by omega) (by decide)) (by rw [nI_clamp (by omega)]; exact (hR306.2.2.1 i _ he305).2.2.2.2.2.2.2.2.2) ?_
                    refine g_k1 (v := 1) (pc' := 156) cd_Le_noteTaken rfl (by decide) rfl ?_
                    refine g_ild (pc' := 157) cd_Le_noteTaken rfl (Or.inr ⟨_, rfl, rfl, rfl⟩) l2 rfl ?_
                    refine g_pure (pc' := 158) (st' := [.int (1 <<< ((nI p) &&& 31)), .int sf, .int (nI ((i * 10) + 9)), .ref 12]) cd_Le_noteTaken rfl rfl (fun _ _ => rfl) ?_
                    refine g_pure (pc' := 159) (st' := [.int (sf ||| (1 <<< ((nI p) &&& 31))), .int (nI ((i * 10) + 9)), .ref 12]) cd_Le_noteTaken rfl rfl (fun _ _ => rfl) ?_
                    refine g_iast (pc' := 160) cd_Le_noteTaken rfl rfl hR306.1.2.2.1.1 hR306.1.2.2.1.2.1 (by rw [show bm_AL B306 12 = 7000 from hR306.1.2.2.1.2.2]; exact vp_in_nI (by omega) (by decide)) ?_
                    rw [show (nI ((i * 10) + 9) : Int32).toNatClampNeg = ((i * 10) + 9) from nI_clamp (by omega)]
                    have A371 : bm_AI (bm_setI B306 12 ((i * 10) + 9) (sf ||| (1 <<< ((nI p) &&& 31)))) 12 = (upd (bm_AI B306 12) ((i * 10) + 9) (sf ||| (1 <<< ((nI p) &&& 31)))) := ((AI_set B306 12 ((i * 10) + 9) (sf ||| (1 <<< ((nI p) &&& 31)))).trans (congrArg (fun f => upd f ((i * 10) + 9) (sf ||| (1 <<< ((nI p) &&& 31)))) (show bm_AI B306 12 = (bm_AI B306 12) from rfl)))
                    have A372 : bm_AI (bm_setI B306 12 ((i * 10) + 9) (sf ||| (1 <<< ((nI p) &&& 31)))) 13 = bd := ((AI_setn B306 ((i * 10) + 9) (sf ||| (1 <<< ((nI p) &&& 31))) 13 (by decide)).trans (show bm_AI B306 13 = bd from hR306.2.1.2.1.1))
                    have A373 : bm_AI (bm_setI B306 12 ((i * 10) + 9) (sf ||| (1 <<< ((nI p) &&& 31)))) 14 = ll := ((AI_setn B306 ((i * 10) + 9) (sf ||| (1 <<< ((nI p) &&& 31))) 14 (by decide)).trans (show bm_AI B306 14 = ll from hR306.2.1.2.1.2.1))
                    have A374 : bm_AI (bm_setI B306 12 ((i * 10) + 9) (sf ||| (1 <<< ((nI p) &&& 31)))) 15 = tc := ((AI_setn B306 ((i * 10) + 9) (sf ||| (1 <<< ((nI p) &&& 31))) 15 (by decide)).trans (show bm_AI B306 15 = tc from hR306.2.1.2.1.2.2.1))
                    have A375 : bm_AI (bm_setI B306 12 ((i * 10) + 9) (sf ||| (1 <<< ((nI p) &&& 31)))) 16 = tl := ((AI_setn B306 ((i * 10) + 9) (sf ||| (1 <<< ((nI p) &&& 31))) 16 (by decide)).trans (show bm_AI B306 16 = tl from hR306.2.1.2.1.2.2.2.1))
                    have A376 : bm_AI (bm_setI B306 12 ((i * 10) + 9) (sf ||| (1 <<< ((nI p) &&& 31)))) 17 = tf := ((AI_setn B306 ((i * 10) + 9) (sf ||| (1 <<< ((nI p) &&& 31))) 17 (by decide)).trans (show bm_AI B306 17 = tf from hR306.2.1.2.1.2.2.2.2.1))
                    have A377 : bm_AI (bm_setI B306 12 ((i * 10) + 9) (sf ||| (1 <<< ((nI p) &&& 31)))) 18 = tg := ((AI_setn B306 ((i * 10) + 9) (sf ||| (1 <<< ((nI p) &&& 31))) 18 (by decide)).trans (show bm_AI B306 18 = tg from hR306.2.1.2.1.2.2.2.2.2))
                    have Z378 : fz lex B306 (bm_setI B306 12 ((i * 10) + 9) (sf ||| (1 <<< ((nI p) &&& 31)))) := fz_trans (fz_rfl _ B306) ⟨fr_mono (fun _ q => by unfold lex; omega) (fr_setI _ 12 _ _), rfl, rfl⟩
                    have hR380 : RLe (bm_setI B306 12 ((i * 10) + 9) (sf ||| (1 <<< ((nI p) &&& 31)))) T (((L.set i (se, fm, to, gr, ma, on, mi, th, (tk ||| (1 <<< (nI p &&& 31))), sf)).set i (se, fm, to, gr, ma, on, mi, th, (tk ||| (1 <<< (nI p &&& 31))), (sf ||| (1 <<< (nI p &&& 31))))), bd, ll, tc, tl, tf, tg, cf, cg, ct, co, li, fo, db) := ⟨LgS_fr hR306.1 Z378.1, ⟨⟨(hR306.2.1.1.1).trans (by simp), (by have := hR306.2.1.1.2; simpa using this)⟩, ⟨A372, A373, A374, A375, A376, A377⟩, hR306.2.1.2.2⟩, (RLc_set (i := i) hR306.2.2 he305 (fun j h8 h9 => by rw [show bm_AI (bm_setI B306 12 ((i * 10) + 9) (sf ||| (1 <<< ((nI p) &&& 31)))) 12 = _ from A371]; exact pk_un (by omega)) (by rw [show bm_AI (bm_setI B306 12 ((i * 10) + 9) (sf ||| (1 <<< ((nI p) &&& 31)))) 12 = _ from A371]; exact (pk_un (by omega)).trans ((hR306.2.2.1 i _ he305).2.2.2.2.2.2.2.2.1)) (by rw [show bm_AI (bm_setI B306 12 ((i * 10) + 9) (sf ||| (1 <<< ((nI p) &&& 31)))) 12 = _ from A371]; exact if_pos rfl))⟩
                    have hz380 : fz lex B (bm_setI B306 12 ((i * 10) + 9) (sf ||| (1 <<< ((nI p) &&& 31)))) := fz_trans hz306 Z378
                    generalize (bm_setI B306 12 ((i * 10) + 9) (sf ||| (1 <<< ((nI p) &&& 31)))) = B380 at hR380 hz380 ⊢
                    have he379 : ((L.set i (se, fm, to, gr, ma, on, mi, th, (tk ||| (1 <<< (nI p &&& 31))), sf)).set i (se, fm, to, gr, ma, on, mi, th, (tk ||| (1 <<< (nI p &&& 31))), (sf ||| (1 <<< (nI p &&& 31)))))[i]? = some (se, fm, to, gr, ma, on, mi, th, (tk ||| (1 <<< (nI p &&& 31))), (sf ||| (1 <<< (nI p &&& 31)))) := List.getElem?_set_self hi305
                    have hi379 : i < ((L.set i (se, fm, to, gr, ma, on, mi, th, (tk ||| (1 <<< (nI p &&& 31))), sf)).set i (se, fm, to, gr, ma, on, mi, th, (tk ||| (1 <<< (nI p &&& 31))), (sf ||| (1 <<< (nI p &&& 31))))).length := by have := hi305; simpa using this
                    refine g_ald (pc' := 161) cd_Le_noteTaken rfl (Or.inr ⟨_, rfl, rfl, rfl⟩) l0 rfl rfl ?_
                    refine g_fR (c := 4) (k := 3) (x := 15) (pc' := 164) cd_Le_noteTaken rfl rfl rfl rfl rfl (by decide) hR380.1.1.1 hR380.1.1.2 hR380.1.2.1.2.2.2.1 ?_
                    refine g_ild (pc' := 165) cd_Le_noteTaken rfl (Or.inr ⟨_, rfl, rfl, rfl⟩) l2 rfl ?_
                    refine g_pure (pc' := 166) (st' := [.int (nI p), .ref 15, .int (nI p), .ref 15]) cd_Le_noteTaken rfl rfl (fun _ _ => rfl) ?_
                    refine g_aI (x := (tc p)) (pc' := 167) cd_Le_noteTaken rfl rfl hR380.1.2.2.2.2.2.1.1 hR380.1.2.2.2.2.2.1.2.1 (by rw [show bm_AL B380 15 = 6 from hR380.1.2.2.2.2.2.1.2.2]; exact vp_in_nI (by omega) (by decide)) (by rw [nI_clamp (by omega)]; exact congrFun (show bm_AI B380 15 = tc from hR380.2.1.2.1.2.2.1) p) ?_
                    refine g_k1 (v := 1) (pc' := 168) cd_Le_noteTaken rfl (by decide) rfl ?_
                    refine g_pure (pc' := 169) (st' := [.int ((tc p) + 1), .int (nI p), .ref 15]) cd_Le_noteTaken rfl rfl (fun _ _ => rfl) ?_
                    refine g_iast (pc' := 170) cd_Le_noteTaken rfl rfl hR380.1.2.2.2.2.2.1.1 hR380.1.2.2.2.2.2.1.2.1 (by rw [show bm_AL B380 15 = 6 from hR380.1.2.2.2.2.2.1.2.2]; exact vp_in_nI (by omega) (by decide)) ?_
                    rw [show (nI p : Int32).toNatClampNeg = p from nI_clamp (by omega)]
                    have A381 : bm_AI (bm_setI B380 15 p ((tc p) + 1)) 12 = (bm_AI B380 12) := ((AI_setn B380 p ((tc p) + 1) 12 (by decide)).trans (show bm_AI B380 12 = (bm_AI B380 12) from rfl))
                    have A382 : bm_AI (bm_setI B380 15 p ((tc p) + 1)) 13 = bd := ((AI_setn B380 p ((tc p) + 1) 13 (by decide)).trans (show bm_AI B380 13 = bd from hR380.2.1.2.1.1))
                    have A383 : bm_AI (bm_setI B380 15 p ((tc p) + 1)) 14 = ll := ((AI_setn B380 p ((tc p) + 1) 14 (by decide)).trans (show bm_AI B380 14 = ll from hR380.2.1.2.1.2.1))
                    have A384 : bm_AI (bm_setI B380 15 p ((tc p) + 1)) 15 = (upd tc p ((tc p) + 1)) := ((AI_set B380 15 p ((tc p) + 1)).trans (congrArg (fun f => upd f p ((tc p) + 1)) (show bm_AI B380 15 = tc from hR380.2.1.2.1.2.2.1)))
                    have A385 : bm_AI (bm_setI B380 15 p ((tc p) + 1)) 16 = tl := ((AI_setn B380 p ((tc p) + 1) 16 (by decide)).trans (show bm_AI B380 16 = tl from hR380.2.1.2.1.2.2.2.1))
                    have A386 : bm_AI (bm_setI B380 15 p ((tc p) + 1)) 17 = tf := ((AI_setn B380 p ((tc p) + 1) 17 (by decide)).trans (show bm_AI B380 17 = tf from hR380.2.1.2.1.2.2.2.2.1))
                    have A387 : bm_AI (bm_setI B380 15 p ((tc p) + 1)) 18 = tg := ((AI_setn B380 p ((tc p) + 1) 18 (by decide)).trans (show bm_AI B380 18 = tg from hR380.2.1.2.1.2.2.2.2.2))
                    have Z388 : fz lex B380 (bm_setI B380 15 p ((tc p) + 1)) := fz_trans (fz_rfl _ B380) ⟨fr_mono (fun _ q => by unfold lex; omega) (fr_setI _ 15 _ _), rfl, rfl⟩
                    refine g_ald (pc' := 171) cd_Le_noteTaken rfl (Or.inr ⟨_, rfl, rfl, rfl⟩) l0 rfl rfl ?_
                    refine g_fR (c := 4) (k := 4) (x := 16) (pc' := 174) cd_Le_noteTaken rfl rfl rfl rfl rfl (by decide) hR380.1.1.1 hR380.1.1.2 hR380.1.2.1.2.2.2.2.1 ?_
                    refine g_ild (pc' := 175) cd_Le_noteTaken rfl (Or.inr ⟨_, rfl, rfl, rfl⟩) l2 rfl ?_
                    refine g_ild (pc' := 176) cd_Le_noteTaken rfl (Or.inr ⟨_, rfl, rfl, rfl⟩) l3 rfl ?_
                    refine g_iast (pc' := 177) cd_Le_noteTaken rfl rfl hR380.1.2.2.2.2.2.2.1.1 hR380.1.2.2.2.2.2.2.1.2.1 (by rw [show bm_AL (bm_setI B380 15 p ((tc p) + 1)) 16 = 6 from hR380.1.2.2.2.2.2.2.1.2.2]; exact vp_in_nI (by omega) (by decide)) ?_
                    rw [show (nI p : Int32).toNatClampNeg = p from nI_clamp (by omega)]
                    have A389 : bm_AI (bm_setI (bm_setI B380 15 p ((tc p) + 1)) 16 p (nI i)) 12 = (bm_AI B380 12) := ((AI_setn (bm_setI B380 15 p ((tc p) + 1)) p (nI i) 12 (by decide)).trans (show bm_AI (bm_setI B380 15 p ((tc p) + 1)) 12 = (bm_AI B380 12) from A381))
                    have A390 : bm_AI (bm_setI (bm_setI B380 15 p ((tc p) + 1)) 16 p (nI i)) 13 = bd := ((AI_setn (bm_setI B380 15 p ((tc p) + 1)) p (nI i) 13 (by decide)).trans (show bm_AI (bm_setI B380 15 p ((tc p) + 1)) 13 = bd from A382))
                    have A391 : bm_AI (bm_setI (bm_setI B380 15 p ((tc p) + 1)) 16 p (nI i)) 14 = ll := ((AI_setn (bm_setI B380 15 p ((tc p) + 1)) p (nI i) 14 (by decide)).trans (show bm_AI (bm_setI B380 15 p ((tc p) + 1)) 14 = ll from A383))
                    have A392 : bm_AI (bm_setI (bm_setI B380 15 p ((tc p) + 1)) 16 p (nI i)) 15 = (upd tc p ((tc p) + 1)) := ((AI_setn (bm_setI B380 15 p ((tc p) + 1)) p (nI i) 15 (by decide)).trans (show bm_AI (bm_setI B380 15 p ((tc p) + 1)) 15 = (upd tc p ((tc p) + 1)) from A384))
                    have A393 : bm_AI (bm_setI (bm_setI B380 15 p ((tc p) + 1)) 16 p (nI i)) 16 = (upd tl p (nI i)) := ((AI_set (bm_setI B380 15 p ((tc p) + 1)) 16 p (nI i)).trans (congrArg (fun f => upd f p (nI i)) (show bm_AI (bm_setI B380 15 p ((tc p) + 1)) 16 = tl from A385)))
                    have A394 : bm_AI (bm_setI (bm_setI B380 15 p ((tc p) + 1)) 16 p (nI i)) 17 = tf := ((AI_setn (bm_setI B380 15 p ((tc p) + 1)) p (nI i) 17 (by decide)).trans (show bm_AI (bm_setI B380 15 p ((tc p) + 1)) 17 = tf from A386))
                    have A395 : bm_AI (bm_setI (bm_setI B380 15 p ((tc p) + 1)) 16 p (nI i)) 18 = tg := ((AI_setn (bm_setI B380 15 p ((tc p) + 1)) p (nI i) 18 (by decide)).trans (show bm_AI (bm_setI B380 15 p ((tc p) + 1)) 18 = tg from A387))
                    have Z396 : fz lex B380 (bm_setI (bm_setI B380 15 p ((tc p) + 1)) 16 p (nI i)) := fz_trans Z388 ⟨fr_mono (fun _ q => by unfold lex; omega) (fr_setI _ 16 _ _), rfl, rfl⟩
                    refine g_ald (pc' := 178) cd_Le_noteTaken rfl (Or.inr ⟨_, rfl, rfl, rfl⟩) l0 rfl rfl ?_
                    refine g_fR (c := 4) (k := 5) (x := 17) (pc' := 181) cd_Le_noteTaken rfl rfl rfl rfl rfl (by decide) hR380.1.1.1 hR380.1.1.2 hR380.1.2.1.2.2.2.2.2.1 ?_
                    refine g_ild (pc' := 182) cd_Le_noteTaken rfl (Or.inr ⟨_, rfl, rfl, rfl⟩) l2 rfl ?_
                    refine g_ald (pc' := 183) cd_Le_noteTaken rfl (Or.inr ⟨_, rfl, rfl, rfl⟩) l0 rfl rfl ?_
                    refine g_fI (c := 4) (k := 7) (x := cf) (pc' := 186) cd_Le_noteTaken rfl rfl rfl rfl rfl (by decide) hR380.1.1.1 hR380.1.1.2 hR380.2.1.2.2.1.1 ?_
                    refine g_iast (pc' := 187) cd_Le_noteTaken rfl rfl hR380.1.2.2.2.2.2.2.2.1.1 hR380.1.2.2.2.2.2.2.2.1.2.1 (by rw [show bm_AL (bm_setI (bm_setI B380 15 p ((tc p) + 1)) 16 p (nI i)) 17 = 6 from hR380.1.2.2.2.2.2.2.2.1.2.2]; exact vp_in_nI (by omega) (by decide)) ?_
                    rw [show (nI p : Int32).toNatClampNeg = p from nI_clamp (by omega)]
                    have A397 : bm_AI (bm_setI (bm_setI (bm_setI B380 15 p ((tc p) + 1)) 16 p (nI i)) 17 p cf) 12 = (bm_AI B380 12) := ((AI_setn (bm_setI (bm_setI B380 15 p ((tc p) + 1)) 16 p (nI i)) p cf 12 (by decide)).trans (show bm_AI (bm_setI (bm_setI B380 15 p ((tc p) + 1)) 16 p (nI i)) 12 = (bm_AI B380 12) from A389))
                    have A398 : bm_AI (bm_setI (bm_setI (bm_setI B380 15 p ((tc p) + 1)) 16 p (nI i)) 17 p cf) 13 = bd := ((AI_setn (bm_setI (bm_setI B380 15 p ((tc p) + 1)) 16 p (nI i)) p cf 13 (by decide)).trans (show bm_AI (bm_setI (bm_setI B380 15 p ((tc p) + 1)) 16 p (nI i)) 13 = bd from A390))
                    have A399 : bm_AI (bm_setI (bm_setI (bm_setI B380 15 p ((tc p) + 1)) 16 p (nI i)) 17 p cf) 14 = ll := ((AI_setn (bm_setI (bm_setI B380 15 p ((tc p) + 1)) 16 p (nI i)) p cf 14 (by decide)).trans (show bm_AI (bm_setI (bm_setI B380 15 p ((tc p) + 1)) 16 p (nI i)) 14 = ll from A391))
                    have A400 : bm_AI (bm_setI (bm_setI (bm_setI B380 15 p ((tc p) + 1)) 16 p (nI i)) 17 p cf) 15 = (upd tc p ((tc p) + 1)) := ((AI_setn (bm_setI (bm_setI B380 15 p ((tc p) + 1)) 16 p (nI i)) p cf 15 (by decide)).trans (show bm_AI (bm_setI (bm_setI B380 15 p ((tc p) + 1)) 16 p (nI i)) 15 = (upd tc p ((tc p) + 1)) from A392))
                    have A401 : bm_AI (bm_setI (bm_setI (bm_setI B380 15 p ((tc p) + 1)) 16 p (nI i)) 17 p cf) 16 = (upd tl p (nI i)) := ((AI_setn (bm_setI (bm_setI B380 15 p ((tc p) + 1)) 16 p (nI i)) p cf 16 (by decide)).trans (show bm_AI (bm_setI (bm_setI B380 15 p ((tc p) + 1)) 16 p (nI i)) 16 = (upd tl p (nI i)) from A393))
                    have A402 : bm_AI (bm_setI (bm_setI (bm_setI B380 15 p ((tc p) + 1)) 16 p (nI i)) 17 p cf) 17 = (upd tf p cf) := ((AI_set (bm_setI (bm_setI B380 15 p ((tc p) + 1)) 16 p (nI i)) 17 p cf).trans (congrArg (fun f => upd f p cf) (show bm_AI (bm_setI (bm_setI B380 15 p ((tc p) + 1)) 16 p (nI i)) 17 = tf from A394)))
                    have A403 : bm_AI (bm_setI (bm_setI (bm_setI B380 15 p ((tc p) + 1)) 16 p (nI i)) 17 p cf) 18 = tg := ((AI_setn (bm_setI (bm_setI B380 15 p ((tc p) + 1)) 16 p (nI i)) p cf 18 (by decide)).trans (show bm_AI (bm_setI (bm_setI B380 15 p ((tc p) + 1)) 16 p (nI i)) 18 = tg from A395))
                    have Z404 : fz lex B380 (bm_setI (bm_setI (bm_setI B380 15 p ((tc p) + 1)) 16 p (nI i)) 17 p cf) := fz_trans Z396 ⟨fr_mono (fun _ q => by unfold lex; omega) (fr_setI _ 17 _ _), rfl, rfl⟩
                    refine g_ald (pc' := 188) cd_Le_noteTaken rfl (Or.inr ⟨_, rfl, rfl, rfl⟩) l0 rfl rfl ?_
                    refine g_fR (c := 4) (k := 6) (x := 18) (pc' := 191) cd_Le_noteTaken rfl rfl rfl rfl rfl (by decide) hR380.1.1.1 hR380.1.1.2 hR380.1.2.1.2.2.2.2.2.2 ?_
                    refine g_ild (pc' := 192) cd_Le_noteTaken rfl (Or.inr ⟨_, rfl, rfl, rfl⟩) l2 rfl ?_
                    refine g_ald (pc' := 193) cd_Le_noteTaken rfl (Or.inr ⟨_, rfl, rfl, rfl⟩) l0 rfl rfl ?_
                    refine g_fI (c := 4) (k := 8) (x := cg) (pc' := 196) cd_Le_noteTaken rfl rfl rfl rfl rfl (by decide) hR380.1.1.1 hR380.1.1.2 hR380.2.1.2.2.1.2.1 ?_
                    refine g_iast (pc' := 197) cd_Le_noteTaken rfl rfl hR380.1.2.2.2.2.2.2.2.2.1 hR380.1.2.2.2.2.2.2.2.2.2.1 (by rw [show bm_AL (bm_setI (bm_setI (bm_setI B380 15 p ((tc p) + 1)) 16 p (nI i)) 17 p cf) 18 = 6 from hR380.1.2.2.2.2.2.2.2.2.2.2]; exact vp_in_nI (by omega) (by decide)) ?_
                    rw [show (nI p : Int32).toNatClampNeg = p from nI_clamp (by omega)]
                    have A405 : bm_AI (bm_setI (bm_setI (bm_setI (bm_setI B380 15 p ((tc p) + 1)) 16 p (nI i)) 17 p cf) 18 p cg) 12 = (bm_AI B380 12) := ((AI_setn (bm_setI (bm_setI (bm_setI B380 15 p ((tc p) + 1)) 16 p (nI i)) 17 p cf) p cg 12 (by decide)).trans (show bm_AI (bm_setI (bm_setI (bm_setI B380 15 p ((tc p) + 1)) 16 p (nI i)) 17 p cf) 12 = (bm_AI B380 12) from A397))
                    have A406 : bm_AI (bm_setI (bm_setI (bm_setI (bm_setI B380 15 p ((tc p) + 1)) 16 p (nI i)) 17 p cf) 18 p cg) 13 = bd := ((AI_setn (bm_setI (bm_setI (bm_setI B380 15 p ((tc p) + 1)) 16 p (nI i)) 17 p cf) p cg 13 (by decide)).trans (show bm_AI (bm_setI (bm_setI (bm_setI B380 15 p ((tc p) + 1)) 16 p (nI i)) 17 p cf) 13 = bd from A398))
                    have A407 : bm_AI (bm_setI (bm_setI (bm_setI (bm_setI B380 15 p ((tc p) + 1)) 16 p (nI i)) 17 p cf) 18 p cg) 14 = ll := ((AI_setn (bm_setI (bm_setI (bm_setI B380 15 p ((tc p) + 1)) 16 p (nI i)) 17 p cf) p cg 14 (by decide)).trans (show bm_AI (bm_setI (bm_setI (bm_setI B380 15 p ((tc p) + 1)) 16 p (nI i)) 17 p cf) 14 = ll from A399))
                    have A408 : bm_AI (bm_setI (bm_setI (bm_setI (bm_setI B380 15 p ((tc p) + 1)) 16 p (nI i)) 17 p cf) 18 p cg) 15 = (upd tc p ((tc p) + 1)) := ((AI_setn (bm_setI (bm_setI (bm_setI B380 15 p ((tc p) + 1)) 16 p (nI i)) 17 p cf) p cg 15 (by decide)).trans (show bm_AI (bm_setI (bm_setI (bm_setI B380 15 p ((tc p) + 1)) 16 p (nI i)) 17 p cf) 15 = (upd tc p ((tc p) + 1)) from A400))
                    have A409 : bm_AI (bm_setI (bm_setI (bm_setI (bm_setI B380 15 p ((tc p) + 1)) 16 p (nI i)) 17 p cf) 18 p cg) 16 = (upd tl p (nI i)) := ((AI_setn (bm_setI (bm_setI (bm_setI B380 15 p ((tc p) + 1)) 16 p (nI i)) 17 p cf) p cg 16 (by decide)).trans (show bm_AI (bm_setI (bm_setI (bm_setI B380 15 p ((tc p) + 1)) 16 p (nI i)) 17 p cf) 16 = (upd tl p (nI i)) from A401))
                    have A410 : bm_AI (bm_setI (bm_setI (bm_setI (bm_setI B380 15 p ((tc p) + 1)) 16 p (nI i)) 17 p cf) 18 p cg) 17 = (upd tf p cf) := ((AI_setn (bm_setI (bm_setI (bm_setI B380 15 p ((tc p) + 1)) 16 p (nI i)) 17 p cf) p cg 17 (by decide)).trans (show bm_AI (bm_setI (bm_setI (bm_setI B380 15 p ((tc p) + 1)) 16 p (nI i)) 17 p cf) 17 = (upd tf p cf) from A402))
                    have A411 : bm_AI (bm_setI (bm_setI (bm_setI (bm_setI B380 15 p ((tc p) + 1)) 16 p (nI i)) 17 p cf) 18 p cg) 18 = (upd tg p cg) := ((AI_set (bm_setI (bm_setI (bm_setI B380 15 p ((tc p) + 1)) 16 p (nI i)) 17 p cf) 18 p cg).trans (congrArg (fun f => upd f p cg) (show bm_AI (bm_setI (bm_setI (bm_setI B380 15 p ((tc p) + 1)) 16 p (nI i)) 17 p cf) 18 = tg from A403)))
                    have Z412 : fz lex B380 (bm_setI (bm_setI (bm_setI (bm_setI B380 15 p ((tc p) + 1)) 16 p (nI i)) 17 p cf) 18 p cg) := fz_trans Z404 ⟨fr_mono (fun _ q => by unfold lex; omega) (fr_setI _ 18 _ _), rfl, rfl⟩
                    have hRz : RLe (bm_setI (bm_setI (bm_setI (bm_setI B380 15 p ((tc p) + 1)) 16 p (nI i)) 17 p cf) 18 p cg) T (((L.set i (se, fm, to, gr, ma, on, mi, th, (tk ||| (1 <<< (nI p &&& 31))), sf)).set i (se, fm, to, gr, ma, on, mi, th, (tk ||| (1 <<< (nI p &&& 31))), (sf ||| (1 <<< (nI p &&& 31))))), bd, ll, upd tc p (tc p + 1), upd tl p (nI i), upd tf p cf, upd tg p cg, cf, cg, ct, co, li, fo, db) := ⟨LgS_fr hR380.1 Z412.1, ⟨hR380.2.1.1, ⟨A406, A407, A408, A409, A410, A411⟩, hR380.2.1.2.2⟩, (by rw [show bm_AI (bm_setI (bm_setI (bm_setI (bm_setI B380 15 p ((tc p) + 1)) 16 p (nI i)) 17 p cf) 18 p cg) 12 = _ from A405]; exact hR380.2.2)⟩
                    have hEq : lg_taken (L, bd, ll, tc, tl, tf, tg, cf, cg, ct, co, li, fo, db) p = (((L.set i (se, fm, to, gr, ma, on, mi, th, (tk ||| (1 <<< (nI p &&& 31))), sf)).set i (se, fm, to, gr, ma, on, mi, th, (tk ||| (1 <<< (nI p &&& 31))), (sf ||| (1 <<< (nI p &&& 31))))), bd, ll, upd tc p (tc p + 1), upd tl p (nI i), upd tf p cf, upd tg p cg, cf, cg, ct, co, li, fo, db) := by unfold lg_taken; dsimp only; rw [hl, lg_get_t he h7]; dsimp only; rw [nI_clamp (show i < 2 ^ 31 by omega)]; simp only [lt_take, ← hso, n26, n40, n45, n77, n118, n125, n139]; simp
                    exact g_retv cd_Le_noteTaken rfl ⟨rfl, (kk _ (hEq ▸ hRz) (fz_trans hz380 Z412))⟩
          · have c77 : (hbit tk (nI p)) = true := bz_t c77
            have n77 := c77
            refine g_ald (pc' := 81) cd_Le_noteTaken rfl (Or.inr ⟨_, rfl, rfl, rfl⟩) l0 rfl rfl ?_
            refine g_pure (pc' := 82) (st' := [.ref 11, .ref 11]) cd_Le_noteTaken rfl rfl (fun _ _ => rfl) ?_
            refine g_fI (c := 4) (k := 14) (x := db) (pc' := 85) cd_Le_noteTaken rfl rfl rfl rfl rfl (by decide) hR.1.1.1 hR.1.1.2 hR.2.1.2.2.2.2.2 ?_
            refine g_k1 (v := 1) (pc' := 86) cd_Le_noteTaken rfl (by decide) rfl ?_
            refine g_pure (pc' := 87) (st' := [.int (db + 1), .ref 11]) cd_Le_noteTaken rfl rfl (fun _ _ => rfl) ?_
            refine g_putI (c := 4) (k := 14) (pc' := 90) cd_Le_noteTaken rfl rfl rfl rfl (by simp [tm_okV, narrow, fits]) (Or.inl rfl) rfl (by decide) hR.1.1.1 hR.1.1.2 ?_
            have P413 : bm_FI (bm_putI B 4 14 11 (db + 1)) 4 14 11 = db + 1 := rfl
            have Z414 : fz lex B (bm_putI B 4 14 11 (db + 1)) := fz_trans (fz_rfl _ B) ⟨fr_mono (fun _ q => by unfold lex; omega) (fr_putI _ 4 14 11 _), rfl, rfl⟩
            have hR415 : RLe (bm_putI B 4 14 11 (db + 1)) T (L, bd, ll, tc, tl, tf, tg, cf, cg, ct, co, li, fo, db + 1) := ⟨hR.1, ⟨hR.2.1.1, hR.2.1.2.1, hR.2.1.2.2.1, hR.2.1.2.2.2.1, hR.2.1.2.2.2.2.1, P413⟩, hR.2.2⟩
            have hz415 : fz lex B (bm_putI B 4 14 11 (db + 1)) := Z414
            generalize (bm_putI B 4 14 11 (db + 1)) = B415 at hR415 hz415 ⊢
            refine g_ald (pc' := 91) cd_Le_noteTaken rfl (Or.inr ⟨_, rfl, rfl, rfl⟩) l0 rfl rfl ?_
            refine g_ild (pc' := 92) cd_Le_noteTaken rfl (Or.inr ⟨_, rfl, rfl, rfl⟩) l3 rfl ?_
            refine g_calli (pc' := 95) cd_Le_noteTaken rfl rfl rfl rfl rfl (tm_invV rfl rfl cd_Le_has rfl (Nat.le_of_ble_eq_true rfl) (by decide) hR415.1.1.1 hR415.1.1.2) (t_Lhas hR415 ?_)
            rw [inR_nI hi (by omega)]
            show bm_G _ _ _ _ _ (.int 1 :: _) _ _
            show bm_G _ _ _ 95 _ [.int 1] B415 _
            refine g_if1 (t := 116) (pc' := 98) cd_Le_noteTaken rfl rfl rfl (fun c95 => ?_) (fun c95 => ?_)
            · exact absurd (show (1 : Int32) = 0 from c95) (by decide)
            · have c95 : ¬ (1 : Int32) = 0 := c95
              refine g_ald (pc' := 99) cd_Le_noteTaken rfl (Or.inr ⟨_, rfl, rfl, rfl⟩) l0 rfl rfl ?_
              refine g_fR (c := 4) (k := 0) (x := 12) (pc' := 102) cd_Le_noteTaken rfl rfl rfl rfl rfl (by decide) hR415.1.1.1 hR415.1.1.2 hR415.1.2.1.1 ?_
              refine g_ild (pc' := 103) cd_Le_noteTaken rfl (Or.inr ⟨_, rfl, rfl, rfl⟩) l3 rfl ?_
              refine g_k2 (v := 10) (pc' := 105) cd_Le_noteTaken rfl (by decide) rfl ?_
              refine g_pure (pc' := 106) (st' := [.int ((nI i) * 10), .ref 12]) cd_Le_noteTaken rfl rfl (fun _ _ => rfl) ?_
              rw [show ((nI i) * 10 : Int32) = nI (i * 10) from pk_mul i 10]
              refine g_k2 (v := 8) (pc' := 108) cd_Le_noteTaken rfl (by decide) rfl ?_
              refine g_pure (pc' := 109) (st' := [.int ((nI (i * 10)) + 8), .ref 12]) cd_Le_noteTaken rfl rfl (fun _ _ => rfl) ?_
              rw [show ((nI (i * 10)) + 8 : Int32) = nI ((i * 10) + 8) from nI_add (i * 10) 8]
              refine g_pure (pc' := 110) (st' := [.int (nI ((i * 10) + 8)), .ref 12, .int (nI ((i * 10) + 8)), .ref 12]) cd_Le_noteTaken rfl rfl (fun _ _ => rfl) ?_
              refine g_aI (x := tk) (pc' := 111) cd_Le_noteTaken rfl rfl hR415.1.2.2.1.1 hR415.1.2.2.1.2.1 (by rw [show bm_AL B415 12 = 7000 from hR415.1.2.2.1.2.2]; exact vp_in_nI (by omega) (by decide)) (by rw [nI_clamp (by omega)]; exact (hR415.2.2.1 i _ he).2.2.2.2.2.2.2.2.1) ?_
              refine g_k1 (v := 1) (pc' := 112) cd_Le_noteTaken rfl (by decide) rfl ?_
              refine g_ild (pc' := 113) cd_Le_noteTaken rfl (Or.inr ⟨_, rfl, rfl, rfl⟩) l2 rfl ?_
              refine g_pure (pc' := 114) (st' := [.int (1 <<< ((nI p) &&& 31)), .int tk, .int (nI ((i * 10) + 8)), .ref 12]) cd_Le_noteTaken rfl rfl (fun _ _ => rfl) ?_
              refine g_pure (pc' := 115) (st' := [.int (tk ||| (1 <<< ((nI p) &&& 31))), .int (nI ((i * 10) + 8)), .ref 12]) cd_Le_noteTaken rfl rfl (fun _ _ => rfl) ?_
              refine g_iast (pc' := 116) cd_Le_noteTaken rfl rfl hR415.1.2.2.1.1 hR415.1.2.2.1.2.1 (by rw [show bm_AL B415 12 = 7000 from hR415.1.2.2.1.2.2]; exact vp_in_nI (by omega) (by decide)) ?_
              rw [show (nI ((i * 10) + 8) : Int32).toNatClampNeg = ((i * 10) + 8) from nI_clamp (by omega)]
              have A416 : bm_AI (bm_setI B415 12 ((i * 10) + 8) (tk ||| (1 <<< ((nI p) &&& 31)))) 12 = (upd (bm_AI B415 12) ((i * 10) + 8) (tk ||| (1 <<< ((nI p) &&& 31)))) := ((AI_set B415 12 ((i * 10) + 8) (tk ||| (1 <<< ((nI p) &&& 31)))).trans (congrArg (fun f => upd f ((i * 10) + 8) (tk ||| (1 <<< ((nI p) &&& 31)))) (show bm_AI B415 12 = (bm_AI B415 12) from rfl)))
              have A417 : bm_AI (bm_setI B415 12 ((i * 10) + 8) (tk ||| (1 <<< ((nI p) &&& 31)))) 13 = bd := ((AI_setn B415 ((i * 10) + 8) (tk ||| (1 <<< ((nI p) &&& 31))) 13 (by decide)).trans (show bm_AI B415 13 = bd from hR415.2.1.2.1.1))
              have A418 : bm_AI (bm_setI B415 12 ((i * 10) + 8) (tk ||| (1 <<< ((nI p) &&& 31)))) 14 = ll := ((AI_setn B415 ((i * 10) + 8) (tk ||| (1 <<< ((nI p) &&& 31))) 14 (by decide)).trans (show bm_AI B415 14 = ll from hR415.2.1.2.1.2.1))
              have A419 : bm_AI (bm_setI B415 12 ((i * 10) + 8) (tk ||| (1 <<< ((nI p) &&& 31)))) 15 = tc := ((AI_setn B415 ((i * 10) + 8) (tk ||| (1 <<< ((nI p) &&& 31))) 15 (by decide)).trans (show bm_AI B415 15 = tc from hR415.2.1.2.1.2.2.1))
              have A420 : bm_AI (bm_setI B415 12 ((i * 10) + 8) (tk ||| (1 <<< ((nI p) &&& 31)))) 16 = tl := ((AI_setn B415 ((i * 10) + 8) (tk ||| (1 <<< ((nI p) &&& 31))) 16 (by decide)).trans (show bm_AI B415 16 = tl from hR415.2.1.2.1.2.2.2.1))
              have A421 : bm_AI (bm_setI B415 12 ((i * 10) + 8) (tk ||| (1 <<< ((nI p) &&& 31)))) 17 = tf := ((AI_setn B415 ((i * 10) + 8) (tk ||| (1 <<< ((nI p) &&& 31))) 17 (by decide)).trans (show bm_AI B415 17 = tf from hR415.2.1.2.1.2.2.2.2.1))
              have A422 : bm_AI (bm_setI B415 12 ((i * 10) + 8) (tk ||| (1 <<< ((nI p) &&& 31)))) 18 = tg := ((AI_setn B415 ((i * 10) + 8) (tk ||| (1 <<< ((nI p) &&& 31))) 18 (by decide)).trans (show bm_AI B415 18 = tg from hR415.2.1.2.1.2.2.2.2.2))
              have Z423 : fz lex B415 (bm_setI B415 12 ((i * 10) + 8) (tk ||| (1 <<< ((nI p) &&& 31)))) := fz_trans (fz_rfl _ B415) ⟨fr_mono (fun _ q => by unfold lex; omega) (fr_setI _ 12 _ _), rfl, rfl⟩
              have hR425 : RLe (bm_setI B415 12 ((i * 10) + 8) (tk ||| (1 <<< ((nI p) &&& 31)))) T ((L.set i (se, fm, to, gr, ma, on, mi, th, (tk ||| (1 <<< (nI p &&& 31))), sf)), bd, ll, tc, tl, tf, tg, cf, cg, ct, co, li, fo, db + 1) := ⟨LgS_fr hR415.1 Z423.1, ⟨⟨(hR415.2.1.1.1).trans (by simp), (by have := hR415.2.1.1.2; simpa using this)⟩, ⟨A417, A418, A419, A420, A421, A422⟩, hR415.2.1.2.2⟩, (RLc_set (i := i) hR415.2.2 he (fun j h8 h9 => by rw [show bm_AI (bm_setI B415 12 ((i * 10) + 8) (tk ||| (1 <<< ((nI p) &&& 31)))) 12 = _ from A416]; exact pk_un (by omega)) (by rw [show bm_AI (bm_setI B415 12 ((i * 10) + 8) (tk ||| (1 <<< ((nI p) &&& 31)))) 12 = _ from A416]; exact if_pos rfl) (by rw [show bm_AI (bm_setI B415 12 ((i * 10) + 8) (tk ||| (1 <<< ((nI p) &&& 31)))) 12 = _ from A416]; exact (pk_un (by omega)).trans ((hR415.2.2.1 i _ he).2.2.2.2.2.2.2.2.2)))⟩
              have hz425 : fz lex B (bm_setI B415 12 ((i * 10) + 8) (tk ||| (1 <<< ((nI p) &&& 31)))) := fz_trans hz415 Z423
              generalize (bm_setI B415 12 ((i * 10) + 8) (tk ||| (1 <<< ((nI p) &&& 31)))) = B425 at hR425 hz425 ⊢
              have he424 : (L.set i (se, fm, to, gr, ma, on, mi, th, (tk ||| (1 <<< (nI p &&& 31))), sf))[i]? = some (se, fm, to, gr, ma, on, mi, th, (tk ||| (1 <<< (nI p &&& 31))), sf) := List.getElem?_set_self hi
              have hi424 : i < (L.set i (se, fm, to, gr, ma, on, mi, th, (tk ||| (1 <<< (nI p &&& 31))), sf)).length := by have := hi; simpa using this
              refine g_ild (pc' := 118) cd_Le_noteTaken rfl (Or.inl ⟨rfl, rfl⟩) l4 rfl ?_
              refine g_if1 (t := 160) (pc' := 121) cd_Le_noteTaken rfl rfl rfl (fun c118 => ?_) (fun c118 => ?_)
              · have c118 : so = false := bz_f c118
                exact absurd (c118.symm.trans n45) (by decide)
              · have c118 : so = true := bz_t c118
                have n118 := c118
                refine g_ald (pc' := 122) cd_Le_noteTaken rfl (Or.inr ⟨_, rfl, rfl, rfl⟩) l0 rfl rfl ?_
                refine g_fI (c := 4) (k := 10) (x := bz co) (pc' := 125) cd_Le_noteTaken rfl rfl rfl rfl rfl (by decide) hR425.1.1.1 hR425.1.1.2 hR425.2.1.2.2.1.2.2.2 ?_
                refine g_if1 (t := 160) (pc' := 128) cd_Le_noteTaken rfl rfl rfl (fun c125 => ?_) (fun c125 => ?_)
                · have c125 : co = false := bz_f c125
                  have n125 := c125
                  refine g_ald (pc' := 161) cd_Le_noteTaken rfl (Or.inr ⟨_, rfl, rfl, rfl⟩) l0 rfl rfl ?_
                  refine g_fR (c := 4) (k := 3) (x := 15) (pc' := 164) cd_Le_noteTaken rfl rfl rfl rfl rfl (by decide) hR425.1.1.1 hR425.1.1.2 hR425.1.2.1.2.2.2.1 ?_
                  refine g_ild (pc' := 165) cd_Le_noteTaken rfl (Or.inr ⟨_, rfl, rfl, rfl⟩) l2 rfl ?_
                  refine g_pure (pc' := 166) (st' := [.int (nI p), .ref 15, .int (nI p), .ref 15]) cd_Le_noteTaken rfl rfl (fun _ _ => rfl) ?_
                  refine g_aI (x := (tc p)) (pc' := 167) cd_Le_noteTaken rfl rfl hR425.1.2.2.2.2.2.1.1 hR425.1.2.2.2.2.2.1.2.1 (by rw [show bm_AL B425 15 = 6 from hR425.1.2.2.2.2.2.1.2.2]; exact vp_in_nI (by omega) (by decide)) (by rw [nI_clamp (by omega)]; exact congrFun (show bm_AI B425 15 = tc from hR425.2.1.2.1.2.2.1) p) ?_
                  refine g_k1 (v := 1) (pc' := 168) cd_Le_noteTaken rfl (by decide) rfl ?_
                  refine g_pure (pc' := 169) (st' := [.int ((tc p) + 1), .int (nI p), .ref 15]) cd_Le_noteTaken rfl rfl (fun _ _ => rfl) ?_
                  refine g_iast (pc' := 170) cd_Le_noteTaken rfl rfl hR425.1.2.2.2.2.2.1.1 hR425.1.2.2.2.2.2.1.2.1 (by rw [show bm_AL B425 15 = 6 from hR425.1.2.2.2.2.2.1.2.2]; exact vp_in_nI (by omega) (by decide)) ?_
                  rw [show (nI p : Int32).toNatClampNeg = p from nI_clamp (by omega)]
                  have A426 : bm_AI (bm_setI B425 15 p ((tc p) + 1)) 12 = (bm_AI B425 12) := ((AI_setn B425 p ((tc p) + 1) 12 (by decide)).trans (show bm_AI B425 12 = (bm_AI B425 12) from rfl))
                  have A427 : bm_AI (bm_setI B425 15 p ((tc p) + 1)) 13 = bd := ((AI_setn B425 p ((tc p) + 1) 13 (by decide)).trans (show bm_AI B425 13 = bd from hR425.2.1.2.1.1))
                  have A428 : bm_AI (bm_setI B425 15 p ((tc p) + 1)) 14 = ll := ((AI_setn B425 p ((tc p) + 1) 14 (by decide)).trans (show bm_AI B425 14 = ll from hR425.2.1.2.1.2.1))
                  have A429 : bm_AI (bm_setI B425 15 p ((tc p) + 1)) 15 = (upd tc p ((tc p) + 1)) := ((AI_set B425 15 p ((tc p) + 1)).trans (congrArg (fun f => upd f p ((tc p) + 1)) (show bm_AI B425 15 = tc from hR425.2.1.2.1.2.2.1)))
                  have A430 : bm_AI (bm_setI B425 15 p ((tc p) + 1)) 16 = tl := ((AI_setn B425 p ((tc p) + 1) 16 (by decide)).trans (show bm_AI B425 16 = tl from hR425.2.1.2.1.2.2.2.1))
                  have A431 : bm_AI (bm_setI B425 15 p ((tc p) + 1)) 17 = tf := ((AI_setn B425 p ((tc p) + 1) 17 (by decide)).trans (show bm_AI B425 17 = tf from hR425.2.1.2.1.2.2.2.2.1))
                  have A432 : bm_AI (bm_setI B425 15 p ((tc p) + 1)) 18 = tg := ((AI_setn B425 p ((tc p) + 1) 18 (by decide)).trans (show bm_AI B425 18 = tg from hR425.2.1.2.1.2.2.2.2.2))
                  have Z433 : fz lex B425 (bm_setI B425 15 p ((tc p) + 1)) := fz_trans (fz_rfl _ B425) ⟨fr_mono (fun _ q => by unfold lex; omega) (fr_setI _ 15 _ _), rfl, rfl⟩
                  refine g_ald (pc' := 171) cd_Le_noteTaken rfl (Or.inr ⟨_, rfl, rfl, rfl⟩) l0 rfl rfl ?_
                  refine g_fR (c := 4) (k := 4) (x := 16) (pc' := 174) cd_Le_noteTaken rfl rfl rfl rfl rfl (by decide) hR425.1.1.1 hR425.1.1.2 hR425.1.2.1.2.2.2.2.1 ?_
                  refine g_ild (pc' := 175) cd_Le_noteTaken rfl (Or.inr ⟨_, rfl, rfl, rfl⟩) l2 rfl ?_
                  refine g_ild (pc' := 176) cd_Le_noteTaken rfl (Or.inr ⟨_, rfl, rfl, rfl⟩) l3 rfl ?_
                  refine g_iast (pc' := 177) cd_Le_noteTaken rfl rfl hR425.1.2.2.2.2.2.2.1.1 hR425.1.2.2.2.2.2.2.1.2.1 (by rw [show bm_AL (bm_setI B425 15 p ((tc p) + 1)) 16 = 6 from hR425.1.2.2.2.2.2.2.1.2.2]; exact vp_in_nI (by omega) (by decide)) ?_
                  rw [show (nI p : Int32).toNatClampNeg = p from nI_clamp (by omega)]
                  have A434 : bm_AI (bm_setI (bm_setI B425 15 p ((tc p) + 1)) 16 p (nI i)) 12 = (bm_AI B425 12) := ((AI_setn (bm_setI B425 15 p ((tc p) + 1)) p (nI i) 12 (by decide)).trans (show bm_AI (bm_setI B425 15 p ((tc p) + 1)) 12 = (bm_AI B425 12) from A426))
                  have A435 : bm_AI (bm_setI (bm_setI B425 15 p ((tc p) + 1)) 16 p (nI i)) 13 = bd := ((AI_setn (bm_setI B425 15 p ((tc p) + 1)) p (nI i) 13 (by decide)).trans (show bm_AI (bm_setI B425 15 p ((tc p) + 1)) 13 = bd from A427))
                  have A436 : bm_AI (bm_setI (bm_setI B425 15 p ((tc p) + 1)) 16 p (nI i)) 14 = ll := ((AI_setn (bm_setI B425 15 p ((tc p) + 1)) p (nI i) 14 (by decide)).trans (show bm_AI (bm_setI B425 15 p ((tc p) + 1)) 14 = ll from A428))
                  have A437 : bm_AI (bm_setI (bm_setI B425 15 p ((tc p) + 1)) 16 p (nI i)) 15 = (upd tc p ((tc p) + 1)) := ((AI_setn (bm_setI B425 15 p ((tc p) + 1)) p (nI i) 15 (by decide)).trans (show bm_AI (bm_setI B425 15 p ((tc p) + 1)) 15 = (upd tc p ((tc p) + 1)) from A429))
                  have A438 : bm_AI (bm_setI (bm_setI B425 15 p ((tc p) + 1)) 16 p (nI i)) 16 = (upd tl p (nI i)) := ((AI_set (bm_setI B425 15 p ((tc p) + 1)) 16 p (nI i)).trans (congrArg (fun f => upd f p (nI i)) (show bm_AI (bm_setI B425 15 p ((tc p) + 1)) 16 = tl from A430)))
                  have A439 : bm_AI (bm_setI (bm_setI B425 15 p ((tc p) + 1)) 16 p (nI i)) 17 = tf := ((AI_setn (bm_setI B425 15 p ((tc p) + 1)) p (nI i) 17 (by decide)).trans (show bm_AI (bm_setI B425 15 p ((tc p) + 1)) 17 = tf from A431))
                  have A440 : bm_AI (bm_setI (bm_setI B425 15 p ((tc p) + 1)) 16 p (nI i)) 18 = tg := ((AI_setn (bm_setI B425 15 p ((tc p) + 1)) p (nI i) 18 (by decide)).trans (show bm_AI (bm_setI B425 15 p ((tc p) + 1)) 18 = tg from A432))
                  have Z441 : fz lex B425 (bm_setI (bm_setI B425 15 p ((tc p) + 1)) 16 p (nI i)) := fz_trans Z433 ⟨fr_mono (fun _ q => by unfold lex; omega) (fr_setI _ 16 _ _), rfl, rfl⟩
                  refine g_ald (pc' := 178) cd_Le_noteTaken rfl (Or.inr ⟨_, rfl, rfl, rfl⟩) l0 rfl rfl ?_
                  refine g_fR (c := 4) (k := 5) (x := 17) (pc' := 181) cd_Le_noteTaken rfl rfl rfl rfl rfl (by decide) hR425.1.1.1 hR425.1.1.2 hR425.1.2.1.2.2.2.2.2.1 ?_
                  refine g_ild (pc' := 182) cd_Le_noteTaken rfl (Or.inr ⟨_, rfl, rfl, rfl⟩) l2 rfl ?_
                  refine g_ald (pc' := 183) cd_Le_noteTaken rfl (Or.inr ⟨_, rfl, rfl, rfl⟩) l0 rfl rfl ?_
                  refine g_fI (c := 4) (k := 7) (x := cf) (pc' := 186) cd_Le_noteTaken rfl rfl rfl rfl rfl (by decide) hR425.1.1.1 hR425.1.1.2 hR425.2.1.2.2.1.1 ?_
                  refine g_iast (pc' := 187) cd_Le_noteTaken rfl rfl hR425.1.2.2.2.2.2.2.2.1.1 hR425.1.2.2.2.2.2.2.2.1.2.1 (by rw [show bm_AL (bm_setI (bm_setI B425 15 p ((tc p) + 1)) 16 p (nI i)) 17 = 6 from hR425.1.2.2.2.2.2.2.2.1.2.2]; exact vp_in_nI (by omega) (by decide)) ?_
                  rw [show (nI p : Int32).toNatClampNeg = p from nI_clamp (by omega)]
                  have A442 : bm_AI (bm_setI (bm_setI (bm_setI B425 15 p ((tc p) + 1)) 16 p (nI i)) 17 p cf) 12 = (bm_AI B425 12) := ((AI_setn (bm_setI (bm_setI B425 15 p ((tc p) + 1)) 16 p (nI i)) p cf 12 (by decide)).trans (show bm_AI (bm_setI (bm_setI B425 15 p ((tc p) + 1)) 16 p (nI i)) 12 = (bm_AI B425 12) from A434))
                  have A443 : bm_AI (bm_setI (bm_setI (bm_setI B425 15 p ((tc p) + 1)) 16 p (nI i)) 17 p cf) 13 = bd := ((AI_setn (bm_setI (bm_setI B425 15 p ((tc p) + 1)) 16 p (nI i)) p cf 13 (by decide)).trans (show bm_AI (bm_setI (bm_setI B425 15 p ((tc p) + 1)) 16 p (nI i)) 13 = bd from A435))
                  have A444 : bm_AI (bm_setI (bm_setI (bm_setI B425 15 p ((tc p) + 1)) 16 p (nI i)) 17 p cf) 14 = ll := ((AI_setn (bm_setI (bm_setI B425 15 p ((tc p) + 1)) 16 p (nI i)) p cf 14 (by decide)).trans (show bm_AI (bm_setI (bm_setI B425 15 p ((tc p) + 1)) 16 p (nI i)) 14 = ll from A436))
                  have A445 : bm_AI (bm_setI (bm_setI (bm_setI B425 15 p ((tc p) + 1)) 16 p (nI i)) 17 p cf) 15 = (upd tc p ((tc p) + 1)) := ((AI_setn (bm_setI (bm_setI B425 15 p ((tc p) + 1)) 16 p (nI i)) p cf 15 (by decide)).trans (show bm_AI (bm_setI (bm_setI B425 15 p ((tc p) + 1)) 16 p (nI i)) 15 = (upd tc p ((tc p) + 1)) from A437))
                  have A446 : bm_AI (bm_setI (bm_setI (bm_setI B425 15 p ((tc p) + 1)) 16 p (nI i)) 17 p cf) 16 = (upd tl p (nI i)) := ((AI_setn (bm_setI (bm_setI B425 15 p ((tc p) + 1)) 16 p (nI i)) p cf 16 (by decide)).trans (show bm_AI (bm_setI (bm_setI B425 15 p ((tc p) + 1)) 16 p (nI i)) 16 = (upd tl p (nI i)) from A438))
                  have A447 : bm_AI (bm_setI (bm_setI (bm_setI B425 15 p ((tc p) + 1)) 16 p (nI i)) 17 p cf) 17 = (upd tf p cf) := ((AI_set (bm_setI (bm_setI B425 15 p ((tc p) + 1)) 16 p (nI i)) 17 p cf).trans (congrArg (fun f => upd f p cf) (show bm_AI (bm_setI (bm_setI B425 15 p ((tc p) + 1)) 16 p (nI i)) 17 = tf from A439)))
                  have A448 : bm_AI (bm_setI (bm_setI (bm_setI B425 15 p ((tc p) + 1)) 16 p (nI i)) 17 p cf) 18 = tg := ((AI_setn (bm_setI (bm_setI B425 15 p ((tc p) + 1)) 16 p (nI i)) p cf 18 (by decide)).trans (show bm_AI (bm_setI (bm_setI B425 15 p ((tc p) + 1)) 16 p (nI i)) 18 = tg from A440))
                  have Z449 : fz lex B425 (bm_setI (bm_setI (bm_setI B425 15 p ((tc p) + 1)) 16 p (nI i)) 17 p cf) := fz_trans Z441 ⟨fr_mono (fun _ q => by unfold lex; omega) (fr_setI _ 17 _ _), rfl, rfl⟩
                  refine g_ald (pc' := 188) cd_Le_noteTaken rfl (Or.inr ⟨_, rfl, rfl, rfl⟩) l0 rfl rfl ?_
                  refine g_fR (c := 4) (k := 6) (x := 18) (pc' := 191) cd_Le_noteTaken rfl rfl rfl rfl rfl (by decide) hR425.1.1.1 hR425.1.1.2 hR425.1.2.1.2.2.2.2.2.2 ?_
                  refine g_ild (pc' := 192) cd_Le_noteTaken rfl (Or.inr ⟨_, rfl, rfl, rfl⟩) l2 rfl ?_
                  refine g_ald (pc' := 193) cd_Le_noteTaken rfl (Or.inr ⟨_, rfl, rfl, rfl⟩) l0 rfl rfl ?_
                  refine g_fI (c := 4) (k := 8) (x := cg) (pc' := 196) cd_Le_noteTaken rfl rfl rfl rfl rfl (by decide) hR425.1.1.1 hR425.1.1.2 hR425.2.1.2.2.1.2.1 ?_
                  refine g_iast (pc' := 197) cd_Le_noteTaken rfl rfl hR425.1.2.2.2.2.2.2.2.2.1 hR425.1.2.2.2.2.2.2.2.2.2.1 (by rw [show bm_AL (bm_setI (bm_setI (bm_setI B425 15 p ((tc p) + 1)) 16 p (nI i)) 17 p cf) 18 = 6 from hR425.1.2.2.2.2.2.2.2.2.2.2]; exact vp_in_nI (by omega) (by decide)) ?_
                  rw [show (nI p : Int32).toNatClampNeg = p from nI_clamp (by omega)]
                  have A450 : bm_AI (bm_setI (bm_setI (bm_setI (bm_setI B425 15 p ((tc p) + 1)) 16 p (nI i)) 17 p cf) 18 p cg) 12 = (bm_AI B425 12) := ((AI_setn (bm_setI (bm_setI (bm_setI B425 15 p ((tc p) + 1)) 16 p (nI i)) 17 p cf) p cg 12 (by decide)).trans (show bm_AI (bm_setI (bm_setI (bm_setI B425 15 p ((tc p) + 1)) 16 p (nI i)) 17 p cf) 12 = (bm_AI B425 12) from A442))
                  have A451 : bm_AI (bm_setI (bm_setI (bm_setI (bm_setI B425 15 p ((tc p) + 1)) 16 p (nI i)) 17 p cf) 18 p cg) 13 = bd := ((AI_setn (bm_setI (bm_setI (bm_setI B425 15 p ((tc p) + 1)) 16 p (nI i)) 17 p cf) p cg 13 (by decide)).trans (show bm_AI (bm_setI (bm_setI (bm_setI B425 15 p ((tc p) + 1)) 16 p (nI i)) 17 p cf) 13 = bd from A443))
                  have A452 : bm_AI (bm_setI (bm_setI (bm_setI (bm_setI B425 15 p ((tc p) + 1)) 16 p (nI i)) 17 p cf) 18 p cg) 14 = ll := ((AI_setn (bm_setI (bm_setI (bm_setI B425 15 p ((tc p) + 1)) 16 p (nI i)) 17 p cf) p cg 14 (by decide)).trans (show bm_AI (bm_setI (bm_setI (bm_setI B425 15 p ((tc p) + 1)) 16 p (nI i)) 17 p cf) 14 = ll from A444))
                  have A453 : bm_AI (bm_setI (bm_setI (bm_setI (bm_setI B425 15 p ((tc p) + 1)) 16 p (nI i)) 17 p cf) 18 p cg) 15 = (upd tc p ((tc p) + 1)) := ((AI_setn (bm_setI (bm_setI (bm_setI B425 15 p ((tc p) + 1)) 16 p (nI i)) 17 p cf) p cg 15 (by decide)).trans (show bm_AI (bm_setI (bm_setI (bm_setI B425 15 p ((tc p) + 1)) 16 p (nI i)) 17 p cf) 15 = (upd tc p ((tc p) + 1)) from A445))
                  have A454 : bm_AI (bm_setI (bm_setI (bm_setI (bm_setI B425 15 p ((tc p) + 1)) 16 p (nI i)) 17 p cf) 18 p cg) 16 = (upd tl p (nI i)) := ((AI_setn (bm_setI (bm_setI (bm_setI B425 15 p ((tc p) + 1)) 16 p (nI i)) 17 p cf) p cg 16 (by decide)).trans (show bm_AI (bm_setI (bm_setI (bm_setI B425 15 p ((tc p) + 1)) 16 p (nI i)) 17 p cf) 16 = (upd tl p (nI i)) from A446))
                  have A455 : bm_AI (bm_setI (bm_setI (bm_setI (bm_setI B425 15 p ((tc p) + 1)) 16 p (nI i)) 17 p cf) 18 p cg) 17 = (upd tf p cf) := ((AI_setn (bm_setI (bm_setI (bm_setI B425 15 p ((tc p) + 1)) 16 p (nI i)) 17 p cf) p cg 17 (by decide)).trans (show bm_AI (bm_setI (bm_setI (bm_setI B425 15 p ((tc p) + 1)) 16 p (nI i)) 17 p cf) 17 = (upd tf p cf) from A447))
                  have A456 : bm_AI (bm_setI (bm_setI (bm_setI (bm_setI B425 15 p ((tc p) + 1)) 16 p (nI i)) 17 p cf) 18 p cg) 18 = (upd tg p cg) := ((AI_set (bm_setI (bm_setI (bm_setI B425 15 p ((tc p) + 1)) 16 p (nI i)) 17 p cf) 18 p cg).trans (congrArg (fun f => upd f p cg) (show bm_AI (bm_setI (bm_setI (bm_setI B425 15 p ((tc p) + 1)) 16 p (nI i)) 17 p cf) 18 = tg from A448)))
                  have Z457 : fz lex B425 (bm_setI (bm_setI (bm_setI (bm_setI B425 15 p ((tc p) + 1)) 16 p (nI i)) 17 p cf) 18 p cg) := fz_trans Z449 ⟨fr_mono (fun _ q => by unfold lex; omega) (fr_setI _ 18 _ _), rfl, rfl⟩
                  have hRz : RLe (bm_setI (bm_setI (bm_setI (bm_setI B425 15 p ((tc p) + 1)) 16 p (nI i)) 17 p cf) 18 p cg) T ((L.set i (se, fm, to, gr, ma, on, mi, th, (tk ||| (1 <<< (nI p &&& 31))), sf)), bd, ll, upd tc p (tc p + 1), upd tl p (nI i), upd tf p cf, upd tg p cg, cf, cg, ct, co, li, fo, db + 1) := ⟨LgS_fr hR425.1 Z457.1, ⟨hR425.2.1.1, ⟨A451, A452, A453, A454, A455, A456⟩, hR425.2.1.2.2⟩, (by rw [show bm_AI (bm_setI (bm_setI (bm_setI (bm_setI B425 15 p ((tc p) + 1)) 16 p (nI i)) 17 p cf) 18 p cg) 12 = _ from A450]; exact hR425.2.2)⟩
                  have hEq : lg_taken (L, bd, ll, tc, tl, tf, tg, cf, cg, ct, co, li, fo, db) p = ((L.set i (se, fm, to, gr, ma, on, mi, th, (tk ||| (1 <<< (nI p &&& 31))), sf)), bd, ll, upd tc p (tc p + 1), upd tl p (nI i), upd tf p cf, upd tg p cg, cf, cg, ct, co, li, fo, db + 1) := by unfold lg_taken; dsimp only; rw [hl, lg_get_t he h7]; dsimp only; rw [nI_clamp (show i < 2 ^ 31 by omega)]; simp only [lt_take, ← hso, n26, n40, n45, n77, n118, n125]; simp
                  exact g_retv cd_Le_noteTaken rfl ⟨rfl, (kk _ (hEq ▸ hRz) (fz_trans hz425 Z457))⟩
                · have c125 : co = true := bz_t c125
                  have n125 := c125
                  refine g_ald (pc' := 129) cd_Le_noteTaken rfl (Or.inr ⟨_, rfl, rfl, rfl⟩) l0 rfl rfl ?_
                  refine g_ild (pc' := 130) cd_Le_noteTaken rfl (Or.inr ⟨_, rfl, rfl, rfl⟩) l3 rfl ?_
                  refine g_k1 (v := 4) (pc' := 131) cd_Le_noteTaken rfl (by decide) rfl ?_
                  refine g_calli (pc' := 134) cd_Le_noteTaken rfl rfl rfl rfl rfl (tm_invV rfl rfl cd_Le_of rfl (Nat.le_of_ble_eq_true rfl) (by decide) hR425.1.1.1 hR425.1.1.2) (t_Lof (k := 4) hR425 hi424 (by decide) ?_)
                  rw [show bm_AI B425 12 (i * 10 + 4) = ma from (hR425.2.2.1 i _ he424).2.2.2.2.1]
                  show bm_G _ _ _ 134 _ [.int ma] B425 _
                  refine g_ald (pc' := 135) cd_Le_noteTaken rfl (Or.inr ⟨_, rfl, rfl, rfl⟩) l0 rfl rfl ?_
                  refine g_fI (c := 4) (k := 12) (x := li) (pc' := 138) cd_Le_noteTaken rfl rfl rfl rfl rfl (by decide) hR425.1.1.1 hR425.1.1.2 hR425.2.1.2.2.2.1 ?_
                  refine g_pure (pc' := 139) (st' := [.int (ma &&& li)]) cd_Le_noteTaken rfl rfl (fun _ _ => rfl) ?_
                  refine g_if1 (t := 160) (pc' := 142) cd_Le_noteTaken rfl rfl rfl (fun c139 => ?_) (fun c139 => ?_)
                  · have c139 : ¬ (ma &&& li) = 0 := c139
                    have n139 := c139
                    refine g_ald (pc' := 161) cd_Le_noteTaken rfl (Or.inr ⟨_, rfl, rfl, rfl⟩) l0 rfl rfl ?_
                    refine g_fR (c := 4) (k := 3) (x := 15) (pc' := 164) cd_Le_noteTaken rfl rfl rfl rfl rfl (by decide) hR425.1.1.1 hR425.1.1.2 hR425.1.2.1.2.2.2.1 ?_
                    refine g_ild (pc' := 165) cd_Le_noteTaken rfl (Or.inr ⟨_, rfl, rfl, rfl⟩) l2 rfl ?_
                    refine g_pure (pc' := 166) (st' := [.int (nI p), .ref 15, .int (nI p), .ref 15]) cd_Le_noteTaken rfl rfl (fun _ _ => rfl) ?_
                    refine g_aI (x := (tc p)) (pc' := 167) cd_Le_noteTaken rfl rfl hR425.1.2.2.2.2.2.1.1 hR425.1.2.2.2.2.2.1.2.1 (by rw [show bm_AL B425 15 = 6 from hR425.1.2.2.2.2.2.1.2.2]; exact vp_in_nI (by omega) (by decide)) (by rw [nI_clamp (by omega)]; exact congrFun (show bm_AI B425 15 = tc from hR425.2.1.2.1.2.2.1) p) ?_
                    refine g_k1 (v := 1) (pc' := 168) cd_Le_noteTaken rfl (by decide) rfl ?_
                    refine g_pure (pc' := 169) (st' := [.int ((tc p) + 1), .int (nI p), .ref 15]) cd_Le_noteTaken rfl rfl (fun _ _ => rfl) ?_
                    refine g_iast (pc' := 170) cd_Le_noteTaken rfl rfl hR425.1.2.2.2.2.2.1.1 hR425.1.2.2.2.2.2.1.2.1 (by rw [show bm_AL B425 15 = 6 from hR425.1.2.2.2.2.2.1.2.2]; exact vp_in_nI (by omega) (by decide)) ?_
                    rw [show (nI p : Int32).toNatClampNeg = p from nI_clamp (by omega)]
                    have A458 : bm_AI (bm_setI B425 15 p ((tc p) + 1)) 12 = (bm_AI B425 12) := ((AI_setn B425 p ((tc p) + 1) 12 (by decide)).trans (show bm_AI B425 12 = (bm_AI B425 12) from rfl))
                    have A459 : bm_AI (bm_setI B425 15 p ((tc p) + 1)) 13 = bd := ((AI_setn B425 p ((tc p) + 1) 13 (by decide)).trans (show bm_AI B425 13 = bd from hR425.2.1.2.1.1))
                    have A460 : bm_AI (bm_setI B425 15 p ((tc p) + 1)) 14 = ll := ((AI_setn B425 p ((tc p) + 1) 14 (by decide)).trans (show bm_AI B425 14 = ll from hR425.2.1.2.1.2.1))
                    have A461 : bm_AI (bm_setI B425 15 p ((tc p) + 1)) 15 = (upd tc p ((tc p) + 1)) := ((AI_set B425 15 p ((tc p) + 1)).trans (congrArg (fun f => upd f p ((tc p) + 1)) (show bm_AI B425 15 = tc from hR425.2.1.2.1.2.2.1)))
                    have A462 : bm_AI (bm_setI B425 15 p ((tc p) + 1)) 16 = tl := ((AI_setn B425 p ((tc p) + 1) 16 (by decide)).trans (show bm_AI B425 16 = tl from hR425.2.1.2.1.2.2.2.1))
                    have A463 : bm_AI (bm_setI B425 15 p ((tc p) + 1)) 17 = tf := ((AI_setn B425 p ((tc p) + 1) 17 (by decide)).trans (show bm_AI B425 17 = tf from hR425.2.1.2.1.2.2.2.2.1))
                    have A464 : bm_AI (bm_setI B425 15 p ((tc p) + 1)) 18 = tg := ((AI_setn B425 p ((tc p) + 1) 18 (by decide)).trans (show bm_AI B425 18 = tg from hR425.2.1.2.1.2.2.2.2.2))
                    have Z465 : fz lex B425 (bm_setI B425 15 p ((tc p) + 1)) := fz_trans (fz_rfl _ B425) ⟨fr_mono (fun _ q => by unfold lex; omega) (fr_setI _ 15 _ _), rfl, rfl⟩
                    refine g_ald (pc' := 171) cd_Le_noteTaken rfl (Or.inr ⟨_, rfl, rfl, rfl⟩) l0 rfl rfl ?_
                    refine g_fR (c := 4) (k := 4) (x := 16) (pc' := 174) cd_Le_noteTaken rfl rfl rfl rfl rfl (by decide) hR425.1.1.1 hR425.1.1.2 hR425.1.2.1.2.2.2.2.1 ?_
                    refine g_ild (pc' := 175) cd_Le_noteTaken rfl (Or.inr ⟨_, rfl, rfl, rfl⟩) l2 rfl ?_
                    refine g_ild (pc' := 176) cd_Le_noteTaken rfl (Or.inr ⟨_, rfl, rfl, rfl⟩) l3 rfl ?_
                    refine g_iast (pc' := 177) cd_Le_noteTaken rfl rfl hR425.1.2.2.2.2.2.2.1.1 hR425.1.2.2.2.2.2.2.1.2.1 (by rw [show bm_AL (bm_setI B425 15 p ((tc p) + 1)) 16 = 6 from hR425.1.2.2.2.2.2.2.1.2.2]; exact vp_in_nI (by omega) (by decide)) ?_
                    rw [show (nI p : Int32).toNatClampNeg = p from nI_clamp (by omega)]
                    have A466 : bm_AI (bm_setI (bm_setI B425 15 p ((tc p) + 1)) 16 p (nI i)) 12 = (bm_AI B425 12) := ((AI_setn (bm_setI B425 15 p ((tc p) + 1)) p (nI i) 12 (by decide)).trans (show bm_AI (bm_setI B425 15 p ((tc p) + 1)) 12 = (bm_AI B425 12) from A458))
                    have A467 : bm_AI (bm_setI (bm_setI B425 15 p ((tc p) + 1)) 16 p (nI i)) 13 = bd := ((AI_setn (bm_setI B425 15 p ((tc p) + 1)) p (nI i) 13 (by decide)).trans (show bm_AI (bm_setI B425 15 p ((tc p) + 1)) 13 = bd from A459))
                    have A468 : bm_AI (bm_setI (bm_setI B425 15 p ((tc p) + 1)) 16 p (nI i)) 14 = ll := ((AI_setn (bm_setI B425 15 p ((tc p) + 1)) p (nI i) 14 (by decide)).trans (show bm_AI (bm_setI B425 15 p ((tc p) + 1)) 14 = ll from A460))
                    have A469 : bm_AI (bm_setI (bm_setI B425 15 p ((tc p) + 1)) 16 p (nI i)) 15 = (upd tc p ((tc p) + 1)) := ((AI_setn (bm_setI B425 15 p ((tc p) + 1)) p (nI i) 15 (by decide)).trans (show bm_AI (bm_setI B425 15 p ((tc p) + 1)) 15 = (upd tc p ((tc p) + 1)) from A461))
                    have A470 : bm_AI (bm_setI (bm_setI B425 15 p ((tc p) + 1)) 16 p (nI i)) 16 = (upd tl p (nI i)) := ((AI_set (bm_setI B425 15 p ((tc p) + 1)) 16 p (nI i)).trans (congrArg (fun f => upd f p (nI i)) (show bm_AI (bm_setI B425 15 p ((tc p) + 1)) 16 = tl from A462)))
                    have A471 : bm_AI (bm_setI (bm_setI B425 15 p ((tc p) + 1)) 16 p (nI i)) 17 = tf := ((AI_setn (bm_setI B425 15 p ((tc p) + 1)) p (nI i) 17 (by decide)).trans (show bm_AI (bm_setI B425 15 p ((tc p) + 1)) 17 = tf from A463))
                    have A472 : bm_AI (bm_setI (bm_setI B425 15 p ((tc p) + 1)) 16 p (nI i)) 18 = tg := ((AI_setn (bm_setI B425 15 p ((tc p) + 1)) p (nI i) 18 (by decide)).trans (show bm_AI (bm_setI B425 15 p ((tc p) + 1)) 18 = tg from A464))
                    have Z473 : fz lex B425 (bm_setI (bm_setI B425 15 p ((tc p) + 1)) 16 p (nI i)) := fz_trans Z465 ⟨fr_mono (fun _ q => by unfold lex; omega) (fr_setI _ 16 _ _), rfl, rfl⟩
                    refine g_ald (pc' := 178) cd_Le_noteTaken rfl (Or.inr ⟨_, rfl, rfl, rfl⟩) l0 rfl rfl ?_
                    refine g_fR (c := 4) (k := 5) (x := 17) (pc' := 181) cd_Le_noteTaken rfl rfl rfl rfl rfl (by decide) hR425.1.1.1 hR425.1.1.2 hR425.1.2.1.2.2.2.2.2.1 ?_
                    refine g_ild (pc' := 182) cd_Le_noteTaken rfl (Or.inr ⟨_, rfl, rfl, rfl⟩) l2 rfl ?_
                    refine g_ald (pc' := 183) cd_Le_noteTaken rfl (Or.inr ⟨_, rfl, rfl, rfl⟩) l0 rfl rfl ?_
                    refine g_fI (c := 4) (k := 7) (x := cf) (pc' := 186) cd_Le_noteTaken rfl rfl rfl rfl rfl (by decide) hR425.1.1.1 hR425.1.1.2 hR425.2.1.2.2.1.1 ?_
                    refine g_iast (pc' := 187) cd_Le_noteTaken rfl rfl hR425.1.2.2.2.2.2.2.2.1.1 hR425.1.2.2.2.2.2.2.2.1.2.1 (by rw [show bm_AL (bm_setI (bm_setI B425 15 p ((tc p) + 1)) 16 p (nI i)) 17 = 6 from hR425.1.2.2.2.2.2.2.2.1.2.2]; exact vp_in_nI (by omega) (by decide)) ?_
                    rw [show (nI p : Int32).toNatClampNeg = p from nI_clamp (by omega)]
                    have A474 : bm_AI (bm_setI (bm_setI (bm_setI B425 15 p ((tc p) + 1)) 16 p (nI i)) 17 p cf) 12 = (bm_AI B425 12) := ((AI_setn (bm_setI (bm_setI B425 15 p ((tc p) + 1)) 16 p (nI i)) p cf 12 (by decide)).trans (show bm_AI (bm_setI (bm_setI B425 15 p ((tc p) + 1)) 16 p (nI i)) 12 = (bm_AI B425 12) from A466))
                    have A475 : bm_AI (bm_setI (bm_setI (bm_setI B425 15 p ((tc p) + 1)) 16 p (nI i)) 17 p cf) 13 = bd := ((AI_setn (bm_setI (bm_setI B425 15 p ((tc p) + 1)) 16 p (nI i)) p cf 13 (by decide)).trans (show bm_AI (bm_setI (bm_setI B425 15 p ((tc p) + 1)) 16 p (nI i)) 13 = bd from A467))
                    have A476 : bm_AI (bm_setI (bm_setI (bm_setI B425 15 p ((tc p) + 1)) 16 p (nI i)) 17 p cf) 14 = ll := ((AI_setn (bm_setI (bm_setI B425 15 p ((tc p) + 1)) 16 p (nI i)) p cf 14 (by decide)).trans (show bm_AI (bm_setI (bm_setI B425 15 p ((tc p) + 1)) 16 p (nI i)) 14 = ll from A468))
                    have A477 : bm_AI (bm_setI (bm_setI (bm_setI B425 15 p ((tc p) + 1)) 16 p (nI i)) 17 p cf) 15 = (upd tc p ((tc p) + 1)) := ((AI_setn (bm_setI (bm_setI B425 15 p ((tc p) + 1)) 16 p (nI i)) p cf 15 (by decide)).trans (show bm_AI (bm_setI (bm_setI B425 15 p ((tc p) + 1)) 16 p (nI i)) 15 = (upd tc p ((tc p) + 1)) from A469))
                    have A478 : bm_AI (bm_setI (bm_setI (bm_setI B425 15 p ((tc p) + 1)) 16 p (nI i)) 17 p cf) 16 = (upd tl p (nI i)) := ((AI_setn (bm_setI (bm_setI B425 15 p ((tc p) + 1)) 16 p (nI i)) p cf 16 (by decide)).trans (show bm_AI (bm_setI (bm_setI B425 15 p ((tc p) + 1)) 16 p (nI i)) 16 = (upd tl p (nI i)) from A470))
                    have A479 : bm_AI (bm_setI (bm_setI (bm_setI B425 15 p ((tc p) + 1)) 16 p (nI i)) 17 p cf) 17 = (upd tf p cf) := ((AI_set (bm_setI (bm_setI B425 15 p ((tc p) + 1)) 16 p (nI i)) 17 p cf).trans (congrArg (fun f => upd f p cf) (show bm_AI (bm_setI (bm_setI B425 15 p ((tc p) + 1)) 16 p (nI i)) 17 = tf from A471)))
                    have A480 : bm_AI (bm_setI (bm_setI (bm_setI B425 15 p ((tc p) + 1)) 16 p (nI i)) 17 p cf) 18 = tg := ((AI_setn (bm_setI (bm_setI B425 15 p ((tc p) + 1)) 16 p (nI i)) p cf 18 (by decide)).trans (show bm_AI (bm_setI (bm_setI B425 15 p ((tc p) + 1)) 16 p (nI i)) 18 = tg from A472))
                    have Z481 : fz lex B425 (bm_setI (bm_setI (bm_setI B425 15 p ((tc p) + 1)) 16 p (nI i)) 17 p cf) := fz_trans Z473 ⟨fr_mono (fun _ q => by unfold lex; omega) (fr_setI _ 17 _ _), rfl, rfl⟩
                    refine g_ald (pc' := 188) cd_Le_noteTaken rfl (Or.inr ⟨_, rfl, rfl, rfl⟩) l0 rfl rfl ?_
                    refine g_fR (c := 4) (k := 6) (x := 18) (pc' := 191) cd_Le_noteTaken rfl rfl rfl rfl rfl (by decide) hR425.1.1.1 hR425.1.1.2 hR425.1.2.1.2.2.2.2.2.2 ?_
                    refine g_ild (pc' := 192) cd_Le_noteTaken rfl (Or.inr ⟨_, rfl, rfl, rfl⟩) l2 rfl ?_
                    refine g_ald (pc' := 193) cd_Le_noteTaken rfl (Or.inr ⟨_, rfl, rfl, rfl⟩) l0 rfl rfl ?_
                    refine g_fI (c := 4) (k := 8) (x := cg) (pc' := 196) cd_Le_noteTaken rfl rfl rfl rfl rfl (by decide) hR425.1.1.1 hR425.1.1.2 hR425.2.1.2.2.1.2.1 ?_
                    refine g_iast (pc' := 197) cd_Le_noteTaken rfl rfl hR425.1.2.2.2.2.2.2.2.2.1 hR425.1.2.2.2.2.2.2.2.2.2.1 (by rw [show bm_AL (bm_setI (bm_setI (bm_setI B425 15 p ((tc p) + 1)) 16 p (nI i)) 17 p cf) 18 = 6 from hR425.1.2.2.2.2.2.2.2.2.2.2]; exact vp_in_nI (by omega) (by decide)) ?_
                    rw [show (nI p : Int32).toNatClampNeg = p from nI_clamp (by omega)]
                    have A482 : bm_AI (bm_setI (bm_setI (bm_setI (bm_setI B425 15 p ((tc p) + 1)) 16 p (nI i)) 17 p cf) 18 p cg) 12 = (bm_AI B425 12) := ((AI_setn (bm_setI (bm_setI (bm_setI B425 15 p ((tc p) + 1)) 16 p (nI i)) 17 p cf) p cg 12 (by decide)).trans (show bm_AI (bm_setI (bm_setI (bm_setI B425 15 p ((tc p) + 1)) 16 p (nI i)) 17 p cf) 12 = (bm_AI B425 12) from A474))
                    have A483 : bm_AI (bm_setI (bm_setI (bm_setI (bm_setI B425 15 p ((tc p) + 1)) 16 p (nI i)) 17 p cf) 18 p cg) 13 = bd := ((AI_setn (bm_setI (bm_setI (bm_setI B425 15 p ((tc p) + 1)) 16 p (nI i)) 17 p cf) p cg 13 (by decide)).trans (show bm_AI (bm_setI (bm_setI (bm_setI B425 15 p ((tc p) + 1)) 16 p (nI i)) 17 p cf) 13 = bd from A475))
                    have A484 : bm_AI (bm_setI (bm_setI (bm_setI (bm_setI B425 15 p ((tc p) + 1)) 16 p (nI i)) 17 p cf) 18 p cg) 14 = ll := ((AI_setn (bm_setI (bm_setI (bm_setI B425 15 p ((tc p) + 1)) 16 p (nI i)) 17 p cf) p cg 14 (by decide)).trans (show bm_AI (bm_setI (bm_setI (bm_setI B425 15 p ((tc p) + 1)) 16 p (nI i)) 17 p cf) 14 = ll from A476))
                    have A485 : bm_AI (bm_setI (bm_setI (bm_setI (bm_setI B425 15 p ((tc p) + 1)) 16 p (nI i)) 17 p cf) 18 p cg) 15 = (upd tc p ((tc p) + 1)) := ((AI_setn (bm_setI (bm_setI (bm_setI B425 15 p ((tc p) + 1)) 16 p (nI i)) 17 p cf) p cg 15 (by decide)).trans (show bm_AI (bm_setI (bm_setI (bm_setI B425 15 p ((tc p) + 1)) 16 p (nI i)) 17 p cf) 15 = (upd tc p ((tc p) + 1)) from A477))
                    have A486 : bm_AI (bm_setI (bm_setI (bm_setI (bm_setI B425 15 p ((tc p) + 1)) 16 p (nI i)) 17 p cf) 18 p cg) 16 = (upd tl p (nI i)) := ((AI_setn (bm_setI (bm_setI (bm_setI B425 15 p ((tc p) + 1)) 16 p (nI i)) 17 p cf) p cg 16 (by decide)).trans (show bm_AI (bm_setI (bm_setI (bm_setI B425 15 p ((tc p) + 1)) 16 p (nI i)) 17 p cf) 16 = (upd tl p (nI i)) from A478))
                    have A487 : bm_AI (bm_setI (bm_setI (bm_setI (bm_setI B425 15 p ((tc p) + 1)) 16 p (nI i)) 17 p cf) 18 p cg) 17 = (upd tf p cf) := ((AI_setn (bm_setI (bm_setI (bm_setI B425 15 p ((tc p) + 1)) 16 p (nI i)) 17 p cf) p cg 17 (by decide)).trans (show bm_AI (bm_setI (bm_setI (bm_setI B425 15 p ((tc p) + 1)) 16 p (nI i)) 17 p cf) 17 = (upd tf p cf) from A479))
                    have A488 : bm_AI (bm_setI (bm_setI (bm_setI (bm_setI B425 15 p ((tc p) + 1)) 16 p (nI i)) 17 p cf) 18 p cg) 18 = (upd tg p cg) := ((AI_set (bm_setI (bm_setI (bm_setI B425 15 p ((tc p) + 1)) 16 p (nI i)) 17 p cf) 18 p cg).trans (congrArg (fun f => upd f p cg) (show bm_AI (bm_setI (bm_setI (bm_setI B425 15 p ((tc p) + 1)) 16 p (nI i)) 17 p cf) 18 = tg from A480)))
                    have Z489 : fz lex B425 (bm_setI (bm_setI (bm_setI (bm_setI B425 15 p ((tc p) + 1)) 16 p (nI i)) 17 p cf) 18 p cg) := fz_trans Z481 ⟨fr_mono (fun _ q => by unfold lex; omega) (fr_setI _ 18 _ _), rfl, rfl⟩
                    have hRz : RLe (bm_setI (bm_setI (bm_setI (bm_setI B425 15 p ((tc p) + 1)) 16 p (nI i)) 17 p cf) 18 p cg) T ((L.set i (se, fm, to, gr, ma, on, mi, th, (tk ||| (1 <<< (nI p &&& 31))), sf)), bd, ll, upd tc p (tc p + 1), upd tl p (nI i), upd tf p cf, upd tg p cg, cf, cg, ct, co, li, fo, db + 1) := ⟨LgS_fr hR425.1 Z489.1, ⟨hR425.2.1.1, ⟨A483, A484, A485, A486, A487, A488⟩, hR425.2.1.2.2⟩, (by rw [show bm_AI (bm_setI (bm_setI (bm_setI (bm_setI B425 15 p ((tc p) + 1)) 16 p (nI i)) 17 p cf) 18 p cg) 12 = _ from A482]; exact hR425.2.2)⟩
                    have hEq : lg_taken (L, bd, ll, tc, tl, tf, tg, cf, cg, ct, co, li, fo, db) p = ((L.set i (se, fm, to, gr, ma, on, mi, th, (tk ||| (1 <<< (nI p &&& 31))), sf)), bd, ll, upd tc p (tc p + 1), upd tl p (nI i), upd tf p cf, upd tg p cg, cf, cg, ct, co, li, fo, db + 1) := by unfold lg_taken; dsimp only; rw [hl, lg_get_t he h7]; dsimp only; rw [nI_clamp (show i < 2 ^ 31 by omega)]; simp only [lt_take, ← hso, n26, n40, n45, n77, n118, n125, n139]; simp
                    exact g_retv cd_Le_noteTaken rfl ⟨rfl, (kk _ (hEq ▸ hRz) (fz_trans hz425 Z489))⟩
                  · have c139 : (ma &&& li) = 0 := Classical.not_not.mp c139
                    have n139 := c139
                    refine g_ald (pc' := 143) cd_Le_noteTaken rfl (Or.inr ⟨_, rfl, rfl, rfl⟩) l0 rfl rfl ?_
                    refine g_fR (c := 4) (k := 0) (x := 12) (pc' := 146) cd_Le_noteTaken rfl rfl rfl rfl rfl (by decide) hR425.1.1.1 hR425.1.1.2 hR425.1.2.1.1 ?_
                    refine g_ild (pc' := 147) cd_Le_noteTaken rfl (Or.inr ⟨_, rfl, rfl, rfl⟩) l3 rfl ?_
                    refine g_k2 (v := 10) (pc' := 149) cd_Le_noteTaken rfl (by decide) rfl ?_
                    refine g_pure (pc' := 150) (st' := [.int ((nI i) * 10), .ref 12]) cd_Le_noteTaken rfl rfl (fun _ _ => rfl) ?_
                    rw [show ((nI i) * 10 : Int32) = nI (i * 10) from pk_mul i 10]
                    refine g_k2 (v := 9) (pc' := 152) cd_Le_noteTaken rfl (by decide) rfl ?_
                    refine g_pure (pc' := 153) (st' := [.int ((nI (i * 10)) + 9), .ref 12]) cd_Le_noteTaken rfl rfl (fun _ _ => rfl) ?_
                    rw [show ((nI (i * 10)) + 9 : Int32) = nI ((i * 10) + 9) from nI_add (i * 10) 9]
                    refine g_pure (pc' := 154) (st' := [.int (nI ((i * 10) + 9)), .ref 12, .int (nI ((i * 10) + 9)), .ref 12]) cd_Le_noteTaken rfl rfl (fun _ _ => rfl) ?_
                    refine g_aI (x := sf) (pc' := 155) cd_Le_noteTaken rfl rfl hR425.1.2.2.1.1 hR425.1.2.2.1.2.1 (by rw [show bm_AL B425 12 = 7000 from hR425.1.2.2.1.2.2]; exact vp_in_nI (by omega) (by decide)) (by rw [nI_clamp (by omega)]; exact (hR425.2.2.1 i _ he424).2.2.2.2.2.2.2.2.2) ?_
                    refine g_k1 (v := 1) (pc' := 156) cd_Le_noteTaken rfl (by decide) rfl ?_
                    refine g_ild (pc' := 157) cd_Le_noteTaken rfl (Or.inr ⟨_, rfl, rfl, rfl⟩) l2 rfl ?_
                    refine g_pure (pc' := 158) (st' := [.int (1 <<< ((nI p) &&& 31)), .int sf, .int (nI ((i * 10) + 9)), .ref 12]) cd_Le_noteTaken rfl rfl (fun _ _ => rfl) ?_
                    refine g_pure (pc' := 159) (st' := [.int (sf ||| (1 <<< ((nI p) &&& 31))), .int (nI ((i * 10) + 9)), .ref 12]) cd_Le_noteTaken rfl rfl (fun _ _ => rfl) ?_
                    refine g_iast (pc' := 160) cd_Le_noteTaken rfl rfl hR425.1.2.2.1.1 hR425.1.2.2.1.2.1 (by rw [show bm_AL B425 12 = 7000 from hR425.1.2.2.1.2.2]; exact vp_in_nI (by omega) (by decide)) ?_
                    rw [show (nI ((i * 10) + 9) : Int32).toNatClampNeg = ((i * 10) + 9) from nI_clamp (by omega)]
                    have A490 : bm_AI (bm_setI B425 12 ((i * 10) + 9) (sf ||| (1 <<< ((nI p) &&& 31)))) 12 = (upd (bm_AI B425 12) ((i * 10) + 9) (sf ||| (1 <<< ((nI p) &&& 31)))) := ((AI_set B425 12 ((i * 10) + 9) (sf ||| (1 <<< ((nI p) &&& 31)))).trans (congrArg (fun f => upd f ((i * 10) + 9) (sf ||| (1 <<< ((nI p) &&& 31)))) (show bm_AI B425 12 = (bm_AI B425 12) from rfl)))
                    have A491 : bm_AI (bm_setI B425 12 ((i * 10) + 9) (sf ||| (1 <<< ((nI p) &&& 31)))) 13 = bd := ((AI_setn B425 ((i * 10) + 9) (sf ||| (1 <<< ((nI p) &&& 31))) 13 (by decide)).trans (show bm_AI B425 13 = bd from hR425.2.1.2.1.1))
                    have A492 : bm_AI (bm_setI B425 12 ((i * 10) + 9) (sf ||| (1 <<< ((nI p) &&& 31)))) 14 = ll := ((AI_setn B425 ((i * 10) + 9) (sf ||| (1 <<< ((nI p) &&& 31))) 14 (by decide)).trans (show bm_AI B425 14 = ll from hR425.2.1.2.1.2.1))
                    have A493 : bm_AI (bm_setI B425 12 ((i * 10) + 9) (sf ||| (1 <<< ((nI p) &&& 31)))) 15 = tc := ((AI_setn B425 ((i * 10) + 9) (sf ||| (1 <<< ((nI p) &&& 31))) 15 (by decide)).trans (show bm_AI B425 15 = tc from hR425.2.1.2.1.2.2.1))
                    have A494 : bm_AI (bm_setI B425 12 ((i * 10) + 9) (sf ||| (1 <<< ((nI p) &&& 31)))) 16 = tl := ((AI_setn B425 ((i * 10) + 9) (sf ||| (1 <<< ((nI p) &&& 31))) 16 (by decide)).trans (show bm_AI B425 16 = tl from hR425.2.1.2.1.2.2.2.1))
                    have A495 : bm_AI (bm_setI B425 12 ((i * 10) + 9) (sf ||| (1 <<< ((nI p) &&& 31)))) 17 = tf := ((AI_setn B425 ((i * 10) + 9) (sf ||| (1 <<< ((nI p) &&& 31))) 17 (by decide)).trans (show bm_AI B425 17 = tf from hR425.2.1.2.1.2.2.2.2.1))
                    have A496 : bm_AI (bm_setI B425 12 ((i * 10) + 9) (sf ||| (1 <<< ((nI p) &&& 31)))) 18 = tg := ((AI_setn B425 ((i * 10) + 9) (sf ||| (1 <<< ((nI p) &&& 31))) 18 (by decide)).trans (show bm_AI B425 18 = tg from hR425.2.1.2.1.2.2.2.2.2))
                    have Z497 : fz lex B425 (bm_setI B425 12 ((i * 10) + 9) (sf ||| (1 <<< ((nI p) &&& 31)))) := fz_trans (fz_rfl _ B425) ⟨fr_mono (fun _ q => by unfold lex; omega) (fr_setI _ 12 _ _), rfl, rfl⟩
                    have hR499 : RLe (bm_setI B425 12 ((i * 10) + 9) (sf ||| (1 <<< ((nI p) &&& 31)))) T (((L.set i (se, fm, to, gr, ma, on, mi, th, (tk ||| (1 <<< (nI p &&& 31))), sf)).set i (se, fm, to, gr, ma, on, mi, th, (tk ||| (1 <<< (nI p &&& 31))), (sf ||| (1 <<< (nI p &&& 31))))), bd, ll, tc, tl, tf, tg, cf, cg, ct, co, li, fo, db + 1) := ⟨LgS_fr hR425.1 Z497.1, ⟨⟨(hR425.2.1.1.1).trans (by simp), (by have := hR425.2.1.1.2; simpa using this)⟩, ⟨A491, A492, A493, A494, A495, A496⟩, hR425.2.1.2.2⟩, (RLc_set (i := i) hR425.2.2 he424 (fun j h8 h9 => by rw [show bm_AI (bm_setI B425 12 ((i * 10) + 9) (sf ||| (1 <<< ((nI p) &&& 31)))) 12 = _ from A490]; exact pk_un (by omega)) (by rw [show bm_AI (bm_setI B425 12 ((i * 10) + 9) (sf ||| (1 <<< ((nI p) &&& 31)))) 12 = _ from A490]; exact (pk_un (by omega)).trans ((hR425.2.2.1 i _ he424).2.2.2.2.2.2.2.2.1)) (by rw [show bm_AI (bm_setI B425 12 ((i * 10) + 9) (sf ||| (1 <<< ((nI p) &&& 31)))) 12 = _ from A490]; exact if_pos rfl))⟩
                    have hz499 : fz lex B (bm_setI B425 12 ((i * 10) + 9) (sf ||| (1 <<< ((nI p) &&& 31)))) := fz_trans hz425 Z497
                    generalize (bm_setI B425 12 ((i * 10) + 9) (sf ||| (1 <<< ((nI p) &&& 31)))) = B499 at hR499 hz499 ⊢
                    have he498 : ((L.set i (se, fm, to, gr, ma, on, mi, th, (tk ||| (1 <<< (nI p &&& 31))), sf)).set i (se, fm, to, gr, ma, on, mi, th, (tk ||| (1 <<< (nI p &&& 31))), (sf ||| (1 <<< (nI p &&& 31)))))[i]? = some (se, fm, to, gr, ma, on, mi, th, (tk ||| (1 <<< (nI p &&& 31))), (sf ||| (1 <<< (nI p &&& 31)))) := List.getElem?_set_self hi424
                    have hi498 : i < ((L.set i (se, fm, to, gr, ma, on, mi, th, (tk ||| (1 <<< (nI p &&& 31))), sf)).set i (se, fm, to, gr, ma, on, mi, th, (tk ||| (1 <<< (nI p &&& 31))), (sf ||| (1 <<< (nI p &&& 31))))).length := by have := hi424; simpa using this
                    refine g_ald (pc' := 161) cd_Le_noteTaken rfl (Or.inr ⟨_, rfl, rfl, rfl⟩) l0 rfl rfl ?_
                    refine g_fR (c := 4) (k := 3) (x := 15) (pc' := 164) cd_Le_noteTaken rfl rfl rfl rfl rfl (by decide) hR499.1.1.1 hR499.1.1.2 hR499.1.2.1.2.2.2.1 ?_
                    refine g_ild (pc' := 165) cd_Le_noteTaken rfl (Or.inr ⟨_, rfl, rfl, rfl⟩) l2 rfl ?_
                    refine g_pure (pc' := 166) (st' := [.int (nI p), .ref 15, .int (nI p), .ref 15]) cd_Le_noteTaken rfl rfl (fun _ _ => rfl) ?_
                    refine g_aI (x := (tc p)) (pc' := 167) cd_Le_noteTaken rfl rfl hR499.1.2.2.2.2.2.1.1 hR499.1.2.2.2.2.2.1.2.1 (by rw [show bm_AL B499 15 = 6 from hR499.1.2.2.2.2.2.1.2.2]; exact vp_in_nI (by omega) (by decide)) (by rw [nI_clamp (by omega)]; exact congrFun (show bm_AI B499 15 = tc from hR499.2.1.2.1.2.2.1) p) ?_
                    refine g_k1 (v := 1) (pc' := 168) cd_Le_noteTaken rfl (by decide) rfl ?_
                    refine g_pure (pc' := 169) (st' := [.int ((tc p) + 1), .int (nI p), .ref 15]) cd_Le_noteTaken rfl rfl (fun _ _ => rfl) ?_
                    refine g_iast (pc' := 170) cd_Le_noteTaken rfl rfl hR499.1.2.2.2.2.2.1.1 hR499.1.2.2.2.2.2.1.2.1 (by rw [show bm_AL B499 15 = 6 from hR499.1.2.2.2.2.2.1.2.2]; exact vp_in_nI (by omega) (by decide)) ?_
                    rw [show (nI p : Int32).toNatClampNeg = p from nI_clamp (by omega)]
                    have A500 : bm_AI (bm_setI B499 15 p ((tc p) + 1)) 12 = (bm_AI B499 12) := ((AI_setn B499 p ((tc p) + 1) 12 (by decide)).trans (show bm_AI B499 12 = (bm_AI B499 12) from rfl))
                    have A501 : bm_AI (bm_setI B499 15 p ((tc p) + 1)) 13 = bd := ((AI_setn B499 p ((tc p) + 1) 13 (by decide)).trans (show bm_AI B499 13 = bd from hR499.2.1.2.1.1))
                    have A502 : bm_AI (bm_setI B499 15 p ((tc p) + 1)) 14 = ll := ((AI_setn B499 p ((tc p) + 1) 14 (by decide)).trans (show bm_AI B499 14 = ll from hR499.2.1.2.1.2.1))
                    have A503 : bm_AI (bm_setI B499 15 p ((tc p) + 1)) 15 = (upd tc p ((tc p) + 1)) := ((AI_set B499 15 p ((tc p) + 1)).trans (congrArg (fun f => upd f p ((tc p) + 1)) (show bm_AI B499 15 = tc from hR499.2.1.2.1.2.2.1)))
                    have A504 : bm_AI (bm_setI B499 15 p ((tc p) + 1)) 16 = tl := ((AI_setn B499 p ((tc p) + 1) 16 (by decide)).trans (show bm_AI B499 16 = tl from hR499.2.1.2.1.2.2.2.1))
                    have A505 : bm_AI (bm_setI B499 15 p ((tc p) + 1)) 17 = tf := ((AI_setn B499 p ((tc p) + 1) 17 (by decide)).trans (show bm_AI B499 17 = tf from hR499.2.1.2.1.2.2.2.2.1))
                    have A506 : bm_AI (bm_setI B499 15 p ((tc p) + 1)) 18 = tg := ((AI_setn B499 p ((tc p) + 1) 18 (by decide)).trans (show bm_AI B499 18 = tg from hR499.2.1.2.1.2.2.2.2.2))
                    have Z507 : fz lex B499 (bm_setI B499 15 p ((tc p) + 1)) := fz_trans (fz_rfl _ B499) ⟨fr_mono (fun _ q => by unfold lex; omega) (fr_setI _ 15 _ _), rfl, rfl⟩
                    refine g_ald (pc' := 171) cd_Le_noteTaken rfl (Or.inr ⟨_, rfl, rfl, rfl⟩) l0 rfl rfl ?_
                    refine g_fR (c := 4) (k := 4) (x := 16) (pc' := 174) cd_Le_noteTaken rfl rfl rfl rfl rfl (by decide) hR499.1.1.1 hR499.1.1.2 hR499.1.2.1.2.2.2.2.1 ?_
                    refine g_ild (pc' := 175) cd_Le_noteTaken rfl (Or.inr ⟨_, rfl, rfl, rfl⟩) l2 rfl ?_
                    refine g_ild (pc' := 176) cd_Le_noteTaken rfl (Or.inr ⟨_, rfl, rfl, rfl⟩) l3 rfl ?_
                    refine g_iast (pc' := 177) cd_Le_noteTaken rfl rfl hR499.1.2.2.2.2.2.2.1.1 hR499.1.2.2.2.2.2.2.1.2.1 (by rw [show bm_AL (bm_setI B499 15 p ((tc p) + 1)) 16 = 6 from hR499.1.2.2.2.2.2.2.1.2.2]; exact vp_in_nI (by omega) (by decide)) ?_
                    rw [show (nI p : Int32).toNatClampNeg = p from nI_clamp (by omega)]
                    have A508 : bm_AI (bm_setI (bm_setI B499 15 p ((tc p) + 1)) 16 p (nI i)) 12 = (bm_AI B499 12) := ((AI_setn (bm_setI B499 15 p ((tc p) + 1)) p (nI i) 12 (by decide)).trans (show bm_AI (bm_setI B499 15 p ((tc p) + 1)) 12 = (bm_AI B499 12) from A500))
                    have A509 : bm_AI (bm_setI (bm_setI B499 15 p ((tc p) + 1)) 16 p (nI i)) 13 = bd := ((AI_setn (bm_setI B499 15 p ((tc p) + 1)) p (nI i) 13 (by decide)).trans (show bm_AI (bm_setI B499 15 p ((tc p) + 1)) 13 = bd from A501))
                    have A510 : bm_AI (bm_setI (bm_setI B499 15 p ((tc p) + 1)) 16 p (nI i)) 14 = ll := ((AI_setn (bm_setI B499 15 p ((tc p) + 1)) p (nI i) 14 (by decide)).trans (show bm_AI (bm_setI B499 15 p ((tc p) + 1)) 14 = ll from A502))
                    have A511 : bm_AI (bm_setI (bm_setI B499 15 p ((tc p) + 1)) 16 p (nI i)) 15 = (upd tc p ((tc p) + 1)) := ((AI_setn (bm_setI B499 15 p ((tc p) + 1)) p (nI i) 15 (by decide)).trans (show bm_AI (bm_setI B499 15 p ((tc p) + 1)) 15 = (upd tc p ((tc p) + 1)) from A503))
                    have A512 : bm_AI (bm_setI (bm_setI B499 15 p ((tc p) + 1)) 16 p (nI i)) 16 = (upd tl p (nI i)) := ((AI_set (bm_setI B499 15 p ((tc p) + 1)) 16 p (nI i)).trans (congrArg (fun f => upd f p (nI i)) (show bm_AI (bm_setI B499 15 p ((tc p) + 1)) 16 = tl from A504)))
                    have A513 : bm_AI (bm_setI (bm_setI B499 15 p ((tc p) + 1)) 16 p (nI i)) 17 = tf := ((AI_setn (bm_setI B499 15 p ((tc p) + 1)) p (nI i) 17 (by decide)).trans (show bm_AI (bm_setI B499 15 p ((tc p) + 1)) 17 = tf from A505))
                    have A514 : bm_AI (bm_setI (bm_setI B499 15 p ((tc p) + 1)) 16 p (nI i)) 18 = tg := ((AI_setn (bm_setI B499 15 p ((tc p) + 1)) p (nI i) 18 (by decide)).trans (show bm_AI (bm_setI B499 15 p ((tc p) + 1)) 18 = tg from A506))
                    have Z515 : fz lex B499 (bm_setI (bm_setI B499 15 p ((tc p) + 1)) 16 p (nI i)) := fz_trans Z507 ⟨fr_mono (fun _ q => by unfold lex; omega) (fr_setI _ 16 _ _), rfl, rfl⟩
                    refine g_ald (pc' := 178) cd_Le_noteTaken rfl (Or.inr ⟨_, rfl, rfl, rfl⟩) l0 rfl rfl ?_
                    refine g_fR (c := 4) (k := 5) (x := 17) (pc' := 181) cd_Le_noteTaken rfl rfl rfl rfl rfl (by decide) hR499.1.1.1 hR499.1.1.2 hR499.1.2.1.2.2.2.2.2.1 ?_
                    refine g_ild (pc' := 182) cd_Le_noteTaken rfl (Or.inr ⟨_, rfl, rfl, rfl⟩) l2 rfl ?_
                    refine g_ald (pc' := 183) cd_Le_noteTaken rfl (Or.inr ⟨_, rfl, rfl, rfl⟩) l0 rfl rfl ?_
                    refine g_fI (c := 4) (k := 7) (x := cf) (pc' := 186) cd_Le_noteTaken rfl rfl rfl rfl rfl (by decide) hR499.1.1.1 hR499.1.1.2 hR499.2.1.2.2.1.1 ?_
                    refine g_iast (pc' := 187) cd_Le_noteTaken rfl rfl hR499.1.2.2.2.2.2.2.2.1.1 hR499.1.2.2.2.2.2.2.2.1.2.1 (by rw [show bm_AL (bm_setI (bm_setI B499 15 p ((tc p) + 1)) 16 p (nI i)) 17 = 6 from hR499.1.2.2.2.2.2.2.2.1.2.2]; exact vp_in_nI (by omega) (by decide)) ?_
                    rw [show (nI p : Int32).toNatClampNeg = p from nI_clamp (by omega)]
                    have A516 : bm_AI (bm_setI (bm_setI (bm_setI B499 15 p ((tc p) + 1)) 16 p (nI i)) 17 p cf) 12 = (bm_AI B499 12) := ((AI_setn (bm_setI (bm_setI B499 15 p ((tc p) + 1)) 16 p (nI i)) p cf 12 (by decide)).trans (show bm_AI (bm_setI (bm_setI B499 15 p ((tc p) + 1)) 16 p (nI i)) 12 = (bm_AI B499 12) from A508))
                    have A517 : bm_AI (bm_setI (bm_setI (bm_setI B499 15 p ((tc p) + 1)) 16 p (nI i)) 17 p cf) 13 = bd := ((AI_setn (bm_setI (bm_setI B499 15 p ((tc p) + 1)) 16 p (nI i)) p cf 13 (by decide)).trans (show bm_AI (bm_setI (bm_setI B499 15 p ((tc p) + 1)) 16 p (nI i)) 13 = bd from A509))
                    have A518 : bm_AI (bm_setI (bm_setI (bm_setI B499 15 p ((tc p) + 1)) 16 p (nI i)) 17 p cf) 14 = ll := ((AI_setn (bm_setI (bm_setI B499 15 p ((tc p) + 1)) 16 p (nI i)) p cf 14 (by decide)).trans (show bm_AI (bm_setI (bm_setI B499 15 p ((tc p) + 1)) 16 p (nI i)) 14 = ll from A510))
                    have A519 : bm_AI (bm_setI (bm_setI (bm_setI B499 15 p ((tc p) + 1)) 16 p (nI i)) 17 p cf) 15 = (upd tc p ((tc p) + 1)) := ((AI_setn (bm_setI (bm_setI B499 15 p ((tc p) + 1)) 16 p (nI i)) p cf 15 (by decide)).trans (show bm_AI (bm_setI (bm_setI B499 15 p ((tc p) + 1)) 16 p (nI i)) 15 = (upd tc p ((tc p) + 1)) from A511))
                    have A520 : bm_AI (bm_setI (bm_setI (bm_setI B499 15 p ((tc p) + 1)) 16 p (nI i)) 17 p cf) 16 = (upd tl p (nI i)) := ((AI_setn (bm_setI (bm_setI B499 15 p ((tc p) + 1)) 16 p (nI i)) p cf 16 (by decide)).trans (show bm_AI (bm_setI (bm_setI B499 15 p ((tc p) + 1)) 16 p (nI i)) 16 = (upd tl p (nI i)) from A512))
                    have A521 : bm_AI (bm_setI (bm_setI (bm_setI B499 15 p ((tc p) + 1)) 16 p (nI i)) 17 p cf) 17 = (upd tf p cf) := ((AI_set (bm_setI (bm_setI B499 15 p ((tc p) + 1)) 16 p (nI i)) 17 p cf).trans (congrArg (fun f => upd f p cf) (show bm_AI (bm_setI (bm_setI B499 15 p ((tc p) + 1)) 16 p (nI i)) 17 = tf from A513)))
                    have A522 : bm_AI (bm_setI (bm_setI (bm_setI B499 15 p ((tc p) + 1)) 16 p (nI i)) 17 p cf) 18 = tg := ((AI_setn (bm_setI (bm_setI B499 15 p ((tc p) + 1)) 16 p (nI i)) p cf 18 (by decide)).trans (show bm_AI (bm_setI (bm_setI B499 15 p ((tc p) + 1)) 16 p (nI i)) 18 = tg from A514))
                    have Z523 : fz lex B499 (bm_setI (bm_setI (bm_setI B499 15 p ((tc p) + 1)) 16 p (nI i)) 17 p cf) := fz_trans Z515 ⟨fr_mono (fun _ q => by unfold lex; omega) (fr_setI _ 17 _ _), rfl, rfl⟩
                    refine g_ald (pc' := 188) cd_Le_noteTaken rfl (Or.inr ⟨_, rfl, rfl, rfl⟩) l0 rfl rfl ?_
                    refine g_fR (c := 4) (k := 6) (x := 18) (pc' := 191) cd_Le_noteTaken rfl rfl rfl rfl rfl (by decide) hR499.1.1.1 hR499.1.1.2 hR499.1.2.1.2.2.2.2.2.2 ?_
                    refine g_ild (pc' := 192) cd_Le_noteTaken rfl (Or.inr ⟨_, rfl, rfl, rfl⟩) l2 rfl ?_
                    refine g_ald (pc' := 193) cd_Le_noteTaken rfl (Or.inr ⟨_, rfl, rfl, rfl⟩) l0 rfl rfl ?_
                    refine g_fI (c := 4) (k := 8) (x := cg) (pc' := 196) cd_Le_noteTaken rfl rfl rfl rfl rfl (by decide) hR499.1.1.1 hR499.1.1.2 hR499.2.1.2.2.1.2.1 ?_
                    refine g_iast (pc' := 197) cd_Le_noteTaken rfl rfl hR499.1.2.2.2.2.2.2.2.2.1 hR499.1.2.2.2.2.2.2.2.2.2.1 (by rw [show bm_AL (bm_setI (bm_setI (bm_setI B499 15 p ((tc p) + 1)) 16 p (nI i)) 17 p cf) 18 = 6 from hR499.1.2.2.2.2.2.2.2.2.2.2]; exact vp_in_nI (by omega) (by decide)) ?_
                    rw [show (nI p : Int32).toNatClampNeg = p from nI_clamp (by omega)]
                    have A524 : bm_AI (bm_setI (bm_setI (bm_setI (bm_setI B499 15 p ((tc p) + 1)) 16 p (nI i)) 17 p cf) 18 p cg) 12 = (bm_AI B499 12) := ((AI_setn (bm_setI (bm_setI (bm_setI B499 15 p ((tc p) + 1)) 16 p (nI i)) 17 p cf) p cg 12 (by decide)).trans (show bm_AI (bm_setI (bm_setI (bm_setI B499 15 p ((tc p) + 1)) 16 p (nI i)) 17 p cf) 12 = (bm_AI B499 12) from A516))
                    have A525 : bm_AI (bm_setI (bm_setI (bm_setI (bm_setI B499 15 p ((tc p) + 1)) 16 p (nI i)) 17 p cf) 18 p cg) 13 = bd := ((AI_setn (bm_setI (bm_setI (bm_setI B499 15 p ((tc p) + 1)) 16 p (nI i)) 17 p cf) p cg 13 (by decide)).trans (show bm_AI (bm_setI (bm_setI (bm_setI B499 15 p ((tc p) + 1)) 16 p (nI i)) 17 p cf) 13 = bd from A517))
                    have A526 : bm_AI (bm_setI (bm_setI (bm_setI (bm_setI B499 15 p ((tc p) + 1)) 16 p (nI i)) 17 p cf) 18 p cg) 14 = ll := ((AI_setn (bm_setI (bm_setI (bm_setI B499 15 p ((tc p) + 1)) 16 p (nI i)) 17 p cf) p cg 14 (by decide)).trans (show bm_AI (bm_setI (bm_setI (bm_setI B499 15 p ((tc p) + 1)) 16 p (nI i)) 17 p cf) 14 = ll from A518))
                    have A527 : bm_AI (bm_setI (bm_setI (bm_setI (bm_setI B499 15 p ((tc p) + 1)) 16 p (nI i)) 17 p cf) 18 p cg) 15 = (upd tc p ((tc p) + 1)) := ((AI_setn (bm_setI (bm_setI (bm_setI B499 15 p ((tc p) + 1)) 16 p (nI i)) 17 p cf) p cg 15 (by decide)).trans (show bm_AI (bm_setI (bm_setI (bm_setI B499 15 p ((tc p) + 1)) 16 p (nI i)) 17 p cf) 15 = (upd tc p ((tc p) + 1)) from A519))
                    have A528 : bm_AI (bm_setI (bm_setI (bm_setI (bm_setI B499 15 p ((tc p) + 1)) 16 p (nI i)) 17 p cf) 18 p cg) 16 = (upd tl p (nI i)) := ((AI_setn (bm_setI (bm_setI (bm_setI B499 15 p ((tc p) + 1)) 16 p (nI i)) 17 p cf) p cg 16 (by decide)).trans (show bm_AI (bm_setI (bm_setI (bm_setI B499 15 p ((tc p) + 1)) 16 p (nI i)) 17 p cf) 16 = (upd tl p (nI i)) from A520))
                    have A529 : bm_AI (bm_setI (bm_setI (bm_setI (bm_setI B499 15 p ((tc p) + 1)) 16 p (nI i)) 17 p cf) 18 p cg) 17 = (upd tf p cf) := ((AI_setn (bm_setI (bm_setI (bm_setI B499 15 p ((tc p) + 1)) 16 p (nI i)) 17 p cf) p cg 17 (by decide)).trans (show bm_AI (bm_setI (bm_setI (bm_setI B499 15 p ((tc p) + 1)) 16 p (nI i)) 17 p cf) 17 = (upd tf p cf) from A521))
                    have A530 : bm_AI (bm_setI (bm_setI (bm_setI (bm_setI B499 15 p ((tc p) + 1)) 16 p (nI i)) 17 p cf) 18 p cg) 18 = (upd tg p cg) := ((AI_set (bm_setI (bm_setI (bm_setI B499 15 p ((tc p) + 1)) 16 p (nI i)) 17 p cf) 18 p cg).trans (congrArg (fun f => upd f p cg) (show bm_AI (bm_setI (bm_setI (bm_setI B499 15 p ((tc p) + 1)) 16 p (nI i)) 17 p cf) 18 = tg from A522)))
                    have Z531 : fz lex B499 (bm_setI (bm_setI (bm_setI (bm_setI B499 15 p ((tc p) + 1)) 16 p (nI i)) 17 p cf) 18 p cg) := fz_trans Z523 ⟨fr_mono (fun _ q => by unfold lex; omega) (fr_setI _ 18 _ _), rfl, rfl⟩
                    have hRz : RLe (bm_setI (bm_setI (bm_setI (bm_setI B499 15 p ((tc p) + 1)) 16 p (nI i)) 17 p cf) 18 p cg) T (((L.set i (se, fm, to, gr, ma, on, mi, th, (tk ||| (1 <<< (nI p &&& 31))), sf)).set i (se, fm, to, gr, ma, on, mi, th, (tk ||| (1 <<< (nI p &&& 31))), (sf ||| (1 <<< (nI p &&& 31))))), bd, ll, upd tc p (tc p + 1), upd tl p (nI i), upd tf p cf, upd tg p cg, cf, cg, ct, co, li, fo, db + 1) := ⟨LgS_fr hR499.1 Z531.1, ⟨hR499.2.1.1, ⟨A525, A526, A527, A528, A529, A530⟩, hR499.2.1.2.2⟩, (by rw [show bm_AI (bm_setI (bm_setI (bm_setI (bm_setI B499 15 p ((tc p) + 1)) 16 p (nI i)) 17 p cf) 18 p cg) 12 = _ from A524]; exact hR499.2.2)⟩
                    have hEq : lg_taken (L, bd, ll, tc, tl, tf, tg, cf, cg, ct, co, li, fo, db) p = (((L.set i (se, fm, to, gr, ma, on, mi, th, (tk ||| (1 <<< (nI p &&& 31))), sf)).set i (se, fm, to, gr, ma, on, mi, th, (tk ||| (1 <<< (nI p &&& 31))), (sf ||| (1 <<< (nI p &&& 31))))), bd, ll, upd tc p (tc p + 1), upd tl p (nI i), upd tf p cf, upd tg p cg, cf, cg, ct, co, li, fo, db + 1) := by unfold lg_taken; dsimp only; rw [hl, lg_get_t he h7]; dsimp only; rw [nI_clamp (show i < 2 ^ 31 by omega)]; simp only [lt_take, ← hso, n26, n40, n45, n77, n118, n125, n139]; simp
                    exact g_retv cd_Le_noteTaken rfl ⟨rfl, (kk _ (hEq ▸ hRz) (fz_trans hz499 Z531))⟩
      · have c45 : so = false := bz_f (Classical.not_not.mp c45)
        have n45 := c45
        refine g_ald (pc' := 49) cd_Le_noteTaken rfl (Or.inr ⟨_, rfl, rfl, rfl⟩) l0 rfl rfl ?_
        refine g_pure (pc' := 50) (st' := [.ref 11, .ref 11]) cd_Le_noteTaken rfl rfl (fun _ _ => rfl) ?_
        refine g_fI (c := 4) (k := 13) (x := fo) (pc' := 53) cd_Le_noteTaken rfl rfl rfl rfl rfl (by decide) hR.1.1.1 hR.1.1.2 hR.2.1.2.2.2.2.1 ?_
        refine g_k1 (v := 1) (pc' := 54) cd_Le_noteTaken rfl (by decide) rfl ?_
        refine g_pure (pc' := 55) (st' := [.int (fo + 1), .ref 11]) cd_Le_noteTaken rfl rfl (fun _ _ => rfl) ?_
        refine g_putI (c := 4) (k := 13) (pc' := 58) cd_Le_noteTaken rfl rfl rfl rfl (by simp [tm_okV, narrow, fits]) (Or.inl rfl) rfl (by decide) hR.1.1.1 hR.1.1.2 ?_
        have P532 : bm_FI (bm_putI B 4 13 11 (fo + 1)) 4 13 11 = fo + 1 := rfl
        have Z533 : fz lex B (bm_putI B 4 13 11 (fo + 1)) := fz_trans (fz_rfl _ B) ⟨fr_mono (fun _ q => by unfold lex; omega) (fr_putI _ 4 13 11 _), rfl, rfl⟩
        have hR534 : RLe (bm_putI B 4 13 11 (fo + 1)) T (L, bd, ll, tc, tl, tf, tg, cf, cg, ct, co, li, fo + 1, db) := ⟨hR.1, ⟨hR.2.1.1, hR.2.1.2.1, hR.2.1.2.2.1, hR.2.1.2.2.2.1, P532, hR.2.1.2.2.2.2.2⟩, hR.2.2⟩
        have hz534 : fz lex B (bm_putI B 4 13 11 (fo + 1)) := Z533
        generalize (bm_putI B 4 13 11 (fo + 1)) = B534 at hR534 hz534 ⊢
        refine g_ald (pc' := 59) cd_Le_noteTaken rfl (Or.inr ⟨_, rfl, rfl, rfl⟩) l0 rfl rfl ?_
        refine g_ild (pc' := 60) cd_Le_noteTaken rfl (Or.inr ⟨_, rfl, rfl, rfl⟩) l3 rfl ?_
        refine g_calli (pc' := 63) cd_Le_noteTaken rfl rfl rfl rfl rfl (tm_invV rfl rfl cd_Le_has rfl (Nat.le_of_ble_eq_true rfl) (by decide) hR534.1.1.1 hR534.1.1.2) (t_Lhas hR534 ?_)
        rw [inR_nI hi (by omega)]
        show bm_G _ _ _ _ _ (.int 1 :: _) _ _
        show bm_G _ _ _ 63 _ [.int 1] B534 _
        refine g_if1 (t := 90) (pc' := 66) cd_Le_noteTaken rfl rfl rfl (fun c63 => ?_) (fun c63 => ?_)
        · exact absurd (show (1 : Int32) = 0 from c63) (by decide)
        · have c63 : ¬ (1 : Int32) = 0 := c63
          refine g_ald (pc' := 67) cd_Le_noteTaken rfl (Or.inr ⟨_, rfl, rfl, rfl⟩) l0 rfl rfl ?_
          refine g_ild (pc' := 68) cd_Le_noteTaken rfl (Or.inr ⟨_, rfl, rfl, rfl⟩) l3 rfl ?_
          refine g_k2 (v := 8) (pc' := 70) cd_Le_noteTaken rfl (by decide) rfl ?_
          refine g_calli (pc' := 73) cd_Le_noteTaken rfl rfl rfl rfl rfl (tm_invV rfl rfl cd_Le_of rfl (Nat.le_of_ble_eq_true rfl) (by decide) hR534.1.1.1 hR534.1.1.2) (t_Lof (k := 8) hR534 hi (by decide) ?_)
          rw [show bm_AI B534 12 (i * 10 + 8) = tk from (hR534.2.2.1 i _ he).2.2.2.2.2.2.2.2.1]
          show bm_G _ _ _ 73 _ [.int tk] B534 _
          refine g_ild (pc' := 74) cd_Le_noteTaken rfl (Or.inr ⟨_, rfl, rfl, rfl⟩) l2 rfl ?_
          refine g_calli (pc' := 77) cd_Le_noteTaken rfl rfl rfl rfl rfl (tm_invS rfl rfl cd_Ho_hasBit rfl (Nat.le_of_ble_eq_true rfl)) (t_hasBit ?_)
          show bm_G _ _ _ 77 _ [.int (bz (hbit tk (nI p)))] B534 _
          refine g_if1 (t := 90) (pc' := 80) cd_Le_noteTaken rfl rfl rfl (fun c77 => ?_) (fun c77 => ?_)
          · have c77 : (hbit tk (nI p)) = false := bz_f c77
            have n77 := c77
            refine g_ald (pc' := 91) cd_Le_noteTaken rfl (Or.inr ⟨_, rfl, rfl, rfl⟩) l0 rfl rfl ?_
            refine g_ild (pc' := 92) cd_Le_noteTaken rfl (Or.inr ⟨_, rfl, rfl, rfl⟩) l3 rfl ?_
            refine g_calli (pc' := 95) cd_Le_noteTaken rfl rfl rfl rfl rfl (tm_invV rfl rfl cd_Le_has rfl (Nat.le_of_ble_eq_true rfl) (by decide) hR534.1.1.1 hR534.1.1.2) (t_Lhas hR534 ?_)
            rw [inR_nI hi (by omega)]
            show bm_G _ _ _ _ _ (.int 1 :: _) _ _
            show bm_G _ _ _ 95 _ [.int 1] B534 _
            refine g_if1 (t := 116) (pc' := 98) cd_Le_noteTaken rfl rfl rfl (fun c95 => ?_) (fun c95 => ?_)
            · exact absurd (show (1 : Int32) = 0 from c95) (by decide)
            · have c95 : ¬ (1 : Int32) = 0 := c95
              refine g_ald (pc' := 99) cd_Le_noteTaken rfl (Or.inr ⟨_, rfl, rfl, rfl⟩) l0 rfl rfl ?_
              refine g_fR (c := 4) (k := 0) (x := 12) (pc' := 102) cd_Le_noteTaken rfl rfl rfl rfl rfl (by decide) hR534.1.1.1 hR534.1.1.2 hR534.1.2.1.1 ?_
              refine g_ild (pc' := 103) cd_Le_noteTaken rfl (Or.inr ⟨_, rfl, rfl, rfl⟩) l3 rfl ?_
              refine g_k2 (v := 10) (pc' := 105) cd_Le_noteTaken rfl (by decide) rfl ?_
              refine g_pure (pc' := 106) (st' := [.int ((nI i) * 10), .ref 12]) cd_Le_noteTaken rfl rfl (fun _ _ => rfl) ?_
              rw [show ((nI i) * 10 : Int32) = nI (i * 10) from pk_mul i 10]
              refine g_k2 (v := 8) (pc' := 108) cd_Le_noteTaken rfl (by decide) rfl ?_
              refine g_pure (pc' := 109) (st' := [.int ((nI (i * 10)) + 8), .ref 12]) cd_Le_noteTaken rfl rfl (fun _ _ => rfl) ?_
              rw [show ((nI (i * 10)) + 8 : Int32) = nI ((i * 10) + 8) from nI_add (i * 10) 8]
              refine g_pure (pc' := 110) (st' := [.int (nI ((i * 10) + 8)), .ref 12, .int (nI ((i * 10) + 8)), .ref 12]) cd_Le_noteTaken rfl rfl (fun _ _ => rfl) ?_
              refine g_aI (x := tk) (pc' := 111) cd_Le_noteTaken rfl rfl hR534.1.2.2.1.1 hR534.1.2.2.1.2.1 (by rw [show bm_AL B534 12 = 7000 from hR534.1.2.2.1.2.2]; exact vp_in_nI (by omega) (by decide)) (by rw [nI_clamp (by omega)]; exact (hR534.2.2.1 i _ he).2.2.2.2.2.2.2.2.1) ?_
              refine g_k1 (v := 1) (pc' := 112) cd_Le_noteTaken rfl (by decide) rfl ?_
              refine g_ild (pc' := 113) cd_Le_noteTaken rfl (Or.inr ⟨_, rfl, rfl, rfl⟩) l2 rfl ?_
              refine g_pure (pc' := 114) (st' := [.int (1 <<< ((nI p) &&& 31)), .int tk, .int (nI ((i * 10) + 8)), .ref 12]) cd_Le_noteTaken rfl rfl (fun _ _ => rfl) ?_
              refine g_pure (pc' := 115) (st' := [.int (tk ||| (1 <<< ((nI p) &&& 31))), .int (nI ((i * 10) + 8)), .ref 12]) cd_Le_noteTaken rfl rfl (fun _ _ => rfl) ?_
              refine g_iast (pc' := 116) cd_Le_noteTaken rfl rfl hR534.1.2.2.1.1 hR534.1.2.2.1.2.1 (by rw [show bm_AL B534 12 = 7000 from hR534.1.2.2.1.2.2]; exact vp_in_nI (by omega) (by decide)) ?_
              rw [show (nI ((i * 10) + 8) : Int32).toNatClampNeg = ((i * 10) + 8) from nI_clamp (by omega)]
              have A535 : bm_AI (bm_setI B534 12 ((i * 10) + 8) (tk ||| (1 <<< ((nI p) &&& 31)))) 12 = (upd (bm_AI B534 12) ((i * 10) + 8) (tk ||| (1 <<< ((nI p) &&& 31)))) := ((AI_set B534 12 ((i * 10) + 8) (tk ||| (1 <<< ((nI p) &&& 31)))).trans (congrArg (fun f => upd f ((i * 10) + 8) (tk ||| (1 <<< ((nI p) &&& 31)))) (show bm_AI B534 12 = (bm_AI B534 12) from rfl)))
              have A536 : bm_AI (bm_setI B534 12 ((i * 10) + 8) (tk ||| (1 <<< ((nI p) &&& 31)))) 13 = bd := ((AI_setn B534 ((i * 10) + 8) (tk ||| (1 <<< ((nI p) &&& 31))) 13 (by decide)).trans (show bm_AI B534 13 = bd from hR534.2.1.2.1.1))
              have A537 : bm_AI (bm_setI B534 12 ((i * 10) + 8) (tk ||| (1 <<< ((nI p) &&& 31)))) 14 = ll := ((AI_setn B534 ((i * 10) + 8) (tk ||| (1 <<< ((nI p) &&& 31))) 14 (by decide)).trans (show bm_AI B534 14 = ll from hR534.2.1.2.1.2.1))
              have A538 : bm_AI (bm_setI B534 12 ((i * 10) + 8) (tk ||| (1 <<< ((nI p) &&& 31)))) 15 = tc := ((AI_setn B534 ((i * 10) + 8) (tk ||| (1 <<< ((nI p) &&& 31))) 15 (by decide)).trans (show bm_AI B534 15 = tc from hR534.2.1.2.1.2.2.1))
              have A539 : bm_AI (bm_setI B534 12 ((i * 10) + 8) (tk ||| (1 <<< ((nI p) &&& 31)))) 16 = tl := ((AI_setn B534 ((i * 10) + 8) (tk ||| (1 <<< ((nI p) &&& 31))) 16 (by decide)).trans (show bm_AI B534 16 = tl from hR534.2.1.2.1.2.2.2.1))
              have A540 : bm_AI (bm_setI B534 12 ((i * 10) + 8) (tk ||| (1 <<< ((nI p) &&& 31)))) 17 = tf := ((AI_setn B534 ((i * 10) + 8) (tk ||| (1 <<< ((nI p) &&& 31))) 17 (by decide)).trans (show bm_AI B534 17 = tf from hR534.2.1.2.1.2.2.2.2.1))
              have A541 : bm_AI (bm_setI B534 12 ((i * 10) + 8) (tk ||| (1 <<< ((nI p) &&& 31)))) 18 = tg := ((AI_setn B534 ((i * 10) + 8) (tk ||| (1 <<< ((nI p) &&& 31))) 18 (by decide)).trans (show bm_AI B534 18 = tg from hR534.2.1.2.1.2.2.2.2.2))
              have Z542 : fz lex B534 (bm_setI B534 12 ((i * 10) + 8) (tk ||| (1 <<< ((nI p) &&& 31)))) := fz_trans (fz_rfl _ B534) ⟨fr_mono (fun _ q => by unfold lex; omega) (fr_setI _ 12 _ _), rfl, rfl⟩
              have hR544 : RLe (bm_setI B534 12 ((i * 10) + 8) (tk ||| (1 <<< ((nI p) &&& 31)))) T ((L.set i (se, fm, to, gr, ma, on, mi, th, (tk ||| (1 <<< (nI p &&& 31))), sf)), bd, ll, tc, tl, tf, tg, cf, cg, ct, co, li, fo + 1, db) := ⟨LgS_fr hR534.1 Z542.1, ⟨⟨(hR534.2.1.1.1).trans (by simp), (by have := hR534.2.1.1.2; simpa using this)⟩, ⟨A536, A537, A538, A539, A540, A541⟩, hR534.2.1.2.2⟩, (RLc_set (i := i) hR534.2.2 he (fun j h8 h9 => by rw [show bm_AI (bm_setI B534 12 ((i * 10) + 8) (tk ||| (1 <<< ((nI p) &&& 31)))) 12 = _ from A535]; exact pk_un (by omega)) (by rw [show bm_AI (bm_setI B534 12 ((i * 10) + 8) (tk ||| (1 <<< ((nI p) &&& 31)))) 12 = _ from A535]; exact if_pos rfl) (by rw [show bm_AI (bm_setI B534 12 ((i * 10) + 8) (tk ||| (1 <<< ((nI p) &&& 31)))) 12 = _ from A535]; exact (pk_un (by omega)).trans ((hR534.2.2.1 i _ he).2.2.2.2.2.2.2.2.2)))⟩
              have hz544 : fz lex B (bm_setI B534 12 ((i * 10) + 8) (tk ||| (1 <<< ((nI p) &&& 31)))) := fz_trans hz534 Z542
              generalize (bm_setI B534 12 ((i * 10) + 8) (tk ||| (1 <<< ((nI p) &&& 31)))) = B544 at hR544 hz544 ⊢
              have he543 : (L.set i (se, fm, to, gr, ma, on, mi, th, (tk ||| (1 <<< (nI p &&& 31))), sf))[i]? = some (se, fm, to, gr, ma, on, mi, th, (tk ||| (1 <<< (nI p &&& 31))), sf) := List.getElem?_set_self hi
              have hi543 : i < (L.set i (se, fm, to, gr, ma, on, mi, th, (tk ||| (1 <<< (nI p &&& 31))), sf)).length := by have := hi; simpa using this
              refine g_ild (pc' := 118) cd_Le_noteTaken rfl (Or.inl ⟨rfl, rfl⟩) l4 rfl ?_
              refine g_if1 (t := 160) (pc' := 121) cd_Le_noteTaken rfl rfl rfl (fun c118 => ?_) (fun c118 => ?_)
              · have c118 : so = false := bz_f c118
                have n118 := c118
                refine g_ald (pc' := 161) cd_Le_noteTaken rfl (Or.inr ⟨_, rfl, rfl, rfl⟩) l0 rfl rfl ?_
                refine g_fR (c := 4) (k := 3) (x := 15) (pc' := 164) cd_Le_noteTaken rfl rfl rfl rfl rfl (by decide) hR544.1.1.1 hR544.1.1.2 hR544.1.2.1.2.2.2.1 ?_
                refine g_ild (pc' := 165) cd_Le_noteTaken rfl (Or.inr ⟨_, rfl, rfl, rfl⟩) l2 rfl ?_
                refine g_pure (pc' := 166) (st' := [.int (nI p), .ref 15, .int (nI p), .ref 15]) cd_Le_noteTaken rfl rfl (fun _ _ => rfl) ?_
                refine g_aI (x := (tc p)) (pc' := 167) cd_Le_noteTaken rfl rfl hR544.1.2.2.2.2.2.1.1 hR544.1.2.2.2.2.2.1.2.1 (by rw [show bm_AL B544 15 = 6 from hR544.1.2.2.2.2.2.1.2.2]; exact vp_in_nI (by omega) (by decide)) (by rw [nI_clamp (by omega)]; exact congrFun (show bm_AI B544 15 = tc from hR544.2.1.2.1.2.2.1) p) ?_
                refine g_k1 (v := 1) (pc' := 168) cd_Le_noteTaken rfl (by decide) rfl ?_
                refine g_pure (pc' := 169) (st' := [.int ((tc p) + 1), .int (nI p), .ref 15]) cd_Le_noteTaken rfl rfl (fun _ _ => rfl) ?_
                refine g_iast (pc' := 170) cd_Le_noteTaken rfl rfl hR544.1.2.2.2.2.2.1.1 hR544.1.2.2.2.2.2.1.2.1 (by rw [show bm_AL B544 15 = 6 from hR544.1.2.2.2.2.2.1.2.2]; exact vp_in_nI (by omega) (by decide)) ?_
                rw [show (nI p : Int32).toNatClampNeg = p from nI_clamp (by omega)]
                have A545 : bm_AI (bm_setI B544 15 p ((tc p) + 1)) 12 = (bm_AI B544 12) := ((AI_setn B544 p ((tc p) + 1) 12 (by decide)).trans (show bm_AI B544 12 = (bm_AI B544 12) from rfl))
                have A546 : bm_AI (bm_setI B544 15 p ((tc p) + 1)) 13 = bd := ((AI_setn B544 p ((tc p) + 1) 13 (by decide)).trans (show bm_AI B544 13 = bd from hR544.2.1.2.1.1))
                have A547 : bm_AI (bm_setI B544 15 p ((tc p) + 1)) 14 = ll := ((AI_setn B544 p ((tc p) + 1) 14 (by decide)).trans (show bm_AI B544 14 = ll from hR544.2.1.2.1.2.1))
                have A548 : bm_AI (bm_setI B544 15 p ((tc p) + 1)) 15 = (upd tc p ((tc p) + 1)) := ((AI_set B544 15 p ((tc p) + 1)).trans (congrArg (fun f => upd f p ((tc p) + 1)) (show bm_AI B544 15 = tc from hR544.2.1.2.1.2.2.1)))
                have A549 : bm_AI (bm_setI B544 15 p ((tc p) + 1)) 16 = tl := ((AI_setn B544 p ((tc p) + 1) 16 (by decide)).trans (show bm_AI B544 16 = tl from hR544.2.1.2.1.2.2.2.1))
                have A550 : bm_AI (bm_setI B544 15 p ((tc p) + 1)) 17 = tf := ((AI_setn B544 p ((tc p) + 1) 17 (by decide)).trans (show bm_AI B544 17 = tf from hR544.2.1.2.1.2.2.2.2.1))
                have A551 : bm_AI (bm_setI B544 15 p ((tc p) + 1)) 18 = tg := ((AI_setn B544 p ((tc p) + 1) 18 (by decide)).trans (show bm_AI B544 18 = tg from hR544.2.1.2.1.2.2.2.2.2))
                have Z552 : fz lex B544 (bm_setI B544 15 p ((tc p) + 1)) := fz_trans (fz_rfl _ B544) ⟨fr_mono (fun _ q => by unfold lex; omega) (fr_setI _ 15 _ _), rfl, rfl⟩
                refine g_ald (pc' := 171) cd_Le_noteTaken rfl (Or.inr ⟨_, rfl, rfl, rfl⟩) l0 rfl rfl ?_
                refine g_fR (c := 4) (k := 4) (x := 16) (pc' := 174) cd_Le_noteTaken rfl rfl rfl rfl rfl (by decide) hR544.1.1.1 hR544.1.1.2 hR544.1.2.1.2.2.2.2.1 ?_
                refine g_ild (pc' := 175) cd_Le_noteTaken rfl (Or.inr ⟨_, rfl, rfl, rfl⟩) l2 rfl ?_
                refine g_ild (pc' := 176) cd_Le_noteTaken rfl (Or.inr ⟨_, rfl, rfl, rfl⟩) l3 rfl ?_
                refine g_iast (pc' := 177) cd_Le_noteTaken rfl rfl hR544.1.2.2.2.2.2.2.1.1 hR544.1.2.2.2.2.2.2.1.2.1 (by rw [show bm_AL (bm_setI B544 15 p ((tc p) + 1)) 16 = 6 from hR544.1.2.2.2.2.2.2.1.2.2]; exact vp_in_nI (by omega) (by decide)) ?_
                rw [show (nI p : Int32).toNatClampNeg = p from nI_clamp (by omega)]
                have A553 : bm_AI (bm_setI (bm_setI B544 15 p ((tc p) + 1)) 16 p (nI i)) 12 = (bm_AI B544 12) := ((AI_setn (bm_setI B544 15 p ((tc p) + 1)) p (nI i) 12 (by decide)).trans (show bm_AI (bm_setI B544 15 p ((tc p) + 1)) 12 = (bm_AI B544 12) from A545))
                have A554 : bm_AI (bm_setI (bm_setI B544 15 p ((tc p) + 1)) 16 p (nI i)) 13 = bd := ((AI_setn (bm_setI B544 15 p ((tc p) + 1)) p (nI i) 13 (by decide)).trans (show bm_AI (bm_setI B544 15 p ((tc p) + 1)) 13 = bd from A546))
                have A555 : bm_AI (bm_setI (bm_setI B544 15 p ((tc p) + 1)) 16 p (nI i)) 14 = ll := ((AI_setn (bm_setI B544 15 p ((tc p) + 1)) p (nI i) 14 (by decide)).trans (show bm_AI (bm_setI B544 15 p ((tc p) + 1)) 14 = ll from A547))
                have A556 : bm_AI (bm_setI (bm_setI B544 15 p ((tc p) + 1)) 16 p (nI i)) 15 = (upd tc p ((tc p) + 1)) := ((AI_setn (bm_setI B544 15 p ((tc p) + 1)) p (nI i) 15 (by decide)).trans (show bm_AI (bm_setI B544 15 p ((tc p) + 1)) 15 = (upd tc p ((tc p) + 1)) from A548))
                have A557 : bm_AI (bm_setI (bm_setI B544 15 p ((tc p) + 1)) 16 p (nI i)) 16 = (upd tl p (nI i)) := ((AI_set (bm_setI B544 15 p ((tc p) + 1)) 16 p (nI i)).trans (congrArg (fun f => upd f p (nI i)) (show bm_AI (bm_setI B544 15 p ((tc p) + 1)) 16 = tl from A549)))
                have A558 : bm_AI (bm_setI (bm_setI B544 15 p ((tc p) + 1)) 16 p (nI i)) 17 = tf := ((AI_setn (bm_setI B544 15 p ((tc p) + 1)) p (nI i) 17 (by decide)).trans (show bm_AI (bm_setI B544 15 p ((tc p) + 1)) 17 = tf from A550))
                have A559 : bm_AI (bm_setI (bm_setI B544 15 p ((tc p) + 1)) 16 p (nI i)) 18 = tg := ((AI_setn (bm_setI B544 15 p ((tc p) + 1)) p (nI i) 18 (by decide)).trans (show bm_AI (bm_setI B544 15 p ((tc p) + 1)) 18 = tg from A551))
                have Z560 : fz lex B544 (bm_setI (bm_setI B544 15 p ((tc p) + 1)) 16 p (nI i)) := fz_trans Z552 ⟨fr_mono (fun _ q => by unfold lex; omega) (fr_setI _ 16 _ _), rfl, rfl⟩
                refine g_ald (pc' := 178) cd_Le_noteTaken rfl (Or.inr ⟨_, rfl, rfl, rfl⟩) l0 rfl rfl ?_
                refine g_fR (c := 4) (k := 5) (x := 17) (pc' := 181) cd_Le_noteTaken rfl rfl rfl rfl rfl (by decide) hR544.1.1.1 hR544.1.1.2 hR544.1.2.1.2.2.2.2.2.1 ?_
                refine g_ild (pc' := 182) cd_Le_noteTaken rfl (Or.inr ⟨_, rfl, rfl, rfl⟩) l2 rfl ?_
                refine g_ald (pc' := 183) cd_Le_noteTaken rfl (Or.inr ⟨_, rfl, rfl, rfl⟩) l0 rfl rfl ?_
                refine g_fI (c := 4) (k := 7) (x := cf) (pc' := 186) cd_Le_noteTaken rfl rfl rfl rfl rfl (by decide) hR544.1.1.1 hR544.1.1.2 hR544.2.1.2.2.1.1 ?_
                refine g_iast (pc' := 187) cd_Le_noteTaken rfl rfl hR544.1.2.2.2.2.2.2.2.1.1 hR544.1.2.2.2.2.2.2.2.1.2.1 (by rw [show bm_AL (bm_setI (bm_setI B544 15 p ((tc p) + 1)) 16 p (nI i)) 17 = 6 from hR544.1.2.2.2.2.2.2.2.1.2.2]; exact vp_in_nI (by omega) (by decide)) ?_
                rw [show (nI p : Int32).toNatClampNeg = p from nI_clamp (by omega)]
                have A561 : bm_AI (bm_setI (bm_setI (bm_setI B544 15 p ((tc p) + 1)) 16 p (nI i)) 17 p cf) 12 = (bm_AI B544 12) := ((AI_setn (bm_setI (bm_setI B544 15 p ((tc p) + 1)) 16 p (nI i)) p cf 12 (by decide)).trans (show bm_AI (bm_setI (bm_setI B544 15 p ((tc p) + 1)) 16 p (nI i)) 12 = (bm_AI B544 12) from A553))
                have A562 : bm_AI (bm_setI (bm_setI (bm_setI B544 15 p ((tc p) + 1)) 16 p (nI i)) 17 p cf) 13 = bd := ((AI_setn (bm_setI (bm_setI B544 15 p ((tc p) + 1)) 16 p (nI i)) p cf 13 (by decide)).trans (show bm_AI (bm_setI (bm_setI B544 15 p ((tc p) + 1)) 16 p (nI i)) 13 = bd from A554))
                have A563 : bm_AI (bm_setI (bm_setI (bm_setI B544 15 p ((tc p) + 1)) 16 p (nI i)) 17 p cf) 14 = ll := ((AI_setn (bm_setI (bm_setI B544 15 p ((tc p) + 1)) 16 p (nI i)) p cf 14 (by decide)).trans (show bm_AI (bm_setI (bm_setI B544 15 p ((tc p) + 1)) 16 p (nI i)) 14 = ll from A555))
                have A564 : bm_AI (bm_setI (bm_setI (bm_setI B544 15 p ((tc p) + 1)) 16 p (nI i)) 17 p cf) 15 = (upd tc p ((tc p) + 1)) := ((AI_setn (bm_setI (bm_setI B544 15 p ((tc p) + 1)) 16 p (nI i)) p cf 15 (by decide)).trans (show bm_AI (bm_setI (bm_setI B544 15 p ((tc p) + 1)) 16 p (nI i)) 15 = (upd tc p ((tc p) + 1)) from A556))
                have A565 : bm_AI (bm_setI (bm_setI (bm_setI B544 15 p ((tc p) + 1)) 16 p (nI i)) 17 p cf) 16 = (upd tl p (nI i)) := ((AI_setn (bm_setI (bm_setI B544 15 p ((tc p) + 1)) 16 p (nI i)) p cf 16 (by decide)).trans (show bm_AI (bm_setI (bm_setI B544 15 p ((tc p) + 1)) 16 p (nI i)) 16 = (upd tl p (nI i)) from A557))
                have A566 : bm_AI (bm_setI (bm_setI (bm_setI B544 15 p ((tc p) + 1)) 16 p (nI i)) 17 p cf) 17 = (upd tf p cf) := ((AI_set (bm_setI (bm_setI B544 15 p ((tc p) + 1)) 16 p (nI i)) 17 p cf).trans (congrArg (fun f => upd f p cf) (show bm_AI (bm_setI (bm_setI B544 15 p ((tc p) + 1)) 16 p (nI i)) 17 = tf from A558)))
                have A567 : bm_AI (bm_setI (bm_setI (bm_setI B544 15 p ((tc p) + 1)) 16 p (nI i)) 17 p cf) 18 = tg := ((AI_setn (bm_setI (bm_setI B544 15 p ((tc p) + 1)) 16 p (nI i)) p cf 18 (by decide)).trans (show bm_AI (bm_setI (bm_setI B544 15 p ((tc p) + 1)) 16 p (nI i)) 18 = tg from A559))
                have Z568 : fz lex B544 (bm_setI (bm_setI (bm_setI B544 15 p ((tc p) + 1)) 16 p (nI i)) 17 p cf) := fz_trans Z560 ⟨fr_mono (fun _ q => by unfold lex; omega) (fr_setI _ 17 _ _), rfl, rfl⟩
                refine g_ald (pc' := 188) cd_Le_noteTaken rfl (Or.inr ⟨_, rfl, rfl, rfl⟩) l0 rfl rfl ?_
                refine g_fR (c := 4) (k := 6) (x := 18) (pc' := 191) cd_Le_noteTaken rfl rfl rfl rfl rfl (by decide) hR544.1.1.1 hR544.1.1.2 hR544.1.2.1.2.2.2.2.2.2 ?_
                refine g_ild (pc' := 192) cd_Le_noteTaken rfl (Or.inr ⟨_, rfl, rfl, rfl⟩) l2 rfl ?_
                refine g_ald (pc' := 193) cd_Le_noteTaken rfl (Or.inr ⟨_, rfl, rfl, rfl⟩) l0 rfl rfl ?_
                refine g_fI (c := 4) (k := 8) (x := cg) (pc' := 196) cd_Le_noteTaken rfl rfl rfl rfl rfl (by decide) hR544.1.1.1 hR544.1.1.2 hR544.2.1.2.2.1.2.1 ?_
                refine g_iast (pc' := 197) cd_Le_noteTaken rfl rfl hR544.1.2.2.2.2.2.2.2.2.1 hR544.1.2.2.2.2.2.2.2.2.2.1 (by rw [show bm_AL (bm_setI (bm_setI (bm_setI B544 15 p ((tc p) + 1)) 16 p (nI i)) 17 p cf) 18 = 6 from hR544.1.2.2.2.2.2.2.2.2.2.2]; exact vp_in_nI (by omega) (by decide)) ?_
                rw [show (nI p : Int32).toNatClampNeg = p from nI_clamp (by omega)]
                have A569 : bm_AI (bm_setI (bm_setI (bm_setI (bm_setI B544 15 p ((tc p) + 1)) 16 p (nI i)) 17 p cf) 18 p cg) 12 = (bm_AI B544 12) := ((AI_setn (bm_setI (bm_setI (bm_setI B544 15 p ((tc p) + 1)) 16 p (nI i)) 17 p cf) p cg 12 (by decide)).trans (show bm_AI (bm_setI (bm_setI (bm_setI B544 15 p ((tc p) + 1)) 16 p (nI i)) 17 p cf) 12 = (bm_AI B544 12) from A561))
                have A570 : bm_AI (bm_setI (bm_setI (bm_setI (bm_setI B544 15 p ((tc p) + 1)) 16 p (nI i)) 17 p cf) 18 p cg) 13 = bd := ((AI_setn (bm_setI (bm_setI (bm_setI B544 15 p ((tc p) + 1)) 16 p (nI i)) 17 p cf) p cg 13 (by decide)).trans (show bm_AI (bm_setI (bm_setI (bm_setI B544 15 p ((tc p) + 1)) 16 p (nI i)) 17 p cf) 13 = bd from A562))
                have A571 : bm_AI (bm_setI (bm_setI (bm_setI (bm_setI B544 15 p ((tc p) + 1)) 16 p (nI i)) 17 p cf) 18 p cg) 14 = ll := ((AI_setn (bm_setI (bm_setI (bm_setI B544 15 p ((tc p) + 1)) 16 p (nI i)) 17 p cf) p cg 14 (by decide)).trans (show bm_AI (bm_setI (bm_setI (bm_setI B544 15 p ((tc p) + 1)) 16 p (nI i)) 17 p cf) 14 = ll from A563))
                have A572 : bm_AI (bm_setI (bm_setI (bm_setI (bm_setI B544 15 p ((tc p) + 1)) 16 p (nI i)) 17 p cf) 18 p cg) 15 = (upd tc p ((tc p) + 1)) := ((AI_setn (bm_setI (bm_setI (bm_setI B544 15 p ((tc p) + 1)) 16 p (nI i)) 17 p cf) p cg 15 (by decide)).trans (show bm_AI (bm_setI (bm_setI (bm_setI B544 15 p ((tc p) + 1)) 16 p (nI i)) 17 p cf) 15 = (upd tc p ((tc p) + 1)) from A564))
                have A573 : bm_AI (bm_setI (bm_setI (bm_setI (bm_setI B544 15 p ((tc p) + 1)) 16 p (nI i)) 17 p cf) 18 p cg) 16 = (upd tl p (nI i)) := ((AI_setn (bm_setI (bm_setI (bm_setI B544 15 p ((tc p) + 1)) 16 p (nI i)) 17 p cf) p cg 16 (by decide)).trans (show bm_AI (bm_setI (bm_setI (bm_setI B544 15 p ((tc p) + 1)) 16 p (nI i)) 17 p cf) 16 = (upd tl p (nI i)) from A565))
                have A574 : bm_AI (bm_setI (bm_setI (bm_setI (bm_setI B544 15 p ((tc p) + 1)) 16 p (nI i)) 17 p cf) 18 p cg) 17 = (upd tf p cf) := ((AI_setn (bm_setI (bm_setI (bm_setI B544 15 p ((tc p) + 1)) 16 p (nI i)) 17 p cf) p cg 17 (by decide)).trans (show bm_AI (bm_setI (bm_setI (bm_setI B544 15 p ((tc p) + 1)) 16 p (nI i)) 17 p cf) 17 = (upd tf p cf) from A566))
                have A575 : bm_AI (bm_setI (bm_setI (bm_setI (bm_setI B544 15 p ((tc p) + 1)) 16 p (nI i)) 17 p cf) 18 p cg) 18 = (upd tg p cg) := ((AI_set (bm_setI (bm_setI (bm_setI B544 15 p ((tc p) + 1)) 16 p (nI i)) 17 p cf) 18 p cg).trans (congrArg (fun f => upd f p cg) (show bm_AI (bm_setI (bm_setI (bm_setI B544 15 p ((tc p) + 1)) 16 p (nI i)) 17 p cf) 18 = tg from A567)))
                have Z576 : fz lex B544 (bm_setI (bm_setI (bm_setI (bm_setI B544 15 p ((tc p) + 1)) 16 p (nI i)) 17 p cf) 18 p cg) := fz_trans Z568 ⟨fr_mono (fun _ q => by unfold lex; omega) (fr_setI _ 18 _ _), rfl, rfl⟩
                have hRz : RLe (bm_setI (bm_setI (bm_setI (bm_setI B544 15 p ((tc p) + 1)) 16 p (nI i)) 17 p cf) 18 p cg) T ((L.set i (se, fm, to, gr, ma, on, mi, th, (tk ||| (1 <<< (nI p &&& 31))), sf)), bd, ll, upd tc p (tc p + 1), upd tl p (nI i), upd tf p cf, upd tg p cg, cf, cg, ct, co, li, fo + 1, db) := ⟨LgS_fr hR544.1 Z576.1, ⟨hR544.2.1.1, ⟨A570, A571, A572, A573, A574, A575⟩, hR544.2.1.2.2⟩, (by rw [show bm_AI (bm_setI (bm_setI (bm_setI (bm_setI B544 15 p ((tc p) + 1)) 16 p (nI i)) 17 p cf) 18 p cg) 12 = _ from A569]; exact hR544.2.2)⟩
                have hEq : lg_taken (L, bd, ll, tc, tl, tf, tg, cf, cg, ct, co, li, fo, db) p = ((L.set i (se, fm, to, gr, ma, on, mi, th, (tk ||| (1 <<< (nI p &&& 31))), sf)), bd, ll, upd tc p (tc p + 1), upd tl p (nI i), upd tf p cf, upd tg p cg, cf, cg, ct, co, li, fo + 1, db) := by unfold lg_taken; dsimp only; rw [hl, lg_get_t he h7]; dsimp only; rw [nI_clamp (show i < 2 ^ 31 by omega)]; simp only [lt_take, ← hso, n26, n40, n45, n77, n118]; simp
                exact g_retv cd_Le_noteTaken rfl ⟨rfl, (kk _ (hEq ▸ hRz) (fz_trans hz544 Z576))⟩
              · have c118 : so = true := bz_t c118
                exact absurd (c118.symm.trans n45) (by decide)
          · have c77 : (hbit tk (nI p)) = true := bz_t c77
            have n77 := c77
            refine g_ald (pc' := 81) cd_Le_noteTaken rfl (Or.inr ⟨_, rfl, rfl, rfl⟩) l0 rfl rfl ?_
            refine g_pure (pc' := 82) (st' := [.ref 11, .ref 11]) cd_Le_noteTaken rfl rfl (fun _ _ => rfl) ?_
            refine g_fI (c := 4) (k := 14) (x := db) (pc' := 85) cd_Le_noteTaken rfl rfl rfl rfl rfl (by decide) hR534.1.1.1 hR534.1.1.2 hR534.2.1.2.2.2.2.2 ?_
            refine g_k1 (v := 1) (pc' := 86) cd_Le_noteTaken rfl (by decide) rfl ?_
            refine g_pure (pc' := 87) (st' := [.int (db + 1), .ref 11]) cd_Le_noteTaken rfl rfl (fun _ _ => rfl) ?_
            refine g_putI (c := 4) (k := 14) (pc' := 90) cd_Le_noteTaken rfl rfl rfl rfl (by simp [tm_okV, narrow, fits]) (Or.inl rfl) rfl (by decide) hR534.1.1.1 hR534.1.1.2 ?_
            have P577 : bm_FI (bm_putI B534 4 14 11 (db + 1)) 4 14 11 = db + 1 := rfl
            have Z578 : fz lex B534 (bm_putI B534 4 14 11 (db + 1)) := fz_trans (fz_rfl _ B534) ⟨fr_mono (fun _ q => by unfold lex; omega) (fr_putI _ 4 14 11 _), rfl, rfl⟩
            have hR579 : RLe (bm_putI B534 4 14 11 (db + 1)) T (L, bd, ll, tc, tl, tf, tg, cf, cg, ct, co, li, fo + 1, db + 1) := ⟨hR534.1, ⟨hR534.2.1.1, hR534.2.1.2.1, hR534.2.1.2.2.1, hR534.2.1.2.2.2.1, hR534.2.1.2.2.2.2.1, P577⟩, hR534.2.2⟩
            have hz579 : fz lex B (bm_putI B534 4 14 11 (db + 1)) := fz_trans hz534 Z578
            generalize (bm_putI B534 4 14 11 (db + 1)) = B579 at hR579 hz579 ⊢
            refine g_ald (pc' := 91) cd_Le_noteTaken rfl (Or.inr ⟨_, rfl, rfl, rfl⟩) l0 rfl rfl ?_
            refine g_ild (pc' := 92) cd_Le_noteTaken rfl (Or.inr ⟨_, rfl, rfl, rfl⟩) l3 rfl ?_
            refine g_calli (pc' := 95) cd_Le_noteTaken rfl rfl rfl rfl rfl (tm_invV rfl rfl cd_Le_has rfl (Nat.le_of_ble_eq_true rfl) (by decide) hR579.1.1.1 hR579.1.1.2) (t_Lhas hR579 ?_)
            rw [inR_nI hi (by omega)]
            show bm_G _ _ _ _ _ (.int 1 :: _) _ _
            show bm_G _ _ _ 95 _ [.int 1] B579 _
            refine g_if1 (t := 116) (pc' := 98) cd_Le_noteTaken rfl rfl rfl (fun c95 => ?_) (fun c95 => ?_)
            · exact absurd (show (1 : Int32) = 0 from c95) (by decide)
            · have c95 : ¬ (1 : Int32) = 0 := c95
              refine g_ald (pc' := 99) cd_Le_noteTaken rfl (Or.inr ⟨_, rfl, rfl, rfl⟩) l0 rfl rfl ?_
              refine g_fR (c := 4) (k := 0) (x := 12) (pc' := 102) cd_Le_noteTaken rfl rfl rfl rfl rfl (by decide) hR579.1.1.1 hR579.1.1.2 hR579.1.2.1.1 ?_
              refine g_ild (pc' := 103) cd_Le_noteTaken rfl (Or.inr ⟨_, rfl, rfl, rfl⟩) l3 rfl ?_
              refine g_k2 (v := 10) (pc' := 105) cd_Le_noteTaken rfl (by decide) rfl ?_
              refine g_pure (pc' := 106) (st' := [.int ((nI i) * 10), .ref 12]) cd_Le_noteTaken rfl rfl (fun _ _ => rfl) ?_
              rw [show ((nI i) * 10 : Int32) = nI (i * 10) from pk_mul i 10]
              refine g_k2 (v := 8) (pc' := 108) cd_Le_noteTaken rfl (by decide) rfl ?_
              refine g_pure (pc' := 109) (st' := [.int ((nI (i * 10)) + 8), .ref 12]) cd_Le_noteTaken rfl rfl (fun _ _ => rfl) ?_
              rw [show ((nI (i * 10)) + 8 : Int32) = nI ((i * 10) + 8) from nI_add (i * 10) 8]
              refine g_pure (pc' := 110) (st' := [.int (nI ((i * 10) + 8)), .ref 12, .int (nI ((i * 10) + 8)), .ref 12]) cd_Le_noteTaken rfl rfl (fun _ _ => rfl) ?_
              refine g_aI (x := tk) (pc' := 111) cd_Le_noteTaken rfl rfl hR579.1.2.2.1.1 hR579.1.2.2.1.2.1 (by rw [show bm_AL B579 12 = 7000 from hR579.1.2.2.1.2.2]; exact vp_in_nI (by omega) (by decide)) (by rw [nI_clamp (by omega)]; exact (hR579.2.2.1 i _ he).2.2.2.2.2.2.2.2.1) ?_
              refine g_k1 (v := 1) (pc' := 112) cd_Le_noteTaken rfl (by decide) rfl ?_
              refine g_ild (pc' := 113) cd_Le_noteTaken rfl (Or.inr ⟨_, rfl, rfl, rfl⟩) l2 rfl ?_
              refine g_pure (pc' := 114) (st' := [.int (1 <<< ((nI p) &&& 31)), .int tk, .int (nI ((i * 10) + 8)), .ref 12]) cd_Le_noteTaken rfl rfl (fun _ _ => rfl) ?_
              refine g_pure (pc' := 115) (st' := [.int (tk ||| (1 <<< ((nI p) &&& 31))), .int (nI ((i * 10) + 8)), .ref 12]) cd_Le_noteTaken rfl rfl (fun _ _ => rfl) ?_
              refine g_iast (pc' := 116) cd_Le_noteTaken rfl rfl hR579.1.2.2.1.1 hR579.1.2.2.1.2.1 (by rw [show bm_AL B579 12 = 7000 from hR579.1.2.2.1.2.2]; exact vp_in_nI (by omega) (by decide)) ?_
              rw [show (nI ((i * 10) + 8) : Int32).toNatClampNeg = ((i * 10) + 8) from nI_clamp (by omega)]
              have A580 : bm_AI (bm_setI B579 12 ((i * 10) + 8) (tk ||| (1 <<< ((nI p) &&& 31)))) 12 = (upd (bm_AI B579 12) ((i * 10) + 8) (tk ||| (1 <<< ((nI p) &&& 31)))) := ((AI_set B579 12 ((i * 10) + 8) (tk ||| (1 <<< ((nI p) &&& 31)))).trans (congrArg (fun f => upd f ((i * 10) + 8) (tk ||| (1 <<< ((nI p) &&& 31)))) (show bm_AI B579 12 = (bm_AI B579 12) from rfl)))
              have A581 : bm_AI (bm_setI B579 12 ((i * 10) + 8) (tk ||| (1 <<< ((nI p) &&& 31)))) 13 = bd := ((AI_setn B579 ((i * 10) + 8) (tk ||| (1 <<< ((nI p) &&& 31))) 13 (by decide)).trans (show bm_AI B579 13 = bd from hR579.2.1.2.1.1))
              have A582 : bm_AI (bm_setI B579 12 ((i * 10) + 8) (tk ||| (1 <<< ((nI p) &&& 31)))) 14 = ll := ((AI_setn B579 ((i * 10) + 8) (tk ||| (1 <<< ((nI p) &&& 31))) 14 (by decide)).trans (show bm_AI B579 14 = ll from hR579.2.1.2.1.2.1))
              have A583 : bm_AI (bm_setI B579 12 ((i * 10) + 8) (tk ||| (1 <<< ((nI p) &&& 31)))) 15 = tc := ((AI_setn B579 ((i * 10) + 8) (tk ||| (1 <<< ((nI p) &&& 31))) 15 (by decide)).trans (show bm_AI B579 15 = tc from hR579.2.1.2.1.2.2.1))
              have A584 : bm_AI (bm_setI B579 12 ((i * 10) + 8) (tk ||| (1 <<< ((nI p) &&& 31)))) 16 = tl := ((AI_setn B579 ((i * 10) + 8) (tk ||| (1 <<< ((nI p) &&& 31))) 16 (by decide)).trans (show bm_AI B579 16 = tl from hR579.2.1.2.1.2.2.2.1))
              have A585 : bm_AI (bm_setI B579 12 ((i * 10) + 8) (tk ||| (1 <<< ((nI p) &&& 31)))) 17 = tf := ((AI_setn B579 ((i * 10) + 8) (tk ||| (1 <<< ((nI p) &&& 31))) 17 (by decide)).trans (show bm_AI B579 17 = tf from hR579.2.1.2.1.2.2.2.2.1))
              have A586 : bm_AI (bm_setI B579 12 ((i * 10) + 8) (tk ||| (1 <<< ((nI p) &&& 31)))) 18 = tg := ((AI_setn B579 ((i * 10) + 8) (tk ||| (1 <<< ((nI p) &&& 31))) 18 (by decide)).trans (show bm_AI B579 18 = tg from hR579.2.1.2.1.2.2.2.2.2))
              have Z587 : fz lex B579 (bm_setI B579 12 ((i * 10) + 8) (tk ||| (1 <<< ((nI p) &&& 31)))) := fz_trans (fz_rfl _ B579) ⟨fr_mono (fun _ q => by unfold lex; omega) (fr_setI _ 12 _ _), rfl, rfl⟩
              have hR589 : RLe (bm_setI B579 12 ((i * 10) + 8) (tk ||| (1 <<< ((nI p) &&& 31)))) T ((L.set i (se, fm, to, gr, ma, on, mi, th, (tk ||| (1 <<< (nI p &&& 31))), sf)), bd, ll, tc, tl, tf, tg, cf, cg, ct, co, li, fo + 1, db + 1) := ⟨LgS_fr hR579.1 Z587.1, ⟨⟨(hR579.2.1.1.1).trans (by simp), (by have := hR579.2.1.1.2; simpa using this)⟩, ⟨A581, A582, A583, A584, A585, A586⟩, hR579.2.1.2.2⟩, (RLc_set (i := i) hR579.2.2 he (fun j h8 h9 => by rw [show bm_AI (bm_setI B579 12 ((i * 10) + 8) (tk ||| (1 <<< ((nI p) &&& 31)))) 12 = _ from A580]; exact pk_un (by omega)) (by rw [show bm_AI (bm_setI B579 12 ((i * 10) + 8) (tk ||| (1 <<< ((nI p) &&& 31)))) 12 = _ from A580]; exact if_pos rfl) (by rw [show bm_AI (bm_setI B579 12 ((i * 10) + 8) (tk ||| (1 <<< ((nI p) &&& 31)))) 12 = _ from A580]; exact (pk_un (by omega)).trans ((hR579.2.2.1 i _ he).2.2.2.2.2.2.2.2.2)))⟩
              have hz589 : fz lex B (bm_setI B579 12 ((i * 10) + 8) (tk ||| (1 <<< ((nI p) &&& 31)))) := fz_trans hz579 Z587
              generalize (bm_setI B579 12 ((i * 10) + 8) (tk ||| (1 <<< ((nI p) &&& 31)))) = B589 at hR589 hz589 ⊢
              have he588 : (L.set i (se, fm, to, gr, ma, on, mi, th, (tk ||| (1 <<< (nI p &&& 31))), sf))[i]? = some (se, fm, to, gr, ma, on, mi, th, (tk ||| (1 <<< (nI p &&& 31))), sf) := List.getElem?_set_self hi
              have hi588 : i < (L.set i (se, fm, to, gr, ma, on, mi, th, (tk ||| (1 <<< (nI p &&& 31))), sf)).length := by have := hi; simpa using this
              refine g_ild (pc' := 118) cd_Le_noteTaken rfl (Or.inl ⟨rfl, rfl⟩) l4 rfl ?_
              refine g_if1 (t := 160) (pc' := 121) cd_Le_noteTaken rfl rfl rfl (fun c118 => ?_) (fun c118 => ?_)
              · have c118 : so = false := bz_f c118
                have n118 := c118
                refine g_ald (pc' := 161) cd_Le_noteTaken rfl (Or.inr ⟨_, rfl, rfl, rfl⟩) l0 rfl rfl ?_
                refine g_fR (c := 4) (k := 3) (x := 15) (pc' := 164) cd_Le_noteTaken rfl rfl rfl rfl rfl (by decide) hR589.1.1.1 hR589.1.1.2 hR589.1.2.1.2.2.2.1 ?_
                refine g_ild (pc' := 165) cd_Le_noteTaken rfl (Or.inr ⟨_, rfl, rfl, rfl⟩) l2 rfl ?_
                refine g_pure (pc' := 166) (st' := [.int (nI p), .ref 15, .int (nI p), .ref 15]) cd_Le_noteTaken rfl rfl (fun _ _ => rfl) ?_
                refine g_aI (x := (tc p)) (pc' := 167) cd_Le_noteTaken rfl rfl hR589.1.2.2.2.2.2.1.1 hR589.1.2.2.2.2.2.1.2.1 (by rw [show bm_AL B589 15 = 6 from hR589.1.2.2.2.2.2.1.2.2]; exact vp_in_nI (by omega) (by decide)) (by rw [nI_clamp (by omega)]; exact congrFun (show bm_AI B589 15 = tc from hR589.2.1.2.1.2.2.1) p) ?_
                refine g_k1 (v := 1) (pc' := 168) cd_Le_noteTaken rfl (by decide) rfl ?_
                refine g_pure (pc' := 169) (st' := [.int ((tc p) + 1), .int (nI p), .ref 15]) cd_Le_noteTaken rfl rfl (fun _ _ => rfl) ?_
                refine g_iast (pc' := 170) cd_Le_noteTaken rfl rfl hR589.1.2.2.2.2.2.1.1 hR589.1.2.2.2.2.2.1.2.1 (by rw [show bm_AL B589 15 = 6 from hR589.1.2.2.2.2.2.1.2.2]; exact vp_in_nI (by omega) (by decide)) ?_
                rw [show (nI p : Int32).toNatClampNeg = p from nI_clamp (by omega)]
                have A590 : bm_AI (bm_setI B589 15 p ((tc p) + 1)) 12 = (bm_AI B589 12) := ((AI_setn B589 p ((tc p) + 1) 12 (by decide)).trans (show bm_AI B589 12 = (bm_AI B589 12) from rfl))
                have A591 : bm_AI (bm_setI B589 15 p ((tc p) + 1)) 13 = bd := ((AI_setn B589 p ((tc p) + 1) 13 (by decide)).trans (show bm_AI B589 13 = bd from hR589.2.1.2.1.1))
                have A592 : bm_AI (bm_setI B589 15 p ((tc p) + 1)) 14 = ll := ((AI_setn B589 p ((tc p) + 1) 14 (by decide)).trans (show bm_AI B589 14 = ll from hR589.2.1.2.1.2.1))
                have A593 : bm_AI (bm_setI B589 15 p ((tc p) + 1)) 15 = (upd tc p ((tc p) + 1)) := ((AI_set B589 15 p ((tc p) + 1)).trans (congrArg (fun f => upd f p ((tc p) + 1)) (show bm_AI B589 15 = tc from hR589.2.1.2.1.2.2.1)))
                have A594 : bm_AI (bm_setI B589 15 p ((tc p) + 1)) 16 = tl := ((AI_setn B589 p ((tc p) + 1) 16 (by decide)).trans (show bm_AI B589 16 = tl from hR589.2.1.2.1.2.2.2.1))
                have A595 : bm_AI (bm_setI B589 15 p ((tc p) + 1)) 17 = tf := ((AI_setn B589 p ((tc p) + 1) 17 (by decide)).trans (show bm_AI B589 17 = tf from hR589.2.1.2.1.2.2.2.2.1))
                have A596 : bm_AI (bm_setI B589 15 p ((tc p) + 1)) 18 = tg := ((AI_setn B589 p ((tc p) + 1) 18 (by decide)).trans (show bm_AI B589 18 = tg from hR589.2.1.2.1.2.2.2.2.2))
                have Z597 : fz lex B589 (bm_setI B589 15 p ((tc p) + 1)) := fz_trans (fz_rfl _ B589) ⟨fr_mono (fun _ q => by unfold lex; omega) (fr_setI _ 15 _ _), rfl, rfl⟩
                refine g_ald (pc' := 171) cd_Le_noteTaken rfl (Or.inr ⟨_, rfl, rfl, rfl⟩) l0 rfl rfl ?_
                refine g_fR (c := 4) (k := 4) (x := 16) (pc' := 174) cd_Le_noteTaken rfl rfl rfl rfl rfl (by decide) hR589.1.1.1 hR589.1.1.2 hR589.1.2.1.2.2.2.2.1 ?_
                refine g_ild (pc' := 175) cd_Le_noteTaken rfl (Or.inr ⟨_, rfl, rfl, rfl⟩) l2 rfl ?_
                refine g_ild (pc' := 176) cd_Le_noteTaken rfl (Or.inr ⟨_, rfl, rfl, rfl⟩) l3 rfl ?_
                refine g_iast (pc' := 177) cd_Le_noteTaken rfl rfl hR589.1.2.2.2.2.2.2.1.1 hR589.1.2.2.2.2.2.2.1.2.1 (by rw [show bm_AL (bm_setI B589 15 p ((tc p) + 1)) 16 = 6 from hR589.1.2.2.2.2.2.2.1.2.2]; exact vp_in_nI (by omega) (by decide)) ?_
                rw [show (nI p : Int32).toNatClampNeg = p from nI_clamp (by omega)]
                have A598 : bm_AI (bm_setI (bm_setI B589 15 p ((tc p) + 1)) 16 p (nI i)) 12 = (bm_AI B589 12) := ((AI_setn (bm_setI B589 15 p ((tc p) + 1)) p (nI i) 12 (by decide)).trans (show bm_AI (bm_setI B589 15 p ((tc p) + 1)) 12 = (bm_AI B589 12) from A590))
                have A599 : bm_AI (bm_setI (bm_setI B589 15 p ((tc p) + 1)) 16 p (nI i)) 13 = bd := ((AI_setn (bm_setI B589 15 p ((tc p) + 1)) p (nI i) 13 (by decide)).trans (show bm_AI (bm_setI B589 15 p ((tc p) + 1)) 13 = bd from A591))
                have A600 : bm_AI (bm_setI (bm_setI B589 15 p ((tc p) + 1)) 16 p (nI i)) 14 = ll := ((AI_setn (bm_setI B589 15 p ((tc p) + 1)) p (nI i) 14 (by decide)).trans (show bm_AI (bm_setI B589 15 p ((tc p) + 1)) 14 = ll from A592))
                have A601 : bm_AI (bm_setI (bm_setI B589 15 p ((tc p) + 1)) 16 p (nI i)) 15 = (upd tc p ((tc p) + 1)) := ((AI_setn (bm_setI B589 15 p ((tc p) + 1)) p (nI i) 15 (by decide)).trans (show bm_AI (bm_setI B589 15 p ((tc p) + 1)) 15 = (upd tc p ((tc p) + 1)) from A593))
                have A602 : bm_AI (bm_setI (bm_setI B589 15 p ((tc p) + 1)) 16 p (nI i)) 16 = (upd tl p (nI i)) := ((AI_set (bm_setI B589 15 p ((tc p) + 1)) 16 p (nI i)).trans (congrArg (fun f => upd f p (nI i)) (show bm_AI (bm_setI B589 15 p ((tc p) + 1)) 16 = tl from A594)))
                have A603 : bm_AI (bm_setI (bm_setI B589 15 p ((tc p) + 1)) 16 p (nI i)) 17 = tf := ((AI_setn (bm_setI B589 15 p ((tc p) + 1)) p (nI i) 17 (by decide)).trans (show bm_AI (bm_setI B589 15 p ((tc p) + 1)) 17 = tf from A595))
                have A604 : bm_AI (bm_setI (bm_setI B589 15 p ((tc p) + 1)) 16 p (nI i)) 18 = tg := ((AI_setn (bm_setI B589 15 p ((tc p) + 1)) p (nI i) 18 (by decide)).trans (show bm_AI (bm_setI B589 15 p ((tc p) + 1)) 18 = tg from A596))
                have Z605 : fz lex B589 (bm_setI (bm_setI B589 15 p ((tc p) + 1)) 16 p (nI i)) := fz_trans Z597 ⟨fr_mono (fun _ q => by unfold lex; omega) (fr_setI _ 16 _ _), rfl, rfl⟩
                refine g_ald (pc' := 178) cd_Le_noteTaken rfl (Or.inr ⟨_, rfl, rfl, rfl⟩) l0 rfl rfl ?_
                refine g_fR (c := 4) (k := 5) (x := 17) (pc' := 181) cd_Le_noteTaken rfl rfl rfl rfl rfl (by decide) hR589.1.1.1 hR589.1.1.2 hR589.1.2.1.2.2.2.2.2.1 ?_
                refine g_ild (pc' := 182) cd_Le_noteTaken rfl (Or.inr ⟨_, rfl, rfl, rfl⟩) l2 rfl ?_
                refine g_ald (pc' := 183) cd_Le_noteTaken rfl (Or.inr ⟨_, rfl, rfl, rfl⟩) l0 rfl rfl ?_
                refine g_fI (c := 4) (k := 7) (x := cf) (pc' := 186) cd_Le_noteTaken rfl rfl rfl rfl rfl (by decide) hR589.1.1.1 hR589.1.1.2 hR589.2.1.2.2.1.1 ?_
                refine g_iast (pc' := 187) cd_Le_noteTaken rfl rfl hR589.1.2.2.2.2.2.2.2.1.1 hR589.1.2.2.2.2.2.2.2.1.2.1 (by rw [show bm_AL (bm_setI (bm_setI B589 15 p ((tc p) + 1)) 16 p (nI i)) 17 = 6 from hR589.1.2.2.2.2.2.2.2.1.2.2]; exact vp_in_nI (by omega) (by decide)) ?_
                rw [show (nI p : Int32).toNatClampNeg = p from nI_clamp (by omega)]
                have A606 : bm_AI (bm_setI (bm_setI (bm_setI B589 15 p ((tc p) + 1)) 16 p (nI i)) 17 p cf) 12 = (bm_AI B589 12) := ((AI_setn (bm_setI (bm_setI B589 15 p ((tc p) + 1)) 16 p (nI i)) p cf 12 (by decide)).trans (show bm_AI (bm_setI (bm_setI B589 15 p ((tc p) + 1)) 16 p (nI i)) 12 = (bm_AI B589 12) from A598))
                have A607 : bm_AI (bm_setI (bm_setI (bm_setI B589 15 p ((tc p) + 1)) 16 p (nI i)) 17 p cf) 13 = bd := ((AI_setn (bm_setI (bm_setI B589 15 p ((tc p) + 1)) 16 p (nI i)) p cf 13 (by decide)).trans (show bm_AI (bm_setI (bm_setI B589 15 p ((tc p) + 1)) 16 p (nI i)) 13 = bd from A599))
                have A608 : bm_AI (bm_setI (bm_setI (bm_setI B589 15 p ((tc p) + 1)) 16 p (nI i)) 17 p cf) 14 = ll := ((AI_setn (bm_setI (bm_setI B589 15 p ((tc p) + 1)) 16 p (nI i)) p cf 14 (by decide)).trans (show bm_AI (bm_setI (bm_setI B589 15 p ((tc p) + 1)) 16 p (nI i)) 14 = ll from A600))
                have A609 : bm_AI (bm_setI (bm_setI (bm_setI B589 15 p ((tc p) + 1)) 16 p (nI i)) 17 p cf) 15 = (upd tc p ((tc p) + 1)) := ((AI_setn (bm_setI (bm_setI B589 15 p ((tc p) + 1)) 16 p (nI i)) p cf 15 (by decide)).trans (show bm_AI (bm_setI (bm_setI B589 15 p ((tc p) + 1)) 16 p (nI i)) 15 = (upd tc p ((tc p) + 1)) from A601))
                have A610 : bm_AI (bm_setI (bm_setI (bm_setI B589 15 p ((tc p) + 1)) 16 p (nI i)) 17 p cf) 16 = (upd tl p (nI i)) := ((AI_setn (bm_setI (bm_setI B589 15 p ((tc p) + 1)) 16 p (nI i)) p cf 16 (by decide)).trans (show bm_AI (bm_setI (bm_setI B589 15 p ((tc p) + 1)) 16 p (nI i)) 16 = (upd tl p (nI i)) from A602))
                have A611 : bm_AI (bm_setI (bm_setI (bm_setI B589 15 p ((tc p) + 1)) 16 p (nI i)) 17 p cf) 17 = (upd tf p cf) := ((AI_set (bm_setI (bm_setI B589 15 p ((tc p) + 1)) 16 p (nI i)) 17 p cf).trans (congrArg (fun f => upd f p cf) (show bm_AI (bm_setI (bm_setI B589 15 p ((tc p) + 1)) 16 p (nI i)) 17 = tf from A603)))
                have A612 : bm_AI (bm_setI (bm_setI (bm_setI B589 15 p ((tc p) + 1)) 16 p (nI i)) 17 p cf) 18 = tg := ((AI_setn (bm_setI (bm_setI B589 15 p ((tc p) + 1)) 16 p (nI i)) p cf 18 (by decide)).trans (show bm_AI (bm_setI (bm_setI B589 15 p ((tc p) + 1)) 16 p (nI i)) 18 = tg from A604))
                have Z613 : fz lex B589 (bm_setI (bm_setI (bm_setI B589 15 p ((tc p) + 1)) 16 p (nI i)) 17 p cf) := fz_trans Z605 ⟨fr_mono (fun _ q => by unfold lex; omega) (fr_setI _ 17 _ _), rfl, rfl⟩
                refine g_ald (pc' := 188) cd_Le_noteTaken rfl (Or.inr ⟨_, rfl, rfl, rfl⟩) l0 rfl rfl ?_
                refine g_fR (c := 4) (k := 6) (x := 18) (pc' := 191) cd_Le_noteTaken rfl rfl rfl rfl rfl (by decide) hR589.1.1.1 hR589.1.1.2 hR589.1.2.1.2.2.2.2.2.2 ?_
                refine g_ild (pc' := 192) cd_Le_noteTaken rfl (Or.inr ⟨_, rfl, rfl, rfl⟩) l2 rfl ?_
                refine g_ald (pc' := 193) cd_Le_noteTaken rfl (Or.inr ⟨_, rfl, rfl, rfl⟩) l0 rfl rfl ?_
                refine g_fI (c := 4) (k := 8) (x := cg) (pc' := 196) cd_Le_noteTaken rfl rfl rfl rfl rfl (by decide) hR589.1.1.1 hR589.1.1.2 hR589.2.1.2.2.1.2.1 ?_
                refine g_iast (pc' := 197) cd_Le_noteTaken rfl rfl hR589.1.2.2.2.2.2.2.2.2.1 hR589.1.2.2.2.2.2.2.2.2.2.1 (by rw [show bm_AL (bm_setI (bm_setI (bm_setI B589 15 p ((tc p) + 1)) 16 p (nI i)) 17 p cf) 18 = 6 from hR589.1.2.2.2.2.2.2.2.2.2.2]; exact vp_in_nI (by omega) (by decide)) ?_
                rw [show (nI p : Int32).toNatClampNeg = p from nI_clamp (by omega)]
                have A614 : bm_AI (bm_setI (bm_setI (bm_setI (bm_setI B589 15 p ((tc p) + 1)) 16 p (nI i)) 17 p cf) 18 p cg) 12 = (bm_AI B589 12) := ((AI_setn (bm_setI (bm_setI (bm_setI B589 15 p ((tc p) + 1)) 16 p (nI i)) 17 p cf) p cg 12 (by decide)).trans (show bm_AI (bm_setI (bm_setI (bm_setI B589 15 p ((tc p) + 1)) 16 p (nI i)) 17 p cf) 12 = (bm_AI B589 12) from A606))
                have A615 : bm_AI (bm_setI (bm_setI (bm_setI (bm_setI B589 15 p ((tc p) + 1)) 16 p (nI i)) 17 p cf) 18 p cg) 13 = bd := ((AI_setn (bm_setI (bm_setI (bm_setI B589 15 p ((tc p) + 1)) 16 p (nI i)) 17 p cf) p cg 13 (by decide)).trans (show bm_AI (bm_setI (bm_setI (bm_setI B589 15 p ((tc p) + 1)) 16 p (nI i)) 17 p cf) 13 = bd from A607))
                have A616 : bm_AI (bm_setI (bm_setI (bm_setI (bm_setI B589 15 p ((tc p) + 1)) 16 p (nI i)) 17 p cf) 18 p cg) 14 = ll := ((AI_setn (bm_setI (bm_setI (bm_setI B589 15 p ((tc p) + 1)) 16 p (nI i)) 17 p cf) p cg 14 (by decide)).trans (show bm_AI (bm_setI (bm_setI (bm_setI B589 15 p ((tc p) + 1)) 16 p (nI i)) 17 p cf) 14 = ll from A608))
                have A617 : bm_AI (bm_setI (bm_setI (bm_setI (bm_setI B589 15 p ((tc p) + 1)) 16 p (nI i)) 17 p cf) 18 p cg) 15 = (upd tc p ((tc p) + 1)) := ((AI_setn (bm_setI (bm_setI (bm_setI B589 15 p ((tc p) + 1)) 16 p (nI i)) 17 p cf) p cg 15 (by decide)).trans (show bm_AI (bm_setI (bm_setI (bm_setI B589 15 p ((tc p) + 1)) 16 p (nI i)) 17 p cf) 15 = (upd tc p ((tc p) + 1)) from A609))
                have A618 : bm_AI (bm_setI (bm_setI (bm_setI (bm_setI B589 15 p ((tc p) + 1)) 16 p (nI i)) 17 p cf) 18 p cg) 16 = (upd tl p (nI i)) := ((AI_setn (bm_setI (bm_setI (bm_setI B589 15 p ((tc p) + 1)) 16 p (nI i)) 17 p cf) p cg 16 (by decide)).trans (show bm_AI (bm_setI (bm_setI (bm_setI B589 15 p ((tc p) + 1)) 16 p (nI i)) 17 p cf) 16 = (upd tl p (nI i)) from A610))
                have A619 : bm_AI (bm_setI (bm_setI (bm_setI (bm_setI B589 15 p ((tc p) + 1)) 16 p (nI i)) 17 p cf) 18 p cg) 17 = (upd tf p cf) := ((AI_setn (bm_setI (bm_setI (bm_setI B589 15 p ((tc p) + 1)) 16 p (nI i)) 17 p cf) p cg 17 (by decide)).trans (show bm_AI (bm_setI (bm_setI (bm_setI B589 15 p ((tc p) + 1)) 16 p (nI i)) 17 p cf) 17 = (upd tf p cf) from A611))
                have A620 : bm_AI (bm_setI (bm_setI (bm_setI (bm_setI B589 15 p ((tc p) + 1)) 16 p (nI i)) 17 p cf) 18 p cg) 18 = (upd tg p cg) := ((AI_set (bm_setI (bm_setI (bm_setI B589 15 p ((tc p) + 1)) 16 p (nI i)) 17 p cf) 18 p cg).trans (congrArg (fun f => upd f p cg) (show bm_AI (bm_setI (bm_setI (bm_setI B589 15 p ((tc p) + 1)) 16 p (nI i)) 17 p cf) 18 = tg from A612)))
                have Z621 : fz lex B589 (bm_setI (bm_setI (bm_setI (bm_setI B589 15 p ((tc p) + 1)) 16 p (nI i)) 17 p cf) 18 p cg) := fz_trans Z613 ⟨fr_mono (fun _ q => by unfold lex; omega) (fr_setI _ 18 _ _), rfl, rfl⟩
                have hRz : RLe (bm_setI (bm_setI (bm_setI (bm_setI B589 15 p ((tc p) + 1)) 16 p (nI i)) 17 p cf) 18 p cg) T ((L.set i (se, fm, to, gr, ma, on, mi, th, (tk ||| (1 <<< (nI p &&& 31))), sf)), bd, ll, upd tc p (tc p + 1), upd tl p (nI i), upd tf p cf, upd tg p cg, cf, cg, ct, co, li, fo + 1, db + 1) := ⟨LgS_fr hR589.1 Z621.1, ⟨hR589.2.1.1, ⟨A615, A616, A617, A618, A619, A620⟩, hR589.2.1.2.2⟩, (by rw [show bm_AI (bm_setI (bm_setI (bm_setI (bm_setI B589 15 p ((tc p) + 1)) 16 p (nI i)) 17 p cf) 18 p cg) 12 = _ from A614]; exact hR589.2.2)⟩
                have hEq : lg_taken (L, bd, ll, tc, tl, tf, tg, cf, cg, ct, co, li, fo, db) p = ((L.set i (se, fm, to, gr, ma, on, mi, th, (tk ||| (1 <<< (nI p &&& 31))), sf)), bd, ll, upd tc p (tc p + 1), upd tl p (nI i), upd tf p cf, upd tg p cg, cf, cg, ct, co, li, fo + 1, db + 1) := by unfold lg_taken; dsimp only; rw [hl, lg_get_t he h7]; dsimp only; rw [nI_clamp (show i < 2 ^ 31 by omega)]; simp only [lt_take, ← hso, n26, n40, n45, n77, n118]; simp
                exact g_retv cd_Le_noteTaken rfl ⟨rfl, (kk _ (hEq ▸ hRz) (fz_trans hz589 Z621))⟩
              · have c118 : so = true := bz_t c118
                exact absurd (c118.symm.trans n45) (by decide)
set_option maxRecDepth 100000 in
theorem t_noteTaken0 {sc : tm_X} {d : Nat} {ca rm dr : Nat} {B : bm_H} {T : List Tm} {L : List LT} {bd ll tc tl tf tg : Nat → Int32} {cf cg : Int32} {ct : Tm} {co : Bool} {li fo db : Int32}  {p : Nat} {Q : bm_H → Prop} (hT : TI B 1 ca 3 4 rm dr T) (hR : RLe B T (L, bd, ll, tc, tl, tf, tg, cf, cg, ct, co, li, fo, db)) (hp : p < 6) (hl : inR (lg_with bd ct) (nI L.length) = false) (kk : ∀ B', RLe B' T (lg_taken (L, bd, ll, tc, tl, tf, tg, cf, cg, ct, co, li, fo, db) p) → fz lex B B' → Q B') : bm_Gv sc (d + 3) 125 [.ref 11, .ref 1, .int (nI p)] B Q := by
  have h7 := hR.2.1.1.2
  show bm_G sc (d + 3) 125 0 [(0, .ref 11), (1, .ref 1), (2, .int (nI p))] [] B _
  generalize elv : ([(0, .ref 11), (1, .ref 1), (2, .int (nI p))] : tm_L) = lv
  have l0 : lv.lookup 0 = some (.ref 11) := by rw [← elv]; rfl
  have l1 : lv.lookup 1 = some (.ref 1) := by rw [← elv]; rfl
  have l2 : lv.lookup 2 = some (.int (nI p)) := by rw [← elv]; rfl
  clear elv
  refine g_ald (pc' := 1) cd_Le_noteTaken rfl (Or.inr ⟨_, rfl, rfl, rfl⟩) l0 rfl rfl ?_
  refine g_ald (pc' := 2) cd_Le_noteTaken rfl (Or.inr ⟨_, rfl, rfl, rfl⟩) l1 rfl rfl ?_
  refine g_ald (pc' := 3) cd_Le_noteTaken rfl (Or.inr ⟨_, rfl, rfl, rfl⟩) l0 rfl rfl ?_
  refine g_fI (c := 4) (k := 9) (x := (bm_FI B 4 9 11)) (pc' := 6) cd_Le_noteTaken rfl rfl rfl rfl rfl (by decide) hR.1.1.1 hR.1.1.2 rfl ?_
  refine g_calli (pc' := 9) cd_Le_noteTaken rfl rfl rfl rfl rfl (tm_invV rfl rfl cd_Le_letterWith rfl (Nat.le_of_ble_eq_true rfl) (by decide) hR.1.1.1 hR.1.1.2) (t_letterWith hT hR hR.2.1.2.2.1.2.2.1 ?_)
  show bm_G _ _ _ 9 _ [.int (lg_with bd ct)] B _
  refine g_ist (pc' := 10) cd_Le_noteTaken rfl (Or.inr ⟨_, rfl, rfl, rfl⟩) (by decide) rfl (fun lv el => ?_)
  have l0 := tm_lk el l0 rfl (by decide)
  have l1 := tm_lk el l1 rfl (by decide)
  have l2 := tm_lk el l2 rfl (by decide)
  have l3 : lv.lookup 3 = some (.int (lg_with bd ct)) := tm_lks el
  clear el
  refine g_ald (pc' := 11) cd_Le_noteTaken rfl (Or.inr ⟨_, rfl, rfl, rfl⟩) l0 rfl rfl ?_
  refine g_ild (pc' := 12) cd_Le_noteTaken rfl (Or.inr ⟨_, rfl, rfl, rfl⟩) l3 rfl ?_
  refine g_ild (pc' := 13) cd_Le_noteTaken rfl (Or.inr ⟨_, rfl, rfl, rfl⟩) l2 rfl ?_
  refine g_calli (pc' := 16) cd_Le_noteTaken rfl rfl rfl rfl rfl (tm_invV rfl rfl cd_Le_isSentSo rfl (Nat.le_of_ble_eq_true rfl) (by decide) hR.1.1.1 hR.1.1.2) (t_sentSo0 hR hl ?_)
  show bm_G _ _ _ 16 _ [.int 0] B _
  refine g_ist (pc' := 18) cd_Le_noteTaken rfl (Or.inl ⟨rfl, rfl⟩) (by decide) rfl (fun lv el => ?_)
  have l0 := tm_lk el l0 rfl (by decide)
  have l1 := tm_lk el l1 rfl (by decide)
  have l2 := tm_lk el l2 rfl (by decide)
  have l3 := tm_lk el l3 rfl (by decide)
  have l4 : lv.lookup 4 = some (.int 0) := tm_lks el
  clear el
  refine g_ald (pc' := 19) cd_Le_noteTaken rfl (Or.inr ⟨_, rfl, rfl, rfl⟩) l0 rfl rfl ?_
  refine g_fI (c := 4) (k := 12) (x := li) (pc' := 22) cd_Le_noteTaken rfl rfl rfl rfl rfl (by decide) hR.1.1.1 hR.1.1.2 hR.2.1.2.2.2.1 ?_
  refine g_ild (pc' := 23) cd_Le_noteTaken rfl (Or.inr ⟨_, rfl, rfl, rfl⟩) l2 rfl ?_
  refine g_calli (pc' := 26) cd_Le_noteTaken rfl rfl rfl rfl rfl (tm_invS rfl rfl cd_Ho_hasBit rfl (Nat.le_of_ble_eq_true rfl)) (t_hasBit ?_)
  show bm_G _ _ _ 26 _ [.int (bz (hbit li (nI p)))] B _
  refine g_if1 (t := 90) (pc' := 29) cd_Le_noteTaken rfl rfl rfl (fun c26 => ?_) (fun c26 => ?_)
  · have c26 : (hbit li (nI p)) = true := bz_t c26
    have n26 := c26
    refine g_ald (pc' := 91) cd_Le_noteTaken rfl (Or.inr ⟨_, rfl, rfl, rfl⟩) l0 rfl rfl ?_
    refine g_ild (pc' := 92) cd_Le_noteTaken rfl (Or.inr ⟨_, rfl, rfl, rfl⟩) l3 rfl ?_
    refine g_calli (pc' := 95) cd_Le_noteTaken rfl rfl rfl rfl rfl (tm_invV rfl rfl cd_Le_has rfl (Nat.le_of_ble_eq_true rfl) (by decide) hR.1.1.1 hR.1.1.2) (t_Lhas hR ?_)
    rw [hl]
    show bm_G _ _ _ _ _ (.int 0 :: _) _ _
    show bm_G _ _ _ 95 _ [.int 0] B _
    refine g_if1 (t := 116) (pc' := 98) cd_Le_noteTaken rfl rfl rfl (fun c95 => ?_) (fun c95 => ?_)
    · have c95 : (0 : Int32) = 0 := c95
      refine g_ild (pc' := 118) cd_Le_noteTaken rfl (Or.inl ⟨rfl, rfl⟩) l4 rfl ?_
      refine g_if1 (t := 160) (pc' := 121) cd_Le_noteTaken rfl rfl rfl (fun c118 => ?_) (fun c118 => ?_)
      · have c118 : (0 : Int32) = 0 := c118
        have n118 := c118
        refine g_ald (pc' := 161) cd_Le_noteTaken rfl (Or.inr ⟨_, rfl, rfl, rfl⟩) l0 rfl rfl ?_
        refine g_fR (c := 4) (k := 3) (x := 15) (pc' := 164) cd_Le_noteTaken rfl rfl rfl rfl rfl (by decide) hR.1.1.1 hR.1.1.2 hR.1.2.1.2.2.2.1 ?_
        refine g_ild (pc' := 165) cd_Le_noteTaken rfl (Or.inr ⟨_, rfl, rfl, rfl⟩) l2 rfl ?_
        refine g_pure (pc' := 166) (st' := [.int (nI p), .ref 15, .int (nI p), .ref 15]) cd_Le_noteTaken rfl rfl (fun _ _ => rfl) ?_
        refine g_aI (x := (tc p)) (pc' := 167) cd_Le_noteTaken rfl rfl hR.1.2.2.2.2.2.1.1 hR.1.2.2.2.2.2.1.2.1 (by rw [show bm_AL B 15 = 6 from hR.1.2.2.2.2.2.1.2.2]; exact vp_in_nI (by omega) (by decide)) (by rw [nI_clamp (by omega)]; exact congrFun (show bm_AI B 15 = tc from hR.2.1.2.1.2.2.1) p) ?_
        refine g_k1 (v := 1) (pc' := 168) cd_Le_noteTaken rfl (by decide) rfl ?_
        refine g_pure (pc' := 169) (st' := [.int ((tc p) + 1), .int (nI p), .ref 15]) cd_Le_noteTaken rfl rfl (fun _ _ => rfl) ?_
        refine g_iast (pc' := 170) cd_Le_noteTaken rfl rfl hR.1.2.2.2.2.2.1.1 hR.1.2.2.2.2.2.1.2.1 (by rw [show bm_AL B 15 = 6 from hR.1.2.2.2.2.2.1.2.2]; exact vp_in_nI (by omega) (by decide)) ?_
        rw [show (nI p : Int32).toNatClampNeg = p from nI_clamp (by omega)]
        have A622 : bm_AI (bm_setI B 15 p ((tc p) + 1)) 12 = (bm_AI B 12) := ((AI_setn B p ((tc p) + 1) 12 (by decide)).trans (show bm_AI B 12 = (bm_AI B 12) from rfl))
        have A623 : bm_AI (bm_setI B 15 p ((tc p) + 1)) 13 = bd := ((AI_setn B p ((tc p) + 1) 13 (by decide)).trans (show bm_AI B 13 = bd from hR.2.1.2.1.1))
        have A624 : bm_AI (bm_setI B 15 p ((tc p) + 1)) 14 = ll := ((AI_setn B p ((tc p) + 1) 14 (by decide)).trans (show bm_AI B 14 = ll from hR.2.1.2.1.2.1))
        have A625 : bm_AI (bm_setI B 15 p ((tc p) + 1)) 15 = (upd tc p ((tc p) + 1)) := ((AI_set B 15 p ((tc p) + 1)).trans (congrArg (fun f => upd f p ((tc p) + 1)) (show bm_AI B 15 = tc from hR.2.1.2.1.2.2.1)))
        have A626 : bm_AI (bm_setI B 15 p ((tc p) + 1)) 16 = tl := ((AI_setn B p ((tc p) + 1) 16 (by decide)).trans (show bm_AI B 16 = tl from hR.2.1.2.1.2.2.2.1))
        have A627 : bm_AI (bm_setI B 15 p ((tc p) + 1)) 17 = tf := ((AI_setn B p ((tc p) + 1) 17 (by decide)).trans (show bm_AI B 17 = tf from hR.2.1.2.1.2.2.2.2.1))
        have A628 : bm_AI (bm_setI B 15 p ((tc p) + 1)) 18 = tg := ((AI_setn B p ((tc p) + 1) 18 (by decide)).trans (show bm_AI B 18 = tg from hR.2.1.2.1.2.2.2.2.2))
        have Z629 : fz lex B (bm_setI B 15 p ((tc p) + 1)) := fz_trans (fz_rfl _ B) ⟨fr_mono (fun _ q => by unfold lex; omega) (fr_setI _ 15 _ _), rfl, rfl⟩
        refine g_ald (pc' := 171) cd_Le_noteTaken rfl (Or.inr ⟨_, rfl, rfl, rfl⟩) l0 rfl rfl ?_
        refine g_fR (c := 4) (k := 4) (x := 16) (pc' := 174) cd_Le_noteTaken rfl rfl rfl rfl rfl (by decide) hR.1.1.1 hR.1.1.2 hR.1.2.1.2.2.2.2.1 ?_
        refine g_ild (pc' := 175) cd_Le_noteTaken rfl (Or.inr ⟨_, rfl, rfl, rfl⟩) l2 rfl ?_
        refine g_ild (pc' := 176) cd_Le_noteTaken rfl (Or.inr ⟨_, rfl, rfl, rfl⟩) l3 rfl ?_
        refine g_iast (pc' := 177) cd_Le_noteTaken rfl rfl hR.1.2.2.2.2.2.2.1.1 hR.1.2.2.2.2.2.2.1.2.1 (by rw [show bm_AL (bm_setI B 15 p ((tc p) + 1)) 16 = 6 from hR.1.2.2.2.2.2.2.1.2.2]; exact vp_in_nI (by omega) (by decide)) ?_
        rw [show (nI p : Int32).toNatClampNeg = p from nI_clamp (by omega)]
        have A630 : bm_AI (bm_setI (bm_setI B 15 p ((tc p) + 1)) 16 p (lg_with bd ct)) 12 = (bm_AI B 12) := ((AI_setn (bm_setI B 15 p ((tc p) + 1)) p (lg_with bd ct) 12 (by decide)).trans (show bm_AI (bm_setI B 15 p ((tc p) + 1)) 12 = (bm_AI B 12) from A622))
        have A631 : bm_AI (bm_setI (bm_setI B 15 p ((tc p) + 1)) 16 p (lg_with bd ct)) 13 = bd := ((AI_setn (bm_setI B 15 p ((tc p) + 1)) p (lg_with bd ct) 13 (by decide)).trans (show bm_AI (bm_setI B 15 p ((tc p) + 1)) 13 = bd from A623))
        have A632 : bm_AI (bm_setI (bm_setI B 15 p ((tc p) + 1)) 16 p (lg_with bd ct)) 14 = ll := ((AI_setn (bm_setI B 15 p ((tc p) + 1)) p (lg_with bd ct) 14 (by decide)).trans (show bm_AI (bm_setI B 15 p ((tc p) + 1)) 14 = ll from A624))
        have A633 : bm_AI (bm_setI (bm_setI B 15 p ((tc p) + 1)) 16 p (lg_with bd ct)) 15 = (upd tc p ((tc p) + 1)) := ((AI_setn (bm_setI B 15 p ((tc p) + 1)) p (lg_with bd ct) 15 (by decide)).trans (show bm_AI (bm_setI B 15 p ((tc p) + 1)) 15 = (upd tc p ((tc p) + 1)) from A625))
        have A634 : bm_AI (bm_setI (bm_setI B 15 p ((tc p) + 1)) 16 p (lg_with bd ct)) 16 = (upd tl p (lg_with bd ct)) := ((AI_set (bm_setI B 15 p ((tc p) + 1)) 16 p (lg_with bd ct)).trans (congrArg (fun f => upd f p (lg_with bd ct)) (show bm_AI (bm_setI B 15 p ((tc p) + 1)) 16 = tl from A626)))
        have A635 : bm_AI (bm_setI (bm_setI B 15 p ((tc p) + 1)) 16 p (lg_with bd ct)) 17 = tf := ((AI_setn (bm_setI B 15 p ((tc p) + 1)) p (lg_with bd ct) 17 (by decide)).trans (show bm_AI (bm_setI B 15 p ((tc p) + 1)) 17 = tf from A627))
        have A636 : bm_AI (bm_setI (bm_setI B 15 p ((tc p) + 1)) 16 p (lg_with bd ct)) 18 = tg := ((AI_setn (bm_setI B 15 p ((tc p) + 1)) p (lg_with bd ct) 18 (by decide)).trans (show bm_AI (bm_setI B 15 p ((tc p) + 1)) 18 = tg from A628))
        have Z637 : fz lex B (bm_setI (bm_setI B 15 p ((tc p) + 1)) 16 p (lg_with bd ct)) := fz_trans Z629 ⟨fr_mono (fun _ q => by unfold lex; omega) (fr_setI _ 16 _ _), rfl, rfl⟩
        refine g_ald (pc' := 178) cd_Le_noteTaken rfl (Or.inr ⟨_, rfl, rfl, rfl⟩) l0 rfl rfl ?_
        refine g_fR (c := 4) (k := 5) (x := 17) (pc' := 181) cd_Le_noteTaken rfl rfl rfl rfl rfl (by decide) hR.1.1.1 hR.1.1.2 hR.1.2.1.2.2.2.2.2.1 ?_
        refine g_ild (pc' := 182) cd_Le_noteTaken rfl (Or.inr ⟨_, rfl, rfl, rfl⟩) l2 rfl ?_
        refine g_ald (pc' := 183) cd_Le_noteTaken rfl (Or.inr ⟨_, rfl, rfl, rfl⟩) l0 rfl rfl ?_
        refine g_fI (c := 4) (k := 7) (x := cf) (pc' := 186) cd_Le_noteTaken rfl rfl rfl rfl rfl (by decide) hR.1.1.1 hR.1.1.2 hR.2.1.2.2.1.1 ?_
        refine g_iast (pc' := 187) cd_Le_noteTaken rfl rfl hR.1.2.2.2.2.2.2.2.1.1 hR.1.2.2.2.2.2.2.2.1.2.1 (by rw [show bm_AL (bm_setI (bm_setI B 15 p ((tc p) + 1)) 16 p (lg_with bd ct)) 17 = 6 from hR.1.2.2.2.2.2.2.2.1.2.2]; exact vp_in_nI (by omega) (by decide)) ?_
        rw [show (nI p : Int32).toNatClampNeg = p from nI_clamp (by omega)]
        have A638 : bm_AI (bm_setI (bm_setI (bm_setI B 15 p ((tc p) + 1)) 16 p (lg_with bd ct)) 17 p cf) 12 = (bm_AI B 12) := ((AI_setn (bm_setI (bm_setI B 15 p ((tc p) + 1)) 16 p (lg_with bd ct)) p cf 12 (by decide)).trans (show bm_AI (bm_setI (bm_setI B 15 p ((tc p) + 1)) 16 p (lg_with bd ct)) 12 = (bm_AI B 12) from A630))
        have A639 : bm_AI (bm_setI (bm_setI (bm_setI B 15 p ((tc p) + 1)) 16 p (lg_with bd ct)) 17 p cf) 13 = bd := ((AI_setn (bm_setI (bm_setI B 15 p ((tc p) + 1)) 16 p (lg_with bd ct)) p cf 13 (by decide)).trans (show bm_AI (bm_setI (bm_setI B 15 p ((tc p) + 1)) 16 p (lg_with bd ct)) 13 = bd from A631))
        have A640 : bm_AI (bm_setI (bm_setI (bm_setI B 15 p ((tc p) + 1)) 16 p (lg_with bd ct)) 17 p cf) 14 = ll := ((AI_setn (bm_setI (bm_setI B 15 p ((tc p) + 1)) 16 p (lg_with bd ct)) p cf 14 (by decide)).trans (show bm_AI (bm_setI (bm_setI B 15 p ((tc p) + 1)) 16 p (lg_with bd ct)) 14 = ll from A632))
        have A641 : bm_AI (bm_setI (bm_setI (bm_setI B 15 p ((tc p) + 1)) 16 p (lg_with bd ct)) 17 p cf) 15 = (upd tc p ((tc p) + 1)) := ((AI_setn (bm_setI (bm_setI B 15 p ((tc p) + 1)) 16 p (lg_with bd ct)) p cf 15 (by decide)).trans (show bm_AI (bm_setI (bm_setI B 15 p ((tc p) + 1)) 16 p (lg_with bd ct)) 15 = (upd tc p ((tc p) + 1)) from A633))
        have A642 : bm_AI (bm_setI (bm_setI (bm_setI B 15 p ((tc p) + 1)) 16 p (lg_with bd ct)) 17 p cf) 16 = (upd tl p (lg_with bd ct)) := ((AI_setn (bm_setI (bm_setI B 15 p ((tc p) + 1)) 16 p (lg_with bd ct)) p cf 16 (by decide)).trans (show bm_AI (bm_setI (bm_setI B 15 p ((tc p) + 1)) 16 p (lg_with bd ct)) 16 = (upd tl p (lg_with bd ct)) from A634))
        have A643 : bm_AI (bm_setI (bm_setI (bm_setI B 15 p ((tc p) + 1)) 16 p (lg_with bd ct)) 17 p cf) 17 = (upd tf p cf) := ((AI_set (bm_setI (bm_setI B 15 p ((tc p) + 1)) 16 p (lg_with bd ct)) 17 p cf).trans (congrArg (fun f => upd f p cf) (show bm_AI (bm_setI (bm_setI B 15 p ((tc p) + 1)) 16 p (lg_with bd ct)) 17 = tf from A635)))
        have A644 : bm_AI (bm_setI (bm_setI (bm_setI B 15 p ((tc p) + 1)) 16 p (lg_with bd ct)) 17 p cf) 18 = tg := ((AI_setn (bm_setI (bm_setI B 15 p ((tc p) + 1)) 16 p (lg_with bd ct)) p cf 18 (by decide)).trans (show bm_AI (bm_setI (bm_setI B 15 p ((tc p) + 1)) 16 p (lg_with bd ct)) 18 = tg from A636))
        have Z645 : fz lex B (bm_setI (bm_setI (bm_setI B 15 p ((tc p) + 1)) 16 p (lg_with bd ct)) 17 p cf) := fz_trans Z637 ⟨fr_mono (fun _ q => by unfold lex; omega) (fr_setI _ 17 _ _), rfl, rfl⟩
        refine g_ald (pc' := 188) cd_Le_noteTaken rfl (Or.inr ⟨_, rfl, rfl, rfl⟩) l0 rfl rfl ?_
        refine g_fR (c := 4) (k := 6) (x := 18) (pc' := 191) cd_Le_noteTaken rfl rfl rfl rfl rfl (by decide) hR.1.1.1 hR.1.1.2 hR.1.2.1.2.2.2.2.2.2 ?_
        refine g_ild (pc' := 192) cd_Le_noteTaken rfl (Or.inr ⟨_, rfl, rfl, rfl⟩) l2 rfl ?_
        refine g_ald (pc' := 193) cd_Le_noteTaken rfl (Or.inr ⟨_, rfl, rfl, rfl⟩) l0 rfl rfl ?_
        refine g_fI (c := 4) (k := 8) (x := cg) (pc' := 196) cd_Le_noteTaken rfl rfl rfl rfl rfl (by decide) hR.1.1.1 hR.1.1.2 hR.2.1.2.2.1.2.1 ?_
        refine g_iast (pc' := 197) cd_Le_noteTaken rfl rfl hR.1.2.2.2.2.2.2.2.2.1 hR.1.2.2.2.2.2.2.2.2.2.1 (by rw [show bm_AL (bm_setI (bm_setI (bm_setI B 15 p ((tc p) + 1)) 16 p (lg_with bd ct)) 17 p cf) 18 = 6 from hR.1.2.2.2.2.2.2.2.2.2.2]; exact vp_in_nI (by omega) (by decide)) ?_
        rw [show (nI p : Int32).toNatClampNeg = p from nI_clamp (by omega)]
        have A646 : bm_AI (bm_setI (bm_setI (bm_setI (bm_setI B 15 p ((tc p) + 1)) 16 p (lg_with bd ct)) 17 p cf) 18 p cg) 12 = (bm_AI B 12) := ((AI_setn (bm_setI (bm_setI (bm_setI B 15 p ((tc p) + 1)) 16 p (lg_with bd ct)) 17 p cf) p cg 12 (by decide)).trans (show bm_AI (bm_setI (bm_setI (bm_setI B 15 p ((tc p) + 1)) 16 p (lg_with bd ct)) 17 p cf) 12 = (bm_AI B 12) from A638))
        have A647 : bm_AI (bm_setI (bm_setI (bm_setI (bm_setI B 15 p ((tc p) + 1)) 16 p (lg_with bd ct)) 17 p cf) 18 p cg) 13 = bd := ((AI_setn (bm_setI (bm_setI (bm_setI B 15 p ((tc p) + 1)) 16 p (lg_with bd ct)) 17 p cf) p cg 13 (by decide)).trans (show bm_AI (bm_setI (bm_setI (bm_setI B 15 p ((tc p) + 1)) 16 p (lg_with bd ct)) 17 p cf) 13 = bd from A639))
        have A648 : bm_AI (bm_setI (bm_setI (bm_setI (bm_setI B 15 p ((tc p) + 1)) 16 p (lg_with bd ct)) 17 p cf) 18 p cg) 14 = ll := ((AI_setn (bm_setI (bm_setI (bm_setI B 15 p ((tc p) + 1)) 16 p (lg_with bd ct)) 17 p cf) p cg 14 (by decide)).trans (show bm_AI (bm_setI (bm_setI (bm_setI B 15 p ((tc p) + 1)) 16 p (lg_with bd ct)) 17 p cf) 14 = ll from A640))
        have A649 : bm_AI (bm_setI (bm_setI (bm_setI (bm_setI B 15 p ((tc p) + 1)) 16 p (lg_with bd ct)) 17 p cf) 18 p cg) 15 = (upd tc p ((tc p) + 1)) := ((AI_setn (bm_setI (bm_setI (bm_setI B 15 p ((tc p) + 1)) 16 p (lg_with bd ct)) 17 p cf) p cg 15 (by decide)).trans (show bm_AI (bm_setI (bm_setI (bm_setI B 15 p ((tc p) + 1)) 16 p (lg_with bd ct)) 17 p cf) 15 = (upd tc p ((tc p) + 1)) from A641))
        have A650 : bm_AI (bm_setI (bm_setI (bm_setI (bm_setI B 15 p ((tc p) + 1)) 16 p (lg_with bd ct)) 17 p cf) 18 p cg) 16 = (upd tl p (lg_with bd ct)) := ((AI_setn (bm_setI (bm_setI (bm_setI B 15 p ((tc p) + 1)) 16 p (lg_with bd ct)) 17 p cf) p cg 16 (by decide)).trans (show bm_AI (bm_setI (bm_setI (bm_setI B 15 p ((tc p) + 1)) 16 p (lg_with bd ct)) 17 p cf) 16 = (upd tl p (lg_with bd ct)) from A642))
        have A651 : bm_AI (bm_setI (bm_setI (bm_setI (bm_setI B 15 p ((tc p) + 1)) 16 p (lg_with bd ct)) 17 p cf) 18 p cg) 17 = (upd tf p cf) := ((AI_setn (bm_setI (bm_setI (bm_setI B 15 p ((tc p) + 1)) 16 p (lg_with bd ct)) 17 p cf) p cg 17 (by decide)).trans (show bm_AI (bm_setI (bm_setI (bm_setI B 15 p ((tc p) + 1)) 16 p (lg_with bd ct)) 17 p cf) 17 = (upd tf p cf) from A643))
        have A652 : bm_AI (bm_setI (bm_setI (bm_setI (bm_setI B 15 p ((tc p) + 1)) 16 p (lg_with bd ct)) 17 p cf) 18 p cg) 18 = (upd tg p cg) := ((AI_set (bm_setI (bm_setI (bm_setI B 15 p ((tc p) + 1)) 16 p (lg_with bd ct)) 17 p cf) 18 p cg).trans (congrArg (fun f => upd f p cg) (show bm_AI (bm_setI (bm_setI (bm_setI B 15 p ((tc p) + 1)) 16 p (lg_with bd ct)) 17 p cf) 18 = tg from A644)))
        have Z653 : fz lex B (bm_setI (bm_setI (bm_setI (bm_setI B 15 p ((tc p) + 1)) 16 p (lg_with bd ct)) 17 p cf) 18 p cg) := fz_trans Z645 ⟨fr_mono (fun _ q => by unfold lex; omega) (fr_setI _ 18 _ _), rfl, rfl⟩
        have hRz : RLe (bm_setI (bm_setI (bm_setI (bm_setI B 15 p ((tc p) + 1)) 16 p (lg_with bd ct)) 17 p cf) 18 p cg) T (L, bd, ll, upd tc p (tc p + 1), upd tl p (lg_with bd ct), upd tf p cf, upd tg p cg, cf, cg, ct, co, li, fo, db) := ⟨LgS_fr hR.1 Z653.1, ⟨hR.2.1.1, ⟨A647, A648, A649, A650, A651, A652⟩, hR.2.1.2.2⟩, (by rw [show bm_AI (bm_setI (bm_setI (bm_setI (bm_setI B 15 p ((tc p) + 1)) 16 p (lg_with bd ct)) 17 p cf) 18 p cg) 12 = _ from A646]; exact hR.2.2)⟩
        have hEq : lg_taken (L, bd, ll, tc, tl, tf, tg, cf, cg, ct, co, li, fo, db) p = (L, bd, ll, upd tc p (tc p + 1), upd tl p (lg_with bd ct), upd tf p cf, upd tg p cg, cf, cg, ct, co, li, fo, db) := by unfold lg_taken; dsimp only; rw [lg_get_f hl]; dsimp only; simp [n26]
        exact g_retv cd_Le_noteTaken rfl ⟨rfl, (kk _ (hEq ▸ hRz) Z653)⟩
      · exact absurd (show ¬ (0 : Int32) = 0 from c118) (by decide)
    · exact absurd (show ¬ (0 : Int32) = 0 from c95) (by decide)
  · have c26 : (hbit li (nI p)) = false := bz_f (Classical.not_not.mp c26)
    have n26 := c26
    refine g_ald (pc' := 30) cd_Le_noteTaken rfl (Or.inr ⟨_, rfl, rfl, rfl⟩) l0 rfl rfl ?_
    refine g_fI (c := 4) (k := 12) (x := li) (pc' := 33) cd_Le_noteTaken rfl rfl rfl rfl rfl (by decide) hR.1.1.1 hR.1.1.2 hR.2.1.2.2.2.1 ?_
    refine g_ald (pc' := 34) cd_Le_noteTaken rfl (Or.inr ⟨_, rfl, rfl, rfl⟩) l0 rfl rfl ?_
    refine g_fI (c := 4) (k := 7) (x := cf) (pc' := 37) cd_Le_noteTaken rfl rfl rfl rfl rfl (by decide) hR.1.1.1 hR.1.1.2 hR.2.1.2.2.1.1 ?_
    refine g_calli (pc' := 40) cd_Le_noteTaken rfl rfl rfl rfl rfl (tm_invS rfl rfl cd_Ho_hasBit rfl (Nat.le_of_ble_eq_true rfl)) (t_hasBit ?_)
    show bm_G _ _ _ 40 _ [.int (bz (hbit li cf))] B _
    refine g_if1 (t := 90) (pc' := 43) cd_Le_noteTaken rfl rfl rfl (fun c40 => ?_) (fun c40 => ?_)
    · have c40 : (hbit li cf) = true := bz_t c40
      have n40 := c40
      refine g_ald (pc' := 91) cd_Le_noteTaken rfl (Or.inr ⟨_, rfl, rfl, rfl⟩) l0 rfl rfl ?_
      refine g_ild (pc' := 92) cd_Le_noteTaken rfl (Or.inr ⟨_, rfl, rfl, rfl⟩) l3 rfl ?_
      refine g_calli (pc' := 95) cd_Le_noteTaken rfl rfl rfl rfl rfl (tm_invV rfl rfl cd_Le_has rfl (Nat.le_of_ble_eq_true rfl) (by decide) hR.1.1.1 hR.1.1.2) (t_Lhas hR ?_)
      rw [hl]
      show bm_G _ _ _ _ _ (.int 0 :: _) _ _
      show bm_G _ _ _ 95 _ [.int 0] B _
      refine g_if1 (t := 116) (pc' := 98) cd_Le_noteTaken rfl rfl rfl (fun c95 => ?_) (fun c95 => ?_)
      · have c95 : (0 : Int32) = 0 := c95
        refine g_ild (pc' := 118) cd_Le_noteTaken rfl (Or.inl ⟨rfl, rfl⟩) l4 rfl ?_
        refine g_if1 (t := 160) (pc' := 121) cd_Le_noteTaken rfl rfl rfl (fun c118 => ?_) (fun c118 => ?_)
        · have c118 : (0 : Int32) = 0 := c118
          have n118 := c118
          refine g_ald (pc' := 161) cd_Le_noteTaken rfl (Or.inr ⟨_, rfl, rfl, rfl⟩) l0 rfl rfl ?_
          refine g_fR (c := 4) (k := 3) (x := 15) (pc' := 164) cd_Le_noteTaken rfl rfl rfl rfl rfl (by decide) hR.1.1.1 hR.1.1.2 hR.1.2.1.2.2.2.1 ?_
          refine g_ild (pc' := 165) cd_Le_noteTaken rfl (Or.inr ⟨_, rfl, rfl, rfl⟩) l2 rfl ?_
          refine g_pure (pc' := 166) (st' := [.int (nI p), .ref 15, .int (nI p), .ref 15]) cd_Le_noteTaken rfl rfl (fun _ _ => rfl) ?_
          refine g_aI (x := (tc p)) (pc' := 167) cd_Le_noteTaken rfl rfl hR.1.2.2.2.2.2.1.1 hR.1.2.2.2.2.2.1.2.1 (by rw [show bm_AL B 15 = 6 from hR.1.2.2.2.2.2.1.2.2]; exact vp_in_nI (by omega) (by decide)) (by rw [nI_clamp (by omega)]; exact congrFun (show bm_AI B 15 = tc from hR.2.1.2.1.2.2.1) p) ?_
          refine g_k1 (v := 1) (pc' := 168) cd_Le_noteTaken rfl (by decide) rfl ?_
          refine g_pure (pc' := 169) (st' := [.int ((tc p) + 1), .int (nI p), .ref 15]) cd_Le_noteTaken rfl rfl (fun _ _ => rfl) ?_
          refine g_iast (pc' := 170) cd_Le_noteTaken rfl rfl hR.1.2.2.2.2.2.1.1 hR.1.2.2.2.2.2.1.2.1 (by rw [show bm_AL B 15 = 6 from hR.1.2.2.2.2.2.1.2.2]; exact vp_in_nI (by omega) (by decide)) ?_
          rw [show (nI p : Int32).toNatClampNeg = p from nI_clamp (by omega)]
          have A654 : bm_AI (bm_setI B 15 p ((tc p) + 1)) 12 = (bm_AI B 12) := ((AI_setn B p ((tc p) + 1) 12 (by decide)).trans (show bm_AI B 12 = (bm_AI B 12) from rfl))
          have A655 : bm_AI (bm_setI B 15 p ((tc p) + 1)) 13 = bd := ((AI_setn B p ((tc p) + 1) 13 (by decide)).trans (show bm_AI B 13 = bd from hR.2.1.2.1.1))
          have A656 : bm_AI (bm_setI B 15 p ((tc p) + 1)) 14 = ll := ((AI_setn B p ((tc p) + 1) 14 (by decide)).trans (show bm_AI B 14 = ll from hR.2.1.2.1.2.1))
          have A657 : bm_AI (bm_setI B 15 p ((tc p) + 1)) 15 = (upd tc p ((tc p) + 1)) := ((AI_set B 15 p ((tc p) + 1)).trans (congrArg (fun f => upd f p ((tc p) + 1)) (show bm_AI B 15 = tc from hR.2.1.2.1.2.2.1)))
          have A658 : bm_AI (bm_setI B 15 p ((tc p) + 1)) 16 = tl := ((AI_setn B p ((tc p) + 1) 16 (by decide)).trans (show bm_AI B 16 = tl from hR.2.1.2.1.2.2.2.1))
          have A659 : bm_AI (bm_setI B 15 p ((tc p) + 1)) 17 = tf := ((AI_setn B p ((tc p) + 1) 17 (by decide)).trans (show bm_AI B 17 = tf from hR.2.1.2.1.2.2.2.2.1))
          have A660 : bm_AI (bm_setI B 15 p ((tc p) + 1)) 18 = tg := ((AI_setn B p ((tc p) + 1) 18 (by decide)).trans (show bm_AI B 18 = tg from hR.2.1.2.1.2.2.2.2.2))
          have Z661 : fz lex B (bm_setI B 15 p ((tc p) + 1)) := fz_trans (fz_rfl _ B) ⟨fr_mono (fun _ q => by unfold lex; omega) (fr_setI _ 15 _ _), rfl, rfl⟩
          refine g_ald (pc' := 171) cd_Le_noteTaken rfl (Or.inr ⟨_, rfl, rfl, rfl⟩) l0 rfl rfl ?_
          refine g_fR (c := 4) (k := 4) (x := 16) (pc' := 174) cd_Le_noteTaken rfl rfl rfl rfl rfl (by decide) hR.1.1.1 hR.1.1.2 hR.1.2.1.2.2.2.2.1 ?_
          refine g_ild (pc' := 175) cd_Le_noteTaken rfl (Or.inr ⟨_, rfl, rfl, rfl⟩) l2 rfl ?_
          refine g_ild (pc' := 176) cd_Le_noteTaken rfl (Or.inr ⟨_, rfl, rfl, rfl⟩) l3 rfl ?_
          refine g_iast (pc' := 177) cd_Le_noteTaken rfl rfl hR.1.2.2.2.2.2.2.1.1 hR.1.2.2.2.2.2.2.1.2.1 (by rw [show bm_AL (bm_setI B 15 p ((tc p) + 1)) 16 = 6 from hR.1.2.2.2.2.2.2.1.2.2]; exact vp_in_nI (by omega) (by decide)) ?_
          rw [show (nI p : Int32).toNatClampNeg = p from nI_clamp (by omega)]
          have A662 : bm_AI (bm_setI (bm_setI B 15 p ((tc p) + 1)) 16 p (lg_with bd ct)) 12 = (bm_AI B 12) := ((AI_setn (bm_setI B 15 p ((tc p) + 1)) p (lg_with bd ct) 12 (by decide)).trans (show bm_AI (bm_setI B 15 p ((tc p) + 1)) 12 = (bm_AI B 12) from A654))
          have A663 : bm_AI (bm_setI (bm_setI B 15 p ((tc p) + 1)) 16 p (lg_with bd ct)) 13 = bd := ((AI_setn (bm_setI B 15 p ((tc p) + 1)) p (lg_with bd ct) 13 (by decide)).trans (show bm_AI (bm_setI B 15 p ((tc p) + 1)) 13 = bd from A655))
          have A664 : bm_AI (bm_setI (bm_setI B 15 p ((tc p) + 1)) 16 p (lg_with bd ct)) 14 = ll := ((AI_setn (bm_setI B 15 p ((tc p) + 1)) p (lg_with bd ct) 14 (by decide)).trans (show bm_AI (bm_setI B 15 p ((tc p) + 1)) 14 = ll from A656))
          have A665 : bm_AI (bm_setI (bm_setI B 15 p ((tc p) + 1)) 16 p (lg_with bd ct)) 15 = (upd tc p ((tc p) + 1)) := ((AI_setn (bm_setI B 15 p ((tc p) + 1)) p (lg_with bd ct) 15 (by decide)).trans (show bm_AI (bm_setI B 15 p ((tc p) + 1)) 15 = (upd tc p ((tc p) + 1)) from A657))
          have A666 : bm_AI (bm_setI (bm_setI B 15 p ((tc p) + 1)) 16 p (lg_with bd ct)) 16 = (upd tl p (lg_with bd ct)) := ((AI_set (bm_setI B 15 p ((tc p) + 1)) 16 p (lg_with bd ct)).trans (congrArg (fun f => upd f p (lg_with bd ct)) (show bm_AI (bm_setI B 15 p ((tc p) + 1)) 16 = tl from A658)))
          have A667 : bm_AI (bm_setI (bm_setI B 15 p ((tc p) + 1)) 16 p (lg_with bd ct)) 17 = tf := ((AI_setn (bm_setI B 15 p ((tc p) + 1)) p (lg_with bd ct) 17 (by decide)).trans (show bm_AI (bm_setI B 15 p ((tc p) + 1)) 17 = tf from A659))
          have A668 : bm_AI (bm_setI (bm_setI B 15 p ((tc p) + 1)) 16 p (lg_with bd ct)) 18 = tg := ((AI_setn (bm_setI B 15 p ((tc p) + 1)) p (lg_with bd ct) 18 (by decide)).trans (show bm_AI (bm_setI B 15 p ((tc p) + 1)) 18 = tg from A660))
          have Z669 : fz lex B (bm_setI (bm_setI B 15 p ((tc p) + 1)) 16 p (lg_with bd ct)) := fz_trans Z661 ⟨fr_mono (fun _ q => by unfold lex; omega) (fr_setI _ 16 _ _), rfl, rfl⟩
          refine g_ald (pc' := 178) cd_Le_noteTaken rfl (Or.inr ⟨_, rfl, rfl, rfl⟩) l0 rfl rfl ?_
          refine g_fR (c := 4) (k := 5) (x := 17) (pc' := 181) cd_Le_noteTaken rfl rfl rfl rfl rfl (by decide) hR.1.1.1 hR.1.1.2 hR.1.2.1.2.2.2.2.2.1 ?_
          refine g_ild (pc' := 182) cd_Le_noteTaken rfl (Or.inr ⟨_, rfl, rfl, rfl⟩) l2 rfl ?_
          refine g_ald (pc' := 183) cd_Le_noteTaken rfl (Or.inr ⟨_, rfl, rfl, rfl⟩) l0 rfl rfl ?_
          refine g_fI (c := 4) (k := 7) (x := cf) (pc' := 186) cd_Le_noteTaken rfl rfl rfl rfl rfl (by decide) hR.1.1.1 hR.1.1.2 hR.2.1.2.2.1.1 ?_
          refine g_iast (pc' := 187) cd_Le_noteTaken rfl rfl hR.1.2.2.2.2.2.2.2.1.1 hR.1.2.2.2.2.2.2.2.1.2.1 (by rw [show bm_AL (bm_setI (bm_setI B 15 p ((tc p) + 1)) 16 p (lg_with bd ct)) 17 = 6 from hR.1.2.2.2.2.2.2.2.1.2.2]; exact vp_in_nI (by omega) (by decide)) ?_
          rw [show (nI p : Int32).toNatClampNeg = p from nI_clamp (by omega)]
          have A670 : bm_AI (bm_setI (bm_setI (bm_setI B 15 p ((tc p) + 1)) 16 p (lg_with bd ct)) 17 p cf) 12 = (bm_AI B 12) := ((AI_setn (bm_setI (bm_setI B 15 p ((tc p) + 1)) 16 p (lg_with bd ct)) p cf 12 (by decide)).trans (show bm_AI (bm_setI (bm_setI B 15 p ((tc p) + 1)) 16 p (lg_with bd ct)) 12 = (bm_AI B 12) from A662))
          have A671 : bm_AI (bm_setI (bm_setI (bm_setI B 15 p ((tc p) + 1)) 16 p (lg_with bd ct)) 17 p cf) 13 = bd := ((AI_setn (bm_setI (bm_setI B 15 p ((tc p) + 1)) 16 p (lg_with bd ct)) p cf 13 (by decide)).trans (show bm_AI (bm_setI (bm_setI B 15 p ((tc p) + 1)) 16 p (lg_with bd ct)) 13 = bd from A663))
          have A672 : bm_AI (bm_setI (bm_setI (bm_setI B 15 p ((tc p) + 1)) 16 p (lg_with bd ct)) 17 p cf) 14 = ll := ((AI_setn (bm_setI (bm_setI B 15 p ((tc p) + 1)) 16 p (lg_with bd ct)) p cf 14 (by decide)).trans (show bm_AI (bm_setI (bm_setI B 15 p ((tc p) + 1)) 16 p (lg_with bd ct)) 14 = ll from A664))
          have A673 : bm_AI (bm_setI (bm_setI (bm_setI B 15 p ((tc p) + 1)) 16 p (lg_with bd ct)) 17 p cf) 15 = (upd tc p ((tc p) + 1)) := ((AI_setn (bm_setI (bm_setI B 15 p ((tc p) + 1)) 16 p (lg_with bd ct)) p cf 15 (by decide)).trans (show bm_AI (bm_setI (bm_setI B 15 p ((tc p) + 1)) 16 p (lg_with bd ct)) 15 = (upd tc p ((tc p) + 1)) from A665))
          have A674 : bm_AI (bm_setI (bm_setI (bm_setI B 15 p ((tc p) + 1)) 16 p (lg_with bd ct)) 17 p cf) 16 = (upd tl p (lg_with bd ct)) := ((AI_setn (bm_setI (bm_setI B 15 p ((tc p) + 1)) 16 p (lg_with bd ct)) p cf 16 (by decide)).trans (show bm_AI (bm_setI (bm_setI B 15 p ((tc p) + 1)) 16 p (lg_with bd ct)) 16 = (upd tl p (lg_with bd ct)) from A666))
          have A675 : bm_AI (bm_setI (bm_setI (bm_setI B 15 p ((tc p) + 1)) 16 p (lg_with bd ct)) 17 p cf) 17 = (upd tf p cf) := ((AI_set (bm_setI (bm_setI B 15 p ((tc p) + 1)) 16 p (lg_with bd ct)) 17 p cf).trans (congrArg (fun f => upd f p cf) (show bm_AI (bm_setI (bm_setI B 15 p ((tc p) + 1)) 16 p (lg_with bd ct)) 17 = tf from A667)))
          have A676 : bm_AI (bm_setI (bm_setI (bm_setI B 15 p ((tc p) + 1)) 16 p (lg_with bd ct)) 17 p cf) 18 = tg := ((AI_setn (bm_setI (bm_setI B 15 p ((tc p) + 1)) 16 p (lg_with bd ct)) p cf 18 (by decide)).trans (show bm_AI (bm_setI (bm_setI B 15 p ((tc p) + 1)) 16 p (lg_with bd ct)) 18 = tg from A668))
          have Z677 : fz lex B (bm_setI (bm_setI (bm_setI B 15 p ((tc p) + 1)) 16 p (lg_with bd ct)) 17 p cf) := fz_trans Z669 ⟨fr_mono (fun _ q => by unfold lex; omega) (fr_setI _ 17 _ _), rfl, rfl⟩
          refine g_ald (pc' := 188) cd_Le_noteTaken rfl (Or.inr ⟨_, rfl, rfl, rfl⟩) l0 rfl rfl ?_
          refine g_fR (c := 4) (k := 6) (x := 18) (pc' := 191) cd_Le_noteTaken rfl rfl rfl rfl rfl (by decide) hR.1.1.1 hR.1.1.2 hR.1.2.1.2.2.2.2.2.2 ?_
          refine g_ild (pc' := 192) cd_Le_noteTaken rfl (Or.inr ⟨_, rfl, rfl, rfl⟩) l2 rfl ?_
          refine g_ald (pc' := 193) cd_Le_noteTaken rfl (Or.inr ⟨_, rfl, rfl, rfl⟩) l0 rfl rfl ?_
          refine g_fI (c := 4) (k := 8) (x := cg) (pc' := 196) cd_Le_noteTaken rfl rfl rfl rfl rfl (by decide) hR.1.1.1 hR.1.1.2 hR.2.1.2.2.1.2.1 ?_
          refine g_iast (pc' := 197) cd_Le_noteTaken rfl rfl hR.1.2.2.2.2.2.2.2.2.1 hR.1.2.2.2.2.2.2.2.2.2.1 (by rw [show bm_AL (bm_setI (bm_setI (bm_setI B 15 p ((tc p) + 1)) 16 p (lg_with bd ct)) 17 p cf) 18 = 6 from hR.1.2.2.2.2.2.2.2.2.2.2]; exact vp_in_nI (by omega) (by decide)) ?_
          rw [show (nI p : Int32).toNatClampNeg = p from nI_clamp (by omega)]
          have A678 : bm_AI (bm_setI (bm_setI (bm_setI (bm_setI B 15 p ((tc p) + 1)) 16 p (lg_with bd ct)) 17 p cf) 18 p cg) 12 = (bm_AI B 12) := ((AI_setn (bm_setI (bm_setI (bm_setI B 15 p ((tc p) + 1)) 16 p (lg_with bd ct)) 17 p cf) p cg 12 (by decide)).trans (show bm_AI (bm_setI (bm_setI (bm_setI B 15 p ((tc p) + 1)) 16 p (lg_with bd ct)) 17 p cf) 12 = (bm_AI B 12) from A670))
          have A679 : bm_AI (bm_setI (bm_setI (bm_setI (bm_setI B 15 p ((tc p) + 1)) 16 p (lg_with bd ct)) 17 p cf) 18 p cg) 13 = bd := ((AI_setn (bm_setI (bm_setI (bm_setI B 15 p ((tc p) + 1)) 16 p (lg_with bd ct)) 17 p cf) p cg 13 (by decide)).trans (show bm_AI (bm_setI (bm_setI (bm_setI B 15 p ((tc p) + 1)) 16 p (lg_with bd ct)) 17 p cf) 13 = bd from A671))
          have A680 : bm_AI (bm_setI (bm_setI (bm_setI (bm_setI B 15 p ((tc p) + 1)) 16 p (lg_with bd ct)) 17 p cf) 18 p cg) 14 = ll := ((AI_setn (bm_setI (bm_setI (bm_setI B 15 p ((tc p) + 1)) 16 p (lg_with bd ct)) 17 p cf) p cg 14 (by decide)).trans (show bm_AI (bm_setI (bm_setI (bm_setI B 15 p ((tc p) + 1)) 16 p (lg_with bd ct)) 17 p cf) 14 = ll from A672))
          have A681 : bm_AI (bm_setI (bm_setI (bm_setI (bm_setI B 15 p ((tc p) + 1)) 16 p (lg_with bd ct)) 17 p cf) 18 p cg) 15 = (upd tc p ((tc p) + 1)) := ((AI_setn (bm_setI (bm_setI (bm_setI B 15 p ((tc p) + 1)) 16 p (lg_with bd ct)) 17 p cf) p cg 15 (by decide)).trans (show bm_AI (bm_setI (bm_setI (bm_setI B 15 p ((tc p) + 1)) 16 p (lg_with bd ct)) 17 p cf) 15 = (upd tc p ((tc p) + 1)) from A673))
          have A682 : bm_AI (bm_setI (bm_setI (bm_setI (bm_setI B 15 p ((tc p) + 1)) 16 p (lg_with bd ct)) 17 p cf) 18 p cg) 16 = (upd tl p (lg_with bd ct)) := ((AI_setn (bm_setI (bm_setI (bm_setI B 15 p ((tc p) + 1)) 16 p (lg_with bd ct)) 17 p cf) p cg 16 (by decide)).trans (show bm_AI (bm_setI (bm_setI (bm_setI B 15 p ((tc p) + 1)) 16 p (lg_with bd ct)) 17 p cf) 16 = (upd tl p (lg_with bd ct)) from A674))
          have A683 : bm_AI (bm_setI (bm_setI (bm_setI (bm_setI B 15 p ((tc p) + 1)) 16 p (lg_with bd ct)) 17 p cf) 18 p cg) 17 = (upd tf p cf) := ((AI_setn (bm_setI (bm_setI (bm_setI B 15 p ((tc p) + 1)) 16 p (lg_with bd ct)) 17 p cf) p cg 17 (by decide)).trans (show bm_AI (bm_setI (bm_setI (bm_setI B 15 p ((tc p) + 1)) 16 p (lg_with bd ct)) 17 p cf) 17 = (upd tf p cf) from A675))
          have A684 : bm_AI (bm_setI (bm_setI (bm_setI (bm_setI B 15 p ((tc p) + 1)) 16 p (lg_with bd ct)) 17 p cf) 18 p cg) 18 = (upd tg p cg) := ((AI_set (bm_setI (bm_setI (bm_setI B 15 p ((tc p) + 1)) 16 p (lg_with bd ct)) 17 p cf) 18 p cg).trans (congrArg (fun f => upd f p cg) (show bm_AI (bm_setI (bm_setI (bm_setI B 15 p ((tc p) + 1)) 16 p (lg_with bd ct)) 17 p cf) 18 = tg from A676)))
          have Z685 : fz lex B (bm_setI (bm_setI (bm_setI (bm_setI B 15 p ((tc p) + 1)) 16 p (lg_with bd ct)) 17 p cf) 18 p cg) := fz_trans Z677 ⟨fr_mono (fun _ q => by unfold lex; omega) (fr_setI _ 18 _ _), rfl, rfl⟩
          have hRz : RLe (bm_setI (bm_setI (bm_setI (bm_setI B 15 p ((tc p) + 1)) 16 p (lg_with bd ct)) 17 p cf) 18 p cg) T (L, bd, ll, upd tc p (tc p + 1), upd tl p (lg_with bd ct), upd tf p cf, upd tg p cg, cf, cg, ct, co, li, fo, db) := ⟨LgS_fr hR.1 Z685.1, ⟨hR.2.1.1, ⟨A679, A680, A681, A682, A683, A684⟩, hR.2.1.2.2⟩, (by rw [show bm_AI (bm_setI (bm_setI (bm_setI (bm_setI B 15 p ((tc p) + 1)) 16 p (lg_with bd ct)) 17 p cf) 18 p cg) 12 = _ from A678]; exact hR.2.2)⟩
          have hEq : lg_taken (L, bd, ll, tc, tl, tf, tg, cf, cg, ct, co, li, fo, db) p = (L, bd, ll, upd tc p (tc p + 1), upd tl p (lg_with bd ct), upd tf p cf, upd tg p cg, cf, cg, ct, co, li, fo, db) := by unfold lg_taken; dsimp only; rw [lg_get_f hl]; dsimp only; simp [n26, n40]
          exact g_retv cd_Le_noteTaken rfl ⟨rfl, (kk _ (hEq ▸ hRz) Z685)⟩
        · exact absurd (show ¬ (0 : Int32) = 0 from c118) (by decide)
      · exact absurd (show ¬ (0 : Int32) = 0 from c95) (by decide)
    · have c40 : (hbit li cf) = false := bz_f (Classical.not_not.mp c40)
      have n40 := c40
      refine g_ild (pc' := 45) cd_Le_noteTaken rfl (Or.inl ⟨rfl, rfl⟩) l4 rfl ?_
      refine g_if1 (t := 58) (pc' := 48) cd_Le_noteTaken rfl rfl rfl (fun c45 => ?_) (fun c45 => ?_)
      · exact absurd (show ¬ (0 : Int32) = 0 from c45) (by decide)
      · have c45 : (0 : Int32) = 0 := Classical.not_not.mp c45
        have n45 := c45
        refine g_ald (pc' := 49) cd_Le_noteTaken rfl (Or.inr ⟨_, rfl, rfl, rfl⟩) l0 rfl rfl ?_
        refine g_pure (pc' := 50) (st' := [.ref 11, .ref 11]) cd_Le_noteTaken rfl rfl (fun _ _ => rfl) ?_
        refine g_fI (c := 4) (k := 13) (x := fo) (pc' := 53) cd_Le_noteTaken rfl rfl rfl rfl rfl (by decide) hR.1.1.1 hR.1.1.2 hR.2.1.2.2.2.2.1 ?_
        refine g_k1 (v := 1) (pc' := 54) cd_Le_noteTaken rfl (by decide) rfl ?_
        refine g_pure (pc' := 55) (st' := [.int (fo + 1), .ref 11]) cd_Le_noteTaken rfl rfl (fun _ _ => rfl) ?_
        refine g_putI (c := 4) (k := 13) (pc' := 58) cd_Le_noteTaken rfl rfl rfl rfl (by simp [tm_okV, narrow, fits]) (Or.inl rfl) rfl (by decide) hR.1.1.1 hR.1.1.2 ?_
        have P686 : bm_FI (bm_putI B 4 13 11 (fo + 1)) 4 13 11 = fo + 1 := rfl
        have Z687 : fz lex B (bm_putI B 4 13 11 (fo + 1)) := fz_trans (fz_rfl _ B) ⟨fr_mono (fun _ q => by unfold lex; omega) (fr_putI _ 4 13 11 _), rfl, rfl⟩
        have hR688 : RLe (bm_putI B 4 13 11 (fo + 1)) T (L, bd, ll, tc, tl, tf, tg, cf, cg, ct, co, li, fo + 1, db) := ⟨hR.1, ⟨hR.2.1.1, hR.2.1.2.1, hR.2.1.2.2.1, hR.2.1.2.2.2.1, P686, hR.2.1.2.2.2.2.2⟩, hR.2.2⟩
        have hz688 : fz lex B (bm_putI B 4 13 11 (fo + 1)) := Z687
        generalize (bm_putI B 4 13 11 (fo + 1)) = B688 at hR688 hz688 ⊢
        refine g_ald (pc' := 59) cd_Le_noteTaken rfl (Or.inr ⟨_, rfl, rfl, rfl⟩) l0 rfl rfl ?_
        refine g_ild (pc' := 60) cd_Le_noteTaken rfl (Or.inr ⟨_, rfl, rfl, rfl⟩) l3 rfl ?_
        refine g_calli (pc' := 63) cd_Le_noteTaken rfl rfl rfl rfl rfl (tm_invV rfl rfl cd_Le_has rfl (Nat.le_of_ble_eq_true rfl) (by decide) hR688.1.1.1 hR688.1.1.2) (t_Lhas hR688 ?_)
        rw [hl]
        show bm_G _ _ _ _ _ (.int 0 :: _) _ _
        show bm_G _ _ _ 63 _ [.int 0] B688 _
        refine g_if1 (t := 90) (pc' := 66) cd_Le_noteTaken rfl rfl rfl (fun c63 => ?_) (fun c63 => ?_)
        · have c63 : (0 : Int32) = 0 := c63
          refine g_ald (pc' := 91) cd_Le_noteTaken rfl (Or.inr ⟨_, rfl, rfl, rfl⟩) l0 rfl rfl ?_
          refine g_ild (pc' := 92) cd_Le_noteTaken rfl (Or.inr ⟨_, rfl, rfl, rfl⟩) l3 rfl ?_
          refine g_calli (pc' := 95) cd_Le_noteTaken rfl rfl rfl rfl rfl (tm_invV rfl rfl cd_Le_has rfl (Nat.le_of_ble_eq_true rfl) (by decide) hR688.1.1.1 hR688.1.1.2) (t_Lhas hR688 ?_)
          rw [hl]
          show bm_G _ _ _ _ _ (.int 0 :: _) _ _
          show bm_G _ _ _ 95 _ [.int 0] B688 _
          refine g_if1 (t := 116) (pc' := 98) cd_Le_noteTaken rfl rfl rfl (fun c95 => ?_) (fun c95 => ?_)
          · have c95 : (0 : Int32) = 0 := c95
            refine g_ild (pc' := 118) cd_Le_noteTaken rfl (Or.inl ⟨rfl, rfl⟩) l4 rfl ?_
            refine g_if1 (t := 160) (pc' := 121) cd_Le_noteTaken rfl rfl rfl (fun c118 => ?_) (fun c118 => ?_)
            · have c118 : (0 : Int32) = 0 := c118
              have n118 := c118
              refine g_ald (pc' := 161) cd_Le_noteTaken rfl (Or.inr ⟨_, rfl, rfl, rfl⟩) l0 rfl rfl ?_
              refine g_fR (c := 4) (k := 3) (x := 15) (pc' := 164) cd_Le_noteTaken rfl rfl rfl rfl rfl (by decide) hR688.1.1.1 hR688.1.1.2 hR688.1.2.1.2.2.2.1 ?_
              refine g_ild (pc' := 165) cd_Le_noteTaken rfl (Or.inr ⟨_, rfl, rfl, rfl⟩) l2 rfl ?_
              refine g_pure (pc' := 166) (st' := [.int (nI p), .ref 15, .int (nI p), .ref 15]) cd_Le_noteTaken rfl rfl (fun _ _ => rfl) ?_
              refine g_aI (x := (tc p)) (pc' := 167) cd_Le_noteTaken rfl rfl hR688.1.2.2.2.2.2.1.1 hR688.1.2.2.2.2.2.1.2.1 (by rw [show bm_AL B688 15 = 6 from hR688.1.2.2.2.2.2.1.2.2]; exact vp_in_nI (by omega) (by decide)) (by rw [nI_clamp (by omega)]; exact congrFun (show bm_AI B688 15 = tc from hR688.2.1.2.1.2.2.1) p) ?_
              refine g_k1 (v := 1) (pc' := 168) cd_Le_noteTaken rfl (by decide) rfl ?_
              refine g_pure (pc' := 169) (st' := [.int ((tc p) + 1), .int (nI p), .ref 15]) cd_Le_noteTaken rfl rfl (fun _ _ => rfl) ?_
              refine g_iast (pc' := 170) cd_Le_noteTaken rfl rfl hR688.1.2.2.2.2.2.1.1 hR688.1.2.2.2.2.2.1.2.1 (by rw [show bm_AL B688 15 = 6 from hR688.1.2.2.2.2.2.1.2.2]; exact vp_in_nI (by omega) (by decide)) ?_
              rw [show (nI p : Int32).toNatClampNeg = p from nI_clamp (by omega)]
              have A689 : bm_AI (bm_setI B688 15 p ((tc p) + 1)) 12 = (bm_AI B688 12) := ((AI_setn B688 p ((tc p) + 1) 12 (by decide)).trans (show bm_AI B688 12 = (bm_AI B688 12) from rfl))
              have A690 : bm_AI (bm_setI B688 15 p ((tc p) + 1)) 13 = bd := ((AI_setn B688 p ((tc p) + 1) 13 (by decide)).trans (show bm_AI B688 13 = bd from hR688.2.1.2.1.1))
              have A691 : bm_AI (bm_setI B688 15 p ((tc p) + 1)) 14 = ll := ((AI_setn B688 p ((tc p) + 1) 14 (by decide)).trans (show bm_AI B688 14 = ll from hR688.2.1.2.1.2.1))
              have A692 : bm_AI (bm_setI B688 15 p ((tc p) + 1)) 15 = (upd tc p ((tc p) + 1)) := ((AI_set B688 15 p ((tc p) + 1)).trans (congrArg (fun f => upd f p ((tc p) + 1)) (show bm_AI B688 15 = tc from hR688.2.1.2.1.2.2.1)))
              have A693 : bm_AI (bm_setI B688 15 p ((tc p) + 1)) 16 = tl := ((AI_setn B688 p ((tc p) + 1) 16 (by decide)).trans (show bm_AI B688 16 = tl from hR688.2.1.2.1.2.2.2.1))
              have A694 : bm_AI (bm_setI B688 15 p ((tc p) + 1)) 17 = tf := ((AI_setn B688 p ((tc p) + 1) 17 (by decide)).trans (show bm_AI B688 17 = tf from hR688.2.1.2.1.2.2.2.2.1))
              have A695 : bm_AI (bm_setI B688 15 p ((tc p) + 1)) 18 = tg := ((AI_setn B688 p ((tc p) + 1) 18 (by decide)).trans (show bm_AI B688 18 = tg from hR688.2.1.2.1.2.2.2.2.2))
              have Z696 : fz lex B688 (bm_setI B688 15 p ((tc p) + 1)) := fz_trans (fz_rfl _ B688) ⟨fr_mono (fun _ q => by unfold lex; omega) (fr_setI _ 15 _ _), rfl, rfl⟩
              refine g_ald (pc' := 171) cd_Le_noteTaken rfl (Or.inr ⟨_, rfl, rfl, rfl⟩) l0 rfl rfl ?_
              refine g_fR (c := 4) (k := 4) (x := 16) (pc' := 174) cd_Le_noteTaken rfl rfl rfl rfl rfl (by decide) hR688.1.1.1 hR688.1.1.2 hR688.1.2.1.2.2.2.2.1 ?_
              refine g_ild (pc' := 175) cd_Le_noteTaken rfl (Or.inr ⟨_, rfl, rfl, rfl⟩) l2 rfl ?_
              refine g_ild (pc' := 176) cd_Le_noteTaken rfl (Or.inr ⟨_, rfl, rfl, rfl⟩) l3 rfl ?_
              refine g_iast (pc' := 177) cd_Le_noteTaken rfl rfl hR688.1.2.2.2.2.2.2.1.1 hR688.1.2.2.2.2.2.2.1.2.1 (by rw [show bm_AL (bm_setI B688 15 p ((tc p) + 1)) 16 = 6 from hR688.1.2.2.2.2.2.2.1.2.2]; exact vp_in_nI (by omega) (by decide)) ?_
              rw [show (nI p : Int32).toNatClampNeg = p from nI_clamp (by omega)]
              have A697 : bm_AI (bm_setI (bm_setI B688 15 p ((tc p) + 1)) 16 p (lg_with bd ct)) 12 = (bm_AI B688 12) := ((AI_setn (bm_setI B688 15 p ((tc p) + 1)) p (lg_with bd ct) 12 (by decide)).trans (show bm_AI (bm_setI B688 15 p ((tc p) + 1)) 12 = (bm_AI B688 12) from A689))
              have A698 : bm_AI (bm_setI (bm_setI B688 15 p ((tc p) + 1)) 16 p (lg_with bd ct)) 13 = bd := ((AI_setn (bm_setI B688 15 p ((tc p) + 1)) p (lg_with bd ct) 13 (by decide)).trans (show bm_AI (bm_setI B688 15 p ((tc p) + 1)) 13 = bd from A690))
              have A699 : bm_AI (bm_setI (bm_setI B688 15 p ((tc p) + 1)) 16 p (lg_with bd ct)) 14 = ll := ((AI_setn (bm_setI B688 15 p ((tc p) + 1)) p (lg_with bd ct) 14 (by decide)).trans (show bm_AI (bm_setI B688 15 p ((tc p) + 1)) 14 = ll from A691))
              have A700 : bm_AI (bm_setI (bm_setI B688 15 p ((tc p) + 1)) 16 p (lg_with bd ct)) 15 = (upd tc p ((tc p) + 1)) := ((AI_setn (bm_setI B688 15 p ((tc p) + 1)) p (lg_with bd ct) 15 (by decide)).trans (show bm_AI (bm_setI B688 15 p ((tc p) + 1)) 15 = (upd tc p ((tc p) + 1)) from A692))
              have A701 : bm_AI (bm_setI (bm_setI B688 15 p ((tc p) + 1)) 16 p (lg_with bd ct)) 16 = (upd tl p (lg_with bd ct)) := ((AI_set (bm_setI B688 15 p ((tc p) + 1)) 16 p (lg_with bd ct)).trans (congrArg (fun f => upd f p (lg_with bd ct)) (show bm_AI (bm_setI B688 15 p ((tc p) + 1)) 16 = tl from A693)))
              have A702 : bm_AI (bm_setI (bm_setI B688 15 p ((tc p) + 1)) 16 p (lg_with bd ct)) 17 = tf := ((AI_setn (bm_setI B688 15 p ((tc p) + 1)) p (lg_with bd ct) 17 (by decide)).trans (show bm_AI (bm_setI B688 15 p ((tc p) + 1)) 17 = tf from A694))
              have A703 : bm_AI (bm_setI (bm_setI B688 15 p ((tc p) + 1)) 16 p (lg_with bd ct)) 18 = tg := ((AI_setn (bm_setI B688 15 p ((tc p) + 1)) p (lg_with bd ct) 18 (by decide)).trans (show bm_AI (bm_setI B688 15 p ((tc p) + 1)) 18 = tg from A695))
              have Z704 : fz lex B688 (bm_setI (bm_setI B688 15 p ((tc p) + 1)) 16 p (lg_with bd ct)) := fz_trans Z696 ⟨fr_mono (fun _ q => by unfold lex; omega) (fr_setI _ 16 _ _), rfl, rfl⟩
              refine g_ald (pc' := 178) cd_Le_noteTaken rfl (Or.inr ⟨_, rfl, rfl, rfl⟩) l0 rfl rfl ?_
              refine g_fR (c := 4) (k := 5) (x := 17) (pc' := 181) cd_Le_noteTaken rfl rfl rfl rfl rfl (by decide) hR688.1.1.1 hR688.1.1.2 hR688.1.2.1.2.2.2.2.2.1 ?_
              refine g_ild (pc' := 182) cd_Le_noteTaken rfl (Or.inr ⟨_, rfl, rfl, rfl⟩) l2 rfl ?_
              refine g_ald (pc' := 183) cd_Le_noteTaken rfl (Or.inr ⟨_, rfl, rfl, rfl⟩) l0 rfl rfl ?_
              refine g_fI (c := 4) (k := 7) (x := cf) (pc' := 186) cd_Le_noteTaken rfl rfl rfl rfl rfl (by decide) hR688.1.1.1 hR688.1.1.2 hR688.2.1.2.2.1.1 ?_
              refine g_iast (pc' := 187) cd_Le_noteTaken rfl rfl hR688.1.2.2.2.2.2.2.2.1.1 hR688.1.2.2.2.2.2.2.2.1.2.1 (by rw [show bm_AL (bm_setI (bm_setI B688 15 p ((tc p) + 1)) 16 p (lg_with bd ct)) 17 = 6 from hR688.1.2.2.2.2.2.2.2.1.2.2]; exact vp_in_nI (by omega) (by decide)) ?_
              rw [show (nI p : Int32).toNatClampNeg = p from nI_clamp (by omega)]
              have A705 : bm_AI (bm_setI (bm_setI (bm_setI B688 15 p ((tc p) + 1)) 16 p (lg_with bd ct)) 17 p cf) 12 = (bm_AI B688 12) := ((AI_setn (bm_setI (bm_setI B688 15 p ((tc p) + 1)) 16 p (lg_with bd ct)) p cf 12 (by decide)).trans (show bm_AI (bm_setI (bm_setI B688 15 p ((tc p) + 1)) 16 p (lg_with bd ct)) 12 = (bm_AI B688 12) from A697))
              have A706 : bm_AI (bm_setI (bm_setI (bm_setI B688 15 p ((tc p) + 1)) 16 p (lg_with bd ct)) 17 p cf) 13 = bd := ((AI_setn (bm_setI (bm_setI B688 15 p ((tc p) + 1)) 16 p (lg_with bd ct)) p cf 13 (by decide)).trans (show bm_AI (bm_setI (bm_setI B688 15 p ((tc p) + 1)) 16 p (lg_with bd ct)) 13 = bd from A698))
              have A707 : bm_AI (bm_setI (bm_setI (bm_setI B688 15 p ((tc p) + 1)) 16 p (lg_with bd ct)) 17 p cf) 14 = ll := ((AI_setn (bm_setI (bm_setI B688 15 p ((tc p) + 1)) 16 p (lg_with bd ct)) p cf 14 (by decide)).trans (show bm_AI (bm_setI (bm_setI B688 15 p ((tc p) + 1)) 16 p (lg_with bd ct)) 14 = ll from A699))
              have A708 : bm_AI (bm_setI (bm_setI (bm_setI B688 15 p ((tc p) + 1)) 16 p (lg_with bd ct)) 17 p cf) 15 = (upd tc p ((tc p) + 1)) := ((AI_setn (bm_setI (bm_setI B688 15 p ((tc p) + 1)) 16 p (lg_with bd ct)) p cf 15 (by decide)).trans (show bm_AI (bm_setI (bm_setI B688 15 p ((tc p) + 1)) 16 p (lg_with bd ct)) 15 = (upd tc p ((tc p) + 1)) from A700))
              have A709 : bm_AI (bm_setI (bm_setI (bm_setI B688 15 p ((tc p) + 1)) 16 p (lg_with bd ct)) 17 p cf) 16 = (upd tl p (lg_with bd ct)) := ((AI_setn (bm_setI (bm_setI B688 15 p ((tc p) + 1)) 16 p (lg_with bd ct)) p cf 16 (by decide)).trans (show bm_AI (bm_setI (bm_setI B688 15 p ((tc p) + 1)) 16 p (lg_with bd ct)) 16 = (upd tl p (lg_with bd ct)) from A701))
              have A710 : bm_AI (bm_setI (bm_setI (bm_setI B688 15 p ((tc p) + 1)) 16 p (lg_with bd ct)) 17 p cf) 17 = (upd tf p cf) := ((AI_set (bm_setI (bm_setI B688 15 p ((tc p) + 1)) 16 p (lg_with bd ct)) 17 p cf).trans (congrArg (fun f => upd f p cf) (show bm_AI (bm_setI (bm_setI B688 15 p ((tc p) + 1)) 16 p (lg_with bd ct)) 17 = tf from A702)))
              have A711 : bm_AI (bm_setI (bm_setI (bm_setI B688 15 p ((tc p) + 1)) 16 p (lg_with bd ct)) 17 p cf) 18 = tg := ((AI_setn (bm_setI (bm_setI B688 15 p ((tc p) + 1)) 16 p (lg_with bd ct)) p cf 18 (by decide)).trans (show bm_AI (bm_setI (bm_setI B688 15 p ((tc p) + 1)) 16 p (lg_with bd ct)) 18 = tg from A703))
              have Z712 : fz lex B688 (bm_setI (bm_setI (bm_setI B688 15 p ((tc p) + 1)) 16 p (lg_with bd ct)) 17 p cf) := fz_trans Z704 ⟨fr_mono (fun _ q => by unfold lex; omega) (fr_setI _ 17 _ _), rfl, rfl⟩
              refine g_ald (pc' := 188) cd_Le_noteTaken rfl (Or.inr ⟨_, rfl, rfl, rfl⟩) l0 rfl rfl ?_
              refine g_fR (c := 4) (k := 6) (x := 18) (pc' := 191) cd_Le_noteTaken rfl rfl rfl rfl rfl (by decide) hR688.1.1.1 hR688.1.1.2 hR688.1.2.1.2.2.2.2.2.2 ?_
              refine g_ild (pc' := 192) cd_Le_noteTaken rfl (Or.inr ⟨_, rfl, rfl, rfl⟩) l2 rfl ?_
              refine g_ald (pc' := 193) cd_Le_noteTaken rfl (Or.inr ⟨_, rfl, rfl, rfl⟩) l0 rfl rfl ?_
              refine g_fI (c := 4) (k := 8) (x := cg) (pc' := 196) cd_Le_noteTaken rfl rfl rfl rfl rfl (by decide) hR688.1.1.1 hR688.1.1.2 hR688.2.1.2.2.1.2.1 ?_
              refine g_iast (pc' := 197) cd_Le_noteTaken rfl rfl hR688.1.2.2.2.2.2.2.2.2.1 hR688.1.2.2.2.2.2.2.2.2.2.1 (by rw [show bm_AL (bm_setI (bm_setI (bm_setI B688 15 p ((tc p) + 1)) 16 p (lg_with bd ct)) 17 p cf) 18 = 6 from hR688.1.2.2.2.2.2.2.2.2.2.2]; exact vp_in_nI (by omega) (by decide)) ?_
              rw [show (nI p : Int32).toNatClampNeg = p from nI_clamp (by omega)]
              have A713 : bm_AI (bm_setI (bm_setI (bm_setI (bm_setI B688 15 p ((tc p) + 1)) 16 p (lg_with bd ct)) 17 p cf) 18 p cg) 12 = (bm_AI B688 12) := ((AI_setn (bm_setI (bm_setI (bm_setI B688 15 p ((tc p) + 1)) 16 p (lg_with bd ct)) 17 p cf) p cg 12 (by decide)).trans (show bm_AI (bm_setI (bm_setI (bm_setI B688 15 p ((tc p) + 1)) 16 p (lg_with bd ct)) 17 p cf) 12 = (bm_AI B688 12) from A705))
              have A714 : bm_AI (bm_setI (bm_setI (bm_setI (bm_setI B688 15 p ((tc p) + 1)) 16 p (lg_with bd ct)) 17 p cf) 18 p cg) 13 = bd := ((AI_setn (bm_setI (bm_setI (bm_setI B688 15 p ((tc p) + 1)) 16 p (lg_with bd ct)) 17 p cf) p cg 13 (by decide)).trans (show bm_AI (bm_setI (bm_setI (bm_setI B688 15 p ((tc p) + 1)) 16 p (lg_with bd ct)) 17 p cf) 13 = bd from A706))
              have A715 : bm_AI (bm_setI (bm_setI (bm_setI (bm_setI B688 15 p ((tc p) + 1)) 16 p (lg_with bd ct)) 17 p cf) 18 p cg) 14 = ll := ((AI_setn (bm_setI (bm_setI (bm_setI B688 15 p ((tc p) + 1)) 16 p (lg_with bd ct)) 17 p cf) p cg 14 (by decide)).trans (show bm_AI (bm_setI (bm_setI (bm_setI B688 15 p ((tc p) + 1)) 16 p (lg_with bd ct)) 17 p cf) 14 = ll from A707))
              have A716 : bm_AI (bm_setI (bm_setI (bm_setI (bm_setI B688 15 p ((tc p) + 1)) 16 p (lg_with bd ct)) 17 p cf) 18 p cg) 15 = (upd tc p ((tc p) + 1)) := ((AI_setn (bm_setI (bm_setI (bm_setI B688 15 p ((tc p) + 1)) 16 p (lg_with bd ct)) 17 p cf) p cg 15 (by decide)).trans (show bm_AI (bm_setI (bm_setI (bm_setI B688 15 p ((tc p) + 1)) 16 p (lg_with bd ct)) 17 p cf) 15 = (upd tc p ((tc p) + 1)) from A708))
              have A717 : bm_AI (bm_setI (bm_setI (bm_setI (bm_setI B688 15 p ((tc p) + 1)) 16 p (lg_with bd ct)) 17 p cf) 18 p cg) 16 = (upd tl p (lg_with bd ct)) := ((AI_setn (bm_setI (bm_setI (bm_setI B688 15 p ((tc p) + 1)) 16 p (lg_with bd ct)) 17 p cf) p cg 16 (by decide)).trans (show bm_AI (bm_setI (bm_setI (bm_setI B688 15 p ((tc p) + 1)) 16 p (lg_with bd ct)) 17 p cf) 16 = (upd tl p (lg_with bd ct)) from A709))
              have A718 : bm_AI (bm_setI (bm_setI (bm_setI (bm_setI B688 15 p ((tc p) + 1)) 16 p (lg_with bd ct)) 17 p cf) 18 p cg) 17 = (upd tf p cf) := ((AI_setn (bm_setI (bm_setI (bm_setI B688 15 p ((tc p) + 1)) 16 p (lg_with bd ct)) 17 p cf) p cg 17 (by decide)).trans (show bm_AI (bm_setI (bm_setI (bm_setI B688 15 p ((tc p) + 1)) 16 p (lg_with bd ct)) 17 p cf) 17 = (upd tf p cf) from A710))
              have A719 : bm_AI (bm_setI (bm_setI (bm_setI (bm_setI B688 15 p ((tc p) + 1)) 16 p (lg_with bd ct)) 17 p cf) 18 p cg) 18 = (upd tg p cg) := ((AI_set (bm_setI (bm_setI (bm_setI B688 15 p ((tc p) + 1)) 16 p (lg_with bd ct)) 17 p cf) 18 p cg).trans (congrArg (fun f => upd f p cg) (show bm_AI (bm_setI (bm_setI (bm_setI B688 15 p ((tc p) + 1)) 16 p (lg_with bd ct)) 17 p cf) 18 = tg from A711)))
              have Z720 : fz lex B688 (bm_setI (bm_setI (bm_setI (bm_setI B688 15 p ((tc p) + 1)) 16 p (lg_with bd ct)) 17 p cf) 18 p cg) := fz_trans Z712 ⟨fr_mono (fun _ q => by unfold lex; omega) (fr_setI _ 18 _ _), rfl, rfl⟩
              have hRz : RLe (bm_setI (bm_setI (bm_setI (bm_setI B688 15 p ((tc p) + 1)) 16 p (lg_with bd ct)) 17 p cf) 18 p cg) T (L, bd, ll, upd tc p (tc p + 1), upd tl p (lg_with bd ct), upd tf p cf, upd tg p cg, cf, cg, ct, co, li, fo + 1, db) := ⟨LgS_fr hR688.1 Z720.1, ⟨hR688.2.1.1, ⟨A714, A715, A716, A717, A718, A719⟩, hR688.2.1.2.2⟩, (by rw [show bm_AI (bm_setI (bm_setI (bm_setI (bm_setI B688 15 p ((tc p) + 1)) 16 p (lg_with bd ct)) 17 p cf) 18 p cg) 12 = _ from A713]; exact hR688.2.2)⟩
              have hEq : lg_taken (L, bd, ll, tc, tl, tf, tg, cf, cg, ct, co, li, fo, db) p = (L, bd, ll, upd tc p (tc p + 1), upd tl p (lg_with bd ct), upd tf p cf, upd tg p cg, cf, cg, ct, co, li, fo + 1, db) := by unfold lg_taken; dsimp only; rw [lg_get_f hl]; dsimp only; simp [n26, n40]
              exact g_retv cd_Le_noteTaken rfl ⟨rfl, (kk _ (hEq ▸ hRz) (fz_trans hz688 Z720))⟩
            · exact absurd (show ¬ (0 : Int32) = 0 from c118) (by decide)
          · exact absurd (show ¬ (0 : Int32) = 0 from c95) (by decide)
        · exact absurd (show ¬ (0 : Int32) = 0 from c63) (by decide)
