/-! The attacker's calls on registers -/
def kp (reg : Nat → Tm) (r : Int32) (A : Tm) : Int32 × (Nat → Tm) := if inR r 32 = true ∧ tnil A = false then (1, fset reg r.toNatClampNeg A) else (-1, reg)
theorem tnil_f {A : Tm} (h : A ≠ tz) : tnil A = false := Bool.eq_false_iff.mpr (fun q => h (tnil_iff.mp q))
theorem t_kp {sc : tm_X} {d : Nat} {B : bm_H} {F : Nat → Prop} {N S M ln : Nat} {T : List Tm} {dr : Nat} {K : Tm → Prop} {ca rm kc kl rk : Nat} {ws : List (Tm × Int32)} {wt : List Tm} {G : LG} {ids dir reg : Nat → Tm} {seen : List Tm} {π : Nat → Nat} {w : Nat → SW} {dev : Nat → DV} {sto : Nat → ST} {r x : Int32} {A : Tm} {Q : Int32 → bm_H → Prop} (hC : CK B F N S M ln T dr K ca rm kc kl rk) (hH : RH B T ws wt G ids dir reg seen π w dev sto) (hx : tv T x A) (kk : ∀ B', CK B' F N S M ln T dr K ca rm kc kl rk → RH B' T ws wt G ids dir (kp reg r A).2 seen π w dev sto → fz (fun y => y = 23) B B' → Q (kp reg r A).1 B') : bm_Gi sc (d + 1) 137 [.ref 0, .int r, .int x] B Q := by
  refine t_keep hC hH hx (fun h => ?_) (fun p B' hp er hA hC' hH' hz => ?_)
  · have e : kp reg r A = (-1, reg) := if_neg (fun q => by
      rcases h with h | h
      · rw [h] at q; exact absurd q.1 (by decide)
      · rw [h] at q; exact absurd q.2 (by decide))
    have k2 := kk B
    rw [e] at k2
    exact k2 hC hH (fz_rfl _ B)
  · have e : kp reg r A = (1, fset reg p A) := by
      unfold kp
      rw [if_pos ⟨by rw [er]; exact inR_nI hp (by decide), tnil_f hA⟩, er, nI_clamp (by omega)]
    have k2 := kk B'
    rw [e] at k2
    exact k2 hC' hH' hz
def of_spec (ws : List (Tm × Int32)) (ids dir : Nat → Tm) (seen : List Tm) (a i : Int32) : Tm := if a = 0 then (if inR i (nI ws.length) = true then (ws.getD i.toNatClampNeg (tz, 0)).1 else tz) else if a = 1 then (if inR i 30 = true then dir i.toNatClampNeg else tz) else if a = 2 then (if inR i 6 = true then Tpub (ids i.toNatClampNeg) else tz) else if a = 3 then (if inR i (nI seen.length) = true then seen.getD i.toNatClampNeg tz else tz) else tz
def pa_spec (reg : Nat → Tm) (x a : Int32) : Tm := if inR a 4 = true then (if kd (hl reg x) = 7 then pt (hl reg x) a.toNatClampNeg else tz) else if a = 4 then (if kd (hl reg x) = 5 then pt (hl reg x) 1 else tz) else if a = 5 ∧ kd (hl reg x) = 6 then pt (hl reg x) 1 else tz
noncomputable def un_spec (reg : Nat → Tm) (r x k : Int32) : Int32 × (Nat → Tm) := cif (inR r 32 = true ∧ kd (hl reg x) = 5 ∧ hl reg k ≠ tz) (cif (pt (hl reg x) 0 = hl reg k) (kp reg r (pt (hl reg x) 2)) (0, reg)) (-1, reg)
def co_spec (reg : Nat → Tm) (a : Int32) (X : Tm) (y : Int32) : Tm := if inR a 10 = true then (if tnil (hl reg y) = true ∧ y ≠ -1 then tz else Tmx a X (hl reg y)) else if kd X = 1 then (if a = 10 then Tpub X else if a = 11 then (if kd (hl reg y) = 2 then Tsh X (pt (hl reg y) 0) else tz) else if a = 12 ∧ tnil (hl reg y) = false then Tsg X (hl reg y) else tz) else tz
def mk_spec (reg : Nat → Tm) (r a x y : Int32) : Int32 × (Nat → Tm) := if inR r 32 = true ∧ tnil (hl reg x) = false then kp reg r (co_spec reg a (hl reg x) y) else (-1, reg)
def sl_spec (reg : Nat → Tm) (r k h b : Int32) : Int32 × (Nat → Tm) := if inR r 32 = true ∧ tnil (hl reg k) = false ∧ tnil (hl reg h) = false ∧ tnil (hl reg b) = false then kp reg r (Tsl (hl reg k) (hl reg h) (hl reg b)) else (-1, reg)
def TwK (A : Tm) (v : Int32) : Tm := tn ((lb A).set 1 v) (pt A 0) (pt A 1) (pt A 2) (pt A 3)
def al_spec (reg : Nat → Tm) (r x k v : Int32) : Int32 × (Nat → Tm) := if inR r 32 = true ∧ kd (hl reg x) = 7 ∧ inR k 5 = true ∧ (k = 4 → ¬ v < 1 ∧ v ≤ 7) then kp reg r (if k = 4 then TwK (hl reg x) v else TwN (hl reg x) k.toNatClampNeg v) else (-1, reg)
def sp_spec (reg : Nat → Tm) (r x k y : Int32) : Int32 × (Nat → Tm) := if inR r 32 = true ∧ kd (hl reg x) = 7 ∧ inR k 4 = true ∧ (tnil (hl reg y) = false ∨ y = -1) then kp reg r (TwP (hl reg x) k.toNatClampNeg (hl reg y)) else (-1, reg)
def pl_spec (reg dir : Nat → Tm) (p a r : Int32) : Int32 × (Nat → Tm) := if inR p 6 = true ∧ inR a 5 = true ∧ (tnil (hl reg r) = false ∨ r = -1) then (1, fset dir (p.toNatClampNeg * 5 + a.toNatClampNeg) (hl reg r)) else (-1, dir)
theorem getD_at {α : Type} {l : List α} {i : Nat} {e d : α} (h : l[i]? = some e) : l.getD i d = e := by rw [List.getD_eq_getElem?_getD, h]; rfl
theorem tv_row {T : List Tm} {x : Int32} {A : Tm} (h : Tsp A) (hk : kd A = 7) : ∃ k n0 n1 n2 n3 P0 P1 P2 P3, A = Trw k n0 n1 n2 n3 P0 P1 P2 P3 := by
  rcases h with rfl | ⟨n, e, p, rfl⟩ | ⟨s, -, rfl⟩ | ⟨s, t, -, -, rfl⟩ | ⟨n, s, t, rfl⟩ | ⟨s, t, u, rfl⟩ | ⟨s, t, rfl⟩ | h
  · exact absurd hk (by decide)
  · exact absurd hk (by show ¬ (1 : Int32) = 7; decide)
  · exact absurd hk (by show ¬ (2 : Int32) = 7; decide)
  · exact absurd hk (by show ¬ (3 : Int32) = 7; decide)
  · exact absurd hk (by show ¬ (4 : Int32) = 7; decide)
  · exact absurd hk (by show ¬ (5 : Int32) = 7; decide)
  · exact absurd hk (by show ¬ (6 : Int32) = 7; decide)
  · exact h
theorem RWi_at {B : bm_H} {T : List Tm} {q i : Nat} {ws : List (Tm × Int32)} {wt : List Tm} (h : RWi B T q ws wt) (hi : i < ws.length) : tv T (bm_AI B (q + 1) i) (ws.getD i (tz, 0)).1 ∧ bm_AI B (q + 2) i = (ws.getD i (tz, 0)).2 := by
  obtain ⟨e, he⟩ : ∃ e, ws[i]? = some e := ⟨_, List.getElem?_eq_getElem hi⟩
  rw [getD_at he]
  exact h.2.2.1 i e he
set_option maxRecDepth 100000 in
theorem t_offer {sc : tm_X} {d : Nat} {B : bm_H} {F : Nat → Prop} {N S M ln : Nat} {T : List Tm} {dr : Nat} {K : Tm → Prop} {ca rm kc kl rk : Nat} {ws : List (Tm × Int32)} {wt : List Tm} {G : LG} {ids dir reg : Nat → Tm} {seen : List Tm} {π : Nat → Nat} {w : Nat → SW} {dev : Nat → DV} {sto : Nat → ST} {a i : Int32} {Q : Int32 → bm_H → Prop} (hC : CK B F N S M ln T dr K ca rm kc kl rk) (hH : RH B T ws wt G ids dir reg seen π w dev sto) (kJ : ∀ p, p < 6 → kd (ids p) = 1) (kk : ∀ x, tv T x (of_spec ws ids dir seen a i) → Q x B) : bm_Gi sc (d + 2) 139 [.ref 0, .int a, .int i] B Q := by
  have hz0 : ∀ A, A = tz → of_spec ws ids dir seen a i = A → Q 0 B := fun A e e2 => kk 0 (by rw [e2, e]; exact TI_z hC.1)
  show bm_G sc (d + 2) 139 0 [(0, .ref 0), (1, .int a), (2, .int i)] [] B _
  generalize elv : ([(0, .ref 0), (1, .int a), (2, .int i)] : tm_L) = lv
  have l0 : lv.lookup 0 = some (.ref 0) := by rw [← elv]; rfl
  have l1 : lv.lookup 1 = some (.int a) := by rw [← elv]; rfl
  have l2 : lv.lookup 2 = some (.int i) := by rw [← elv]; rfl
  clear elv
  refine g_ild (pc' := 1) cd_Ho_onOffer rfl (Or.inr ⟨_, rfl, rfl, rfl⟩) l1 rfl ?_
  by_cases s1_0 : a = 0
  · skip
    refine g_swk (pc' := 32) s1_0 cd_Ho_onOffer rfl rfl (fun _ _ => rfl) ?_
    refine g_ald (pc' := 33) cd_Ho_onOffer rfl (Or.inr ⟨_, rfl, rfl, rfl⟩) l0 rfl rfl ?_
    refine g_fR (c := 11) (k := 2) (x := 8) (pc' := 36) cd_Ho_onOffer rfl rfl rfl rfl rfl (by decide) hH.1.1.1 hH.1.1.2 hH.1.2.1.2.2.1 ?_
    refine g_ild (pc' := 37) cd_Ho_onOffer rfl (Or.inr ⟨_, rfl, rfl, rfl⟩) l2 rfl ?_
    refine g_calli (pc' := 40) cd_Ho_onOffer rfl rfl rfl rfl rfl (tm_invV rfl rfl cd_Wi_has rfl (Nat.le_of_ble_eq_true rfl) (by decide) hH.2.1.1.1.1 hH.2.1.1.1.2) (t_Whas hH.2.1 ?_)
    show bm_G _ _ _ 40 _ [.int (bz (inR i (nI ws.length)))] B _
    refine g_if1 (t := 55) (pc' := 43) cd_Ho_onOffer rfl rfl rfl (fun c40 => ?_) (fun c40 => ?_)
    · have c40 : (inR i (nI ws.length)) = false := bz_f c40
      refine g_k1 (v := 0) (pc' := 56) cd_Ho_onOffer rfl (by decide) rfl ?_
      exact g_reti cd_Ho_onOffer rfl ⟨_, rfl, (hz0 tz rfl (by unfold of_spec; rw [if_pos s1_0, if_neg (by rw [c40]; decide)]))⟩
    · have c40 : (inR i (nI ws.length)) = true := bz_t c40
      refine g_ald (pc' := 44) cd_Ho_onOffer rfl (Or.inr ⟨_, rfl, rfl, rfl⟩) l0 rfl rfl ?_
      refine g_fR (c := 11) (k := 2) (x := 8) (pc' := 47) cd_Ho_onOffer rfl rfl rfl rfl rfl (by decide) hH.1.1.1 hH.1.1.2 hH.1.2.1.2.2.1 ?_
      refine g_fR (c := 10) (k := 0) (x := 9) (pc' := 50) cd_Ho_onOffer rfl rfl rfl rfl rfl (by decide) hH.2.1.1.1.1 hH.2.1.1.1.2 hH.2.1.1.2.1.1 ?_
      refine g_ild (pc' := 51) cd_Ho_onOffer rfl (Or.inr ⟨_, rfl, rfl, rfl⟩) l2 rfl ?_
      obtain ⟨j, hj, ej⟩ := inR_of (by have := hH.2.1.2.1.2.2; omega) c40
      have tj := RWi_at hH.2.1 hj
      refine g_aI (x := (bm_AI B 9 j)) (pc' := 52) cd_Ho_onOffer rfl rfl hH.2.1.1.2.2.1.1 hH.2.1.1.2.2.1.2.1 (by rw [show bm_AL B 9 = 700 from hH.2.1.1.2.2.1.2.2, ej]; exact vp_in_nI (by have := hH.2.1.2.1.2.2; omega) (by decide)) (by rw [ej, nI_clamp (by have := hH.2.1.2.1.2.2; omega)]) ?_
      refine g_pure (pc' := 56) (st' := [.int ((bm_AI B 9 j))]) cd_Ho_onOffer rfl rfl (fun _ _ => rfl) ?_
      exact g_reti cd_Ho_onOffer rfl ⟨_, rfl, (kk _ (by unfold of_spec; rw [if_pos s1_0, if_pos c40, ej, nI_clamp (by have := hH.2.1.2.1.2.2; omega)]; exact tj.1))⟩
  by_cases s1_1 : a = 1
  · skip
    refine g_swk (pc' := 57) s1_1 cd_Ho_onOffer rfl rfl (fun _ _ => rfl) ?_
    refine g_ild (pc' := 58) cd_Ho_onOffer rfl (Or.inr ⟨_, rfl, rfl, rfl⟩) l2 rfl ?_
    refine g_if1 (t := 79) (pc' := 61) cd_Ho_onOffer rfl rfl rfl (fun c58 => ?_) (fun c58 => ?_)
    · have c58 : i < 0 := c58
      refine g_k1 (v := 0) (pc' := 80) cd_Ho_onOffer rfl (by decide) rfl ?_
      exact g_reti cd_Ho_onOffer rfl ⟨_, rfl, (hz0 tz rfl (by unfold of_spec; rw [if_neg (by rw [s1_1]; decide), if_pos s1_1, if_neg (by rw [show inR i 30 = false from inR_lo c58]; decide)]))⟩
    · have c58 : ¬ i < 0 := c58
      refine g_ild (pc' := 62) cd_Ho_onOffer rfl (Or.inr ⟨_, rfl, rfl, rfl⟩) l2 rfl ?_
      refine g_ald (pc' := 63) cd_Ho_onOffer rfl (Or.inr ⟨_, rfl, rfl, rfl⟩) l0 rfl rfl ?_
      refine g_fR (c := 11) (k := 7) (x := 22) (pc' := 66) cd_Ho_onOffer rfl rfl rfl rfl rfl (by decide) hH.1.1.1 hH.1.1.2 hH.1.2.1.2.2.2.2.2.2.2.1 ?_
      refine g_al (x := 30) (pc' := 67) cd_Ho_onOffer rfl rfl hH.1.2.2.2.2.2.1.1 (by rw [show bm_K B 22 = 13 from hH.1.2.2.2.2.2.1.2.1]; decide) (by rw [show bm_K B 22 = 13 from hH.1.2.2.2.2.2.1.2.1]; decide) (by rw [show bm_AL B 22 = 30 from hH.1.2.2.2.2.2.1.2.2]; rfl) ?_
      refine g_if2 (t := 79) (pc' := 70) cd_Ho_onOffer rfl rfl rfl (fun c67 => ?_) (fun c67 => ?_)
      · have c67 : (30 : Int32) ≤ i := c67
        refine g_k1 (v := 0) (pc' := 80) cd_Ho_onOffer rfl (by decide) rfl ?_
        exact g_reti cd_Ho_onOffer rfl ⟨_, rfl, (hz0 tz rfl (by unfold of_spec; rw [if_neg (by rw [s1_1]; decide), if_pos s1_1, if_neg (by rw [show inR i 30 = false from inR_hi c67]; decide)]))⟩
      · have c67 : ¬ (30 : Int32) ≤ i := c67
        refine g_ald (pc' := 71) cd_Ho_onOffer rfl (Or.inr ⟨_, rfl, rfl, rfl⟩) l0 rfl rfl ?_
        refine g_fR (c := 11) (k := 7) (x := 22) (pc' := 74) cd_Ho_onOffer rfl rfl rfl rfl rfl (by decide) hH.1.1.1 hH.1.1.2 hH.1.2.1.2.2.2.2.2.2.2.1 ?_
        refine g_ild (pc' := 75) cd_Ho_onOffer rfl (Or.inr ⟨_, rfl, rfl, rfl⟩) l2 rfl ?_
        obtain ⟨j, hj, ej⟩ := inR_of (n := 30) (by decide) (inR_t c58 c67)
        have tj := hH.2.2.2.1.2.1 j hj
        refine g_aI (x := (bm_AI B 22 j)) (pc' := 76) cd_Ho_onOffer rfl rfl hH.1.2.2.2.2.2.1.1 hH.1.2.2.2.2.2.1.2.1 (by rw [show bm_AL B 22 = 30 from hH.1.2.2.2.2.2.1.2.2, ej]; exact vp_in_nI hj (by decide)) (by rw [ej, nI_clamp (by omega)]) ?_
        refine g_pure (pc' := 80) (st' := [.int ((bm_AI B 22 j))]) cd_Ho_onOffer rfl rfl (fun _ _ => rfl) ?_
        exact g_reti cd_Ho_onOffer rfl ⟨_, rfl, (kk _ (by unfold of_spec; rw [if_neg (by rw [s1_1]; decide), if_pos s1_1, if_pos (inR_t c58 c67), ej, nI_clamp (by omega)]; exact tj))⟩
  by_cases s1_2 : a = 2
  · skip
    refine g_swk (pc' := 81) s1_2 cd_Ho_onOffer rfl rfl (fun _ _ => rfl) ?_
    refine g_ild (pc' := 82) cd_Ho_onOffer rfl (Or.inr ⟨_, rfl, rfl, rfl⟩) l2 rfl ?_
    refine g_calli (pc' := 85) cd_Ho_onOffer rfl rfl rfl rfl rfl (tm_invS rfl rfl cd_Ho_isDevice rfl (Nat.le_of_ble_eq_true rfl)) (t_isDevice ?_)
    show bm_G _ _ _ 85 _ [.int (bz (inR i 6))] B _
    refine g_if1 (t := 104) (pc' := 88) cd_Ho_onOffer rfl rfl rfl (fun c85 => ?_) (fun c85 => ?_)
    · have c85 : (inR i 6) = false := bz_f c85
      refine g_k1 (v := 0) (pc' := 105) cd_Ho_onOffer rfl (by decide) rfl ?_
      exact g_reti cd_Ho_onOffer rfl ⟨_, rfl, (hz0 tz rfl (by unfold of_spec; rw [if_neg (by rw [s1_2]; decide), if_neg (by rw [s1_2]; decide), if_pos s1_2, if_neg (by rw [c85]; decide)]))⟩
    · have c85 : (inR i 6) = true := bz_t c85
      refine g_ald (pc' := 89) cd_Ho_onOffer rfl (Or.inr ⟨_, rfl, rfl, rfl⟩) l0 rfl rfl ?_
      refine g_fR (c := 11) (k := 0) (x := 1) (pc' := 92) cd_Ho_onOffer rfl rfl rfl rfl rfl (by decide) hH.1.1.1 hH.1.1.2 hH.1.2.1.1 ?_
      refine g_ald (pc' := 93) cd_Ho_onOffer rfl (Or.inr ⟨_, rfl, rfl, rfl⟩) l0 rfl rfl ?_
      refine g_fR (c := 11) (k := 6) (x := 21) (pc' := 96) cd_Ho_onOffer rfl rfl rfl rfl rfl (by decide) hH.1.1.1 hH.1.1.2 hH.1.2.1.2.2.2.2.2.2.1 ?_
      refine g_ild (pc' := 97) cd_Ho_onOffer rfl (Or.inr ⟨_, rfl, rfl, rfl⟩) l2 rfl ?_
      obtain ⟨j, hj, ej⟩ := inR_of (n := 6) (by decide) c85
      have ti := hH.2.2.2.1.1 j hj
      refine g_aI (x := (bm_AI B 21 j)) (pc' := 98) cd_Ho_onOffer rfl rfl hH.1.2.2.2.2.1.1 hH.1.2.2.2.2.1.2.1 (by rw [show bm_AL B 21 = 6 from hH.1.2.2.2.2.1.2.2, ej]; exact vp_in_nI hj (by decide)) (by rw [ej, nI_clamp (by omega)]) ?_
      refine g_calli (pc' := 101) cd_Ho_onOffer rfl rfl rfl rfl rfl (tm_invV rfl rfl cd_Te_publicOf rfl (Nat.le_of_ble_eq_true rfl) (by decide) hC.1.1.1.1 hC.1.1.1.2) (t_publicOf hC.1 ti (fun r7 ht7 => ?_))
      show bm_G _ _ _ 101 _ [.int r7] B _
      refine g_pure (pc' := 105) (st' := [.int r7]) cd_Ho_onOffer rfl rfl (fun _ _ => rfl) ?_
      exact g_reti cd_Ho_onOffer rfl ⟨_, rfl, (kk _ (by unfold of_spec; rw [if_neg (by rw [s1_2]; decide), if_neg (by rw [s1_2]; decide), if_pos s1_2, if_pos c85, ej, nI_clamp (by omega)]; rw [if_pos (kJ j hj)] at ht7; exact ht7))⟩
  by_cases s1_3 : a = 3
  · skip
    refine g_swk (pc' := 106) s1_3 cd_Ho_onOffer rfl rfl (fun _ _ => rfl) ?_
    refine g_ild (pc' := 107) cd_Ho_onOffer rfl (Or.inr ⟨_, rfl, rfl, rfl⟩) l2 rfl ?_
    refine g_if1 (t := 127) (pc' := 110) cd_Ho_onOffer rfl rfl rfl (fun c107 => ?_) (fun c107 => ?_)
    · have c107 : i < 0 := c107
      refine g_k1 (v := 0) (pc' := 128) cd_Ho_onOffer rfl (by decide) rfl ?_
      exact g_reti cd_Ho_onOffer rfl ⟨_, rfl, (hz0 tz rfl (by unfold of_spec; rw [if_neg (by rw [s1_3]; decide), if_neg (by rw [s1_3]; decide), if_neg (by rw [s1_3]; decide), if_pos s1_3, if_neg (by rw [show inR i (nI seen.length) = false from inR_lo c107]; decide)]))⟩
    · have c107 : ¬ i < 0 := c107
      refine g_ild (pc' := 111) cd_Ho_onOffer rfl (Or.inr ⟨_, rfl, rfl, rfl⟩) l2 rfl ?_
      refine g_ald (pc' := 112) cd_Ho_onOffer rfl (Or.inr ⟨_, rfl, rfl, rfl⟩) l0 rfl rfl ?_
      refine g_fI (c := 11) (k := 10) (x := nI seen.length) (pc' := 115) cd_Ho_onOffer rfl rfl rfl rfl rfl (by decide) hH.1.1.1 hH.1.1.2 hH.2.2.2.1.2.2.2.1.1 ?_
      refine g_if2 (t := 127) (pc' := 118) cd_Ho_onOffer rfl rfl rfl (fun c115 => ?_) (fun c115 => ?_)
      · have c115 : (nI seen.length) ≤ i := c115
        refine g_k1 (v := 0) (pc' := 128) cd_Ho_onOffer rfl (by decide) rfl ?_
        exact g_reti cd_Ho_onOffer rfl ⟨_, rfl, (hz0 tz rfl (by unfold of_spec; rw [if_neg (by rw [s1_3]; decide), if_neg (by rw [s1_3]; decide), if_neg (by rw [s1_3]; decide), if_pos s1_3, if_neg (by rw [show inR i (nI seen.length) = false from inR_hi c115]; decide)]))⟩
      · have c115 : ¬ (nI seen.length) ≤ i := c115
        refine g_ald (pc' := 119) cd_Ho_onOffer rfl (Or.inr ⟨_, rfl, rfl, rfl⟩) l0 rfl rfl ?_
        refine g_fR (c := 11) (k := 9) (x := 24) (pc' := 122) cd_Ho_onOffer rfl rfl rfl rfl rfl (by decide) hH.1.1.1 hH.1.1.2 hH.1.2.1.2.2.2.2.2.2.2.2.2 ?_
        refine g_ild (pc' := 123) cd_Ho_onOffer rfl (Or.inr ⟨_, rfl, rfl, rfl⟩) l2 rfl ?_
        obtain ⟨j, hj, ej⟩ := inR_of (n := seen.length) (by have := hH.2.2.2.1.2.2.2.1.2; omega) (inR_t c107 c115)
        obtain ⟨e, he⟩ : ∃ e, seen[j]? = some e := ⟨_, List.getElem?_eq_getElem hj⟩
        have tj := hH.2.2.2.1.2.2.2.2 j e he
        rw [Nat.zero_add] at tj
        refine g_aI (x := (bm_AI B 24 j)) (pc' := 124) cd_Ho_onOffer rfl rfl hH.1.2.2.2.2.2.2.2.1 hH.1.2.2.2.2.2.2.2.2.1 (by rw [show bm_AL B 24 = 2144 from hH.1.2.2.2.2.2.2.2.2.2, ej]; exact vp_in_nI (by have := hH.2.2.2.1.2.2.2.1.2; omega) (by decide)) (by rw [ej, nI_clamp (by have := hH.2.2.2.1.2.2.2.1.2; omega)]) ?_
        refine g_pure (pc' := 128) (st' := [.int ((bm_AI B 24 j))]) cd_Ho_onOffer rfl rfl (fun _ _ => rfl) ?_
        exact g_reti cd_Ho_onOffer rfl ⟨_, rfl, (kk _ (by unfold of_spec; rw [if_neg (by rw [s1_3]; decide), if_neg (by rw [s1_3]; decide), if_neg (by rw [s1_3]; decide), if_pos s1_3, if_pos (inR_t c107 c115), ej, nI_clamp (by have := hH.2.2.2.1.2.2.2.1.2; omega), getD_at he]; exact tj))⟩
  refine g_swd (t := 129) cd_Ho_onOffer rfl rfl (by have := i32_ne (n := 0) (by decide) s1_0; have := i32_ne (n := 1) (by decide) s1_1; have := i32_ne (n := 2) (by decide) s1_2; have := i32_ne (n := 3) (by decide) s1_3; omega) ?_
  refine g_k1 (v := 0) (pc' := 130) cd_Ho_onOffer rfl (by decide) rfl ?_
  exact g_reti cd_Ho_onOffer rfl ⟨_, rfl, (hz0 tz rfl (by unfold of_spec; rw [if_neg s1_0, if_neg s1_1, if_neg s1_2, if_neg s1_3]))⟩
set_option maxRecDepth 100000 in
theorem t_take {sc : tm_X} {d : Nat} {B : bm_H} {F : Nat → Prop} {N S M ln : Nat} {T : List Tm} {dr : Nat} {K : Tm → Prop} {ca rm kc kl rk : Nat} {ws : List (Tm × Int32)} {wt : List Tm} {G : LG} {ids dir reg : Nat → Tm} {seen : List Tm} {π : Nat → Nat} {w : Nat → SW} {dev : Nat → DV} {sto : Nat → ST} {r a i : Int32} {Q : Int32 → bm_H → Prop} (hC : CK B F N S M ln T dr K ca rm kc kl rk) (hH : RH B T ws wt G ids dir reg seen π w dev sto) (kJ : ∀ p, p < 6 → kd (ids p) = 1) (kk : ∀ B' T' M' ca' rm', T <+: T' → T'.length ≤ T.length + 1 → CK B' F N S M' ln T' dr K ca' rm' kc kl rk → RH B' T' ws wt G ids dir (kp reg r (of_spec ws ids dir seen a i)).2 seen π w dev sto → fr (fun y => ¬ F y) B B' → Q (kp reg r (of_spec ws ids dir seen a i)).1 B') : bm_Gi sc (d + 4) 138 [.ref 0, .int r, .int a, .int i] B Q := by
  show bm_G sc (d + 4) 138 0 [(0, .ref 0), (1, .int r), (2, .int a), (3, .int i)] [] B _
  generalize elv : ([(0, .ref 0), (1, .int r), (2, .int a), (3, .int i)] : tm_L) = lv
  have l0 : lv.lookup 0 = some (.ref 0) := by rw [← elv]; rfl
  have l1 : lv.lookup 1 = some (.int r) := by rw [← elv]; rfl
  have l2 : lv.lookup 2 = some (.int a) := by rw [← elv]; rfl
  have l3 : lv.lookup 3 = some (.int i) := by rw [← elv]; rfl
  clear elv
  refine g_ald (pc' := 1) cd_Ho_take rfl (Or.inr ⟨_, rfl, rfl, rfl⟩) l0 rfl rfl ?_
  refine g_ild (pc' := 2) cd_Ho_take rfl (Or.inr ⟨_, rfl, rfl, rfl⟩) l1 rfl ?_
  refine g_ald (pc' := 3) cd_Ho_take rfl (Or.inr ⟨_, rfl, rfl, rfl⟩) l0 rfl rfl ?_
  refine g_ild (pc' := 4) cd_Ho_take rfl (Or.inr ⟨_, rfl, rfl, rfl⟩) l2 rfl ?_
  refine g_ild (pc' := 5) cd_Ho_take rfl (Or.inr ⟨_, rfl, rfl, rfl⟩) l3 rfl ?_
  refine g_calli (pc' := 8) cd_Ho_take rfl rfl rfl rfl rfl (tm_invV rfl rfl cd_Ho_onOffer rfl (Nat.le_of_ble_eq_true rfl) (by decide) hH.1.1.1 hH.1.1.2) (t_offer hC hH kJ (fun x5 t5 => ?_))
  show bm_G _ _ _ 8 _ [.int x5, .int r, .ref 0] B _
  refine g_calli (pc' := 11) cd_Ho_take rfl rfl rfl rfl rfl (tm_invV rfl rfl cd_Ho_keep rfl (Nat.le_of_ble_eq_true rfl) (by decide) hH.1.1.1 hH.1.1.2) (t_kp hC hH t5 (fun BQ hCQ hHQ hzQ => ?_))
  show bm_G _ _ _ 11 _ [.int ((kp reg r (of_spec ws ids dir seen a i)).1)] BQ _
  exact g_reti cd_Ho_take rfl ⟨_, rfl, (kk BQ T _ _ _ (List.prefix_refl T) (by omega) hCQ hHQ (fr_mono (fun y q => nF_lo hC (by omega)) hzQ.1))⟩
set_option maxRecDepth 100000 in
theorem t_partA {sc : tm_X} {d : Nat} {B : bm_H} {F : Nat → Prop} {N S M ln : Nat} {T : List Tm} {dr : Nat} {K : Tm → Prop} {ca rm kc kl rk : Nat} {ws : List (Tm × Int32)} {wt : List Tm} {G : LG} {ids dir reg : Nat → Tm} {seen : List Tm} {π : Nat → Nat} {w : Nat → SW} {dev : Nat → DV} {sto : Nat → ST} {r x : Int32} {i : Nat} {Q : Int32 → bm_H → Prop} (hC : CK B F N S M ln T dr K ca rm kc kl rk) (hH : RH B T ws wt G ids dir reg seen π w dev sto) (hi : i < 4) (kk : ∀ B' T' M' ca' rm', T <+: T' → T'.length ≤ T.length + 1 → CK B' F N S M' ln T' dr K ca' rm' kc kl rk → RH B' T' ws wt G ids dir (kp reg r (pa_spec reg x (nI i))).2 seen π w dev sto → fr (fun y => ¬ F y) B B' → Q (kp reg r (pa_spec reg x (nI i))).1 B') : bm_Gi sc (d + 4) 140 [.ref 0, .int r, .int x, .int (nI i)] B Q := by
  have hin : inR (nI i) 4 = true := inR_nI hi (by decide)
  show bm_G sc (d + 4) 140 0 [(0, .ref 0), (1, .int r), (2, .int x), (3, .int (nI i))] [] B _
  generalize elv : ([(0, .ref 0), (1, .int r), (2, .int x), (3, .int (nI i))] : tm_L) = lv
  have l0 : lv.lookup 0 = some (.ref 0) := by rw [← elv]; rfl
  have l1 : lv.lookup 1 = some (.int r) := by rw [← elv]; rfl
  have l2 : lv.lookup 2 = some (.int x) := by rw [← elv]; rfl
  have l3 : lv.lookup 3 = some (.int (nI i)) := by rw [← elv]; rfl
  clear elv
  refine g_ald (pc' := 1) cd_Ho_part rfl (Or.inr ⟨_, rfl, rfl, rfl⟩) l0 rfl rfl ?_
  refine g_ild (pc' := 2) cd_Ho_part rfl (Or.inr ⟨_, rfl, rfl, rfl⟩) l2 rfl ?_
  refine g_calli (pc' := 5) cd_Ho_part rfl rfl rfl rfl rfl (tm_invV rfl rfl cd_Ho_held rfl (Nat.le_of_ble_eq_true rfl) (by decide) hH.1.1.1 hH.1.1.2) (t_held hC hH (fun h1 th1 => ?_))
  show bm_G _ _ _ 5 _ [.int h1] B _
  refine g_ist (pc' := 7) cd_Ho_part rfl (Or.inl ⟨rfl, rfl⟩) (by decide) rfl (fun lv el => ?_)
  have l0 := tm_lk el l0 rfl (by decide)
  have l1 := tm_lk el l1 rfl (by decide)
  have l2 := tm_lk el l2 rfl (by decide)
  have l3 := tm_lk el l3 rfl (by decide)
  have l4 : lv.lookup 4 = some (.int h1) := tm_lks el
  clear el
  refine g_ald (pc' := 8) cd_Ho_part rfl (Or.inr ⟨_, rfl, rfl, rfl⟩) l0 rfl rfl ?_
  refine g_fR (c := 11) (k := 0) (x := 1) (pc' := 11) cd_Ho_part rfl rfl rfl rfl rfl (by decide) hH.1.1.1 hH.1.1.2 hH.1.2.1.1 ?_
  refine g_ild (pc' := 13) cd_Ho_part rfl (Or.inl ⟨rfl, rfl⟩) l4 rfl ?_
  refine g_calli (pc' := 16) cd_Ho_part rfl rfl rfl rfl rfl (tm_invV rfl rfl cd_Te_kindOf rfl (Nat.le_of_ble_eq_true rfl) (by decide) hC.1.1.1.1 hC.1.1.1.2) (t_kindOf hC.1 th1 ?_)
  show bm_G _ _ _ 16 _ [.int (kd (hl reg x))] B _
  refine g_ist (pc' := 18) cd_Ho_part rfl (Or.inl ⟨rfl, rfl⟩) (by decide) rfl (fun lv el => ?_)
  have l0 := tm_lk el l0 rfl (by decide)
  have l1 := tm_lk el l1 rfl (by decide)
  have l2 := tm_lk el l2 rfl (by decide)
  have l3 := tm_lk el l3 rfl (by decide)
  have l4 := tm_lk el l4 rfl (by decide)
  have l5 : lv.lookup 5 = some (.int (kd (hl reg x))) := tm_lks el
  clear el
  refine g_ild (pc' := 19) cd_Ho_part rfl (Or.inr ⟨_, rfl, rfl, rfl⟩) l3 rfl ?_
  refine g_if1 (t := 54) (pc' := 22) cd_Ho_part rfl rfl rfl (fun c19 => ?_) (fun c19 => ?_)
  · have c19 : (nI i) < 0 := c19
    exact absurd c19 (nI_pos (by omega))
  · have c19 : ¬ (nI i) < 0 := c19
    refine g_ild (pc' := 23) cd_Ho_part rfl (Or.inr ⟨_, rfl, rfl, rfl⟩) l3 rfl ?_
    refine g_k1 (v := 3) (pc' := 24) cd_Ho_part rfl (by decide) rfl ?_
    refine g_if2 (t := 54) (pc' := 27) cd_Ho_part rfl rfl rfl (fun c24 => ?_) (fun c24 => ?_)
    · have c24 : (3 : Int32) < (nI i) := c24
      exact absurd c24 (fun q => by have := (nI_ltI (a := 3) (b := i) (by decide) (by omega)).mp q; omega)
    · have c24 : ¬ (3 : Int32) < (nI i) := c24
      refine g_ald (pc' := 28) cd_Ho_part rfl (Or.inr ⟨_, rfl, rfl, rfl⟩) l0 rfl rfl ?_
      refine g_ild (pc' := 29) cd_Ho_part rfl (Or.inr ⟨_, rfl, rfl, rfl⟩) l1 rfl ?_
      refine g_ild (pc' := 31) cd_Ho_part rfl (Or.inl ⟨rfl, rfl⟩) l5 rfl ?_
      refine g_k2 (v := 7) (pc' := 33) cd_Ho_part rfl (by decide) rfl ?_
      refine g_if2 (t := 49) (pc' := 36) cd_Ho_part rfl rfl rfl (fun c33 => ?_) (fun c33 => ?_)
      · have c33 : ¬ (kd (hl reg x)) = 7 := c33
        refine g_k1 (v := 0) (pc' := 50) cd_Ho_part rfl (by decide) rfl ?_
        refine g_calli (pc' := 53) cd_Ho_part rfl rfl rfl rfl rfl (tm_invV rfl rfl cd_Ho_keep rfl (Nat.le_of_ble_eq_true rfl) (by decide) hH.1.1.1 hH.1.1.2) (t_kp hC hH (TI_z hC.1) (fun BQ hCQ hHQ hzQ => ?_))
        show bm_G _ _ _ 53 _ [.int ((kp reg r tz).1)] BQ _
        have eA : pa_spec reg x (nI i) = tz := by unfold pa_spec; rw [if_pos hin, if_neg c33]
        rw [eA] at kk
        exact g_reti cd_Ho_part rfl ⟨_, rfl, (kk BQ T _ _ _ (List.prefix_refl T) (by omega) hCQ hHQ (fr_mono (fun y q => nF_lo hC (by omega)) hzQ.1))⟩
      · have c33 : (kd (hl reg x)) = 7 := Classical.not_not.mp c33
        refine g_ald (pc' := 37) cd_Ho_part rfl (Or.inr ⟨_, rfl, rfl, rfl⟩) l0 rfl rfl ?_
        refine g_fR (c := 11) (k := 0) (x := 1) (pc' := 40) cd_Ho_part rfl rfl rfl rfl rfl (by decide) hH.1.1.1 hH.1.1.2 hH.1.2.1.1 ?_
        refine g_ild (pc' := 42) cd_Ho_part rfl (Or.inl ⟨rfl, rfl⟩) l4 rfl ?_
        refine g_ild (pc' := 43) cd_Ho_part rfl (Or.inr ⟨_, rfl, rfl, rfl⟩) l3 rfl ?_
        refine g_calli (pc' := 46) cd_Ho_part rfl rfl rfl rfl rfl (tm_invV rfl rfl cd_Te_partOf rfl (Nat.le_of_ble_eq_true rfl) (by decide) hC.1.1.1.1 hC.1.1.1.2) (t_partOf (i := i) hC.1 th1 hi (fun r2 ht2 => ?_))
        show bm_G _ _ _ 46 _ [.int r2, .int r, .ref 0] B _
        refine g_pure (pc' := 50) (st' := [.int r2, .int r, .ref 0]) cd_Ho_part rfl rfl (fun _ _ => rfl) ?_
        refine g_calli (pc' := 53) cd_Ho_part rfl rfl rfl rfl rfl (tm_invV rfl rfl cd_Ho_keep rfl (Nat.le_of_ble_eq_true rfl) (by decide) hH.1.1.1 hH.1.1.2) (t_kp hC hH ht2 (fun BQ hCQ hHQ hzQ => ?_))
        show bm_G _ _ _ 53 _ [.int ((kp reg r (pt (hl reg x) i)).1)] BQ _
        have eA : pa_spec reg x (nI i) = pt (hl reg x) i := by unfold pa_spec; rw [if_pos hin, if_pos c33, nI_clamp (by omega)]
        rw [eA] at kk
        exact g_reti cd_Ho_part rfl ⟨_, rfl, (kk BQ T _ _ _ (List.prefix_refl T) (by omega) hCQ hHQ (fr_mono (fun y q => nF_lo hC (by omega)) hzQ.1))⟩
set_option maxRecDepth 100000 in
theorem t_partB {sc : tm_X} {d : Nat} {B : bm_H} {F : Nat → Prop} {N S M ln : Nat} {T : List Tm} {dr : Nat} {K : Tm → Prop} {ca rm kc kl rk : Nat} {ws : List (Tm × Int32)} {wt : List Tm} {G : LG} {ids dir reg : Nat → Tm} {seen : List Tm} {π : Nat → Nat} {w : Nat → SW} {dev : Nat → DV} {sto : Nat → ST} {r x a : Int32} {Q : Int32 → bm_H → Prop} (hC : CK B F N S M ln T dr K ca rm kc kl rk) (hH : RH B T ws wt G ids dir reg seen π w dev sto) (ha : inR a 4 = false) (kk : ∀ B' T' M' ca' rm', T <+: T' → T'.length ≤ T.length + 1 → CK B' F N S M' ln T' dr K ca' rm' kc kl rk → RH B' T' ws wt G ids dir (kp reg r (pa_spec reg x a)).2 seen π w dev sto → fr (fun y => ¬ F y) B B' → Q (kp reg r (pa_spec reg x a)).1 B') : bm_Gi sc (d + 4) 140 [.ref 0, .int r, .int x, .int a] B Q := by
  show bm_G sc (d + 4) 140 0 [(0, .ref 0), (1, .int r), (2, .int x), (3, .int a)] [] B _
  generalize elv : ([(0, .ref 0), (1, .int r), (2, .int x), (3, .int a)] : tm_L) = lv
  have l0 : lv.lookup 0 = some (.ref 0) := by rw [← elv]; rfl
  have l1 : lv.lookup 1 = some (.int r) := by rw [← elv]; rfl
  have l2 : lv.lookup 2 = some (.int x) := by rw [← elv]; rfl
  have l3 : lv.lookup 3 = some (.int a) := by rw [← elv]; rfl
  clear elv
  refine g_ald (pc' := 1) cd_Ho_part rfl (Or.inr ⟨_, rfl, rfl, rfl⟩) l0 rfl rfl ?_
  refine g_ild (pc' := 2) cd_Ho_part rfl (Or.inr ⟨_, rfl, rfl, rfl⟩) l2 rfl ?_
  refine g_calli (pc' := 5) cd_Ho_part rfl rfl rfl rfl rfl (tm_invV rfl rfl cd_Ho_held rfl (Nat.le_of_ble_eq_true rfl) (by decide) hH.1.1.1 hH.1.1.2) (t_held hC hH (fun h3 th3 => ?_))
  show bm_G _ _ _ 5 _ [.int h3] B _
  refine g_ist (pc' := 7) cd_Ho_part rfl (Or.inl ⟨rfl, rfl⟩) (by decide) rfl (fun lv el => ?_)
  have l0 := tm_lk el l0 rfl (by decide)
  have l1 := tm_lk el l1 rfl (by decide)
  have l2 := tm_lk el l2 rfl (by decide)
  have l3 := tm_lk el l3 rfl (by decide)
  have l4 : lv.lookup 4 = some (.int h3) := tm_lks el
  clear el
  refine g_ald (pc' := 8) cd_Ho_part rfl (Or.inr ⟨_, rfl, rfl, rfl⟩) l0 rfl rfl ?_
  refine g_fR (c := 11) (k := 0) (x := 1) (pc' := 11) cd_Ho_part rfl rfl rfl rfl rfl (by decide) hH.1.1.1 hH.1.1.2 hH.1.2.1.1 ?_
  refine g_ild (pc' := 13) cd_Ho_part rfl (Or.inl ⟨rfl, rfl⟩) l4 rfl ?_
  refine g_calli (pc' := 16) cd_Ho_part rfl rfl rfl rfl rfl (tm_invV rfl rfl cd_Te_kindOf rfl (Nat.le_of_ble_eq_true rfl) (by decide) hC.1.1.1.1 hC.1.1.1.2) (t_kindOf hC.1 th3 ?_)
  show bm_G _ _ _ 16 _ [.int (kd (hl reg x))] B _
  refine g_ist (pc' := 18) cd_Ho_part rfl (Or.inl ⟨rfl, rfl⟩) (by decide) rfl (fun lv el => ?_)
  have l0 := tm_lk el l0 rfl (by decide)
  have l1 := tm_lk el l1 rfl (by decide)
  have l2 := tm_lk el l2 rfl (by decide)
  have l3 := tm_lk el l3 rfl (by decide)
  have l4 := tm_lk el l4 rfl (by decide)
  have l5 : lv.lookup 5 = some (.int (kd (hl reg x))) := tm_lks el
  clear el
  refine g_ild (pc' := 19) cd_Ho_part rfl (Or.inr ⟨_, rfl, rfl, rfl⟩) l3 rfl ?_
  refine g_if1 (t := 54) (pc' := 22) cd_Ho_part rfl rfl rfl (fun c19 => ?_) (fun c19 => ?_)
  · have c19 : a < 0 := c19
    refine g_ild (pc' := 55) cd_Ho_part rfl (Or.inr ⟨_, rfl, rfl, rfl⟩) l3 rfl ?_
    refine g_k1 (v := 4) (pc' := 56) cd_Ho_part rfl (by decide) rfl ?_
    refine g_if2 (t := 85) (pc' := 59) cd_Ho_part rfl rfl rfl (fun c56 => ?_) (fun c56 => ?_)
    · have c56 : ¬ a = 4 := c56
      refine g_ald (pc' := 86) cd_Ho_part rfl (Or.inr ⟨_, rfl, rfl, rfl⟩) l0 rfl rfl ?_
      refine g_ild (pc' := 87) cd_Ho_part rfl (Or.inr ⟨_, rfl, rfl, rfl⟩) l1 rfl ?_
      refine g_ild (pc' := 88) cd_Ho_part rfl (Or.inr ⟨_, rfl, rfl, rfl⟩) l3 rfl ?_
      refine g_k1 (v := 5) (pc' := 89) cd_Ho_part rfl (by decide) rfl ?_
      refine g_if2 (t := 112) (pc' := 92) cd_Ho_part rfl rfl rfl (fun c89 => ?_) (fun c89 => ?_)
      · have c89 : ¬ a = 5 := c89
        refine g_k1 (v := 0) (pc' := 113) cd_Ho_part rfl (by decide) rfl ?_
        refine g_calli (pc' := 116) cd_Ho_part rfl rfl rfl rfl rfl (tm_invV rfl rfl cd_Ho_keep rfl (Nat.le_of_ble_eq_true rfl) (by decide) hH.1.1.1 hH.1.1.2) (t_kp hC hH (TI_z hC.1) (fun BQ hCQ hHQ hzQ => ?_))
        show bm_G _ _ _ 116 _ [.int ((kp reg r tz).1)] BQ _
        have eA : pa_spec reg x a = tz := by unfold pa_spec; rw [if_neg (by rw [ha]; decide), if_neg c56, if_neg (fun q => c89 q.1)]
        rw [eA] at kk
        exact g_reti cd_Ho_part rfl ⟨_, rfl, (kk BQ T _ _ _ (List.prefix_refl T) (by omega) hCQ hHQ (fr_mono (fun y q => nF_lo hC (by omega)) hzQ.1))⟩
      · have c89 : a = 5 := Classical.not_not.mp c89
        refine g_ild (pc' := 94) cd_Ho_part rfl (Or.inl ⟨rfl, rfl⟩) l5 rfl ?_
        refine g_k2 (v := 6) (pc' := 96) cd_Ho_part rfl (by decide) rfl ?_
        refine g_if2 (t := 112) (pc' := 99) cd_Ho_part rfl rfl rfl (fun c96 => ?_) (fun c96 => ?_)
        · have c96 : ¬ (kd (hl reg x)) = 6 := c96
          refine g_k1 (v := 0) (pc' := 113) cd_Ho_part rfl (by decide) rfl ?_
          refine g_calli (pc' := 116) cd_Ho_part rfl rfl rfl rfl rfl (tm_invV rfl rfl cd_Ho_keep rfl (Nat.le_of_ble_eq_true rfl) (by decide) hH.1.1.1 hH.1.1.2) (t_kp hC hH (TI_z hC.1) (fun BQ hCQ hHQ hzQ => ?_))
          show bm_G _ _ _ 116 _ [.int ((kp reg r tz).1)] BQ _
          have eA : pa_spec reg x a = tz := by unfold pa_spec; rw [if_neg (by rw [ha]; decide), if_neg c56, if_neg (fun q => c96 q.2)]
          rw [eA] at kk
          exact g_reti cd_Ho_part rfl ⟨_, rfl, (kk BQ T _ _ _ (List.prefix_refl T) (by omega) hCQ hHQ (fr_mono (fun y q => nF_lo hC (by omega)) hzQ.1))⟩
        · have c96 : (kd (hl reg x)) = 6 := Classical.not_not.mp c96
          refine g_ald (pc' := 100) cd_Ho_part rfl (Or.inr ⟨_, rfl, rfl, rfl⟩) l0 rfl rfl ?_
          refine g_fR (c := 11) (k := 0) (x := 1) (pc' := 103) cd_Ho_part rfl rfl rfl rfl rfl (by decide) hH.1.1.1 hH.1.1.2 hH.1.2.1.1 ?_
          refine g_ild (pc' := 105) cd_Ho_part rfl (Or.inl ⟨rfl, rfl⟩) l4 rfl ?_
          refine g_k1 (v := 1) (pc' := 106) cd_Ho_part rfl (by decide) rfl ?_
          refine g_calli (pc' := 109) cd_Ho_part rfl rfl rfl rfl rfl (tm_invV rfl rfl cd_Te_partOf rfl (Nat.le_of_ble_eq_true rfl) (by decide) hC.1.1.1.1 hC.1.1.1.2) (t_partOf (i := 1) hC.1 th3 (by decide) (fun r4 ht4 => ?_))
          show bm_G _ _ _ 109 _ [.int r4, .int r, .ref 0] B _
          refine g_pure (pc' := 113) (st' := [.int r4, .int r, .ref 0]) cd_Ho_part rfl rfl (fun _ _ => rfl) ?_
          refine g_calli (pc' := 116) cd_Ho_part rfl rfl rfl rfl rfl (tm_invV rfl rfl cd_Ho_keep rfl (Nat.le_of_ble_eq_true rfl) (by decide) hH.1.1.1 hH.1.1.2) (t_kp hC hH ht4 (fun BQ hCQ hHQ hzQ => ?_))
          show bm_G _ _ _ 116 _ [.int ((kp reg r (pt (hl reg x) 1)).1)] BQ _
          have eA : pa_spec reg x a = pt (hl reg x) 1 := by unfold pa_spec; rw [if_neg (by rw [ha]; decide), if_neg c56, if_pos ⟨c89, c96⟩]
          rw [eA] at kk
          exact g_reti cd_Ho_part rfl ⟨_, rfl, (kk BQ T _ _ _ (List.prefix_refl T) (by omega) hCQ hHQ (fr_mono (fun y q => nF_lo hC (by omega)) hzQ.1))⟩
    · have c56 : a = 4 := Classical.not_not.mp c56
      refine g_ald (pc' := 60) cd_Ho_part rfl (Or.inr ⟨_, rfl, rfl, rfl⟩) l0 rfl rfl ?_
      refine g_ild (pc' := 61) cd_Ho_part rfl (Or.inr ⟨_, rfl, rfl, rfl⟩) l1 rfl ?_
      refine g_ild (pc' := 63) cd_Ho_part rfl (Or.inl ⟨rfl, rfl⟩) l5 rfl ?_
      refine g_k1 (v := 5) (pc' := 64) cd_Ho_part rfl (by decide) rfl ?_
      refine g_if2 (t := 80) (pc' := 67) cd_Ho_part rfl rfl rfl (fun c64 => ?_) (fun c64 => ?_)
      · have c64 : ¬ (kd (hl reg x)) = 5 := c64
        refine g_k1 (v := 0) (pc' := 81) cd_Ho_part rfl (by decide) rfl ?_
        refine g_calli (pc' := 84) cd_Ho_part rfl rfl rfl rfl rfl (tm_invV rfl rfl cd_Ho_keep rfl (Nat.le_of_ble_eq_true rfl) (by decide) hH.1.1.1 hH.1.1.2) (t_kp hC hH (TI_z hC.1) (fun BQ hCQ hHQ hzQ => ?_))
        show bm_G _ _ _ 84 _ [.int ((kp reg r tz).1)] BQ _
        have eA : pa_spec reg x a = tz := by unfold pa_spec; rw [if_neg (by rw [ha]; decide), if_pos c56, if_neg c64]
        rw [eA] at kk
        exact g_reti cd_Ho_part rfl ⟨_, rfl, (kk BQ T _ _ _ (List.prefix_refl T) (by omega) hCQ hHQ (fr_mono (fun y q => nF_lo hC (by omega)) hzQ.1))⟩
      · have c64 : (kd (hl reg x)) = 5 := Classical.not_not.mp c64
        refine g_ald (pc' := 68) cd_Ho_part rfl (Or.inr ⟨_, rfl, rfl, rfl⟩) l0 rfl rfl ?_
        refine g_fR (c := 11) (k := 0) (x := 1) (pc' := 71) cd_Ho_part rfl rfl rfl rfl rfl (by decide) hH.1.1.1 hH.1.1.2 hH.1.2.1.1 ?_
        refine g_ild (pc' := 73) cd_Ho_part rfl (Or.inl ⟨rfl, rfl⟩) l4 rfl ?_
        refine g_k1 (v := 1) (pc' := 74) cd_Ho_part rfl (by decide) rfl ?_
        refine g_calli (pc' := 77) cd_Ho_part rfl rfl rfl rfl rfl (tm_invV rfl rfl cd_Te_partOf rfl (Nat.le_of_ble_eq_true rfl) (by decide) hC.1.1.1.1 hC.1.1.1.2) (t_partOf (i := 1) hC.1 th3 (by decide) (fun r5 ht5 => ?_))
        show bm_G _ _ _ 77 _ [.int r5, .int r, .ref 0] B _
        refine g_pure (pc' := 81) (st' := [.int r5, .int r, .ref 0]) cd_Ho_part rfl rfl (fun _ _ => rfl) ?_
        refine g_calli (pc' := 84) cd_Ho_part rfl rfl rfl rfl rfl (tm_invV rfl rfl cd_Ho_keep rfl (Nat.le_of_ble_eq_true rfl) (by decide) hH.1.1.1 hH.1.1.2) (t_kp hC hH ht5 (fun BQ hCQ hHQ hzQ => ?_))
        show bm_G _ _ _ 84 _ [.int ((kp reg r (pt (hl reg x) 1)).1)] BQ _
        have eA : pa_spec reg x a = pt (hl reg x) 1 := by unfold pa_spec; rw [if_neg (by rw [ha]; decide), if_pos c56, if_pos c64]
        rw [eA] at kk
        exact g_reti cd_Ho_part rfl ⟨_, rfl, (kk BQ T _ _ _ (List.prefix_refl T) (by omega) hCQ hHQ (fr_mono (fun y q => nF_lo hC (by omega)) hzQ.1))⟩
  · have c19 : ¬ a < 0 := c19
    refine g_ild (pc' := 23) cd_Ho_part rfl (Or.inr ⟨_, rfl, rfl, rfl⟩) l3 rfl ?_
    refine g_k1 (v := 3) (pc' := 24) cd_Ho_part rfl (by decide) rfl ?_
    refine g_if2 (t := 54) (pc' := 27) cd_Ho_part rfl rfl rfl (fun c24 => ?_) (fun c24 => ?_)
    · have c24 : (3 : Int32) < a := c24
      refine g_ild (pc' := 55) cd_Ho_part rfl (Or.inr ⟨_, rfl, rfl, rfl⟩) l3 rfl ?_
      refine g_k1 (v := 4) (pc' := 56) cd_Ho_part rfl (by decide) rfl ?_
      refine g_if2 (t := 85) (pc' := 59) cd_Ho_part rfl rfl rfl (fun c56 => ?_) (fun c56 => ?_)
      · have c56 : ¬ a = 4 := c56
        refine g_ald (pc' := 86) cd_Ho_part rfl (Or.inr ⟨_, rfl, rfl, rfl⟩) l0 rfl rfl ?_
        refine g_ild (pc' := 87) cd_Ho_part rfl (Or.inr ⟨_, rfl, rfl, rfl⟩) l1 rfl ?_
        refine g_ild (pc' := 88) cd_Ho_part rfl (Or.inr ⟨_, rfl, rfl, rfl⟩) l3 rfl ?_
        refine g_k1 (v := 5) (pc' := 89) cd_Ho_part rfl (by decide) rfl ?_
        refine g_if2 (t := 112) (pc' := 92) cd_Ho_part rfl rfl rfl (fun c89 => ?_) (fun c89 => ?_)
        · have c89 : ¬ a = 5 := c89
          refine g_k1 (v := 0) (pc' := 113) cd_Ho_part rfl (by decide) rfl ?_
          refine g_calli (pc' := 116) cd_Ho_part rfl rfl rfl rfl rfl (tm_invV rfl rfl cd_Ho_keep rfl (Nat.le_of_ble_eq_true rfl) (by decide) hH.1.1.1 hH.1.1.2) (t_kp hC hH (TI_z hC.1) (fun BQ hCQ hHQ hzQ => ?_))
          show bm_G _ _ _ 116 _ [.int ((kp reg r tz).1)] BQ _
          have eA : pa_spec reg x a = tz := by unfold pa_spec; rw [if_neg (by rw [ha]; decide), if_neg c56, if_neg (fun q => c89 q.1)]
          rw [eA] at kk
          exact g_reti cd_Ho_part rfl ⟨_, rfl, (kk BQ T _ _ _ (List.prefix_refl T) (by omega) hCQ hHQ (fr_mono (fun y q => nF_lo hC (by omega)) hzQ.1))⟩
        · have c89 : a = 5 := Classical.not_not.mp c89
          refine g_ild (pc' := 94) cd_Ho_part rfl (Or.inl ⟨rfl, rfl⟩) l5 rfl ?_
          refine g_k2 (v := 6) (pc' := 96) cd_Ho_part rfl (by decide) rfl ?_
          refine g_if2 (t := 112) (pc' := 99) cd_Ho_part rfl rfl rfl (fun c96 => ?_) (fun c96 => ?_)
          · have c96 : ¬ (kd (hl reg x)) = 6 := c96
            refine g_k1 (v := 0) (pc' := 113) cd_Ho_part rfl (by decide) rfl ?_
            refine g_calli (pc' := 116) cd_Ho_part rfl rfl rfl rfl rfl (tm_invV rfl rfl cd_Ho_keep rfl (Nat.le_of_ble_eq_true rfl) (by decide) hH.1.1.1 hH.1.1.2) (t_kp hC hH (TI_z hC.1) (fun BQ hCQ hHQ hzQ => ?_))
            show bm_G _ _ _ 116 _ [.int ((kp reg r tz).1)] BQ _
            have eA : pa_spec reg x a = tz := by unfold pa_spec; rw [if_neg (by rw [ha]; decide), if_neg c56, if_neg (fun q => c96 q.2)]
            rw [eA] at kk
            exact g_reti cd_Ho_part rfl ⟨_, rfl, (kk BQ T _ _ _ (List.prefix_refl T) (by omega) hCQ hHQ (fr_mono (fun y q => nF_lo hC (by omega)) hzQ.1))⟩
          · have c96 : (kd (hl reg x)) = 6 := Classical.not_not.mp c96
            refine g_ald (pc' := 100) cd_Ho_part rfl (Or.inr ⟨_, rfl, rfl, rfl⟩) l0 rfl rfl ?_
            refine g_fR (c := 11) (k := 0) (x := 1) (pc' := 103) cd_Ho_part rfl rfl rfl rfl rfl (by decide) hH.1.1.1 hH.1.1.2 hH.1.2.1.1 ?_
            refine g_ild (pc' := 105) cd_Ho_part rfl (Or.inl ⟨rfl, rfl⟩) l4 rfl ?_
            refine g_k1 (v := 1) (pc' := 106) cd_Ho_part rfl (by decide) rfl ?_
            refine g_calli (pc' := 109) cd_Ho_part rfl rfl rfl rfl rfl (tm_invV rfl rfl cd_Te_partOf rfl (Nat.le_of_ble_eq_true rfl) (by decide) hC.1.1.1.1 hC.1.1.1.2) (t_partOf (i := 1) hC.1 th3 (by decide) (fun r6 ht6 => ?_))
            show bm_G _ _ _ 109 _ [.int r6, .int r, .ref 0] B _
            refine g_pure (pc' := 113) (st' := [.int r6, .int r, .ref 0]) cd_Ho_part rfl rfl (fun _ _ => rfl) ?_
            refine g_calli (pc' := 116) cd_Ho_part rfl rfl rfl rfl rfl (tm_invV rfl rfl cd_Ho_keep rfl (Nat.le_of_ble_eq_true rfl) (by decide) hH.1.1.1 hH.1.1.2) (t_kp hC hH ht6 (fun BQ hCQ hHQ hzQ => ?_))
            show bm_G _ _ _ 116 _ [.int ((kp reg r (pt (hl reg x) 1)).1)] BQ _
            have eA : pa_spec reg x a = pt (hl reg x) 1 := by unfold pa_spec; rw [if_neg (by rw [ha]; decide), if_neg c56, if_pos ⟨c89, c96⟩]
            rw [eA] at kk
            exact g_reti cd_Ho_part rfl ⟨_, rfl, (kk BQ T _ _ _ (List.prefix_refl T) (by omega) hCQ hHQ (fr_mono (fun y q => nF_lo hC (by omega)) hzQ.1))⟩
      · have c56 : a = 4 := Classical.not_not.mp c56
        refine g_ald (pc' := 60) cd_Ho_part rfl (Or.inr ⟨_, rfl, rfl, rfl⟩) l0 rfl rfl ?_
        refine g_ild (pc' := 61) cd_Ho_part rfl (Or.inr ⟨_, rfl, rfl, rfl⟩) l1 rfl ?_
        refine g_ild (pc' := 63) cd_Ho_part rfl (Or.inl ⟨rfl, rfl⟩) l5 rfl ?_
        refine g_k1 (v := 5) (pc' := 64) cd_Ho_part rfl (by decide) rfl ?_
        refine g_if2 (t := 80) (pc' := 67) cd_Ho_part rfl rfl rfl (fun c64 => ?_) (fun c64 => ?_)
        · have c64 : ¬ (kd (hl reg x)) = 5 := c64
          refine g_k1 (v := 0) (pc' := 81) cd_Ho_part rfl (by decide) rfl ?_
          refine g_calli (pc' := 84) cd_Ho_part rfl rfl rfl rfl rfl (tm_invV rfl rfl cd_Ho_keep rfl (Nat.le_of_ble_eq_true rfl) (by decide) hH.1.1.1 hH.1.1.2) (t_kp hC hH (TI_z hC.1) (fun BQ hCQ hHQ hzQ => ?_))
          show bm_G _ _ _ 84 _ [.int ((kp reg r tz).1)] BQ _
          have eA : pa_spec reg x a = tz := by unfold pa_spec; rw [if_neg (by rw [ha]; decide), if_pos c56, if_neg c64]
          rw [eA] at kk
          exact g_reti cd_Ho_part rfl ⟨_, rfl, (kk BQ T _ _ _ (List.prefix_refl T) (by omega) hCQ hHQ (fr_mono (fun y q => nF_lo hC (by omega)) hzQ.1))⟩
        · have c64 : (kd (hl reg x)) = 5 := Classical.not_not.mp c64
          refine g_ald (pc' := 68) cd_Ho_part rfl (Or.inr ⟨_, rfl, rfl, rfl⟩) l0 rfl rfl ?_
          refine g_fR (c := 11) (k := 0) (x := 1) (pc' := 71) cd_Ho_part rfl rfl rfl rfl rfl (by decide) hH.1.1.1 hH.1.1.2 hH.1.2.1.1 ?_
          refine g_ild (pc' := 73) cd_Ho_part rfl (Or.inl ⟨rfl, rfl⟩) l4 rfl ?_
          refine g_k1 (v := 1) (pc' := 74) cd_Ho_part rfl (by decide) rfl ?_
          refine g_calli (pc' := 77) cd_Ho_part rfl rfl rfl rfl rfl (tm_invV rfl rfl cd_Te_partOf rfl (Nat.le_of_ble_eq_true rfl) (by decide) hC.1.1.1.1 hC.1.1.1.2) (t_partOf (i := 1) hC.1 th3 (by decide) (fun r7 ht7 => ?_))
          show bm_G _ _ _ 77 _ [.int r7, .int r, .ref 0] B _
          refine g_pure (pc' := 81) (st' := [.int r7, .int r, .ref 0]) cd_Ho_part rfl rfl (fun _ _ => rfl) ?_
          refine g_calli (pc' := 84) cd_Ho_part rfl rfl rfl rfl rfl (tm_invV rfl rfl cd_Ho_keep rfl (Nat.le_of_ble_eq_true rfl) (by decide) hH.1.1.1 hH.1.1.2) (t_kp hC hH ht7 (fun BQ hCQ hHQ hzQ => ?_))
          show bm_G _ _ _ 84 _ [.int ((kp reg r (pt (hl reg x) 1)).1)] BQ _
          have eA : pa_spec reg x a = pt (hl reg x) 1 := by unfold pa_spec; rw [if_neg (by rw [ha]; decide), if_pos c56, if_pos c64]
          rw [eA] at kk
          exact g_reti cd_Ho_part rfl ⟨_, rfl, (kk BQ T _ _ _ (List.prefix_refl T) (by omega) hCQ hHQ (fr_mono (fun y q => nF_lo hC (by omega)) hzQ.1))⟩
    · have c24 : ¬ (3 : Int32) < a := c24
      exact absurd (inR_t (n := 4) c19 (fun q => c24 (Int32.lt_of_lt_of_le (by decide) q))) (by rw [ha]; decide)
set_option maxRecDepth 100000 in
theorem t_unseal {sc : tm_X} {d : Nat} {B : bm_H} {F : Nat → Prop} {N S M ln : Nat} {T : List Tm} {dr : Nat} {K : Tm → Prop} {ca rm kc kl rk : Nat} {ws : List (Tm × Int32)} {wt : List Tm} {G : LG} {ids dir reg : Nat → Tm} {seen : List Tm} {π : Nat → Nat} {w : Nat → SW} {dev : Nat → DV} {sto : Nat → ST} {r x k : Int32} {Q : Int32 → bm_H → Prop} (hC : CK B F N S M ln T dr K ca rm kc kl rk) (hH : RH B T ws wt G ids dir reg seen π w dev sto)  (kk : ∀ B' T' M' ca' rm', T <+: T' → T'.length ≤ T.length + 1 → CK B' F N S M' ln T' dr K ca' rm' kc kl rk → RH B' T' ws wt G ids dir (un_spec reg r x k).2 seen π w dev sto → fr (fun y => ¬ F y) B B' → Q (un_spec reg r x k).1 B') : bm_Gi sc (d + 4) 141 [.ref 0, .int r, .int x, .int k] B Q := by
  show bm_G sc (d + 4) 141 0 [(0, .ref 0), (1, .int r), (2, .int x), (3, .int k)] [] B _
  generalize elv : ([(0, .ref 0), (1, .int r), (2, .int x), (3, .int k)] : tm_L) = lv
  have l0 : lv.lookup 0 = some (.ref 0) := by rw [← elv]; rfl
  have l1 : lv.lookup 1 = some (.int r) := by rw [← elv]; rfl
  have l2 : lv.lookup 2 = some (.int x) := by rw [← elv]; rfl
  have l3 : lv.lookup 3 = some (.int k) := by rw [← elv]; rfl
  clear elv
  refine g_ald (pc' := 1) cd_Ho_unseal rfl (Or.inr ⟨_, rfl, rfl, rfl⟩) l0 rfl rfl ?_
  refine g_ild (pc' := 2) cd_Ho_unseal rfl (Or.inr ⟨_, rfl, rfl, rfl⟩) l2 rfl ?_
  refine g_calli (pc' := 5) cd_Ho_unseal rfl rfl rfl rfl rfl (tm_invV rfl rfl cd_Ho_held rfl (Nat.le_of_ble_eq_true rfl) (by decide) hH.1.1.1 hH.1.1.2) (t_held hC hH (fun h8 th8 => ?_))
  show bm_G _ _ _ 5 _ [.int h8] B _
  refine g_ist (pc' := 7) cd_Ho_unseal rfl (Or.inl ⟨rfl, rfl⟩) (by decide) rfl (fun lv el => ?_)
  have l0 := tm_lk el l0 rfl (by decide)
  have l1 := tm_lk el l1 rfl (by decide)
  have l2 := tm_lk el l2 rfl (by decide)
  have l3 := tm_lk el l3 rfl (by decide)
  have l4 : lv.lookup 4 = some (.int h8) := tm_lks el
  clear el
  refine g_ald (pc' := 8) cd_Ho_unseal rfl (Or.inr ⟨_, rfl, rfl, rfl⟩) l0 rfl rfl ?_
  refine g_ild (pc' := 9) cd_Ho_unseal rfl (Or.inr ⟨_, rfl, rfl, rfl⟩) l3 rfl ?_
  refine g_calli (pc' := 12) cd_Ho_unseal rfl rfl rfl rfl rfl (tm_invV rfl rfl cd_Ho_held rfl (Nat.le_of_ble_eq_true rfl) (by decide) hH.1.1.1 hH.1.1.2) (t_held hC hH (fun h9 th9 => ?_))
  show bm_G _ _ _ 12 _ [.int h9] B _
  refine g_ist (pc' := 14) cd_Ho_unseal rfl (Or.inl ⟨rfl, rfl⟩) (by decide) rfl (fun lv el => ?_)
  have l0 := tm_lk el l0 rfl (by decide)
  have l1 := tm_lk el l1 rfl (by decide)
  have l2 := tm_lk el l2 rfl (by decide)
  have l3 := tm_lk el l3 rfl (by decide)
  have l4 := tm_lk el l4 rfl (by decide)
  have l5 : lv.lookup 5 = some (.int h9) := tm_lks el
  clear el
  refine g_ild (pc' := 15) cd_Ho_unseal rfl (Or.inr ⟨_, rfl, rfl, rfl⟩) l1 rfl ?_
  refine g_calli (pc' := 18) cd_Ho_unseal rfl rfl rfl rfl rfl (tm_invS rfl rfl cd_Ho_isRegister rfl (Nat.le_of_ble_eq_true rfl)) (t_isRegister ?_)
  show bm_G _ _ _ 18 _ [.int (bz (inR r 32))] B _
  refine g_if1 (t := 39) (pc' := 21) cd_Ho_unseal rfl rfl rfl (fun c18 => ?_) (fun c18 => ?_)
  · have c18 : (inR r 32) = false := bz_f c18
    refine g_k1 (v := (-1)) (pc' := 40) cd_Ho_unseal rfl (by decide) rfl ?_
    have eA : un_spec reg r x k = (-1, reg) := cif_f (fun q => absurd (c18.symm.trans q.1) (by decide))
    rw [eA] at kk
    exact g_reti cd_Ho_unseal rfl ⟨_, rfl, (kk B T _ _ _ (List.prefix_refl T) (by omega) hC hH (fr_rfl _ B))⟩
  · have c18 : (inR r 32) = true := bz_t c18
    refine g_ald (pc' := 22) cd_Ho_unseal rfl (Or.inr ⟨_, rfl, rfl, rfl⟩) l0 rfl rfl ?_
    refine g_fR (c := 11) (k := 0) (x := 1) (pc' := 25) cd_Ho_unseal rfl rfl rfl rfl rfl (by decide) hH.1.1.1 hH.1.1.2 hH.1.2.1.1 ?_
    refine g_ild (pc' := 27) cd_Ho_unseal rfl (Or.inl ⟨rfl, rfl⟩) l4 rfl ?_
    refine g_calli (pc' := 30) cd_Ho_unseal rfl rfl rfl rfl rfl (tm_invV rfl rfl cd_Te_kindOf rfl (Nat.le_of_ble_eq_true rfl) (by decide) hC.1.1.1.1 hC.1.1.1.2) (t_kindOf hC.1 th8 ?_)
    show bm_G _ _ _ 30 _ [.int (kd (hl reg x))] B _
    refine g_k1 (v := 5) (pc' := 31) cd_Ho_unseal rfl (by decide) rfl ?_
    refine g_if2 (t := 39) (pc' := 34) cd_Ho_unseal rfl rfl rfl (fun c31 => ?_) (fun c31 => ?_)
    · have c31 : ¬ (kd (hl reg x)) = 5 := c31
      refine g_k1 (v := (-1)) (pc' := 40) cd_Ho_unseal rfl (by decide) rfl ?_
      have eA : un_spec reg r x k = (-1, reg) := cif_f (fun q => c31 q.2.1)
      rw [eA] at kk
      exact g_reti cd_Ho_unseal rfl ⟨_, rfl, (kk B T _ _ _ (List.prefix_refl T) (by omega) hC hH (fr_rfl _ B))⟩
    · have c31 : (kd (hl reg x)) = 5 := Classical.not_not.mp c31
      refine g_ild (pc' := 36) cd_Ho_unseal rfl (Or.inl ⟨rfl, rfl⟩) l5 rfl ?_
      refine g_if1 (t := 41) (pc' := 39) cd_Ho_unseal rfl rfl rfl (fun c36 => ?_) (fun c36 => ?_)
      · have c36 : ¬ h9 = 0 := c36
        refine g_ald (pc' := 42) cd_Ho_unseal rfl (Or.inr ⟨_, rfl, rfl, rfl⟩) l0 rfl rfl ?_
        refine g_fR (c := 11) (k := 0) (x := 1) (pc' := 45) cd_Ho_unseal rfl rfl rfl rfl rfl (by decide) hH.1.1.1 hH.1.1.2 hH.1.2.1.1 ?_
        refine g_ild (pc' := 47) cd_Ho_unseal rfl (Or.inl ⟨rfl, rfl⟩) l4 rfl ?_
        refine g_k1 (v := 0) (pc' := 48) cd_Ho_unseal rfl (by decide) rfl ?_
        refine g_calli (pc' := 51) cd_Ho_unseal rfl rfl rfl rfl rfl (tm_invV rfl rfl cd_Te_partOf rfl (Nat.le_of_ble_eq_true rfl) (by decide) hC.1.1.1.1 hC.1.1.1.2) (t_partOf (i := 0) hC.1 th8 (by decide) (fun r10 ht10 => ?_))
        show bm_G _ _ _ 51 _ [.int r10] B _
        refine g_ild (pc' := 53) cd_Ho_unseal rfl (Or.inl ⟨rfl, rfl⟩) l5 rfl ?_
        refine g_if2 (t := 58) (pc' := 56) cd_Ho_unseal rfl rfl rfl (fun c53 => ?_) (fun c53 => ?_)
        · have c53 : r10 = h9 := c53
          refine g_ald (pc' := 59) cd_Ho_unseal rfl (Or.inr ⟨_, rfl, rfl, rfl⟩) l0 rfl rfl ?_
          refine g_ild (pc' := 60) cd_Ho_unseal rfl (Or.inr ⟨_, rfl, rfl, rfl⟩) l1 rfl ?_
          refine g_ald (pc' := 61) cd_Ho_unseal rfl (Or.inr ⟨_, rfl, rfl, rfl⟩) l0 rfl rfl ?_
          refine g_fR (c := 11) (k := 0) (x := 1) (pc' := 64) cd_Ho_unseal rfl rfl rfl rfl rfl (by decide) hH.1.1.1 hH.1.1.2 hH.1.2.1.1 ?_
          refine g_ild (pc' := 66) cd_Ho_unseal rfl (Or.inl ⟨rfl, rfl⟩) l4 rfl ?_
          refine g_k1 (v := 2) (pc' := 67) cd_Ho_unseal rfl (by decide) rfl ?_
          refine g_calli (pc' := 70) cd_Ho_unseal rfl rfl rfl rfl rfl (tm_invV rfl rfl cd_Te_partOf rfl (Nat.le_of_ble_eq_true rfl) (by decide) hC.1.1.1.1 hC.1.1.1.2) (t_partOf (i := 2) hC.1 th8 (by decide) (fun r11 ht11 => ?_))
          show bm_G _ _ _ 70 _ [.int r11, .int r, .ref 0] B _
          refine g_calli (pc' := 73) cd_Ho_unseal rfl rfl rfl rfl rfl (tm_invV rfl rfl cd_Ho_keep rfl (Nat.le_of_ble_eq_true rfl) (by decide) hH.1.1.1 hH.1.1.2) (t_kp hC hH ht11 (fun BQ hCQ hHQ hzQ => ?_))
          show bm_G _ _ _ 73 _ [.int ((kp reg r (pt (hl reg x) 2)).1)] BQ _
          have eA : un_spec reg r x k = kp reg r (pt (hl reg x) 2) := (cif_t ⟨c18, c31, fun q => c36 ((TI_0 hC.1 th9).mpr q)⟩).trans (cif_t ((TI_eq hC.1 ht10 th9).mp c53))
          rw [eA] at kk
          exact g_reti cd_Ho_unseal rfl ⟨_, rfl, (kk BQ T _ _ _ (List.prefix_refl T) (by omega) hCQ hHQ (fr_mono (fun y q => nF_lo hC (by omega)) hzQ.1))⟩
        · have c53 : ¬ r10 = h9 := c53
          refine g_k1 (v := 0) (pc' := 57) cd_Ho_unseal rfl (by decide) rfl ?_
          have eA : un_spec reg r x k = (0, reg) := (cif_t ⟨c18, c31, fun q => c36 ((TI_0 hC.1 th9).mpr q)⟩).trans (cif_f (fun q => c53 ((TI_eq hC.1 ht10 th9).mpr q)))
          rw [eA] at kk
          exact g_reti cd_Ho_unseal rfl ⟨_, rfl, (kk B T _ _ _ (List.prefix_refl T) (by omega) hC hH (fr_rfl _ B))⟩
      · have c36 : h9 = 0 := Classical.not_not.mp c36
        refine g_k1 (v := (-1)) (pc' := 40) cd_Ho_unseal rfl (by decide) rfl ?_
        have eA : un_spec reg r x k = (-1, reg) := cif_f (fun q => q.2.2 ((TI_0 hC.1 th9).mp c36))
        rw [eA] at kk
        exact g_reti cd_Ho_unseal rfl ⟨_, rfl, (kk B T _ _ _ (List.prefix_refl T) (by omega) hC hH (fr_rfl _ B))⟩
theorem i32_10 {a : Int32} (h : 9 < a) : (10 : Int32) ≤ a := by
  have h1 := Int32.lt_iff_toInt_lt.mp h
  exact Int32.le_iff_toInt_le.mpr (by have e1 : (9 : Int32).toInt = 9 := by decide
                                      have e2 : (10 : Int32).toInt = 10 := by decide
                                      rw [e1] at h1; rw [e2]; omega)
set_option maxRecDepth 100000 in
theorem t_compA {sc : tm_X} {d : Nat} {B : bm_H} {F : Nat → Prop} {N S M ln : Nat} {T : List Tm} {dr : Nat} {K : Tm → Prop} {ca rm kc kl rk : Nat} {ws : List (Tm × Int32)} {wt : List Tm} {G : LG} {ids dir reg : Nat → Tm} {seen : List Tm} {π : Nat → Nat} {w : Nat → SW} {dev : Nat → DV} {sto : Nat → ST} {a x y : Int32} {X : Tm} {Q : Int32 → bm_H → Prop} (hC : CK B F N S M ln T dr K ca rm kc kl rk) (hH : RH B T ws wt G ids dir reg seen π w dev sto) (hx : tv T x X) (hX : X ≠ tz) (ha : inR a 10 = true) (hM : T.length + 1 < M) (kk : ∀ B' T' z, T <+: T' → T'.length ≤ T.length + 1 → CK B' F N S M ln T' dr K ca rm kc kl rk → RH B' T' ws wt G ids dir reg seen π w dev sto → tv T' z (co_spec reg a X y) → fz (tcs 1 ca 3 4) B B' → Q z B') : bm_Gi sc (d + 3) 143 [.ref 0, .int a, .int x, .int y] B Q := by
  have hrm := hC.2.2.2.2.1.2
  show bm_G sc (d + 3) 143 0 [(0, .ref 0), (1, .int a), (2, .int x), (3, .int y)] [] B _
  generalize elv : ([(0, .ref 0), (1, .int a), (2, .int x), (3, .int y)] : tm_L) = lv
  have l0 : lv.lookup 0 = some (.ref 0) := by rw [← elv]; rfl
  have l1 : lv.lookup 1 = some (.int a) := by rw [← elv]; rfl
  have l2 : lv.lookup 2 = some (.int x) := by rw [← elv]; rfl
  have l3 : lv.lookup 3 = some (.int y) := by rw [← elv]; rfl
  clear elv
  refine g_ald (pc' := 1) cd_Ho_composed rfl (Or.inr ⟨_, rfl, rfl, rfl⟩) l0 rfl rfl ?_
  refine g_ild (pc' := 2) cd_Ho_composed rfl (Or.inr ⟨_, rfl, rfl, rfl⟩) l3 rfl ?_
  refine g_calli (pc' := 5) cd_Ho_composed rfl rfl rfl rfl rfl (tm_invV rfl rfl cd_Ho_held rfl (Nat.le_of_ble_eq_true rfl) (by decide) hH.1.1.1 hH.1.1.2) (t_held hC hH (fun h12 th12 => ?_))
  show bm_G _ _ _ 5 _ [.int h12] B _
  refine g_ist (pc' := 7) cd_Ho_composed rfl (Or.inl ⟨rfl, rfl⟩) (by decide) rfl (fun lv el => ?_)
  have l0 := tm_lk el l0 rfl (by decide)
  have l1 := tm_lk el l1 rfl (by decide)
  have l2 := tm_lk el l2 rfl (by decide)
  have l3 := tm_lk el l3 rfl (by decide)
  have l4 : lv.lookup 4 = some (.int h12) := tm_lks el
  clear el
  refine g_ild (pc' := 8) cd_Ho_composed rfl (Or.inr ⟨_, rfl, rfl, rfl⟩) l1 rfl ?_
  refine g_if1 (t := 43) (pc' := 11) cd_Ho_composed rfl rfl rfl (fun c8 => ?_) (fun c8 => ?_)
  · have c8 : a < 0 := c8
    exact absurd ha (by rw [inR_lo c8]; decide)
  · have c8 : ¬ a < 0 := c8
    refine g_ild (pc' := 12) cd_Ho_composed rfl (Or.inr ⟨_, rfl, rfl, rfl⟩) l1 rfl ?_
    refine g_k2 (v := 9) (pc' := 14) cd_Ho_composed rfl (by decide) rfl ?_
    refine g_if2 (t := 43) (pc' := 17) cd_Ho_composed rfl rfl rfl (fun c14 => ?_) (fun c14 => ?_)
    · have c14 : (9 : Int32) < a := c14
      exact absurd ha (by rw [inR_hi (n := 10) (Int32.not_lt.mp (fun q => absurd (Int32.lt_of_lt_of_le q (show (10 : Int32) ≤ a from i32_10 c14)) (Int32.lt_irrefl)))]; decide)
    · have c14 : ¬ (9 : Int32) < a := c14
      refine g_ild (pc' := 19) cd_Ho_composed rfl (Or.inl ⟨rfl, rfl⟩) l4 rfl ?_
      refine g_if1 (t := 31) (pc' := 22) cd_Ho_composed rfl rfl rfl (fun c19 => ?_) (fun c19 => ?_)
      · have c19 : ¬ h12 = 0 := c19
        refine g_ald (pc' := 32) cd_Ho_composed rfl (Or.inr ⟨_, rfl, rfl, rfl⟩) l0 rfl rfl ?_
        refine g_fR (c := 11) (k := 0) (x := 1) (pc' := 35) cd_Ho_composed rfl rfl rfl rfl rfl (by decide) hH.1.1.1 hH.1.1.2 hH.1.2.1.1 ?_
        refine g_ild (pc' := 36) cd_Ho_composed rfl (Or.inr ⟨_, rfl, rfl, rfl⟩) l1 rfl ?_
        refine g_ild (pc' := 37) cd_Ho_composed rfl (Or.inr ⟨_, rfl, rfl, rfl⟩) l2 rfl ?_
        refine g_ild (pc' := 39) cd_Ho_composed rfl (Or.inl ⟨rfl, rfl⟩) l4 rfl ?_
        refine g_calli (pc' := 42) cd_Ho_composed rfl rfl rfl rfl rfl (tm_invV rfl rfl cd_Te_mix rfl (Nat.le_of_ble_eq_true rfl) (by decide) hC.1.1.1.1 hC.1.1.1.2) (t_mix (n := a) hC.1 (by omega) hx th12 (fun B13 T13 r13 hx13 ht13 => ?_))
        have hz13 := fz_te hx13.2.2.2
        have hC13 := CK_made hC hx13.2.2.1 hx13.1 hz13 (fun y q => Or.inl q)
        have hH13 := RH_te hC hH hz13 hx13.1
        have hl13 := hx13.2.1
        show bm_G _ _ _ 42 _ [.int r13] B13 _
        exact g_reti cd_Ho_composed rfl ⟨_, rfl, (kk B13 T13 _ hx13.1 hl13 hC13 hH13 (by rw [show co_spec reg a X y = Tmx a X (hl reg y) from by unfold co_spec; rw [if_pos ha, if_neg (fun q => c19 ((TI_0 hC.1 th12).mpr (tnil_iff.mp q.1)))]]; exact ht13) hz13)⟩
      · have c19 : h12 = 0 := Classical.not_not.mp c19
        refine g_ild (pc' := 23) cd_Ho_composed rfl (Or.inr ⟨_, rfl, rfl, rfl⟩) l3 rfl ?_
        refine g_k1 (v := (-1)) (pc' := 24) cd_Ho_composed rfl (by decide) rfl ?_
        refine g_if2 (t := 31) (pc' := 27) cd_Ho_composed rfl rfl rfl (fun c24 => ?_) (fun c24 => ?_)
        · have c24 : y = (-1) := c24
          refine g_ald (pc' := 32) cd_Ho_composed rfl (Or.inr ⟨_, rfl, rfl, rfl⟩) l0 rfl rfl ?_
          refine g_fR (c := 11) (k := 0) (x := 1) (pc' := 35) cd_Ho_composed rfl rfl rfl rfl rfl (by decide) hH.1.1.1 hH.1.1.2 hH.1.2.1.1 ?_
          refine g_ild (pc' := 36) cd_Ho_composed rfl (Or.inr ⟨_, rfl, rfl, rfl⟩) l1 rfl ?_
          refine g_ild (pc' := 37) cd_Ho_composed rfl (Or.inr ⟨_, rfl, rfl, rfl⟩) l2 rfl ?_
          refine g_ild (pc' := 39) cd_Ho_composed rfl (Or.inl ⟨rfl, rfl⟩) l4 rfl ?_
          refine g_calli (pc' := 42) cd_Ho_composed rfl rfl rfl rfl rfl (tm_invV rfl rfl cd_Te_mix rfl (Nat.le_of_ble_eq_true rfl) (by decide) hC.1.1.1.1 hC.1.1.1.2) (t_mix (n := a) hC.1 (by omega) hx th12 (fun B14 T14 r14 hx14 ht14 => ?_))
          have hz14 := fz_te hx14.2.2.2
          have hC14 := CK_made hC hx14.2.2.1 hx14.1 hz14 (fun y q => Or.inl q)
          have hH14 := RH_te hC hH hz14 hx14.1
          have hl14 := hx14.2.1
          show bm_G _ _ _ 42 _ [.int r14] B14 _
          exact g_reti cd_Ho_composed rfl ⟨_, rfl, (kk B14 T14 _ hx14.1 hl14 hC14 hH14 (by rw [show co_spec reg a X y = Tmx a X (hl reg y) from by unfold co_spec; rw [if_pos ha, if_neg (fun q => q.2 c24)]]; exact ht14) hz14)⟩
        · have c24 : ¬ y = (-1) := c24
          refine g_k1 (v := 0) (pc' := 28) cd_Ho_composed rfl (by decide) rfl ?_
          refine g_pure (pc' := 42) (st' := [.int 0]) cd_Ho_composed rfl rfl (fun _ _ => rfl) ?_
          exact g_reti cd_Ho_composed rfl ⟨_, rfl, (kk B T _ (List.prefix_refl T) (by omega) hC hH (by rw [show co_spec reg a X y = tz from by unfold co_spec; rw [if_pos ha, if_pos ⟨tnil_iff.mpr ((TI_0 hC.1 th12).mp c19), c24⟩]]; exact TI_z hC.1) (fz_rfl _ B))⟩
set_option maxRecDepth 100000 in
theorem t_compB {sc : tm_X} {d : Nat} {B : bm_H} {F : Nat → Prop} {N S M ln : Nat} {T : List Tm} {dr : Nat} {K : Tm → Prop} {ca rm kc kl rk : Nat} {ws : List (Tm × Int32)} {wt : List Tm} {G : LG} {ids dir reg : Nat → Tm} {seen : List Tm} {π : Nat → Nat} {w : Nat → SW} {dev : Nat → DV} {sto : Nat → ST} {a x y : Int32} {X : Tm} {Q : Int32 → bm_H → Prop} (hC : CK B F N S M ln T dr K ca rm kc kl rk) (hH : RH B T ws wt G ids dir reg seen π w dev sto) (hx : tv T x X) (hX : X ≠ tz) (ha : inR a 10 = false) (hM : T.length + 1 < M) (kk : ∀ B' T' z, T <+: T' → T'.length ≤ T.length + 1 → CK B' F N S M ln T' dr K ca rm kc kl rk → RH B' T' ws wt G ids dir reg seen π w dev sto → tv T' z (co_spec reg a X y) → fz (tcs 1 ca 3 4) B B' → Q z B') : bm_Gi sc (d + 3) 143 [.ref 0, .int a, .int x, .int y] B Q := by
  have hrm := hC.2.2.2.2.1.2
  show bm_G sc (d + 3) 143 0 [(0, .ref 0), (1, .int a), (2, .int x), (3, .int y)] [] B _
  generalize elv : ([(0, .ref 0), (1, .int a), (2, .int x), (3, .int y)] : tm_L) = lv
  have l0 : lv.lookup 0 = some (.ref 0) := by rw [← elv]; rfl
  have l1 : lv.lookup 1 = some (.int a) := by rw [← elv]; rfl
  have l2 : lv.lookup 2 = some (.int x) := by rw [← elv]; rfl
  have l3 : lv.lookup 3 = some (.int y) := by rw [← elv]; rfl
  clear elv
  refine g_ald (pc' := 1) cd_Ho_composed rfl (Or.inr ⟨_, rfl, rfl, rfl⟩) l0 rfl rfl ?_
  refine g_ild (pc' := 2) cd_Ho_composed rfl (Or.inr ⟨_, rfl, rfl, rfl⟩) l3 rfl ?_
  refine g_calli (pc' := 5) cd_Ho_composed rfl rfl rfl rfl rfl (tm_invV rfl rfl cd_Ho_held rfl (Nat.le_of_ble_eq_true rfl) (by decide) hH.1.1.1 hH.1.1.2) (t_held hC hH (fun h15 th15 => ?_))
  show bm_G _ _ _ 5 _ [.int h15] B _
  refine g_ist (pc' := 7) cd_Ho_composed rfl (Or.inl ⟨rfl, rfl⟩) (by decide) rfl (fun lv el => ?_)
  have l0 := tm_lk el l0 rfl (by decide)
  have l1 := tm_lk el l1 rfl (by decide)
  have l2 := tm_lk el l2 rfl (by decide)
  have l3 := tm_lk el l3 rfl (by decide)
  have l4 : lv.lookup 4 = some (.int h15) := tm_lks el
  clear el
  refine g_ild (pc' := 8) cd_Ho_composed rfl (Or.inr ⟨_, rfl, rfl, rfl⟩) l1 rfl ?_
  refine g_if1 (t := 43) (pc' := 11) cd_Ho_composed rfl rfl rfl (fun c8 => ?_) (fun c8 => ?_)
  · have c8 : a < 0 := c8
    refine g_ald (pc' := 44) cd_Ho_composed rfl (Or.inr ⟨_, rfl, rfl, rfl⟩) l0 rfl rfl ?_
    refine g_fR (c := 11) (k := 0) (x := 1) (pc' := 47) cd_Ho_composed rfl rfl rfl rfl rfl (by decide) hH.1.1.1 hH.1.1.2 hH.1.2.1.1 ?_
    refine g_ild (pc' := 48) cd_Ho_composed rfl (Or.inr ⟨_, rfl, rfl, rfl⟩) l2 rfl ?_
    refine g_calli (pc' := 51) cd_Ho_composed rfl rfl rfl rfl rfl (tm_invV rfl rfl cd_Te_kindOf rfl (Nat.le_of_ble_eq_true rfl) (by decide) hC.1.1.1.1 hC.1.1.1.2) (t_kindOf hC.1 hx ?_)
    show bm_G _ _ _ 51 _ [.int (kd X)] B _
    refine g_k1 (v := 1) (pc' := 52) cd_Ho_composed rfl (by decide) rfl ?_
    refine g_if2 (t := 57) (pc' := 55) cd_Ho_composed rfl rfl rfl (fun c52 => ?_) (fun c52 => ?_)
    · have c52 : (kd X) = 1 := c52
      refine g_ild (pc' := 58) cd_Ho_composed rfl (Or.inr ⟨_, rfl, rfl, rfl⟩) l1 rfl ?_
      refine g_k2 (v := 10) (pc' := 60) cd_Ho_composed rfl (by decide) rfl ?_
      refine g_if2 (t := 72) (pc' := 63) cd_Ho_composed rfl rfl rfl (fun c60 => ?_) (fun c60 => ?_)
      · have c60 : ¬ a = 10 := c60
        refine g_ild (pc' := 73) cd_Ho_composed rfl (Or.inr ⟨_, rfl, rfl, rfl⟩) l1 rfl ?_
        refine g_k2 (v := 11) (pc' := 75) cd_Ho_composed rfl (by decide) rfl ?_
        refine g_if2 (t := 106) (pc' := 78) cd_Ho_composed rfl rfl rfl (fun c75 => ?_) (fun c75 => ?_)
        · have c75 : ¬ a = 11 := c75
          refine g_ild (pc' := 107) cd_Ho_composed rfl (Or.inr ⟨_, rfl, rfl, rfl⟩) l1 rfl ?_
          refine g_k2 (v := 12) (pc' := 109) cd_Ho_composed rfl (by decide) rfl ?_
          refine g_if2 (t := 130) (pc' := 112) cd_Ho_composed rfl rfl rfl (fun c109 => ?_) (fun c109 => ?_)
          · have c109 : ¬ a = 12 := c109
            refine g_k1 (v := 0) (pc' := 131) cd_Ho_composed rfl (by decide) rfl ?_
            exact g_reti cd_Ho_composed rfl ⟨_, rfl, (kk B T _ (List.prefix_refl T) (by omega) hC hH (by rw [show co_spec reg a X y = tz from by unfold co_spec; rw [if_neg (by rw [ha]; decide), if_pos c52, if_neg c60, if_neg c75, if_neg (fun q => c109 q.1)]]; exact TI_z hC.1) (fz_rfl _ B))⟩
          · have c109 : a = 12 := Classical.not_not.mp c109
            refine g_ild (pc' := 114) cd_Ho_composed rfl (Or.inl ⟨rfl, rfl⟩) l4 rfl ?_
            refine g_if1 (t := 130) (pc' := 117) cd_Ho_composed rfl rfl rfl (fun c114 => ?_) (fun c114 => ?_)
            · have c114 : h15 = 0 := c114
              refine g_k1 (v := 0) (pc' := 131) cd_Ho_composed rfl (by decide) rfl ?_
              exact g_reti cd_Ho_composed rfl ⟨_, rfl, (kk B T _ (List.prefix_refl T) (by omega) hC hH (by rw [show co_spec reg a X y = tz from by unfold co_spec; rw [if_neg (by rw [ha]; decide), if_pos c52, if_neg c60, if_neg c75, if_neg (fun q => absurd (q.2.symm.trans (tnil_iff.mpr ((TI_0 hC.1 th15).mp c114))) (by decide))]]; exact TI_z hC.1) (fz_rfl _ B))⟩
            · have c114 : ¬ h15 = 0 := c114
              refine g_ald (pc' := 118) cd_Ho_composed rfl (Or.inr ⟨_, rfl, rfl, rfl⟩) l0 rfl rfl ?_
              refine g_fR (c := 11) (k := 0) (x := 1) (pc' := 121) cd_Ho_composed rfl rfl rfl rfl rfl (by decide) hH.1.1.1 hH.1.1.2 hH.1.2.1.1 ?_
              refine g_ild (pc' := 122) cd_Ho_composed rfl (Or.inr ⟨_, rfl, rfl, rfl⟩) l2 rfl ?_
              refine g_ild (pc' := 124) cd_Ho_composed rfl (Or.inl ⟨rfl, rfl⟩) l4 rfl ?_
              refine g_calli (pc' := 127) cd_Ho_composed rfl rfl rfl rfl rfl (tm_invV rfl rfl cd_Te_signed rfl (Nat.le_of_ble_eq_true rfl) (by decide) hC.1.1.1.1 hC.1.1.1.2) (t_signed hC.1 (by omega) hx th15 (fun B16 T16 r16 hx16 ht16 => ?_))
              have hz16 := fz_te hx16.2.2.2
              have hC16 := CK_made hC hx16.2.2.1 hx16.1 hz16 (fun y q => Or.inl q)
              have hH16 := RH_te hC hH hz16 hx16.1
              have hl16 := hx16.2.1
              show bm_G _ _ _ 127 _ [.int r16] B16 _
              refine g_pure (pc' := 131) (st' := [.int r16]) cd_Ho_composed rfl rfl (fun _ _ => rfl) ?_
              exact g_reti cd_Ho_composed rfl ⟨_, rfl, (kk B16 T16 _ hx16.1 hl16 hC16 hH16 (by rw [show co_spec reg a X y = Tsg X (hl reg y) from by unfold co_spec; rw [if_neg (by rw [ha]; decide), if_pos c52, if_neg c60, if_neg c75, if_pos ⟨c109, tnil_f (fun q => c114 ((TI_0 hC.1 th15).mpr q))⟩]]; exact ht16) hz16)⟩
        · have c75 : a = 11 := Classical.not_not.mp c75
          refine g_ald (pc' := 79) cd_Ho_composed rfl (Or.inr ⟨_, rfl, rfl, rfl⟩) l0 rfl rfl ?_
          refine g_fR (c := 11) (k := 0) (x := 1) (pc' := 82) cd_Ho_composed rfl rfl rfl rfl rfl (by decide) hH.1.1.1 hH.1.1.2 hH.1.2.1.1 ?_
          refine g_ild (pc' := 84) cd_Ho_composed rfl (Or.inl ⟨rfl, rfl⟩) l4 rfl ?_
          refine g_calli (pc' := 87) cd_Ho_composed rfl rfl rfl rfl rfl (tm_invV rfl rfl cd_Te_kindOf rfl (Nat.le_of_ble_eq_true rfl) (by decide) hC.1.1.1.1 hC.1.1.1.2) (t_kindOf hC.1 th15 ?_)
          show bm_G _ _ _ 87 _ [.int (kd (hl reg y))] B _
          refine g_k1 (v := 2) (pc' := 88) cd_Ho_composed rfl (by decide) rfl ?_
          refine g_if2 (t := 104) (pc' := 91) cd_Ho_composed rfl rfl rfl (fun c88 => ?_) (fun c88 => ?_)
          · have c88 : ¬ (kd (hl reg y)) = 2 := c88
            refine g_k1 (v := 0) (pc' := 105) cd_Ho_composed rfl (by decide) rfl ?_
            exact g_reti cd_Ho_composed rfl ⟨_, rfl, (kk B T _ (List.prefix_refl T) (by omega) hC hH (by rw [show co_spec reg a X y = tz from by unfold co_spec; rw [if_neg (by rw [ha]; decide), if_pos c52, if_neg c60, if_pos c75, if_neg c88]]; exact TI_z hC.1) (fz_rfl _ B))⟩
          · have c88 : (kd (hl reg y)) = 2 := Classical.not_not.mp c88
            refine g_ald (pc' := 92) cd_Ho_composed rfl (Or.inr ⟨_, rfl, rfl, rfl⟩) l0 rfl rfl ?_
            refine g_fR (c := 11) (k := 0) (x := 1) (pc' := 95) cd_Ho_composed rfl rfl rfl rfl rfl (by decide) hH.1.1.1 hH.1.1.2 hH.1.2.1.1 ?_
            refine g_ild (pc' := 96) cd_Ho_composed rfl (Or.inr ⟨_, rfl, rfl, rfl⟩) l2 rfl ?_
            refine g_ild (pc' := 98) cd_Ho_composed rfl (Or.inl ⟨rfl, rfl⟩) l4 rfl ?_
            refine g_calli (pc' := 101) cd_Ho_composed rfl rfl rfl rfl rfl (tm_invV rfl rfl cd_Te_shared rfl (Nat.le_of_ble_eq_true rfl) (by decide) hC.1.1.1.1 hC.1.1.1.2) (t_shared hC.1 (by omega) hx th15 c52 (pub_p0 (TI_sp hC.1 th15) c88) (fun B17 T17 r17 hx17 ht17 => ?_))
            have hz17 := fz_te hx17.2.2.2
            have hC17 := CK_made hC hx17.2.2.1 hx17.1 hz17 (fun y q => Or.inl q)
            have hH17 := RH_te hC hH hz17 hx17.1
            have hl17 := hx17.2.1
            show bm_G _ _ _ 101 _ [.int r17] B17 _
            refine g_pure (pc' := 105) (st' := [.int r17]) cd_Ho_composed rfl rfl (fun _ _ => rfl) ?_
            exact g_reti cd_Ho_composed rfl ⟨_, rfl, (kk B17 T17 _ hx17.1 hl17 hC17 hH17 (by rw [show co_spec reg a X y = Tsh X (pt (hl reg y) 0) from by unfold co_spec; rw [if_neg (by rw [ha]; decide), if_pos c52, if_neg c60, if_pos c75, if_pos c88]]; exact ht17) hz17)⟩
      · have c60 : a = 10 := Classical.not_not.mp c60
        refine g_ald (pc' := 64) cd_Ho_composed rfl (Or.inr ⟨_, rfl, rfl, rfl⟩) l0 rfl rfl ?_
        refine g_fR (c := 11) (k := 0) (x := 1) (pc' := 67) cd_Ho_composed rfl rfl rfl rfl rfl (by decide) hH.1.1.1 hH.1.1.2 hH.1.2.1.1 ?_
        refine g_ild (pc' := 68) cd_Ho_composed rfl (Or.inr ⟨_, rfl, rfl, rfl⟩) l2 rfl ?_
        refine g_calli (pc' := 71) cd_Ho_composed rfl rfl rfl rfl rfl (tm_invV rfl rfl cd_Te_publicOf rfl (Nat.le_of_ble_eq_true rfl) (by decide) hC.1.1.1.1 hC.1.1.1.2) (t_publicOf hC.1 hx (fun r18 ht18 => ?_))
        rw [if_pos c52] at ht18
        show bm_G _ _ _ 71 _ [.int r18] B _
        exact g_reti cd_Ho_composed rfl ⟨_, rfl, (kk B T _ (List.prefix_refl T) (by omega) hC hH (by rw [show co_spec reg a X y = Tpub X from by unfold co_spec; rw [if_neg (by rw [ha]; decide), if_pos c52, if_pos c60]]; exact ht18) (fz_rfl _ B))⟩
    · have c52 : ¬ (kd X) = 1 := c52
      refine g_k1 (v := 0) (pc' := 56) cd_Ho_composed rfl (by decide) rfl ?_
      exact g_reti cd_Ho_composed rfl ⟨_, rfl, (kk B T _ (List.prefix_refl T) (by omega) hC hH (by rw [show co_spec reg a X y = tz from by unfold co_spec; rw [if_neg (by rw [ha]; decide), if_neg c52]]; exact TI_z hC.1) (fz_rfl _ B))⟩
  · have c8 : ¬ a < 0 := c8
    refine g_ild (pc' := 12) cd_Ho_composed rfl (Or.inr ⟨_, rfl, rfl, rfl⟩) l1 rfl ?_
    refine g_k2 (v := 9) (pc' := 14) cd_Ho_composed rfl (by decide) rfl ?_
    refine g_if2 (t := 43) (pc' := 17) cd_Ho_composed rfl rfl rfl (fun c14 => ?_) (fun c14 => ?_)
    · have c14 : (9 : Int32) < a := c14
      refine g_ald (pc' := 44) cd_Ho_composed rfl (Or.inr ⟨_, rfl, rfl, rfl⟩) l0 rfl rfl ?_
      refine g_fR (c := 11) (k := 0) (x := 1) (pc' := 47) cd_Ho_composed rfl rfl rfl rfl rfl (by decide) hH.1.1.1 hH.1.1.2 hH.1.2.1.1 ?_
      refine g_ild (pc' := 48) cd_Ho_composed rfl (Or.inr ⟨_, rfl, rfl, rfl⟩) l2 rfl ?_
      refine g_calli (pc' := 51) cd_Ho_composed rfl rfl rfl rfl rfl (tm_invV rfl rfl cd_Te_kindOf rfl (Nat.le_of_ble_eq_true rfl) (by decide) hC.1.1.1.1 hC.1.1.1.2) (t_kindOf hC.1 hx ?_)
      show bm_G _ _ _ 51 _ [.int (kd X)] B _
      refine g_k1 (v := 1) (pc' := 52) cd_Ho_composed rfl (by decide) rfl ?_
      refine g_if2 (t := 57) (pc' := 55) cd_Ho_composed rfl rfl rfl (fun c52 => ?_) (fun c52 => ?_)
      · have c52 : (kd X) = 1 := c52
        refine g_ild (pc' := 58) cd_Ho_composed rfl (Or.inr ⟨_, rfl, rfl, rfl⟩) l1 rfl ?_
        refine g_k2 (v := 10) (pc' := 60) cd_Ho_composed rfl (by decide) rfl ?_
        refine g_if2 (t := 72) (pc' := 63) cd_Ho_composed rfl rfl rfl (fun c60 => ?_) (fun c60 => ?_)
        · have c60 : ¬ a = 10 := c60
          refine g_ild (pc' := 73) cd_Ho_composed rfl (Or.inr ⟨_, rfl, rfl, rfl⟩) l1 rfl ?_
          refine g_k2 (v := 11) (pc' := 75) cd_Ho_composed rfl (by decide) rfl ?_
          refine g_if2 (t := 106) (pc' := 78) cd_Ho_composed rfl rfl rfl (fun c75 => ?_) (fun c75 => ?_)
          · have c75 : ¬ a = 11 := c75
            refine g_ild (pc' := 107) cd_Ho_composed rfl (Or.inr ⟨_, rfl, rfl, rfl⟩) l1 rfl ?_
            refine g_k2 (v := 12) (pc' := 109) cd_Ho_composed rfl (by decide) rfl ?_
            refine g_if2 (t := 130) (pc' := 112) cd_Ho_composed rfl rfl rfl (fun c109 => ?_) (fun c109 => ?_)
            · have c109 : ¬ a = 12 := c109
              refine g_k1 (v := 0) (pc' := 131) cd_Ho_composed rfl (by decide) rfl ?_
              exact g_reti cd_Ho_composed rfl ⟨_, rfl, (kk B T _ (List.prefix_refl T) (by omega) hC hH (by rw [show co_spec reg a X y = tz from by unfold co_spec; rw [if_neg (by rw [ha]; decide), if_pos c52, if_neg c60, if_neg c75, if_neg (fun q => c109 q.1)]]; exact TI_z hC.1) (fz_rfl _ B))⟩
            · have c109 : a = 12 := Classical.not_not.mp c109
              refine g_ild (pc' := 114) cd_Ho_composed rfl (Or.inl ⟨rfl, rfl⟩) l4 rfl ?_
              refine g_if1 (t := 130) (pc' := 117) cd_Ho_composed rfl rfl rfl (fun c114 => ?_) (fun c114 => ?_)
              · have c114 : h15 = 0 := c114
                refine g_k1 (v := 0) (pc' := 131) cd_Ho_composed rfl (by decide) rfl ?_
                exact g_reti cd_Ho_composed rfl ⟨_, rfl, (kk B T _ (List.prefix_refl T) (by omega) hC hH (by rw [show co_spec reg a X y = tz from by unfold co_spec; rw [if_neg (by rw [ha]; decide), if_pos c52, if_neg c60, if_neg c75, if_neg (fun q => absurd (q.2.symm.trans (tnil_iff.mpr ((TI_0 hC.1 th15).mp c114))) (by decide))]]; exact TI_z hC.1) (fz_rfl _ B))⟩
              · have c114 : ¬ h15 = 0 := c114
                refine g_ald (pc' := 118) cd_Ho_composed rfl (Or.inr ⟨_, rfl, rfl, rfl⟩) l0 rfl rfl ?_
                refine g_fR (c := 11) (k := 0) (x := 1) (pc' := 121) cd_Ho_composed rfl rfl rfl rfl rfl (by decide) hH.1.1.1 hH.1.1.2 hH.1.2.1.1 ?_
                refine g_ild (pc' := 122) cd_Ho_composed rfl (Or.inr ⟨_, rfl, rfl, rfl⟩) l2 rfl ?_
                refine g_ild (pc' := 124) cd_Ho_composed rfl (Or.inl ⟨rfl, rfl⟩) l4 rfl ?_
                refine g_calli (pc' := 127) cd_Ho_composed rfl rfl rfl rfl rfl (tm_invV rfl rfl cd_Te_signed rfl (Nat.le_of_ble_eq_true rfl) (by decide) hC.1.1.1.1 hC.1.1.1.2) (t_signed hC.1 (by omega) hx th15 (fun B19 T19 r19 hx19 ht19 => ?_))
                have hz19 := fz_te hx19.2.2.2
                have hC19 := CK_made hC hx19.2.2.1 hx19.1 hz19 (fun y q => Or.inl q)
                have hH19 := RH_te hC hH hz19 hx19.1
                have hl19 := hx19.2.1
                show bm_G _ _ _ 127 _ [.int r19] B19 _
                refine g_pure (pc' := 131) (st' := [.int r19]) cd_Ho_composed rfl rfl (fun _ _ => rfl) ?_
                exact g_reti cd_Ho_composed rfl ⟨_, rfl, (kk B19 T19 _ hx19.1 hl19 hC19 hH19 (by rw [show co_spec reg a X y = Tsg X (hl reg y) from by unfold co_spec; rw [if_neg (by rw [ha]; decide), if_pos c52, if_neg c60, if_neg c75, if_pos ⟨c109, tnil_f (fun q => c114 ((TI_0 hC.1 th15).mpr q))⟩]]; exact ht19) hz19)⟩
          · have c75 : a = 11 := Classical.not_not.mp c75
            refine g_ald (pc' := 79) cd_Ho_composed rfl (Or.inr ⟨_, rfl, rfl, rfl⟩) l0 rfl rfl ?_
            refine g_fR (c := 11) (k := 0) (x := 1) (pc' := 82) cd_Ho_composed rfl rfl rfl rfl rfl (by decide) hH.1.1.1 hH.1.1.2 hH.1.2.1.1 ?_
            refine g_ild (pc' := 84) cd_Ho_composed rfl (Or.inl ⟨rfl, rfl⟩) l4 rfl ?_
            refine g_calli (pc' := 87) cd_Ho_composed rfl rfl rfl rfl rfl (tm_invV rfl rfl cd_Te_kindOf rfl (Nat.le_of_ble_eq_true rfl) (by decide) hC.1.1.1.1 hC.1.1.1.2) (t_kindOf hC.1 th15 ?_)
            show bm_G _ _ _ 87 _ [.int (kd (hl reg y))] B _
            refine g_k1 (v := 2) (pc' := 88) cd_Ho_composed rfl (by decide) rfl ?_
            refine g_if2 (t := 104) (pc' := 91) cd_Ho_composed rfl rfl rfl (fun c88 => ?_) (fun c88 => ?_)
            · have c88 : ¬ (kd (hl reg y)) = 2 := c88
              refine g_k1 (v := 0) (pc' := 105) cd_Ho_composed rfl (by decide) rfl ?_
              exact g_reti cd_Ho_composed rfl ⟨_, rfl, (kk B T _ (List.prefix_refl T) (by omega) hC hH (by rw [show co_spec reg a X y = tz from by unfold co_spec; rw [if_neg (by rw [ha]; decide), if_pos c52, if_neg c60, if_pos c75, if_neg c88]]; exact TI_z hC.1) (fz_rfl _ B))⟩
            · have c88 : (kd (hl reg y)) = 2 := Classical.not_not.mp c88
              refine g_ald (pc' := 92) cd_Ho_composed rfl (Or.inr ⟨_, rfl, rfl, rfl⟩) l0 rfl rfl ?_
              refine g_fR (c := 11) (k := 0) (x := 1) (pc' := 95) cd_Ho_composed rfl rfl rfl rfl rfl (by decide) hH.1.1.1 hH.1.1.2 hH.1.2.1.1 ?_
              refine g_ild (pc' := 96) cd_Ho_composed rfl (Or.inr ⟨_, rfl, rfl, rfl⟩) l2 rfl ?_
              refine g_ild (pc' := 98) cd_Ho_composed rfl (Or.inl ⟨rfl, rfl⟩) l4 rfl ?_
              refine g_calli (pc' := 101) cd_Ho_composed rfl rfl rfl rfl rfl (tm_invV rfl rfl cd_Te_shared rfl (Nat.le_of_ble_eq_true rfl) (by decide) hC.1.1.1.1 hC.1.1.1.2) (t_shared hC.1 (by omega) hx th15 c52 (pub_p0 (TI_sp hC.1 th15) c88) (fun B20 T20 r20 hx20 ht20 => ?_))
              have hz20 := fz_te hx20.2.2.2
              have hC20 := CK_made hC hx20.2.2.1 hx20.1 hz20 (fun y q => Or.inl q)
              have hH20 := RH_te hC hH hz20 hx20.1
              have hl20 := hx20.2.1
              show bm_G _ _ _ 101 _ [.int r20] B20 _
              refine g_pure (pc' := 105) (st' := [.int r20]) cd_Ho_composed rfl rfl (fun _ _ => rfl) ?_
              exact g_reti cd_Ho_composed rfl ⟨_, rfl, (kk B20 T20 _ hx20.1 hl20 hC20 hH20 (by rw [show co_spec reg a X y = Tsh X (pt (hl reg y) 0) from by unfold co_spec; rw [if_neg (by rw [ha]; decide), if_pos c52, if_neg c60, if_pos c75, if_pos c88]]; exact ht20) hz20)⟩
        · have c60 : a = 10 := Classical.not_not.mp c60
          refine g_ald (pc' := 64) cd_Ho_composed rfl (Or.inr ⟨_, rfl, rfl, rfl⟩) l0 rfl rfl ?_
          refine g_fR (c := 11) (k := 0) (x := 1) (pc' := 67) cd_Ho_composed rfl rfl rfl rfl rfl (by decide) hH.1.1.1 hH.1.1.2 hH.1.2.1.1 ?_
          refine g_ild (pc' := 68) cd_Ho_composed rfl (Or.inr ⟨_, rfl, rfl, rfl⟩) l2 rfl ?_
          refine g_calli (pc' := 71) cd_Ho_composed rfl rfl rfl rfl rfl (tm_invV rfl rfl cd_Te_publicOf rfl (Nat.le_of_ble_eq_true rfl) (by decide) hC.1.1.1.1 hC.1.1.1.2) (t_publicOf hC.1 hx (fun r21 ht21 => ?_))
          rw [if_pos c52] at ht21
          show bm_G _ _ _ 71 _ [.int r21] B _
          exact g_reti cd_Ho_composed rfl ⟨_, rfl, (kk B T _ (List.prefix_refl T) (by omega) hC hH (by rw [show co_spec reg a X y = Tpub X from by unfold co_spec; rw [if_neg (by rw [ha]; decide), if_pos c52, if_pos c60]]; exact ht21) (fz_rfl _ B))⟩
      · have c52 : ¬ (kd X) = 1 := c52
        refine g_k1 (v := 0) (pc' := 56) cd_Ho_composed rfl (by decide) rfl ?_
        exact g_reti cd_Ho_composed rfl ⟨_, rfl, (kk B T _ (List.prefix_refl T) (by omega) hC hH (by rw [show co_spec reg a X y = tz from by unfold co_spec; rw [if_neg (by rw [ha]; decide), if_neg c52]]; exact TI_z hC.1) (fz_rfl _ B))⟩
    · have c14 : ¬ (9 : Int32) < a := c14
      exact absurd (inR_t (n := 10) c8 (fun q => c14 (Int32.lt_of_lt_of_le (by decide) q))) (by rw [ha]; decide)
theorem t_comp {sc : tm_X} {d : Nat} {B : bm_H} {F : Nat → Prop} {N S M ln : Nat} {T : List Tm} {dr : Nat} {K : Tm → Prop} {ca rm kc kl rk : Nat} {ws : List (Tm × Int32)} {wt : List Tm} {G : LG} {ids dir reg : Nat → Tm} {seen : List Tm} {π : Nat → Nat} {w : Nat → SW} {dev : Nat → DV} {sto : Nat → ST} {a x y : Int32} {X : Tm} {Q : Int32 → bm_H → Prop} (hC : CK B F N S M ln T dr K ca rm kc kl rk) (hH : RH B T ws wt G ids dir reg seen π w dev sto) (hx : tv T x X) (hX : X ≠ tz) (hM : T.length + 1 < M) (kk : ∀ B' T' z, T <+: T' → T'.length ≤ T.length + 1 → CK B' F N S M ln T' dr K ca rm kc kl rk → RH B' T' ws wt G ids dir reg seen π w dev sto → tv T' z (co_spec reg a X y) → fz (tcs 1 ca 3 4) B B' → Q z B') : bm_Gi sc (d + 3) 143 [.ref 0, .int a, .int x, .int y] B Q := by
  cases ha : inR a 10 with
  | true => exact t_compA hC hH hx hX ha hM kk
  | false => exact t_compB hC hH hx hX ha hM kk
set_option maxRecDepth 100000 in
theorem t_make {sc : tm_X} {d : Nat} {B : bm_H} {F : Nat → Prop} {N S M ln : Nat} {T : List Tm} {dr : Nat} {K : Tm → Prop} {ca rm kc kl rk : Nat} {ws : List (Tm × Int32)} {wt : List Tm} {G : LG} {ids dir reg : Nat → Tm} {seen : List Tm} {π : Nat → Nat} {w : Nat → SW} {dev : Nat → DV} {sto : Nat → ST} {r a x y : Int32} {Q : Int32 → bm_H → Prop} (hC : CK B F N S M ln T dr K ca rm kc kl rk) (hH : RH B T ws wt G ids dir reg seen π w dev sto) (hTl : T.length ≤ 30000) (kk : ∀ B' T' M' ca' rm', T <+: T' → T'.length ≤ T.length + 1 → CK B' F N S M' ln T' dr K ca' rm' kc kl rk → RH B' T' ws wt G ids dir (mk_spec reg r a x y).2 seen π w dev sto → fr (fun y => ¬ F y) B B' → Q (mk_spec reg r a x y).1 B') : bm_Gi sc (d + 4) 142 [.ref 0, .int r, .int a, .int x, .int y] B Q := by
  show bm_G sc (d + 4) 142 0 [(0, .ref 0), (1, .int r), (2, .int a), (3, .int x), (4, .int y)] [] B _
  generalize elv : ([(0, .ref 0), (1, .int r), (2, .int a), (3, .int x), (4, .int y)] : tm_L) = lv
  have l0 : lv.lookup 0 = some (.ref 0) := by rw [← elv]; rfl
  have l1 : lv.lookup 1 = some (.int r) := by rw [← elv]; rfl
  have l2 : lv.lookup 2 = some (.int a) := by rw [← elv]; rfl
  have l3 : lv.lookup 3 = some (.int x) := by rw [← elv]; rfl
  have l4 : lv.lookup 4 = some (.int y) := by rw [← elv]; rfl
  clear elv
  refine g_ild (pc' := 1) cd_Ho_make rfl (Or.inr ⟨_, rfl, rfl, rfl⟩) l1 rfl ?_
  refine g_calli (pc' := 4) cd_Ho_make rfl rfl rfl rfl rfl (tm_invS rfl rfl cd_Ho_isRegister rfl (Nat.le_of_ble_eq_true rfl)) (t_isRegister ?_)
  show bm_G _ _ _ 4 _ [.int (bz (inR r 32))] B _
  refine g_if1 (t := 15) (pc' := 7) cd_Ho_make rfl rfl rfl (fun c4 => ?_) (fun c4 => ?_)
  · have c4 : (inR r 32) = false := bz_f c4
    refine g_k1 (v := (-1)) (pc' := 16) cd_Ho_make rfl (by decide) rfl ?_
    have eA : mk_spec reg r a x y = (-1, reg) := if_neg (fun q => absurd (c4.symm.trans q.1) (by decide))
    rw [eA] at kk
    exact g_reti cd_Ho_make rfl ⟨_, rfl, (kk B T _ _ _ (List.prefix_refl T) (by omega) hC hH (fr_rfl _ B))⟩
  · have c4 : (inR r 32) = true := bz_t c4
    refine g_ald (pc' := 8) cd_Ho_make rfl (Or.inr ⟨_, rfl, rfl, rfl⟩) l0 rfl rfl ?_
    refine g_ild (pc' := 9) cd_Ho_make rfl (Or.inr ⟨_, rfl, rfl, rfl⟩) l3 rfl ?_
    refine g_calli (pc' := 12) cd_Ho_make rfl rfl rfl rfl rfl (tm_invV rfl rfl cd_Ho_held rfl (Nat.le_of_ble_eq_true rfl) (by decide) hH.1.1.1 hH.1.1.2) (t_held hC hH (fun h22 th22 => ?_))
    show bm_G _ _ _ 12 _ [.int h22] B _
    refine g_if1 (t := 17) (pc' := 15) cd_Ho_make rfl rfl rfl (fun c12 => ?_) (fun c12 => ?_)
    · have c12 : ¬ h22 = 0 := c12
      refine g_ald (pc' := 18) cd_Ho_make rfl (Or.inr ⟨_, rfl, rfl, rfl⟩) l0 rfl rfl ?_
      refine g_fR (c := 11) (k := 0) (x := 1) (pc' := 21) cd_Ho_make rfl rfl rfl rfl rfl (by decide) hH.1.1.1 hH.1.1.2 hH.1.2.1.1 ?_
      refine g_calli (pc' := 24) cd_Ho_make rfl rfl rfl rfl rfl (tm_invV rfl rfl cd_Te_hasRoom rfl (Nat.le_of_ble_eq_true rfl) (by decide) hC.1.1.1.1 hC.1.1.1.2) (t_roomC hC hTl (fun B1 ca1 rm1 hC1 hf1 => ?_))
      have hH1 := RH_fr hH hf1 (fun y q => by omega) (List.prefix_refl T)
      have hrm1 := hC1.2.2.2.2.1.2
      have hf1x : fr (fun y => ¬ F y) B B1 := fr_mono (fun y q => nF_lo hC (by omega)) hf1
      show bm_G _ _ _ 24 _ [.int 1] B1 _
      refine g_if1 (t := 47) (pc' := 27) cd_Ho_make rfl rfl rfl (fun c24 => ?_) (fun c24 => ?_)
      · exact absurd (show (1 : Int32) = 0 from c24) (by decide)
      · have c24 : ¬ (1 : Int32) = 0 := c24
        refine g_ald (pc' := 28) cd_Ho_make rfl (Or.inr ⟨_, rfl, rfl, rfl⟩) l0 rfl rfl ?_
        refine g_ild (pc' := 29) cd_Ho_make rfl (Or.inr ⟨_, rfl, rfl, rfl⟩) l1 rfl ?_
        refine g_ald (pc' := 30) cd_Ho_make rfl (Or.inr ⟨_, rfl, rfl, rfl⟩) l0 rfl rfl ?_
        refine g_ild (pc' := 31) cd_Ho_make rfl (Or.inr ⟨_, rfl, rfl, rfl⟩) l2 rfl ?_
        refine g_ald (pc' := 32) cd_Ho_make rfl (Or.inr ⟨_, rfl, rfl, rfl⟩) l0 rfl rfl ?_
        refine g_ild (pc' := 33) cd_Ho_make rfl (Or.inr ⟨_, rfl, rfl, rfl⟩) l3 rfl ?_
        refine g_calli (pc' := 36) cd_Ho_make rfl rfl rfl rfl rfl (tm_invV rfl rfl cd_Ho_held rfl (Nat.le_of_ble_eq_true rfl) (by decide) hH1.1.1.1 hH1.1.1.2) (t_held hC1 hH1 (fun h23 th23 => ?_))
        show bm_G _ _ _ 36 _ [.int h23, .int a, .ref 0, .int r, .ref 0] B1 _
        refine g_ild (pc' := 38) cd_Ho_make rfl (Or.inl ⟨rfl, rfl⟩) l4 rfl ?_
        have hX : hl reg x ≠ tz := fun q => c12 ((TI_0 hC.1 th22).mpr q)
        refine g_calli (pc' := 41) cd_Ho_make rfl rfl rfl rfl rfl (tm_invV rfl rfl cd_Ho_composed rfl (Nat.le_of_ble_eq_true rfl) (by decide) hH1.1.1.1 hH1.1.1.2) (t_comp hC1 hH1 th23 hX (by omega) (fun B2 T2 z2 hp2 hl2 hC2 hH2 tz2 hz2 => ?_))
        have hx2 := And.intro hp2 hl2
        show bm_G _ _ _ 41 _ [.int z2, .int r, .ref 0] B2 _
        refine g_calli (pc' := 44) cd_Ho_make rfl rfl rfl rfl rfl (tm_invV rfl rfl cd_Ho_keep rfl (Nat.le_of_ble_eq_true rfl) (by decide) hH2.1.1.1 hH2.1.1.2) (t_kp hC2 hH2 tz2 (fun BQ hCQ hHQ hzQ => ?_))
        show bm_G _ _ _ 44 _ [.int ((kp reg r (co_spec reg a (hl reg x) y)).1)] BQ _
        refine g_pure (pc' := 49) (st' := [.int ((kp reg r (co_spec reg a (hl reg x) y)).1)]) cd_Ho_make rfl rfl (fun _ _ => rfl) ?_
        have eA : mk_spec reg r a x y = kp reg r (co_spec reg a (hl reg x) y) := if_pos ⟨c4, tnil_f hX⟩
        rw [eA] at kk
        exact g_reti cd_Ho_make rfl ⟨_, rfl, (kk BQ T2 _ ca1 rm1 hp2 hl2 hCQ hHQ (fr_trans (fr_trans hf1x (fr_mono (fun y q => nF_tcs hC1 q) hz2.1)) (fr_mono (fun y q => nF_lo hC (by omega)) hzQ.1)))⟩
    · have c12 : h22 = 0 := Classical.not_not.mp c12
      refine g_k1 (v := (-1)) (pc' := 16) cd_Ho_make rfl (by decide) rfl ?_
      have eA : mk_spec reg r a x y = (-1, reg) := if_neg (fun q => absurd (q.2.symm.trans (tnil_iff.mpr ((TI_0 hC.1 th22).mp c12))) (by decide))
      rw [eA] at kk
      exact g_reti cd_Ho_make rfl ⟨_, rfl, (kk B T _ _ _ (List.prefix_refl T) (by omega) hC hH (fr_rfl _ B))⟩
set_option maxRecDepth 100000 in
theorem t_seal {sc : tm_X} {d : Nat} {B : bm_H} {F : Nat → Prop} {N S M ln : Nat} {T : List Tm} {dr : Nat} {K : Tm → Prop} {ca rm kc kl rk : Nat} {ws : List (Tm × Int32)} {wt : List Tm} {G : LG} {ids dir reg : Nat → Tm} {seen : List Tm} {π : Nat → Nat} {w : Nat → SW} {dev : Nat → DV} {sto : Nat → ST} {r k h b : Int32} {Q : Int32 → bm_H → Prop} (hC : CK B F N S M ln T dr K ca rm kc kl rk) (hH : RH B T ws wt G ids dir reg seen π w dev sto) (hTl : T.length ≤ 30000) (kk : ∀ B' T' M' ca' rm', T <+: T' → T'.length ≤ T.length + 1 → CK B' F N S M' ln T' dr K ca' rm' kc kl rk → RH B' T' ws wt G ids dir (sl_spec reg r k h b).2 seen π w dev sto → fr (fun y => ¬ F y) B B' → Q (sl_spec reg r k h b).1 B') : bm_Gi sc (d + 4) 144 [.ref 0, .int r, .int k, .int h, .int b] B Q := by
  show bm_G sc (d + 4) 144 0 [(0, .ref 0), (1, .int r), (2, .int k), (3, .int h), (4, .int b)] [] B _
  generalize elv : ([(0, .ref 0), (1, .int r), (2, .int k), (3, .int h), (4, .int b)] : tm_L) = lv
  have l0 : lv.lookup 0 = some (.ref 0) := by rw [← elv]; rfl
  have l1 : lv.lookup 1 = some (.int r) := by rw [← elv]; rfl
  have l2 : lv.lookup 2 = some (.int k) := by rw [← elv]; rfl
  have l3 : lv.lookup 3 = some (.int h) := by rw [← elv]; rfl
  have l4 : lv.lookup 4 = some (.int b) := by rw [← elv]; rfl
  clear elv
  refine g_ald (pc' := 1) cd_Ho_seal rfl (Or.inr ⟨_, rfl, rfl, rfl⟩) l0 rfl rfl ?_
  refine g_ild (pc' := 2) cd_Ho_seal rfl (Or.inr ⟨_, rfl, rfl, rfl⟩) l2 rfl ?_
  refine g_calli (pc' := 5) cd_Ho_seal rfl rfl rfl rfl rfl (tm_invV rfl rfl cd_Ho_held rfl (Nat.le_of_ble_eq_true rfl) (by decide) hH.1.1.1 hH.1.1.2) (t_held hC hH (fun h24 th24 => ?_))
  show bm_G _ _ _ 5 _ [.int h24] B _
  refine g_ist (pc' := 7) cd_Ho_seal rfl (Or.inl ⟨rfl, rfl⟩) (by decide) rfl (fun lv el => ?_)
  have l0 := tm_lk el l0 rfl (by decide)
  have l1 := tm_lk el l1 rfl (by decide)
  have l2 := tm_lk el l2 rfl (by decide)
  have l3 := tm_lk el l3 rfl (by decide)
  have l4 := tm_lk el l4 rfl (by decide)
  have l5 : lv.lookup 5 = some (.int h24) := tm_lks el
  clear el
  refine g_ald (pc' := 8) cd_Ho_seal rfl (Or.inr ⟨_, rfl, rfl, rfl⟩) l0 rfl rfl ?_
  refine g_ild (pc' := 9) cd_Ho_seal rfl (Or.inr ⟨_, rfl, rfl, rfl⟩) l3 rfl ?_
  refine g_calli (pc' := 12) cd_Ho_seal rfl rfl rfl rfl rfl (tm_invV rfl rfl cd_Ho_held rfl (Nat.le_of_ble_eq_true rfl) (by decide) hH.1.1.1 hH.1.1.2) (t_held hC hH (fun h25 th25 => ?_))
  show bm_G _ _ _ 12 _ [.int h25] B _
  refine g_ist (pc' := 14) cd_Ho_seal rfl (Or.inl ⟨rfl, rfl⟩) (by decide) rfl (fun lv el => ?_)
  have l0 := tm_lk el l0 rfl (by decide)
  have l1 := tm_lk el l1 rfl (by decide)
  have l2 := tm_lk el l2 rfl (by decide)
  have l3 := tm_lk el l3 rfl (by decide)
  have l4 := tm_lk el l4 rfl (by decide)
  have l5 := tm_lk el l5 rfl (by decide)
  have l6 : lv.lookup 6 = some (.int h25) := tm_lks el
  clear el
  refine g_ald (pc' := 15) cd_Ho_seal rfl (Or.inr ⟨_, rfl, rfl, rfl⟩) l0 rfl rfl ?_
  refine g_ild (pc' := 17) cd_Ho_seal rfl (Or.inl ⟨rfl, rfl⟩) l4 rfl ?_
  refine g_calli (pc' := 20) cd_Ho_seal rfl rfl rfl rfl rfl (tm_invV rfl rfl cd_Ho_held rfl (Nat.le_of_ble_eq_true rfl) (by decide) hH.1.1.1 hH.1.1.2) (t_held hC hH (fun h26 th26 => ?_))
  show bm_G _ _ _ 20 _ [.int h26] B _
  refine g_ist (pc' := 22) cd_Ho_seal rfl (Or.inl ⟨rfl, rfl⟩) (by decide) rfl (fun lv el => ?_)
  have l0 := tm_lk el l0 rfl (by decide)
  have l1 := tm_lk el l1 rfl (by decide)
  have l2 := tm_lk el l2 rfl (by decide)
  have l3 := tm_lk el l3 rfl (by decide)
  have l4 := tm_lk el l4 rfl (by decide)
  have l5 := tm_lk el l5 rfl (by decide)
  have l6 := tm_lk el l6 rfl (by decide)
  have l7 : lv.lookup 7 = some (.int h26) := tm_lks el
  clear el
  refine g_ild (pc' := 23) cd_Ho_seal rfl (Or.inr ⟨_, rfl, rfl, rfl⟩) l1 rfl ?_
  refine g_calli (pc' := 26) cd_Ho_seal rfl rfl rfl rfl rfl (tm_invS rfl rfl cd_Ho_isRegister rfl (Nat.le_of_ble_eq_true rfl)) (t_isRegister ?_)
  show bm_G _ _ _ 26 _ [.int (bz (inR r 32))] B _
  refine g_if1 (t := 44) (pc' := 29) cd_Ho_seal rfl rfl rfl (fun c26 => ?_) (fun c26 => ?_)
  · have c26 : (inR r 32) = false := bz_f c26
    refine g_k1 (v := (-1)) (pc' := 45) cd_Ho_seal rfl (by decide) rfl ?_
    have eA : sl_spec reg r k h b = (-1, reg) := if_neg (fun q => absurd (c26.symm.trans q.1) (by decide))
    rw [eA] at kk
    exact g_reti cd_Ho_seal rfl ⟨_, rfl, (kk B T _ _ _ (List.prefix_refl T) (by omega) hC hH (fr_rfl _ B))⟩
  · have c26 : (inR r 32) = true := bz_t c26
    refine g_ild (pc' := 31) cd_Ho_seal rfl (Or.inl ⟨rfl, rfl⟩) l5 rfl ?_
    refine g_if1 (t := 44) (pc' := 34) cd_Ho_seal rfl rfl rfl (fun c31 => ?_) (fun c31 => ?_)
    · have c31 : h24 = 0 := c31
      refine g_k1 (v := (-1)) (pc' := 45) cd_Ho_seal rfl (by decide) rfl ?_
      have eA : sl_spec reg r k h b = (-1, reg) := if_neg (fun q => absurd (q.2.1.symm.trans (tnil_iff.mpr ((TI_0 hC.1 th24).mp c31))) (by decide))
      rw [eA] at kk
      exact g_reti cd_Ho_seal rfl ⟨_, rfl, (kk B T _ _ _ (List.prefix_refl T) (by omega) hC hH (fr_rfl _ B))⟩
    · have c31 : ¬ h24 = 0 := c31
      refine g_ild (pc' := 36) cd_Ho_seal rfl (Or.inl ⟨rfl, rfl⟩) l6 rfl ?_
      refine g_if1 (t := 44) (pc' := 39) cd_Ho_seal rfl rfl rfl (fun c36 => ?_) (fun c36 => ?_)
      · have c36 : h25 = 0 := c36
        refine g_k1 (v := (-1)) (pc' := 45) cd_Ho_seal rfl (by decide) rfl ?_
        have eA : sl_spec reg r k h b = (-1, reg) := if_neg (fun q => absurd (q.2.2.1.symm.trans (tnil_iff.mpr ((TI_0 hC.1 th25).mp c36))) (by decide))
        rw [eA] at kk
        exact g_reti cd_Ho_seal rfl ⟨_, rfl, (kk B T _ _ _ (List.prefix_refl T) (by omega) hC hH (fr_rfl _ B))⟩
      · have c36 : ¬ h25 = 0 := c36
        refine g_ild (pc' := 41) cd_Ho_seal rfl (Or.inl ⟨rfl, rfl⟩) l7 rfl ?_
        refine g_if1 (t := 46) (pc' := 44) cd_Ho_seal rfl rfl rfl (fun c41 => ?_) (fun c41 => ?_)
        · have c41 : ¬ h26 = 0 := c41
          refine g_ald (pc' := 47) cd_Ho_seal rfl (Or.inr ⟨_, rfl, rfl, rfl⟩) l0 rfl rfl ?_
          refine g_fR (c := 11) (k := 0) (x := 1) (pc' := 50) cd_Ho_seal rfl rfl rfl rfl rfl (by decide) hH.1.1.1 hH.1.1.2 hH.1.2.1.1 ?_
          have n0 : tnil (hl reg k) = false := tnil_f (fun q => c31 ((TI_0 hC.1 th24).mpr q))
          have n1 : tnil (hl reg h) = false := tnil_f (fun q => c36 ((TI_0 hC.1 th25).mpr q))
          have n2 : tnil (hl reg b) = false := tnil_f (fun q => c41 ((TI_0 hC.1 th26).mpr q))
          refine g_calli (pc' := 53) cd_Ho_seal rfl rfl rfl rfl rfl (tm_invV rfl rfl cd_Te_hasRoom rfl (Nat.le_of_ble_eq_true rfl) (by decide) hC.1.1.1.1 hC.1.1.1.2) (t_roomC hC hTl (fun B1 ca1 rm1 hC1 hf1 => ?_))
          have hH1 := RH_fr hH hf1 (fun y q => by omega) (List.prefix_refl T)
          have hrm1 := hC1.2.2.2.2.1.2
          have hf1x : fr (fun y => ¬ F y) B B1 := fr_mono (fun y q => nF_lo hC (by omega)) hf1
          show bm_G _ _ _ 53 _ [.int 1] B1 _
          refine g_if1 (t := 77) (pc' := 56) cd_Ho_seal rfl rfl rfl (fun c53 => ?_) (fun c53 => ?_)
          · exact absurd (show (1 : Int32) = 0 from c53) (by decide)
          · have c53 : ¬ (1 : Int32) = 0 := c53
            refine g_ald (pc' := 57) cd_Ho_seal rfl (Or.inr ⟨_, rfl, rfl, rfl⟩) l0 rfl rfl ?_
            refine g_ild (pc' := 58) cd_Ho_seal rfl (Or.inr ⟨_, rfl, rfl, rfl⟩) l1 rfl ?_
            refine g_ald (pc' := 59) cd_Ho_seal rfl (Or.inr ⟨_, rfl, rfl, rfl⟩) l0 rfl rfl ?_
            refine g_fR (c := 11) (k := 0) (x := 1) (pc' := 62) cd_Ho_seal rfl rfl rfl rfl rfl (by decide) hH1.1.1.1 hH1.1.1.2 hH1.1.2.1.1 ?_
            refine g_ild (pc' := 64) cd_Ho_seal rfl (Or.inl ⟨rfl, rfl⟩) l5 rfl ?_
            refine g_ild (pc' := 66) cd_Ho_seal rfl (Or.inl ⟨rfl, rfl⟩) l6 rfl ?_
            refine g_ild (pc' := 68) cd_Ho_seal rfl (Or.inl ⟨rfl, rfl⟩) l7 rfl ?_
            refine g_calli (pc' := 71) cd_Ho_seal rfl rfl rfl rfl rfl (tm_invV rfl rfl cd_Te_sealed rfl (Nat.le_of_ble_eq_true rfl) (by decide) hC1.1.1.1.1 hC1.1.1.1.2) (t_sealed hC1.1 (by omega) th24 th25 th26 (fun B27 T27 r27 hx27 ht27 => ?_))
            have hz27 := fz_te hx27.2.2.2
            have hC27 := CK_made hC1 hx27.2.2.1 hx27.1 hz27 (fun y q => Or.inl q)
            have hH27 := RH_te hC1 hH1 hz27 hx27.1
            have hl27 := hx27.2.1
            show bm_G _ _ _ 71 _ [.int r27, .int r, .ref 0] B27 _
            refine g_calli (pc' := 74) cd_Ho_seal rfl rfl rfl rfl rfl (tm_invV rfl rfl cd_Ho_keep rfl (Nat.le_of_ble_eq_true rfl) (by decide) hH27.1.1.1 hH27.1.1.2) (t_kp hC27 hH27 ht27 (fun BQ hCQ hHQ hzQ => ?_))
            show bm_G _ _ _ 74 _ [.int ((kp reg r (Tsl (hl reg k) (hl reg h) (hl reg b))).1)] BQ _
            refine g_pure (pc' := 79) (st' := [.int ((kp reg r (Tsl (hl reg k) (hl reg h) (hl reg b))).1)]) cd_Ho_seal rfl rfl (fun _ _ => rfl) ?_
            have eA : sl_spec reg r k h b = kp reg r (Tsl (hl reg k) (hl reg h) (hl reg b)) := if_pos ⟨c26, n0, n1, n2⟩
            rw [eA] at kk
            exact g_reti cd_Ho_seal rfl ⟨_, rfl, (kk BQ T27 _ ca1 rm1 hx27.1 (by omega) hCQ hHQ (fr_trans (fr_trans hf1x (fr_mono (fun y q => nF_tcs hC1 q) hz27.1)) (fr_mono (fun y q => nF_lo hC (by omega)) hzQ.1)))⟩
        · have c41 : h26 = 0 := Classical.not_not.mp c41
          refine g_k1 (v := (-1)) (pc' := 45) cd_Ho_seal rfl (by decide) rfl ?_
          have eA : sl_spec reg r k h b = (-1, reg) := if_neg (fun q => absurd (q.2.2.2.symm.trans (tnil_iff.mpr ((TI_0 hC.1 th26).mp c41))) (by decide))
          rw [eA] at kk
          exact g_reti cd_Ho_seal rfl ⟨_, rfl, (kk B T _ _ _ (List.prefix_refl T) (by omega) hC hH (fr_rfl _ B))⟩
