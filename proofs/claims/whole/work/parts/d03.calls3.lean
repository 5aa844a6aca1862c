/-! Every call is answered alike: sessions, letters, posts -/
theorem SSI_sent0 {S : SS} (h : SSI S) : SSI (ss_sent S) := by
  obtain ⟨I, ba, ro, mi, se, n, b, br, bp, bo, on⟩ := S
  exact h
theorem ho1_dirx {id : Tm} {ids : Nat → Tm} {s g p : Nat} {Y : Tm} {H : HS} (j : Nat) : (ho1 id ids s g Y p H).2.2.1 j = H.2.2.1 j ∨ (ho1 id ids s g Y p H).2.2.1 j = tz := by
  unfold ho1
  split
  · exact Or.inl rfl
  · unfold ho_way
    split
    · exact Or.inl rfl
    · rename_i se1 dir1 dr1 he
      split at he
      · cases he; exact Or.inl rfl
      · by_cases c : an_pre H.2.2.1 ids p = tz
        · rw [cif_t c] at he; cases he
        · rw [cif_f c] at he
          cases he
          exact an_once_at _ _ _ _ _
theorem ho_dirx {id : Tm} {ids : Nat → Tm} {s g : Nat} {Y : Tm} : ∀ (n p : Nat) (H : HS) (j : Nat), (ho id ids s g Y n p H).2.2.1 j = H.2.2.1 j ∨ (ho id ids s g Y n p H).2.2.1 j = tz
  | 0, _, _, _ => Or.inl rfl
  | n + 1, p, H, j => by
    unfold ho
    rcases ho_dirx n (p + 1) (ho1 id ids s g Y p H) j with h | h
    · rw [h]; exact ho1_dirx j
    · exact Or.inr h
/-- the way of a letter that comes -/
theorem ar_way {D : DV} {ids : Nat → Tm} {q : Nat} {A : Tm} {C : Tm → Prop} (hz : C tz) (hC : ∀ X i, C X → C (pt X i)) (hA : C A) : C (ar_spec D ids q A).2.2.2.2.1 ∧ ((ar_spec D ids q A).1 = 1 → (∃ c, c < 6 ∧ (ar_spec D ids q A).2.2.1 = nI c) ∧ ((ar_spec D ids q A).2.2.2.1 = -1 ∨ ∃ g, g < 4 ∧ (ar_spec D ids q A).2.2.2.1 = nI g)) := by
  obtain ⟨id, K0, K1, on, lnu, se, me⟩ := D
  unfold ar_spec
  dsimp only
  split
  · rename_i h
    obtain ⟨p, hp, ep⟩ := (good3_g (form_3 h)).1
    exact ⟨show C (pt (pt A 2) 0) from hC _ 0 (hC _ 2 hA), fun _ => ⟨⟨p, hp, ep⟩, Or.inl rfl⟩⟩
  · split
    · by_cases c : tl_ok A q (nu (pt A 1) 0).toNatClampNeg (ids (nu (pt A 1) 0).toNatClampNeg) (me (nu (pt A 1) 0).toNatClampNeg)
      · rw [cif_t c]; exact ⟨hz, fun h => absurd (show (3 : Int32) = 1 from h) (by decide)⟩
      · rw [cif_f c]; exact ⟨hz, fun h => absurd (show (-16 : Int32) = 1 from h) (by decide)⟩
    · split
      · rename_i h
        obtain ⟨⟨g, hg, eg⟩, p, hp, ep⟩ := good7_g (form_7 h)
        exact ⟨show C (pt (pt (pt A 1) 2) 0) from hC _ 0 (hC _ 2 (hC _ 1 hA)), fun _ => ⟨⟨p, hp, ep⟩, Or.inr ⟨g, hg, eg⟩⟩⟩
      · exact ⟨hz, fun h => absurd (show (-10 : Int32) = 1 from h) (by decide)⟩
theorem pk_kd {K0 K1 : PK} {X : Tm} {b : Bool} (h : PKI K0 ∧ PKI K1) (e : pk_find K0 K1 X = some b) : kd (pk_of K0 K1 b).1 = 1 := by
  unfold pk_find at e
  by_cases c0 : 0 < K0.2.1 ∧ Tpub K0.1 = X
  · rw [cif_t c0] at e; cases e
    exact h.1.2.2.1 (h.1.2.1.mp c0.1)
  · rw [cif_f c0] at e
    by_cases c1 : 0 < K1.2.1 ∧ Tpub K1.1 = X
    · rw [cif_t c1] at e; cases e
      exact h.2.2.2.1 (h.2.2.1.mp c1.1)
    · rw [cif_f c1] at e; cases e
theorem wlx {g : Nat → Int32} {DL E : List (Int32 × Int32)} {m : Nat} {x : Int32} {l : List Int32} (h : DL.length + E.length = m) : wl (wl g DL.length l) (DL ++ E).length [x] m = x := by
  have e : m = (DL ++ E).length + 0 := by rw [List.length_append]; omega
  rw [e]
  exact wl_at [x] _ _ 0 x rfl
theorem pt_4 (X : Tm) : pt X 4 = tz := by
  unfold pt
  split <;> rfl
theorem rt_len {ls : List RL} {lo : Nat → Int32} {q : Nat} {g : Int32} {S : Tm} {oc : Bool} {ck : Int32} : (rt_ls ls lo q g S oc ck).length = ls.length := by
  unfold rt_ls
  split
  · rfl
  · split
    · rw [List.length_set]
    · rfl
theorem IC_tk {n b : Nat} {DL : List (Int32 × Int32)} {L : LG} {ls : List RL} {lo : Nat → Int32} {dt db rt fl ll tl tf tg tm : Nat → Int32} {ck fo du : Int32} (hb : b ≤ n) (hk : ck = nI b) (h : LGX b (b + 1) DL ls lo L (dt, db, rt, fl, ll, tl, tf, tg, tm, ck, fo, du)) : IC (n + 1) DL L ls lo (dt, db, rt, fl, ll, tl, tf, tg, tm, ck + 1, fo, du) := by
  obtain ⟨Lc, bd, llc, tc, tlc, tfc, tgc, cf, cg, ct, co, li, foc, dbc⟩ := L
  exact IC_mid hb hk h
set_option maxRecDepth 100000 in
theorem C_begin {sc : tm_X} {d N S n : Nat} {B : bm_H} (hn : n < 64) (h : JI N S n B) (x y : Int32) : PR sc (d + 12) 64 210 [.int x, .int y] B (CQ N S n) := by
  obtain ⟨DL, dev, sto, ws, dir, reg, seen, G, ⟨Lc, bdc, llc, tcc, tlc, tfc, tgc, cfc, cgc, ctc, coc, lic, foc, dbc⟩, ls, lo, ⟨dt, db, rt, fl, ll, tl, tf, tg, tm, ck, fo, du⟩, hJ, hA, hC, hK, hS⟩ := h
  have hb1 : DL.length ≤ 1400 := by have := hA.2.1; omega
  have hb2 : ws.length ≤ 450 := by have := hA.2.2.1; omega
  have hb3 : ls.length < 70 := by have := hA.2.2.2; omega
  by_cases hxp : inR x 6 = true
  · obtain ⟨p, hp, rfl⟩ := inR_of (n := 6) (by decide) hxp
    by_cases hxq : inR y 6 = true
    · obtain ⟨q, hq, rfl⟩ := inR_of (n := 6) (by decide) hxq
      by_cases hpq : p = q
      · subst hpq
        exact P_beginB hJ hn (Or.inr (Or.inr rfl)) (fun B2 hJ2 => ⟨rfl, JI_mk hJ2 (IA_same hA) (IC_tick hC) (hK) (IS_same hS (by omega) rfl rfl rfl)⟩)
      obtain ⟨id, K0, K1, on, lnu, se, me, eD⟩ : ∃ a1 a2 a3 a4 a5 a6 a7, dev p = (a1, a2, a3, a4, a5, a6, a7) := ⟨_, _, _, _, _, _, _, rfl⟩
      obtain ⟨p0, P, O, c, dn, hst⟩ : ∃ a1 a2 a3 a4 a5, sto p = (a1, a2, a3, a4, a5) := ⟨_, _, _, _, _, rfl⟩
      have hD := (hA.1 p hp).1
      cases dn
      · have hO := J_O hJ hp hst
        subst hO
        have kid : ∀ q, q < 6 → kd ((fun q => (dev q).1) q) = 1 := fun q hq => (hA.1 q hq).1.1
        have hPp : P = dv_en (dev p) := by have := (hA.1 p hp).2; rw [hst] at this; exact this
        have hIp := hS.1.2 p hp
        have eid : id = Tsec (nI p) (nI p) 0 := by have := IVd_id hIp; rw [eD] at this; exact this
        have hids : ∀ r, r < 6 → (fun q => (dev q).1) r = Tsec (nI r) (nI r) 0 := fun r hr => IVd_id (hS.1.2 r hr)
        obtain ⟨C, hPC, hCw, hCd, hCr, hCi, hCs, -⟩ := J_C hJ
        have hpub : ∀ q, q < 6 → an_pre dir (fun q => (dev q).1) q ≠ tz → SD DL (pt (an_pre dir (fun q => (dev q).1) q) 0) ∧ kd (pt (an_pre dir (fun q => (dev q).1) q) 0) = 1 := fun q hq hz => by
          have hk := an_pre_kd hz
          have e := (an_pre_at hz).1
          rw [e] at hk ⊢
          have hc := hPC.1 _ 0 (hPC.1 _ 1 (hCd (q * 5) (by omega)))
          exact ⟨hPC.2.1 _ (hPC.1 _ 0 hc) (hPC.2.2.1 _ hc hk), hPC.2.2.1 _ hc hk⟩
        obtain ⟨bb, hbb, hck, hLX⟩ := hC
        have hck : ck = nI bb := hck
        have hck1 : ck + 1 = nI (bb + 1) := by rw [hck]; exact nI_s1 bb
        have hD0 := hD
        rw [eD] at hD0
        have hIA := fun (hz : an_pre dir (fun q => (dev q).1) q ≠ tz) => IA_com (DL' := DL ++ [(nI p, 0), (nI p, 2)]) (ws' := ws) (ls' := ls) (D' := (id, K0, K1, on, lnu, fset se q ((op_ses id (Tsec (nI DL.length) (nI p) 0) (Tsec (nI (DL.length + 1)) (nI p) 2) ((fun q => (dev q).1) q) (an_pre dir (fun q => (dev q).1) q) (an_once dir q 4 (q * 5 + 1)).1) :: (se q).take 1), me)) hA hp hst (DVI_mono (by omega) (DVI_ses hD0 (SEI_cons (Ne.symm hpq) (DVI_sei hD0) (SSI_open (an_pre_kd hz) (hpub q hq hz).2 rfl)))) (by simp only [List.length_append, List.length_cons, List.length_nil]; omega) (by omega) (by omega)
        have hL2 := LGX_draw hLX hck1 (by omega) (by omega) [(nI p, 0), (nI p, 2)] [(nI p, false), (nI p, true)] (by simp only [List.length_cons, List.length_nil]; omega) rfl (hEF_2 ⟨rfl, fun _ => rfl⟩ ⟨rfl, fun _ => rfl⟩)
        have hid : ∀ r, r < 6 → (fset dev p (id, K0, K1, on, lnu, fset se q ((op_ses id (Tsec (nI DL.length) (nI p) 0) (Tsec (nI (DL.length + 1)) (nI p) 2) ((fun q => (dev q).1) q) (an_pre dir (fun q => (dev q).1) q) (an_once dir q 4 (q * 5 + 1)).1) :: (se q).take 1), me) r).1 = (dev r).1 := fset_id1 (by rw [eD])
        have hDv := fun (hz : an_pre dir (fun q => (dev q).1) q ≠ tz) => IVd_hd (p := q) (l := (se q).take 1) (E := [(nI p, 0), (nI p, 2)]) (S' := (op_ses id (Tsec (nI DL.length) (nI p) 0) (Tsec (nI (DL.length + 1)) (nI p) 2) ((fun q => (dev q).1) q) (an_pre dir (fun q => (dev q).1) q) (an_once dir q 4 (q * 5 + 1)).1)) (by omega) hIp eD (BOS_open (Or.inr (an_pre_kd hz)) an_once_RP).1 (fun S hS => List.mem_of_mem_take hS) (lsx_rfl DL ls)
        have hdk := fun (hz : an_pre dir (fun q => (dev q).1) q ≠ tz) => (show ∀ V, (∀ p, V p → p < 6) → ∀ Z GF PF, SI V Z GF PF (DL ++ [(nI p, 0), (nI p, 2)]) dev sto G ls → dok V Z GF PF ls p (id, K0, K1, on, lnu, fset se q ((op_ses id (Tsec (nI DL.length) (nI p) 0) (Tsec (nI (DL.length + 1)) (nI p) 2) ((fun q => (dev q).1) q) (an_pre dir (fun q => (dev q).1) q) (an_once dir q 4 (q * 5 + 1)).1) :: (se q).take 1), me) from fun V hV Z GF PF hSI => dok_hd hSI hp eD (fun hv hw => ((open_ok hSI hV hp hq eid (hids q hq) hK.2.2.1.1 hz).1 hv hw).1) (fun hv => ((open_ok hSI hV hp hq eid (hids q hq) hK.2.2.1.1 hz).2 hv).1) (fun S hS => List.mem_of_mem_take hS))
        refine P_begin hJ hn (by omega) (by omega) hp hq hpq rfl kid (fun hz => (hpub q hq hz).2) eD hst hD (fun _ => (fun B2 hJ2 => ⟨rfl, JI_mk hJ2 (IA_same hA) (IC_tick ⟨bb, hbb, hck, hLX⟩) hK (IS_same hS (by omega) rfl rfl rfl)⟩)) (fun hz hc B2 hJ2 => ⟨rfl, JI_mk hJ2 ((hIA hz).1 hc) (IC_mid hbb hck (hL2)) (IK_all hK (fun _ h => h) (fun _ _ => rfl) (fun e he => Or.inl he) (fun i => (an_once_at dir q 4 (q * 5 + 1) i).imp (fun h => h) Or.inl)) (IS_com0 hS [(nI p, 0), (nI p, 2)] hp (by omega) hPp (hDv hz) (hdk hz) rfl (fun m hm => wl_lo _ _ _ _ hm) rfl)⟩) (fun hz hc B2 hJ2 => ⟨rfl, JI_mk hJ2 ((hIA hz).2 (by rw [hc]; decide)) (IC_mid hbb hck (hL2)) (IK_all hK (fun _ h => h) hid (fun e he => Or.inl he) (fun i => (an_once_at dir q 4 (q * 5 + 1) i).imp (fun h => h) Or.inl)) (IS_com1 hS [(nI p, 0), (nI p, 2)] hp (by omega) hPp (hDv hz) (hdk hz) rfl (fun m hm => wl_lo _ _ _ _ hm) rfl)⟩) (fun hz hc B2 hJ2 => ⟨rfl, JI_mk hJ2 ((hIA hz).2 (by rw [hc]; decide)) (IC_mid hbb hck (hL2)) (IK_all hK (fun _ h => h) hid (fun e he => Or.inl he) (fun i => (an_once_at dir q 4 (q * 5 + 1) i).imp (fun h => h) Or.inl)) (IS_com1 hS [(nI p, 0), (nI p, 2)] hp (by omega) hPp (hDv hz) (hdk hz) rfl (fun m hm => wl_lo _ _ _ _ hm) rfl)⟩)
      · exact P_beginD hJ hn (by omega) (by omega) (by rw [hst]) hp hq hpq (fun B2 hJ2 => ⟨rfl, JI_mk hJ2 (IA_same hA) (IC_tick hC) (hK) (IS_same hS (by omega) rfl rfl rfl)⟩)
    · have hxq := Bool.eq_false_iff.mpr hxq
      exact P_beginB hJ hn (Or.inr (Or.inl hxq)) (fun B2 hJ2 => ⟨rfl, JI_mk hJ2 (IA_same hA) (IC_tick hC) (hK) (IS_same hS (by omega) rfl rfl rfl)⟩)
  · have hxp := Bool.eq_false_iff.mpr hxp
    exact P_beginB hJ hn (Or.inl hxp) (fun B2 hJ2 => ⟨rfl, JI_mk hJ2 (IA_same hA) (IC_tick hC) (hK) (IS_same hS (by omega) rfl rfl rfl)⟩)
set_option maxRecDepth 100000 in
theorem C_send {sc : tm_X} {d N S n : Nat} {B : bm_H} (hn : n < 64) (h : JI N S n B) (x y : Int32) : PR sc (d + 12) 84 223 [.int x, .int y] B (CQ N S n) := by
  obtain ⟨DL, dev, sto, ws, dir, reg, seen, G, ⟨Lc, bdc, llc, tcc, tlc, tfc, tgc, cfc, cgc, ctc, coc, lic, foc, dbc⟩, ls, lo, ⟨dt, db, rt, fl, ll, tl, tf, tg, tm, ck, fo, du⟩, hJ, hA, hC, hK, hS⟩ := h
  have hb1 : DL.length ≤ 1400 := by have := hA.2.1; omega
  have hb2 : ws.length ≤ 450 := by have := hA.2.2.1; omega
  have hb3 : ls.length < 70 := by have := hA.2.2.2; omega
  by_cases hxp : inR x 6 = true
  · obtain ⟨p, hp, rfl⟩ := inR_of (n := 6) (by decide) hxp
    by_cases hxq : inR y 6 = true
    · obtain ⟨q, hq, rfl⟩ := inR_of (n := 6) (by decide) hxq
      by_cases hpq : p = q
      · subst hpq
        exact P_sendX hJ hn (Or.inr (Or.inr rfl)) (fun B2 hJ2 => ⟨rfl, JI_mk hJ2 (IA_same hA) (IC_tick hC) (hK) (IS_same hS (by omega) rfl rfl rfl)⟩)
      obtain ⟨id, K0, K1, on, lnu, se, me, eD⟩ : ∃ a1 a2 a3 a4 a5 a6 a7, dev p = (a1, a2, a3, a4, a5, a6, a7) := ⟨_, _, _, _, _, _, _, rfl⟩
      obtain ⟨p0, P, O, c, dn, hst⟩ : ∃ a1 a2 a3 a4 a5, sto p = (a1, a2, a3, a4, a5) := ⟨_, _, _, _, _, rfl⟩
      have hD := (hA.1 p hp).1
      cases dn
      · have hO := J_O hJ hp hst
        subst hO
        have kid : ∀ q, q < 6 → kd ((fun q => (dev q).1) q) = 1 := fun q hq => (hA.1 q hq).1.1
        have hll : Lc.length = ls.length := by obtain ⟨b, -, -, hL⟩ := hC; exact hL.1.1.1
        have hPp : P = dv_en (dev p) := by have := (hA.1 p hp).2; rw [hst] at this; exact this
        have hIp := hS.1.2 p hp
        have eid : id = Tsec (nI p) (nI p) 0 := by have := IVd_id hIp; rw [eD] at this; exact this
        have hids : ∀ r, r < 6 → (fun q => (dev q).1) r = Tsec (nI r) (nI r) 0 := fun r hr => IVd_id (hS.1.2 r hr)
        obtain ⟨C, hPC, hCw, hCd, hCr, hCi, hCs, -⟩ := J_C hJ
        have hpub : ∀ q, q < 6 → an_pre dir (fun q => (dev q).1) q ≠ tz → SD DL (pt (an_pre dir (fun q => (dev q).1) q) 0) ∧ kd (pt (an_pre dir (fun q => (dev q).1) q) 0) = 1 := fun q hq hz => by
          have hk := an_pre_kd hz
          have e := (an_pre_at hz).1
          rw [e] at hk ⊢
          have hc := hPC.1 _ 0 (hPC.1 _ 1 (hCd (q * 5) (by omega)))
          exact ⟨hPC.2.1 _ (hPC.1 _ 0 hc) (hPC.2.2.1 _ hc hk), hPC.2.2.1 _ hc hk⟩
        obtain ⟨bb, hbb, hck, hLX⟩ := hC
        have hck : ck = nI bb := hck
        have hck1 : ck + 1 = nI (bb + 1) := by rw [hck]; exact nI_s1 bb
        have hD0 := hD
        rw [eD] at hD0
        cases hse : se q with
        | nil =>
          have hD1 : an_pre dir (fun q => (dev q).1) q ≠ tz → DVI p n (id, K0, K1, on, lnu, fset se q (ss_sent (op_ses id (Tsec (nI DL.length) (nI p) 0) (Tsec (nI (DL.length + 1)) (nI p) 2) ((fun q => (dev q).1) q) (an_pre dir (fun q => (dev q).1) q) (an_once dir q 4 (q * 5 + 1)).1) :: []), me) := fun (hz : an_pre dir (fun q => (dev q).1) q ≠ tz) => DVI_ses hD0 (SEI_set (Ne.symm hpq) (DVI_sei hD0) (by simp) (fun S hS => by rw [List.mem_singleton.mp hS]; exact SSI_sent0 (SSI_open (an_pre_kd hz) (hpub q hq hz).2 rfl)))
          have hIA := fun (hz : an_pre dir (fun q => (dev q).1) q ≠ tz) => fun (ws' : List (Tm × Int32)) (ls' : List RL) (hw : ws'.length ≤ ws.length + 7) (hl : ls'.length ≤ ls.length + 1) => IA_com (DL' := (DL ++ [(nI p, 0), (nI p, 2)]) ++ [(nI p, 0)]) (ws' := ws') (ls' := ls') (D' := (id, K0, K1, on, lnu, fset se q (ss_sent (op_ses id (Tsec (nI DL.length) (nI p) 0) (Tsec (nI (DL.length + 1)) (nI p) 2) ((fun q => (dev q).1) q) (an_pre dir (fun q => (dev q).1) q) (an_once dir q 4 (q * 5 + 1)).1) :: []), me)) hA hp hst (DVI_mono (by omega) (hD1 hz)) (by simp only [List.length_append, List.length_cons, List.length_nil]; omega) hw hl
          have hL1 := LGX_draw hLX hck1 (by omega) (by omega) [(nI p, 0), (nI p, 2)] [(nI p, false), (nI p, true)] (by simp only [List.length_cons, List.length_nil]; omega) rfl (hEF_2 ⟨rfl, fun _ => rfl⟩ ⟨rfl, fun _ => rfl⟩)
          have hL2 := LGX_draw hL1 hck1 (by omega) (by omega) [(nI p, 0)] [(nI (6 + p), false)] (by simp only [List.length_append, List.length_cons, List.length_nil]; omega) rfl (hEF_1 ⟨rfl, fun h => by rcases h with h | h <;> exact absurd h (by decide)⟩)
          have hL3 := fun (hz : an_pre dir (fun q => (dev q).1) q ≠ tz) => LGX_add (m := List.length (DL ++ [(nI p, 0), (nI p, 2)])) (e := lt_sent (Tsec (nI (List.length (DL ++ [(nI p, 0), (nI p, 2)]))) (nI p) 0) (nI p) (nI q) (ss_sent (op_ses id (Tsec (nI DL.length) (nI p) 0) (Tsec (nI (DL.length + 1)) (nI p) 2) ((fun q => (dev q).1) q) (an_pre dir (fun q => (dev q).1) q) (an_once dir q 4 (q * 5 + 1)).1))) hL2 (by simp only [List.length_append, List.length_cons, List.length_nil]; omega) (wl_at _ _ _ 0 _ rfl) (by rfl) (LE_sent hp hq (get_end _ _) (SD_app ⟨DL.length + 1, nI p, 2, by rw [List.getElem?_append_right (by omega), Nat.add_sub_cancel_left]; rfl, rfl⟩) (SD_app (SD_app (hpub q hq hz).1))) (by omega) (by simp only [List.length_append, List.length_cons, List.length_nil]; omega)
          have hid : ∀ r, r < 6 → (fset dev p (id, K0, K1, on, lnu, fset se q (ss_sent (op_ses id (Tsec (nI DL.length) (nI p) 0) (Tsec (nI (DL.length + 1)) (nI p) 2) ((fun q => (dev q).1) q) (an_pre dir (fun q => (dev q).1) q) (an_once dir q 4 (q * 5 + 1)).1) :: []), me) r).1 = (dev r).1 := fset_id1 (by rw [eD])
          have hSk := fun (hz : an_pre dir (fun q => (dev q).1) q ≠ tz) => (show ∀ V, (∀ p, V p → p < 6) → ∀ Z GF PF, SI V Z GF PF (DL ++ ([(nI p, 0), (nI p, 2)] ++ [(nI p, 0)])) dev sto G ls → (V p → V q → NSS V (ss_sent (op_ses id (Tsec (nI DL.length) (nI p) 0) (Tsec (nI (DL.length + 1)) (nI p) 2) ((fun q => (dev q).1) q) (an_pre dir (fun q => (dev q).1) q) (an_once dir q 4 (q * 5 + 1)).1)) ∧ NS (core V) (op_ses id (Tsec (nI DL.length) (nI p) 0) (Tsec (nI (DL.length + 1)) (nI p) 2) ((fun q => (dev q).1) q) (an_pre dir (fun q => (dev q).1) q) (an_once dir q 4 (q * 5 + 1)).1).2.2.2.2.1) ∧ (¬ V p → SPU (UU V Z GF PF ls) (ss_sent (op_ses id (Tsec (nI DL.length) (nI p) 0) (Tsec (nI (DL.length + 1)) (nI p) 2) ((fun q => (dev q).1) q) (an_pre dir (fun q => (dev q).1) q) (an_once dir q 4 (q * 5 + 1)).1))) from fun V hV Z GF PF hSI => ⟨fun hv hw => have h1 := (open_ok hSI hV hp hq eid (hids q hq) hK.2.2.1.1 hz).1 hv hw; ⟨NSS_sent h1.1 h1.2, h1.2⟩, fun hv => ((open_ok hSI hV hp hq eid (hids q hq) hK.2.2.1.1 hz).2 hv).2⟩)
          refine P_sendB hJ hn (by omega) (by omega) hp hq hpq rfl kid hll (by omega) eD hse hst hD (fun _ => (fun B2 hJ2 => ⟨rfl, JI_mk hJ2 (IA_same hA) (IC_tick ⟨bb, hbb, hck, hLX⟩) hK (IS_same hS (by omega) rfl rfl rfl)⟩)) (fun hz hc B2 hJ2 => ⟨rfl, JI_mk hJ2 ((hIA hz ws ls (by omega) (by omega)).1 hc) (IC_mid hbb hck (hL2)) (IK_all hK (fun _ h => h) (fun _ _ => rfl) (fun e he => Or.inl he) (fun i => (an_once_at dir q 4 (q * 5 + 1) i).imp (fun h => h) Or.inl)) (by rw [List.append_assoc]; exact IS_send0 (E := ([(nI p, 0), (nI p, 2)] ++ [(nI p, 0)])) (m := List.length (DL ++ [(nI p, 0), (nI p, 2)])) (S1 := (op_ses id (Tsec (nI DL.length) (nI p) 0) (Tsec (nI (DL.length + 1)) (nI p) 2) ((fun q => (dev q).1) q) (an_pre dir (fun q => (dev q).1) q) (an_once dir q 4 (q * 5 + 1)).1)) (l := []) (r := ((Tsec (nI (List.length (DL ++ [(nI p, 0), (nI p, 2)]))) (nI p) 0), nI p, nI q, (!tnil (an_once dir q 4 (q * 5 + 1)).1), (Tsec (nI (DL.length + 1)) (nI p) 2), (pt (an_pre dir (fun q => (dev q).1) q) 0), 0, 0, fun _ => 2147483647)) hS hp hq eD hPp (by first | omega | (simp only [List.length_append, List.length_cons, List.length_nil] <;> omega)) (by first | omega | (simp only [List.length_append, List.length_cons, List.length_nil] <;> omega)) (by first | omega | (simp only [List.length_append, List.length_cons, List.length_nil] <;> omega)) (fun S hS => absurd hS List.not_mem_nil) (BOS_open (Or.inr (an_pre_kd hz)) an_once_RP).1 (BOS_openS (Or.inr (an_pre_kd hz)) an_once_RP) rfl (hSk hz) rfl rfl hll rfl (fun m hm => (wl_lo _ _ _ _ (Nat.lt_of_lt_of_le hm (by simp))).trans (wl_lo _ _ _ _ hm)) rfl)⟩) (fun hz hc B2 hJ2 => ⟨rfl, JI_mk hJ2 ((hIA hz ws ls (by omega) (by omega)).2 (by rw [hc]; decide)) (IC_mid hbb hck (hL2)) (IK_all hK (fun _ h => h) hid (fun e he => Or.inl he) (fun i => (an_once_at dir q 4 (q * 5 + 1) i).imp (fun h => h) Or.inl)) (by rw [List.append_assoc]; exact IS_send1 (E := ([(nI p, 0), (nI p, 2)] ++ [(nI p, 0)])) (m := List.length (DL ++ [(nI p, 0), (nI p, 2)])) (S1 := (op_ses id (Tsec (nI DL.length) (nI p) 0) (Tsec (nI (DL.length + 1)) (nI p) 2) ((fun q => (dev q).1) q) (an_pre dir (fun q => (dev q).1) q) (an_once dir q 4 (q * 5 + 1)).1)) (l := []) (r := ((Tsec (nI (List.length (DL ++ [(nI p, 0), (nI p, 2)]))) (nI p) 0), nI p, nI q, (!tnil (an_once dir q 4 (q * 5 + 1)).1), (Tsec (nI (DL.length + 1)) (nI p) 2), (pt (an_pre dir (fun q => (dev q).1) q) 0), 0, 0, fun _ => 2147483647)) hS hp hq eD hPp (by first | omega | (simp only [List.length_append, List.length_cons, List.length_nil] <;> omega)) (by first | omega | (simp only [List.length_append, List.length_cons, List.length_nil] <;> omega)) (by first | omega | (simp only [List.length_append, List.length_cons, List.length_nil] <;> omega)) (fun S hS => absurd hS List.not_mem_nil) (BOS_open (Or.inr (an_pre_kd hz)) an_once_RP).1 (BOS_openS (Or.inr (an_pre_kd hz)) an_once_RP) rfl (hSk hz) rfl rfl hll rfl (fun m hm => (wl_lo _ _ _ _ (Nat.lt_of_lt_of_le hm (by simp))).trans (wl_lo _ _ _ _ hm)) rfl)⟩) (fun hz hc B2 hJ2 => ⟨rfl, JI_mk hJ2 ((hIA hz _ _ (by simp only [List.length_append, List.length_cons, List.length_nil]; omega) (by simp only [List.length_append, List.length_cons, List.length_nil]; omega)).2 (by rw [hc]; decide)) (IC_mid hbb hck (hL3 hz)) (IK_all hK (fun y h => Or.inl h) hid (fun e he => (List.mem_append.mp he).elim Or.inl (fun he => by rw [List.mem_singleton.mp he]; exact Or.inr (Kn_G (Or.inr rfl)))) (fun i => (an_once_at dir q 4 (q * 5 + 1) i).imp (fun h => h) Or.inl)) (by rw [List.append_assoc]; exact IS_send2 (E := ([(nI p, 0), (nI p, 2)] ++ [(nI p, 0)])) (m := List.length (DL ++ [(nI p, 0), (nI p, 2)])) (S1 := (op_ses id (Tsec (nI DL.length) (nI p) 0) (Tsec (nI (DL.length + 1)) (nI p) 2) ((fun q => (dev q).1) q) (an_pre dir (fun q => (dev q).1) q) (an_once dir q 4 (q * 5 + 1)).1)) (l := []) (r := ((Tsec (nI (List.length (DL ++ [(nI p, 0), (nI p, 2)]))) (nI p) 0), nI p, nI q, (!tnil (an_once dir q 4 (q * 5 + 1)).1), (Tsec (nI (DL.length + 1)) (nI p) 2), (pt (an_pre dir (fun q => (dev q).1) q) 0), 0, 0, fun _ => 2147483647)) hS hp hq eD hPp (by first | omega | (simp only [List.length_append, List.length_cons, List.length_nil] <;> omega)) (by first | omega | (simp only [List.length_append, List.length_cons, List.length_nil] <;> omega)) (by first | omega | (simp only [List.length_append, List.length_cons, List.length_nil] <;> omega)) (fun S hS => absurd hS List.not_mem_nil) (BOS_open (Or.inr (an_pre_kd hz)) an_once_RP).1 (BOS_openS (Or.inr (an_pre_kd hz)) an_once_RP) rfl (hSk hz) rfl rfl hll rfl (fun m hm => (wl_lo _ _ _ _ (Nat.lt_of_lt_of_le hm (by simp))).trans (wl_lo _ _ _ _ hm)) rfl)⟩)
        | cons S0 lz =>
          obtain ⟨⟨th, ch, nx, le⟩, ba, ro, mi, sd, nn, b, br, bp, bo, oc⟩ := S0
          have hS0 : ((dev p).2.2.2.2.2.1 q)[0]? = some ((th, ch, nx, le), ba, ro, mi, sd, nn, b, br, bp, bo, oc) := by rw [eD]; show (se q)[0]? = _; rw [hse]; rfl
          have hcs := hCs p q 0 _ hp hq hS0
          have hSI : SSI ((th, ch, nx, le), ba, ro, mi, sd, nn, b, br, bp, bo, oc) := SEI_at (p := q) (k := 0) (DVI_sei hD0) (by rw [hse]; rfl)
          have hsl := (DVI_sei hD0).2 q
          have hmi : SD DL mi := hPC.2.1 _ hcs.1 hSI.2.2
          have hth : SD DL (pt th 0) := hPC.2.1 _ (hPC.1 _ 0 hcs.2) hSI.2.1.2
          have hmem : ((th, ch, nx, le), ba, ro, mi, sd, nn, b, br, bp, bo, oc) ∈ se q := by rw [hse]; exact List.mem_cons_self
          have hbs0 : BOS ((th, ch, nx, le), ba, ro, mi, sd, nn, b, br, bp, bo, oc) := by have := hIp; rw [eD] at this; exact this.2.2.1 q _ hmem
          by_cases hsd : sd = tz
          · have hD1 : DVI p n (id, K0, K1, on, lnu, fset se q (ss_sent ((th, ch, nx, le), ba, Tmx 4 ro (Tsh (Tsec (nI DL.length) (nI p) 2) (pt th 0)), (Tsec (nI DL.length) (nI p) 2), Tmx 5 ro (Tsh (Tsec (nI DL.length) (nI p) 2) (pt th 0)), 0, nn, br, bp, bo, oc) :: lz), me) := DVI_ses hD0 (SEI_set (Ne.symm hpq) (DVI_sei hD0) (by have := hsl.1; rw [hse] at this; exact this) (fun S hS => (List.mem_cons.mp hS).elim (fun e => by rw [e]; exact (show SSI (ss_sent ((th, ch, nx, le), ba, Tmx 4 ro (Tsh (Tsec (nI DL.length) (nI p) 2) (pt th 0)), (Tsec (nI DL.length) (nI p) 2), Tmx 5 ro (Tsh (Tsec (nI DL.length) (nI p) 2) (pt th 0)), 0, nn, br, bp, bo, oc)) from ⟨hSI.1, hSI.2.1, rfl⟩)) (fun e => hsl.2 S (by rw [hse]; exact List.mem_cons_of_mem _ e))))
            have hIA := fun (ws' : List (Tm × Int32)) (ls' : List RL) (hw : ws'.length ≤ ws.length + 7) (hl : ls'.length ≤ ls.length + 1) => IA_com (DL' := (DL ++ [(nI p, 2)]) ++ [(nI p, 0)]) (ws' := ws') (ls' := ls') (D' := (id, K0, K1, on, lnu, fset se q (ss_sent ((th, ch, nx, le), ba, Tmx 4 ro (Tsh (Tsec (nI DL.length) (nI p) 2) (pt th 0)), (Tsec (nI DL.length) (nI p) 2), Tmx 5 ro (Tsh (Tsec (nI DL.length) (nI p) 2) (pt th 0)), 0, nn, br, bp, bo, oc) :: lz), me)) hA hp hst (DVI_mono (by omega) (hD1)) (by simp only [List.length_append, List.length_cons, List.length_nil]; omega) hw hl
            have hL1 := LGX_draw hLX hck1 (by omega) (by omega) [(nI p, 2)] [(nI p, true)] (by simp only [List.length_cons, List.length_nil]; omega) rfl (hEF_1 ⟨rfl, fun _ => rfl⟩)
            have hL2 := LGX_draw hL1 hck1 (by omega) (by omega) [(nI p, 0)] [(nI (6 + p), false)] (by simp only [List.length_append, List.length_cons, List.length_nil]; omega) rfl (hEF_1 ⟨rfl, fun h => by rcases h with h | h <;> exact absurd h (by decide)⟩)
            have hL3 := LGX_add (m := List.length (DL ++ [(nI p, 2)])) (e := lt_sent (Tsec (nI (List.length (DL ++ [(nI p, 2)]))) (nI p) 0) (nI p) (nI q) (ss_sent ((th, ch, nx, le), ba, Tmx 4 ro (Tsh (Tsec (nI DL.length) (nI p) 2) (pt th 0)), (Tsec (nI DL.length) (nI p) 2), Tmx 5 ro (Tsh (Tsec (nI DL.length) (nI p) 2) (pt th 0)), 0, nn, br, bp, bo, oc))) hL2 (by simp only [List.length_append, List.length_cons, List.length_nil]; omega) (wl_at _ _ _ 0 _ rfl) (by rfl) (LE_sent hp hq (get_end _ _) (SD_app ⟨DL.length, nI p, 2, get_end _ _, rfl⟩) (SD_app (SD_app hth))) (by omega) (by simp only [List.length_append, List.length_cons, List.length_nil]; omega)
            have hid : ∀ r, r < 6 → (fset dev p (id, K0, K1, on, lnu, fset se q (ss_sent ((th, ch, nx, le), ba, Tmx 4 ro (Tsh (Tsec (nI DL.length) (nI p) 2) (pt th 0)), (Tsec (nI DL.length) (nI p) 2), Tmx 5 ro (Tsh (Tsec (nI DL.length) (nI p) 2) (pt th 0)), 0, nn, br, bp, bo, oc) :: lz), me) r).1 = (dev r).1 := fset_id1 (by rw [eD])
            have hSk := (show ∀ V, (∀ p, V p → p < 6) → ∀ Z GF PF, SI V Z GF PF (DL ++ ([(nI p, 2)] ++ [(nI p, 0)])) dev sto G ls → (V p → V q → NSS V (ss_sent ((th, ch, nx, le), ba, Tmx 4 ro (Tsh (Tsec (nI DL.length) (nI p) 2) (pt th 0)), (Tsec (nI DL.length) (nI p) 2), Tmx 5 ro (Tsh (Tsec (nI DL.length) (nI p) 2) (pt th 0)), 0, nn, br, bp, bo, oc)) ∧ NS (core V) ((th, ch, nx, le), ba, Tmx 4 ro (Tsh (Tsec (nI DL.length) (nI p) 2) (pt th 0)), (Tsec (nI DL.length) (nI p) 2), Tmx 5 ro (Tsh (Tsec (nI DL.length) (nI p) 2) (pt th 0)), 0, nn, br, bp, bo, oc).2.2.2.2.1) ∧ (¬ V p → SPU (UU V Z GF PF ls) (ss_sent ((th, ch, nx, le), ba, Tmx 4 ro (Tsh (Tsec (nI DL.length) (nI p) 2) (pt th 0)), (Tsec (nI DL.length) (nI p) 2), Tmx 5 ro (Tsh (Tsec (nI DL.length) (nI p) 2) (pt th 0)), 0, nn, br, bp, bo, oc))) from fun V hV Z GF PF hSI => by have hq0 := hSI.2.2.2 p hp; rw [eD] at hq0; exact ⟨fun hv hw => have h1 := NSS_turn (x := (Tsec (nI DL.length) (nI p) 2)) ((hq0.1 hv).1 q hw ((th, ch, nx, le), ba, ro, mi, sd, nn, b, br, bp, bo, oc) hmem); ⟨by rw [ss_turn_t hsd] at h1; exact h1.1, by rw [ss_turn_t hsd] at h1; exact h1.2⟩, fun hv => have h1 := SPU_turn (x := (Tsec (nI DL.length) (nI p) 2)) (SI_UC hSI) (SI_out hSI hV (by omega) hv) ((hq0.2 hv).1.2.2.2.1 q ((th, ch, nx, le), ba, ro, mi, sd, nn, b, br, bp, bo, oc) hmem); by rw [ss_turn_t hsd] at h1; exact h1.1⟩)
            refine P_sendT hJ hn (by omega) (by omega) hp hq hpq rfl hll (by omega) eD hse hsd hst hD (fun hc B2 hJ2 => ⟨rfl, JI_mk hJ2 ((hIA ws ls (by omega) (by omega)).1 hc) (IC_mid hbb hck (hL2)) (IK_all hK (fun _ h => h) (fun _ _ => rfl) (fun e he => Or.inl he) (fun i => Or.inl rfl)) (by rw [List.append_assoc]; exact IS_send0 (E := ([(nI p, 2)] ++ [(nI p, 0)])) (m := List.length (DL ++ [(nI p, 2)])) (S1 := ((th, ch, nx, le), ba, Tmx 4 ro (Tsh (Tsec (nI DL.length) (nI p) 2) (pt th 0)), (Tsec (nI DL.length) (nI p) 2), Tmx 5 ro (Tsh (Tsec (nI DL.length) (nI p) 2) (pt th 0)), 0, nn, br, bp, bo, oc)) (l := lz) (r := ((Tsec (nI (List.length (DL ++ [(nI p, 2)]))) (nI p) 0), nI p, nI q, oc, (Tsec (nI DL.length) (nI p) 2), (pt th 0), 0, 0, fun _ => 2147483647)) hS hp hq eD hPp (by first | omega | (simp only [List.length_append, List.length_cons, List.length_nil] <;> omega)) (by first | omega | (simp only [List.length_append, List.length_cons, List.length_nil] <;> omega)) (by first | omega | (simp only [List.length_append, List.length_cons, List.length_nil] <;> omega)) (fun S hS => by rw [hse]; exact List.mem_cons_of_mem _ hS) (by have := (TT_turn (x := (Tsec (nI DL.length) (nI p) 2)) hbs0).1; rw [ss_turn_t hsd] at this; exact this) (by have := BOS_turn (x := (Tsec (nI DL.length) (nI p) 2)) hbs0; rw [ss_turn_t hsd] at this; exact this) rfl (hSk) rfl rfl hll rfl (fun m hm => (wl_lo _ _ _ _ (Nat.lt_of_lt_of_le hm (by simp))).trans (wl_lo _ _ _ _ hm)) rfl)⟩) (fun hc B2 hJ2 => ⟨rfl, JI_mk hJ2 ((hIA ws ls (by omega) (by omega)).2 (by rw [hc]; decide)) (IC_mid hbb hck (hL2)) (IK_all hK (fun _ h => h) hid (fun e he => Or.inl he) (fun i => Or.inl rfl)) (by rw [List.append_assoc]; exact IS_send1 (E := ([(nI p, 2)] ++ [(nI p, 0)])) (m := List.length (DL ++ [(nI p, 2)])) (S1 := ((th, ch, nx, le), ba, Tmx 4 ro (Tsh (Tsec (nI DL.length) (nI p) 2) (pt th 0)), (Tsec (nI DL.length) (nI p) 2), Tmx 5 ro (Tsh (Tsec (nI DL.length) (nI p) 2) (pt th 0)), 0, nn, br, bp, bo, oc)) (l := lz) (r := ((Tsec (nI (List.length (DL ++ [(nI p, 2)]))) (nI p) 0), nI p, nI q, oc, (Tsec (nI DL.length) (nI p) 2), (pt th 0), 0, 0, fun _ => 2147483647)) hS hp hq eD hPp (by first | omega | (simp only [List.length_append, List.length_cons, List.length_nil] <;> omega)) (by first | omega | (simp only [List.length_append, List.length_cons, List.length_nil] <;> omega)) (by first | omega | (simp only [List.length_append, List.length_cons, List.length_nil] <;> omega)) (fun S hS => by rw [hse]; exact List.mem_cons_of_mem _ hS) (by have := (TT_turn (x := (Tsec (nI DL.length) (nI p) 2)) hbs0).1; rw [ss_turn_t hsd] at this; exact this) (by have := BOS_turn (x := (Tsec (nI DL.length) (nI p) 2)) hbs0; rw [ss_turn_t hsd] at this; exact this) rfl (hSk) rfl rfl hll rfl (fun m hm => (wl_lo _ _ _ _ (Nat.lt_of_lt_of_le hm (by simp))).trans (wl_lo _ _ _ _ hm)) rfl)⟩) (fun hc B2 hJ2 => ⟨rfl, JI_mk hJ2 ((hIA _ _ (by simp only [List.length_append, List.length_cons, List.length_nil]; omega) (by simp only [List.length_append, List.length_cons, List.length_nil]; omega)).2 (by rw [hc]; decide)) (IC_mid hbb hck (hL3)) (IK_all hK (fun y h => Or.inl h) hid (fun e he => (List.mem_append.mp he).elim Or.inl (fun he => by rw [List.mem_singleton.mp he]; exact Or.inr (Kn_G (Or.inr rfl)))) (fun i => Or.inl rfl)) (by rw [List.append_assoc]; exact IS_send2 (E := ([(nI p, 2)] ++ [(nI p, 0)])) (m := List.length (DL ++ [(nI p, 2)])) (S1 := ((th, ch, nx, le), ba, Tmx 4 ro (Tsh (Tsec (nI DL.length) (nI p) 2) (pt th 0)), (Tsec (nI DL.length) (nI p) 2), Tmx 5 ro (Tsh (Tsec (nI DL.length) (nI p) 2) (pt th 0)), 0, nn, br, bp, bo, oc)) (l := lz) (r := ((Tsec (nI (List.length (DL ++ [(nI p, 2)]))) (nI p) 0), nI p, nI q, oc, (Tsec (nI DL.length) (nI p) 2), (pt th 0), 0, 0, fun _ => 2147483647)) hS hp hq eD hPp (by first | omega | (simp only [List.length_append, List.length_cons, List.length_nil] <;> omega)) (by first | omega | (simp only [List.length_append, List.length_cons, List.length_nil] <;> omega)) (by first | omega | (simp only [List.length_append, List.length_cons, List.length_nil] <;> omega)) (fun S hS => by rw [hse]; exact List.mem_cons_of_mem _ hS) (by have := (TT_turn (x := (Tsec (nI DL.length) (nI p) 2)) hbs0).1; rw [ss_turn_t hsd] at this; exact this) (by have := BOS_turn (x := (Tsec (nI DL.length) (nI p) 2)) hbs0; rw [ss_turn_t hsd] at this; exact this) rfl (hSk) rfl rfl hll rfl (fun m hm => (wl_lo _ _ _ _ (Nat.lt_of_lt_of_le hm (by simp))).trans (wl_lo _ _ _ _ hm)) rfl)⟩)
          · have hD1 : DVI p n (id, K0, K1, on, lnu, fset se q (ss_sent ((th, ch, nx, le), ba, ro, mi, sd, nn, b, br, bp, bo, oc) :: lz), me) := DVI_ses hD0 (SEI_set (Ne.symm hpq) (DVI_sei hD0) (by have := hsl.1; rw [hse] at this; exact this) (fun S hS => (List.mem_cons.mp hS).elim (fun e => by rw [e]; exact SSI_sent0 hSI) (fun e => hsl.2 S (by rw [hse]; exact List.mem_cons_of_mem _ e))))
            have hIA := fun (ws' : List (Tm × Int32)) (ls' : List RL) (hw : ws'.length ≤ ws.length + 7) (hl : ls'.length ≤ ls.length + 1) => IA_com (DL' := DL ++ [(nI p, 0)]) (ws' := ws') (ls' := ls') (D' := (id, K0, K1, on, lnu, fset se q (ss_sent ((th, ch, nx, le), ba, ro, mi, sd, nn, b, br, bp, bo, oc) :: lz), me)) hA hp hst (DVI_mono (by omega) (hD1)) (by simp only [List.length_append, List.length_cons, List.length_nil]; omega) hw hl
            have hL2 := LGX_draw hLX hck1 (by omega) (by omega) [(nI p, 0)] [(nI (6 + p), false)] (by simp only [List.length_append, List.length_cons, List.length_nil]; omega) rfl (hEF_1 ⟨rfl, fun h => by rcases h with h | h <;> exact absurd h (by decide)⟩)
            have hL3 := LGX_add (m := List.length DL) (e := lt_sent (Tsec (nI (List.length DL)) (nI p) 0) (nI p) (nI q) (ss_sent ((th, ch, nx, le), ba, ro, mi, sd, nn, b, br, bp, bo, oc))) hL2 (by simp only [List.length_append, List.length_cons, List.length_nil]; omega) (wl_at _ _ _ 0 _ rfl) (by rfl) (LE_sent hp hq (get_end _ _) (SD_app hmi) (SD_app hth)) (by omega) (by simp only [List.length_append, List.length_cons, List.length_nil]; omega)
            have hid : ∀ r, r < 6 → (fset dev p (id, K0, K1, on, lnu, fset se q (ss_sent ((th, ch, nx, le), ba, ro, mi, sd, nn, b, br, bp, bo, oc) :: lz), me) r).1 = (dev r).1 := fset_id1 (by rw [eD])
            have hSk := (show ∀ V, (∀ p, V p → p < 6) → ∀ Z GF PF, SI V Z GF PF (DL ++ [(nI p, 0)]) dev sto G ls → (V p → V q → NSS V (ss_sent ((th, ch, nx, le), ba, ro, mi, sd, nn, b, br, bp, bo, oc)) ∧ NS (core V) ((th, ch, nx, le), ba, ro, mi, sd, nn, b, br, bp, bo, oc).2.2.2.2.1) ∧ (¬ V p → SPU (UU V Z GF PF ls) (ss_sent ((th, ch, nx, le), ba, ro, mi, sd, nn, b, br, bp, bo, oc))) from fun V hV Z GF PF hSI => by have hq0 := hSI.2.2.2 p hp; rw [eD] at hq0; exact ⟨fun hv hw => have h1 := (hq0.1 hv).1 q hw ((th, ch, nx, le), ba, ro, mi, sd, nn, b, br, bp, bo, oc) hmem; ⟨NSS_sent h1 (h1.2.1.resolve_left hsd), h1.2.1.resolve_left hsd⟩, fun hv => have h1 := (hq0.2 hv).1.2.2.2.1 q ((th, ch, nx, le), ba, ro, mi, sd, nn, b, br, bp, bo, oc) hmem; ⟨(GS_sent (UC_hcl (SI_UC hSI)) h1.1 (h1.1.2.1.resolve_left hsd)).1, h1.2⟩⟩)
            refine P_sendA hJ hn (by omega) (by omega) hp hq hpq rfl hll (by omega) eD hse hsd hst hD (fun hc B2 hJ2 => ⟨rfl, JI_mk hJ2 ((hIA ws ls (by omega) (by omega)).1 hc) (IC_mid hbb hck (hL2)) (IK_all hK (fun _ h => h) (fun _ _ => rfl) (fun e he => Or.inl he) (fun i => Or.inl rfl)) (IS_send0 (E := [(nI p, 0)]) (m := List.length DL) (S1 := ((th, ch, nx, le), ba, ro, mi, sd, nn, b, br, bp, bo, oc)) (l := lz) (r := ((Tsec (nI (List.length DL)) (nI p) 0), nI p, nI q, oc, mi, (pt th 0), 0, 0, fun _ => 2147483647)) hS hp hq eD hPp (by first | omega | (simp only [List.length_append, List.length_cons, List.length_nil] <;> omega)) (by first | omega | (simp only [List.length_append, List.length_cons, List.length_nil] <;> omega)) (by first | omega | (simp only [List.length_append, List.length_cons, List.length_nil] <;> omega)) (fun S hS => by rw [hse]; exact List.mem_cons_of_mem _ hS) hbs0 (by have := BOS_turn (x := tz) hbs0; rw [ss_turn_f hsd] at this; exact this) rfl (hSk) rfl rfl hll rfl (fun m hm => wl_lo _ _ _ _ hm) rfl)⟩) (fun hc B2 hJ2 => ⟨rfl, JI_mk hJ2 ((hIA ws ls (by omega) (by omega)).2 (by rw [hc]; decide)) (IC_mid hbb hck (hL2)) (IK_all hK (fun _ h => h) hid (fun e he => Or.inl he) (fun i => Or.inl rfl)) (IS_send1 (E := [(nI p, 0)]) (m := List.length DL) (S1 := ((th, ch, nx, le), ba, ro, mi, sd, nn, b, br, bp, bo, oc)) (l := lz) (r := ((Tsec (nI (List.length DL)) (nI p) 0), nI p, nI q, oc, mi, (pt th 0), 0, 0, fun _ => 2147483647)) hS hp hq eD hPp (by first | omega | (simp only [List.length_append, List.length_cons, List.length_nil] <;> omega)) (by first | omega | (simp only [List.length_append, List.length_cons, List.length_nil] <;> omega)) (by first | omega | (simp only [List.length_append, List.length_cons, List.length_nil] <;> omega)) (fun S hS => by rw [hse]; exact List.mem_cons_of_mem _ hS) hbs0 (by have := BOS_turn (x := tz) hbs0; rw [ss_turn_f hsd] at this; exact this) rfl (hSk) rfl rfl hll rfl (fun m hm => wl_lo _ _ _ _ hm) rfl)⟩) (fun hc B2 hJ2 => ⟨rfl, JI_mk hJ2 ((hIA _ _ (by simp only [List.length_append, List.length_cons, List.length_nil]; omega) (by simp only [List.length_append, List.length_cons, List.length_nil]; omega)).2 (by rw [hc]; decide)) (IC_mid hbb hck (hL3)) (IK_all hK (fun y h => Or.inl h) hid (fun e he => (List.mem_append.mp he).elim Or.inl (fun he => by rw [List.mem_singleton.mp he]; exact Or.inr (Kn_G (Or.inr rfl)))) (fun i => Or.inl rfl)) (IS_send2 (E := [(nI p, 0)]) (m := List.length DL) (S1 := ((th, ch, nx, le), ba, ro, mi, sd, nn, b, br, bp, bo, oc)) (l := lz) (r := ((Tsec (nI (List.length DL)) (nI p) 0), nI p, nI q, oc, mi, (pt th 0), 0, 0, fun _ => 2147483647)) hS hp hq eD hPp (by first | omega | (simp only [List.length_append, List.length_cons, List.length_nil] <;> omega)) (by first | omega | (simp only [List.length_append, List.length_cons, List.length_nil] <;> omega)) (by first | omega | (simp only [List.length_append, List.length_cons, List.length_nil] <;> omega)) (fun S hS => by rw [hse]; exact List.mem_cons_of_mem _ hS) hbs0 (by have := BOS_turn (x := tz) hbs0; rw [ss_turn_f hsd] at this; exact this) rfl (hSk) rfl rfl hll rfl (fun m hm => wl_lo _ _ _ _ hm) rfl)⟩)
      · exact P_sendD hJ hn (by omega) (by omega) (by rw [hst]) hp hq hpq (fun B2 hJ2 => ⟨rfl, JI_mk hJ2 (IA_same hA) (IC_tick hC) (hK) (IS_same hS (by omega) rfl rfl rfl)⟩)
    · have hxq := Bool.eq_false_iff.mpr hxq
      exact P_sendX hJ hn (Or.inr (Or.inl hxq)) (fun B2 hJ2 => ⟨rfl, JI_mk hJ2 (IA_same hA) (IC_tick hC) (hK) (IS_same hS (by omega) rfl rfl rfl)⟩)
  · have hxp := Bool.eq_false_iff.mpr hxp
    exact P_sendX hJ hn (Or.inl hxp) (fun B2 hJ2 => ⟨rfl, JI_mk hJ2 (IA_same hA) (IC_tick hC) (hK) (IS_same hS (by omega) rfl rfl rfl)⟩)
set_option maxRecDepth 100000 in
theorem C_post {sc : tm_X} {d N S n : Nat} {B : bm_H} (hn : n < 64) (h : JI N S n B) (x y : Int32) : PR sc (d + 12) 97 228 [.int x, .int y] B (CQ N S n) := by
  obtain ⟨DL, dev, sto, ws, dir, reg, seen, G, ⟨Lc, bdc, llc, tcc, tlc, tfc, tgc, cfc, cgc, ctc, coc, lic, foc, dbc⟩, ls, lo, ⟨dt, db, rt, fl, ll, tl, tf, tg, tm, ck, fo, du⟩, hJ, hA, hC, hK, hS⟩ := h
  have hb1 : DL.length ≤ 1400 := by have := hA.2.1; omega
  have hb2 : ws.length ≤ 450 := by have := hA.2.2.1; omega
  have hb3 : ls.length < 70 := by have := hA.2.2.2; omega
  by_cases hxp : inR x 6 = true
  · obtain ⟨p, hp, rfl⟩ := inR_of (n := 6) (by decide) hxp
    by_cases hxg : inR y 4 = true
    · obtain ⟨g, hg, rfl⟩ := inR_of (n := 4) (by decide) hxg
      obtain ⟨id, K0, K1, on, lnu, se, me, eD⟩ : ∃ a1 a2 a3 a4 a5 a6 a7, dev p = (a1, a2, a3, a4, a5, a6, a7) := ⟨_, _, _, _, _, _, _, rfl⟩
      obtain ⟨p0, P, O, c, dn, hst⟩ : ∃ a1 a2 a3 a4 a5, sto p = (a1, a2, a3, a4, a5) := ⟨_, _, _, _, _, rfl⟩
      have hD := (hA.1 p hp).1
      cases dn
      · have hO := J_O hJ hp hst
        subst hO
        have kid : ∀ q, q < 6 → kd ((fun q => (dev q).1) q) = 1 := fun q hq => (hA.1 q hq).1.1
        have hll : Lc.length = ls.length := by obtain ⟨b, -, -, hL⟩ := hC; exact hL.1.1.1
        have hPp : P = dv_en (dev p) := by have := (hA.1 p hp).2; rw [hst] at this; exact this
        have hIp := hS.1.2 p hp
        have eid : id = Tsec (nI p) (nI p) 0 := by have := IVd_id hIp; rw [eD] at this; exact this
        have hids : ∀ r, r < 6 → (fun q => (dev q).1) r = Tsec (nI r) (nI r) 0 := fun r hr => IVd_id (hS.1.2 r hr)
        obtain ⟨C, hPC, hCw, hCd, hCr, hCi, hCs, -⟩ := J_C hJ
        have hpub : ∀ q, q < 6 → an_pre dir (fun q => (dev q).1) q ≠ tz → SD DL (pt (an_pre dir (fun q => (dev q).1) q) 0) ∧ kd (pt (an_pre dir (fun q => (dev q).1) q) 0) = 1 := fun q hq hz => by
          have hk := an_pre_kd hz
          have e := (an_pre_at hz).1
          rw [e] at hk ⊢
          have hc := hPC.1 _ 0 (hPC.1 _ 1 (hCd (q * 5) (by omega)))
          exact ⟨hPC.2.1 _ (hPC.1 _ 0 hc) (hPC.2.2.1 _ hc hk), hPC.2.2.1 _ hc hk⟩
        obtain ⟨bb, hbb, hck, hLX⟩ := hC
        have hck : ck = nI bb := hck
        have hck1 : ck + 1 = nI (bb + 1) := by rw [hck]; exact nI_s1 bb
        have hD0 := hD
        rw [eD] at hD0
        have hpb : ∀ i, kd (pt (pt (dir i) 1) 0) = 2 → kd (pt (pt (pt (dir i) 1) 0) 0) = 1 := fun i hk => by
          by_cases c : i < 30
          · exact hPC.2.2.1 _ (hPC.1 _ 0 (hPC.1 _ 1 (hCd i c))) hk
          · rw [hK.2.2.1.2 i (by omega)] at hk; exact absurd hk (by decide)
        have hdr := ho_dr6 (id := id) (ids := (fun q => (dev q).1)) (s := p) (g := g) (se := se) (me := me) (dir := dir) (dr := DL.length)
        have hwr : (po_hand id (fun q => (dev q).1) p g se me dir DL.length).2.2.2.2.length ≤ 6 := by
          have := (ho_wires (id := id) (ids := (fun q => (dev q).1)) (s := p) (g := g) (Y := mm_gift (mm_ren (me g) DL.length (nI p)) (nI g)) 6 0 (se, fset me g (mm_ren (me g) DL.length (nI p)), dir, dr_ren (me g) DL.length, []) (fun X hX => by cases hX)).2
          simp only [List.length_nil, Nat.zero_add] at this
          exact this
        have hdx : ∀ i, (po_hand id (fun q => (dev q).1) p g se me dir DL.length).2.2.1 i = dir i ∨ (po_hand id (fun q => (dev q).1) p g se me dir DL.length).2.2.1 i = tz ∨ (i < 30 ∧ Kn G ((po_hand id (fun q => (dev q).1) p g se me dir DL.length).2.2.1 i)) := fun i => (ho_dirx 6 0 _ i).imp (fun h => h) Or.inl
        have hIA := fun (DL' : List (Int32 × Int32)) (ws' : List (Tm × Int32)) (ls' : List RL) (hd : DL'.length ≤ DL.length + 21) (hw : ws'.length ≤ ws.length + 7) (hl : ls'.length ≤ ls.length + 1) => IA_com (DL' := DL') (ws' := ws') (ls' := ls') (D' := (id, K0, K1, on, lnu, (po_hand id (fun q => (dev q).1) p g se me dir DL.length).1, fset (po_hand id (fun q => (dev q).1) p g se me dir DL.length).2.1 g (mm_posted ((po_hand id (fun q => (dev q).1) p g se me dir DL.length).2.1 g)))) hA hp hst (DVI_mono (by omega) (DVI_post hpb hD0)) hd hw hl
        have hL2 := fun (E : List (Int32 × Int32)) (hE : DL.length + E.length = (po_hand id (fun q => (dev q).1) p g se me dir DL.length).2.2.2.1) (hE2 : ∀ e, e ∈ E → e.1 = nI p ∧ (e.2 = 0 ∨ e.2 = 2)) => LGX_draw (LGX_draw hLX hck1 (by omega) (by omega) E (E.map fun e => (e.1, decide (e.2 ≠ 0))) (by omega) (List.length_map _) (hEF_m hE2)) hck1 (by omega) (by omega) [(nI p, 0)] [(nI (6 + p), false)] (by simp only [List.length_append, List.length_cons, List.length_nil]; omega) rfl (hEF_1 ⟨rfl, fun h => by rcases h with h | h <;> exact absurd h (by decide)⟩)
        have hid : ∀ r, r < 6 → (fset dev p (id, K0, K1, on, lnu, (po_hand id (fun q => (dev q).1) p g se me dir DL.length).1, fset (po_hand id (fun q => (dev q).1) p g se me dir DL.length).2.1 g (mm_posted ((po_hand id (fun q => (dev q).1) p g se me dir DL.length).2.1 g))) r).1 = (dev r).1 := fset_id1 (by rw [eD])
        have hln := fun (E : List (Int32 × Int32)) (hE : DL.length + E.length = (po_hand id (fun q => (dev q).1) p g se me dir DL.length).2.2.2.1) => (show (DL ++ E ++ [(nI p, 0)]).length ≤ DL.length + 21 by simp only [List.length_append, List.length_cons, List.length_nil]; omega)
        refine P_post hJ hn (by omega) (by omega) hp hg rfl kid hpb hll (by omega) eD hst hD (fun _ => (fun B2 hJ2 => ⟨rfl, JI_mk hJ2 (IA_same hA) (IC_tick ⟨bb, hbb, hck, hLX⟩) hK (IS_same hS (by omega) rfl rfl rfl)⟩)) (fun hve hc E hE hE2 B2 hJ2 => ⟨rfl, JI_mk hJ2 ((hIA _ ws ls (hln E hE) (by omega) (by omega)).1 hc) (IC_mid hbb hck (hL2 E hE hE2)) (IK_all hK (fun _ h => h) (fun _ _ => rfl) (fun e he => Or.inl he) hdx) (IS_post0 hS hLX (by omega) (by omega) hp hg eD hve hPp (by omega) hids hK.2.2.1.1 hE rfl rfl rfl (fun m hm => (wl_lo _ _ _ _ (Nat.lt_of_lt_of_le hm (by simp))).trans (wl_lo _ _ _ _ hm)) rfl)⟩) (fun hve hc E hE hE2 B2 hJ2 => ⟨rfl, JI_mk hJ2 ((hIA _ ws ls (hln E hE) (by omega) (by omega)).2 (by rw [hc]; decide)) (IC_mid hbb hck (hL2 E hE hE2)) (IK_all hK (fun _ h => h) hid (fun e he => Or.inl he) hdx) (IS_post1 hS hLX (by omega) (by omega) hp hg eD hve hPp (by omega) hids hK.2.2.1.1 hE rfl rfl rfl (fun m hm => (wl_lo _ _ _ _ (Nat.lt_of_lt_of_le hm (by simp))).trans (wl_lo _ _ _ _ hm)) rfl)⟩) (fun hve hc E hE hE2 B2 hJ2 => ⟨rfl, JI_mk hJ2 ((hIA _ _ _ (hln E hE) ?_ ?_).2 (by rw [hc]; decide)) ?_ ?_ (IS_post2 hS hLX (by omega) (by omega) hp hg eD hve hPp (by omega) hids hK.2.2.1.1 hE rfl rfl rfl (fun m hm => (wl_lo _ _ _ _ (Nat.lt_of_lt_of_le hm (by simp))).trans (wl_lo _ _ _ _ hm)) (by rw [← hck1]; exact wlx hE) rfl)⟩)
        · simp only [List.length_append, List.length_map, List.length_cons, List.length_nil]; omega
        · simp only [List.length_append, List.length_cons, List.length_nil]; omega
        · have em : (po_hand id (fun q => (dev q).1) p g se me dir DL.length).2.2.2.1 = (DL ++ E).length := by rw [List.length_append]; exact hE.symm
          have hL3 := LGX_add (m := (DL ++ E).length) (e := lt_post (Tsec (nI (DL ++ E).length) (nI p) 0) (nI p) (nI g) ((po_hand id (fun q => (dev q).1) p g se me dir DL.length).2.1 g).2.1 lic) (hL2 E hE hE2) (by simp only [List.length_append, List.length_cons, List.length_nil]; omega) (wl_at _ _ _ 0 _ rfl) (by rfl) (LE_post hp hg (get_end _ _)) (by omega) (by simp only [List.length_append, List.length_cons, List.length_nil]; omega)
          rw [em]
          exact IC_mid hbb hck hL3
        · refine IK_all hK (fun y h => Or.inl h) hid (fun e he => ?_) (fun i => (hdx i).imp (fun h => h) (fun h => h.imp (fun h => h) (fun h => ⟨h.1, Kn_mono (fun y h => Or.inl h) h.2⟩)))
          rcases List.mem_append.mp he with he | he
          · rcases List.mem_append.mp he with he | he
            · exact Or.inl he
            · obtain ⟨X, hX, rfl⟩ := List.mem_map.mp he
              exact Or.inr (Kn_G (Or.inr (List.mem_append_left _ hX)))
          · rw [List.mem_singleton.mp he]
            exact Or.inr (Kn_G (Or.inr (List.mem_append_right _ (List.mem_singleton.mpr rfl))))
      · exact P_postD hJ hn (by omega) (by omega) (by rw [hst]) hp hg (fun B2 hJ2 => ⟨rfl, JI_mk hJ2 (IA_same hA) (IC_tick hC) (hK) (IS_same hS (by omega) rfl rfl rfl)⟩)
    · have hxg := Bool.eq_false_iff.mpr hxg
      exact P_postB hJ hn (Or.inr hxg) (fun B2 hJ2 => ⟨rfl, JI_mk hJ2 (IA_same hA) (IC_tick hC) (hK) (IS_same hS (by omega) rfl rfl rfl)⟩)
  · have hxp := Bool.eq_false_iff.mpr hxp
    exact P_postB hJ hn (Or.inl hxp) (fun B2 hJ2 => ⟨rfl, JI_mk hJ2 (IA_same hA) (IC_tick hC) (hK) (IS_same hS (by omega) rfl rfl rfl)⟩)
set_option maxRecDepth 100000 in
theorem C_deliver {sc : tm_X} {d N S n : Nat} {B : bm_H} (hn : n < 64) (h : JI N S n B) (x y : Int32) : PR sc (d + 12) 103 229 [.int x, .int y] B (CQ N S n) := by
  obtain ⟨DL, dev, sto, ws, dir, reg, seen, G, ⟨Lc, bdc, llc, tcc, tlc, tfc, tgc, cfc, cgc, ctc, coc, lic, foc, dbc⟩, ls, lo, ⟨dt, db, rt, fl, ll, tl, tf, tg, tm, ck, fo, du⟩, hJ, hA, hC, hK, hS⟩ := h
  have hb1 : DL.length ≤ 1400 := by have := hA.2.1; omega
  have hb2 : ws.length ≤ 450 := by have := hA.2.2.1; omega
  have hb3 : ls.length < 70 := by have := hA.2.2.2; omega
  by_cases hxp : inR x 6 = true
  · obtain ⟨p, hp, rfl⟩ := inR_of (n := 6) (by decide) hxp
    by_cases hy : inR y (nI ws.length) = true
    · obtain ⟨wi, hwi, rfl⟩ := inR_of (by omega) hy
      obtain ⟨id, K0, K1, on, lnu, se, me, eD⟩ : ∃ a1 a2 a3 a4 a5 a6 a7, dev p = (a1, a2, a3, a4, a5, a6, a7) := ⟨_, _, _, _, _, _, _, rfl⟩
      obtain ⟨p0, P, O, c, dn, hst⟩ : ∃ a1 a2 a3 a4 a5, sto p = (a1, a2, a3, a4, a5) := ⟨_, _, _, _, _, rfl⟩
      have hD := (hA.1 p hp).1
      cases dn
      · have hO := J_O hJ hp hst
        subst hO
        obtain ⟨⟨X, lw⟩, he⟩ : ∃ e, ws[wi]? = some e := ⟨_, List.getElem?_eq_getElem hwi⟩
        obtain ⟨C, hPC, hCw, hCd, -⟩ := J_C hJ
        have hCX : C X := hCw wi _ he
        have hKX : Kn G X := hK.2.1 (X, lw) (List.mem_of_getElem? he)
        have hCz : C tz := by have := hPC.1 X 4 hCX; rw [pt_4] at this; exact this
        have kid : ∀ q, q < 6 → kd ((fun q => (dev q).1) q) = 1 := fun q hq => (hA.1 q hq).1.1
        have hPp : P = dv_en (dev p) := by have := (hA.1 p hp).2; rw [hst] at this; exact this
        have hIp := hS.1.2 p hp
        have eid : id = Tsec (nI p) (nI p) 0 := by have := IVd_id hIp; rw [eD] at this; exact this
        have hids : ∀ r, r < 6 → (fun q => (dev q).1) r = Tsec (nI r) (nI r) 0 := fun r hr => IVd_id (hS.1.2 r hr)
        obtain ⟨bb, hbb, hck, hLX⟩ := hC
        have hck : ck = nI bb := hck
        have hck1 : ck + 1 = nI (bb + 1) := by rw [hck]; exact nI_s1 bb
        have hq4 : DL.length ≤ 2700 := by omega
        have hq1 : bb ≤ 100 := by omega
        have hq2 : ls.length ≤ 700 := by omega
        have hq3 : DL.length ≤ 2960 := by omega
        have hD0 := hD
        rw [eD] at hD0
        obtain ⟨hzS, hway⟩ := ar_way (D := (id, K0, K1, on, lnu, se, me)) (ids := (fun q => (dev q).1)) (q := p) hCz hPC.1 hCX
        have hlo : ∀ m, m < DL.length → lo m = -1 ∨ ∃ i e, ls[i]? = some e ∧ lo m = nI i := fun m hm => (hLX.1.2.1 m hm).2.imp (fun h => h) (fun ⟨i, r, a, b, _⟩ => ⟨i, r, a, b⟩)
        have hD1 : 0 ≤ (ar_spec (id, K0, K1, on, lnu, se, me) (fun q => (dev q).1) p X).1 → DVI p n (ar_spec (id, K0, K1, on, lnu, se, me) (fun q => (dev q).1) p X).2.1 := ar_spec_I (fun z => hPC.2.2.1 _ (hPC.1 _ 1 (hPC.1 _ 1 hCX)) z) hD0
        have hIA := fun (ls' : List RL) (hl : ls'.length ≤ ls.length + 1) (hx0 : 0 ≤ (ar_spec (id, K0, K1, on, lnu, se, me) (fun q => (dev q).1) p X).1) => IA_com (DL' := DL) (ws' := ws) (ls' := ls') (D' := (ar_spec (id, K0, K1, on, lnu, se, me) (fun q => (dev q).1) p X).2.1) hA hp hst (DVI_mono (by omega) (hD1 hx0)) (by omega) (by omega) hl
        have hid : ∀ r, r < 6 → (fset dev p (ar_spec (id, K0, K1, on, lnu, se, me) (fun q => (dev q).1) p X).2.1 r).1 = (dev r).1 := fset_id1 (by rw [eD]; exact (ar_keep _ _ _ _).1)
        have hpk : ∀ b X, pk_find (dev p).2.1 (dev p).2.2.1 X = some b → kd (pk_of (dev p).2.1 (dev p).2.2.1 b).1 = 1 := fun b Y hb => by
          rw [eD] at hb ⊢
          exact pk_kd hD0.2.1 hb
        have hDv : 0 ≤ (ar_spec (id, K0, K1, on, lnu, se, me) (fun q => (dev q).1) p X).1 → IVd p (n + 1) DL ls (ar_spec (id, K0, K1, on, lnu, se, me) (fun q => (dev q).1) p X).2.1 := fun h0 => by
          have h1 := IVd_mono (n' := n + 1) (E := []) (by omega) (by omega) (lsx_rfl DL ls) hIp
          rw [List.append_nil, eD] at h1
          exact IVd_ar h1 h0
        have hdk : 0 ≤ (ar_spec (id, K0, K1, on, lnu, se, me) (fun q => (dev q).1) p X).1 → ∀ V, (∀ p, V p → p < 6) → ∀ Z GF PF, SI V Z GF PF DL dev sto G ls → dok V Z GF PF ls p (ar_spec (id, K0, K1, on, lnu, se, me) (fun q => (dev q).1) p X).2.1 := fun h0 V hV Z GF PF hSI => by
          have h1 := dok_ar (ids := (fun q => (dev q).1)) (A := X) hSI hV hp hids hIp hpk hKX
          rw [eD] at h1
          exact h1 h0
        have hTk := fun (h1 : (ar_spec (id, K0, K1, on, lnu, se, me) (fun q => (dev q).1) p X).1 = 1) (LX : LG) (RX : RR) (eL : LX.1 = (lg_taken (Lc, bdc, llc, tcc, tlc, tfc, tgc, (ar_spec (id, K0, K1, on, lnu, se, me) (fun q => (dev q).1) p X).2.2.1, (ar_spec (id, K0, K1, on, lnu, se, me) (fun q => (dev q).1) p X).2.2.2.1, (ar_spec (id, K0, K1, on, lnu, se, me) (fun q => (dev q).1) p X).2.2.2.2.1, (ar_spec (id, K0, K1, on, lnu, se, me) (fun q => (dev q).1) p X).2.2.2.2.2, lic, foc, dbc) p).1) (eR : RX.1 = dt ∧ RX.2.2.2.1 = fl) => (by
          have h2 := IS_taken (ids := (fun q => (dev q).1)) (A := X) (P := P) (p0 := p0) (c := c) (x := ck + 1) (LX := LX) (RX := RX) hS hLX hp hck1 hq1 hq4 hq2 hPp hids hpk hKX
          rw [eD] at h2
          exact h2 h1 (fun k => hPC.2.1 _ hzS k) eL eR : IS (n + 1) DL (fset dev p (ar_spec (id, K0, K1, on, lnu, se, me) (fun q => (dev q).1) p X).2.1) (fset sto p (st_commit p0 P c (dv_en (ar_spec (id, K0, K1, on, lnu, se, me) (fun q => (dev q).1) p X).2.1)).2) G LX (rt_ls ls lo p (ar_spec (id, K0, K1, on, lnu, se, me) (fun q => (dev q).1) p X).2.2.2.1 (ar_spec (id, K0, K1, on, lnu, se, me) (fun q => (dev q).1) p X).2.2.2.2.1 (ar_spec (id, K0, K1, on, lnu, se, me) (fun q => (dev q).1) p X).2.2.2.2.2 (ck + 1)) RX)
        have hKd := IK_all (dev' := fset dev p (ar_spec (id, K0, K1, on, lnu, se, me) (fun q => (dev q).1) p X).2.1) hK (fun _ h => h) hid (fun e he => Or.inl he) (fun i => Or.inl rfl)
        refine P_deliver hJ hn (by omega) (by omega) hp rfl kid he hlo eD hst hD (fun _ xf xg xt xo B2 hJ2 => ⟨rfl, JI_mk hJ2 (IA_same hA) (IC_tick ⟨bb, hbb, hck, hLX⟩) hK (IS_same hS (by omega) rfl rfl rfl)⟩) (fun h0 hc xf xg xt xo B2 hJ2 => ⟨rfl, JI_mk hJ2 ((hIA ls (by omega) h0).1 hc) (IC_tick ⟨bb, hbb, hck, hLX⟩) hK (IS_comN0 hS hp (by omega) hPp (hDv h0) (hdk h0) rfl (fun _ _ => rfl) rfl)⟩) (fun h0 hc xf xg xt xo B2 hJ2 => ⟨rfl, JI_mk hJ2 ((hIA ls (by omega) h0).2 (by rw [hc]; decide)) (IC_tick ⟨bb, hbb, hck, hLX⟩) hKd (IS_comN1 hS hp (by omega) hPp (hDv h0) (hdk h0) rfl (fun _ _ => rfl) rfl)⟩) (fun h0 h1 hc B2 hJ2 => ⟨rfl, JI_mk hJ2 ((hIA ls (by omega) h0).2 (by rw [hc]; decide)) (IC_tick ⟨bb, hbb, hck, hLX⟩) hKd (IS_comN1 hS hp (by omega) hPp (hDv h0) (hdk h0) rfl (fun _ _ => rfl) rfl)⟩) (fun h1 hc B2 hJ2 => ⟨h1, JI_mk hJ2 ((hIA _ ?_ (by rw [h1]; decide)).2 (by rw [hc]; decide)) ?_ hKd (hTk h1 _ _ rfl ⟨rfl, rfl⟩)⟩)
        · rw [rt_len]; exact Nat.le_succ _
        · obtain ⟨w1, w2⟩ := hway h1
          clear hc hIA hD1 hid hKd hway hJ2
          generalize (ar_spec (id, K0, K1, on, lnu, se, me) (fun q => (dev q).1) p X) = r at hzS w1 w2 h1 ⊢
          exact IC_tk hbb hck (LGX_taken (cf := r.2.2.1) (cg := r.2.2.2.1) (S := r.2.2.2.2.1) (oc := r.2.2.2.2.2) (x := ck + 1) hLX hp hck1 hq1 hq2 hq3 (fun k => hPC.2.1 _ hzS k) w1 w2)
      · exact P_deliverD hJ hn (by omega) (by omega) (by rw [hst]) hp hwi (fun B2 hJ2 => ⟨rfl, JI_mk hJ2 (IA_same hA) (IC_tick hC) (hK) (IS_same hS (by omega) rfl rfl rfl)⟩)
    · exact P_deliverB hJ hn (Or.inr (Bool.eq_false_iff.mpr hy)) (fun B2 hJ2 => ⟨rfl, JI_mk hJ2 (IA_same hA) (IC_tick hC) (hK) (IS_same hS (by omega) rfl rfl rfl)⟩)
  · have hxp := Bool.eq_false_iff.mpr hxp
    exact P_deliverB hJ hn (Or.inl hxp) (fun B2 hJ2 => ⟨rfl, JI_mk hJ2 (IA_same hA) (IC_tick hC) (hK) (IS_same hS (by omega) rfl rfl rfl)⟩)
set_option maxRecDepth 100000 in
theorem C_inject {sc : tm_X} {d N S n : Nat} {B : bm_H} (hn : n < 64) (h : JI N S n B) (x y : Int32) : PR sc (d + 12) 130 248 [.int x, .int y] B (CQ N S n) := by
  obtain ⟨DL, dev, sto, ws, dir, reg, seen, G, ⟨Lc, bdc, llc, tcc, tlc, tfc, tgc, cfc, cgc, ctc, coc, lic, foc, dbc⟩, ls, lo, ⟨dt, db, rt, fl, ll, tl, tf, tg, tm, ck, fo, du⟩, hJ, hA, hC, hK, hS⟩ := h
  have hb1 : DL.length ≤ 1400 := by have := hA.2.1; omega
  have hb2 : ws.length ≤ 450 := by have := hA.2.2.1; omega
  have hb3 : ls.length < 70 := by have := hA.2.2.2; omega
  by_cases hxp : inR x 6 = true
  · obtain ⟨p, hp, rfl⟩ := inR_of (n := 6) (by decide) hxp
    by_cases hXz : hl reg y = tz
    · exact P_injectB hJ hn (Or.inr hXz) (fun B2 hJ2 => ⟨rfl, JI_mk hJ2 (IA_same hA) (IC_tick hC) (hK) (IS_same hS (by omega) rfl rfl rfl)⟩)
    · obtain ⟨X, eX⟩ : ∃ X, hl reg y = X := ⟨_, rfl⟩
      obtain ⟨id, K0, K1, on, lnu, se, me, eD⟩ : ∃ a1 a2 a3 a4 a5 a6 a7, dev p = (a1, a2, a3, a4, a5, a6, a7) := ⟨_, _, _, _, _, _, _, rfl⟩
      obtain ⟨p0, P, O, c, dn, hst⟩ : ∃ a1 a2 a3 a4 a5, sto p = (a1, a2, a3, a4, a5) := ⟨_, _, _, _, _, rfl⟩
      have hD := (hA.1 p hp).1
      cases dn
      · have hO := J_O hJ hp hst
        subst hO
        obtain ⟨C, hPC, hCw, hCd, hCr, -⟩ := J_C hJ
        have hCz : C tz := by have := hPC.1 _ 4 (hCd 0 (by omega)); rw [pt_4] at this; exact this
        have hCX : C X := by
          rw [← eX]
          unfold hl
          split
          · rename_i z
            obtain ⟨r, hr, rfl⟩ := inR_of (n := 32) (by decide) z
            rw [nI_clamp (by omega)]
            exact hCr r hr
          · exact hCz
        have hKX : Kn G X := by rw [← eX]; exact IK_hl hK y
        rw [eX] at hXz
        have kid : ∀ q, q < 6 → kd ((fun q => (dev q).1) q) = 1 := fun q hq => (hA.1 q hq).1.1
        have hPp : P = dv_en (dev p) := by have := (hA.1 p hp).2; rw [hst] at this; exact this
        have hIp := hS.1.2 p hp
        have eid : id = Tsec (nI p) (nI p) 0 := by have := IVd_id hIp; rw [eD] at this; exact this
        have hids : ∀ r, r < 6 → (fun q => (dev q).1) r = Tsec (nI r) (nI r) 0 := fun r hr => IVd_id (hS.1.2 r hr)
        obtain ⟨bb, hbb, hck, hLX⟩ := hC
        have hck : ck = nI bb := hck
        have hck1 : ck + 1 = nI (bb + 1) := by rw [hck]; exact nI_s1 bb
        have hq4 : DL.length ≤ 2700 := by omega
        have hq1 : bb ≤ 100 := by omega
        have hq2 : ls.length ≤ 700 := by omega
        have hq3 : DL.length ≤ 2960 := by omega
        have hD0 := hD
        rw [eD] at hD0
        obtain ⟨hzS, hway⟩ := ar_way (D := (id, K0, K1, on, lnu, se, me)) (ids := (fun q => (dev q).1)) (q := p) hCz hPC.1 hCX
        have hlo : ∀ m, m < DL.length → lo m = -1 ∨ ∃ i e, ls[i]? = some e ∧ lo m = nI i := fun m hm => (hLX.1.2.1 m hm).2.imp (fun h => h) (fun ⟨i, r, a, b, _⟩ => ⟨i, r, a, b⟩)
        have hD1 : 0 ≤ (ar_spec (id, K0, K1, on, lnu, se, me) (fun q => (dev q).1) p X).1 → DVI p n (ar_spec (id, K0, K1, on, lnu, se, me) (fun q => (dev q).1) p X).2.1 := ar_spec_I (fun z => hPC.2.2.1 _ (hPC.1 _ 1 (hPC.1 _ 1 hCX)) z) hD0
        have hIA := fun (ls' : List RL) (hl : ls'.length ≤ ls.length + 1) (hx0 : 0 ≤ (ar_spec (id, K0, K1, on, lnu, se, me) (fun q => (dev q).1) p X).1) => IA_com (DL' := DL) (ws' := ws) (ls' := ls') (D' := (ar_spec (id, K0, K1, on, lnu, se, me) (fun q => (dev q).1) p X).2.1) hA hp hst (DVI_mono (by omega) (hD1 hx0)) (by omega) (by omega) hl
        have hid : ∀ r, r < 6 → (fset dev p (ar_spec (id, K0, K1, on, lnu, se, me) (fun q => (dev q).1) p X).2.1 r).1 = (dev r).1 := fset_id1 (by rw [eD]; exact (ar_keep _ _ _ _).1)
        have hpk : ∀ b X, pk_find (dev p).2.1 (dev p).2.2.1 X = some b → kd (pk_of (dev p).2.1 (dev p).2.2.1 b).1 = 1 := fun b Y hb => by
          rw [eD] at hb ⊢
          exact pk_kd hD0.2.1 hb
        have hDv : 0 ≤ (ar_spec (id, K0, K1, on, lnu, se, me) (fun q => (dev q).1) p X).1 → IVd p (n + 1) DL ls (ar_spec (id, K0, K1, on, lnu, se, me) (fun q => (dev q).1) p X).2.1 := fun h0 => by
          have h1 := IVd_mono (n' := n + 1) (E := []) (by omega) (by omega) (lsx_rfl DL ls) hIp
          rw [List.append_nil, eD] at h1
          exact IVd_ar h1 h0
        have hdk : 0 ≤ (ar_spec (id, K0, K1, on, lnu, se, me) (fun q => (dev q).1) p X).1 → ∀ V, (∀ p, V p → p < 6) → ∀ Z GF PF, SI V Z GF PF DL dev sto G ls → dok V Z GF PF ls p (ar_spec (id, K0, K1, on, lnu, se, me) (fun q => (dev q).1) p X).2.1 := fun h0 V hV Z GF PF hSI => by
          have h1 := dok_ar (ids := (fun q => (dev q).1)) (A := X) hSI hV hp hids hIp hpk hKX
          rw [eD] at h1
          exact h1 h0
        have hTk := fun (h1 : (ar_spec (id, K0, K1, on, lnu, se, me) (fun q => (dev q).1) p X).1 = 1) (LX : LG) (RX : RR) (eL : LX.1 = (lg_taken (Lc, bdc, llc, tcc, tlc, tfc, tgc, (ar_spec (id, K0, K1, on, lnu, se, me) (fun q => (dev q).1) p X).2.2.1, (ar_spec (id, K0, K1, on, lnu, se, me) (fun q => (dev q).1) p X).2.2.2.1, (ar_spec (id, K0, K1, on, lnu, se, me) (fun q => (dev q).1) p X).2.2.2.2.1, (ar_spec (id, K0, K1, on, lnu, se, me) (fun q => (dev q).1) p X).2.2.2.2.2, lic, foc, dbc) p).1) (eR : RX.1 = dt ∧ RX.2.2.2.1 = fl) => (by
          have h2 := IS_taken (ids := (fun q => (dev q).1)) (A := X) (P := P) (p0 := p0) (c := c) (x := ck + 1) (LX := LX) (RX := RX) hS hLX hp hck1 hq1 hq4 hq2 hPp hids hpk hKX
          rw [eD] at h2
          exact h2 h1 (fun k => hPC.2.1 _ hzS k) eL eR : IS (n + 1) DL (fset dev p (ar_spec (id, K0, K1, on, lnu, se, me) (fun q => (dev q).1) p X).2.1) (fset sto p (st_commit p0 P c (dv_en (ar_spec (id, K0, K1, on, lnu, se, me) (fun q => (dev q).1) p X).2.1)).2) G LX (rt_ls ls lo p (ar_spec (id, K0, K1, on, lnu, se, me) (fun q => (dev q).1) p X).2.2.2.1 (ar_spec (id, K0, K1, on, lnu, se, me) (fun q => (dev q).1) p X).2.2.2.2.1 (ar_spec (id, K0, K1, on, lnu, se, me) (fun q => (dev q).1) p X).2.2.2.2.2 (ck + 1)) RX)
        have hKd := IK_all (dev' := fset dev p (ar_spec (id, K0, K1, on, lnu, se, me) (fun q => (dev q).1) p X).2.1) hK (fun _ h => h) hid (fun e he => Or.inl he) (fun i => Or.inl rfl)
        refine P_inject hJ hn (by omega) (by omega) hp rfl kid eX hXz hlo eD hst hD (fun _ xf xg xt xo B2 hJ2 => ⟨rfl, JI_mk hJ2 (IA_same hA) (IC_tick ⟨bb, hbb, hck, hLX⟩) hK (IS_same hS (by omega) rfl rfl rfl)⟩) (fun h0 hc xf xg xt xo B2 hJ2 => ⟨rfl, JI_mk hJ2 ((hIA ls (by omega) h0).1 hc) (IC_tick ⟨bb, hbb, hck, hLX⟩) hK (IS_comN0 hS hp (by omega) hPp (hDv h0) (hdk h0) rfl (fun _ _ => rfl) rfl)⟩) (fun h0 hc xf xg xt xo B2 hJ2 => ⟨rfl, JI_mk hJ2 ((hIA ls (by omega) h0).2 (by rw [hc]; decide)) (IC_tick ⟨bb, hbb, hck, hLX⟩) hKd (IS_comN1 hS hp (by omega) hPp (hDv h0) (hdk h0) rfl (fun _ _ => rfl) rfl)⟩) (fun h0 h1 hc B2 hJ2 => ⟨rfl, JI_mk hJ2 ((hIA ls (by omega) h0).2 (by rw [hc]; decide)) (IC_tick ⟨bb, hbb, hck, hLX⟩) hKd (IS_comN1 hS hp (by omega) hPp (hDv h0) (hdk h0) rfl (fun _ _ => rfl) rfl)⟩) (fun h1 hc B2 hJ2 => ⟨h1, JI_mk hJ2 ((hIA _ ?_ (by rw [h1]; decide)).2 (by rw [hc]; decide)) ?_ hKd (hTk h1 _ _ rfl ⟨rfl, rfl⟩)⟩)
        · rw [rt_len]; exact Nat.le_succ _
        · obtain ⟨w1, w2⟩ := hway h1
          clear hc hIA hD1 hid hKd hway hJ2
          generalize (ar_spec (id, K0, K1, on, lnu, se, me) (fun q => (dev q).1) p X) = r at hzS w1 w2 h1 ⊢
          exact IC_tk hbb hck (LGX_taken (cf := r.2.2.1) (cg := r.2.2.2.1) (S := r.2.2.2.2.1) (oc := r.2.2.2.2.2) (x := ck + 1) hLX hp hck1 hq1 hq2 hq3 (fun k => hPC.2.1 _ hzS k) w1 w2)
      · exact P_injectD hJ hn (by omega) (by omega) (by rw [hst]) hp hXz (fun B2 hJ2 => ⟨rfl, JI_mk hJ2 (IA_same hA) (IC_tick hC) (hK) (IS_same hS (by omega) rfl rfl rfl)⟩)
  · have hxp := Bool.eq_false_iff.mpr hxp
    exact P_injectB hJ hn (Or.inl hxp) (fun B2 hJ2 => ⟨rfl, JI_mk hJ2 (IA_same hA) (IC_tick hC) (hK) (IS_same hS (by omega) rfl rfl rfl)⟩)
