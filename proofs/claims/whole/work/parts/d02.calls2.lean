/-! Every call is answered alike: the calls that change much -/
set_option maxRecDepth 100000 in
theorem C_draw {sc : tm_X} {d N S n : Nat} {B : bm_H} (hn : n < 64) (h : JI N S n B) (x : Int32) : PR sc (d + 12) 136 254 [.int x] B (CQ N S n) := by
  obtain ⟨DL, dev, sto, ws, dir, reg, seen, G, ⟨Lc, bdc, llc, tcc, tlc, tfc, tgc, cfc, cgc, ctc, coc, lic, foc, dbc⟩, ls, lo, ⟨dt, db, rt, fl, ll, tl, tf, tg, tm, ck, fo, du⟩, hJ, hA, hC, hK, hS⟩ := h
  have hb1 : DL.length ≤ 1400 := by have := hA.2.1; omega
  have hb2 : ws.length ≤ 450 := by have := hA.2.2.1; omega
  have hb3 : ls.length < 70 := by have := hA.2.2.2; omega
  by_cases hx : inR x 32 = true
  · obtain ⟨r, hr, rfl⟩ := inR_of (n := 32) (by decide) hx
    obtain ⟨bb, hbb, hck, hLX⟩ := hC
    have hck : ck = nI bb := hck
    have hck1 : ck + 1 = nI (bb + 1) := by rw [hck]; exact nI_s1 bb
    have hL2 := LGX_draw hLX hck1 (by omega) (by omega) [(6, 0)] [(12, false)] (by simp only [List.length_cons, List.length_nil]; omega) rfl (hEF_1 ⟨rfl, fun h => by rcases h with h | h <;> exact absurd h (by decide)⟩)
    have hG : ∀ y, G y → (G y ∨ (y = (Tsec (nI DL.length) 6 0) ∧ (Tsec (nI DL.length) 6 0) ≠ tz)) := fun y h => Or.inl h
    have hKx := IK_all (G' := fun y => G y ∨ (y = (Tsec (nI DL.length) 6 0) ∧ (Tsec (nI DL.length) 6 0) ≠ tz)) hK hG (fun q _ => rfl) (fun e he => Or.inl he) (fun i => Or.inl rfl)
    refine P_draw hJ hn (by omega) (by omega) hr (fun B2 hJ2 => ⟨rfl, JI_mk hJ2 ?_ (IC_mid hbb hck (hL2)) ?_ (IS_drawn hS [(6, 0)] (by omega) rfl (fun m hm => upd_ne (by omega)) rfl (fun y h => h.imp (fun z => z) (fun z => z.1)))⟩)
    · obtain ⟨a1, a2, a3, a4⟩ := IA_same hA
      exact ⟨a1, by simp only [List.length_append, List.length_cons, List.length_nil]; have := hA.2.1; omega, a3, a4⟩
    · refine IK_reg hKx (fun i => ?_)
      by_cases z : i = r
      · subst z; rw [fset_same]; exact Kn_G (Or.inr ⟨rfl, tn_ne⟩)
      · rw [fset_ne z]; exact hKx.2.2.2.1 i
  · exact P_drawB hJ hn (Bool.eq_false_iff.mpr hx) (fun B2 hJ2 => ⟨rfl, JI_mk hJ2 (IA_same hA) (IC_same hC) (hK) (IS_same hS (by omega) rfl rfl rfl)⟩)
set_option maxRecDepth 100000 in
theorem C_plant {sc : tm_X} {d N S n : Nat} {B : bm_H} (hn : n < 64) (h : JI N S n B) (p a r : Int32) : PR sc (d + 12) 151 264 [.int p, .int a, .int r] B (CQ N S n) := by
  obtain ⟨DL, dev, sto, ws, dir, reg, seen, G, ⟨Lc, bdc, llc, tcc, tlc, tfc, tgc, cfc, cgc, ctc, coc, lic, foc, dbc⟩, ls, lo, ⟨dt, db, rt, fl, ll, tl, tf, tg, tm, ck, fo, du⟩, hJ, hA, hC, hK, hS⟩ := h
  have hb1 : DL.length ≤ 1400 := by have := hA.2.1; omega
  have hb2 : ws.length ≤ 450 := by have := hA.2.2.1; omega
  have hb3 : ls.length < 70 := by have := hA.2.2.2; omega
  refine P_plant hJ hn (by omega) (by omega) (IK_hl hK r) (fun _ => (fun B2 hJ2 => ⟨rfl, JI_mk hJ2 (IA_same hA) (IC_same hC) (hK) (IS_same hS (by omega) rfl rfl rfl)⟩)) (fun h1 B2 hJ2 => ⟨rfl, JI_mk hJ2 (IA_same hA) (IC_same hC) ?_ (IS_know hS (by omega) rfl rfl rfl (fun y h => h.imp (fun z => z) (fun z => by rw [z.1]; exact IK_hl hK r)))⟩)
  refine IK_all hK (fun y h => Or.inl h) (fun q _ => rfl) (fun e he => Or.inl he) (fun i => ?_)
  unfold pl_spec at h1 ⊢
  split
  · rename_i c
    obtain ⟨q, hq, rfl⟩ := inR_of (n := 6) (by decide) c.1
    obtain ⟨k, hk, rfl⟩ := inR_of (n := 5) (by decide) c.2.1
    rw [nI_clamp (by omega), nI_clamp (by omega)]
    by_cases z : i = q * 5 + k
    · refine Or.inr (Or.inr ⟨by omega, ?_⟩)
      show Kn _ (fset dir (q * 5 + k) (hl reg r) i)
      rw [z, fset_same]
      exact Kn_mono (fun y h => Or.inl h) (IK_hl hK r)
    · exact Or.inl (fset_ne z)
  · exact Or.inl rfl
set_option maxRecDepth 100000 in
theorem C_look {sc : tm_X} {d N S n : Nat} {B : bm_H} (hn : n < 64) (h : JI N S n B) (x : Int32) : PR sc (d + 12) 152 265 [.int x] B (CQ N S n) := by
  obtain ⟨DL, dev, sto, ws, dir, reg, seen, G, ⟨Lc, bdc, llc, tcc, tlc, tfc, tgc, cfc, cgc, ctc, coc, lic, foc, dbc⟩, ls, lo, ⟨dt, db, rt, fl, ll, tl, tf, tg, tm, ck, fo, du⟩, hJ, hA, hC, hK, hS⟩ := h
  have hb1 : DL.length ≤ 1400 := by have := hA.2.1; omega
  have hb2 : ws.length ≤ 450 := by have := hA.2.2.1; omega
  have hb3 : ls.length < 70 := by have := hA.2.2.2; omega
  by_cases hxp : inR x 6 = true
  · obtain ⟨p, hp, rfl⟩ := inR_of (n := 6) (by decide) hxp
    obtain ⟨bb, hbb, hck, hLX⟩ := hC
    have hck : ck = nI bb := hck
    have hck1 : ck + 1 = nI (bb + 1) := by rw [hck]; exact nI_s1 bb
    refine P_look hJ hn (by omega) (by omega) hp (fun B2 hJ2 => ⟨rfl, JI_mk hJ2 (IA_same hA) ⟨bb + 1, by omega, hck1, LGX_look hLX hp hck1 (by omega) (by omega)⟩ ?_ (IS_look hS hLX (by omega) hp (by omega) hck1 (hA.1 p hp).2 rfl rfl rfl)⟩)
    have hKx := IK_all (G' := fun y => G y ∨ y ∈ st_terms (sto p)) hK (fun y h => Or.inl h) (fun q _ => rfl) (fun e he => Or.inl he) (fun i => Or.inl rfl)
    exact ⟨hKx.1, hKx.2.1, hKx.2.2.1, hKx.2.2.2.1, fun y hy => Kn_G (Or.inr hy)⟩
  · have hxp := Bool.eq_false_iff.mpr hxp
    exact P_lookB hJ hn hxp (fun B2 hJ2 => ⟨rfl, JI_mk hJ2 (IA_same hA) (IC_same hC) (hK) (IS_same hS (by omega) rfl rfl rfl)⟩)
set_option maxRecDepth 100000 in
theorem C_crash {sc : tm_X} {d N S n : Nat} {B : bm_H} (hn : n < 64) (h : JI N S n B) (x y : Int32) : PR sc (d + 12) 133 251 [.int x, .int y] B (CQ N S n) := by
  obtain ⟨DL, dev, sto, ws, dir, reg, seen, G, ⟨Lc, bdc, llc, tcc, tlc, tfc, tgc, cfc, cgc, ctc, coc, lic, foc, dbc⟩, ls, lo, ⟨dt, db, rt, fl, ll, tl, tf, tg, tm, ck, fo, du⟩, hJ, hA, hC, hK, hS⟩ := h
  have hb1 : DL.length ≤ 1400 := by have := hA.2.1; omega
  have hb2 : ws.length ≤ 450 := by have := hA.2.2.1; omega
  have hb3 : ls.length < 70 := by have := hA.2.2.2; omega
  by_cases hxp : inR x 6 = true
  · obtain ⟨p, hp, rfl⟩ := inR_of (n := 6) (by decide) hxp
    by_cases hy : inR y 201 = true
    · obtain ⟨j, hj, rfl⟩ := inR_of (n := 201) (by decide) hy
      obtain ⟨p0, P, O, c, dn, hst⟩ : ∃ a1 a2 a3 a4 a5, sto p = (a1, a2, a3, a4, a5) := ⟨_, _, _, _, _, rfl⟩
      cases dn
      · exact P_crash hJ hn (by omega) (by omega) hp (by omega) hst (fun B2 hJ2 => ⟨rfl, JI_mk hJ2 (IA_sto hA (by rw [hst]) (by omega)) (IC_tick hC) (hK) (IS_sto hS hp (by omega) rfl rfl rfl (fun e he => by rw [hst]; exact he))⟩)
      · exact P_crashD hJ hn (by omega) (by omega) (by rw [hst]) hp (by omega) (fun B2 hJ2 => ⟨rfl, JI_mk hJ2 (IA_same hA) (IC_tick hC) (hK) (IS_same hS (by omega) rfl rfl rfl)⟩)
    · exact P_crashB hJ hn (Or.inr (Bool.eq_false_iff.mpr hy)) (fun B2 hJ2 => ⟨rfl, JI_mk hJ2 (IA_same hA) (IC_tick hC) (hK) (IS_same hS (by omega) rfl rfl rfl)⟩)
  · have hxp := Bool.eq_false_iff.mpr hxp
    exact P_crashB hJ hn (Or.inl hxp) (fun B2 hJ2 => ⟨rfl, JI_mk hJ2 (IA_same hA) (IC_tick hC) (hK) (IS_same hS (by omega) rfl rfl rfl)⟩)
set_option maxRecDepth 100000 in
theorem C_up {sc : tm_X} {d N S n : Nat} {B : bm_H} (hn : n < 64) (h : JI N S n B) (x : Int32) : PR sc (d + 12) 134 252 [.int x] B (CQ N S n) := by
  obtain ⟨DL, dev, sto, ws, dir, reg, seen, G, ⟨Lc, bdc, llc, tcc, tlc, tfc, tgc, cfc, cgc, ctc, coc, lic, foc, dbc⟩, ls, lo, ⟨dt, db, rt, fl, ll, tl, tf, tg, tm, ck, fo, du⟩, hJ, hA, hC, hK, hS⟩ := h
  have hb1 : DL.length ≤ 1400 := by have := hA.2.1; omega
  have hb2 : ws.length ≤ 450 := by have := hA.2.2.1; omega
  have hb3 : ls.length < 70 := by have := hA.2.2.2; omega
  by_cases hxp : inR x 6 = true
  · obtain ⟨p, hp, rfl⟩ := inR_of (n := 6) (by decide) hxp
    obtain ⟨p0, P, O, c, dn, hst⟩ : ∃ a1 a2 a3 a4 a5, sto p = (a1, a2, a3, a4, a5) := ⟨_, _, _, _, _, rfl⟩
    exact P_up hJ hn (by omega) (by omega) hp hst (fun B2 hJ2 => ⟨rfl, JI_mk hJ2 (IA_sto hA (by rw [hst]) (by omega)) (IC_same hC) (hK) (IS_sto hS hp (by omega) rfl rfl rfl (fun e he => absurd he List.not_mem_nil))⟩)
  · have hxp := Bool.eq_false_iff.mpr hxp
    exact P_upB hJ hn hxp (fun B2 hJ2 => ⟨rfl, JI_mk hJ2 (IA_same hA) (IC_same hC) (hK) (IS_same hS (by omega) rfl rfl rfl)⟩)
set_option maxRecDepth 100000 in
theorem C_publish {sc : tm_X} {d N S n : Nat} {B : bm_H} (hn : n < 64) (h : JI N S n B) (x : Int32) : PR sc (d + 12) 30 199 [.int x] B (CQ N S n) := by
  obtain ⟨DL, dev, sto, ws, dir, reg, seen, G, ⟨Lc, bdc, llc, tcc, tlc, tfc, tgc, cfc, cgc, ctc, coc, lic, foc, dbc⟩, ls, lo, ⟨dt, db, rt, fl, ll, tl, tf, tg, tm, ck, fo, du⟩, hJ, hA, hC, hK, hS⟩ := h
  have hb1 : DL.length ≤ 1400 := by have := hA.2.1; omega
  have hb2 : ws.length ≤ 450 := by have := hA.2.2.1; omega
  have hb3 : ls.length < 70 := by have := hA.2.2.2; omega
  by_cases hxp : inR x 6 = true
  · obtain ⟨p, hp, rfl⟩ := inR_of (n := 6) (by decide) hxp
    obtain ⟨id, K0, K1, on, lnu, se, me, eD⟩ : ∃ a1 a2 a3 a4 a5 a6 a7, dev p = (a1, a2, a3, a4, a5, a6, a7) := ⟨_, _, _, _, _, _, _, rfl⟩
    obtain ⟨p0, P, O, c, dn, hst⟩ : ∃ a1 a2 a3 a4 a5, sto p = (a1, a2, a3, a4, a5) := ⟨_, _, _, _, _, rfl⟩
    have hD := (hA.1 p hp).1
    cases dn
    · have hO := J_O hJ hp hst
      subst hO
      obtain ⟨bb, hbb, hck, hLX⟩ := hC
      have hck : ck = nI bb := hck
      have hck1 : ck + 1 = nI (bb + 1) := by rw [hck]; exact nI_s1 bb
      have hD0 := hD
      rw [eD] at hD0
      have hon := hD0.2.2.1.2
      have hD1 : DVI p (n + 1) (id, (Tsec (nI DL.length) (nI p) 1, lnu + 1, []), K0, (on_fill (nI p) (4 - on.length) (DL.length + 1) (lnu + 1) on).1, (on_fill (nI p) (4 - on.length) (DL.length + 1) (lnu + 1) on).2, se, me) := DVI_renew DL.length (by omega) hD0
      have hlen : (DL ++ [(nI p, 1)] ++ List.replicate (4 - on.length) (nI p, 0)).length ≤ DL.length + 21 := by simp only [List.length_append, List.length_cons, List.length_nil, List.length_replicate]; omega
      have hIA := IA_com (DL' := DL ++ [(nI p, 1)] ++ List.replicate (4 - on.length) (nI p, 0)) (ws' := ws) (ls' := ls) hA hp hst hD1 hlen (by omega) (by omega)
      have hL2 := LGX_draw hLX hck1 (by omega) (by omega) ([(nI p, 1)] ++ List.replicate (4 - on.length) (nI p, 0)) ((nI p, true) :: List.replicate (4 - on.length) (nI p, false)) (by simp only [List.length_append, List.length_cons, List.length_nil, List.length_replicate]; omega) (by simp only [List.length_append, List.length_cons, List.length_nil, List.length_replicate]; omega) hEF_p
      rw [← List.append_assoc] at hL2
      have hid : ∀ q, q < 6 → (fset dev p (id, (Tsec (nI DL.length) (nI p) 1, lnu + 1, []), K0, (on_fill (nI p) (4 - on.length) (DL.length + 1) (lnu + 1) on).1, (on_fill (nI p) (4 - on.length) (DL.length + 1) (lnu + 1) on).2, se, me) q).1 = (dev q).1 := fset_id1 (by rw [eD])
      have hPp : P = dv_en (dev p) := by have := (hA.1 p hp).2; rw [hst] at this; exact this
      have hIp := hS.1.2 p hp
      have hDv : IVd p (n + 1) (DL ++ ([(nI p, 1)] ++ List.replicate (4 - on.length) (nI p, 0))) ls (id, (Tsec (nI DL.length) (nI p) 1, lnu + 1, []), K0, (on_fill (nI p) (4 - on.length) (DL.length + 1) (lnu + 1) on).1, (on_fill (nI p) (4 - on.length) (DL.length + 1) (lnu + 1) on).2, se, me) := by have := IVd_renew (E := ([(nI p, 1)] ++ List.replicate (4 - on.length) (nI p, 0))) (by omega) DL.length hIp; rw [eD] at this; exact this
      have hdk : ∀ V, (∀ p, V p → p < 6) → ∀ Z GF PF, SI V Z GF PF (DL ++ ([(nI p, 1)] ++ List.replicate (4 - on.length) (nI p, 0))) dev sto G ls → dok V Z GF PF ls p (id, (Tsec (nI DL.length) (nI p) 1, lnu + 1, []), K0, (on_fill (nI p) (4 - on.length) (DL.length + 1) (lnu + 1) on).1, (on_fill (nI p) (4 - on.length) (DL.length + 1) (lnu + 1) on).2, se, me) := fun V hV Z GF PF hSI => by have := dok_renew (dr := DL.length) hSI hV hp; rw [eD] at this; exact this
      have eid : id = Tsec (nI p) (nI p) 0 := by have := IVd_id hIp; rw [eD] at this; exact this
      have hl4 : (on_fill (nI p) (4 - on.length) (DL.length + 1) (lnu + 1) on).1.length ≤ 4 := by
        obtain ⟨m, -, em⟩ := hD0.2.2.2.1
        have e1 : lnu + 1 = nI (m + 1) := by rw [em]; exact nI_s1 m
        rw [e1, (on_fill_I (4 - on.length) (DL.length + 1) (m + 1) on hD0.2.2.1.1).2.1]
        omega
      refine P_publish hJ hn (by omega) (by omega) hp eD hst hD (fun hc B2 hJ2 => ⟨rfl, JI_mk hJ2 (hIA.1 hc) (IC_mid hbb hck (hL2)) hK (by rw [List.append_assoc]; exact IS_com0 hS ([(nI p, 1)] ++ List.replicate (4 - on.length) (nI p, 0)) hp (by omega) hPp hDv hdk rfl (fun m hm => wl_lo _ _ _ _ hm) rfl)⟩) (fun hc B2 hJ2 => ⟨rfl, JI_mk hJ2 (hIA.2 (by rw [hc]; decide)) (IC_mid hbb hck (hL2)) (IK_all hK (fun _ h => h) hid (fun e he => Or.inl he) (fun i => Or.inl rfl)) (by rw [List.append_assoc]; exact IS_com1 hS ([(nI p, 1)] ++ List.replicate (4 - on.length) (nI p, 0)) hp (by omega) hPp hDv hdk rfl (fun m hm => wl_lo _ _ _ _ hm) rfl)⟩) (fun hc B2 hJ2 => ⟨rfl, JI_mk hJ2 (hIA.2 (by rw [hc]; decide)) (IC_mid hbb hck (hL2)) (IK_all hK (fun y h => Or.inl (Or.inl h)) hid (fun e he => Or.inl he) (fun i => ?_)) (IS_give (by rw [List.append_assoc]; exact IS_com1 hS ([(nI p, 1)] ++ List.replicate (4 - on.length) (nI p, 0)) hp (by omega) hPp hDv hdk rfl (fun m hm => wl_lo _ _ _ _ hm) rfl) (fun V hV Z GF PF hSI y hy => ?_))⟩)
      · rcases an_dir_at p (nI p) (on_fill (nI p) (4 - on.length) (DL.length + 1) (lnu + 1) on).1 0 (fset dir (p * 5 + 0) (Tsg id (Trw 1 (nI p) (lnu + 1) 0 0 (Tpub (Tsec (nI DL.length) (nI p) 1)) tz tz tz))) i (by omega) with q | ⟨q1, e, q2, q3⟩
        · by_cases z : i = p * 5 + 0
          · refine Or.inr (Or.inr ⟨by omega, ?_⟩)
            rw [q, z, fset_same]
            exact Kn_G (Or.inl (Or.inr ⟨rfl, tn_ne⟩))
          · rw [fset_ne z] at q
            exact Or.inl q
        · refine Or.inr (Or.inr ⟨q1, ?_⟩)
          rw [q3]
          exact Kn_G (Or.inr (List.mem_map.mpr ⟨e, q2, rfl⟩))
      · rcases hy with (hy | ⟨hy, -⟩) | hy
        · exact Or.inl hy
        · right
          rw [hy, eid]
          exact Pub_sg (Pub_rw Pub_pub Pub_tz Pub_tz Pub_tz) (Or.inr (Sg_pre hV hp))
        · right
          obtain ⟨e, -, rfl⟩ := List.mem_map.mp hy
          exact Pub_rw Pub_pub Pub_tz Pub_tz Pub_tz
    · exact P_publishD hJ hn (by omega) (by omega) (by rw [hst]) hp (fun B2 hJ2 => ⟨rfl, JI_mk hJ2 (IA_same hA) (IC_tick hC) (hK) (IS_same hS (by omega) rfl rfl rfl)⟩)
  · have hxp := Bool.eq_false_iff.mpr hxp
    exact P_publishB hJ hn hxp (fun B2 hJ2 => ⟨rfl, JI_mk hJ2 (IA_same hA) (IC_tick hC) (hK) (IS_same hS (by omega) rfl rfl rfl)⟩)
set_option maxRecDepth 100000 in
theorem C_list {sc : tm_X} {d N S n : Nat} {B : bm_H} (hn : n < 64) (h : JI N S n B) (x k : Int32) : PR sc (d + 12) 94 226 [.int x, .int k] B (CQ N S n) := by
  obtain ⟨DL, dev, sto, ws, dir, reg, seen, G, ⟨Lc, bdc, llc, tcc, tlc, tfc, tgc, cfc, cgc, ctc, coc, lic, foc, dbc⟩, ls, lo, ⟨dt, db, rt, fl, ll, tl, tf, tg, tm, ck, fo, du⟩, hJ, hA, hC, hK, hS⟩ := h
  have hb1 : DL.length ≤ 1400 := by have := hA.2.1; omega
  have hb2 : ws.length ≤ 450 := by have := hA.2.2.1; omega
  have hb3 : ls.length < 70 := by have := hA.2.2.2; omega
  by_cases hk0 : k < 0
  · exact P_listB hJ hn (Or.inr (Or.inl hk0)) (fun B2 hJ2 => ⟨rfl, JI_mk hJ2 (IA_same hA) (IC_tick hC) (hK) (IS_same hS (by omega) rfl rfl rfl)⟩)
  by_cases hk6 : 64 ≤ k
  · exact P_listB hJ hn (Or.inr (Or.inr hk6)) (fun B2 hJ2 => ⟨rfl, JI_mk hJ2 (IA_same hA) (IC_tick hC) (hK) (IS_same hS (by omega) rfl rfl rfl)⟩)
  by_cases hx : inR x 4 = true
  · obtain ⟨p, hp4, rfl⟩ := inR_of (n := 4) (by decide) hx
    have hp : p < 6 := by omega
    obtain ⟨id, K0, K1, on, lnu, se, me, eD⟩ : ∃ a1 a2 a3 a4 a5 a6 a7, dev p = (a1, a2, a3, a4, a5, a6, a7) := ⟨_, _, _, _, _, _, _, rfl⟩
    obtain ⟨p0, P, O, c, dn, hst⟩ : ∃ a1 a2 a3 a4 a5, sto p = (a1, a2, a3, a4, a5) := ⟨_, _, _, _, _, rfl⟩
    have hD := (hA.1 p hp).1
    cases dn
    · have hO := J_O hJ hp hst
      subst hO
      obtain ⟨ve, ma, go, ge, ch, si, ix, ga, sl, gv, eM⟩ : ∃ a1 a2 a3 a4 a5 a6 a7 a8 a9 a10, me p = (a1, a2, a3, a4, a5, a6, a7, a8, a9, a10) := ⟨_, _, _, _, _, _, _, _, _, _, rfl⟩
      have hD0 := hD
      rw [eD] at hD0
      have hD1 := DVI_list (by omega) k hD0
      rw [eM] at hD1
      have hIA := fun ws' (hw : ws'.length ≤ ws.length + 7) => IA_com (DL' := DL) (ws' := ws') (ls' := ls) hA hp hst hD1 (by omega) hw (by omega)
      have hid : ∀ q, q < 6 → (fset dev p (id, K0, K1, on, lnu, se, fset me p (mm_adopt (ve, ma, go, ge, ch, si, ix, ga, sl, gv) (ve + 1) k)) q).1 = (dev q).1 := fset_id1 (by rw [eD])
      have hPp : P = dv_en (dev p) := by have := (hA.1 p hp).2; rw [hst] at this; exact this
      have hIp := hS.1.2 p hp
      have hDv : hbit k (nI p) = true → IVd p (n + 1) DL ls (id, K0, K1, on, lnu, se, fset me p (mm_adopt (ve, ma, go, ge, ch, si, ix, ga, sl, gv) (ve + 1) k)) := fun hb => by
        have h1 := IVd_mono (n' := n + 1) (E := []) (by omega) (by omega) (lsx_rfl DL ls) hIp
        rw [List.append_nil, eD] at h1
        have h2 := IVd_list (v := (me p).1 + 1) hp4 (msk_bits hk0 hk6) hb h1
        rw [eM] at h2
        exact h2
      have hdk : ∀ V, (∀ p, V p → p < 6) → ∀ Z GF PF, SI V Z GF PF DL dev sto G ls → dok V Z GF PF ls p (id, K0, K1, on, lnu, se, fset me p (mm_adopt (ve, ma, go, ge, ch, si, ix, ga, sl, gv) (ve + 1) k)) := fun V hV Z GF PF hSI => by
        have h2 := dok_me (g := p) (v := (me p).1 + 1) (k := k) hSI hp hIp eD
        rw [eM] at h2
        exact h2
      refine P_list hJ hn (by omega) (by omega) hp4 hk0 hk6 rfl eD eM hst hD (fun _ => (fun B2 hJ2 => ⟨rfl, JI_mk hJ2 (IA_same hA) (IC_tick hC) (hK) (IS_same hS (by omega) rfl rfl rfl)⟩)) (fun hb _ hc B2 hJ2 => ⟨rfl, JI_mk hJ2 ((hIA ws (by omega)).1 hc) (IC_tick hC) hK (IS_comN0 hS hp (by omega) hPp (hDv hb) hdk rfl (fun _ _ => rfl) rfl)⟩) (fun hb _ hc B2 hJ2 => ⟨rfl, JI_mk hJ2 ((hIA ws (by omega)).2 (by rw [hc]; decide)) (IC_tick hC) (IK_all hK (fun _ h => h) hid (fun e he => Or.inl he) (fun i => Or.inl rfl)) (IS_comN1 hS hp (by omega) hPp (hDv hb) hdk rfl (fun _ _ => rfl) rfl)⟩) (fun hb _ hc B2 hJ2 => ⟨rfl, JI_mk hJ2 ((hIA (ws ++ [((Tsg id (Trw 6 (nI p) (ve + 1) k 0 tz tz tz tz)), -1)]) (by simp only [List.length_append, List.length_cons, List.length_nil]; omega)).2 (by rw [hc]; decide)) (IC_tick hC) (IK_all hK (fun y h => Or.inl h) hid (fun e he => ?_) (fun i => Or.inl rfl)) (IS_give (IS_comN1 hS hp (by omega) hPp (hDv hb) hdk rfl (fun _ _ => rfl) rfl) (fun V hV Z GF PF hSI y hy => hy.imp (fun z => z) (fun z => by rw [z]; exact Pub_sg (Pub_rw Pub_tz Pub_tz Pub_tz Pub_tz) (Or.inr (Sg_not (Or.inl (by show ¬ (6 : Int32) = 1; decide)))))))⟩)
      rcases List.mem_append.mp he with he | he
      · exact Or.inl he
      · rw [List.mem_singleton.mp he]; exact Or.inr (Kn_G (Or.inr rfl))
    · exact P_listD hJ hn (by omega) (by omega) (by rw [hst]) hp4 hp hk0 hk6 (fun B2 hJ2 => ⟨rfl, JI_mk hJ2 (IA_same hA) (IC_tick hC) (hK) (IS_same hS (by omega) rfl rfl rfl)⟩)
  · exact P_listB hJ hn (Or.inl (Bool.eq_false_iff.mpr hx)) (fun B2 hJ2 => ⟨rfl, JI_mk hJ2 (IA_same hA) (IC_tick hC) (hK) (IS_same hS (by omega) rfl rfl rfl)⟩)
