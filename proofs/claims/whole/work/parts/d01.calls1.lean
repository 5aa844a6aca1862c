/-! Every call is answered alike, and keeps what holds -/
def JI (N S n : Nat) (B : bm_H) : Prop := ∃ (DL : List (Int32 × Int32)) (dev : Nat → DV) (sto : Nat → ST) (ws : List (Tm × Int32)) (dir reg : Nat → Tm) (seen : List Tm) (G : Tm → Prop) (L : LG) (ls : List RL) (lo : Nat → Int32) (R : RR), J N S n B DL dev sto ws dir reg seen G L ls lo R ∧ IA n DL dev sto ws ls ∧ IC n DL L ls lo R ∧ IK dev ws dir reg seen G ∧ IS n DL dev sto G L ls R
def CQ (N S n : Nat) : Int32 → Int32 → bm_H → Prop := fun a b B2 => a = b ∧ JI N S (n + 1) B2
theorem JI_mk {N S n : Nat} {B : bm_H} {DL : List (Int32 × Int32)} {dev : Nat → DV} {sto : Nat → ST} {ws : List (Tm × Int32)} {dir reg : Nat → Tm} {seen : List Tm} {G : Tm → Prop} {L : LG} {ls : List RL} {lo : Nat → Int32} {R : RR} (h1 : J N S n B DL dev sto ws dir reg seen G L ls lo R) (h2 : IA n DL dev sto ws ls) (h3 : IC n DL L ls lo R) (h4 : IK dev ws dir reg seen G) (h5 : IS n DL dev sto G L ls R) : JI N S n B := ⟨DL, dev, sto, ws, dir, reg, seen, G, L, ls, lo, R, h1, h2, h3, h4, h5⟩
set_option maxRecDepth 100000 in
theorem C_same {sc : tm_X} {d N S n : Nat} {B : bm_H} (hn : n < 64) (h : JI N S n B) (x y : Int32) : PR sc (d + 12) 155 267 [.int x, .int y] B (CQ N S n) := by
  obtain ⟨DL, dev, sto, ws, dir, reg, seen, G, ⟨Lc, bdc, llc, tcc, tlc, tfc, tgc, cfc, cgc, ctc, coc, lic, foc, dbc⟩, ls, lo, ⟨dt, db, rt, fl, ll, tl, tf, tg, tm, ck, fo, du⟩, hJ, hA, hC, hK, hS⟩ := h
  have hb1 : DL.length ≤ 1400 := by have := hA.2.1; omega
  have hb2 : ws.length ≤ 450 := by have := hA.2.2.1; omega
  have hb3 : ls.length < 70 := by have := hA.2.2.2; omega
  exact P_same hJ hn (fun B2 hJ2 => ⟨rfl, JI_mk hJ2 (IA_same hA) (IC_same hC) (hK) (IS_same hS (by omega) rfl rfl rfl)⟩)
set_option maxRecDepth 100000 in
theorem C_about {sc : tm_X} {d N S n : Nat} {B : bm_H} (hn : n < 64) (h : JI N S n B) (x y : Int32) : PR sc (d + 12) 156 268 [.int x, .int y] B (CQ N S n) := by
  obtain ⟨DL, dev, sto, ws, dir, reg, seen, G, ⟨Lc, bdc, llc, tcc, tlc, tfc, tgc, cfc, cgc, ctc, coc, lic, foc, dbc⟩, ls, lo, ⟨dt, db, rt, fl, ll, tl, tf, tg, tm, ck, fo, du⟩, hJ, hA, hC, hK, hS⟩ := h
  have hb1 : DL.length ≤ 1400 := by have := hA.2.1; omega
  have hb2 : ws.length ≤ 450 := by have := hA.2.2.1; omega
  have hb3 : ls.length < 70 := by have := hA.2.2.2; omega
  exact P_about hJ hn (fun B2 hJ2 => ⟨rfl, JI_mk hJ2 (IA_same hA) (IC_same hC) (hK) (IS_same hS (by omega) rfl rfl rfl)⟩)
set_option maxRecDepth 100000 in
theorem C_letter {sc : tm_X} {d N S n : Nat} {B : bm_H} (hn : n < 64) (h : JI N S n B) (x : Int32) : PR sc (d + 12) 159 277 [.int x] B (CQ N S n) := by
  obtain ⟨DL, dev, sto, ws, dir, reg, seen, G, ⟨Lc, bdc, llc, tcc, tlc, tfc, tgc, cfc, cgc, ctc, coc, lic, foc, dbc⟩, ls, lo, ⟨dt, db, rt, fl, ll, tl, tf, tg, tm, ck, fo, du⟩, hJ, hA, hC, hK, hS⟩ := h
  have hb1 : DL.length ≤ 1400 := by have := hA.2.1; omega
  have hb2 : ws.length ≤ 450 := by have := hA.2.2.1; omega
  have hb3 : ls.length < 70 := by have := hA.2.2.2; omega
  exact P_letter hJ hn (fun B2 hJ2 => ⟨rfl, JI_mk hJ2 (IA_same hA) (IC_same hC) (hK) (IS_same hS (by omega) rfl rfl rfl)⟩)
set_option maxRecDepth 100000 in
theorem C_count {sc : tm_X} {d N S n : Nat} {B : bm_H} (hn : n < 64) (h : JI N S n B) (x : Int32) : PR sc (d + 12) 170 282 [.int x] B (CQ N S n) := by
  obtain ⟨DL, dev, sto, ws, dir, reg, seen, G, ⟨Lc, bdc, llc, tcc, tlc, tfc, tgc, cfc, cgc, ctc, coc, lic, foc, dbc⟩, ls, lo, ⟨dt, db, rt, fl, ll, tl, tf, tg, tm, ck, fo, du⟩, hJ, hA, hC, hK, hS⟩ := h
  have hb1 : DL.length ≤ 1400 := by have := hA.2.1; omega
  have hb2 : ws.length ≤ 450 := by have := hA.2.2.1; omega
  have hb3 : ls.length < 70 := by have := hA.2.2.2; omega
  have hll : Lc.length = ls.length := by obtain ⟨b, -, -, hL⟩ := hC; exact hL.1.1.1
  exact P_count hJ hn hll (fun B2 hJ2 => ⟨rfl, JI_mk hJ2 (IA_same hA) (IC_same hC) (hK) (IS_same hS (by omega) rfl rfl rfl)⟩)
set_option maxRecDepth 100000 in
theorem C_forged {sc : tm_X} {d N S n : Nat} {B : bm_H} (hn : n < 64) (h : JI N S n B) : PR sc (d + 12) 171 283 [] B (CQ N S n) := by
  obtain ⟨DL, dev, sto, ws, dir, reg, seen, G, ⟨Lc, bdc, llc, tcc, tlc, tfc, tgc, cfc, cgc, ctc, coc, lic, foc, dbc⟩, ls, lo, ⟨dt, db, rt, fl, ll, tl, tf, tg, tm, ck, fo, du⟩, hJ, hA, hC, hK, hS⟩ := h
  have hb1 : DL.length ≤ 1400 := by have := hA.2.1; omega
  have hb2 : ws.length ≤ 450 := by have := hA.2.2.1; omega
  have hb3 : ls.length < 70 := by have := hA.2.2.2; omega
  have e : foc = fo := by obtain ⟨b, -, -, hL⟩ := hC; exact hL.2.2.2.2.1
  exact P_forged hJ hn (fun B2 hJ2 => ⟨e, JI_mk hJ2 (IA_same hA) (IC_same hC) (hK) (IS_same hS (by omega) rfl rfl rfl)⟩)
set_option maxRecDepth 100000 in
theorem C_doubled {sc : tm_X} {d N S n : Nat} {B : bm_H} (hn : n < 64) (h : JI N S n B) : PR sc (d + 12) 172 284 [] B (CQ N S n) := by
  obtain ⟨DL, dev, sto, ws, dir, reg, seen, G, ⟨Lc, bdc, llc, tcc, tlc, tfc, tgc, cfc, cgc, ctc, coc, lic, foc, dbc⟩, ls, lo, ⟨dt, db, rt, fl, ll, tl, tf, tg, tm, ck, fo, du⟩, hJ, hA, hC, hK, hS⟩ := h
  have hb1 : DL.length ≤ 1400 := by have := hA.2.1; omega
  have hb2 : ws.length ≤ 450 := by have := hA.2.2.1; omega
  have hb3 : ls.length < 70 := by have := hA.2.2.2; omega
  have e : dbc = du := by obtain ⟨b, -, -, hL⟩ := hC; exact hL.2.2.2.2.2
  exact P_doubled hJ hn (fun B2 hJ2 => ⟨e, JI_mk hJ2 (IA_same hA) (IC_same hC) (hK) (IS_same hS (by omega) rfl rfl rfl)⟩)
set_option maxRecDepth 100000 in
theorem C_taken {sc : tm_X} {d N S n : Nat} {B : bm_H} (hn : n < 64) (h : JI N S n B) (y x : Int32) : PR sc (d + 12) 160 278 [.int y, .int x] B (CQ N S n) := by
  obtain ⟨DL, dev, sto, ws, dir, reg, seen, G, ⟨Lc, bdc, llc, tcc, tlc, tfc, tgc, cfc, cgc, ctc, coc, lic, foc, dbc⟩, ls, lo, ⟨dt, db, rt, fl, ll, tl, tf, tg, tm, ck, fo, du⟩, hJ, hA, hC, hK, hS⟩ := h
  have hb1 : DL.length ≤ 1400 := by have := hA.2.1; omega
  have hb2 : ws.length ≤ 450 := by have := hA.2.2.1; omega
  have hb3 : ls.length < 70 := by have := hA.2.2.2; omega
  by_cases hxp : inR y 6 = true
  · obtain ⟨p, hp, rfl⟩ := inR_of (n := 6) (by decide) hxp
    have ha : lg_last tcc tlc tfc tgc p x = (if x = 0 then tl p else if x = 1 then tf p else if x = 2 then tg p else if x = 3 then tm p else -1) := by
      obtain ⟨b, hb, -, hL⟩ := hC
      obtain ⟨⟨k, a1, a2⟩, a3, a4, a5⟩ := hL.2.1 p hp
      unfold lg_last
      by_cases x3 : x = 3
      · subst x3
        rw [if_pos rfl, if_neg (by decide), if_neg (by decide), if_neg (by decide), if_pos rfl]
        exact a3.symm
      · rw [if_neg x3]
        by_cases z : tcc p = 0
        · obtain ⟨b1, b2, b3⟩ := a4 z
          rw [if_pos z]
          split
          · exact b1.symm
          · split
            · exact b2.symm
            · split
              · exact b3.symm
              · first | rw [if_neg x3] | rfl
        · obtain ⟨b1, b2, b3⟩ := a5 z
          rw [if_neg z]
          split
          · exact b1
          · split
            · exact b2
            · split
              · exact b3
              · first | rw [if_neg x3] | rfl
    exact P_taken hJ hn hp (fun B2 hJ2 => ⟨ha, JI_mk hJ2 (IA_same hA) (IC_same hC) (hK) (IS_same hS (by omega) rfl rfl rfl)⟩)
  · have hxp := Bool.eq_false_iff.mpr hxp
    exact P_takenB hJ hn hxp (fun B2 hJ2 => ⟨rfl, JI_mk hJ2 (IA_same hA) (IC_same hC) (hK) (IS_same hS (by omega) rfl rfl rfl)⟩)
set_option maxRecDepth 100000 in
theorem C_device {sc : tm_X} {d N S n : Nat} {B : bm_H} (hn : n < 64) (h : JI N S n B) (y x : Int32) : PR sc (d + 12) 162 279 [.int y, .int x] B (CQ N S n) := by
  obtain ⟨DL, dev, sto, ws, dir, reg, seen, G, ⟨Lc, bdc, llc, tcc, tlc, tfc, tgc, cfc, cgc, ctc, coc, lic, foc, dbc⟩, ls, lo, ⟨dt, db, rt, fl, ll, tl, tf, tg, tm, ck, fo, du⟩, hJ, hA, hC, hK, hS⟩ := h
  have hb1 : DL.length ≤ 1400 := by have := hA.2.1; omega
  have hb2 : ws.length ≤ 450 := by have := hA.2.2.1; omega
  have hb3 : ls.length < 70 := by have := hA.2.2.2; omega
  by_cases hxp : inR y 6 = true
  · obtain ⟨p, hp, rfl⟩ := inR_of (n := 6) (by decide) hxp
    obtain ⟨id, K0, K1, on, lnu, se, me, eD⟩ : ∃ a1 a2 a3 a4 a5 a6 a7, dev p = (a1, a2, a3, a4, a5, a6, a7) := ⟨_, _, _, _, _, _, _, rfl⟩
    obtain ⟨p0, P, O, c, dn, hst⟩ : ∃ a1 a2 a3 a4 a5, sto p = (a1, a2, a3, a4, a5) := ⟨_, _, _, _, _, rfl⟩
    have hD := (hA.1 p hp).1
    have hP := (hA.1 p hp).2
    rw [hst, eD] at hP
    have hP : P = dv_en (id, K0, K1, on, lnu, se, me) := hP
    have hD2 := hD
    rw [eD] at hD2
    exact P_device hJ hn hp eD hst hD2.2.1.1.1 hD2.2.1.2.1 (by rw [hP]) (fun B2 hJ2 => ⟨rfl, JI_mk hJ2 (IA_same hA) (IC_same hC) (hK) (IS_same hS (by omega) rfl rfl rfl)⟩)
  · have hxp := Bool.eq_false_iff.mpr hxp
    exact P_deviceB hJ hn hxp (fun B2 hJ2 => ⟨rfl, JI_mk hJ2 (IA_same hA) (IC_same hC) (hK) (IS_same hS (by omega) rfl rfl rfl)⟩)
set_option maxRecDepth 100000 in
theorem C_session {sc : tm_X} {d N S n : Nat} {B : bm_H} (hn : n < 64) (h : JI N S n B) (y z k x : Int32) : PR sc (d + 12) 165 280 [.int y, .int z, .int k, .int x] B (CQ N S n) := by
  obtain ⟨DL, dev, sto, ws, dir, reg, seen, G, ⟨Lc, bdc, llc, tcc, tlc, tfc, tgc, cfc, cgc, ctc, coc, lic, foc, dbc⟩, ls, lo, ⟨dt, db, rt, fl, ll, tl, tf, tg, tm, ck, fo, du⟩, hJ, hA, hC, hK, hS⟩ := h
  have hb1 : DL.length ≤ 1400 := by have := hA.2.1; omega
  have hb2 : ws.length ≤ 450 := by have := hA.2.2.1; omega
  have hb3 : ls.length < 70 := by have := hA.2.2.2; omega
  by_cases hxp : inR y 6 = true
  · obtain ⟨p, hp, rfl⟩ := inR_of (n := 6) (by decide) hxp
    by_cases hxq : inR z 6 = true
    · obtain ⟨q, hq, rfl⟩ := inR_of (n := 6) (by decide) hxq
      obtain ⟨id, K0, K1, on, lnu, se, me, eD⟩ : ∃ a1 a2 a3 a4 a5 a6 a7, dev p = (a1, a2, a3, a4, a5, a6, a7) := ⟨_, _, _, _, _, _, _, rfl⟩
      obtain ⟨p0, P, O, c, dn, hst⟩ : ∃ a1 a2 a3 a4 a5, sto p = (a1, a2, a3, a4, a5) := ⟨_, _, _, _, _, rfl⟩
      have hD := (hA.1 p hp).1
      have hP := (hA.1 p hp).2
      by_cases hpq : p = q
      · subst hpq
        rw [eD] at hD
        exact P_session1 hJ hn hp eD (DVI_sei hD).1 (fun B2 hJ2 => ⟨rfl, JI_mk hJ2 (IA_same hA) (IC_same hC) (hK) (IS_same hS (by omega) rfl rfl rfl)⟩)
      · exact P_session hJ hn hp hq hpq eD (fun B2 hJ2 => ⟨rfl, JI_mk hJ2 (IA_same hA) (IC_same hC) (hK) (IS_same hS (by omega) rfl rfl rfl)⟩)
    · have hxq := Bool.eq_false_iff.mpr hxq
      exact P_sessionB hJ hn (Or.inr hxq) (fun B2 hJ2 => ⟨rfl, JI_mk hJ2 (IA_same hA) (IC_same hC) (hK) (IS_same hS (by omega) rfl rfl rfl)⟩)
  · have hxp := Bool.eq_false_iff.mpr hxp
    exact P_sessionB hJ hn (Or.inl hxp) (fun B2 hJ2 => ⟨rfl, JI_mk hJ2 (IA_same hA) (IC_same hC) (hK) (IS_same hS (by omega) rfl rfl rfl)⟩)
set_option maxRecDepth 100000 in
theorem C_group {sc : tm_X} {d N S n : Nat} {B : bm_H} (hn : n < 64) (h : JI N S n B) (y z x : Int32) : PR sc (d + 12) 167 281 [.int y, .int z, .int x] B (CQ N S n) := by
  obtain ⟨DL, dev, sto, ws, dir, reg, seen, G, ⟨Lc, bdc, llc, tcc, tlc, tfc, tgc, cfc, cgc, ctc, coc, lic, foc, dbc⟩, ls, lo, ⟨dt, db, rt, fl, ll, tl, tf, tg, tm, ck, fo, du⟩, hJ, hA, hC, hK, hS⟩ := h
  have hb1 : DL.length ≤ 1400 := by have := hA.2.1; omega
  have hb2 : ws.length ≤ 450 := by have := hA.2.2.1; omega
  have hb3 : ls.length < 70 := by have := hA.2.2.2; omega
  by_cases hxp : inR y 6 = true
  · obtain ⟨p, hp, rfl⟩ := inR_of (n := 6) (by decide) hxp
    by_cases hxg : inR z 4 = true
    · obtain ⟨g, hg, rfl⟩ := inR_of (n := 4) (by decide) hxg
      obtain ⟨id, K0, K1, on, lnu, se, me, eD⟩ : ∃ a1 a2 a3 a4 a5 a6 a7, dev p = (a1, a2, a3, a4, a5, a6, a7) := ⟨_, _, _, _, _, _, _, rfl⟩
      obtain ⟨p0, P, O, c, dn, hst⟩ : ∃ a1 a2 a3 a4 a5, sto p = (a1, a2, a3, a4, a5) := ⟨_, _, _, _, _, rfl⟩
      have hD := (hA.1 p hp).1
      have hP := (hA.1 p hp).2
      exact P_group hJ hn hp hg eD (fun B2 hJ2 => ⟨rfl, JI_mk hJ2 (IA_same hA) (IC_same hC) (hK) (IS_same hS (by omega) rfl rfl rfl)⟩)
    · have hxg := Bool.eq_false_iff.mpr hxg
      exact P_groupB hJ hn (Or.inr hxg) (fun B2 hJ2 => ⟨rfl, JI_mk hJ2 (IA_same hA) (IC_same hC) (hK) (IS_same hS (by omega) rfl rfl rfl)⟩)
  · have hxp := Bool.eq_false_iff.mpr hxp
    exact P_groupB hJ hn (Or.inl hxp) (fun B2 hJ2 => ⟨rfl, JI_mk hJ2 (IA_same hA) (IC_same hC) (hK) (IS_same hS (by omega) rfl rfl rfl)⟩)
set_option maxRecDepth 100000 in
theorem C_derived {sc : tm_X} {d N S n : Nat} {B : bm_H} (hn : n < 64) (h : JI N S n B) (x : Int32) : PR sc (d + 12) 157 269 [.int x] B (CQ N S n) := by
  obtain ⟨DL, dev, sto, ws, dir, reg, seen, G, ⟨Lc, bdc, llc, tcc, tlc, tfc, tgc, cfc, cgc, ctc, coc, lic, foc, dbc⟩, ls, lo, ⟨dt, db, rt, fl, ll, tl, tf, tg, tm, ck, fo, du⟩, hJ, hA, hC, hK, hS⟩ := h
  have hb1 : DL.length ≤ 1400 := by have := hA.2.1; omega
  have hb2 : ws.length ≤ 450 := by have := hA.2.2.1; omega
  have hb3 : ls.length < 70 := by have := hA.2.2.2; omega
  have hll : Lc.length = ls.length := by obtain ⟨b, -, -, hL⟩ := hC; exact hL.1.1.1
  by_cases hx : inR x (nI ls.length) = true
  · obtain ⟨i, hi, rfl⟩ := inR_of (by omega) hx
    have hto : ∀ (i : Nat) (e : LT) (r : RL), Lc[i]? = some e → ls[i]? = some r → e.1 = r.1 ∧ kd r.1 = 1 := fun i e r he hr => by
      obtain ⟨b, -, -, hL⟩ := hC
      have h2 := hL.1.1.2 i e r he hr
      obtain ⟨se, fm, to, gr, ma, on, mi, th, tk, sf⟩ := e
      obtain ⟨se', fm', to', on', mi', th', ma', gf, tks⟩ := r
      obtain ⟨⟨a1, -, s, -, -, m, -, a2⟩, -⟩ := h2
      have a1 : se' = se := a1
      exact ⟨a1.symm, by show kd se' = 1; rw [a1, a2]; rfl⟩
    have kall : ∀ r, r ∈ ls → kd r.1 = 1 := fun r hr => by
      obtain ⟨i, hi⟩ := List.getElem?_of_mem hr
      have hl := (List.getElem?_eq_some_iff.mp hi).1
      obtain ⟨e, he⟩ : ∃ e, Lc[i]? = some e := ⟨_, List.getElem?_eq_getElem (by omega)⟩
      exact (hto i e r he hi).2
    obtain ⟨e, he⟩ : ∃ e, Lc[i]? = some e := ⟨_, List.getElem?_eq_getElem (by omega)⟩
    obtain ⟨r, hr⟩ : ∃ r, ls[i]? = some r := ⟨_, List.getElem?_eq_getElem hi⟩
    exact P_derived hJ hn hll (by omega) kall he hr (hto i e r he hr).1 (fun B2 hJ2 => ⟨rfl, JI_mk hJ2 (IA_same hA) (IC_same hC) (hK) (IS_same hS (by omega) rfl rfl rfl)⟩)
  · exact P_derivedB hJ hn hll (Bool.eq_false_iff.mpr hx) (fun B2 hJ2 => ⟨rfl, JI_mk hJ2 (IA_same hA) (IC_same hC) (hK) (IS_same hS (by omega) rfl rfl rfl)⟩)
set_option maxRecDepth 100000 in
theorem C_leaked {sc : tm_X} {d N S n : Nat} {B : bm_H} (hn : n < 64) (h : JI N S n B) : PR sc (d + 12) 173 285 [] B (CQ N S n) := by
  obtain ⟨DL, dev, sto, ws, dir, reg, seen, G, ⟨Lc, bdc, llc, tcc, tlc, tfc, tgc, cfc, cgc, ctc, coc, lic, foc, dbc⟩, ls, lo, ⟨dt, db, rt, fl, ll, tl, tf, tg, tm, ck, fo, du⟩, hJ, hA, hC, hK, hS⟩ := h
  have hb1 : DL.length ≤ 1400 := by have := hA.2.1; omega
  have hb2 : ws.length ≤ 450 := by have := hA.2.2.1; omega
  have hb3 : ls.length < 70 := by have := hA.2.2.2; omega
  have hll : Lc.length = ls.length := by obtain ⟨b, -, -, hL⟩ := hC; exact hL.1.1.1
  have hto : ∀ (i : Nat) (e : LT) (r : RL), Lc[i]? = some e → ls[i]? = some r → ((e.2.2.2.1 = -1 → ∃ q, q < 6 ∧ e.2.2.1 = nI q) ∧ ∃ r, r < 6 ∧ e.2.1 = nI r) ∧ ((∃ s, s < 6 ∧ r.2.1 = nI s) ∧ (r.2.2.1 < 16 → (∃ q, q < 6 ∧ r.2.2.1 = nI q) ∧ kd r.2.2.2.2.1 = 1 ∧ kd r.2.2.2.2.2.1 = 1) ∧ kd r.1 = 1) ∧ e.1 = r.1 := fun i e r he hr => by
    obtain ⟨b, -, -, hL⟩ := hC
    have h2 := hL.1.1.2 i e r he hr
    obtain ⟨se, fm, to, gr, ma, on, mi, th, tk, sf⟩ := e
    obtain ⟨se', fm', to', on', mi', th', ma', gf, tks⟩ := r
    obtain ⟨⟨a1, a0, s, hs, a3, m, -, a2⟩, a4, -⟩ := h2
    have a1 : se' = se := a1
    refine ⟨⟨fun hg => ?_, s, hs, a3⟩, ⟨⟨s, hs, a0.trans a3⟩, fun h16 => ?_, by show kd se' = 1; rw [a1, a2]; rfl⟩, a1.symm⟩
    · rcases a4 with ⟨-, a5, -⟩ | ⟨g, hg4, a5, -⟩
      · exact a5
      · exact absurd (a5.symm.trans hg) (nI_nm1 (by omega))
    · rcases a4 with ⟨-, ⟨d, hd, a5⟩, a6, -, a7, a8, ⟨m1, d1, p1, -, a9⟩, ⟨m2, d2, p2, -, a10⟩, -⟩ | ⟨g, hg4, -, a5, -⟩
      · exact ⟨⟨d, hd, a6.trans a5⟩, by show kd mi' = 1; rw [a7, a9]; rfl, by show kd th' = 1; rw [a8, a10]; rfl⟩
      · exfalso
        have h16 : to' < 16 := h16
        rw [a5] at h16
        have := Int32.lt_iff_toInt_lt.mp h16
        rw [nI_toInt (by omega)] at this
        exact absurd this (by show ¬ (((16 + g : Nat) : Int) < 16); omega)
  have hpc : ∀ (i : Nat) (e : LT), Lc[i]? = some e → ∃ r, ls[i]? = some r := fun i e he => ⟨_, List.getElem?_eq_getElem (by rw [← hll]; exact (List.getElem?_eq_some_iff.mp he).1)⟩
  have hpr : ∀ (i : Nat) (r : RL), ls[i]? = some r → ∃ e, Lc[i]? = some e := fun i r hr => ⟨_, List.getElem?_eq_getElem (by rw [hll]; exact (List.getElem?_eq_some_iff.mp hr).1)⟩
  have heq : lk_count G llc lic Lc = rl_count G dt db rt fl ll ls := by
    obtain ⟨b, hb, -, hL⟩ := hC
    exact count_eq Lc ls hll (fun i e r he hr => ⟨(hto i e r he hr).2.2, safe_eq hL (by omega) (by omega) (hL.1.1.2 i e r he hr) (hS.2.2 i e r he hr)⟩)
  exact P_leaked hJ hn hll (by omega) (fun i e he => by obtain ⟨r, hr⟩ := hpc i e he; exact (hto i e r he hr).1) (fun i r hr => by obtain ⟨e, he⟩ := hpr i r hr; exact (hto i e r he hr).2.1) (fun B2 hJ2 => ⟨by rw [heq], JI_mk hJ2 (IA_same hA) (IC_same hC) (hK) (IS_same hS (by omega) rfl rfl rfl)⟩)
set_option maxRecDepth 100000 in
theorem C_take {sc : tm_X} {d N S n : Nat} {B : bm_H} (hn : n < 64) (h : JI N S n B) (r a z : Int32) : PR sc (d + 12) 138 256 [.int r, .int a, .int z] B (CQ N S n) := by
  obtain ⟨DL, dev, sto, ws, dir, reg, seen, G, ⟨Lc, bdc, llc, tcc, tlc, tfc, tgc, cfc, cgc, ctc, coc, lic, foc, dbc⟩, ls, lo, ⟨dt, db, rt, fl, ll, tl, tf, tg, tm, ck, fo, du⟩, hJ, hA, hC, hK, hS⟩ := h
  have hb1 : DL.length ≤ 1400 := by have := hA.2.1; omega
  have hb2 : ws.length ≤ 450 := by have := hA.2.2.1; omega
  have hb3 : ls.length < 70 := by have := hA.2.2.2; omega
  have kid : ∀ q, q < 6 → kd ((fun q => (dev q).1) q) = 1 := fun q hq => (hA.1 q hq).1.1
  exact P_take hJ hn kid (fun B2 hJ2 => ⟨rfl, JI_mk hJ2 (IA_same hA) (IC_same hC) (IK_kp hK r (IK_of hK a z)) (IS_same hS (by omega) rfl rfl rfl)⟩)
set_option maxRecDepth 100000 in
theorem C_part {sc : tm_X} {d N S n : Nat} {B : bm_H} (hn : n < 64) (h : JI N S n B) (r x a : Int32) : PR sc (d + 12) 140 257 [.int r, .int x, .int a] B (CQ N S n) := by
  obtain ⟨DL, dev, sto, ws, dir, reg, seen, G, ⟨Lc, bdc, llc, tcc, tlc, tfc, tgc, cfc, cgc, ctc, coc, lic, foc, dbc⟩, ls, lo, ⟨dt, db, rt, fl, ll, tl, tf, tg, tm, ck, fo, du⟩, hJ, hA, hC, hK, hS⟩ := h
  have hb1 : DL.length ≤ 1400 := by have := hA.2.1; omega
  have hb2 : ws.length ≤ 450 := by have := hA.2.2.1; omega
  have hb3 : ls.length < 70 := by have := hA.2.2.2; omega
  exact P_part hJ hn (fun B2 hJ2 => ⟨rfl, JI_mk hJ2 (IA_same hA) (IC_same hC) (IK_kp hK r (IK_pa hK x a)) (IS_same hS (by omega) rfl rfl rfl)⟩)
set_option maxRecDepth 100000 in
theorem C_unseal {sc : tm_X} {d N S n : Nat} {B : bm_H} (hn : n < 64) (h : JI N S n B) (r x k : Int32) : PR sc (d + 12) 141 258 [.int r, .int x, .int k] B (CQ N S n) := by
  obtain ⟨DL, dev, sto, ws, dir, reg, seen, G, ⟨Lc, bdc, llc, tcc, tlc, tfc, tgc, cfc, cgc, ctc, coc, lic, foc, dbc⟩, ls, lo, ⟨dt, db, rt, fl, ll, tl, tf, tg, tm, ck, fo, du⟩, hJ, hA, hC, hK, hS⟩ := h
  have hb1 : DL.length ≤ 1400 := by have := hA.2.1; omega
  have hb2 : ws.length ≤ 450 := by have := hA.2.2.1; omega
  have hb3 : ls.length < 70 := by have := hA.2.2.2; omega
  exact P_unseal hJ hn (fun B2 hJ2 => ⟨rfl, JI_mk hJ2 (IA_same hA) (IC_same hC) (IK_un hK r x k) (IS_same hS (by omega) rfl rfl rfl)⟩)
set_option maxRecDepth 100000 in
theorem C_make {sc : tm_X} {d N S n : Nat} {B : bm_H} (hn : n < 64) (h : JI N S n B) (r a x y : Int32) : PR sc (d + 12) 142 259 [.int r, .int a, .int x, .int y] B (CQ N S n) := by
  obtain ⟨DL, dev, sto, ws, dir, reg, seen, G, ⟨Lc, bdc, llc, tcc, tlc, tfc, tgc, cfc, cgc, ctc, coc, lic, foc, dbc⟩, ls, lo, ⟨dt, db, rt, fl, ll, tl, tf, tg, tm, ck, fo, du⟩, hJ, hA, hC, hK, hS⟩ := h
  have hb1 : DL.length ≤ 1400 := by have := hA.2.1; omega
  have hb2 : ws.length ≤ 450 := by have := hA.2.2.1; omega
  have hb3 : ls.length < 70 := by have := hA.2.2.2; omega
  obtain ⟨C, hPC, -, -, hCr, -⟩ := J_C hJ
  exact P_make hJ hn (fun B2 hJ2 => ⟨rfl, JI_mk hJ2 (IA_same hA) (IC_same hC) (IK_mk hK hPC hCr r a x y) (IS_same hS (by omega) rfl rfl rfl)⟩)
set_option maxRecDepth 100000 in
theorem C_seal {sc : tm_X} {d N S n : Nat} {B : bm_H} (hn : n < 64) (h : JI N S n B) (r k x b : Int32) : PR sc (d + 12) 144 260 [.int r, .int k, .int x, .int b] B (CQ N S n) := by
  obtain ⟨DL, dev, sto, ws, dir, reg, seen, G, ⟨Lc, bdc, llc, tcc, tlc, tfc, tgc, cfc, cgc, ctc, coc, lic, foc, dbc⟩, ls, lo, ⟨dt, db, rt, fl, ll, tl, tf, tg, tm, ck, fo, du⟩, hJ, hA, hC, hK, hS⟩ := h
  have hb1 : DL.length ≤ 1400 := by have := hA.2.1; omega
  have hb2 : ws.length ≤ 450 := by have := hA.2.2.1; omega
  have hb3 : ls.length < 70 := by have := hA.2.2.2; omega
  exact P_seal hJ hn (fun B2 hJ2 => ⟨rfl, JI_mk hJ2 (IA_same hA) (IC_same hC) (IK_sl hK r k x b) (IS_same hS (by omega) rfl rfl rfl)⟩)
set_option maxRecDepth 100000 in
theorem C_alter {sc : tm_X} {d N S n : Nat} {B : bm_H} (hn : n < 64) (h : JI N S n B) (r x k v : Int32) : PR sc (d + 12) 145 261 [.int r, .int x, .int k, .int v] B (CQ N S n) := by
  obtain ⟨DL, dev, sto, ws, dir, reg, seen, G, ⟨Lc, bdc, llc, tcc, tlc, tfc, tgc, cfc, cgc, ctc, coc, lic, foc, dbc⟩, ls, lo, ⟨dt, db, rt, fl, ll, tl, tf, tg, tm, ck, fo, du⟩, hJ, hA, hC, hK, hS⟩ := h
  have hb1 : DL.length ≤ 1400 := by have := hA.2.1; omega
  have hb2 : ws.length ≤ 450 := by have := hA.2.2.1; omega
  have hb3 : ls.length < 70 := by have := hA.2.2.2; omega
  exact P_alter hJ hn (fun B2 hJ2 => ⟨rfl, JI_mk hJ2 (IA_same hA) (IC_same hC) (IK_al hK r x k v) (IS_same hS (by omega) rfl rfl rfl)⟩)
set_option maxRecDepth 100000 in
theorem C_swap {sc : tm_X} {d N S n : Nat} {B : bm_H} (hn : n < 64) (h : JI N S n B) (r x k y : Int32) : PR sc (d + 12) 149 263 [.int r, .int x, .int k, .int y] B (CQ N S n) := by
  obtain ⟨DL, dev, sto, ws, dir, reg, seen, G, ⟨Lc, bdc, llc, tcc, tlc, tfc, tgc, cfc, cgc, ctc, coc, lic, foc, dbc⟩, ls, lo, ⟨dt, db, rt, fl, ll, tl, tf, tg, tm, ck, fo, du⟩, hJ, hA, hC, hK, hS⟩ := h
  have hb1 : DL.length ≤ 1400 := by have := hA.2.1; omega
  have hb2 : ws.length ≤ 450 := by have := hA.2.2.1; omega
  have hb3 : ls.length < 70 := by have := hA.2.2.2; omega
  exact P_swap hJ hn (fun B2 hJ2 => ⟨rfl, JI_mk hJ2 (IA_same hA) (IC_same hC) (IK_sp hK r x k y) (IS_same hS (by omega) rfl rfl rfl)⟩)
