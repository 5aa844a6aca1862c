/-! The joint contracts: send where it begins, post -/
theorem sl_en_len8 {l : List SS} (h2 : l.length ≤ 2) (h : ∀ S, S ∈ l → S.1.2.2.2.length ≤ 8) : (sl_en l).length ≤ 30 := by
  rcases len2 h2 with rfl | ⟨a, rfl⟩ | ⟨a, c, rfl⟩
  · exact Nat.zero_le _
  · have h1 := se_en_len (h a (by simp))
    unfold sl_en
    simp only [List.flatMap_cons, List.flatMap_nil, List.length_append, List.length_nil]
    omega
  · have h1 := se_en_len (h a (by simp))
    have h3 := se_en_len (h c (by simp))
    unfold sl_en
    simp only [List.flatMap_cons, List.flatMap_nil, List.length_append, List.length_nil]
    omega
theorem dv_len {s n : Nat} {id : Tm} {K0 K1 : PK} {on : List (Tm × Int32)} {lnu : Int32} {se se' : Nat → List SS} {me : Nat → MM} (hs : s < 6) (h : DVI s n (id, K0, K1, on, lnu, se, me)) (s1 : se' s = []) (s2 : ∀ p, (se' p).length ≤ 2 ∧ ∀ S, S ∈ se' p → S.1.2.2.2.length ≤ 8) : (dv_en (id, K0, K1, on, lnu, se', me)).length ≤ 536 := by
  obtain ⟨-, ⟨k0, k1⟩, ⟨-, o1⟩, -, -, m1, -⟩ := h
  have g : ∀ p, (sl_en (se' p)).length ≤ 30 := fun p => sl_en_len8 (s2 p).1 (s2 p).2
  have gs : (sl_en (se' s)).length = 0 := by rw [s1]; rfl
  have g0 := g 0
  have g1 := g 1
  have g2 := g 2
  have g3 := g 3
  have g4 := g 4
  have g5 := g 5
  have a0 := mm_en_len hs (m1 0)
  have a1 := mm_en_len hs (m1 1)
  have a2 := mm_en_len hs (m1 2)
  have a3 := mm_en_len hs (m1 3)
  have b0 := pk_en_len k0
  have b1 := pk_en_len k1
  have b2 := on_en_len on
  show ([(id, tz)] ++ pk_en K0 ++ pk_en K1 ++ on_en on ++ sl_en (se' 0) ++ sl_en (se' 1) ++ sl_en (se' 2) ++ sl_en (se' 3) ++ sl_en (se' 4) ++ sl_en (se' 5) ++ mm_en (me 0) ++ mm_en (me 1) ++ mm_en (me 2) ++ mm_en (me 3)).length ≤ 536
  simp only [List.length_append, List.length_cons, List.length_nil]
  rcases (by omega : s = 0 ∨ s = 1 ∨ s = 2 ∨ s = 3 ∨ s = 4 ∨ s = 5) with rfl | rfl | rfl | rfl | rfl | rfl <;> omega
theorem wire_new6 {f : Nat → Int32} {A : Nat → Nat → Int32} {T : List Tm} {DL : List (Int32 × Int32)} {G W : Tm → Prop} {X : Tm} {m : Nat} {a b : Int32} (hM : MT f A T DL G W) (h : G X) (hm : DL.length ≤ m) (e6 : kd X = 6) (e5 : kd (pt X 1) = 5) (eY : pt (pt X 1) 2 = Trw 4 0 0 0 0 (Tsec (nI m) a b) tz tz tz) (hb : m < 3000) : False := by
  have h1 := (hM.2.2.2.2.2.1 X h).1
  obtain ⟨i, hi⟩ := List.getElem?_of_mem h1
  obtain ⟨i2, -, hi2⟩ := MT_two hM hi (Or.inr (Or.inr e6))
  obtain ⟨j, -, hj⟩ := MT_three hM hi2 e5
  rw [eY] at hj
  have h2 := MT_parts hM (List.mem_of_getElem? hj) rfl (k := 0) (by decide)
  obtain ⟨m', d, p, h3, -, h5⟩ := MT_sec hM h2 rfl
  have e := (congrArg mk h5 : nI m = nI m')
  have := hM.1.2.2.2
  have := (nI_eq (by omega) (by omega)).mp e
  omega
theorem ho1_ne {id : Tm} {ids : Nat → Tm} {s g p : Nat} {Y : Tm} {H : HS} {q : Nat} (hq : ((ho1 id ids s g Y p H).1 q).length = 0) : (H.1 q).length = 0 := by
  by_cases c : q = p
  · subst c
    obtain ⟨se, me, dir, dr, wt⟩ := H
    by_cases h : q = s ∨ hbit (me g).2.1 (nI q) = false ∨ hbit (me g).2.2.2.2.2.2.2.1 (nI q) = true
    · rw [ho1_skip (H := (se, me, dir, dr, wt)) h] at hq; exact hq
    · cases hs : se q with
      | nil => show (se q).length = 0; rw [hs]; rfl
      | cons S0 l =>
        have hw : ho_way id ids s q se dir dr = some (se, dir, dr) := by unfold ho_way; rw [hs]
        rw [ho1_some (H := (se, me, dir, dr, wt)) h hw hs] at hq
        have hq : (fset se q (ss_sent (ss_turn S0 (Tsec (nI dr) (nI s) 2)) :: l) q).length = 0 := hq
        rw [fset_same] at hq
        simp at hq
  · rw [ho1_se c] at hq; exact hq
theorem ho_ne {id : Tm} {ids : Nat → Tm} {s g : Nat} {Y : Tm} {q : Nat} : ∀ (n p : Nat) (H : HS), ((ho id ids s g Y n p H).1 q).length = 0 → (H.1 q).length = 0
  | 0, _, _, h => h
  | n + 1, p, H, h => ho1_ne (ho_ne n (p + 1) _ h)
theorem ec_5 {s : Nat} (hs : s < 6) (se : Nat → List SS) : ec s se ≤ 5 := by
  have e : ∀ p, ez s p se ≤ 1 := fun p => by unfold ez; split <;> omega
  have z : ez s s se = 0 := if_neg (fun q => q.1 rfl)
  have e0 := e 0
  have e1 := e 1
  have e2 := e 2
  have e3 := e 3
  have e4 := e 4
  have e5 := e 5
  unfold ec
  rcases six hs with rfl | rfl | rfl | rfl | rfl | rfl <;> omega
theorem ho_dr6 {id : Tm} {ids : Nat → Tm} {s g : Nat} {se : Nat → List SS} {me : Nat → MM} {dir : Nat → Tm} {dr : Nat} : (po_hand id ids s g se me dir dr).2.2.2.1 ≤ dr + 20 := by
  have h := ho_dr (id := id) (ids := ids) (s := s) (g := g) (Y := mm_gift (mm_ren (me g) dr (nI s)) (nI g)) 6 0 (se, fset me g (mm_ren (me g) dr (nI s)), dir, dr_ren (me g) dr, [])
  have h2 : dr_ren (me g) dr ≤ dr + 2 := by unfold dr_ren; split <;> omega
  have h3 : (po_hand id ids s g se me dir dr).2.2.2.1 ≤ dr_ren (me g) dr + 3 * 6 := h
  omega
set_option maxRecDepth 100000 in
theorem P_sendB {sc : tm_X} {d N S n : Nat} {B : bm_H} {DL : List (Int32 × Int32)} {dev : Nat → DV} {sto : Nat → ST} {ws : List (Tm × Int32)} {dir reg : Nat → Tm} {seen : List Tm} {G : Tm → Prop} {ls : List RL} {lo dt db rt fl ll tl tf tg tm : Nat → Int32} {ck fo du : Int32} {Lc : List LT} {bdc llc tcc tlc tfc tgc : Nat → Int32} {cfc cgc : Int32} {ctc : Tm} {coc : Bool} {lic foc dbc : Int32} {id : Tm} {K0 K1 : PK} {on : List (Tm × Int32)} {lnu : Int32} {se : Nat → List SS} {me : Nat → MM} {p0 : Bool} {P : EN2} {c : Option Nat} {s p : Nat} {ids : Nat → Tm} {Q : Int32 → Int32 → bm_H → Prop} (hJ : J N S n B DL dev sto ws dir reg seen G (Lc, bdc, llc, tcc, tlc, tfc, tgc, cfc, cgc, ctc, coc, lic, foc, dbc) ls lo (dt, db, rt, fl, ll, tl, tf, tg, tm, ck, fo, du)) (hn : n < 64) (hdl : DL.length ≤ 2900) (hws : ws.length ≤ 692) (hs : s < 6) (hp : p < 6) (hsp : s ≠ p) (eids : ids = fun q => (dev q).1) (kid : ∀ q, q < 6 → kd (ids q) = 1) (hll : Lc.length = ls.length) (hls : ls.length < 700) (eD : dev s = (id, K0, K1, on, lnu, se, me)) (hse : se p = []) (hst : sto s = (p0, P, [], c, false)) (hD : DVI s n (dev s)) (kN : an_pre dir ids p = tz → ∀ B2, J N S (n + 1) B2 DL dev sto ws dir reg seen G (Lc, bdc, llc, tcc, tlc, tfc, tgc, cfc, cgc, ctc, coc, lic, foc, dbc) ls lo (dt, db, rt, fl, ll, tl, tf, tg, tm, ck + 1, fo, du) → Q (-5) (-5) B2) (k0 : an_pre dir ids p ≠ tz → (st_commit p0 P c (dv_en (id, K0, K1, on, lnu, fset se p (ss_sent (op_ses id (Tsec (nI DL.length) (nI s) 0) (Tsec (nI (DL.length + 1)) (nI s) 2) (ids p) (an_pre dir ids p) (an_once dir p 4 (p * 5 + 1)).1) :: []), me))).1 = 0 → ∀ B2, J N S (n + 1) B2 ((DL ++ [(nI s, 0), (nI s, 2)]) ++ [(nI s, 0)]) dev (fset sto s (st_commit p0 P c (dv_en (id, K0, K1, on, lnu, fset se p (ss_sent (op_ses id (Tsec (nI DL.length) (nI s) 0) (Tsec (nI (DL.length + 1)) (nI s) 2) (ids p) (an_pre dir ids p) (an_once dir p 4 (p * 5 + 1)).1) :: []), me))).2) (ws) ((an_once dir p 4 (p * 5 + 1)).2) reg seen G (Lc, bdc, llc, tcc, tlc, tfc, tgc, cfc, cgc, ctc, coc, lic, foc, dbc) (ls) ((wl (wl lo DL.length [-1, -1]) (List.length (DL ++ [(nI s, 0), (nI s, 2)])) (([(nI (6 + s), false)] : List (Int32 × Bool)).map fun _ => -1))) (wl (wl dt DL.length [ck + 1, ck + 1]) (List.length (DL ++ [(nI s, 0), (nI s, 2)])) (([(nI (6 + s), false)] : List (Int32 × Bool)).map fun _ => (ck + 1)), wl (wl db DL.length [nI s, nI s]) (List.length (DL ++ [(nI s, 0), (nI s, 2)])) (([(nI (6 + s), false)] : List (Int32 × Bool)).map fun (e : Int32 × Bool) => e.1), wl (wl rt DL.length [0, 1]) (List.length (DL ++ [(nI s, 0), (nI s, 2)])) (([(nI (6 + s), false)] : List (Int32 × Bool)).map fun (e : Int32 × Bool) => bz e.2), fl, ll, tl, tf, tg, tm, (ck + 1), fo, du) → Q (-4) (-4) B2) (k1 : an_pre dir ids p ≠ tz → (st_commit p0 P c (dv_en (id, K0, K1, on, lnu, fset se p (ss_sent (op_ses id (Tsec (nI DL.length) (nI s) 0) (Tsec (nI (DL.length + 1)) (nI s) 2) (ids p) (an_pre dir ids p) (an_once dir p 4 (p * 5 + 1)).1) :: []), me))).1 = 1 → ∀ B2, J N S (n + 1) B2 ((DL ++ [(nI s, 0), (nI s, 2)]) ++ [(nI s, 0)]) (fset dev s (id, K0, K1, on, lnu, fset se p (ss_sent (op_ses id (Tsec (nI DL.length) (nI s) 0) (Tsec (nI (DL.length + 1)) (nI s) 2) (ids p) (an_pre dir ids p) (an_once dir p 4 (p * 5 + 1)).1) :: []), me)) (fset sto s (st_commit p0 P c (dv_en (id, K0, K1, on, lnu, fset se p (ss_sent (op_ses id (Tsec (nI DL.length) (nI s) 0) (Tsec (nI (DL.length + 1)) (nI s) 2) (ids p) (an_pre dir ids p) (an_once dir p 4 (p * 5 + 1)).1) :: []), me))).2) (ws) ((an_once dir p 4 (p * 5 + 1)).2) reg seen G (Lc, bdc, llc, tcc, tlc, tfc, tgc, cfc, cgc, ctc, coc, lic, foc, dbc) (ls) ((wl (wl lo DL.length [-1, -1]) (List.length (DL ++ [(nI s, 0), (nI s, 2)])) (([(nI (6 + s), false)] : List (Int32 × Bool)).map fun _ => -1))) (wl (wl dt DL.length [ck + 1, ck + 1]) (List.length (DL ++ [(nI s, 0), (nI s, 2)])) (([(nI (6 + s), false)] : List (Int32 × Bool)).map fun _ => (ck + 1)), wl (wl db DL.length [nI s, nI s]) (List.length (DL ++ [(nI s, 0), (nI s, 2)])) (([(nI (6 + s), false)] : List (Int32 × Bool)).map fun (e : Int32 × Bool) => e.1), wl (wl rt DL.length [0, 1]) (List.length (DL ++ [(nI s, 0), (nI s, 2)])) (([(nI (6 + s), false)] : List (Int32 × Bool)).map fun (e : Int32 × Bool) => bz e.2), fl, ll, tl, tf, tg, tm, (ck + 1), fo, du) → Q (-4) (-4) B2) (k2 : an_pre dir ids p ≠ tz → (st_commit p0 P c (dv_en (id, K0, K1, on, lnu, fset se p (ss_sent (op_ses id (Tsec (nI DL.length) (nI s) 0) (Tsec (nI (DL.length + 1)) (nI s) 2) (ids p) (an_pre dir ids p) (an_once dir p 4 (p * 5 + 1)).1) :: []), me))).1 = 2 → ∀ B2, J N S (n + 1) B2 ((DL ++ [(nI s, 0), (nI s, 2)]) ++ [(nI s, 0)]) (fset dev s (id, K0, K1, on, lnu, fset se p (ss_sent (op_ses id (Tsec (nI DL.length) (nI s) 0) (Tsec (nI (DL.length + 1)) (nI s) 2) (ids p) (an_pre dir ids p) (an_once dir p 4 (p * 5 + 1)).1) :: []), me)) (fset sto s (st_commit p0 P c (dv_en (id, K0, K1, on, lnu, fset se p (ss_sent (op_ses id (Tsec (nI DL.length) (nI s) 0) (Tsec (nI (DL.length + 1)) (nI s) 2) (ids p) (an_pre dir ids p) (an_once dir p 4 (p * 5 + 1)).1) :: []), me))).2) (ws ++ [((ss_wire (op_ses id (Tsec (nI DL.length) (nI s) 0) (Tsec (nI (DL.length + 1)) (nI s) 2) (ids p) (an_pre dir ids p) (an_once dir p 4 (p * 5 + 1)).1) (nI s) (nI p) (Trw 4 0 0 0 0 (Tsec (nI (List.length (DL ++ [(nI s, 0), (nI s, 2)]))) (nI s) 0) tz tz tz)), nI ls.length)]) ((an_once dir p 4 (p * 5 + 1)).2) reg seen (fun y => G y ∨ y = (ss_wire (op_ses id (Tsec (nI DL.length) (nI s) 0) (Tsec (nI (DL.length + 1)) (nI s) 2) (ids p) (an_pre dir ids p) (an_once dir p 4 (p * 5 + 1)).1) (nI s) (nI p) (Trw 4 0 0 0 0 (Tsec (nI (List.length (DL ++ [(nI s, 0), (nI s, 2)]))) (nI s) 0) tz tz tz))) (Lc ++ [lt_sent (Tsec (nI (List.length (DL ++ [(nI s, (0 : Int32)), (nI s, (2 : Int32))]))) (nI s) 0) (nI s) (nI p) (ss_sent (op_ses id (Tsec (nI DL.length) (nI s) 0) (Tsec (nI (DL.length + 1)) (nI s) 2) (ids p) (an_pre dir ids p) (an_once dir p 4 (p * 5 + 1)).1))], upd bdc (List.length (DL ++ [(nI s, (0 : Int32)), (nI s, (2 : Int32))])) (nI ls.length), llc, tcc, tlc, tfc, tgc, cfc, cgc, ctc, coc, lic, foc, dbc) (ls ++ [((Tsec (nI (List.length (DL ++ [(nI s, 0), (nI s, 2)]))) (nI s) 0), nI s, nI p, (!tnil (an_once dir p 4 (p * 5 + 1)).1), (Tsec (nI (DL.length + 1)) (nI s) 2), pt (an_pre dir ids p) 0, 0, 0, fun _ => 2147483647)]) (upd (wl (wl lo DL.length [-1, -1]) (List.length (DL ++ [(nI s, 0), (nI s, 2)])) (([(nI (6 + s), false)] : List (Int32 × Bool)).map fun _ => -1)) (List.length (DL ++ [(nI s, 0), (nI s, 2)])) (nI ls.length)) (wl (wl dt DL.length [ck + 1, ck + 1]) (List.length (DL ++ [(nI s, 0), (nI s, 2)])) (([(nI (6 + s), false)] : List (Int32 × Bool)).map fun _ => (ck + 1)), wl (wl db DL.length [nI s, nI s]) (List.length (DL ++ [(nI s, 0), (nI s, 2)])) (([(nI (6 + s), false)] : List (Int32 × Bool)).map fun (e : Int32 × Bool) => e.1), wl (wl rt DL.length [0, 1]) (List.length (DL ++ [(nI s, 0), (nI s, 2)])) (([(nI (6 + s), false)] : List (Int32 × Bool)).map fun (e : Int32 × Bool) => bz e.2), fl, ll, tl, tf, tg, tm, (ck + 1), fo, du) → Q (nI ws.length) (nI ws.length) B2) : PR sc (d + 12) 84 223 [.int (nI s), .int (nI p)] B Q := by
  obtain ⟨f, A, T, T0, K, Kw, ca, rm, kc, kl, rk, M, ln, wt, π, w, dv, idc, ⟨hC, hH0, hdv, hid⟩, ⟨hMo, hs0, hM, hS⟩, ⟨hKG, hKs, h16, hlk⟩, hTl, hPh, hrc⟩ := hJ
  have hH := RH_ids (ids' := fun q => (dev q).1) hH0 (fun q hq => (hid q hq).symm)
  rw [← eids] at hH
  rw [eD] at hD
  have hid0 : (dev s).1 = id := by rw [eD]
  have eT : ss_turn (op_ses id (Tsec (nI DL.length) (nI s) 0) (Tsec (nI (DL.length + 1)) (nI s) 2) (ids p) (an_pre dir ids p) (an_once dir p 4 (p * 5 + 1)).1) (Tsec (nI (DL.length + 2)) (nI s) 2) = (op_ses id (Tsec (nI DL.length) (nI s) 0) (Tsec (nI (DL.length + 1)) (nI s) 2) (ids p) (an_pre dir ids p) (an_once dir p 4 (p * 5 + 1)).1) := cif_f (op_sd _ _ _ _ _ _)
  have eR : dr_turn (op_ses id (Tsec (nI DL.length) (nI s) 0) (Tsec (nI (DL.length + 1)) (nI s) 2) (ids p) (an_pre dir ids p) (an_once dir p 4 (p * 5 + 1)).1) (DL.length + 2) = (List.length (DL ++ [(nI s, (0 : Int32)), (nI s, (2 : Int32))])) := (if_neg (fun q => op_sd _ _ _ _ _ _ (tnil_iff.mp q))).trans (by simp)
  have eS : fset (fset se p ((op_ses id (Tsec (nI DL.length) (nI s) 0) (Tsec (nI (DL.length + 1)) (nI s) 2) (ids p) (an_pre dir ids p) (an_once dir p 4 (p * 5 + 1)).1) :: (se p).take 1)) p (((fset se p ((op_ses id (Tsec (nI DL.length) (nI s) 0) (Tsec (nI (DL.length + 1)) (nI s) 2) (ids p) (an_pre dir ids p) (an_once dir p 4 (p * 5 + 1)).1) :: (se p).take 1)) p).set 0 (ss_sent (op_ses id (Tsec (nI DL.length) (nI s) 0) (Tsec (nI (DL.length + 1)) (nI s) 2) (ids p) (an_pre dir ids p) (an_once dir p 4 (p * 5 + 1)).1))) = fset se p (ss_sent (op_ses id (Tsec (nI DL.length) (nI s) 0) (Tsec (nI (DL.length + 1)) (nI s) 2) (ids p) (an_pre dir ids p) (an_once dir p 4 (p * 5 + 1)).1) :: []) := by rw [fset_fset, fset_same, hse]; rfl
  have hen : (dv_en (id, K0, K1, on, lnu, fset se p (ss_sent (op_ses id (Tsec (nI DL.length) (nI s) 0) (Tsec (nI (DL.length + 1)) (nI s) 2) (ids p) (an_pre dir ids p) (an_once dir p 4 (p * 5 + 1)).1) :: []), me)).length ≤ 536 := dv_len hs hD ((fset_ne hsp).trans (DVI_sei hD).1) (fun q => by
    by_cases z : q = p
    · rw [z, fset_same]
      exact ⟨by simp, fun S hS => by rw [List.mem_singleton.mp hS]; exact Nat.zero_le _⟩
    · rw [fset_ne z]; exact ⟨((DVI_sei hD).2 q).1, fun S hS => (((DVI_sei hD).2 q).2 S hS).1.2.2⟩)
  have hcu := cuts_set (sto := sto) (S := (st_commit p0 P c (dv_en (id, K0, K1, on, lnu, fset se p (ss_sent (op_ses id (Tsec (nI DL.length) (nI s) 0) (Tsec (nI (DL.length + 1)) (nI s) 2) (ids p) (an_pre dir ids p) (an_once dir p 4 (p * 5 + 1)).1) :: []), me))).2) hs
  rw [cz1_commit] at hcu
  have hem := emp_set (dev := dev) (D := (id, K0, K1, on, lnu, fset se p (ss_sent (op_ses id (Tsec (nI DL.length) (nI s) 0) (Tsec (nI (DL.length + 1)) (nI s) 2) (ids p) (an_pre dir ids p) (an_once dir p 4 (p * 5 + 1)).1) :: []), me)) hs
  rw [eD] at hem
  have hem : emp (fset dev s (id, K0, K1, on, lnu, fset se p (ss_sent (op_ses id (Tsec (nI DL.length) (nI s) 0) (Tsec (nI (DL.length + 1)) (nI s) 2) (ids p) (an_pre dir ids p) (an_once dir p 4 (p * 5 + 1)).1) :: []), me)) + ec s se = emp dev + ec s (fset se p (ss_sent (op_ses id (Tsec (nI DL.length) (nI s) 0) (Tsec (nI (DL.length + 1)) (nI s) 2) (ids p) (an_pre dir ids p) (an_once dir p 4 (p * 5 + 1)).1) :: [])) := hem
  have hecl : ec s (fset se p (ss_sent (op_ses id (Tsec (nI DL.length) (nI s) 0) (Tsec (nI (DL.length + 1)) (nI s) 2) (ids p) (an_pre dir ids p) (an_once dir p 4 (p * 5 + 1)).1) :: [])) ≤ ec s se := ec_cons
  have hlen : ((DL ++ [(nI s, (0 : Int32)), (nI s, (2 : Int32))]) ++ [(nI s, (0 : Int32))]).length = (DL ++ [(nI s, (0 : Int32)), (nI s, (2 : Int32))]).length + 1 := by simp
  refine t_sendB2 (F := mX) hC hH (by omega) hws (by omega) hs hp hsp ((hdv s hs).trans eD) (by omega) hst hse hD.1 (kid p hp) (fun B1 M1 ca1 rm1 hx0 hC1 hH1 hf1 => ?_) (by rw [eT, eS]; exact hen) (fun B1 T1 M1 ca1 rm1 kc1 kl1 rk1 w1 hx0 pT qT hc1 hC1 hH1 hf1 => ?_) (fun B1 T1 M1 ca1 rm1 kc1 kl1 rk1 w1 hx0 pT qT hc1 hC1 hH1 hf1 => ?_) (fun B1 T1 M1 ca1 rm1 kc1 kl1 rk1 w1 hx0 pT qT hc1 hC1 hH1 hf1 => ?_)
  · obtain ⟨A1, hMo1, hs1, hM1, hS1, hr1, -⟩ := J_cls hf1 hMo hs0 hM hS
    refine m_run hMo1 hs1 (m_sendB hM1 hS1 (by omega) hws hls (by omega) (by omega) hs hp hsp eids kid eD hD.2.1.1.1 hD.2.1.2.1 hst hse (fun _ => hen) (fun hy0 f2 A2 hy1 hM2 g16 hS2 => ?_) (fun hy0 hc2 f2 A2 T2 pU qU sU hM2 g16 hS2 => ?_) (fun hy0 hc2 f2 A2 T2 pU qU sU hM2 g16 hS2 => ?_) (fun hy0 hc2 f2 A2 T2 pU qU sU hM2 g16 hS2 => ?_))
    · intro B2 hF2 hs2
      have e1 : rc (A2 1) T0.length = rc (A1 1) T0.length := rc_MT hM2 hM1
      exact kN hy0 B2 (J_mk hF2 hs2 hC1 hH1 (f6_dev hdv) (fun _ _ => by rw [eids]) hM2 hS2 hKG hKs (st_keep h16 g16) hlk (by omega) (by omega) (by omega))
    · exact absurd hx0 hy0
    · exact absurd hx0 hy0
    · exact absurd hx0 hy0
  · obtain ⟨A1, hMo1, hs1, hM1, hS1, hr1, -⟩ := J_cls hf1 hMo hs0 hM hS
    rw [eT, eS] at hc1
    rw [eR] at hC1
    rw [eT, eR, eS] at hH1
    refine m_run hMo1 hs1 (m_sendB hM1 hS1 (by omega) hws hls (by omega) (by omega) hs hp hsp eids kid eD hD.2.1.1.1 hD.2.1.2.1 hst hse (fun _ => hen) (fun hy0 f2 A2 hy1 hM2 g16 hS2 => ?_) (fun hy0 hc2 f2 A2 T2 pU qU sU hM2 g16 hS2 => ?_) (fun hy0 hc2 f2 A2 T2 pU qU sU hM2 g16 hS2 => ?_) (fun hy0 hc2 f2 A2 T2 pU qU sU hM2 g16 hS2 => ?_))
    · exact absurd hy0 hx0
    · intro B2 hF2 hs2
      rw [← hlen] at hC1
      exact k0 hy0 hc2 B2 (J_mk hF2 hs2 hC1 hH1 (f6_dev (f6_dev (f6_dev hdv))) (fun _ _ => by rw [eids]) hM2 hS2 hKG hKs (st_keep h16 g16) (lk_mono hlk pT (Nat.le_refl _)) (by omega) (by omega) (by omega))
    · exact absurd (hc1.symm.trans hc2) (by decide)
    · exact absurd (hc1.symm.trans hc2) (by decide)
  · obtain ⟨A1, hMo1, hs1, hM1, hS1, hr1, -⟩ := J_cls hf1 hMo hs0 hM hS
    rw [eT, eS] at hc1
    rw [eR] at hC1
    rw [eT, eR, eS] at hH1
    refine m_run hMo1 hs1 (m_sendB hM1 hS1 (by omega) hws hls (by omega) (by omega) hs hp hsp eids kid eD hD.2.1.1.1 hD.2.1.2.1 hst hse (fun _ => hen) (fun hy0 f2 A2 hy1 hM2 g16 hS2 => ?_) (fun hy0 hc2 f2 A2 T2 pU qU sU hM2 g16 hS2 => ?_) (fun hy0 hc2 f2 A2 T2 pU qU sU hM2 g16 hS2 => ?_) (fun hy0 hc2 f2 A2 T2 pU qU sU hM2 g16 hS2 => ?_))
    · exact absurd hy0 hx0
    · exact absurd (hc1.symm.trans hc2) (by decide)
    · intro B2 hF2 hs2
      rw [← hlen] at hC1
      exact k1 hy0 hc2 B2 (J_mk hF2 hs2 hC1 hH1 (sw6_dev hs (f6_dev (f6_dev hdv))) (by rw [eids]; exact id_set (by rw [hid0])) hM2 hS2 hKG hKs (st_keep h16 g16) (lk_mono hlk pT (Nat.le_refl _)) (by omega) (by omega) (by omega))
    · exact absurd (hc1.symm.trans hc2) (by decide)
  · obtain ⟨A1, hMo1, hs1, hM1, hS1, hr1, -⟩ := J_cls hf1 hMo hs0 hM hS
    rw [eT, eS] at hc1
    rw [eR, eT] at hC1
    rw [eT, eR, eS] at hH1
    refine m_run hMo1 hs1 (m_sendB hM1 hS1 (by omega) hws hls (by omega) (by omega) hs hp hsp eids kid eD hD.2.1.1.1 hD.2.1.2.1 hst hse (fun _ => hen) (fun hy0 f2 A2 hy1 hM2 g16 hS2 => ?_) (fun hy0 hc2 f2 A2 T2 pU qU sU hM2 g16 hS2 => ?_) (fun hy0 hc2 f2 A2 T2 pU qU sU hM2 g16 hS2 => ?_) (fun hy0 hc2 f2 A2 T2 pU qU sU hM2 g16 hS2 => ?_))
    · exact absurd hy0 hx0
    · exact absurd (hc1.symm.trans hc2) (by decide)
    · exact absurd (hc1.symm.trans hc2) (by decide)
    · intro B2 hF2 hs2
      rw [← hlen] at hC1
      rw [hll] at hH1
      exact k2 hy0 hc2 B2 (J_mk hF2 hs2 hC1 hH1 (sw6_dev hs (f6_dev (f6_dev hdv))) (by rw [eids]; exact id_set (by rw [hid0])) hM2 hS2 (KG_add hKG (fun y q => Or.inr q) (fun y q => q)) (fun y q => Kn_mono (fun z hz => Or.inl hz) (hKs y q)) (st_new (ls := ls) (fun h => st_give h16 (g16.imp_right (fun z => ⟨z.1, fun y hy => hy.elim Kn_G (fun hy => Kn_G (hy ▸ z.2))⟩)) h) (fun h => g16.elim (fun z => absurd (h.symm.trans z) (by decide)) (fun z => wire_new hM1 z.2 (by simp) rfl rfl (by simp only [List.length_append, List.length_cons, List.length_nil]; omega)))) (lk_all hH1) (by omega) (by omega) (by omega))
set_option maxRecDepth 100000 in
theorem P_post {sc : tm_X} {d N S n : Nat} {B : bm_H} {DL : List (Int32 × Int32)} {dev : Nat → DV} {sto : Nat → ST} {ws : List (Tm × Int32)} {dir reg : Nat → Tm} {seen : List Tm} {G : Tm → Prop} {ls : List RL} {lo dt db rt fl ll tl tf tg tm : Nat → Int32} {ck fo du : Int32} {Lc : List LT} {bdc llc tcc tlc tfc tgc : Nat → Int32} {cfc cgc : Int32} {ctc : Tm} {coc : Bool} {lic foc dbc : Int32} {id : Tm} {K0 K1 : PK} {on : List (Tm × Int32)} {lnu : Int32} {se : Nat → List SS} {me : Nat → MM} {p0 : Bool} {P : EN2} {c : Option Nat} {s g : Nat} {ids : Nat → Tm} {Q : Int32 → Int32 → bm_H → Prop} (hJ : J N S n B DL dev sto ws dir reg seen G (Lc, bdc, llc, tcc, tlc, tfc, tgc, cfc, cgc, ctc, coc, lic, foc, dbc) ls lo (dt, db, rt, fl, ll, tl, tf, tg, tm, ck, fo, du)) (hn : n < 64) (hdl : DL.length ≤ 2900) (hws : ws.length ≤ 692) (hs : s < 6) (hg : g < 4) (eids : ids = fun q => (dev q).1) (kid : ∀ q, q < 6 → kd (ids q) = 1) (hpub : ∀ i, kd (pt (pt (dir i) 1) 0) = 2 → kd (pt (pt (pt (dir i) 1) 0) 0) = 1) (hll : Lc.length = ls.length) (hls : ls.length < 700) (eD : dev s = (id, K0, K1, on, lnu, se, me)) (hst : sto s = (p0, P, [], c, false)) (hD : DVI s n (dev s)) (kN : (me g).1 = 0 → ∀ B2, J N S (n + 1) B2 DL dev sto ws dir reg seen G (Lc, bdc, llc, tcc, tlc, tfc, tgc, cfc, cgc, ctc, coc, lic, foc, dbc) ls lo (dt, db, rt, fl, ll, tl, tf, tg, tm, ck + 1, fo, du) → Q (-6) (-6) B2) (k0 : (me g).1 ≠ 0 → (st_commit p0 P c (dv_en (id, K0, K1, on, lnu, (po_hand id ids s g se me dir DL.length).1, fset (po_hand id ids s g se me dir DL.length).2.1 g (mm_posted ((po_hand id ids s g se me dir DL.length).2.1 g))))).1 = 0 → ∀ (E : List (Int32 × Int32)), DL.length + E.length = (po_hand id ids s g se me dir DL.length).2.2.2.1 → (∀ e, e ∈ E → e.1 = nI s ∧ (e.2 = 0 ∨ e.2 = 2)) → ∀ B2, J N S (n + 1) B2 (DL ++ E ++ [(nI s, 0)]) dev (fset sto s (st_commit p0 P c (dv_en (id, K0, K1, on, lnu, (po_hand id ids s g se me dir DL.length).1, fset (po_hand id ids s g se me dir DL.length).2.1 g (mm_posted ((po_hand id ids s g se me dir DL.length).2.1 g))))).2) (ws) ((po_hand id ids s g se me dir DL.length).2.2.1) reg seen G (Lc, bdc, llc, tcc, tlc, tfc, tgc, cfc, cgc, ctc, coc, lic, foc, dbc) (ls) ((wl (wl lo DL.length ((E.map fun e => (e.1, decide (e.2 ≠ 0))).map fun (e : Int32 × Bool) => -1)) (DL ++ E).length (([(nI (6 + s), false)] : List (Int32 × Bool)).map fun _ => -1))) (wl (wl dt DL.length ((E.map fun e => (e.1, decide (e.2 ≠ 0))).map fun (e : Int32 × Bool) => ck + 1)) (DL ++ E).length (([(nI (6 + s), false)] : List (Int32 × Bool)).map fun _ => ck + 1), wl (wl db DL.length ((E.map fun e => (e.1, decide (e.2 ≠ 0))).map fun (e : Int32 × Bool) => e.1)) (DL ++ E).length (([(nI (6 + s), false)] : List (Int32 × Bool)).map fun (e : Int32 × Bool) => e.1), wl (wl rt DL.length ((E.map fun e => (e.1, decide (e.2 ≠ 0))).map fun (e : Int32 × Bool) => bz e.2)) (DL ++ E).length (([(nI (6 + s), false)] : List (Int32 × Bool)).map fun (e : Int32 × Bool) => bz e.2), fl, ll, tl, tf, tg, tm, ck + 1, fo, du) → Q (-4) (-4) B2) (k1 : (me g).1 ≠ 0 → (st_commit p0 P c (dv_en (id, K0, K1, on, lnu, (po_hand id ids s g se me dir DL.length).1, fset (po_hand id ids s g se me dir DL.length).2.1 g (mm_posted ((po_hand id ids s g se me dir DL.length).2.1 g))))).1 = 1 → ∀ (E : List (Int32 × Int32)), DL.length + E.length = (po_hand id ids s g se me dir DL.length).2.2.2.1 → (∀ e, e ∈ E → e.1 = nI s ∧ (e.2 = 0 ∨ e.2 = 2)) → ∀ B2, J N S (n + 1) B2 (DL ++ E ++ [(nI s, 0)]) (fset dev s (id, K0, K1, on, lnu, (po_hand id ids s g se me dir DL.length).1, fset (po_hand id ids s g se me dir DL.length).2.1 g (mm_posted ((po_hand id ids s g se me dir DL.length).2.1 g)))) (fset sto s (st_commit p0 P c (dv_en (id, K0, K1, on, lnu, (po_hand id ids s g se me dir DL.length).1, fset (po_hand id ids s g se me dir DL.length).2.1 g (mm_posted ((po_hand id ids s g se me dir DL.length).2.1 g))))).2) (ws) ((po_hand id ids s g se me dir DL.length).2.2.1) reg seen G (Lc, bdc, llc, tcc, tlc, tfc, tgc, cfc, cgc, ctc, coc, lic, foc, dbc) (ls) ((wl (wl lo DL.length ((E.map fun e => (e.1, decide (e.2 ≠ 0))).map fun (e : Int32 × Bool) => -1)) (DL ++ E).length (([(nI (6 + s), false)] : List (Int32 × Bool)).map fun _ => -1))) (wl (wl dt DL.length ((E.map fun e => (e.1, decide (e.2 ≠ 0))).map fun (e : Int32 × Bool) => ck + 1)) (DL ++ E).length (([(nI (6 + s), false)] : List (Int32 × Bool)).map fun _ => ck + 1), wl (wl db DL.length ((E.map fun e => (e.1, decide (e.2 ≠ 0))).map fun (e : Int32 × Bool) => e.1)) (DL ++ E).length (([(nI (6 + s), false)] : List (Int32 × Bool)).map fun (e : Int32 × Bool) => e.1), wl (wl rt DL.length ((E.map fun e => (e.1, decide (e.2 ≠ 0))).map fun (e : Int32 × Bool) => bz e.2)) (DL ++ E).length (([(nI (6 + s), false)] : List (Int32 × Bool)).map fun (e : Int32 × Bool) => bz e.2), fl, ll, tl, tf, tg, tm, ck + 1, fo, du) → Q (-4) (-4) B2) (k2 : (me g).1 ≠ 0 → (st_commit p0 P c (dv_en (id, K0, K1, on, lnu, (po_hand id ids s g se me dir DL.length).1, fset (po_hand id ids s g se me dir DL.length).2.1 g (mm_posted ((po_hand id ids s g se me dir DL.length).2.1 g))))).1 = 2 → ∀ (E : List (Int32 × Int32)), DL.length + E.length = (po_hand id ids s g se me dir DL.length).2.2.2.1 → (∀ e, e ∈ E → e.1 = nI s ∧ (e.2 = 0 ∨ e.2 = 2)) → ∀ B2, J N S (n + 1) B2 (DL ++ E ++ [(nI s, 0)]) (fset dev s (id, K0, K1, on, lnu, (po_hand id ids s g se me dir DL.length).1, fset (po_hand id ids s g se me dir DL.length).2.1 g (mm_posted ((po_hand id ids s g se me dir DL.length).2.1 g)))) (fset sto s (st_commit p0 P c (dv_en (id, K0, K1, on, lnu, (po_hand id ids s g se me dir DL.length).1, fset (po_hand id ids s g se me dir DL.length).2.1 g (mm_posted ((po_hand id ids s g se me dir DL.length).2.1 g))))).2) (ws ++ (po_hand id ids s g se me dir DL.length).2.2.2.2.map (fun X => (X, -1)) ++ [((mm_post ((po_hand id ids s g se me dir DL.length).2.1 g) (nI g) (nI s) (Trw 4 0 0 0 0 (Tsec (nI (po_hand id ids s g se me dir DL.length).2.2.2.1) (nI s) 0) tz tz tz)), nI ls.length)]) ((po_hand id ids s g se me dir DL.length).2.2.1) reg seen (fun y => G y ∨ y ∈ (po_hand id ids s g se me dir DL.length).2.2.2.2 ++ [(mm_post ((po_hand id ids s g se me dir DL.length).2.1 g) (nI g) (nI s) (Trw 4 0 0 0 0 (Tsec (nI (po_hand id ids s g se me dir DL.length).2.2.2.1) (nI s) 0) tz tz tz))]) (Lc ++ [lt_post (Tsec (nI (po_hand id ids s g se me dir DL.length).2.2.2.1) (nI s) 0) (nI s) (nI g) ((po_hand id ids s g se me dir DL.length).2.1 g).2.1 lic], upd bdc (po_hand id ids s g se me dir DL.length).2.2.2.1 (nI ls.length), llc, tcc, tlc, tfc, tgc, cfc, cgc, ctc, coc, lic, foc, dbc) (ls ++ [((Tsec (nI (po_hand id ids s g se me dir DL.length).2.2.2.1) (nI s) 0), nI s, nI (16 + g), false, tz, tz, ((po_hand id ids s g se me dir DL.length).2.1 g).2.1, 0, fun _ => 2147483647)]) (upd (wl (wl lo DL.length ((E.map fun e => (e.1, decide (e.2 ≠ 0))).map fun (e : Int32 × Bool) => -1)) (DL ++ E).length (([(nI (6 + s), false)] : List (Int32 × Bool)).map fun _ => -1)) (DL ++ E).length (nI ls.length)) (wl (wl dt DL.length ((E.map fun e => (e.1, decide (e.2 ≠ 0))).map fun (e : Int32 × Bool) => ck + 1)) (DL ++ E).length (([(nI (6 + s), false)] : List (Int32 × Bool)).map fun _ => ck + 1), wl (wl db DL.length ((E.map fun e => (e.1, decide (e.2 ≠ 0))).map fun (e : Int32 × Bool) => e.1)) (DL ++ E).length (([(nI (6 + s), false)] : List (Int32 × Bool)).map fun (e : Int32 × Bool) => e.1), wl (wl rt DL.length ((E.map fun e => (e.1, decide (e.2 ≠ 0))).map fun (e : Int32 × Bool) => bz e.2)) (DL ++ E).length (([(nI (6 + s), false)] : List (Int32 × Bool)).map fun (e : Int32 × Bool) => bz e.2), fl, ll, tl, tf, tg, tm, ck + 1, fo, du) → Q (nI (ws.length + (po_hand id ids s g se me dir DL.length).2.2.2.2.length)) (nI (ws.length + (po_hand id ids s g se me dir DL.length).2.2.2.2.length)) B2) : PR sc (d + 12) 97 228 [.int (nI s), .int (nI g)] B Q := by
  obtain ⟨f, A, T, T0, K, Kw, ca, rm, kc, kl, rk, M, ln, wt, π, w, dv, idc, ⟨hC, hH0, hdv, hid⟩, ⟨hMo, hs0, hM, hS⟩, ⟨hKG, hKs, h16, hlk⟩, hTl, hPh, hrc⟩ := hJ
  have hH := RH_ids (ids' := fun q => (dev q).1) hH0 (fun q hq => (hid q hq).symm)
  rw [← eids] at hH
  rw [eD] at hD
  have hid0 : (dev s).1 = id := by rw [eD]
  have hD1 : DVI s n (id, K0, K1, on, lnu, (po_hand id ids s g se me dir DL.length).1, fset (po_hand id ids s g se me dir DL.length).2.1 g (mm_posted ((po_hand id ids s g se me dir DL.length).2.1 g))) := DVI_post hpub hD
  have hen : (dv_en (id, K0, K1, on, lnu, (po_hand id ids s g se me dir DL.length).1, fset (po_hand id ids s g se me dir DL.length).2.1 g (mm_posted ((po_hand id ids s g se me dir DL.length).2.1 g)))).length ≤ 536 := DVI_en hs hD1
  have hcu := cuts_set (sto := sto) (S := (st_commit p0 P c (dv_en (id, K0, K1, on, lnu, (po_hand id ids s g se me dir DL.length).1, fset (po_hand id ids s g se me dir DL.length).2.1 g (mm_posted ((po_hand id ids s g se me dir DL.length).2.1 g))))).2) hs
  rw [cz1_commit] at hcu
  have hem := emp_set (dev := dev) (D := (id, K0, K1, on, lnu, (po_hand id ids s g se me dir DL.length).1, fset (po_hand id ids s g se me dir DL.length).2.1 g (mm_posted ((po_hand id ids s g se me dir DL.length).2.1 g)))) hs
  rw [eD] at hem
  have hem : emp (fset dev s (id, K0, K1, on, lnu, (po_hand id ids s g se me dir DL.length).1, fset (po_hand id ids s g se me dir DL.length).2.1 g (mm_posted ((po_hand id ids s g se me dir DL.length).2.1 g)))) + ec s se = emp dev + ec s (po_hand id ids s g se me dir DL.length).1 := hem
  have hecb : ec s (po_hand id ids s g se me dir DL.length).1 + bgn se (po_hand id ids s g se me dir DL.length).1 6 0 ≤ ec s se := ec_bgn (by rw [(DVI_sei hD1).1]; rfl) (fun q _ h => ho_ne 6 0 _ h)
  have hec5 := ec_5 hs se
  refine t_post (F := mX) hC hH hdl hws (by omega) hs hg ((hdv s hs).trans eD) (by omega) hst hD.1 kid (SEI_ok (DVI_sei hD)) ((DVI_mei hD).1 g).2.1 (fun _ => hen) (fun B1 M1 ca1 rm1 hx0 hC1 hH1 hf1 => ?_) (fun B1 T1 M1 ca1 rm1 kc1 kl1 rk1 w1 pT qT hx0 hc1 hC1 hH1 hf1 => ?_) (fun B1 T1 M1 ca1 rm1 kc1 kl1 rk1 w1 pT qT hx0 hc1 hC1 hH1 hf1 => ?_) (fun B1 T1 M1 ca1 rm1 kc1 kl1 rk1 w1 pT qT hx0 hc1 hC1 hH1 hf1 => ?_)
  · obtain ⟨A1, hMo1, hs1, hM1, hS1, hr1, -⟩ := J_cls hf1 hMo hs0 hM hS
    refine m_run hMo1 hs1 (mo_post hM1 hS1 (by omega) hws hls (by omega) (by omega) hs hg eids kid eD hD.2.1.1.1 hD.2.1.2.1 (SEI_ok2 (DVI_sei hD)) ((DVI_mei hD).1 g).2.1 hst (fun _ => hen) (fun hy0 f2 A2 hM2 hy1 g16 hS2 => ?_) (fun hy0 hc2 f2 A2 T2 E pU qU sU hy1 hy2 hM2 g16 hS2 => ?_) (fun hy0 hc2 f2 A2 T2 E pU qU sU hy1 hy2 hM2 g16 hS2 => ?_) (fun hy0 hc2 f2 A2 T2 E pU qU sU hy1 hy2 hM2 g16 hS2 => ?_))
    · intro B2 hF2 hs2
      have e1 : rc (A2 1) T0.length = rc (A1 1) T0.length := rc_MT hM2 hM1
      exact kN hy0 B2 (J_mk hF2 hs2 hC1 hH1 hdv (fun _ _ => by rw [eids]) hM2 hS2 hKG hKs (st_keep h16 (Or.inr g16)) hlk (by omega) (by omega) (by omega))
    · exact absurd hx0 hy0
    · exact absurd hx0 hy0
    · exact absurd hx0 hy0
  · obtain ⟨A1, hMo1, hs1, hM1, hS1, hr1, -⟩ := J_cls hf1 hMo hs0 hM hS
    refine m_run hMo1 hs1 (mo_post hM1 hS1 (by omega) hws hls (by omega) (by omega) hs hg eids kid eD hD.2.1.1.1 hD.2.1.2.1 (SEI_ok2 (DVI_sei hD)) ((DVI_mei hD).1 g).2.1 hst (fun _ => hen) (fun hy0 f2 A2 hM2 hy1 g16 hS2 => ?_) (fun hy0 hc2 f2 A2 T2 E pU qU sU hy1 hy2 hM2 g16 hS2 => ?_) (fun hy0 hc2 f2 A2 T2 E pU qU sU hy1 hy2 hM2 g16 hS2 => ?_) (fun hy0 hc2 f2 A2 T2 E pU qU sU hy1 hy2 hM2 g16 hS2 => ?_))
    · exact absurd hy0 hx0
    · intro B2 hF2 hs2
      have hlen : (DL ++ E ++ [(nI s, (0 : Int32))]).length = (po_hand id ids s g se me dir DL.length).2.2.2.1 + 1 := by simp only [List.length_append, List.length_cons, List.length_nil]; omega
      rw [← hlen] at hC1
      have hcs := cz1_was (p0 := p0) (P := P) (O := []) (dn := false) (cut_some (p0 := p0) (P := P) (W := dv_en (id, K0, K1, on, lnu, (po_hand id ids s g se me dir DL.length).1, fset (po_hand id ids s g se me dir DL.length).2.1 g (mm_posted ((po_hand id ids s g se me dir DL.length).2.1 g)))) (c := c) (by rw [hc2]; decide))
      rw [hst, hcs] at hcu
      exact k0 hy0 hc2 E hy1 hy2 B2 (J_mk hF2 hs2 hC1 hH1 (f6_dev (f6_dev hdv)) (fun _ _ => by rw [eids]) hM2 hS2 hKG hKs (st_keep h16 (Or.inr g16)) (lk_mono hlk pT (Nat.le_refl _)) (by omega) (by omega) (by omega))
    · exact absurd (hc1.symm.trans hc2) (by decide)
    · exact absurd (hc1.symm.trans hc2) (by decide)
  · obtain ⟨A1, hMo1, hs1, hM1, hS1, hr1, -⟩ := J_cls hf1 hMo hs0 hM hS
    refine m_run hMo1 hs1 (mo_post hM1 hS1 (by omega) hws hls (by omega) (by omega) hs hg eids kid eD hD.2.1.1.1 hD.2.1.2.1 (SEI_ok2 (DVI_sei hD)) ((DVI_mei hD).1 g).2.1 hst (fun _ => hen) (fun hy0 f2 A2 hM2 hy1 g16 hS2 => ?_) (fun hy0 hc2 f2 A2 T2 E pU qU sU hy1 hy2 hM2 g16 hS2 => ?_) (fun hy0 hc2 f2 A2 T2 E pU qU sU hy1 hy2 hM2 g16 hS2 => ?_) (fun hy0 hc2 f2 A2 T2 E pU qU sU hy1 hy2 hM2 g16 hS2 => ?_))
    · exact absurd hy0 hx0
    · exact absurd (hc1.symm.trans hc2) (by decide)
    · intro B2 hF2 hs2
      have hlen : (DL ++ E ++ [(nI s, (0 : Int32))]).length = (po_hand id ids s g se me dir DL.length).2.2.2.1 + 1 := by simp only [List.length_append, List.length_cons, List.length_nil]; omega
      rw [← hlen] at hC1
      have hcs := cz1_was (p0 := p0) (P := P) (O := []) (dn := false) (cut_some (p0 := p0) (P := P) (W := dv_en (id, K0, K1, on, lnu, (po_hand id ids s g se me dir DL.length).1, fset (po_hand id ids s g se me dir DL.length).2.1 g (mm_posted ((po_hand id ids s g se me dir DL.length).2.1 g)))) (c := c) (by rw [hc2]; decide))
      rw [hst, hcs] at hcu
      exact k1 hy0 hc2 E hy1 hy2 B2 (J_mk hF2 hs2 hC1 hH1 (sw6_dev hs (f6_dev hdv)) (by rw [eids]; exact id_set (by rw [hid0])) hM2 hS2 hKG hKs (st_keep h16 (Or.inr g16)) (lk_mono hlk pT (Nat.le_refl _)) (by omega) (by omega) (by omega))
    · exact absurd (hc1.symm.trans hc2) (by decide)
  · obtain ⟨A1, hMo1, hs1, hM1, hS1, hr1, -⟩ := J_cls hf1 hMo hs0 hM hS
    refine m_run hMo1 hs1 (mo_post hM1 hS1 (by omega) hws hls (by omega) (by omega) hs hg eids kid eD hD.2.1.1.1 hD.2.1.2.1 (SEI_ok2 (DVI_sei hD)) ((DVI_mei hD).1 g).2.1 hst (fun _ => hen) (fun hy0 f2 A2 hM2 hy1 g16 hS2 => ?_) (fun hy0 hc2 f2 A2 T2 E pU qU sU hy1 hy2 hM2 g16 hS2 => ?_) (fun hy0 hc2 f2 A2 T2 E pU qU sU hy1 hy2 hM2 g16 hS2 => ?_) (fun hy0 hc2 f2 A2 T2 E pU qU sU hy1 hy2 hM2 g16 hS2 => ?_))
    · exact absurd hy0 hx0
    · exact absurd (hc1.symm.trans hc2) (by decide)
    · exact absurd (hc1.symm.trans hc2) (by decide)
    · intro B2 hF2 hs2
      have hlen : (DL ++ E ++ [(nI s, (0 : Int32))]).length = (po_hand id ids s g se me dir DL.length).2.2.2.1 + 1 := by simp only [List.length_append, List.length_cons, List.length_nil]; omega
      rw [← hlen] at hC1
      rw [hll] at hH1
      have hdr6 := ho_dr6 (id := id) (ids := ids) (s := s) (g := g) (se := se) (me := me) (dir := dir) (dr := DL.length)
      exact k2 hy0 hc2 E hy1 hy2 B2 (J_mk hF2 hs2 hC1 hH1 (sw6_dev hs (f6_dev hdv)) (by rw [eids]; exact id_set (by rw [hid0])) hM2 hS2 (KG_add hKG (fun y q => Or.inr q) (fun y q => q)) (fun y q => Kn_mono (fun z hz => Or.inl hz) (hKs y q)) (st_new (ls := ls) (fun h => st_give h16 (g16.imp_right (fun z => ⟨z.1, fun y hy => hy.elim Kn_G (fun hy => Kn_G (z.2 y hy))⟩)) h) (fun h => g16.elim (fun z => absurd (h.symm.trans z) (by decide)) (fun z => wire_new6 hM1 (z.2 (mm_post ((po_hand id ids s g se me dir DL.length).2.1 g) (nI g) (nI s) (Trw 4 0 0 0 0 (Tsec (nI (po_hand id ids s g se me dir DL.length).2.2.2.1) (nI s) 0) tz tz tz)) (by simp)) (m := (po_hand id ids s g se me dir DL.length).2.2.2.1) (by omega) rfl rfl rfl (by omega)))) (lk_all hH1) (by omega) (by omega) (by omega))
