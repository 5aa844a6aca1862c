/-! Ledger, at 11 .. 18 -/
/-- secret, from, to, group, mask, one-time, mine, theirs, takers, safe -/
abbrev LT : Type := Tm × Int32 × Int32 × Int32 × Int32 × Int32 × Tm × Tm × Int32 × Int32
/-- letters, by draw, last looks; taken: how many, letter, from, group; came: from, group, term, one-time; looked into, forged, doubled -/
abbrev LG : Type := List LT × (Nat → Int32) × (Nat → Int32) × (Nat → Int32) × (Nat → Int32) × (Nat → Int32) × (Nat → Int32) × Int32 × Int32 × Tm × Bool × Int32 × Int32 × Int32
def LgS (B : bm_H) : Prop := (11 < bm_n B ∧ bm_K B 11 = 4) ∧ (bm_FR B 4 0 11 = some 12 ∧ bm_FR B 4 1 11 = some 13 ∧ bm_FR B 4 2 11 = some 14 ∧ bm_FR B 4 3 11 = some 15 ∧ bm_FR B 4 4 11 = some 16 ∧ bm_FR B 4 5 11 = some 17 ∧ bm_FR B 4 6 11 = some 18) ∧ (12 < bm_n B ∧ bm_K B 12 = 13 ∧ bm_AL B 12 = 7000) ∧ (13 < bm_n B ∧ bm_K B 13 = 13 ∧ bm_AL B 13 = 3000) ∧ (14 < bm_n B ∧ bm_K B 14 = 13 ∧ bm_AL B 14 = 6) ∧ (15 < bm_n B ∧ bm_K B 15 = 13 ∧ bm_AL B 15 = 6) ∧ (16 < bm_n B ∧ bm_K B 16 = 13 ∧ bm_AL B 16 = 6) ∧ (17 < bm_n B ∧ bm_K B 17 = 13 ∧ bm_AL B 17 = 6) ∧ (18 < bm_n B ∧ bm_K B 18 = 13 ∧ bm_AL B 18 = 6)
def lrow (g : Nat → Int32) (T : List Tm) (i : Nat) (e : LT) : Prop := tv T (g (i * 10 + 0)) e.1 ∧ g (i * 10 + 1) = e.2.1 ∧ g (i * 10 + 2) = e.2.2.1 ∧ g (i * 10 + 3) = e.2.2.2.1 ∧ g (i * 10 + 4) = e.2.2.2.2.1 ∧ g (i * 10 + 5) = e.2.2.2.2.2.1 ∧ tv T (g (i * 10 + 6)) e.2.2.2.2.2.2.1 ∧ tv T (g (i * 10 + 7)) e.2.2.2.2.2.2.2.1 ∧ g (i * 10 + 8) = e.2.2.2.2.2.2.2.2.1 ∧ g (i * 10 + 9) = e.2.2.2.2.2.2.2.2.2
def RLc (g : Nat → Int32) (T : List Tm) (L : List LT) : Prop := (∀ (i : Nat) (e : LT), L[i]? = some e → lrow g T i e) ∧ ∀ j, L.length * 10 ≤ j → g j = 0
def RLf (B : bm_H) (T : List Tm) : LG → Prop
  | (L, bd, ll, tc, tl, tf, tg, cf, cg, ct, co, li, fo, db) => (bm_FI B 4 11 11 = nI L.length ∧ L.length ≤ 700) ∧ (bm_AI B 13 = bd ∧ bm_AI B 14 = ll ∧ bm_AI B 15 = tc ∧ bm_AI B 16 = tl ∧ bm_AI B 17 = tf ∧ bm_AI B 18 = tg) ∧ (bm_FI B 4 7 11 = cf ∧ bm_FI B 4 8 11 = cg ∧ tv T (bm_FI B 4 9 11) ct ∧ bm_FI B 4 10 11 = bz co) ∧ bm_FI B 4 12 11 = li ∧ bm_FI B 4 13 11 = fo ∧ bm_FI B 4 14 11 = db
def RLe (B : bm_H) (T : List Tm) (G : LG) : Prop := LgS B ∧ RLf B T G ∧ RLc (bm_AI B 12) T G.1
def lex (y : Nat) : Prop := 11 ≤ y ∧ y ≤ 18
theorem LgS_fr {X : Nat → Prop} {B B' : bm_H} (h : LgS B) (hf : fr X B B') : LgS B' := by
  obtain ⟨⟨a1, a2⟩, ⟨f0, f1, f2, f3, f4, f5, f6⟩, ⟨b1, b2, b3⟩, ⟨c1, c2, c3⟩, ⟨d1, d2, d3⟩, ⟨e1, e2, e3⟩, ⟨g1, g2, g3⟩, ⟨k1, k2, k3⟩, m1, m2, m3⟩ := h
  exact ⟨⟨fr_lt hf a1, (fr_K hf a1).trans a2⟩, ⟨(fr_FS hf a1 4 0 rfl).trans f0, (fr_FS hf a1 4 1 rfl).trans f1, (fr_FS hf a1 4 2 rfl).trans f2, (fr_FS hf a1 4 3 rfl).trans f3, (fr_FS hf a1 4 4 rfl).trans f4, (fr_FS hf a1 4 5 rfl).trans f5, (fr_FS hf a1 4 6 rfl).trans f6⟩, ⟨fr_lt hf b1, (fr_K hf b1).trans b2, (fr_AL hf b1).trans b3⟩, ⟨fr_lt hf c1, (fr_K hf c1).trans c2, (fr_AL hf c1).trans c3⟩, ⟨fr_lt hf d1, (fr_K hf d1).trans d2, (fr_AL hf d1).trans d3⟩, ⟨fr_lt hf e1, (fr_K hf e1).trans e2, (fr_AL hf e1).trans e3⟩, ⟨fr_lt hf g1, (fr_K hf g1).trans g2, (fr_AL hf g1).trans g3⟩, ⟨fr_lt hf k1, (fr_K hf k1).trans k2, (fr_AL hf k1).trans k3⟩, fr_lt hf m1, (fr_K hf m1).trans m2, (fr_AL hf m1).trans m3⟩
theorem RLc_mono {g : Nat → Int32} {T T' : List Tm} {L : List LT} (h : RLc g T L) (hT : T <+: T') : RLc g T' L := ⟨fun i e he => by
  obtain ⟨h0, h1, h2, h3, h4, h5, h6, h7, h8⟩ := h.1 i e he
  exact ⟨tv_mono hT h0, h1, h2, h3, h4, h5, tv_mono hT h6, tv_mono hT h7, h8⟩, h.2⟩
theorem RLe_fr {X : Nat → Prop} {B B' : bm_H} {T T' : List Tm} {G : LG} (h : RLe B T G) (hf : fr X B B') (n0 : ∀ y, 11 ≤ y → y ≤ 18 → ¬ X y) (hT : T <+: T') : RLe B' T' G := by
  obtain ⟨L, bd, ll, tc, tl, tf, tg, cf, cg, ct, co, li, fo, db⟩ := G
  obtain ⟨h1, ⟨⟨a1, a2⟩, ⟨b1, b2, b3, b4, b5, b6⟩, ⟨c1, c2, c3, c4⟩, d1, d2, d3⟩, h3⟩ := h
  have e := fun k => fr_FI hf h1.1.1 (n0 11 (by omega) (by omega)) 4 k
  refine ⟨LgS_fr h1 hf, ⟨⟨(e 11).trans a1, a2⟩, ⟨(fr_AI hf h1.2.2.2.1.1 (n0 13 (by omega) (by omega))).trans b1, (fr_AI hf h1.2.2.2.2.1.1 (n0 14 (by omega) (by omega))).trans b2, (fr_AI hf h1.2.2.2.2.2.1.1 (n0 15 (by omega) (by omega))).trans b3, (fr_AI hf h1.2.2.2.2.2.2.1.1 (n0 16 (by omega) (by omega))).trans b4, (fr_AI hf h1.2.2.2.2.2.2.2.1.1 (n0 17 (by omega) (by omega))).trans b5, (fr_AI hf h1.2.2.2.2.2.2.2.2.1 (n0 18 (by omega) (by omega))).trans b6⟩, ⟨(e 7).trans c1, (e 8).trans c2, tvq (e 9) (tv_mono hT c3), (e 10).trans c4⟩, (e 12).trans d1, (e 13).trans d2, (e 14).trans d3⟩, ?_⟩
  rw [fr_AI hf h1.2.2.1.1 (n0 12 (by omega) (by omega))]
  exact RLc_mono h3 hT
theorem RLc_push {g g' : Nat → Int32} {T : List Tm} {L : List LT} {e : LT} (h : RLc g T L) (h1 : ∀ j, j < L.length * 10 → g' j = g j) (h2 : lrow g' T L.length e) (h3 : ∀ j, L.length * 10 + 10 ≤ j → g' j = g j) : RLc g' T (L ++ [e]) := by
  refine ⟨fun i e' he => ?_, fun j hj => by rw [h3 j (by simp at hj; omega)]; exact h.2 j (by simp at hj; omega)⟩
  have hi := (List.getElem?_eq_some_iff.mp he).1
  simp at hi
  by_cases c : i = L.length
  · subst c
    simp at he
    subst he
    exact h2
  · rw [List.getElem?_append_left (by omega)] at he
    obtain ⟨a0, a1, a2, a3, a4, a5, a6, a7, a8, a9⟩ := h.1 i e' he
    have q := fun k (hk : k < 10) => h1 (i * 10 + k) (by omega)
    unfold lrow
    rw [q 0 (by omega), q 1 (by omega), q 2 (by omega), q 3 (by omega), q 4 (by omega), q 5 (by omega), q 6 (by omega), q 7 (by omega), q 8 (by omega), q 9 (by omega)]
    exact ⟨a0, a1, a2, a3, a4, a5, a6, a7, a8, a9⟩
theorem RLc_set {g g' : Nat → Int32} {T : List Tm} {L : List LT} {i : Nat} {se mi th : Tm} {fm to gr ma on tk sf tk' sf' : Int32} (h : RLc g T L) (hi : L[i]? = some (se, fm, to, gr, ma, on, mi, th, tk, sf)) (h1 : ∀ j, j ≠ i * 10 + 8 → j ≠ i * 10 + 9 → g' j = g j) (h8 : g' (i * 10 + 8) = tk') (h9 : g' (i * 10 + 9) = sf') : RLc g' T (L.set i (se, fm, to, gr, ma, on, mi, th, tk', sf')) := by
  have hl := (List.getElem?_eq_some_iff.mp hi).1
  refine ⟨fun q e' he => ?_, fun j hj => by rw [h1 j (by simp at hj; omega) (by simp at hj; omega)]; exact h.2 j (by simp at hj; omega)⟩
  by_cases c : q = i
  · subst c
    rw [List.getElem?_set_self hl] at he
    cases he
    obtain ⟨a0, a1, a2, a3, a4, a5, a6, a7, a8, a9⟩ := h.1 q _ hi
    have p := fun k (hk : k < 8) => h1 (q * 10 + k) (by omega) (by omega)
    unfold lrow
    rw [p 0 (by omega), p 1 (by omega), p 2 (by omega), p 3 (by omega), p 4 (by omega), p 5 (by omega), p 6 (by omega), p 7 (by omega)]
    exact ⟨a0, a1, a2, a3, a4, a5, a6, a7, h8, h9⟩
  · rw [List.getElem?_set_ne (fun e => c e.symm)] at he
    obtain ⟨a0, a1, a2, a3, a4, a5, a6, a7, a8, a9⟩ := h.1 q e' he
    have p := fun k (hk : k < 10) => h1 (q * 10 + k) (by omega) (by omega)
    unfold lrow
    rw [p 0 (by omega), p 1 (by omega), p 2 (by omega), p 3 (by omega), p 4 (by omega), p 5 (by omega), p 6 (by omega), p 7 (by omega), p 8 (by omega), p 9 (by omega)]
    exact ⟨a0, a1, a2, a3, a4, a5, a6, a7, a8, a9⟩
theorem t_Lhas {sc : tm_X} {d : Nat} {B : bm_H} {T : List Tm} {L : List LT} {bd ll tc tl tf tg : Nat → Int32} {cf cg : Int32} {ct : Tm} {co : Bool} {li fo db : Int32} {x : Int32} {Q : Int32 → bm_H → Prop} (hR : RLe B T (L, bd, ll, tc, tl, tf, tg, cf, cg, ct, co, li, fo, db)) (kk : Q (bz (inR x (nI L.length))) B) : bm_Gi sc d 128 [.ref 11, .int x] B Q := by
  show bm_G sc d 128 0 [(0, .ref 11), (1, .int x)] [] B _
  generalize elv : ([(0, .ref 11), (1, .int x)] : tm_L) = lv
  have l0 : lv.lookup 0 = some (.ref 11) := by rw [← elv]; rfl
  have l1 : lv.lookup 1 = some (.int x) := by rw [← elv]; rfl
  clear elv
  refine g_ild (pc' := 1) cd_Le_has rfl (Or.inr ⟨_, rfl, rfl, rfl⟩) l1 rfl ?_
  refine g_if1 (t := 16) (pc' := 4) cd_Le_has rfl rfl rfl (fun c1 => ?_) (fun c1 => ?_)
  · have c1 : x < 0 := c1
    refine g_k1 (v := 0) (pc' := 17) cd_Le_has rfl (by decide) rfl ?_
    exact g_retz cd_Le_has rfl (Or.inl rfl) ⟨_, rfl, (bm_eq kk (by rw [inR_lo c1]; rfl))⟩
  · have c1 : ¬ x < 0 := c1
    refine g_ild (pc' := 5) cd_Le_has rfl (Or.inr ⟨_, rfl, rfl, rfl⟩) l1 rfl ?_
    refine g_ald (pc' := 6) cd_Le_has rfl (Or.inr ⟨_, rfl, rfl, rfl⟩) l0 rfl rfl ?_
    refine g_fI (c := 4) (k := 11) (x := nI (L.length)) (pc' := 9) cd_Le_has rfl rfl rfl rfl rfl (by decide) hR.1.1.1 hR.1.1.2 hR.2.1.1.1 ?_
    refine g_if2 (t := 16) (pc' := 12) cd_Le_has rfl rfl rfl (fun c9 => ?_) (fun c9 => ?_)
    · have c9 : (nI (L.length)) ≤ x := c9
      refine g_k1 (v := 0) (pc' := 17) cd_Le_has rfl (by decide) rfl ?_
      exact g_retz cd_Le_has rfl (Or.inl rfl) ⟨_, rfl, (bm_eq kk (by rw [inR_hi c9]; rfl))⟩
    · have c9 : ¬ (nI (L.length)) ≤ x := c9
      refine g_k1 (v := 1) (pc' := 13) cd_Le_has rfl (by decide) rfl ?_
      refine g_pure (pc' := 17) (st' := [.int 1]) cd_Le_has rfl rfl (fun _ _ => rfl) ?_
      exact g_retz cd_Le_has rfl (Or.inr rfl) ⟨_, rfl, (bm_eq kk (by rw [inR_t c1 c9]; rfl))⟩
theorem t_Lof {sc : tm_X} {d : Nat} {B : bm_H} {T : List Tm} {L : List LT} {bd ll tc tl tf tg : Nat → Int32} {cf cg : Int32} {ct : Tm} {co : Bool} {li fo db : Int32} {i k : Nat} {Q : Int32 → bm_H → Prop} (hR : RLe B T (L, bd, ll, tc, tl, tf, tg, cf, cg, ct, co, li, fo, db)) (hi : i < L.length) (hk : k < 10) (kk : Q (bm_AI B 12 (i * 10 + k)) B) : bm_Gi sc (d + 1) 129 [.ref 11, .int (nI i), .int (nI k)] B Q := by
  have h7 := hR.2.1.1.2
  show bm_G sc (d + 1) 129 0 [(0, .ref 11), (1, .int (nI i)), (2, .int (nI k))] [] B _
  generalize elv : ([(0, .ref 11), (1, .int (nI i)), (2, .int (nI k))] : tm_L) = lv
  have l0 : lv.lookup 0 = some (.ref 11) := by rw [← elv]; rfl
  have l1 : lv.lookup 1 = some (.int (nI i)) := by rw [← elv]; rfl
  have l2 : lv.lookup 2 = some (.int (nI k)) := by rw [← elv]; rfl
  clear elv
  refine g_ald (pc' := 1) cd_Le_of rfl (Or.inr ⟨_, rfl, rfl, rfl⟩) l0 rfl rfl ?_
  refine g_ild (pc' := 2) cd_Le_of rfl (Or.inr ⟨_, rfl, rfl, rfl⟩) l1 rfl ?_
  refine g_calli (pc' := 5) cd_Le_of rfl rfl rfl rfl rfl (tm_invV rfl rfl cd_Le_has rfl (Nat.le_of_ble_eq_true rfl) (by decide) hR.1.1.1 hR.1.1.2) (t_Lhas hR ?_)
  show bm_G _ _ _ 5 _ [.int (bz (inR (nI i) (nI L.length)))] B _
  refine g_if1 (t := 22) (pc' := 8) cd_Le_of rfl rfl rfl (fun c5 => ?_) (fun c5 => ?_)
  · have c5 : (inR (nI i) (nI L.length)) = false := bz_f c5
    exact absurd (inR_nI hi (by omega)) (by rw [c5]; decide)
  · have c5 : (inR (nI i) (nI L.length)) = true := bz_t c5
    refine g_ald (pc' := 9) cd_Le_of rfl (Or.inr ⟨_, rfl, rfl, rfl⟩) l0 rfl rfl ?_
    refine g_fR (c := 4) (k := 0) (x := 12) (pc' := 12) cd_Le_of rfl rfl rfl rfl rfl (by decide) hR.1.1.1 hR.1.1.2 hR.1.2.1.1 ?_
    refine g_ild (pc' := 13) cd_Le_of rfl (Or.inr ⟨_, rfl, rfl, rfl⟩) l1 rfl ?_
    refine g_k2 (v := 10) (pc' := 15) cd_Le_of rfl (by decide) rfl ?_
    refine g_pure (pc' := 16) (st' := [.int ((nI i) * 10), .ref 12]) cd_Le_of rfl rfl (fun _ _ => rfl) ?_
    rw [show ((nI i) * 10 : Int32) = nI (i * 10) from pk_mul i 10]
    refine g_ild (pc' := 17) cd_Le_of rfl (Or.inr ⟨_, rfl, rfl, rfl⟩) l2 rfl ?_
    refine g_pure (pc' := 18) (st' := [.int ((nI (i * 10)) + (nI k)), .ref 12]) cd_Le_of rfl rfl (fun _ _ => rfl) ?_
    rw [show ((nI (i * 10)) + (nI k) : Int32) = nI ((i * 10) + k) from nI_add (i * 10) k]
    refine g_aI (x := (bm_AI B 12 (i * 10 + k))) (pc' := 19) cd_Le_of rfl rfl hR.1.2.2.1.1 hR.1.2.2.1.2.1 (by rw [show bm_AL B 12 = 7000 from hR.1.2.2.1.2.2]; exact vp_in_nI (by omega) (by decide)) (congrArg (bm_AI B 12) (nI_clamp (by omega))) ?_
    refine g_pure (pc' := 23) (st' := [.int ((bm_AI B 12 (i * 10 + k)))]) cd_Le_of rfl rfl (fun _ _ => rfl) ?_
    exact g_reti cd_Le_of rfl ⟨_, rfl, kk⟩
theorem t_Lof0 {sc : tm_X} {d : Nat} {B : bm_H} {T : List Tm} {L : List LT} {bd ll tc tl tf tg : Nat → Int32} {cf cg : Int32} {ct : Tm} {co : Bool} {li fo db : Int32} {x k : Int32} {Q : Int32 → bm_H → Prop} (hR : RLe B T (L, bd, ll, tc, tl, tf, tg, cf, cg, ct, co, li, fo, db)) (hi : inR x (nI L.length) = false) (kk : Q (-1) B) : bm_Gi sc (d + 1) 129 [.ref 11, .int x, .int k] B Q := by
  show bm_G sc (d + 1) 129 0 [(0, .ref 11), (1, .int x), (2, .int k)] [] B _
  generalize elv : ([(0, .ref 11), (1, .int x), (2, .int k)] : tm_L) = lv
  have l0 : lv.lookup 0 = some (.ref 11) := by rw [← elv]; rfl
  have l1 : lv.lookup 1 = some (.int x) := by rw [← elv]; rfl
  have l2 : lv.lookup 2 = some (.int k) := by rw [← elv]; rfl
  clear elv
  refine g_ald (pc' := 1) cd_Le_of rfl (Or.inr ⟨_, rfl, rfl, rfl⟩) l0 rfl rfl ?_
  refine g_ild (pc' := 2) cd_Le_of rfl (Or.inr ⟨_, rfl, rfl, rfl⟩) l1 rfl ?_
  refine g_calli (pc' := 5) cd_Le_of rfl rfl rfl rfl rfl (tm_invV rfl rfl cd_Le_has rfl (Nat.le_of_ble_eq_true rfl) (by decide) hR.1.1.1 hR.1.1.2) (t_Lhas hR ?_)
  show bm_G _ _ _ 5 _ [.int (bz (inR x (nI L.length)))] B _
  refine g_if1 (t := 22) (pc' := 8) cd_Le_of rfl rfl rfl (fun c5 => ?_) (fun c5 => ?_)
  · have c5 : (inR x (nI L.length)) = false := bz_f c5
    refine g_k1 (v := (-1)) (pc' := 23) cd_Le_of rfl (by decide) rfl ?_
    exact g_reti cd_Le_of rfl ⟨_, rfl, kk⟩
  · have c5 : (inR x (nI L.length)) = true := bz_t c5
    exact absurd (hi.symm.trans c5) (by decide)
theorem t_noteLook {sc : tm_X} {d : Nat} {B : bm_H} {T : List Tm} {L : List LT} {bd ll tc tl tf tg : Nat → Int32} {cf cg : Int32} {ct : Tm} {co : Bool} {li fo db : Int32} {p : Nat} {x : Int32} {Q : bm_H → Prop} (hR : RLe B T (L, bd, ll, tc, tl, tf, tg, cf, cg, ct, co, li, fo, db)) (hp : p < 6) (kk : ∀ B', RLe B' T (L, bd, upd ll p x, tc, tl, tf, tg, cf, cg, ct, co, li ||| (1 <<< (nI p &&& 31)), fo, db) → fz lex B B' → Q B') : bm_Gv sc d 154 [.ref 11, .int (nI p), .int x] B Q := by
  show bm_G sc d 154 0 [(0, .ref 11), (1, .int (nI p)), (2, .int x)] [] B _
  generalize elv : ([(0, .ref 11), (1, .int (nI p)), (2, .int x)] : tm_L) = lv
  have l0 : lv.lookup 0 = some (.ref 11) := by rw [← elv]; rfl
  have l1 : lv.lookup 1 = some (.int (nI p)) := by rw [← elv]; rfl
  have l2 : lv.lookup 2 = some (.int x) := by rw [← elv]; rfl
  clear elv
  refine g_ald (pc' := 1) cd_Le_noteLook rfl (Or.inr ⟨_, rfl, rfl, rfl⟩) l0 rfl rfl ?_
  refine g_pure (pc' := 2) (st' := [.ref 11, .ref 11]) cd_Le_noteLook rfl rfl (fun _ _ => rfl) ?_
  refine g_fI (c := 4) (k := 12) (x := li) (pc' := 5) cd_Le_noteLook rfl rfl rfl rfl rfl (by decide) hR.1.1.1 hR.1.1.2 hR.2.1.2.2.2.1 ?_
  refine g_k1 (v := 1) (pc' := 6) cd_Le_noteLook rfl (by decide) rfl ?_
  refine g_ild (pc' := 7) cd_Le_noteLook rfl (Or.inr ⟨_, rfl, rfl, rfl⟩) l1 rfl ?_
  refine g_pure (pc' := 8) (st' := [.int (1 <<< ((nI p) &&& 31)), .int li, .ref 11]) cd_Le_noteLook rfl rfl (fun _ _ => rfl) ?_
  refine g_pure (pc' := 9) (st' := [.int (li ||| (1 <<< ((nI p) &&& 31))), .ref 11]) cd_Le_noteLook rfl rfl (fun _ _ => rfl) ?_
  refine g_putI (c := 4) (k := 12) (pc' := 12) cd_Le_noteLook rfl rfl rfl rfl (by simp [tm_okV, narrow, fits]) (Or.inl rfl) rfl (by decide) hR.1.1.1 hR.1.1.2 ?_
  have P1 : bm_FI (bm_putI B 4 12 11 (li ||| (1 <<< ((nI p) &&& 31)))) 4 12 11 = li ||| (1 <<< ((nI p) &&& 31)) := rfl
  have Z2 : fz lex B (bm_putI B 4 12 11 (li ||| (1 <<< ((nI p) &&& 31)))) := fz_trans (fz_rfl _ B) ⟨fr_mono (fun _ q => by unfold lex; omega) (fr_putI _ 4 12 11 _), rfl, rfl⟩
  refine g_ald (pc' := 13) cd_Le_noteLook rfl (Or.inr ⟨_, rfl, rfl, rfl⟩) l0 rfl rfl ?_
  refine g_fR (c := 4) (k := 2) (x := 14) (pc' := 16) cd_Le_noteLook rfl rfl rfl rfl rfl (by decide) hR.1.1.1 hR.1.1.2 hR.1.2.1.2.2.1 ?_
  refine g_ild (pc' := 17) cd_Le_noteLook rfl (Or.inr ⟨_, rfl, rfl, rfl⟩) l1 rfl ?_
  refine g_ild (pc' := 18) cd_Le_noteLook rfl (Or.inr ⟨_, rfl, rfl, rfl⟩) l2 rfl ?_
  refine g_iast (pc' := 19) cd_Le_noteLook rfl rfl hR.1.2.2.2.2.1.1 hR.1.2.2.2.2.1.2.1 (by rw [show bm_AL (bm_putI B 4 12 11 (li ||| (1 <<< ((nI p) &&& 31)))) 14 = 6 from hR.1.2.2.2.2.1.2.2]; exact vp_in_nI (by omega) (by decide)) ?_
  rw [show (nI p : Int32).toNatClampNeg = p from nI_clamp (by omega)]
  have A3 : bm_AI (bm_setI (bm_putI B 4 12 11 (li ||| (1 <<< ((nI p) &&& 31)))) 14 p x) 12 = (bm_AI B 12) := ((AI_setn (bm_putI B 4 12 11 (li ||| (1 <<< ((nI p) &&& 31)))) p x 12 (by decide)).trans (show bm_AI (bm_putI B 4 12 11 (li ||| (1 <<< ((nI p) &&& 31)))) 12 = (bm_AI B 12) from rfl))
  have A4 : bm_AI (bm_setI (bm_putI B 4 12 11 (li ||| (1 <<< ((nI p) &&& 31)))) 14 p x) 13 = bd := ((AI_setn (bm_putI B 4 12 11 (li ||| (1 <<< ((nI p) &&& 31)))) p x 13 (by decide)).trans (show bm_AI (bm_putI B 4 12 11 (li ||| (1 <<< ((nI p) &&& 31)))) 13 = bd from hR.2.1.2.1.1))
  have A5 : bm_AI (bm_setI (bm_putI B 4 12 11 (li ||| (1 <<< ((nI p) &&& 31)))) 14 p x) 14 = (upd ll p x) := ((AI_set (bm_putI B 4 12 11 (li ||| (1 <<< ((nI p) &&& 31)))) 14 p x).trans (congrArg (fun f => upd f p x) (show bm_AI (bm_putI B 4 12 11 (li ||| (1 <<< ((nI p) &&& 31)))) 14 = ll from hR.2.1.2.1.2.1)))
  have A6 : bm_AI (bm_setI (bm_putI B 4 12 11 (li ||| (1 <<< ((nI p) &&& 31)))) 14 p x) 15 = tc := ((AI_setn (bm_putI B 4 12 11 (li ||| (1 <<< ((nI p) &&& 31)))) p x 15 (by decide)).trans (show bm_AI (bm_putI B 4 12 11 (li ||| (1 <<< ((nI p) &&& 31)))) 15 = tc from hR.2.1.2.1.2.2.1))
  have A7 : bm_AI (bm_setI (bm_putI B 4 12 11 (li ||| (1 <<< ((nI p) &&& 31)))) 14 p x) 16 = tl := ((AI_setn (bm_putI B 4 12 11 (li ||| (1 <<< ((nI p) &&& 31)))) p x 16 (by decide)).trans (show bm_AI (bm_putI B 4 12 11 (li ||| (1 <<< ((nI p) &&& 31)))) 16 = tl from hR.2.1.2.1.2.2.2.1))
  have A8 : bm_AI (bm_setI (bm_putI B 4 12 11 (li ||| (1 <<< ((nI p) &&& 31)))) 14 p x) 17 = tf := ((AI_setn (bm_putI B 4 12 11 (li ||| (1 <<< ((nI p) &&& 31)))) p x 17 (by decide)).trans (show bm_AI (bm_putI B 4 12 11 (li ||| (1 <<< ((nI p) &&& 31)))) 17 = tf from hR.2.1.2.1.2.2.2.2.1))
  have A9 : bm_AI (bm_setI (bm_putI B 4 12 11 (li ||| (1 <<< ((nI p) &&& 31)))) 14 p x) 18 = tg := ((AI_setn (bm_putI B 4 12 11 (li ||| (1 <<< ((nI p) &&& 31)))) p x 18 (by decide)).trans (show bm_AI (bm_putI B 4 12 11 (li ||| (1 <<< ((nI p) &&& 31)))) 18 = tg from hR.2.1.2.1.2.2.2.2.2))
  have Z10 : fz lex B (bm_setI (bm_putI B 4 12 11 (li ||| (1 <<< ((nI p) &&& 31)))) 14 p x) := fz_trans Z2 ⟨fr_mono (fun _ q => by unfold lex; omega) (fr_setI _ 14 _ _), rfl, rfl⟩
  exact g_retv cd_Le_noteLook rfl ⟨rfl, (kk _ ⟨LgS_fr hR.1 Z10.1, ⟨⟨hR.2.1.1.1, hR.2.1.1.2⟩, ⟨A4, A5, A6, A7, A8, A9⟩, ⟨hR.2.1.2.2.1.1, hR.2.1.2.2.1.2.1, (tvq rfl hR.2.1.2.2.1.2.2.1), hR.2.1.2.2.1.2.2.2⟩, P1, hR.2.1.2.2.2.2.1, hR.2.1.2.2.2.2.2⟩, (by rw [show bm_AI (bm_setI (bm_putI B 4 12 11 (li ||| (1 <<< ((nI p) &&& 31)))) 14 p x) 12 = _ from A3]; exact hR.2.2)⟩ Z10)⟩
theorem t_expect {sc : tm_X} {d : Nat} {B : bm_H} {T : List Tm} {L : List LT} {bd ll tc tl tf tg : Nat → Int32} {cf cg : Int32} {ct : Tm} {co : Bool} {li fo db : Int32} {x y t : Int32} {A : Tm} {o : Bool} {Q : bm_H → Prop} (hR : RLe B T (L, bd, ll, tc, tl, tf, tg, cf, cg, ct, co, li, fo, db)) (ht : tv T t A) (kk : ∀ B', RLe B' T (L, bd, ll, tc, tl, tf, tg, x, y, A, o, li, fo, db) → fz lex B B' → Q B') : bm_Gv sc d 120 [.ref 11, .int x, .int y, .int t, .int (bz o)] B Q := by
  show bm_G sc d 120 0 [(0, .ref 11), (1, .int x), (2, .int y), (3, .int t), (4, .int (bz o))] [] B _
  generalize elv : ([(0, .ref 11), (1, .int x), (2, .int y), (3, .int t), (4, .int (bz o))] : tm_L) = lv
  have l0 : lv.lookup 0 = some (.ref 11) := by rw [← elv]; rfl
  have l1 : lv.lookup 1 = some (.int x) := by rw [← elv]; rfl
  have l2 : lv.lookup 2 = some (.int y) := by rw [← elv]; rfl
  have l3 : lv.lookup 3 = some (.int t) := by rw [← elv]; rfl
  have l4 : lv.lookup 4 = some (.int (bz o)) := by rw [← elv]; rfl
  clear elv
  refine g_ald (pc' := 1) cd_Le_expect rfl (Or.inr ⟨_, rfl, rfl, rfl⟩) l0 rfl rfl ?_
  refine g_ild (pc' := 2) cd_Le_expect rfl (Or.inr ⟨_, rfl, rfl, rfl⟩) l1 rfl ?_
  refine g_putI (c := 4) (k := 7) (pc' := 5) cd_Le_expect rfl rfl rfl rfl (by simp [tm_okV, narrow, fits]) (Or.inl rfl) rfl (by decide) hR.1.1.1 hR.1.1.2 ?_
  have P11 : bm_FI (bm_putI B 4 7 11 x) 4 7 11 = x := rfl
  have Z12 : fz lex B (bm_putI B 4 7 11 x) := fz_trans (fz_rfl _ B) ⟨fr_mono (fun _ q => by unfold lex; omega) (fr_putI _ 4 7 11 _), rfl, rfl⟩
  refine g_ald (pc' := 6) cd_Le_expect rfl (Or.inr ⟨_, rfl, rfl, rfl⟩) l0 rfl rfl ?_
  refine g_ild (pc' := 7) cd_Le_expect rfl (Or.inr ⟨_, rfl, rfl, rfl⟩) l2 rfl ?_
  refine g_putI (c := 4) (k := 8) (pc' := 10) cd_Le_expect rfl rfl rfl rfl (by simp [tm_okV, narrow, fits]) (Or.inl rfl) rfl (by decide) hR.1.1.1 hR.1.1.2 ?_
  have P13 : bm_FI (bm_putI (bm_putI B 4 7 11 x) 4 8 11 y) 4 8 11 = y := rfl
  have Z14 : fz lex B (bm_putI (bm_putI B 4 7 11 x) 4 8 11 y) := fz_trans Z12 ⟨fr_mono (fun _ q => by unfold lex; omega) (fr_putI _ 4 8 11 _), rfl, rfl⟩
  refine g_ald (pc' := 11) cd_Le_expect rfl (Or.inr ⟨_, rfl, rfl, rfl⟩) l0 rfl rfl ?_
  refine g_ild (pc' := 12) cd_Le_expect rfl (Or.inr ⟨_, rfl, rfl, rfl⟩) l3 rfl ?_
  refine g_putI (c := 4) (k := 9) (pc' := 15) cd_Le_expect rfl rfl rfl rfl (by simp [tm_okV, narrow, fits]) (Or.inl rfl) rfl (by decide) hR.1.1.1 hR.1.1.2 ?_
  have P15 : bm_FI (bm_putI (bm_putI (bm_putI B 4 7 11 x) 4 8 11 y) 4 9 11 t) 4 9 11 = t := rfl
  have Z16 : fz lex B (bm_putI (bm_putI (bm_putI B 4 7 11 x) 4 8 11 y) 4 9 11 t) := fz_trans Z14 ⟨fr_mono (fun _ q => by unfold lex; omega) (fr_putI _ 4 9 11 _), rfl, rfl⟩
  refine g_ald (pc' := 16) cd_Le_expect rfl (Or.inr ⟨_, rfl, rfl, rfl⟩) l0 rfl rfl ?_
  refine g_ild (pc' := 18) cd_Le_expect rfl (Or.inl ⟨rfl, rfl⟩) l4 rfl ?_
  refine g_putI (c := 4) (k := 10) (pc' := 21) cd_Le_expect rfl rfl rfl rfl (by cases o <;> decide) (Or.inl rfl) rfl (by decide) hR.1.1.1 hR.1.1.2 ?_
  have P17 : bm_FI (bm_putI (bm_putI (bm_putI (bm_putI B 4 7 11 x) 4 8 11 y) 4 9 11 t) 4 10 11 (bz o)) 4 10 11 = bz o := rfl
  have Z18 : fz lex B (bm_putI (bm_putI (bm_putI (bm_putI B 4 7 11 x) 4 8 11 y) 4 9 11 t) 4 10 11 (bz o)) := fz_trans Z16 ⟨fr_mono (fun _ q => by unfold lex; omega) (fr_putI _ 4 10 11 _), rfl, rfl⟩
  exact g_retv cd_Le_expect rfl ⟨rfl, (kk _ ⟨LgS_fr hR.1 Z18.1, ⟨⟨hR.2.1.1.1, hR.2.1.1.2⟩, ⟨hR.2.1.2.1.1, hR.2.1.2.1.2.1, hR.2.1.2.1.2.2.1, hR.2.1.2.1.2.2.2.1, hR.2.1.2.1.2.2.2.2.1, hR.2.1.2.1.2.2.2.2.2⟩, ⟨P11, P13, (tvq P15 ht), P17⟩, hR.2.1.2.2.2.1, hR.2.1.2.2.2.2.1, hR.2.1.2.2.2.2.2⟩, (by rw [show bm_AI (bm_putI (bm_putI (bm_putI (bm_putI B 4 7 11 x) 4 8 11 y) 4 9 11 t) 4 10 11 (bz o)) 12 = _ from rfl]; exact hR.2.2)⟩ Z18)⟩
def lg_last (tc tl tf tg : Nat → Int32) (p : Nat) (x : Int32) : Int32 := if x = 3 then tc p else if tc p = 0 then -1 else if x = 0 then tl p else if x = 1 then tf p else if x = 2 then tg p else -1
theorem t_lastTaken {sc : tm_X} {d : Nat} {B : bm_H} {T : List Tm} {L : List LT} {bd ll tc tl tf tg : Nat → Int32} {cf cg : Int32} {ct : Tm} {co : Bool} {li fo db : Int32} {p : Nat} {x : Int32} {Q : Int32 → bm_H → Prop} (hR : RLe B T (L, bd, ll, tc, tl, tf, tg, cf, cg, ct, co, li, fo, db)) (hp : p < 6) (kk : Q (lg_last tc tl tf tg p x) B) : bm_Gi sc d 161 [.ref 11, .int (nI p), .int x] B Q := by
  show bm_G sc d 161 0 [(0, .ref 11), (1, .int (nI p)), (2, .int x)] [] B _
  generalize elv : ([(0, .ref 11), (1, .int (nI p)), (2, .int x)] : tm_L) = lv
  have l0 : lv.lookup 0 = some (.ref 11) := by rw [← elv]; rfl
  have l1 : lv.lookup 1 = some (.int (nI p)) := by rw [← elv]; rfl
  have l2 : lv.lookup 2 = some (.int x) := by rw [← elv]; rfl
  clear elv
  refine g_ild (pc' := 1) cd_Le_lastTaken rfl (Or.inr ⟨_, rfl, rfl, rfl⟩) l2 rfl ?_
  refine g_k1 (v := 3) (pc' := 2) cd_Le_lastTaken rfl (by decide) rfl ?_
  refine g_if2 (t := 12) (pc' := 5) cd_Le_lastTaken rfl rfl rfl (fun c2 => ?_) (fun c2 => ?_)
  · have c2 : ¬ x = 3 := c2
    refine g_ald (pc' := 13) cd_Le_lastTaken rfl (Or.inr ⟨_, rfl, rfl, rfl⟩) l0 rfl rfl ?_
    refine g_fR (c := 4) (k := 3) (x := 15) (pc' := 16) cd_Le_lastTaken rfl rfl rfl rfl rfl (by decide) hR.1.1.1 hR.1.1.2 hR.1.2.1.2.2.2.1 ?_
    refine g_ild (pc' := 17) cd_Le_lastTaken rfl (Or.inr ⟨_, rfl, rfl, rfl⟩) l1 rfl ?_
    refine g_aI (x := (tc p)) (pc' := 18) cd_Le_lastTaken rfl rfl hR.1.2.2.2.2.2.1.1 hR.1.2.2.2.2.2.1.2.1 (by rw [show bm_AL B 15 = 6 from hR.1.2.2.2.2.2.1.2.2]; exact vp_in_nI (by omega) (by decide)) (by rw [show bm_AI B 15 = tc from hR.2.1.2.1.2.2.1]; exact congrArg tc (nI_clamp (n := p) (show (p : Nat) < 2 ^ 31 by omega))) ?_
    refine g_if1 (t := 23) (pc' := 21) cd_Le_lastTaken rfl rfl rfl (fun c18 => ?_) (fun c18 => ?_)
    · have c18 : ¬ (tc p) = 0 := c18
      refine g_ild (pc' := 24) cd_Le_lastTaken rfl (Or.inr ⟨_, rfl, rfl, rfl⟩) l2 rfl ?_
      by_cases s24_0 : x = 0
      · skip
        refine g_swk (pc' := 52) s24_0 cd_Le_lastTaken rfl rfl (fun _ _ => rfl) ?_
        refine g_ald (pc' := 53) cd_Le_lastTaken rfl (Or.inr ⟨_, rfl, rfl, rfl⟩) l0 rfl rfl ?_
        refine g_fR (c := 4) (k := 4) (x := 16) (pc' := 56) cd_Le_lastTaken rfl rfl rfl rfl rfl (by decide) hR.1.1.1 hR.1.1.2 hR.1.2.1.2.2.2.2.1 ?_
        refine g_ild (pc' := 57) cd_Le_lastTaken rfl (Or.inr ⟨_, rfl, rfl, rfl⟩) l1 rfl ?_
        refine g_aI (x := (tl p)) (pc' := 58) cd_Le_lastTaken rfl rfl hR.1.2.2.2.2.2.2.1.1 hR.1.2.2.2.2.2.2.1.2.1 (by rw [show bm_AL B 16 = 6 from hR.1.2.2.2.2.2.2.1.2.2]; exact vp_in_nI (by omega) (by decide)) (by rw [show bm_AI B 16 = tl from hR.2.1.2.1.2.2.2.1]; exact congrArg tl (nI_clamp (n := p) (show (p : Nat) < 2 ^ 31 by omega))) ?_
        exact g_reti cd_Le_lastTaken rfl ⟨_, rfl, (bm_eq kk (by unfold lg_last; rw [if_neg c2]; rw [if_neg c18]; rw [if_pos s24_0]))⟩
      by_cases s24_1 : x = 1
      · skip
        refine g_swk (pc' := 59) s24_1 cd_Le_lastTaken rfl rfl (fun _ _ => rfl) ?_
        refine g_ald (pc' := 60) cd_Le_lastTaken rfl (Or.inr ⟨_, rfl, rfl, rfl⟩) l0 rfl rfl ?_
        refine g_fR (c := 4) (k := 5) (x := 17) (pc' := 63) cd_Le_lastTaken rfl rfl rfl rfl rfl (by decide) hR.1.1.1 hR.1.1.2 hR.1.2.1.2.2.2.2.2.1 ?_
        refine g_ild (pc' := 64) cd_Le_lastTaken rfl (Or.inr ⟨_, rfl, rfl, rfl⟩) l1 rfl ?_
        refine g_aI (x := (tf p)) (pc' := 65) cd_Le_lastTaken rfl rfl hR.1.2.2.2.2.2.2.2.1.1 hR.1.2.2.2.2.2.2.2.1.2.1 (by rw [show bm_AL B 17 = 6 from hR.1.2.2.2.2.2.2.2.1.2.2]; exact vp_in_nI (by omega) (by decide)) (by rw [show bm_AI B 17 = tf from hR.2.1.2.1.2.2.2.2.1]; exact congrArg tf (nI_clamp (n := p) (show (p : Nat) < 2 ^ 31 by omega))) ?_
        exact g_reti cd_Le_lastTaken rfl ⟨_, rfl, (bm_eq kk (by unfold lg_last; rw [if_neg c2]; rw [if_neg c18]; rw [if_neg s24_0]; rw [if_pos s24_1]))⟩
      by_cases s24_2 : x = 2
      · skip
        refine g_swk (pc' := 66) s24_2 cd_Le_lastTaken rfl rfl (fun _ _ => rfl) ?_
        refine g_ald (pc' := 67) cd_Le_lastTaken rfl (Or.inr ⟨_, rfl, rfl, rfl⟩) l0 rfl rfl ?_
        refine g_fR (c := 4) (k := 6) (x := 18) (pc' := 70) cd_Le_lastTaken rfl rfl rfl rfl rfl (by decide) hR.1.1.1 hR.1.1.2 hR.1.2.1.2.2.2.2.2.2 ?_
        refine g_ild (pc' := 71) cd_Le_lastTaken rfl (Or.inr ⟨_, rfl, rfl, rfl⟩) l1 rfl ?_
        refine g_aI (x := (tg p)) (pc' := 72) cd_Le_lastTaken rfl rfl hR.1.2.2.2.2.2.2.2.2.1 hR.1.2.2.2.2.2.2.2.2.2.1 (by rw [show bm_AL B 18 = 6 from hR.1.2.2.2.2.2.2.2.2.2.2]; exact vp_in_nI (by omega) (by decide)) (by rw [show bm_AI B 18 = tg from hR.2.1.2.1.2.2.2.2.2]; exact congrArg tg (nI_clamp (n := p) (show (p : Nat) < 2 ^ 31 by omega))) ?_
        exact g_reti cd_Le_lastTaken rfl ⟨_, rfl, (bm_eq kk (by unfold lg_last; rw [if_neg c2]; rw [if_neg c18]; rw [if_neg s24_0]; rw [if_neg s24_1]; rw [if_pos s24_2]))⟩
      refine g_swd (t := 73) cd_Le_lastTaken rfl rfl (by have := i32_ne (n := 0) (by decide) s24_0; have := i32_ne (n := 1) (by decide) s24_1; have := i32_ne (n := 2) (by decide) s24_2; omega) ?_
      refine g_k1 (v := (-1)) (pc' := 74) cd_Le_lastTaken rfl (by decide) rfl ?_
      exact g_reti cd_Le_lastTaken rfl ⟨_, rfl, (bm_eq kk (by unfold lg_last; rw [if_neg c2]; rw [if_neg c18]; rw [if_neg s24_0]; rw [if_neg s24_1]; rw [if_neg s24_2]))⟩
    · have c18 : (tc p) = 0 := Classical.not_not.mp c18
      refine g_k1 (v := (-1)) (pc' := 22) cd_Le_lastTaken rfl (by decide) rfl ?_
      exact g_reti cd_Le_lastTaken rfl ⟨_, rfl, (bm_eq kk (by unfold lg_last; rw [if_neg c2]; rw [if_pos c18]))⟩
  · have c2 : x = 3 := Classical.not_not.mp c2
    refine g_ald (pc' := 6) cd_Le_lastTaken rfl (Or.inr ⟨_, rfl, rfl, rfl⟩) l0 rfl rfl ?_
    refine g_fR (c := 4) (k := 3) (x := 15) (pc' := 9) cd_Le_lastTaken rfl rfl rfl rfl rfl (by decide) hR.1.1.1 hR.1.1.2 hR.1.2.1.2.2.2.1 ?_
    refine g_ild (pc' := 10) cd_Le_lastTaken rfl (Or.inr ⟨_, rfl, rfl, rfl⟩) l1 rfl ?_
    refine g_aI (x := (tc p)) (pc' := 11) cd_Le_lastTaken rfl rfl hR.1.2.2.2.2.2.1.1 hR.1.2.2.2.2.2.1.2.1 (by rw [show bm_AL B 15 = 6 from hR.1.2.2.2.2.2.1.2.2]; exact vp_in_nI (by omega) (by decide)) (by rw [show bm_AI B 15 = tc from hR.2.1.2.1.2.2.1]; exact congrArg tc (nI_clamp (n := p) (show (p : Nat) < 2 ^ 31 by omega))) ?_
    exact g_reti cd_Le_lastTaken rfl ⟨_, rfl, (bm_eq kk (by unfold lg_last; rw [if_pos c2]))⟩
