/-! The reference is made: its arrays. -/
def MoN (i s : Nat) (f : Nat → Int32) (B0 B : bm_H) : Prop := fr0 B0 B ∧ (bm_n B = 1483 + i ∧ bm_sl B = bm_sl B0 + s) ∧ bm_K B 1482 = 12 ∧ (∀ k, bm_FI B 12 k 1482 = f k) ∧ ∀ (r k a t n : Nat), r < i → mTab[r]? = some (k, a, t, n) → bm_FR B 12 k 1482 = some (1482 + a) ∧ 1482 + a < bm_n B ∧ bm_K B (1482 + a) = t ∧ bm_AL B (1482 + a) = n ∧ bm_AI B (1482 + a) = fun _ => 0
theorem mTab_inc : mTab.Pairwise (fun p q => p.1 < q.1) := by decide
theorem mTab_a {r k a t n : Nat} (h : mTab[r]? = some (k, a, t, n)) : a = r + 1 := by
  have q : (List.range 46).all (fun r => (mTab[r]?.map fun x => x.2.1) == some (r + 1)) = true := by decide
  have hr : r < 46 := (List.getElem?_eq_some_iff.mp h).1
  have := List.all_eq_true.mp q r (List.mem_range.mpr hr)
  rw [h] at this
  simpa using this
theorem MoN_step {i s k t n : Nat} {f : Nat → Int32} {B0 B B' : bm_H} (h : MoN i s f B0 B) (h0 : bm_n B0 ≤ 1482) (hr : mTab[i]? = some (k, i + 1, t, n)) (hN : NwA B B' (1483 + i) t n) : MoN (i + 1) (s + n) f B0 (bm_putR B' 12 k 1482 (some (1483 + i))) := by
  obtain ⟨a1, ⟨a2, a3⟩, a4, a5, a6⟩ := h
  obtain ⟨b1, ⟨b2, b3⟩, ⟨b4, b5, b6⟩, b7, -⟩ := hN
  have c := b1.2 1482 (by omega)
  refine ⟨fr0_putR (fr0_trans a1 b1) h0, ⟨?_, ?_⟩, c.2.1.trans a4, fun k => (c.2.2.2.1 12 k).trans (a5 k), fun r k' a' t' n' hr1 hr2 => ?_⟩
  · show bm_n B' = _; omega
  · show bm_sl B' = _; omega
  · by_cases e : r = i
    · subst e
      rw [hr] at hr2
      simp only [Option.some.injEq, Prod.mk.injEq] at hr2
      obtain ⟨rfl, rfl, rfl, rfl⟩ := hr2
      have e1 : 1482 + (r + 1) = 1483 + r := by omega
      rw [e1]
      exact ⟨if_pos ⟨rfl, rfl, rfl⟩, b4, b5, b6, b7⟩
    · obtain ⟨d1, d2, d3, d4, d5⟩ := a6 r k' a' t' n' (by omega) hr2
      have c' := b1.2 (1482 + a') d2
      have hk : k' < k := by
        have l1 := List.getElem?_eq_some_iff.mp hr2
        have l2 := List.getElem?_eq_some_iff.mp hr
        have := List.pairwise_iff_getElem.mp mTab_inc r i l1.1 l2.1 (by omega)
        rw [l1.2, l2.2] at this
        exact this
      exact ⟨(if_neg (fun q => absurd q.2.1 (by omega))).trans ((c.2.2.2.2.1 12 k').trans d1), c'.1, c'.2.1.trans d3, c'.2.2.1.trans d4, c'.2.2.2.2.2.1.trans d5⟩
theorem MoN_put {i s k : Nat} {v : Int32} {f : Nat → Int32} {B0 B : bm_H} (h : MoN i s f B0 B) (h0 : bm_n B0 ≤ 1482) : MoN i s (fset f k v) B0 (bm_putI B 12 k 1482 v) := by
  obtain ⟨a1, a2, a4, a5, a6⟩ := h
  refine ⟨fr0_putI a1 h0, a2, a4, fun k' => ?_, a6⟩
  show (if 12 = 12 ∧ k' = k ∧ 1482 = 1482 then v else bm_FI B 12 k' 1482) = if k' = k then v else f k'
  by_cases e : k' = k
  · rw [if_pos ⟨rfl, e, rfl⟩, if_pos e]
  · rw [if_neg (fun q => e q.2.1), if_neg e]; exact a5 k'
theorem MoN_lt {i s : Nat} {f : Nat → Int32} {B0 B : bm_H} (h : MoN i s f B0 B) : 1482 < bm_n B := by have := h.2.1.1; omega
theorem MoN_K {i s : Nat} {f : Nat → Int32} {B0 B B' : bm_H} {t n : Nat} (h : MoN i s f B0 B) (hN : NwA B B' (1483 + i) t n) : 1482 < bm_n B' ∧ bm_K B' 1482 = 12 := by
  have c := hN.1.2 1482 (by have := h.2.1.1; omega)
  exact ⟨c.1, c.2.1.trans h.2.2.1⟩
theorem MoN_S {s : Nat} {f : Nat → Int32} {B0 B : bm_H} (h : MoN 46 s f B0 B) : MoS B ∧ (mS B).1 = f ∧ ∀ a, 1 ≤ a → a ≤ 46 → (mS B).2 a = fun _ => 0 := by
  obtain ⟨a1, ⟨a2, a3⟩, a4, a5, a6⟩ := h
  refine ⟨⟨⟨by omega, a4⟩, fun i k a t n hr => ?_⟩, funext fun k => a5 k, fun a h1 h2 => ?_⟩
  · have q := a6 i k a t n (List.getElem?_eq_some_iff.mp hr).1 hr
    exact ⟨q.1, q.2.1, q.2.2.1, q.2.2.2.1⟩
  · have hl : a - 1 < mTab.length := by show a - 1 < 46; omega
    obtain ⟨⟨k, a', t, n⟩, e⟩ : ∃ x, mTab[a - 1]? = some x := ⟨_, List.getElem?_eq_getElem hl⟩
    have ea := mTab_a e
    have q := a6 (a - 1) k a' t n (by omega) e
    have e2 : a' = a := by omega
    subst e2
    exact q.2.2.2.2
set_option maxRecDepth 100000 in
theorem i_Mo1 {sc : tm_X} {d : Nat} {B0 B1 : bm_H} {Q : bm_H → Prop} (hm : bm_n B0 = 1482) (h : NwO B0 B1 1482 12 65) (kk : ∀ B (lv : tm_L), MoN 46 95069 (fset (fset (fun _ => 0) 0 1) 16 1) B0 B → lv.lookup 0 = some (.ref 1482) → lv.lookup 1 = some (.int 0) → bm_G sc (d + 8) 178 413 lv [] B (fun r B' => r = none ∧ Q B')) : bm_Gv sc (d + 8) 178 [.ref 1482] B1 Q := by
  have h0 : bm_n B0 ≤ 1482 := by omega
  have N0 : MoN 0 65 (fun _ => 0) B0 B1 := ⟨h.1, ⟨h.2.1.1, h.2.1.2⟩, h.2.2.1.2, fun k => h.2.2.2.1 12 k, fun r _ _ _ _ hr => absurd hr (Nat.not_lt_zero r)⟩
  show bm_G _ _ _ 0 [(0, .ref 1482)] [] B1 _
  generalize elv : ([(0, .ref 1482)] : tm_L) = lv
  have l0 : lv.lookup 0 = some (.ref 1482) := by rw [← elv]; rfl
  clear elv
  refine g_ald (pc' := 1) cd_Mo_init rfl (Or.inr ⟨_, rfl, rfl, rfl⟩) l0 rfl rfl ?_
  refine n_super (pc' := 4) cd_Mo_init rfl rfl rfl rfl ?_
  refine g_ald (pc' := 5) cd_Mo_init rfl (Or.inr ⟨_, rfl, rfl, rfl⟩) l0 rfl rfl ?_
  refine g_k1 (v := 1) (pc' := 6) cd_Mo_init rfl (by decide) rfl ?_
  refine g_putI (c := 12) (k := 0) (pc' := 9) cd_Mo_init rfl rfl rfl rfl (by simp [tm_okV, narrow, fits]) (Or.inl rfl) rfl (by decide) (MoN_lt N0) N0.2.2.1 ?_
  have N1 := MoN_put (k := 0) (v := 1) N0 h0
  refine g_ald (pc' := 10) cd_Mo_init rfl (Or.inr ⟨_, rfl, rfl, rfl⟩) l0 rfl rfl ?_
  refine g_k3 (v := 4096) (pc' := 13) cd_Mo_init rfl (by decide) rfl ?_
  refine n_int 4096 N1.2.1.1 cd_Mo_init rfl rfl (by decide) (by decide) (by decide) (fun B3 h3 => ?_)
  have K3 := MoN_K N1 h3
  refine g_putR (v := some (1483 + 0)) (c := 12) (k := 1) (pc' := 18) rfl cd_Mo_init rfl rfl rfl rfl (by simp [tm_okV, narrow, fits]) (Or.inl rfl) rfl (by decide) K3.1 K3.2 ?_
  have N2 := MoN_step N1 h0 (k := 1) (t := 13) (n := 4096) rfl h3
  refine g_ald (pc' := 19) cd_Mo_init rfl (Or.inr ⟨_, rfl, rfl, rfl⟩) l0 rfl rfl ?_
  refine g_k3 (v := 4096) (pc' := 22) cd_Mo_init rfl (by decide) rfl ?_
  refine n_int 4096 N2.2.1.1 cd_Mo_init rfl rfl (by decide) (by decide) (by decide) (fun B4 h4 => ?_)
  have K4 := MoN_K N2 h4
  refine g_putR (v := some (1483 + 1)) (c := 12) (k := 2) (pc' := 27) rfl cd_Mo_init rfl rfl rfl rfl (by simp [tm_okV, narrow, fits]) (Or.inl rfl) rfl (by decide) K4.1 K4.2 ?_
  have N3 := MoN_step N2 h0 (k := 2) (t := 13) (n := 4096) rfl h4
  refine g_ald (pc' := 28) cd_Mo_init rfl (Or.inr ⟨_, rfl, rfl, rfl⟩) l0 rfl rfl ?_
  refine g_k3 (v := 4096) (pc' := 31) cd_Mo_init rfl (by decide) rfl ?_
  refine n_int 4096 N3.2.1.1 cd_Mo_init rfl rfl (by decide) (by decide) (by decide) (fun B5 h5 => ?_)
  have K5 := MoN_K N3 h5
  refine g_putR (v := some (1483 + 2)) (c := 12) (k := 3) (pc' := 36) rfl cd_Mo_init rfl rfl rfl rfl (by simp [tm_okV, narrow, fits]) (Or.inl rfl) rfl (by decide) K5.1 K5.2 ?_
  have N4 := MoN_step N3 h0 (k := 3) (t := 13) (n := 4096) rfl h5
  refine g_ald (pc' := 37) cd_Mo_init rfl (Or.inr ⟨_, rfl, rfl, rfl⟩) l0 rfl rfl ?_
  refine g_k3 (v := 4096) (pc' := 40) cd_Mo_init rfl (by decide) rfl ?_
  refine n_int 4096 N4.2.1.1 cd_Mo_init rfl rfl (by decide) (by decide) (by decide) (fun B6 h6 => ?_)
  have K6 := MoN_K N4 h6
  refine g_putR (v := some (1483 + 3)) (c := 12) (k := 4) (pc' := 45) rfl cd_Mo_init rfl rfl rfl rfl (by simp [tm_okV, narrow, fits]) (Or.inl rfl) rfl (by decide) K6.1 K6.2 ?_
  have N5 := MoN_step N4 h0 (k := 4) (t := 13) (n := 4096) rfl h6
  refine g_ald (pc' := 46) cd_Mo_init rfl (Or.inr ⟨_, rfl, rfl, rfl⟩) l0 rfl rfl ?_
  refine g_k3 (v := 4096) (pc' := 49) cd_Mo_init rfl (by decide) rfl ?_
  refine n_bool 4096 N5.2.1.1 cd_Mo_init rfl rfl (by decide) (by decide) (by decide) (fun B7 h7 => ?_)
  have K7 := MoN_K N5 h7
  refine g_putR (v := some (1483 + 4)) (c := 12) (k := 5) (pc' := 54) rfl cd_Mo_init rfl rfl rfl rfl (by simp [tm_okV, narrow, fits]) (Or.inl rfl) rfl (by decide) K7.1 K7.2 ?_
  have N6 := MoN_step N5 h0 (k := 5) (t := 14) (n := 4096) rfl h7
  refine g_ald (pc' := 55) cd_Mo_init rfl (Or.inr ⟨_, rfl, rfl, rfl⟩) l0 rfl rfl ?_
  refine g_k3 (v := 4096) (pc' := 58) cd_Mo_init rfl (by decide) rfl ?_
  refine n_bool 4096 N6.2.1.1 cd_Mo_init rfl rfl (by decide) (by decide) (by decide) (fun B8 h8 => ?_)
  have K8 := MoN_K N6 h8
  refine g_putR (v := some (1483 + 5)) (c := 12) (k := 6) (pc' := 63) rfl cd_Mo_init rfl rfl rfl rfl (by simp [tm_okV, narrow, fits]) (Or.inl rfl) rfl (by decide) K8.1 K8.2 ?_
  have N7 := MoN_step N6 h0 (k := 6) (t := 14) (n := 4096) rfl h8
  refine g_ald (pc' := 64) cd_Mo_init rfl (Or.inr ⟨_, rfl, rfl, rfl⟩) l0 rfl rfl ?_
  refine g_k3 (v := 8192) (pc' := 67) cd_Mo_init rfl (by decide) rfl ?_
  refine n_int 8192 N7.2.1.1 cd_Mo_init rfl rfl (by decide) (by decide) (by decide) (fun B9 h9 => ?_)
  have K9 := MoN_K N7 h9
  refine g_putR (v := some (1483 + 6)) (c := 12) (k := 8) (pc' := 72) rfl cd_Mo_init rfl rfl rfl rfl (by simp [tm_okV, narrow, fits]) (Or.inl rfl) rfl (by decide) K9.1 K9.2 ?_
  have N8 := MoN_step N7 h0 (k := 8) (t := 13) (n := 8192) rfl h9
  refine g_ald (pc' := 73) cd_Mo_init rfl (Or.inr ⟨_, rfl, rfl, rfl⟩) l0 rfl rfl ?_
  refine g_k3 (v := 8192) (pc' := 76) cd_Mo_init rfl (by decide) rfl ?_
  refine n_int 8192 N8.2.1.1 cd_Mo_init rfl rfl (by decide) (by decide) (by decide) (fun B10 h10 => ?_)
  have K10 := MoN_K N8 h10
  refine g_putR (v := some (1483 + 7)) (c := 12) (k := 9) (pc' := 81) rfl cd_Mo_init rfl rfl rfl rfl (by simp [tm_okV, narrow, fits]) (Or.inl rfl) rfl (by decide) K10.1 K10.2 ?_
  have N9 := MoN_step N8 h0 (k := 9) (t := 13) (n := 8192) rfl h10
  refine g_ald (pc' := 82) cd_Mo_init rfl (Or.inr ⟨_, rfl, rfl, rfl⟩) l0 rfl rfl ?_
  refine g_k2 (v := 8) (pc' := 84) cd_Mo_init rfl (by decide) rfl ?_
  refine n_int 8 N9.2.1.1 cd_Mo_init rfl rfl (by decide) (by decide) (by decide) (fun B11 h11 => ?_)
  have K11 := MoN_K N9 h11
  refine g_putR (v := some (1483 + 8)) (c := 12) (k := 10) (pc' := 89) rfl cd_Mo_init rfl rfl rfl rfl (by simp [tm_okV, narrow, fits]) (Or.inr ⟨rfl, rfl, rfl, rfl⟩) rfl (by decide) K11.1 K11.2 ?_
  have N10 := MoN_step N9 h0 (k := 10) (t := 13) (n := 8) rfl h11
  refine g_ald (pc' := 90) cd_Mo_init rfl (Or.inr ⟨_, rfl, rfl, rfl⟩) l0 rfl rfl ?_
  refine g_k3 (v := 3064) (pc' := 93) cd_Mo_init rfl (by decide) rfl ?_
  refine n_int 3064 N10.2.1.1 cd_Mo_init rfl rfl (by decide) (by decide) (by decide) (fun B12 h12 => ?_)
  have K12 := MoN_K N10 h12
  refine g_putR (v := some (1483 + 9)) (c := 12) (k := 12) (pc' := 98) rfl cd_Mo_init rfl rfl rfl rfl (by simp [tm_okV, narrow, fits]) (Or.inr ⟨rfl, rfl, rfl, rfl⟩) rfl (by decide) K12.1 K12.2 ?_
  have N11 := MoN_step N10 h0 (k := 12) (t := 13) (n := 3064) rfl h12
  refine g_ald (pc' := 99) cd_Mo_init rfl (Or.inr ⟨_, rfl, rfl, rfl⟩) l0 rfl rfl ?_
  refine g_k3 (v := 3064) (pc' := 102) cd_Mo_init rfl (by decide) rfl ?_
  refine n_int 3064 N11.2.1.1 cd_Mo_init rfl rfl (by decide) (by decide) (by decide) (fun B13 h13 => ?_)
  have K13 := MoN_K N11 h13
  refine g_putR (v := some (1483 + 10)) (c := 12) (k := 13) (pc' := 107) rfl cd_Mo_init rfl rfl rfl rfl (by simp [tm_okV, narrow, fits]) (Or.inr ⟨rfl, rfl, rfl, rfl⟩) rfl (by decide) K13.1 K13.2 ?_
  have N12 := MoN_step N11 h0 (k := 13) (t := 13) (n := 3064) rfl h13
  refine g_ald (pc' := 108) cd_Mo_init rfl (Or.inr ⟨_, rfl, rfl, rfl⟩) l0 rfl rfl ?_
  refine g_k3 (v := 3064) (pc' := 111) cd_Mo_init rfl (by decide) rfl ?_
  refine n_bool 3064 N12.2.1.1 cd_Mo_init rfl rfl (by decide) (by decide) (by decide) (fun B14 h14 => ?_)
  have K14 := MoN_K N12 h14
  refine g_putR (v := some (1483 + 11)) (c := 12) (k := 14) (pc' := 116) rfl cd_Mo_init rfl rfl rfl rfl (by simp [tm_okV, narrow, fits]) (Or.inr ⟨rfl, rfl, rfl, rfl⟩) rfl (by decide) K14.1 K14.2 ?_
  have N13 := MoN_step N12 h0 (k := 14) (t := 14) (n := 3064) rfl h14
  refine g_ald (pc' := 117) cd_Mo_init rfl (Or.inr ⟨_, rfl, rfl, rfl⟩) l0 rfl rfl ?_
  refine g_k3 (v := 3064) (pc' := 120) cd_Mo_init rfl (by decide) rfl ?_
  refine n_int 3064 N13.2.1.1 cd_Mo_init rfl rfl (by decide) (by decide) (by decide) (fun B15 h15 => ?_)
  have K15 := MoN_K N13 h15
  refine g_putR (v := some (1483 + 12)) (c := 12) (k := 15) (pc' := 125) rfl cd_Mo_init rfl rfl rfl rfl (by simp [tm_okV, narrow, fits]) (Or.inr ⟨rfl, rfl, rfl, rfl⟩) rfl (by decide) K15.1 K15.2 ?_
  have N14 := MoN_step N13 h0 (k := 15) (t := 13) (n := 3064) rfl h15
  refine g_ald (pc' := 126) cd_Mo_init rfl (Or.inr ⟨_, rfl, rfl, rfl⟩) l0 rfl rfl ?_
  refine g_k1 (v := 1) (pc' := 127) cd_Mo_init rfl (by decide) rfl ?_
  refine g_putI (c := 12) (k := 16) (pc' := 130) cd_Mo_init rfl rfl rfl rfl (by decide) (Or.inl rfl) rfl (by decide) (MoN_lt N14) N14.2.2.1 ?_
  have N15 := MoN_put (k := 16) (v := 1) N14 h0
  refine g_ald (pc' := 131) cd_Mo_init rfl (Or.inr ⟨_, rfl, rfl, rfl⟩) l0 rfl rfl ?_
  refine g_k3 (v := 9612) (pc' := 134) cd_Mo_init rfl (by decide) rfl ?_
  refine n_int 9612 N15.2.1.1 cd_Mo_init rfl rfl (by decide) (by decide) (by decide) (fun B17 h17 => ?_)
  have K17 := MoN_K N15 h17
  refine g_putR (v := some (1483 + 13)) (c := 12) (k := 17) (pc' := 139) rfl cd_Mo_init rfl rfl rfl rfl (by simp [tm_okV, narrow, fits]) (Or.inr ⟨rfl, rfl, rfl, rfl⟩) rfl (by decide) K17.1 K17.2 ?_
  have N16 := MoN_step N15 h0 (k := 17) (t := 13) (n := 9612) rfl h17
  refine g_ald (pc' := 140) cd_Mo_init rfl (Or.inr ⟨_, rfl, rfl, rfl⟩) l0 rfl rfl ?_
  refine g_k3 (v := 1602) (pc' := 143) cd_Mo_init rfl (by decide) rfl ?_
  refine n_int 1602 N16.2.1.1 cd_Mo_init rfl rfl (by decide) (by decide) (by decide) (fun B18 h18 => ?_)
  have K18 := MoN_K N16 h18
  refine g_putR (v := some (1483 + 14)) (c := 12) (k := 18) (pc' := 148) rfl cd_Mo_init rfl rfl rfl rfl (by simp [tm_okV, narrow, fits]) (Or.inr ⟨rfl, rfl, rfl, rfl⟩) rfl (by decide) K18.1 K18.2 ?_
  have N17 := MoN_step N16 h0 (k := 18) (t := 13) (n := 1602) rfl h18
  refine g_ald (pc' := 149) cd_Mo_init rfl (Or.inr ⟨_, rfl, rfl, rfl⟩) l0 rfl rfl ?_
  refine g_k2 (v := 6) (pc' := 151) cd_Mo_init rfl (by decide) rfl ?_
  refine n_int 6 N17.2.1.1 cd_Mo_init rfl rfl (by decide) (by decide) (by decide) (fun B19 h19 => ?_)
  have K19 := MoN_K N17 h19
  refine g_putR (v := some (1483 + 15)) (c := 12) (k := 19) (pc' := 156) rfl cd_Mo_init rfl rfl rfl rfl (by simp [tm_okV, narrow, fits]) (Or.inr ⟨rfl, rfl, rfl, rfl⟩) rfl (by decide) K19.1 K19.2 ?_
  have N18 := MoN_step N17 h0 (k := 19) (t := 13) (n := 6) rfl h19
  refine g_ald (pc' := 157) cd_Mo_init rfl (Or.inr ⟨_, rfl, rfl, rfl⟩) l0 rfl rfl ?_
  refine g_k2 (v := 30) (pc' := 159) cd_Mo_init rfl (by decide) rfl ?_
  refine n_int 30 N18.2.1.1 cd_Mo_init rfl rfl (by decide) (by decide) (by decide) (fun B20 h20 => ?_)
  have K20 := MoN_K N18 h20
  refine g_putR (v := some (1483 + 16)) (c := 12) (k := 20) (pc' := 164) rfl cd_Mo_init rfl rfl rfl rfl (by simp [tm_okV, narrow, fits]) (Or.inr ⟨rfl, rfl, rfl, rfl⟩) rfl (by decide) K20.1 K20.2 ?_
  have N19 := MoN_step N18 h0 (k := 20) (t := 13) (n := 30) rfl h20
  refine g_ald (pc' := 165) cd_Mo_init rfl (Or.inr ⟨_, rfl, rfl, rfl⟩) l0 rfl rfl ?_
  refine g_k3 (v := 14400) (pc' := 168) cd_Mo_init rfl (by decide) rfl ?_
  refine n_int 14400 N19.2.1.1 cd_Mo_init rfl rfl (by decide) (by decide) (by decide) (fun B21 h21 => ?_)
  have K21 := MoN_K N19 h21
  refine g_putR (v := some (1483 + 17)) (c := 12) (k := 22) (pc' := 173) rfl cd_Mo_init rfl rfl rfl rfl (by simp [tm_okV, narrow, fits]) (Or.inr ⟨rfl, rfl, rfl, rfl⟩) rfl (by decide) K21.1 K21.2 ?_
  have N20 := MoN_step N19 h0 (k := 22) (t := 13) (n := 14400) rfl h21
  refine g_ald (pc' := 174) cd_Mo_init rfl (Or.inr ⟨_, rfl, rfl, rfl⟩) l0 rfl rfl ?_
  refine g_k3 (v := 900) (pc' := 177) cd_Mo_init rfl (by decide) rfl ?_
  refine n_bool 900 N20.2.1.1 cd_Mo_init rfl rfl (by decide) (by decide) (by decide) (fun B22 h22 => ?_)
  have K22 := MoN_K N20 h22
  refine g_putR (v := some (1483 + 18)) (c := 12) (k := 23) (pc' := 182) rfl cd_Mo_init rfl rfl rfl rfl (by simp [tm_okV, narrow, fits]) (Or.inr ⟨rfl, rfl, rfl, rfl⟩) rfl (by decide) K22.1 K22.2 ?_
  have N21 := MoN_step N20 h0 (k := 23) (t := 14) (n := 900) rfl h22
  refine g_ald (pc' := 183) cd_Mo_init rfl (Or.inr ⟨_, rfl, rfl, rfl⟩) l0 rfl rfl ?_
  refine g_k2 (v := 12) (pc' := 185) cd_Mo_init rfl (by decide) rfl ?_
  refine n_int 12 N21.2.1.1 cd_Mo_init rfl rfl (by decide) (by decide) (by decide) (fun B23 h23 => ?_)
  have K23 := MoN_K N21 h23
  refine g_putR (v := some (1483 + 19)) (c := 12) (k := 24) (pc' := 190) rfl cd_Mo_init rfl rfl rfl rfl (by simp [tm_okV, narrow, fits]) (Or.inr ⟨rfl, rfl, rfl, rfl⟩) rfl (by decide) K23.1 K23.2 ?_
  have N22 := MoN_step N21 h0 (k := 24) (t := 13) (n := 12) rfl h23
  refine g_ald (pc' := 191) cd_Mo_init rfl (Or.inr ⟨_, rfl, rfl, rfl⟩) l0 rfl rfl ?_
  refine g_k2 (v := 6) (pc' := 193) cd_Mo_init rfl (by decide) rfl ?_
  refine n_int 6 N22.2.1.1 cd_Mo_init rfl rfl (by decide) (by decide) (by decide) (fun B24 h24 => ?_)
  have K24 := MoN_K N22 h24
  refine g_putR (v := some (1483 + 20)) (c := 12) (k := 25) (pc' := 198) rfl cd_Mo_init rfl rfl rfl rfl (by simp [tm_okV, narrow, fits]) (Or.inr ⟨rfl, rfl, rfl, rfl⟩) rfl (by decide) K24.1 K24.2 ?_
  have N23 := MoN_step N22 h0 (k := 25) (t := 13) (n := 6) rfl h24
  refine g_ald (pc' := 199) cd_Mo_init rfl (Or.inr ⟨_, rfl, rfl, rfl⟩) l0 rfl rfl ?_
  refine g_k2 (v := 6) (pc' := 201) cd_Mo_init rfl (by decide) rfl ?_
  refine n_bool 6 N23.2.1.1 cd_Mo_init rfl rfl (by decide) (by decide) (by decide) (fun B25 h25 => ?_)
  have K25 := MoN_K N23 h25
  refine g_putR (v := some (1483 + 21)) (c := 12) (k := 26) (pc' := 206) rfl cd_Mo_init rfl rfl rfl rfl (by simp [tm_okV, narrow, fits]) (Or.inr ⟨rfl, rfl, rfl, rfl⟩) rfl (by decide) K25.1 K25.2 ?_
  have N24 := MoN_step N23 h0 (k := 26) (t := 14) (n := 6) rfl h25
  refine g_ald (pc' := 207) cd_Mo_init rfl (Or.inr ⟨_, rfl, rfl, rfl⟩) l0 rfl rfl ?_
  refine g_k2 (v := 6) (pc' := 209) cd_Mo_init rfl (by decide) rfl ?_
  refine n_int 6 N24.2.1.1 cd_Mo_init rfl rfl (by decide) (by decide) (by decide) (fun B26 h26 => ?_)
  have K26 := MoN_K N24 h26
  refine g_putR (v := some (1483 + 22)) (c := 12) (k := 27) (pc' := 214) rfl cd_Mo_init rfl rfl rfl rfl (by simp [tm_okV, narrow, fits]) (Or.inr ⟨rfl, rfl, rfl, rfl⟩) rfl (by decide) K26.1 K26.2 ?_
  have N25 := MoN_step N24 h0 (k := 27) (t := 13) (n := 6) rfl h26
  refine g_ald (pc' := 215) cd_Mo_init rfl (Or.inr ⟨_, rfl, rfl, rfl⟩) l0 rfl rfl ?_
  refine g_k2 (v := 6) (pc' := 217) cd_Mo_init rfl (by decide) rfl ?_
  refine n_int 6 N25.2.1.1 cd_Mo_init rfl rfl (by decide) (by decide) (by decide) (fun B27 h27 => ?_)
  have K27 := MoN_K N25 h27
  refine g_putR (v := some (1483 + 23)) (c := 12) (k := 28) (pc' := 222) rfl cd_Mo_init rfl rfl rfl rfl (by simp [tm_okV, narrow, fits]) (Or.inr ⟨rfl, rfl, rfl, rfl⟩) rfl (by decide) K27.1 K27.2 ?_
  have N26 := MoN_step N25 h0 (k := 28) (t := 13) (n := 6) rfl h27
  refine g_ald (pc' := 223) cd_Mo_init rfl (Or.inr ⟨_, rfl, rfl, rfl⟩) l0 rfl rfl ?_
  refine g_k2 (v := 6) (pc' := 225) cd_Mo_init rfl (by decide) rfl ?_
  refine n_int 6 N26.2.1.1 cd_Mo_init rfl rfl (by decide) (by decide) (by decide) (fun B28 h28 => ?_)
  have K28 := MoN_K N26 h28
  refine g_putR (v := some (1483 + 24)) (c := 12) (k := 29) (pc' := 230) rfl cd_Mo_init rfl rfl rfl rfl (by simp [tm_okV, narrow, fits]) (Or.inr ⟨rfl, rfl, rfl, rfl⟩) rfl (by decide) K28.1 K28.2 ?_
  have N27 := MoN_step N26 h0 (k := 29) (t := 13) (n := 6) rfl h28
  refine g_ald (pc' := 231) cd_Mo_init rfl (Or.inr ⟨_, rfl, rfl, rfl⟩) l0 rfl rfl ?_
  refine g_k2 (v := 16) (pc' := 233) cd_Mo_init rfl (by decide) rfl ?_
  refine n_int 16 N27.2.1.1 cd_Mo_init rfl rfl (by decide) (by decide) (by decide) (fun B29 h29 => ?_)
  have K29 := MoN_K N27 h29
  refine g_putR (v := some (1483 + 25)) (c := 12) (k := 31) (pc' := 238) rfl cd_Mo_init rfl rfl rfl rfl (by simp [tm_okV, narrow, fits]) (Or.inr ⟨rfl, rfl, rfl, rfl⟩) rfl (by decide) K29.1 K29.2 ?_
  have N28 := MoN_step N27 h0 (k := 31) (t := 13) (n := 16) rfl h29
  refine g_ald (pc' := 239) cd_Mo_init rfl (Or.inr ⟨_, rfl, rfl, rfl⟩) l0 rfl rfl ?_
  refine g_k3 (v := 1200) (pc' := 242) cd_Mo_init rfl (by decide) rfl ?_
  refine n_int 1200 N28.2.1.1 cd_Mo_init rfl rfl (by decide) (by decide) (by decide) (fun B30 h30 => ?_)
  have K30 := MoN_K N28 h30
  refine g_putR (v := some (1483 + 26)) (c := 12) (k := 39) (pc' := 247) rfl cd_Mo_init rfl rfl rfl rfl (by simp [tm_okV, narrow, fits]) (Or.inr ⟨rfl, rfl, rfl, rfl⟩) rfl (by decide) K30.1 K30.2 ?_
  have N29 := MoN_step N28 h0 (k := 39) (t := 13) (n := 1200) rfl h30
  refine g_ald (pc' := 248) cd_Mo_init rfl (Or.inr ⟨_, rfl, rfl, rfl⟩) l0 rfl rfl ?_
  refine g_k3 (v := 716) (pc' := 251) cd_Mo_init rfl (by decide) rfl ?_
  refine n_int 716 N29.2.1.1 cd_Mo_init rfl rfl (by decide) (by decide) (by decide) (fun B31 h31 => ?_)
  have K31 := MoN_K N29 h31
  refine g_putR (v := some (1483 + 27)) (c := 12) (k := 41) (pc' := 256) rfl cd_Mo_init rfl rfl rfl rfl (by simp [tm_okV, narrow, fits]) (Or.inr ⟨rfl, rfl, rfl, rfl⟩) rfl (by decide) K31.1 K31.2 ?_
  have N30 := MoN_step N29 h0 (k := 41) (t := 13) (n := 716) rfl h31
  refine g_ald (pc' := 257) cd_Mo_init rfl (Or.inr ⟨_, rfl, rfl, rfl⟩) l0 rfl rfl ?_
  refine g_k3 (v := 716) (pc' := 260) cd_Mo_init rfl (by decide) rfl ?_
  refine n_int 716 N30.2.1.1 cd_Mo_init rfl rfl (by decide) (by decide) (by decide) (fun B32 h32 => ?_)
  have K32 := MoN_K N30 h32
  refine g_putR (v := some (1483 + 28)) (c := 12) (k := 42) (pc' := 265) rfl cd_Mo_init rfl rfl rfl rfl (by simp [tm_okV, narrow, fits]) (Or.inr ⟨rfl, rfl, rfl, rfl⟩) rfl (by decide) K32.1 K32.2 ?_
  have N31 := MoN_step N30 h0 (k := 42) (t := 13) (n := 716) rfl h32
  refine g_ald (pc' := 266) cd_Mo_init rfl (Or.inr ⟨_, rfl, rfl, rfl⟩) l0 rfl rfl ?_
  refine g_k3 (v := 716) (pc' := 269) cd_Mo_init rfl (by decide) rfl ?_
  refine n_int 716 N31.2.1.1 cd_Mo_init rfl rfl (by decide) (by decide) (by decide) (fun B33 h33 => ?_)
  have K33 := MoN_K N31 h33
  refine g_putR (v := some (1483 + 29)) (c := 12) (k := 44) (pc' := 274) rfl cd_Mo_init rfl rfl rfl rfl (by simp [tm_okV, narrow, fits]) (Or.inr ⟨rfl, rfl, rfl, rfl⟩) rfl (by decide) K33.1 K33.2 ?_
  have N32 := MoN_step N31 h0 (k := 44) (t := 13) (n := 716) rfl h33
  refine g_ald (pc' := 275) cd_Mo_init rfl (Or.inr ⟨_, rfl, rfl, rfl⟩) l0 rfl rfl ?_
  refine g_k3 (v := 716) (pc' := 278) cd_Mo_init rfl (by decide) rfl ?_
  refine n_int 716 N32.2.1.1 cd_Mo_init rfl rfl (by decide) (by decide) (by decide) (fun B34 h34 => ?_)
  have K34 := MoN_K N32 h34
  refine g_putR (v := some (1483 + 30)) (c := 12) (k := 45) (pc' := 283) rfl cd_Mo_init rfl rfl rfl rfl (by simp [tm_okV, narrow, fits]) (Or.inr ⟨rfl, rfl, rfl, rfl⟩) rfl (by decide) K34.1 K34.2 ?_
  have N33 := MoN_step N32 h0 (k := 45) (t := 13) (n := 716) rfl h34
  refine g_ald (pc' := 284) cd_Mo_init rfl (Or.inr ⟨_, rfl, rfl, rfl⟩) l0 rfl rfl ?_
  refine g_k3 (v := 716) (pc' := 287) cd_Mo_init rfl (by decide) rfl ?_
  refine n_int 716 N33.2.1.1 cd_Mo_init rfl rfl (by decide) (by decide) (by decide) (fun B35 h35 => ?_)
  have K35 := MoN_K N33 h35
  refine g_putR (v := some (1483 + 31)) (c := 12) (k := 46) (pc' := 292) rfl cd_Mo_init rfl rfl rfl rfl (by simp [tm_okV, narrow, fits]) (Or.inr ⟨rfl, rfl, rfl, rfl⟩) rfl (by decide) K35.1 K35.2 ?_
  have N34 := MoN_step N33 h0 (k := 46) (t := 13) (n := 716) rfl h35
  refine g_ald (pc' := 293) cd_Mo_init rfl (Or.inr ⟨_, rfl, rfl, rfl⟩) l0 rfl rfl ?_
  refine g_k3 (v := 716) (pc' := 296) cd_Mo_init rfl (by decide) rfl ?_
  refine n_bool 716 N34.2.1.1 cd_Mo_init rfl rfl (by decide) (by decide) (by decide) (fun B36 h36 => ?_)
  have K36 := MoN_K N34 h36
  refine g_putR (v := some (1483 + 32)) (c := 12) (k := 47) (pc' := 301) rfl cd_Mo_init rfl rfl rfl rfl (by simp [tm_okV, narrow, fits]) (Or.inr ⟨rfl, rfl, rfl, rfl⟩) rfl (by decide) K36.1 K36.2 ?_
  have N35 := MoN_step N34 h0 (k := 47) (t := 14) (n := 716) rfl h36
  refine g_ald (pc' := 302) cd_Mo_init rfl (Or.inr ⟨_, rfl, rfl, rfl⟩) l0 rfl rfl ?_
  refine g_k3 (v := 716) (pc' := 305) cd_Mo_init rfl (by decide) rfl ?_
  refine n_int 716 N35.2.1.1 cd_Mo_init rfl rfl (by decide) (by decide) (by decide) (fun B37 h37 => ?_)
  have K37 := MoN_K N35 h37
  refine g_putR (v := some (1483 + 33)) (c := 12) (k := 48) (pc' := 310) rfl cd_Mo_init rfl rfl rfl rfl (by simp [tm_okV, narrow, fits]) (Or.inr ⟨rfl, rfl, rfl, rfl⟩) rfl (by decide) K37.1 K37.2 ?_
  have N36 := MoN_step N35 h0 (k := 48) (t := 13) (n := 716) rfl h37
  refine g_ald (pc' := 311) cd_Mo_init rfl (Or.inr ⟨_, rfl, rfl, rfl⟩) l0 rfl rfl ?_
  refine g_k3 (v := 716) (pc' := 314) cd_Mo_init rfl (by decide) rfl ?_
  refine n_int 716 N36.2.1.1 cd_Mo_init rfl rfl (by decide) (by decide) (by decide) (fun B38 h38 => ?_)
  have K38 := MoN_K N36 h38
  refine g_putR (v := some (1483 + 34)) (c := 12) (k := 49) (pc' := 319) rfl cd_Mo_init rfl rfl rfl rfl (by simp [tm_okV, narrow, fits]) (Or.inr ⟨rfl, rfl, rfl, rfl⟩) rfl (by decide) K38.1 K38.2 ?_
  have N37 := MoN_step N36 h0 (k := 49) (t := 13) (n := 716) rfl h38
  refine g_ald (pc' := 320) cd_Mo_init rfl (Or.inr ⟨_, rfl, rfl, rfl⟩) l0 rfl rfl ?_
  refine g_k3 (v := 716) (pc' := 323) cd_Mo_init rfl (by decide) rfl ?_
  refine n_int 716 N37.2.1.1 cd_Mo_init rfl rfl (by decide) (by decide) (by decide) (fun B39 h39 => ?_)
  have K39 := MoN_K N37 h39
  refine g_putR (v := some (1483 + 35)) (c := 12) (k := 50) (pc' := 328) rfl cd_Mo_init rfl rfl rfl rfl (by simp [tm_okV, narrow, fits]) (Or.inr ⟨rfl, rfl, rfl, rfl⟩) rfl (by decide) K39.1 K39.2 ?_
  have N38 := MoN_step N37 h0 (k := 50) (t := 13) (n := 716) rfl h39
  refine g_ald (pc' := 329) cd_Mo_init rfl (Or.inr ⟨_, rfl, rfl, rfl⟩) l0 rfl rfl ?_
  refine g_k3 (v := 4296) (pc' := 332) cd_Mo_init rfl (by decide) rfl ?_
  refine n_int 4296 N38.2.1.1 cd_Mo_init rfl rfl (by decide) (by decide) (by decide) (fun B40 h40 => ?_)
  have K40 := MoN_K N38 h40
  refine g_putR (v := some (1483 + 36)) (c := 12) (k := 51) (pc' := 337) rfl cd_Mo_init rfl rfl rfl rfl (by simp [tm_okV, narrow, fits]) (Or.inr ⟨rfl, rfl, rfl, rfl⟩) rfl (by decide) K40.1 K40.2 ?_
  have N39 := MoN_step N38 h0 (k := 51) (t := 13) (n := 4296) rfl h40
  refine g_ald (pc' := 338) cd_Mo_init rfl (Or.inr ⟨_, rfl, rfl, rfl⟩) l0 rfl rfl ?_
  refine g_k3 (v := 716) (pc' := 341) cd_Mo_init rfl (by decide) rfl ?_
  refine n_int 716 N39.2.1.1 cd_Mo_init rfl rfl (by decide) (by decide) (by decide) (fun B41 h41 => ?_)
  have K41 := MoN_K N39 h41
  refine g_putR (v := some (1483 + 37)) (c := 12) (k := 52) (pc' := 346) rfl cd_Mo_init rfl rfl rfl rfl (by simp [tm_okV, narrow, fits]) (Or.inr ⟨rfl, rfl, rfl, rfl⟩) rfl (by decide) K41.1 K41.2 ?_
  have N40 := MoN_step N39 h0 (k := 52) (t := 13) (n := 716) rfl h41
  refine g_ald (pc' := 347) cd_Mo_init rfl (Or.inr ⟨_, rfl, rfl, rfl⟩) l0 rfl rfl ?_
  refine g_k2 (v := 6) (pc' := 349) cd_Mo_init rfl (by decide) rfl ?_
  refine n_int 6 N40.2.1.1 cd_Mo_init rfl rfl (by decide) (by decide) (by decide) (fun B42 h42 => ?_)
  have K42 := MoN_K N40 h42
  refine g_putR (v := some (1483 + 38)) (c := 12) (k := 55) (pc' := 354) rfl cd_Mo_init rfl rfl rfl rfl (by simp [tm_okV, narrow, fits]) (Or.inr ⟨rfl, rfl, rfl, rfl⟩) rfl (by decide) K42.1 K42.2 ?_
  have N41 := MoN_step N40 h0 (k := 55) (t := 13) (n := 6) rfl h42
  refine g_ald (pc' := 355) cd_Mo_init rfl (Or.inr ⟨_, rfl, rfl, rfl⟩) l0 rfl rfl ?_
  refine g_k2 (v := 6) (pc' := 357) cd_Mo_init rfl (by decide) rfl ?_
  refine n_int 6 N41.2.1.1 cd_Mo_init rfl rfl (by decide) (by decide) (by decide) (fun B43 h43 => ?_)
  have K43 := MoN_K N41 h43
  refine g_putR (v := some (1483 + 39)) (c := 12) (k := 56) (pc' := 362) rfl cd_Mo_init rfl rfl rfl rfl (by simp [tm_okV, narrow, fits]) (Or.inr ⟨rfl, rfl, rfl, rfl⟩) rfl (by decide) K43.1 K43.2 ?_
  have N42 := MoN_step N41 h0 (k := 56) (t := 13) (n := 6) rfl h43
  refine g_ald (pc' := 363) cd_Mo_init rfl (Or.inr ⟨_, rfl, rfl, rfl⟩) l0 rfl rfl ?_
  refine g_k2 (v := 6) (pc' := 365) cd_Mo_init rfl (by decide) rfl ?_
  refine n_int 6 N42.2.1.1 cd_Mo_init rfl rfl (by decide) (by decide) (by decide) (fun B44 h44 => ?_)
  have K44 := MoN_K N42 h44
  refine g_putR (v := some (1483 + 40)) (c := 12) (k := 57) (pc' := 370) rfl cd_Mo_init rfl rfl rfl rfl (by simp [tm_okV, narrow, fits]) (Or.inr ⟨rfl, rfl, rfl, rfl⟩) rfl (by decide) K44.1 K44.2 ?_
  have N43 := MoN_step N42 h0 (k := 57) (t := 13) (n := 6) rfl h44
  refine g_ald (pc' := 371) cd_Mo_init rfl (Or.inr ⟨_, rfl, rfl, rfl⟩) l0 rfl rfl ?_
  refine g_k2 (v := 6) (pc' := 373) cd_Mo_init rfl (by decide) rfl ?_
  refine n_int 6 N43.2.1.1 cd_Mo_init rfl rfl (by decide) (by decide) (by decide) (fun B45 h45 => ?_)
  have K45 := MoN_K N43 h45
  refine g_putR (v := some (1483 + 41)) (c := 12) (k := 58) (pc' := 378) rfl cd_Mo_init rfl rfl rfl rfl (by simp [tm_okV, narrow, fits]) (Or.inr ⟨rfl, rfl, rfl, rfl⟩) rfl (by decide) K45.1 K45.2 ?_
  have N44 := MoN_step N43 h0 (k := 58) (t := 13) (n := 6) rfl h45
  refine g_ald (pc' := 379) cd_Mo_init rfl (Or.inr ⟨_, rfl, rfl, rfl⟩) l0 rfl rfl ?_
  refine g_k2 (v := 38) (pc' := 381) cd_Mo_init rfl (by decide) rfl ?_
  refine n_int 38 N44.2.1.1 cd_Mo_init rfl rfl (by decide) (by decide) (by decide) (fun B46 h46 => ?_)
  have K46 := MoN_K N44 h46
  refine g_putR (v := some (1483 + 42)) (c := 12) (k := 59) (pc' := 386) rfl cd_Mo_init rfl rfl rfl rfl (by simp [tm_okV, narrow, fits]) (Or.inr ⟨rfl, rfl, rfl, rfl⟩) rfl (by decide) K46.1 K46.2 ?_
  have N45 := MoN_step N44 h0 (k := 59) (t := 13) (n := 38) rfl h46
  refine g_ald (pc' := 387) cd_Mo_init rfl (Or.inr ⟨_, rfl, rfl, rfl⟩) l0 rfl rfl ?_
  refine g_k2 (v := 22) (pc' := 389) cd_Mo_init rfl (by decide) rfl ?_
  refine n_int 22 N45.2.1.1 cd_Mo_init rfl rfl (by decide) (by decide) (by decide) (fun B47 h47 => ?_)
  have K47 := MoN_K N45 h47
  refine g_putR (v := some (1483 + 43)) (c := 12) (k := 60) (pc' := 394) rfl cd_Mo_init rfl rfl rfl rfl (by simp [tm_okV, narrow, fits]) (Or.inr ⟨rfl, rfl, rfl, rfl⟩) rfl (by decide) K47.1 K47.2 ?_
  have N46 := MoN_step N45 h0 (k := 60) (t := 13) (n := 22) rfl h47
  refine g_ald (pc' := 395) cd_Mo_init rfl (Or.inr ⟨_, rfl, rfl, rfl⟩) l0 rfl rfl ?_
  refine g_k2 (v := 32) (pc' := 397) cd_Mo_init rfl (by decide) rfl ?_
  refine n_int 32 N46.2.1.1 cd_Mo_init rfl rfl (by decide) (by decide) (by decide) (fun B48 h48 => ?_)
  have K48 := MoN_K N46 h48
  refine g_putR (v := some (1483 + 44)) (c := 12) (k := 62) (pc' := 402) rfl cd_Mo_init rfl rfl rfl rfl (by simp [tm_okV, narrow, fits]) (Or.inr ⟨rfl, rfl, rfl, rfl⟩) rfl (by decide) K48.1 K48.2 ?_
  have N47 := MoN_step N46 h0 (k := 62) (t := 13) (n := 32) rfl h48
  refine g_ald (pc' := 403) cd_Mo_init rfl (Or.inr ⟨_, rfl, rfl, rfl⟩) l0 rfl rfl ?_
  refine g_k3 (v := 2400) (pc' := 406) cd_Mo_init rfl (by decide) rfl ?_
  refine n_int 2400 N47.2.1.1 cd_Mo_init rfl rfl (by decide) (by decide) (by decide) (fun B49 h49 => ?_)
  have K49 := MoN_K N47 h49
  refine g_putR (v := some (1483 + 45)) (c := 12) (k := 64) (pc' := 411) rfl cd_Mo_init rfl rfl rfl rfl (by simp [tm_okV, narrow, fits]) (Or.inr ⟨rfl, rfl, rfl, rfl⟩) rfl (by decide) K49.1 K49.2 ?_
  have N48 := MoN_step N47 h0 (k := 64) (t := 13) (n := 2400) rfl h49
  refine g_k1 (v := 0) (pc' := 412) cd_Mo_init rfl (by decide) rfl ?_
  refine g_ist (pc' := 413) cd_Mo_init rfl (Or.inr ⟨_, rfl, rfl, rfl⟩) (by decide) rfl (fun lv el => ?_)
  have l0 := tm_lk el l0 rfl (by decide)
  have l1 : lv.lookup 1 = some (.int 0) := tm_lks el
  exact kk _ lv N48 l0 l1
