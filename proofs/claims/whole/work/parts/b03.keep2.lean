/-! What comes keeps the devices as they must be -/
theorem idx_of {x : Int32} (h : ib_idx x = true) : ∃ g, g < 10000 ∧ x = nI g := by
  unfold ib_idx at h
  simp at h
  obtain ⟨j, hj, rfl⟩ := nI_of (Int32.not_lt.mpr h.1)
  exact ⟨j, (nI_ltI (b := 10000) hj (by decide)).mp h.2, rfl⟩
theorem good3_ix {A : Tm} (h : Tgood 3 A = true) : (∃ x, x < 10000 ∧ nu A 2 = nI x) ∧ ∃ x, x < 10000 ∧ nu A 3 = nI x := by
  have := good_gn h
  unfold gn at this
  simp only [Bool.and_eq_true] at this
  exact ⟨idx_of this.1.2, idx_of this.2⟩
theorem good5_ix {A : Tm} (h : Tgood 5 A = true) : ∃ x, x < 10000 ∧ nu A 2 = nI x := by
  have := good_gn h
  unfold gn at this
  simp only [Bool.and_eq_true] at this
  exact idx_of this.1.2
theorem good5_p {A : Tm} (h : Tgood 5 A = true) : kd (pt A 1) = 2 := by
  have := good_gp h
  unfold gp at this
  simp only [Bool.and_eq_true, decide_eq_true_eq] at this
  exact this.2
theorem good7_ix {A : Tm} (h : Tgood 7 A = true) : ∃ x, x < 10000 ∧ nu A 3 = nI x := by
  have := good_gn h
  unfold gn at this
  simp only [Bool.and_eq_true] at this
  exact idx_of this.2
theorem good6_v {A : Tm} (h : Tgood 6 A = true) : nu A 1 ≠ 0 := by
  have := good_gn h
  unfold gn at this
  simp only [Bool.and_eq_true] at this
  intro e
  have q := this.1.1.1.2
  rw [e] at q
  exact absurd q (by decide)
theorem kd2_nz {P : Tm} (h : kd P = 2) : P ≠ tz := fun e => by rw [e] at h; exact absurd h (by decide)
/-- a session that was just answered may have no key of theirs yet -/
def SSW (S : SS) : Prop := IBI S.1 ∧ kd S.2.2.2.1 = 1 ∧ ((kd S.1.1 = 2 ∧ kd (pt S.1.1 0) = 1) ∨ (S.1.2.1 = tz ∧ S.1.2.2.2 = []))
theorem SSI_W {S : SS} (h : SSI S) : SSW S := ⟨h.1, h.2.2, Or.inl h.2.1⟩
theorem SSW_recv {S : SS} {p : Tm} (h : SSW S) (h1 : kd p = 2) (h2 : kd (pt p 0) = 1) : SSI (ss_recv S p) := by
  obtain ⟨⟨th, ch, nx, le⟩, ba, ro, mi, se, n', b, br, bp, bo, on⟩ := S
  exact ⟨⟨h.1.1, ⟨0, by omega, rfl⟩, h.1.2.2⟩, ⟨h1, h2⟩, h.2.1⟩
theorem SSI_key {S S1 : SS} {H K : Tm} (hH : Tgood 3 H = true) (hp : kd (pt (pt H 1) 0) = 1) (h : SSW S) (e : ss_key S H = some (K, S1)) : SSI S1 := by
  obtain ⟨⟨x, hx, ex⟩, y, hy, ey⟩ := good3_ix hH
  have hp2 := (good3_p hH).2.1
  unfold ss_key at e
  cases hl : lf_take (pt H 1) (nu H 2) S.1.2.2.2 with
  | some r =>
    obtain ⟨K', l⟩ := r
    rw [hl] at e
    cases e
    obtain ⟨q1, q2⟩ := lf_take_sub hl
    refine ⟨⟨fun e he => h.1.1 e (q1 e he), h.1.2.1, ?_⟩, ?_, h.2.1⟩
    · exact Nat.le_trans q2 h.1.2.2
    · rcases h.2.2 with g | g
      · exact g
      · rw [g.2] at hl; cases hl
  | none =>
    rw [hl] at e
    dsimp only at e
    cases hf : ss_follow S (pt H 1) (nu H 3) with
    | none => rw [hf] at e; cases e
    | some S2 =>
      rw [hf] at e
      obtain ⟨⟨K', J⟩, e1, e2⟩ := Option.map_eq_some_iff.mp e
      cases e2
      have hS2 : SSI S2 := by
        unfold ss_follow at hf
        by_cases c : pt H 1 = S.1.1 ∧ S.1.2.1 ≠ tz
        · rw [cif_t c] at hf
          cases hf
          exact ⟨h.1, h.2.2.resolve_right (fun q => c.2 q.1), h.2.1⟩
        · rw [cif_f c] at hf
          by_cases c2 : S.1.2.1 ≠ tz ∧ S.1.2.2.1 < nu H 3
          · rw [cif_t c2] at hf
            obtain ⟨J2, f1, f2⟩ := Option.map_eq_some_iff.mp hf
            subst f2
            obtain ⟨r1, r2, -⟩ := skipTo_I ey (by omega) h.1 f1
            refine SSW_recv (S := (J2, S.2)) ⟨r1, h.2.1, ?_⟩ hp2 hp
            exact Or.inl (by show kd J2.1 = 2 ∧ kd (pt J2.1 0) = 1; rw [r2]; exact h.2.2.resolve_right (fun q => c2.1 q.1))
          · rw [cif_f c2] at hf
            cases hf
            exact SSW_recv h hp2 hp
      obtain ⟨r1, r2, -⟩ := next_I ex hx hS2.1 e1
      exact ⟨r1, by show kd J.1 = 2 ∧ kd (pt J.1 0) = 1; rw [r2]; exact hS2.2.1, hS2.2.2⟩
theorem SSI_nb {S : SS} (h : SSI S) : SSI (ss_nb S) := by
  obtain ⟨I, ba, ro, mi, se, n', b, br, bp, bo, on⟩ := S
  exact h
theorem MMI_acc {s p : Nat} {M : MM} {A : Tm} {o : Bool} (hp : p ≠ s) (hA : Tgood 5 A = true) (h : MMI s M) : MMI s (mm_acc M p A o) ∧ (mm_acc M p A o).1 = M.1 := by
  unfold mm_acc
  split
  · exact ⟨h, rfl⟩
  · refine ⟨MMI_set hp h (by simp only [List.length_cons, List.length_take]; omega) (fun G hG => ?_), mm_set_1 _ _ _⟩
    rcases List.mem_cons.mp hG with rfl | hG
    · obtain ⟨x, hx, ex⟩ := good5_ix hA
      exact ⟨⟨fun e he => absurd he List.not_mem_nil, ⟨x, by omega, ex⟩, Nat.zero_le _⟩, kd2_nz (good5_p hA), fun e he => absurd he List.not_mem_nil⟩
    · exact (h.2.2.2 p).2 G (List.mem_of_mem_take hG)
theorem ss_find_some {l : List SS} {b : Tm} {k : Nat} {S : SS} (h : ss_find l b = some (k, S)) : l[k]? = some S ∧ S.2.1 = b := by
  unfold ss_find at h
  rcases l with _ | ⟨S0, r⟩
  · cases h
  · dsimp only at h
    by_cases c : S0.2.1 = b
    · rw [cif_t c] at h; cases h; exact ⟨rfl, c⟩
    · rw [cif_f c] at h
      rcases r with _ | ⟨S', r⟩
      · cases h
      · dsimp only at h
        by_cases c2 : S'.2.1 = b
        · rw [cif_t c2] at h; cases h; exact ⟨rfl, c2⟩
        · rw [cif_f c2] at h; cases h
theorem gv_find_some {l : List GV} {b : Int32} {k : Nat} {G : GV} (h : gv_find l b = some (k, G)) : l[k]? = some G ∧ G.2.1 = b := by
  unfold gv_find at h
  rcases l with _ | ⟨S0, r⟩
  · cases h
  · dsimp only at h
    by_cases c : S0.2.1 = b
    · rw [if_pos c] at h; cases h; exact ⟨rfl, c⟩
    · rw [if_neg c] at h
      rcases r with _ | ⟨S', r⟩
      · cases h
      · dsimp only at h
        by_cases c2 : S'.2.1 = b
        · rw [if_pos c2] at h; cases h; exact ⟨rfl, c2⟩
        · rw [if_neg c2] at h; cases h
theorem len_era {α : Type} {l : List α} {k : Nat} {x : α} (h : l[k]? = some x) (h2 : l.length ≤ 2) : (l.eraseIdx k).length ≤ 1 := by
  have := (List.getElem?_eq_some_iff.mp h).1
  rw [List.length_eraseIdx, if_pos this]
  omega
/-- the session that took a body goes to the front -/
theorem ts_go_I {s n p : Nat} {id : Tm} {K0 K1 : PK} {on : List (Tm × Int32)} {lnu : Int32} {se : Nat → List SS} {me : Nat → MM} {A : Tm} {k : Nat} {S : SS} (hp : p ≠ s) (hH : Tgood 3 (pt A 1) = true) (hpu : kd (pt (pt (pt A 1) 1) 0) = 1) (h1 : kd id = 1 ∧ (PKI K0 ∧ PKI K1) ∧ ((∀ e, e ∈ on → kd e.1 = 1) ∧ on.length ≤ 4) ∧ ∃ m, m ≤ 5 * n ∧ lnu = nI m) (hse : se s = [] ∧ ∀ q, q ≠ p → (se q).length ≤ 2 ∧ ∀ S, S ∈ se q → SSI S) (her : ((se p).eraseIdx k).length ≤ 1 ∧ ∀ S', S' ∈ (se p).eraseIdx k → SSI S') (hme : MEI s n me) (hS : SSW S) : 0 ≤ (ts_go (id, K0, K1, on, lnu, se, me) p A k S).1 → DVI s n (ts_go (id, K0, K1, on, lnu, se, me) p A k S).2.1 := by
  intro h0
  unfold ts_go at h0 ⊢
  dsimp only at h0 ⊢
  have hsei : ∀ S1, SSI S1 → SEI s (fset se p (ss_nb S1 :: (se p).eraseIdx k)) := fun S1 h1 => by
    refine ⟨(fset_ne (Ne.symm hp)).trans hse.1, fun q => ?_⟩
    by_cases c : q = p
    · rw [c, fset_same]
      refine ⟨by simp only [List.length_cons]; omega, fun S' hS' => ?_⟩
      rcases List.mem_cons.mp hS' with rfl | hS'
      · exact SSI_nb h1
      · exact her.2 S' hS'
    · rw [fset_ne c]; exact hse.2 q c
  cases hk : ss_key S (pt A 1) with
  | none => rw [hk] at h0; exact absurd h0 (by show ¬ (0 : Int32) ≤ -13; decide)
  | some r =>
    obtain ⟨K, S1⟩ := r
    rw [hk] at h0
    dsimp only at h0 ⊢
    have hS1 := SSI_key hH hpu hS hk
    by_cases c : K = pt A 0
    · rw [cif_t c] at h0 ⊢
      by_cases c4 : Tgood 4 (pt A 2) = true
      · rw [if_pos c4]
        exact ⟨h1.1, h1.2.1, h1.2.2.1, h1.2.2.2, hsei S1 hS1, hme⟩
      · rw [if_neg c4] at h0 ⊢
        by_cases c5 : Tgood 5 (pt A 2) = true
        · rw [if_pos c5]
          obtain ⟨a1, a2⟩ := MMI_acc (o := S1.2.2.2.2.2.2.2.2.2.2) hp c5 (hme.1 (nu (pt A 2) 0).toNatClampNeg)
          exact ⟨h1.1, h1.2.1, h1.2.2.1, h1.2.2.2, hsei S1 hS1, MEI_set1 hme a1 a2⟩
        · rw [if_neg c5] at h0
          exact absurd h0 (by show ¬ (0 : Int32) ≤ -15; decide)
    · rw [cif_f c] at h0
      exact absurd h0 (by show ¬ (0 : Int32) ≤ -14; decide)
theorem PKI_add {K : PK} {A : Tm} (h : PKI K) (h4 : ¬ 4 ≤ K.2.2.length) : PKI (K.1, K.2.1, K.2.2 ++ [A]) := ⟨h.1, h.2.1, h.2.2.1, by simp only [List.length_append, List.length_cons, List.length_nil]; omega⟩
theorem ts_spec_I {s n p : Nat} {ids : Nat → Tm} {D : DV} {A : Tm} (hH : Tgood 3 (pt A 1) = true) (hpu : kd (pt (pt (pt A 1) 1) 0) = 1) (h : DVI s n D) : 0 ≤ (ts_spec D ids s p A).1 → DVI s n (ts_spec D ids s p A).2.1 := by
  intro h0
  unfold ts_spec at h0 ⊢
  by_cases c : nu (pt A 1) 1 = nI s ∧ p ≠ s
  · rw [if_pos c] at h0 ⊢
    have hp := c.2
    obtain ⟨id, K0, K1, on, lnu, se, me⟩ := D
    obtain ⟨a1, a2, a3, a4, a5, a6⟩ := h
    dsimp only at h0 ⊢
    cases hf : ss_find (se p) (pt (pt A 1) 0) with
    | some r =>
      obtain ⟨k, S⟩ := r
      rw [hf] at h0
      dsimp only at h0 ⊢
      obtain ⟨f1, -⟩ := ss_find_some hf
      exact ts_go_I hp hH hpu ⟨a1, a2, a3, a4⟩ ⟨a5.1, fun q _ => a5.2 q⟩ ⟨len_era f1 (a5.2 p).1, fun S' hS' => (a5.2 p).2 S' (List.mem_of_mem_eraseIdx hS')⟩ a6 (SSI_W (SEI_at a5 f1)) h0
    | none =>
      rw [hf] at h0
      dsimp only at h0 ⊢
      cases ha : as_spec (id, K0, K1, on, lnu, se, me) ids p (pt A 1) with
      | none => rw [ha] at h0; exact absurd h0 (by show ¬ (0 : Int32) ≤ -12; decide)
      | some D' =>
        rw [ha] at h0
        dsimp only at h0 ⊢
        unfold as_spec at ha
        dsimp only at ha
        have key : ∀ (K0' K1' : PK) (on' : List (Tm × Int32)) (S : SS), PKI K0' → PKI K1' → (∀ e, e ∈ on' → kd e.1 = 1) → on'.length ≤ 4 → SSW S → D' = dv_ses (id, K0', K1', on', lnu, se, me) p S → DVI s n (match D'.2.2.2.2.2.1 p with
          | S :: _ => ts_go D' p A 0 S
          | [] => ((-12 : Int32), (id, K0, K1, on, lnu, se, me), false)).2.1 := by
          intro K0' K1' on' S g1 g2 g3 g4 g5 e
          subst e
          have hsp : (fset se p (S :: (se p).take 1)) p = S :: (se p).take 1 := fset_same _ _ _
          have h0' := h0
          show DVI s n (match (fset se p (S :: (se p).take 1)) p with
            | S2 :: _ => ts_go (id, K0', K1', on', lnu, fset se p (S :: (se p).take 1), me) p A 0 S2
            | [] => ((-12 : Int32), (id, K0, K1, on, lnu, se, me), false)).2.1
          have h0' : 0 ≤ (match (fset se p (S :: (se p).take 1)) p with
            | S2 :: _ => ts_go (id, K0', K1', on', lnu, fset se p (S :: (se p).take 1), me) p A 0 S2
            | [] => ((-12 : Int32), (id, K0, K1, on, lnu, se, me), false)).1 := h0'
          rw [hsp] at h0' ⊢
          dsimp only at h0' ⊢
          refine ts_go_I hp hH hpu ⟨a1, ⟨g1, g2⟩, ⟨g3, g4⟩, a4⟩ ⟨(fset_ne (Ne.symm hp)).trans a5.1, fun q hq => by rw [fset_ne hq]; exact a5.2 q⟩ ?_ a6 g5 h0'
          rw [hsp]
          refine ⟨by simp only [List.eraseIdx_cons_zero, List.length_take]; omega, fun S' hS' => ?_⟩
          exact (a5.2 p).2 S' (List.mem_of_mem_take hS')
        have hpk : ∀ b, PKI (pk_of K0 K1 b) := fun b => by cases b; exact a2.1; exact a2.2
        have hkd : ∀ b, pk_find K0 K1 (pt (pt A 1) 2) = some b → kd (pk_of K0 K1 b).1 = 1 := fun b hb => by
          unfold pk_find at hb
          by_cases q : 0 < K0.2.1 ∧ Tpub K0.1 = pt (pt A 1) 2
          · rw [cif_t q] at hb; cases hb
            exact a2.1.2.2.1 (a2.1.2.1.mp q.1)
          · rw [cif_f q] at hb
            by_cases q2 : 0 < K1.2.1 ∧ Tpub K1.1 = pt (pt A 1) 2
            · rw [cif_t q2] at hb; cases hb
              exact a2.2.2.2.1 (a2.2.2.1.mp q2.1)
            · rw [cif_f q2] at hb; cases hb
        have hst : ∀ (ba mi ro : Tm) (o : Bool), kd mi = 1 → SSW (ss_start ba mi ro o) := fun ba mi ro o hm => ⟨⟨fun e he => absurd he List.not_mem_nil, ⟨0, by omega, rfl⟩, Nat.zero_le _⟩, hm, Or.inr ⟨rfl, rfl⟩⟩
        cases hb : pk_find K0 K1 (pt (pt A 1) 2) with
        | none => rw [hb] at ha; cases ha
        | some b =>
          rw [hb] at ha
          dsimp only at ha
          have hmi := hkd b hb
          by_cases c3 : pt (pt A 1) 3 = tz
          · rw [cif_t c3] at ha
            by_cases c4 : pt (pt A 1) 0 ∈ (pk_of K0 K1 b).2.2 ∨ 4 ≤ (pk_of K0 K1 b).2.2.length
            · rw [cif_t c4] at ha; cases ha
            · rw [cif_f c4] at ha
              have c4 : ¬ 4 ≤ (pk_of K0 K1 b).2.2.length := fun q => c4 (Or.inr q)
              refine key _ _ on _ ?_ ?_ a3.1 a3.2 (hst _ _ _ _ hmi) (Option.some.inj ha).symm
              · cases b
                · exact PKI_add a2.1 c4
                · exact a2.1
              · cases b
                · exact a2.2
                · exact PKI_add a2.2 c4
          · rw [cif_f c3] at ha
            cases hi : on_find (pt (pt A 1) 3) on with
            | none => rw [hi] at ha; cases ha
            | some i =>
              rw [hi] at ha
              refine key _ _ _ _ a2.1 a2.2 (fun e he => a3.1 e (List.mem_of_mem_eraseIdx he)) ?_ (hst _ _ _ _ hmi) (Option.some.inj ha).symm
              have := a3.2
              rw [List.length_eraseIdx]
              split <;> omega
  · rw [if_neg c] at h0
    exact absurd h0 (by show ¬ (0 : Int32) ≤ -11; decide)
theorem gv_key_I {I J : IB} {ix : Int32} {x : Nat} {K : Tm} (hx : ix = nI x) (hx1 : x < 10000) (h : IBI I) (he : ∀ e, e ∈ I.2.2.2 → e.1 = I.1) (e : gv_key I ix = some (K, J)) : IBI J ∧ J.1 = I.1 ∧ ∀ e, e ∈ J.2.2.2 → e.1 = I.1 := by
  unfold gv_key at e
  cases hl : lf_take I.1 ix I.2.2.2 with
  | some r =>
    obtain ⟨K', l⟩ := r
    rw [hl] at e
    cases e
    obtain ⟨q1, q2⟩ := lf_take_sub hl
    exact ⟨⟨fun e hh => h.1 e (q1 e hh), h.2.1, Nat.le_trans q2 h.2.2⟩, rfl, fun e hh => he e (q1 e hh)⟩
  | none =>
    rw [hl] at e
    obtain ⟨r1, r2, -, r3⟩ := next_I hx hx1 h e
    exact ⟨r1, r2, r3 he⟩
theorem tp_spec_I {s p : Nat} {A : Tm} {M : MM} (hA : Tgood 7 (pt (pt A 1) 1) = true) (h : MMI s M) : MMI s (tp_spec A s p M).2 ∧ (tp_spec A s p M).2.1 = M.1 := by
  unfold tp_spec
  by_cases c : p = s
  · rw [if_pos c]; exact ⟨h, rfl⟩
  · rw [if_neg c]
    cases hf : gv_find (mgv M p) (nu (pt (pt A 1) 1) 2) with
    | none => exact ⟨h, rfl⟩
    | some r =>
      obtain ⟨k, G⟩ := r
      dsimp only
      obtain ⟨f1, -⟩ := gv_find_some hf
      have hG := (h.2.2.2 p).2 G (List.mem_of_getElem? f1)
      split
      · by_cases c2 : (if kd (pt A 0) = 1 then Tpub (pt A 0) else tz) = G.1.1
        · rw [cif_t c2]
          obtain ⟨x, hx, ex⟩ := good7_ix hA
          cases hk : gv_key G.1 (nu (pt (pt A 1) 1) 3) with
          | none => exact ⟨h, rfl⟩
          | some r =>
            obtain ⟨K, I⟩ := r
            dsimp only
            obtain ⟨r1, r2, r3⟩ := gv_key_I ex hx hG.1 hG.2.2 hk
            by_cases c3 : K = pt (pt A 1) 0
            · rw [cif_t c3]
              split
              · refine ⟨MMI_set c h (by rw [List.length_set]; exact (h.2.2.2 p).1) (fun G' hG' => ?_), mm_set_1 _ _ _⟩
                rcases List.mem_or_eq_of_mem_set hG' with g | g
                · exact (h.2.2.2 p).2 G' g
                · rw [g]
                  exact ⟨r1, by show I.1 ≠ tz; rw [r2]; exact hG.2.1, by show ∀ e, e ∈ I.2.2.2 → e.1 = I.1; rw [r2]; exact r3⟩
              · exact ⟨h, rfl⟩
            · rw [cif_f c3]; exact ⟨h, rfl⟩
        · rw [cif_f c2]; exact ⟨h, rfl⟩
      · exact ⟨h, rfl⟩
theorem ar_spec_I {s n : Nat} {ids : Nat → Tm} {D : DV} {A : Tm} (hpu : kd (pt (pt A 1) 1) = 2 → kd (pt (pt (pt A 1) 1) 0) = 1) (h : DVI s n D) : 0 ≤ (ar_spec D ids s A).1 → DVI s n (ar_spec D ids s A).2.1 := by
  intro h0
  obtain ⟨id, K0, K1, on, lnu, se, me⟩ := D
  unfold ar_spec at h0 ⊢
  dsimp only at h0 ⊢
  by_cases c3 : tm_form A = 3
  · rw [if_pos c3] at h0 ⊢
    have hg := form_3 c3
    exact ts_spec_I hg (hpu (good3_p hg).2.1) h h0
  · rw [if_neg c3] at h0 ⊢
    by_cases c6 : tm_form A = 6
    · rw [if_pos c6] at h0 ⊢
      by_cases ct : tl_ok A s (nu (pt A 1) 0).toNatClampNeg (ids (nu (pt A 1) 0).toNatClampNeg) (me (nu (pt A 1) 0).toNatClampNeg)
      · rw [cif_t ct]
        have hm := DVI_mei h
        exact DVI_grp h (MEI_set hm (MMI_adopt (good6_v (form_6 c6)) (hm.1 _)) (fun e => absurd e.symm ct.1))
      · rw [cif_f ct] at h0
        exact absurd h0 (by show ¬ (0 : Int32) ≤ -16; decide)
    · rw [if_neg c6] at h0 ⊢
      by_cases c7 : tm_form A = 7
      · rw [if_pos c7]
        have hm := DVI_mei h
        obtain ⟨r1, r2⟩ := tp_spec_I (s := s) (p := (nu (pt (pt A 1) 1) 1).toNatClampNeg) (form_7 c7) (hm.1 (nu (pt (pt A 1) 1) 0).toNatClampNeg)
        exact DVI_grp h (MEI_set1 hm r1 r2)
      · rw [if_neg c7] at h0
        exact absurd h0 (by show ¬ (0 : Int32) ≤ -10; decide)
