/-! The reference: makes, useUp -/
theorem pk_find_z {K0 K1 : PK} : pk_find K0 K1 tz = none := pk_findN (fun q => Tpub_nz _ q.2) (fun q => Tpub_nz _ q.2)
section
variable {id pi H : Tm} {K0 K1 : PK} {on : List (Tm × Int32)} {b : Bool} {i : Nat} {e : Tm × Int32}
theorem as_n1 (h : pk_find K0 K1 (pt H 2) = none) : as_ses id K0 K1 on pi H = none := by unfold as_ses; rw [h]
theorem as_n2 (h : pk_find K0 K1 (pt H 2) = some b) (hz : pt H 3 = tz) (hb : pt H 0 ∈ (pk_of K0 K1 b).2.2 ∨ 4 ≤ (pk_of K0 K1 b).2.2.length) : as_ses id K0 K1 on pi H = none := by unfold as_ses; rw [h]; dsimp only; rw [cif_t hz, cif_t hb]
theorem as_y2 (h : pk_find K0 K1 (pt H 2) = some b) (hz : pt H 3 = tz) (hb : ¬ (pt H 0 ∈ (pk_of K0 K1 b).2.2 ∨ 4 ≤ (pk_of K0 K1 b).2.2.length)) : as_ses id K0 K1 on pi H = some (ss_start (pt H 0) (pk_of K0 K1 b).1 (as_root id (pk_of K0 K1 b).1 pi (pt H 0) none) false) := by unfold as_ses; rw [h]; dsimp only; rw [cif_t hz, cif_f hb]
theorem as_n3 (h : pk_find K0 K1 (pt H 2) = some b) (hz : pt H 3 ≠ tz) (hb : on_find (pt H 3) on = none) : as_ses id K0 K1 on pi H = none := by unfold as_ses; rw [h]; dsimp only; rw [cif_f hz, hb]
theorem as_y3 (h : pk_find K0 K1 (pt H 2) = some b) (hz : pt H 3 ≠ tz) (hb : on_find (pt H 3) on = some i) (he : on[i]? = some e) : as_ses id K0 K1 on pi H = some (ss_start (pt H 0) (pk_of K0 K1 b).1 (as_root id (pk_of K0 K1 b).1 pi (pt H 0) (some e.1)) true) := by unfold as_ses; rw [h]; dsimp only; rw [cif_f hz, hb]; dsimp only; rw [getD_of he]
theorem au_2 (h : pk_find K0 K1 (pt H 2) = some b) (hz : pt H 3 = tz) : as_used K0 K1 on H = ((pk_add K0 K1 b (pt H 0)).1, (pk_add K0 K1 b (pt H 0)).2, on) := by unfold as_used; rw [h]; dsimp only; rw [cif_t hz]
theorem au_3 (h : pk_find K0 K1 (pt H 2) = some b) (hz : pt H 3 ≠ tz) (hb : on_find (pt H 3) on = some i) : as_used K0 K1 on H = (K0, K1, on.eraseIdx i) := by unfold as_used; rw [h]; dsimp only; rw [cif_f hz, hb]
end
def mjUA (B A : Nat → Nat → Int32) : Nat → Nat → Int32 := fun j => if (1 ≤ j ∧ j ≤ 8) ∨ j = 15 then B j else A j
theorem mU_end {f f' : Nat → Int32} {A A' : Nat → Nat → Int32} {Q : MS → Prop} (h1 : ∀ k, ¬ (k = 0 ∨ k = 7) → f' k = f k) (h2 : ∀ j, ¬ ((1 ≤ j ∧ j ≤ 8) ∨ j = 15) → A' j = A j) (h : Q (mjF f' f, mjUA A' A)) : Q (f', A') := by
  have e : mjUA A' A = A' := by
    funext j
    unfold mjUA
    split
    · rfl
    · rename_i q; exact (h2 j q).symm
  rw [mjF_of h1, e] at h
  exact h
theorem qPk_add {w g : Nat → Int32} {T T' : List Tm} {K0 K1 : PK} {b : Bool} {BA : Tm} (hT : T <+: T') (h0 : qPk w T 0 K0) (h1 : qPk w T 7 K1) (h4 : (pk_of K0 K1 b).2.2.length < 4) (e : ∀ k, k ≠ 7 * sh b + 2 → k ≠ 7 * sh b + 3 + (pk_of K0 K1 b).2.2.length → g k = w k) (e2 : g (7 * sh b + 2) = nI ((pk_of K0 K1 b).2.2.length + 1)) (e3 : tv T' (g (7 * sh b + 3 + (pk_of K0 K1 b).2.2.length)) BA) : qPk g T' 0 (pk_add K0 K1 b BA).1 ∧ qPk g T' 7 (pk_add K0 K1 b BA).2 := by
  have push : ∀ (a : Nat) (K : PK), qPk w T a K → K.2.2.length < 4 → (∀ k, a ≤ k → k < a + 7 → k ≠ a + 2 → k ≠ a + 3 + K.2.2.length → g k = w k) → g (a + 2) = nI (K.2.2.length + 1) → tv T' (g (a + 3 + K.2.2.length)) BA → qPk g T' a (K.1, K.2.1, K.2.2 ++ [BA]) := by
    intro a K hK hl he q2 q3
    obtain ⟨⟨a1, a2, a3, a4⟩, a5⟩ := hK
    refine ⟨⟨by rw [he a (by omega) (by omega) (by omega) (by omega)]; exact tv_mono hT a1, (he _ (by omega) (by omega) (by omega) (by omega)).trans a2, by rw [q2]; congr 1; simp, by simp; omega⟩, fun i X hX => ?_⟩
    by_cases c : i < K.2.2.length
    · have hX : (K.2.2 ++ [BA])[i]? = some X := hX
      rw [List.getElem?_append_left c] at hX
      rw [he _ (by omega) (by omega) (by omega) (by omega)]
      exact tv_mono hT (a5 i X hX)
    · have hX : (K.2.2 ++ [BA])[i]? = some X := hX
      rw [List.getElem?_append_right (by omega)] at hX
      by_cases c2 : i - K.2.2.length = 0
      · rw [c2] at hX
        cases hX
        rw [show i = K.2.2.length by omega]
        exact q3
      · rw [List.getElem?_eq_none (by simp; omega)] at hX
        cases hX
  cases b
  · have h4 : K0.2.2.length < 4 := h4
    exact ⟨push 0 K0 h0 h4 (fun k _ _ k1 k2 => e k k1 k2) e2 e3, qPk_c hT (fun k k1 k2 => e k (by show k ≠ 7 * 0 + 2; omega) (by show k ≠ 7 * 0 + 3 + K0.2.2.length; omega)) h1⟩
  · have h4 : K1.2.2.length < 4 := h4
    exact ⟨qPk_c hT (fun k k1 k2 => e k (by show k ≠ 7 * 1 + 2; omega) (by show k ≠ 7 * 1 + 3 + K1.2.2.length; omega)) h0, push 7 K1 h1 h4 (fun k _ _ k1 k2 => e k k1 k2) e2 e3⟩
/-- one-time keys shifted down from i to k -/
def onW (w : Nat → Int32) (i k : Nat) : Nat → Int32 := fun j => if (15 + i ≤ j ∧ j < 15 + k) ∨ (19 + i ≤ j ∧ j < 19 + k) then w (j + 1) else w j
theorem onW_0 (w : Nat → Int32) (i : Nat) : onW w i i = w := funext fun j => if_neg (by omega)
theorem onW_s {w : Nat → Int32} {i k : Nat} (h : i ≤ k) (h3 : k < 3) : upd (upd (onW w i k) (15 + k) (w (16 + k))) (19 + k) (w (20 + k)) = onW w i (k + 1) := funext fun j => by
  show (if j = 19 + k then w (20 + k) else if j = 15 + k then w (16 + k) else onW w i k j) = _
  unfold onW
  by_cases c : j = 19 + k
  · rw [if_pos c, if_pos (by omega), c]; congr 1; omega
  · rw [if_neg c]
    by_cases c1 : j = 15 + k
    · rw [if_pos c1, if_pos (by omega), c1]; congr 1; omega
    · rw [if_neg c1]
      by_cases c2 : (15 + i ≤ j ∧ j < 15 + k) ∨ (19 + i ≤ j ∧ j < 19 + k)
      · rw [if_pos c2, if_pos (by omega)]
      · rw [if_neg c2, if_neg (by omega)]
theorem onW_out {w : Nat → Int32} {i k j : Nat} (h : ¬ ((15 + i ≤ j ∧ j < 15 + k) ∨ (19 + i ≤ j ∧ j < 19 + k))) : onW w i k j = w j := if_neg h
theorem onW_in {w : Nat → Int32} {i k j : Nat} (h : (15 + i ≤ j ∧ j < 15 + k) ∨ (19 + i ≤ j ∧ j < 19 + k)) : onW w i k j = w (j + 1) := if_pos h
theorem qOn_era {w g : Nat → Int32} {T : List Tm} {on : List (Tm × Int32)} {i : Nat} (hi : i < on.length) (h : qOn w T on) (e14 : g 14 = nI (on.length - 1)) (e : ∀ j, 15 ≤ j → j < 22 → j ≠ 18 → g j = onW w i 3 j) : qOn g T (on.eraseIdx i) := by
  have h4 := h.1.2
  have hl : (on.eraseIdx i).length = on.length - 1 := by rw [List.length_eraseIdx, if_pos hi]
  refine ⟨⟨by rw [e14, hl], by omega⟩, fun k x hx => ?_⟩
  have hk : k < on.length - 1 := by rw [← hl]; exact (List.getElem?_eq_some_iff.mp hx).1
  rw [List.getElem?_eraseIdx] at hx
  rw [e (15 + k) (by omega) (by omega) (by omega), e (19 + k) (by omega) (by omega) (by omega)]
  by_cases c : k < i
  · rw [if_pos c] at hx
    rw [onW_out (by omega), onW_out (by omega)]
    exact h.2 k x hx
  · rw [if_neg c] at hx
    rw [onW_in (by omega), onW_in (by omega)]
    have q := h.2 (k + 1) x hx
    rw [← Nat.add_assoc, ← Nat.add_assoc] at q
    exact q
set_option maxRecDepth 100000 in
theorem l_mmkL {sc : tm_X} {d : Nat} {f : Nat → Int32} {A : Nat → Nat → Int32} {T : List Tm} {DL : List (Int32 × Int32)} {G Kw : Tm → Prop} {K : PK} {q p ib : Nat} {b : Bool} {BA : Tm} {Q : Int32 → MS → Prop} (hM : MT f A T DL G Kw) (hK : qPk (A 15) T (7 * sh b) K) (hB : T[ib]? = some BA) (kn : BA ∉ K.2.2 → ∀ lv : tm_L, lv.lookup 0 = some (.ref 1482) → lv.lookup 1 = some (.int (nI q)) → lv.lookup 2 = some (.int (nI p)) → lv.lookup 4 = some (.int (nI ib)) → lv.lookup 6 = some (.int 0) → lv.lookup 7 = some (.int (nI (7 * sh b))) → lv.lookup 8 = some (.int (-1)) → mg sc (d + 5) 233 128 lv [] (f, A) (fun r s' => ∃ v, r = some (.int v) ∧ Q v s')) (kf : BA ∈ K.2.2 → Q 0 (f, A)) : ∀ (r k : Nat), k + r = K.2.2.length → (∀ (j : Nat) (X : Tm), j < k → K.2.2[j]? = some X → X ≠ BA) → ∀ lv : tm_L, lv.lookup 0 = some (.ref 1482) → lv.lookup 1 = some (.int (nI q)) → lv.lookup 2 = some (.int (nI p)) → lv.lookup 4 = some (.int (nI ib)) → lv.lookup 6 = some (.int 0) → lv.lookup 7 = some (.int (nI (7 * sh b))) → lv.lookup 8 = some (.int (-1)) → lv.lookup 9 = some (.int (nI k)) → mg sc (d + 5) 233 84 lv [] (f, A) (fun r s' => ∃ v, r = some (.int v) ∧ Q v s') := by
  have hsb := sh_lt b
  have h2 := hK.1.2.2.1
  have h4 := hK.1.2.2.2
  intro r
  induction r with
  | zero =>
    intro k hk hb lv l0 l1 l2 l4 l6 l7 l8 l9
    refine m_ild (pc' := 86) cd_Mo_makes rfl (Or.inl ⟨rfl, rfl⟩) l6 rfl ?_
    refine m_if1 (t := 128) (pc' := 89) cd_Mo_makes rfl rfl rfl (fun c86 => ?_) (fun c86 => ?_)
    · exact absurd (show ¬ (0 : Int32) = 0 from c86) (by decide)
    · have c86 : (0 : Int32) = 0 := Classical.not_not.mp c86
      refine m_ild (pc' := 91) cd_Mo_makes rfl (Or.inl ⟨rfl, rfl⟩) l9 rfl ?_
      refine m_ald (pc' := 92) cd_Mo_makes rfl (Or.inr ⟨_, rfl, rfl, rfl⟩) l0 rfl rfl ?_
      refine m_fR (r := 14) (a := 15) (ad := 1497) (pc' := 95) rfl rfl cd_Mo_makes rfl rfl rfl rfl rfl ?_
      refine m_ild (pc' := 97) cd_Mo_makes rfl (Or.inl ⟨rfl, rfl⟩) l7 rfl ?_
      refine m_k1 (v := 2) (pc' := 98) cd_Mo_makes rfl (by decide) rfl ?_
      refine m_pure (pc' := 99) (st' := [.int ((nI (7 * sh b)) + 2), .ref 1497, .int (nI k)]) cd_Mo_makes rfl rfl (fun _ _ => rfl) ?_
      refine m_eq (show ((nI (7 * sh b)) + 2 : Int32) = nI ((7 * sh b) + 2) from nI_add (7 * sh b) 2) ?_
      refine m_aI (r := 14) (a := 15) (g := (A 15)) (x := nI K.2.2.length) (pc' := 100) rfl rfl cd_Mo_makes rfl rfl rfl (vp_in_nI (by omega) (by decide)) (by rw [(nI_clamp (by omega))]; exact h2) ?_
      refine m_if2 (t := 128) (pc' := 103) cd_Mo_makes rfl rfl rfl (fun c100 => ?_) (fun c100 => ?_)
      · have c100 : (nI K.2.2.length) ≤ (nI k) := c100
        refine kn (fun hm => ?_) lv l0 l1 l2 l4 l6 l7 l8
        obtain ⟨j, hj⟩ := List.getElem?_of_mem hm
        exact hb j BA (by have := (List.getElem?_eq_some_iff.mp hj).1; omega) hj rfl
      · have c100 : ¬ (nI K.2.2.length) ≤ (nI k) := c100
        exact absurd (nI_le (by omega) (by omega)) c100
  | succ r ih =>
    intro k hk hb lv l0 l1 l2 l4 l6 l7 l8 l9
    obtain ⟨X, hX⟩ : ∃ X, K.2.2[k]? = some X := ⟨_, List.getElem?_eq_getElem (by omega)⟩
    have gX := hK.2 k X hX
    refine m_ild (pc' := 86) cd_Mo_makes rfl (Or.inl ⟨rfl, rfl⟩) l6 rfl ?_
    refine m_if1 (t := 128) (pc' := 89) cd_Mo_makes rfl rfl rfl (fun c86 => ?_) (fun c86 => ?_)
    · exact absurd (show ¬ (0 : Int32) = 0 from c86) (by decide)
    · have c86 : (0 : Int32) = 0 := Classical.not_not.mp c86
      refine m_ild (pc' := 91) cd_Mo_makes rfl (Or.inl ⟨rfl, rfl⟩) l9 rfl ?_
      refine m_ald (pc' := 92) cd_Mo_makes rfl (Or.inr ⟨_, rfl, rfl, rfl⟩) l0 rfl rfl ?_
      refine m_fR (r := 14) (a := 15) (ad := 1497) (pc' := 95) rfl rfl cd_Mo_makes rfl rfl rfl rfl rfl ?_
      refine m_ild (pc' := 97) cd_Mo_makes rfl (Or.inl ⟨rfl, rfl⟩) l7 rfl ?_
      refine m_k1 (v := 2) (pc' := 98) cd_Mo_makes rfl (by decide) rfl ?_
      refine m_pure (pc' := 99) (st' := [.int ((nI (7 * sh b)) + 2), .ref 1497, .int (nI k)]) cd_Mo_makes rfl rfl (fun _ _ => rfl) ?_
      refine m_eq (show ((nI (7 * sh b)) + 2 : Int32) = nI ((7 * sh b) + 2) from nI_add (7 * sh b) 2) ?_
      refine m_aI (r := 14) (a := 15) (g := (A 15)) (x := nI K.2.2.length) (pc' := 100) rfl rfl cd_Mo_makes rfl rfl rfl (vp_in_nI (by omega) (by decide)) (by rw [(nI_clamp (by omega))]; exact h2) ?_
      refine m_if2 (t := 128) (pc' := 103) cd_Mo_makes rfl rfl rfl (fun c100 => ?_) (fun c100 => ?_)
      · have c100 : (nI K.2.2.length) ≤ (nI k) := c100
        exact absurd c100 (nI_ge (by omega) (by omega))
      · have c100 : ¬ (nI K.2.2.length) ≤ (nI k) := c100
        refine m_ald (pc' := 104) cd_Mo_makes rfl (Or.inr ⟨_, rfl, rfl, rfl⟩) l0 rfl rfl ?_
        refine m_fR (r := 14) (a := 15) (ad := 1497) (pc' := 107) rfl rfl cd_Mo_makes rfl rfl rfl rfl rfl ?_
        refine m_ild (pc' := 109) cd_Mo_makes rfl (Or.inl ⟨rfl, rfl⟩) l7 rfl ?_
        refine m_k1 (v := 3) (pc' := 110) cd_Mo_makes rfl (by decide) rfl ?_
        refine m_pure (pc' := 111) (st' := [.int ((nI (7 * sh b)) + 3), .ref 1497]) cd_Mo_makes rfl rfl (fun _ _ => rfl) ?_
        refine m_eq (show ((nI (7 * sh b)) + 3 : Int32) = nI ((7 * sh b) + 3) from nI_add (7 * sh b) 3) ?_
        refine m_ild (pc' := 113) cd_Mo_makes rfl (Or.inl ⟨rfl, rfl⟩) l9 rfl ?_
        refine m_pure (pc' := 114) (st' := [.int ((nI ((7 * sh b) + 3)) + (nI k)), .ref 1497]) cd_Mo_makes rfl rfl (fun _ _ => rfl) ?_
        refine m_eq (show ((nI ((7 * sh b) + 3)) + (nI k) : Int32) = nI (((7 * sh b) + 3) + k) from nI_add ((7 * sh b) + 3) k) ?_
        refine m_aI (r := 14) (a := 15) (g := (A 15)) (x := ((A 15) (((7 * sh b) + 3) + k))) (pc' := 115) rfl rfl cd_Mo_makes rfl rfl rfl (vp_in_nI (by omega) (by decide)) (congrArg (A 15) (nI_clamp (by omega))) ?_
        refine m_ild (pc' := 117) cd_Mo_makes rfl (Or.inl ⟨rfl, rfl⟩) l4 rfl ?_
        refine m_if2 (t := 122) (pc' := 120) cd_Mo_makes rfl rfl rfl (fun c117 => ?_) (fun c117 => ?_)
        · have c117 : ¬ ((A 15) (((7 * sh b) + 3) + k)) = (nI ib) := c117
          refine m_inc (y := nI (k + 1)) (pc' := 125) cd_Mo_makes rfl l9 (by decide) (nI_add k 1) rfl (fun lv el => ?_)
          have l0 := tm_lk el l0 rfl (by decide)
          have l1 := tm_lk el l1 rfl (by decide)
          have l2 := tm_lk el l2 rfl (by decide)
          have l4 := tm_lk el l4 rfl (by decide)
          have l6 := tm_lk el l6 rfl (by decide)
          have l7 := tm_lk el l7 rfl (by decide)
          have l8 := tm_lk el l8 rfl (by decide)
          have l9 : lv.lookup 9 = some (.int (nI (k + 1))) := tm_lks el
          clear el
          refine m_pure (pc' := 84) (st' := []) cd_Mo_makes rfl rfl (fun _ _ => rfl) ?_
          refine ih (k + 1) (by omega) (fun j Y hj hY => ?_) lv l0 l1 l2 l4 l6 l7 l8 l9
          by_cases q2 : j = k
          · rw [q2, hX] at hY
            cases hY
            exact fun e => c117 ((MT_eq hM gX ⟨ib, rfl, hB⟩).mpr e)
          · exact hb j Y (by omega) hY
        · have c117 : ((A 15) (((7 * sh b) + 3) + k)) = (nI ib) := Classical.not_not.mp c117
          refine m_k1 (v := 0) (pc' := 121) cd_Mo_makes rfl (by decide) rfl ?_
          exact m_retz cd_Mo_makes rfl (Or.inl rfl) ⟨_, rfl, (kf (by have e := (MT_eq hM gX ⟨ib, rfl, hB⟩).mp c117; exact e ▸ List.mem_of_getElem? hX))⟩
set_option maxRecDepth 100000 in
theorem m_makes {sc : tm_X} {d : Nat} {f : Nat → Int32} {A : Nat → Nat → Int32} {T : List Tm} {DL : List (Int32 × Int32)} {G Kw : Tm → Prop} {K0 K1 : PK} {on : List (Tm × Int32)} {ids : Nat → Tm} {H : Tm} {q p hi : Nat} {Q : Int32 → MS → Prop} (hM : MT f A T DL G Kw) (hl : T.length + 13 ≤ 4000) (hr : rc (A 1) T.length < 1000) (hq : q < 6) (hp : p < 6) (hid : ∀ q, q < 6 → tv T (A 16 q) (ids q)) (kid : ∀ q, q < 6 → kd (ids q) = 1) (hK0 : qPk (A 15) T 0 K0) (hK1 : qPk (A 15) T 7 K1) (z0 : 0 < K0.2.1 ↔ K0.1 ≠ tz) (z1 : 0 < K1.2.1 ↔ K1.1 ≠ tz) (d0 : 0 < K0.2.1 → kd K0.1 = 1) (d1 : 0 < K1.2.1 → kd K1.1 = 1) (hO : qOn (A 15) T on) (dn : ∀ e, e ∈ on → kd e.1 = 1) (hH : T[hi]? = some H) (kH : kd H = 7) (kB : kd (pt H 0) = 2) (k0 : (as_ses (ids q) K0 K1 on (ids p) H) = none → ∀ f1 A1 T1, T <+: T1 → T1.length ≤ T.length + 13 → rc (A1 1) T1.length ≤ rc (A 1) T.length →  MT (mjKf f1 f) (mjKA A1 A) T1 DL G Kw → Q 0 (mjKf f1 f, mjKA A1 A)) (kk : ∀ S, (as_ses (ids q) K0 K1 on (ids p) H) = some S → ∀ f1 A1 T1, T <+: T1 → T1.length ≤ T.length + 13 → rc (A1 1) T1.length ≤ rc (A 1) T.length →  MT (mjKf f1 f) (mjKA A1 A) T1 DL G Kw → qSe (A1 43) T1 0 S → Q 1 (mjKf f1 f, mjKA A1 A)) : mGi sc (d + 5) 233 [.ref 1482, .int (nI q), .int (nI p), .int (nI hi)] (f, A) Q := by
  have hTl := MT_len hM
  have hhi := tv_lt hH
  show mg sc (d + 5) 233 0 [(0, .ref 1482), (1, .int (nI q)), (2, .int (nI p)), (3, .int (nI hi))] [] (f, A) _
  generalize elv : ([(0, .ref 1482), (1, .int (nI q)), (2, .int (nI p)), (3, .int (nI hi))] : tm_L) = lv
  have l0 : lv.lookup 0 = some (.ref 1482) := by rw [← elv]; rfl
  have l1 : lv.lookup 1 = some (.int (nI q)) := by rw [← elv]; rfl
  have l2 : lv.lookup 2 = some (.int (nI p)) := by rw [← elv]; rfl
  have l3 : lv.lookup 3 = some (.int (nI hi)) := by rw [← elv]; rfl
  clear elv
  refine m_ald (pc' := 1) cd_Mo_makes rfl (Or.inr ⟨_, rfl, rfl, rfl⟩) l0 rfl rfl ?_
  refine m_ild (pc' := 2) cd_Mo_makes rfl (Or.inr ⟨_, rfl, rfl, rfl⟩) l3 rfl ?_
  refine m_k1 (v := 4) (pc' := 3) cd_Mo_makes rfl (by decide) rfl ?_
  refine m_ci (pc' := 6) cd_Mo_makes rfl rfl rfl rfl rfl cd_Mo_cell rfl (Nat.le_of_ble_eq_true rfl) (m_cellP (k := 0) hM hH kH (by decide) (fun ro hro => ?_))
  obtain ⟨ib, rfl, hib⟩ := hro
  show mg _ _ _ 6 _ [.int (nI ib)] _ _
  refine m_ist (pc' := 8) cd_Mo_makes rfl (Or.inl ⟨rfl, rfl⟩) (by decide) rfl (fun lv el => ?_)
  have l0 := tm_lk el l0 rfl (by decide)
  have l1 := tm_lk el l1 rfl (by decide)
  have l2 := tm_lk el l2 rfl (by decide)
  have l3 := tm_lk el l3 rfl (by decide)
  have l4 : lv.lookup 4 = some (.int (nI ib)) := tm_lks el
  clear el
  refine m_ald (pc' := 9) cd_Mo_makes rfl (Or.inr ⟨_, rfl, rfl, rfl⟩) l0 rfl rfl ?_
  refine m_ild (pc' := 10) cd_Mo_makes rfl (Or.inr ⟨_, rfl, rfl, rfl⟩) l3 rfl ?_
  refine m_k2 (v := 6) (pc' := 12) cd_Mo_makes rfl (by decide) rfl ?_
  refine m_ci (pc' := 15) cd_Mo_makes rfl rfl rfl rfl rfl cd_Mo_cell rfl (Nat.le_of_ble_eq_true rfl) (m_cellP (k := 2) hM hH kH (by decide) (fun ro hro => ?_))
  obtain ⟨i2, rfl, hi2⟩ := hro
  show mg _ _ _ 15 _ [.int (nI i2)] _ _
  refine m_ist (pc' := 17) cd_Mo_makes rfl (Or.inl ⟨rfl, rfl⟩) (by decide) rfl (fun lv el => ?_)
  have l0 := tm_lk el l0 rfl (by decide)
  have l1 := tm_lk el l1 rfl (by decide)
  have l2 := tm_lk el l2 rfl (by decide)
  have l3 := tm_lk el l3 rfl (by decide)
  have l4 := tm_lk el l4 rfl (by decide)
  have l5 : lv.lookup 5 = some (.int (nI i2)) := tm_lks el
  clear el
  refine m_ald (pc' := 18) cd_Mo_makes rfl (Or.inr ⟨_, rfl, rfl, rfl⟩) l0 rfl rfl ?_
  refine m_ild (pc' := 19) cd_Mo_makes rfl (Or.inr ⟨_, rfl, rfl, rfl⟩) l3 rfl ?_
  refine m_k2 (v := 7) (pc' := 21) cd_Mo_makes rfl (by decide) rfl ?_
  refine m_ci (pc' := 24) cd_Mo_makes rfl rfl rfl rfl rfl cd_Mo_cell rfl (Nat.le_of_ble_eq_true rfl) (m_cellP (k := 3) hM hH kH (by decide) (fun ro hro => ?_))
  obtain ⟨i3, rfl, hi3⟩ := hro
  show mg _ _ _ 24 _ [.int (nI i3)] _ _
  refine m_ist (pc' := 26) cd_Mo_makes rfl (Or.inl ⟨rfl, rfl⟩) (by decide) rfl (fun lv el => ?_)
  have l0 := tm_lk el l0 rfl (by decide)
  have l1 := tm_lk el l1 rfl (by decide)
  have l2 := tm_lk el l2 rfl (by decide)
  have l3 := tm_lk el l3 rfl (by decide)
  have l4 := tm_lk el l4 rfl (by decide)
  have l5 := tm_lk el l5 rfl (by decide)
  have l6 : lv.lookup 6 = some (.int (nI i3)) := tm_lks el
  clear el
  refine m_ild (pc' := 28) cd_Mo_makes rfl (Or.inl ⟨rfl, rfl⟩) l5 rfl ?_
  refine m_if1 (t := 35) (pc' := 31) cd_Mo_makes rfl rfl rfl (fun c28 => ?_) (fun c28 => ?_)
  · have c28 : ¬ (nI i2) = 0 := c28
    refine m_ald (pc' := 36) cd_Mo_makes rfl (Or.inr ⟨_, rfl, rfl, rfl⟩) l0 rfl rfl ?_
    refine m_ild (pc' := 38) cd_Mo_makes rfl (Or.inl ⟨rfl, rfl⟩) l5 rfl ?_
    refine m_ci (pc' := 41) cd_Mo_makes rfl rfl rfl rfl rfl cd_Mo_prekeyAt rfl (Nat.le_of_ble_eq_true rfl) (m_prekeyAt hM (by omega) hr hK0 hK1 z0 z1 d0 d1 ⟨i2, rfl, hi2⟩ (fun hpk f1 A1 T1 hx1 => ?_) (fun b hpk f1 A1 T1 hx1 => ?_))
    · skip
      obtain ⟨p1, q1, s1, hM1⟩ := hx1
      show mg _ _ _ 41 _ [.int (-1)] _ _
      refine m_ist (pc' := 43) cd_Mo_makes rfl (Or.inl ⟨rfl, rfl⟩) (by decide) rfl (fun lv el => ?_)
      have l0 := tm_lk el l0 rfl (by decide)
      have l1 := tm_lk el l1 rfl (by decide)
      have l2 := tm_lk el l2 rfl (by decide)
      have l3 := tm_lk el l3 rfl (by decide)
      have l4 := tm_lk el l4 rfl (by decide)
      have l5 := tm_lk el l5 rfl (by decide)
      have l6 := tm_lk el l6 rfl (by decide)
      have l7 : lv.lookup 7 = some (.int (-1)) := tm_lks el
      clear el
      refine m_ild (pc' := 45) cd_Mo_makes rfl (Or.inl ⟨rfl, rfl⟩) l7 rfl ?_
      refine m_k1 (v := (-1)) (pc' := 46) cd_Mo_makes rfl (by decide) rfl ?_
      refine m_if2 (t := 51) (pc' := 49) cd_Mo_makes rfl rfl rfl (fun c46 => ?_) (fun c46 => ?_)
      · exact absurd (show ¬ ((-1) : Int32) = (-1) from c46) (by decide)
      · have c46 : ((-1) : Int32) = (-1) := Classical.not_not.mp c46
        refine m_k1 (v := 0) (pc' := 50) cd_Mo_makes rfl (by decide) rfl ?_
        exact m_retz cd_Mo_makes rfl (Or.inl rfl) ⟨_, rfl, (mK_end (Q := Q 0) (f := f) (A := A) (fun k q => by have e0 : ¬ k = 0 := (by omega); have e7 : ¬ k = 7 := (by omega); have e61 : ¬ k = 61 := (by omega); simp only [fset, mjF, mjKf, e0, e7, e61, or_self, if_false]) (fun j q => by have e0 : ¬ (1 ≤ j ∧ j ≤ 8) := (by omega); have e43 : ¬ j = 43 := (by omega); have e44 : ¬ j = 44 := (by omega); simp only [fset, mjA, mjKA, e0, e43, e44, or_self, if_false]) (k0 (as_n1 hpk) _ _ T1 p1 (by omega) (show rc (A1 1) _ ≤ _ by omega) (by exact MT_i hM1 rfl rfl rfl rfl rfl rfl rfl rfl rfl rfl)))⟩
    · skip
      obtain ⟨p1, q1, s1, hM1⟩ := hx1
      have hsb := sh_lt b
      have s1 : rc (A1 1) T1.length ≤ rc (A 1) T.length := s1
      show mg _ _ _ 41 _ [.int (nI (7 * sh b))] _ _
      refine m_ist (pc' := 43) cd_Mo_makes rfl (Or.inl ⟨rfl, rfl⟩) (by decide) rfl (fun lv el => ?_)
      have l0 := tm_lk el l0 rfl (by decide)
      have l1 := tm_lk el l1 rfl (by decide)
      have l2 := tm_lk el l2 rfl (by decide)
      have l3 := tm_lk el l3 rfl (by decide)
      have l4 := tm_lk el l4 rfl (by decide)
      have l5 := tm_lk el l5 rfl (by decide)
      have l6 := tm_lk el l6 rfl (by decide)
      have l7 : lv.lookup 7 = some (.int (nI (7 * sh b))) := tm_lks el
      clear el
      refine m_ild (pc' := 45) cd_Mo_makes rfl (Or.inl ⟨rfl, rfl⟩) l7 rfl ?_
      refine m_k1 (v := (-1)) (pc' := 46) cd_Mo_makes rfl (by decide) rfl ?_
      refine m_if2 (t := 51) (pc' := 49) cd_Mo_makes rfl rfl rfl (fun c46 => ?_) (fun c46 => ?_)
      · have c46 : ¬ (nI (7 * sh b)) = (-1) := c46
        refine m_ild (pc' := 53) cd_Mo_makes rfl (Or.inl ⟨rfl, rfl⟩) l6 rfl ?_
        refine m_if1 (t := 60) (pc' := 56) cd_Mo_makes rfl rfl rfl (fun c53 => ?_) (fun c53 => ?_)
        · have c53 : ¬ (nI i3) = 0 := c53
          refine m_ald (pc' := 61) cd_Mo_makes rfl (Or.inr ⟨_, rfl, rfl, rfl⟩) l0 rfl rfl ?_
          refine m_ild (pc' := 63) cd_Mo_makes rfl (Or.inl ⟨rfl, rfl⟩) l6 rfl ?_
          refine m_ci (pc' := 66) cd_Mo_makes rfl rfl rfl rfl rfl cd_Mo_onceOf rfl (Nat.le_of_ble_eq_true rfl) (m_onceOf (by exact MT_i hM1 rfl rfl rfl rfl rfl rfl rfl rfl rfl rfl) (by omega) (by show rc (A1 1) _ < 1000; omega) (qOn_c p1 (fun _ _ _ => rfl) hO) dn ⟨i3, rfl, pfx_get p1 hi3⟩ (fun hon f2 A2 T2 hx2 => ?_) (fun i hon f2 A2 T2 hx2 => ?_))
          · skip
            obtain ⟨p2, q2, s2, hM2⟩ := hx2
            have s2 : rc (A2 1) T2.length ≤ rc (A1 1) T1.length := s2
            show mg _ _ _ 66 _ [.int (-1)] _ _
            refine m_ist (pc' := 68) cd_Mo_makes rfl (Or.inl ⟨rfl, rfl⟩) (by decide) rfl (fun lv el => ?_)
            have l0 := tm_lk el l0 rfl (by decide)
            have l1 := tm_lk el l1 rfl (by decide)
            have l2 := tm_lk el l2 rfl (by decide)
            have l3 := tm_lk el l3 rfl (by decide)
            have l4 := tm_lk el l4 rfl (by decide)
            have l5 := tm_lk el l5 rfl (by decide)
            have l6 := tm_lk el l6 rfl (by decide)
            have l7 := tm_lk el l7 rfl (by decide)
            have l8 : lv.lookup 8 = some (.int (-1)) := tm_lks el
            clear el
            refine m_ild (pc' := 70) cd_Mo_makes rfl (Or.inl ⟨rfl, rfl⟩) l6 rfl ?_
            refine m_if1 (t := 81) (pc' := 73) cd_Mo_makes rfl rfl rfl (fun c70 => ?_) (fun c70 => ?_)
            · have c70 : (nI i3) = 0 := c70
              exact absurd c70 c53
            · have c70 : ¬ (nI i3) = 0 := c70
              refine m_ild (pc' := 75) cd_Mo_makes rfl (Or.inl ⟨rfl, rfl⟩) l8 rfl ?_
              refine m_k1 (v := (-1)) (pc' := 76) cd_Mo_makes rfl (by decide) rfl ?_
              refine m_if2 (t := 81) (pc' := 79) cd_Mo_makes rfl rfl rfl (fun c76 => ?_) (fun c76 => ?_)
              · exact absurd (show ¬ ((-1) : Int32) = (-1) from c76) (by decide)
              · have c76 : ((-1) : Int32) = (-1) := Classical.not_not.mp c76
                refine m_k1 (v := 0) (pc' := 80) cd_Mo_makes rfl (by decide) rfl ?_
                exact m_retz cd_Mo_makes rfl (Or.inl rfl) ⟨_, rfl, (mK_end (Q := Q 0) (f := f) (A := A) (fun k q => by have e0 : ¬ k = 0 := (by omega); have e7 : ¬ k = 7 := (by omega); have e61 : ¬ k = 61 := (by omega); simp only [fset, mjF, mjKf, e0, e7, e61, or_self, if_false]) (fun j q => by have e0 : ¬ (1 ≤ j ∧ j ≤ 8) := (by omega); have e43 : ¬ j = 43 := (by omega); have e44 : ¬ j = 44 := (by omega); simp only [fset, mjA, mjKA, e0, e43, e44, or_self, if_false]) (k0 (as_n3 hpk (fun q => c53 ((MT_0 hM ⟨i3, rfl, hi3⟩).mpr q)) hon) _ _ T2 (p1.trans p2) (by omega) (show rc (A2 1) _ ≤ _ by omega) (by exact MT_i hM2 rfl rfl rfl rfl rfl rfl rfl rfl rfl rfl)))⟩
          · skip
            obtain ⟨p2, q2, s2, hM2⟩ := hx2
            have s2 : rc (A2 1) T2.length ≤ rc (A1 1) T1.length := s2
            obtain ⟨e, he, hpe⟩ := on_find_s hon
            have hi4 : i < on.length := (List.getElem?_eq_some_iff.mp he).1
            have ho4 := hO.1.2
            show mg _ _ _ 66 _ [.int (nI i)] _ _
            refine m_ist (pc' := 68) cd_Mo_makes rfl (Or.inl ⟨rfl, rfl⟩) (by decide) rfl (fun lv el => ?_)
            have l0 := tm_lk el l0 rfl (by decide)
            have l1 := tm_lk el l1 rfl (by decide)
            have l2 := tm_lk el l2 rfl (by decide)
            have l3 := tm_lk el l3 rfl (by decide)
            have l4 := tm_lk el l4 rfl (by decide)
            have l5 := tm_lk el l5 rfl (by decide)
            have l6 := tm_lk el l6 rfl (by decide)
            have l7 := tm_lk el l7 rfl (by decide)
            have l8 : lv.lookup 8 = some (.int (nI i)) := tm_lks el
            clear el
            refine m_ild (pc' := 70) cd_Mo_makes rfl (Or.inl ⟨rfl, rfl⟩) l6 rfl ?_
            refine m_if1 (t := 81) (pc' := 73) cd_Mo_makes rfl rfl rfl (fun c70 => ?_) (fun c70 => ?_)
            · have c70 : (nI i3) = 0 := c70
              exact absurd c70 c53
            · have c70 : ¬ (nI i3) = 0 := c70
              refine m_ild (pc' := 75) cd_Mo_makes rfl (Or.inl ⟨rfl, rfl⟩) l8 rfl ?_
              refine m_k1 (v := (-1)) (pc' := 76) cd_Mo_makes rfl (by decide) rfl ?_
              refine m_if2 (t := 81) (pc' := 79) cd_Mo_makes rfl rfl rfl (fun c76 => ?_) (fun c76 => ?_)
              · have c76 : ¬ (nI i) = (-1) := c76
                refine m_k1 (v := 0) (pc' := 82) cd_Mo_makes rfl (by decide) rfl ?_
                refine m_ist (pc' := 84) cd_Mo_makes rfl (Or.inl ⟨rfl, rfl⟩) (by decide) rfl (fun lv el => ?_)
                have l0 := tm_lk el l0 rfl (by decide)
                have l1 := tm_lk el l1 rfl (by decide)
                have l2 := tm_lk el l2 rfl (by decide)
                have l3 := tm_lk el l3 rfl (by decide)
                have l4 := tm_lk el l4 rfl (by decide)
                have l5 := tm_lk el l5 rfl (by decide)
                have l6 := tm_lk el l6 rfl (by decide)
                have l7 := tm_lk el l7 rfl (by decide)
                have l8 := tm_lk el l8 rfl (by decide)
                have l9 : lv.lookup 9 = some (.int 0) := tm_lks el
                clear el
                refine m_ild (pc' := 86) cd_Mo_makes rfl (Or.inl ⟨rfl, rfl⟩) l6 rfl ?_
                refine m_if1 (t := 128) (pc' := 89) cd_Mo_makes rfl rfl rfl (fun c86 => ?_) (fun c86 => ?_)
                · have c86 : ¬ (nI i3) = 0 := c86
                  refine m_ild (pc' := 130) cd_Mo_makes rfl (Or.inl ⟨rfl, rfl⟩) l6 rfl ?_
                  refine m_if1 (t := 148) (pc' := 133) cd_Mo_makes rfl rfl rfl (fun c130 => ?_) (fun c130 => ?_)
                  · have c130 : ¬ (nI i3) = 0 := c130
                    have hKb := qPk_of (qPk_c (p1.trans p2) (fun _ _ _ => rfl) hK0) (qPk_c (p1.trans p2) (fun _ _ _ => rfl) hK1) b
                    refine l_mmk1 (f := mjF f2 (mjF f1 f)) (A := mjA A2 (mjA A1 A)) (ids := ids) (e := e) (K := pk_of K0 K1 b) (by exact MT_i hM2 rfl rfl rfl rfl rfl rfl rfl rfl rfl rfl) (by omega) (by show rc (A2 1) _ < 1000; omega) hq hp (fun q hq => tv_mono (p1.trans p2) (hid q hq)) kid (show qPk (A 15) T2 _ _ from hKb) (by cases b; exact d0 (pk_find_s hpk).1; exact d1 (pk_find_s hpk).1) (pfx_get (p1.trans p2) hib) kB (MT_pub1 hM ⟨ib, rfl, hib⟩ kB) (show qOn (A 15) T2 on from qOn_c (p1.trans p2) (fun _ _ _ => rfl) hO) he (dn e (List.mem_of_getElem? he)) c53 (fun f4 A4 T4 p4 q4 s4 hM4 hq4 => ?_) lv l0 l1 l2 l4 l6 l7 l8
                    have s4 : rc (A4 1) T4.length ≤ rc (A2 1) T2.length := s4
                    rw [mjKf_in (f := f) (fun k q => by have e0 : ¬ k = 0 := (by omega); have e7 : ¬ k = 7 := (by omega); have e61 : ¬ k = 61 := (by omega); simp only [fset, mjF, mjKf, e0, e7, e61, or_self, if_false]), mjKA_in (A := A) (fun j q => by have e0 : ¬ (1 ≤ j ∧ j ≤ 8) := (by omega); have e43 : ¬ j = 43 := (by omega); have e44 : ¬ j = 44 := (by omega); simp only [fset, mjA, mjKA, e0, e43, e44, or_self, if_false])] at hM4 ⊢
                    exact kk _ (as_y3 hpk (fun q => c53 ((MT_0 hM ⟨i3, rfl, hi3⟩).mpr q)) hon he) f4 A4 T4 ((p1.trans p2).trans p4) (by omega) (by omega) hM4 hq4
                  · have c130 : (nI i3) = 0 := Classical.not_not.mp c130
                    exact absurd c130 c53
                · have c86 : (nI i3) = 0 := Classical.not_not.mp c86
                  exact absurd c86 c53
              · have c76 : (nI i) = (-1) := Classical.not_not.mp c76
                exact absurd c76 (nI_nm1 (by omega))
        · have c53 : (nI i3) = 0 := Classical.not_not.mp c53
          rw [c53] at l6
          refine m_k1 (v := (-1)) (pc' := 57) cd_Mo_makes rfl (by decide) rfl ?_
          refine m_pure (pc' := 66) (st' := [.int (-1)]) cd_Mo_makes rfl rfl (fun _ _ => rfl) ?_
          refine m_ist (pc' := 68) cd_Mo_makes rfl (Or.inl ⟨rfl, rfl⟩) (by decide) rfl (fun lv el => ?_)
          have l0 := tm_lk el l0 rfl (by decide)
          have l1 := tm_lk el l1 rfl (by decide)
          have l2 := tm_lk el l2 rfl (by decide)
          have l3 := tm_lk el l3 rfl (by decide)
          have l4 := tm_lk el l4 rfl (by decide)
          have l5 := tm_lk el l5 rfl (by decide)
          have l6 := tm_lk el l6 rfl (by decide)
          have l7 := tm_lk el l7 rfl (by decide)
          have l8 : lv.lookup 8 = some (.int (-1)) := tm_lks el
          clear el
          refine m_ild (pc' := 70) cd_Mo_makes rfl (Or.inl ⟨rfl, rfl⟩) l6 rfl ?_
          refine m_if1 (t := 81) (pc' := 73) cd_Mo_makes rfl rfl rfl (fun c70 => ?_) (fun c70 => ?_)
          · have c70 : (0 : Int32) = 0 := c70
            refine m_k1 (v := 0) (pc' := 82) cd_Mo_makes rfl (by decide) rfl ?_
            refine m_ist (pc' := 84) cd_Mo_makes rfl (Or.inl ⟨rfl, rfl⟩) (by decide) rfl (fun lv el => ?_)
            have l0 := tm_lk el l0 rfl (by decide)
            have l1 := tm_lk el l1 rfl (by decide)
            have l2 := tm_lk el l2 rfl (by decide)
            have l3 := tm_lk el l3 rfl (by decide)
            have l4 := tm_lk el l4 rfl (by decide)
            have l5 := tm_lk el l5 rfl (by decide)
            have l6 := tm_lk el l6 rfl (by decide)
            have l7 := tm_lk el l7 rfl (by decide)
            have l8 := tm_lk el l8 rfl (by decide)
            have l9 : lv.lookup 9 = some (.int 0) := tm_lks el
            clear el
            have z3 : pt H 3 = tz := (MT_0 hM ⟨i3, rfl, hi3⟩).mp c53
            have hKb := qPk_of (qPk_c p1 (fun _ _ _ => rfl) hK0) (qPk_c p1 (fun _ _ _ => rfl) hK1) b
            have h24 := hKb.1.2.2.1
            have h44 := hKb.1.2.2.2
            refine l_mmkL (f := mjF f1 f) (A := mjA A1 A) (K := pk_of K0 K1 b) (by exact MT_i hM1 rfl rfl rfl rfl rfl rfl rfl rfl rfl rfl) (show qPk (A 15) T1 _ _ from hKb) (pfx_get p1 hib) (fun hnm lv l0 l1 l2 l4 l6 l7 l8 => ?_) (fun hm => ?_) (pk_of K0 K1 b).2.2.length 0 (by omega) (fun j X q => absurd q (by omega)) lv l0 l1 l2 l4 l6 l7 l8 l9
            · skip
              refine m_ild (pc' := 130) cd_Mo_makes rfl (Or.inl ⟨rfl, rfl⟩) l6 rfl ?_
              refine m_if1 (t := 148) (pc' := 133) cd_Mo_makes rfl rfl rfl (fun c130 => ?_) (fun c130 => ?_)
              · exact absurd (show ¬ (0 : Int32) = 0 from c130) (by decide)
              · have c130 : (0 : Int32) = 0 := Classical.not_not.mp c130
                refine m_ald (pc' := 134) cd_Mo_makes rfl (Or.inr ⟨_, rfl, rfl, rfl⟩) l0 rfl rfl ?_
                refine m_fR (r := 14) (a := 15) (ad := 1497) (pc' := 137) rfl rfl cd_Mo_makes rfl rfl rfl rfl rfl ?_
                refine m_ild (pc' := 139) cd_Mo_makes rfl (Or.inl ⟨rfl, rfl⟩) l7 rfl ?_
                refine m_k1 (v := 2) (pc' := 140) cd_Mo_makes rfl (by decide) rfl ?_
                refine m_pure (pc' := 141) (st' := [.int ((nI (7 * sh b)) + 2), .ref 1497]) cd_Mo_makes rfl rfl (fun _ _ => rfl) ?_
                refine m_eq (show ((nI (7 * sh b)) + 2 : Int32) = nI ((7 * sh b) + 2) from nI_add (7 * sh b) 2) ?_
                refine m_aI (r := 14) (a := 15) (g := (A 15)) (x := nI (pk_of K0 K1 b).2.2.length) (pc' := 142) rfl rfl cd_Mo_makes rfl rfl rfl (vp_in_nI (by omega) (by decide)) (by rw [(nI_clamp (by omega))]; exact h24) ?_
                refine m_k1 (v := 4) (pc' := 143) cd_Mo_makes rfl (by decide) rfl ?_
                refine m_if2 (t := 148) (pc' := 146) cd_Mo_makes rfl rfl rfl (fun c143 => ?_) (fun c143 => ?_)
                · have c143 : ¬ (nI (pk_of K0 K1 b).2.2.length) = 4 := c143
                  refine l_mmk0 (f := mjF f1 f) (A := mjA A1 A) (on := on) (oi := 0) (i := 0) (e := (tz, 0)) (ids := ids) (K := pk_of K0 K1 b) (by exact MT_i hM1 rfl rfl rfl rfl rfl rfl rfl rfl rfl rfl) (by omega) (by show rc (A1 1) _ < 1000; omega) hq hp (fun q hq => tv_mono p1 (hid q hq)) kid (show qPk (A 15) T1 _ _ from hKb) (by cases b; exact d0 (pk_find_s hpk).1; exact d1 (pk_find_s hpk).1) (pfx_get p1 hib) kB (MT_pub1 hM ⟨ib, rfl, hib⟩ kB) (fun f4 A4 T4 p4 q4 s4 hM4 hq4 => ?_) lv l0 l1 l2 l4 l6 l7 l8
                  have s4 : rc (A4 1) T4.length ≤ rc (A1 1) T1.length := s4
                  rw [mjKf_in (f := f) (fun k q => by have e0 : ¬ k = 0 := (by omega); have e7 : ¬ k = 7 := (by omega); have e61 : ¬ k = 61 := (by omega); simp only [fset, mjF, mjKf, e0, e7, e61, or_self, if_false]), mjKA_in (A := A) (fun j q => by have e0 : ¬ (1 ≤ j ∧ j ≤ 8) := (by omega); have e43 : ¬ j = 43 := (by omega); have e44 : ¬ j = 44 := (by omega); simp only [fset, mjA, mjKA, e0, e43, e44, or_self, if_false])] at hM4 ⊢
                  exact kk _ (as_y2 hpk z3 (fun q => q.elim hnm (fun q => c143 (by rw [show (pk_of K0 K1 b).2.2.length = 4 by omega]; rfl)))) f4 A4 T4 (p1.trans p4) (by omega) (by omega) hM4 hq4
                · have c143 : (nI (pk_of K0 K1 b).2.2.length) = 4 := Classical.not_not.mp c143
                  refine m_k1 (v := 0) (pc' := 147) cd_Mo_makes rfl (by decide) rfl ?_
                  exact m_retz cd_Mo_makes rfl (Or.inl rfl) ⟨_, rfl, (mK_end (Q := Q 0) (f := f) (A := A) (fun k q => by have e0 : ¬ k = 0 := (by omega); have e7 : ¬ k = 7 := (by omega); have e61 : ¬ k = 61 := (by omega); simp only [fset, mjF, mjKf, e0, e7, e61, or_self, if_false]) (fun j q => by have e0 : ¬ (1 ≤ j ∧ j ≤ 8) := (by omega); have e43 : ¬ j = 43 := (by omega); have e44 : ¬ j = 44 := (by omega); simp only [fset, mjA, mjKA, e0, e43, e44, or_self, if_false]) (k0 (as_n2 hpk z3 (Or.inr (by rw [nI_cxl (b := 4) (by omega) (by omega) c143]; exact Nat.le_refl _))) _ _ T1 p1 (by omega) (show rc (A1 1) _ ≤ _ by omega) (by exact MT_i hM1 rfl rfl rfl rfl rfl rfl rfl rfl rfl rfl)))⟩
            · exact (mK_end (Q := Q 0) (f := f) (A := A) (fun k q => by have e0 : ¬ k = 0 := (by omega); have e7 : ¬ k = 7 := (by omega); have e61 : ¬ k = 61 := (by omega); simp only [fset, mjF, mjKf, e0, e7, e61, or_self, if_false]) (fun j q => by have e0 : ¬ (1 ≤ j ∧ j ≤ 8) := (by omega); have e43 : ¬ j = 43 := (by omega); have e44 : ¬ j = 44 := (by omega); simp only [fset, mjA, mjKA, e0, e43, e44, or_self, if_false]) (k0 (as_n2 hpk z3 (Or.inl hm)) _ _ T1 p1 (by omega) (show rc (A1 1) _ ≤ _ by omega) (by exact MT_i hM1 rfl rfl rfl rfl rfl rfl rfl rfl rfl rfl)))
          · exact absurd (show ¬ (0 : Int32) = 0 from c70) (by decide)
      · have c46 : (nI (7 * sh b)) = (-1) := Classical.not_not.mp c46
        exact absurd c46 (nI_nm1 (by omega))
  · have c28 : (nI i2) = 0 := Classical.not_not.mp c28
    refine m_k1 (v := (-1)) (pc' := 32) cd_Mo_makes rfl (by decide) rfl ?_
    refine m_pure (pc' := 41) (st' := [.int (-1)]) cd_Mo_makes rfl rfl (fun _ _ => rfl) ?_
    refine m_ist (pc' := 43) cd_Mo_makes rfl (Or.inl ⟨rfl, rfl⟩) (by decide) rfl (fun lv el => ?_)
    have l0 := tm_lk el l0 rfl (by decide)
    have l1 := tm_lk el l1 rfl (by decide)
    have l2 := tm_lk el l2 rfl (by decide)
    have l3 := tm_lk el l3 rfl (by decide)
    have l4 := tm_lk el l4 rfl (by decide)
    have l5 := tm_lk el l5 rfl (by decide)
    have l6 := tm_lk el l6 rfl (by decide)
    have l7 : lv.lookup 7 = some (.int (-1)) := tm_lks el
    clear el
    refine m_ild (pc' := 45) cd_Mo_makes rfl (Or.inl ⟨rfl, rfl⟩) l7 rfl ?_
    refine m_k1 (v := (-1)) (pc' := 46) cd_Mo_makes rfl (by decide) rfl ?_
    refine m_if2 (t := 51) (pc' := 49) cd_Mo_makes rfl rfl rfl (fun c46 => ?_) (fun c46 => ?_)
    · exact absurd (show ¬ ((-1) : Int32) = (-1) from c46) (by decide)
    · have c46 : ((-1) : Int32) = (-1) := Classical.not_not.mp c46
      refine m_k1 (v := 0) (pc' := 50) cd_Mo_makes rfl (by decide) rfl ?_
      exact m_retz cd_Mo_makes rfl (Or.inl rfl) ⟨_, rfl, (mK_end (Q := Q 0) (f := f) (A := A) (fun _ _ => rfl) (fun _ _ => rfl) (k0 (as_n1 (by rw [(MT_0 hM ⟨i2, rfl, hi2⟩).mp c28]; exact pk_find_z)) f A T (List.prefix_refl T) (by omega) (Nat.le_refl _) (by exact MT_i hM rfl rfl rfl rfl rfl rfl rfl rfl rfl rfl)))⟩
