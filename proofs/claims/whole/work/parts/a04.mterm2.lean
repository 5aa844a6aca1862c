/-! The reference: term -/
def cl8 (g : Nat → Int32) (u : Nat) (r : Nat → Int32) : Nat → Int32 := upd (upd (upd (upd (upd (upd (upd (upd g (8 * u + 0) (r 0)) (8 * u + 1) (r 1)) (8 * u + 2) (r 2)) (8 * u + 3) (r 3)) (8 * u + 4) (r 4)) (8 * u + 5) (r 5)) (8 * u + 6) (r 6)) (8 * u + 7) (r 7)
theorem cl8_at {g r : Nat → Int32} {u k : Nat} (hk : k < 8) : cl8 g u r (8 * u + k) = r k := by
  unfold cl8
  rcases (by omega : k = 0 ∨ k = 1 ∨ k = 2 ∨ k = 3 ∨ k = 4 ∨ k = 5 ∨ k = 6 ∨ k = 7) with rfl | rfl | rfl | rfl | rfl | rfl | rfl | rfl
  · rw [upd_ne (by omega), upd_ne (by omega), upd_ne (by omega), upd_ne (by omega), upd_ne (by omega), upd_ne (by omega), upd_ne (by omega), upd_same]
  · rw [upd_ne (by omega), upd_ne (by omega), upd_ne (by omega), upd_ne (by omega), upd_ne (by omega), upd_ne (by omega), upd_same]
  · rw [upd_ne (by omega), upd_ne (by omega), upd_ne (by omega), upd_ne (by omega), upd_ne (by omega), upd_same]
  · rw [upd_ne (by omega), upd_ne (by omega), upd_ne (by omega), upd_ne (by omega), upd_same]
  · rw [upd_ne (by omega), upd_ne (by omega), upd_ne (by omega), upd_same]
  · rw [upd_ne (by omega), upd_ne (by omega), upd_same]
  · rw [upd_ne (by omega), upd_same]
  · rw [upd_same]
theorem cl8_lo {g r : Nat → Int32} {u q : Nat} (hq : q < 8 * u) : cl8 g u r q = g q := by
  unfold cl8
  rw [upd_ne (by omega), upd_ne (by omega), upd_ne (by omega), upd_ne (by omega), upd_ne (by omega), upd_ne (by omega), upd_ne (by omega), upd_ne (by omega)]
theorem MT_row {f : Nat → Int32} {A : Nat → Nat → Int32} {T : List Tm} {DL : List (Int32 × Int32)} {G W : Tm → Prop} (hM : MT f A T DL G W) {i : Nat} {X : Tm} (h0 : 0 < i) (hX : T[i]? = some X) : mrow (A 1) (A 2) (A 3) (A 4) (A 7) T DL i X := hM.2.1 i X h0 hX
theorem MT_u {f : Nat → Int32} {A : Nat → Nat → Int32} {T : List Tm} {DL : List (Int32 × Int32)} {G W : Tm → Prop} (hM : MT f A T DL G W) {i : Nat} {X : Tm} (h0 : 0 < i) (hX : T[i]? = some X) : A 1 i = 7 → A 3 i = nI (rc (A 1) i) ∧ rc (A 1) i < 1024 := fun h7 => ⟨(MT_row hM h0 hX).1 h7, by
  have h1 := rc_mono (A 1) (Nat.le_of_lt (tv_lt hX))
  have h2 := hM.1.2.1.2
  omega⟩
set_option maxRecDepth 100000 in
theorem l_termN {sc : tm_X} {d : Nat} {f : Nat → Int32} {A : Nat → Nat → Int32} {T : List Tm} {DL : List (Int32 × Int32)} {G W : Tm → Prop} {w a b c : Int32} {X : Tm} {e : Nat} {Q : Int32 → MS → Prop} (hM : MT f A T DL G W) (hX : tkr w a b c (A 9) T DL T.length X) (hl : T.length < 4000) (hr : rc (A 1) T.length < 1000) (hsec : kd X = 1 → ∀ Y, Y ∈ T → kd Y = 1 → mk Y < mk X) (hnew : X ∉ T) (he : e < 8192) (hz : A 8 (((hix (hky w a b c (A 9))) + e) % 8192) = 0) (hk : ∀ k, k < e → ∃ u, 0 < u ∧ u < T.length ∧ A 8 (((hix (hky w a b c (A 9))) + k) % 8192) = nI u) (k1 : ∀ f1 A1, X ∉ T → MT f1 A1 (T ++ [X]) DL G W → (∀ k, ¬ (k = 0 ∨ k = 7) → f1 k = f k) → (∀ j, ¬ (1 ≤ j ∧ j ≤ 8) → A1 j = A j) → Q (nI T.length) (f1, A1)) : ∀ lv : tm_L, lv.lookup 0 = some (.ref 1482) → lv.lookup 1 = some (.int w) → lv.lookup 2 = some (.int a) → lv.lookup 3 = some (.int b) → lv.lookup 4 = some (.int c) → lv.lookup 6 = some (.int (nI (((hix (hky w a b c (A 9))) + e) % 8192))) → mg sc d 180 129 lv [] (f, A) (fun r s' => ∃ x, r = some (.int x) ∧ Q x s') := by
  intro lv l0 l1 l2 l3 l4 l6
  have h0 : f 0 = nI T.length := hM.1.1.1
  have h7 : f 7 = nI (rc (A 1) T.length) := hM.1.2.1.1
  have hb := Nat.mod_lt ((hix (hky w a b c (A 9))) + e) (show 0 < 8192 by decide)
  refine m_ald (pc' := 130) cd_Mo_term rfl (Or.inr ⟨_, rfl, rfl, rfl⟩) l0 rfl rfl ?_
  refine m_fI (k := 0) (x := (nI T.length)) (pc' := 133) cd_Mo_term rfl rfl rfl rfl rfl h0 ?_
  refine m_ist (pc' := 135) cd_Mo_term rfl (Or.inl ⟨rfl, rfl⟩) (by decide) rfl (fun lv el => ?_)
  have l0 := tm_lk el l0 rfl (by decide)
  have l1 := tm_lk el l1 rfl (by decide)
  have l2 := tm_lk el l2 rfl (by decide)
  have l3 := tm_lk el l3 rfl (by decide)
  have l4 := tm_lk el l4 rfl (by decide)
  have l6 := tm_lk el l6 rfl (by decide)
  have l7 : lv.lookup 7 = some (.int ((nI T.length))) := tm_lks el
  clear el
  refine m_ald (pc' := 136) cd_Mo_term rfl (Or.inr ⟨_, rfl, rfl, rfl⟩) l0 rfl rfl ?_
  refine m_pure (pc' := 137) (st' := [.ref 1482, .ref 1482]) cd_Mo_term rfl rfl (fun _ _ => rfl) ?_
  refine m_fI (k := 0) (x := (nI T.length)) (pc' := 140) cd_Mo_term rfl rfl rfl rfl rfl h0 ?_
  refine m_k1 (v := 1) (pc' := 141) cd_Mo_term rfl (by decide) rfl ?_
  refine m_pure (pc' := 142) (st' := [.int ((nI T.length) + 1), .ref 1482]) cd_Mo_term rfl rfl (fun _ _ => rfl) ?_
  refine m_eq (show ((nI T.length) + 1 : Int32) = nI (T.length + 1) from nI_add T.length 1) ?_
  refine m_pI (k := 0) (pc' := 145) cd_Mo_term rfl rfl rfl rfl (by simp [tm_okV, narrow, fits]) rfl rfl ?_
  refine m_ald (pc' := 146) cd_Mo_term rfl (Or.inr ⟨_, rfl, rfl, rfl⟩) l0 rfl rfl ?_
  refine m_fR (r := 0) (a := 1) (ad := 1483) (pc' := 149) rfl rfl cd_Mo_term rfl rfl rfl rfl rfl ?_
  refine m_ild (pc' := 151) cd_Mo_term rfl (Or.inl ⟨rfl, rfl⟩) l7 rfl ?_
  refine m_ild (pc' := 152) cd_Mo_term rfl (Or.inr ⟨_, rfl, rfl, rfl⟩) l1 rfl ?_
  refine m_aS (r := 0) (a := 1) (g := (A 1)) (p := T.length) (pc' := 153) rfl rfl cd_Mo_term rfl rfl rfl (vp_in_nI (by omega) (by decide)) (nI_clamp (by omega)) ?_
  refine m_ald (pc' := 154) cd_Mo_term rfl (Or.inr ⟨_, rfl, rfl, rfl⟩) l0 rfl rfl ?_
  refine m_fR (r := 1) (a := 2) (ad := 1484) (pc' := 157) rfl rfl cd_Mo_term rfl rfl rfl rfl rfl ?_
  refine m_ild (pc' := 159) cd_Mo_term rfl (Or.inl ⟨rfl, rfl⟩) l7 rfl ?_
  refine m_ild (pc' := 160) cd_Mo_term rfl (Or.inr ⟨_, rfl, rfl, rfl⟩) l2 rfl ?_
  refine m_aS (r := 1) (a := 2) (g := (A 2)) (p := T.length) (pc' := 161) rfl rfl cd_Mo_term rfl rfl rfl (vp_in_nI (by omega) (by decide)) (nI_clamp (by omega)) ?_
  refine m_ald (pc' := 162) cd_Mo_term rfl (Or.inr ⟨_, rfl, rfl, rfl⟩) l0 rfl rfl ?_
  refine m_fR (r := 2) (a := 3) (ad := 1485) (pc' := 165) rfl rfl cd_Mo_term rfl rfl rfl rfl rfl ?_
  refine m_ild (pc' := 167) cd_Mo_term rfl (Or.inl ⟨rfl, rfl⟩) l7 rfl ?_
  refine m_ild (pc' := 168) cd_Mo_term rfl (Or.inr ⟨_, rfl, rfl, rfl⟩) l1 rfl ?_
  refine m_k2 (v := 7) (pc' := 170) cd_Mo_term rfl (by decide) rfl ?_
  refine m_if2 (t := 180) (pc' := 173) cd_Mo_term rfl rfl rfl (fun c170 => ?_) (fun c170 => ?_)
  · have c170 : ¬ w = 7 := c170
    refine m_ild (pc' := 181) cd_Mo_term rfl (Or.inr ⟨_, rfl, rfl, rfl⟩) l3 rfl ?_
    refine m_aS (r := 2) (a := 3) (g := (A 3)) (p := T.length) (pc' := 182) rfl rfl cd_Mo_term rfl rfl rfl (vp_in_nI (by omega) (by decide)) (nI_clamp (by omega)) ?_
    refine m_ald (pc' := 183) cd_Mo_term rfl (Or.inr ⟨_, rfl, rfl, rfl⟩) l0 rfl rfl ?_
    refine m_fR (r := 3) (a := 4) (ad := 1486) (pc' := 186) rfl rfl cd_Mo_term rfl rfl rfl rfl rfl ?_
    refine m_ild (pc' := 188) cd_Mo_term rfl (Or.inl ⟨rfl, rfl⟩) l7 rfl ?_
    refine m_ild (pc' := 190) cd_Mo_term rfl (Or.inl ⟨rfl, rfl⟩) l4 rfl ?_
    refine m_aS (r := 3) (a := 4) (g := (A 4)) (p := T.length) (pc' := 191) rfl rfl cd_Mo_term rfl rfl rfl (vp_in_nI (by omega) (by decide)) (nI_clamp (by omega)) ?_
    refine m_ald (pc' := 192) cd_Mo_term rfl (Or.inr ⟨_, rfl, rfl, rfl⟩) l0 rfl rfl ?_
    refine m_fR (r := 4) (a := 5) (ad := 1487) (pc' := 195) rfl rfl cd_Mo_term rfl rfl rfl rfl rfl ?_
    refine m_ild (pc' := 197) cd_Mo_term rfl (Or.inl ⟨rfl, rfl⟩) l7 rfl ?_
    refine m_k1 (v := 0) (pc' := 198) cd_Mo_term rfl (by decide) rfl ?_
    refine m_bS (r := 4) (a := 5) (g := (A 5)) (p := T.length) (pc' := 199) rfl rfl cd_Mo_term rfl rfl rfl (vp_in_nI (by omega) (by decide)) (nI_clamp (by omega)) (by decide) ?_
    refine m_ald (pc' := 200) cd_Mo_term rfl (Or.inr ⟨_, rfl, rfl, rfl⟩) l0 rfl rfl ?_
    refine m_fR (r := 5) (a := 6) (ad := 1488) (pc' := 203) rfl rfl cd_Mo_term rfl rfl rfl rfl rfl ?_
    refine m_ild (pc' := 205) cd_Mo_term rfl (Or.inl ⟨rfl, rfl⟩) l7 rfl ?_
    refine m_k1 (v := 0) (pc' := 206) cd_Mo_term rfl (by decide) rfl ?_
    refine m_bS (r := 5) (a := 6) (g := (A 6)) (p := T.length) (pc' := 207) rfl rfl cd_Mo_term rfl rfl rfl (vp_in_nI (by omega) (by decide)) (nI_clamp (by omega)) (by decide) ?_
    refine m_ild (pc' := 208) cd_Mo_term rfl (Or.inr ⟨_, rfl, rfl, rfl⟩) l1 rfl ?_
    refine m_k2 (v := 7) (pc' := 210) cd_Mo_term rfl (by decide) rfl ?_
    refine m_if2 (t := 261) (pc' := 213) cd_Mo_term rfl rfl rfl (fun c210 => ?_) (fun c210 => ?_)
    · have c210 : ¬ w = 7 := c210
      refine m_ald (pc' := 262) cd_Mo_term rfl (Or.inr ⟨_, rfl, rfl, rfl⟩) l0 rfl rfl ?_
      refine m_fR (r := 7) (a := 8) (ad := 1490) (pc' := 265) rfl rfl cd_Mo_term rfl rfl rfl rfl rfl ?_
      refine m_ild (pc' := 267) cd_Mo_term rfl (Or.inl ⟨rfl, rfl⟩) l6 rfl ?_
      refine m_ild (pc' := 269) cd_Mo_term rfl (Or.inl ⟨rfl, rfl⟩) l7 rfl ?_
      refine m_aS (r := 7) (a := 8) (g := (A 8)) (p := (((hix (hky w a b c (A 9))) + e) % 8192)) (pc' := 270) rfl rfl cd_Mo_term rfl rfl rfl (vp_in_nI (by omega) (by decide)) (nI_clamp (by omega)) ?_
      refine m_ild (pc' := 272) cd_Mo_term rfl (Or.inl ⟨rfl, rfl⟩) l7 rfl ?_
      have hN := MT_new (cl' := A 7) hM hX hnew hl hr he hz hk rfl (fun q => absurd q c170) (fun _ _ => rfl) hsec
      rw [if_neg c170, if_neg c170, show rc (A 1) T.length + 0 = rc (A 1) T.length from rfl, ← h7] at hN
      have hA : ∀ (B1 : Nat → Nat → Int32) (j i : Nat) (g : Nat → Int32), ¬ (1 ≤ j ∧ j ≤ 8) → 1 ≤ i → i ≤ 8 → fset B1 i g j = B1 j := fun B1 j i g q1 q2 q3 => fset_ne (by omega)
      exact m_reti cd_Mo_term rfl ⟨_, rfl, (k1 _ _ hnew hN (fun k q => fset_ne (show k ≠ 0 by omega)) (fun j q => by rw [hA _ j _ _ q (by decide) (by decide), hA _ j _ _ q (by decide) (by decide), hA _ j _ _ q (by decide) (by decide), hA _ j _ _ q (by decide) (by decide), hA _ j _ _ q (by decide) (by decide), hA _ j _ _ q (by decide) (by decide), hA _ j _ _ q (by decide) (by decide)]))⟩
    · have c210 : w = 7 := Classical.not_not.mp c210
      exact absurd c210 c170
  · have c170 : w = 7 := Classical.not_not.mp c170
    refine m_ald (pc' := 174) cd_Mo_term rfl (Or.inr ⟨_, rfl, rfl, rfl⟩) l0 rfl rfl ?_
    refine m_fI (k := 7) (x := (nI (rc (A 1) T.length))) (pc' := 177) cd_Mo_term rfl rfl rfl rfl rfl h7 ?_
    refine m_pure (pc' := 181) (st' := [.int ((nI (rc (A 1) T.length))), .int ((nI T.length)), .ref 1485]) cd_Mo_term rfl rfl (fun _ _ => rfl) ?_
    refine m_aS (r := 2) (a := 3) (g := (A 3)) (p := T.length) (pc' := 182) rfl rfl cd_Mo_term rfl rfl rfl (vp_in_nI (by omega) (by decide)) (nI_clamp (by omega)) ?_
    refine m_ald (pc' := 183) cd_Mo_term rfl (Or.inr ⟨_, rfl, rfl, rfl⟩) l0 rfl rfl ?_
    refine m_fR (r := 3) (a := 4) (ad := 1486) (pc' := 186) rfl rfl cd_Mo_term rfl rfl rfl rfl rfl ?_
    refine m_ild (pc' := 188) cd_Mo_term rfl (Or.inl ⟨rfl, rfl⟩) l7 rfl ?_
    refine m_ild (pc' := 190) cd_Mo_term rfl (Or.inl ⟨rfl, rfl⟩) l4 rfl ?_
    refine m_aS (r := 3) (a := 4) (g := (A 4)) (p := T.length) (pc' := 191) rfl rfl cd_Mo_term rfl rfl rfl (vp_in_nI (by omega) (by decide)) (nI_clamp (by omega)) ?_
    refine m_ald (pc' := 192) cd_Mo_term rfl (Or.inr ⟨_, rfl, rfl, rfl⟩) l0 rfl rfl ?_
    refine m_fR (r := 4) (a := 5) (ad := 1487) (pc' := 195) rfl rfl cd_Mo_term rfl rfl rfl rfl rfl ?_
    refine m_ild (pc' := 197) cd_Mo_term rfl (Or.inl ⟨rfl, rfl⟩) l7 rfl ?_
    refine m_k1 (v := 0) (pc' := 198) cd_Mo_term rfl (by decide) rfl ?_
    refine m_bS (r := 4) (a := 5) (g := (A 5)) (p := T.length) (pc' := 199) rfl rfl cd_Mo_term rfl rfl rfl (vp_in_nI (by omega) (by decide)) (nI_clamp (by omega)) (by decide) ?_
    refine m_ald (pc' := 200) cd_Mo_term rfl (Or.inr ⟨_, rfl, rfl, rfl⟩) l0 rfl rfl ?_
    refine m_fR (r := 5) (a := 6) (ad := 1488) (pc' := 203) rfl rfl cd_Mo_term rfl rfl rfl rfl rfl ?_
    refine m_ild (pc' := 205) cd_Mo_term rfl (Or.inl ⟨rfl, rfl⟩) l7 rfl ?_
    refine m_k1 (v := 0) (pc' := 206) cd_Mo_term rfl (by decide) rfl ?_
    refine m_bS (r := 5) (a := 6) (g := (A 6)) (p := T.length) (pc' := 207) rfl rfl cd_Mo_term rfl rfl rfl (vp_in_nI (by omega) (by decide)) (nI_clamp (by omega)) (by decide) ?_
    refine m_ild (pc' := 208) cd_Mo_term rfl (Or.inr ⟨_, rfl, rfl, rfl⟩) l1 rfl ?_
    refine m_k2 (v := 7) (pc' := 210) cd_Mo_term rfl (by decide) rfl ?_
    refine m_if2 (t := 261) (pc' := 213) cd_Mo_term rfl rfl rfl (fun c210 => ?_) (fun c210 => ?_)
    · have c210 : ¬ w = 7 := c210
      exact absurd c170 c210
    · have c210 : w = 7 := Classical.not_not.mp c210
      refine m_k1 (v := 0) (pc' := 214) cd_Mo_term rfl (by decide) rfl ?_
      refine m_ist (pc' := 216) cd_Mo_term rfl (Or.inl ⟨rfl, rfl⟩) (by decide) rfl (fun lv el => ?_)
      have l0 := tm_lk el l0 rfl (by decide)
      have l1 := tm_lk el l1 rfl (by decide)
      have l2 := tm_lk el l2 rfl (by decide)
      have l3 := tm_lk el l3 rfl (by decide)
      have l4 := tm_lk el l4 rfl (by decide)
      have l6 := tm_lk el l6 rfl (by decide)
      have l7 := tm_lk el l7 rfl (by decide)
      have l8 : lv.lookup 8 = some (.int 0) := tm_lks el
      clear el
      refine m_ild (pc' := 218) cd_Mo_term rfl (Or.inl ⟨rfl, rfl⟩) l8 rfl ?_
      refine m_k2 (v := 8) (pc' := 220) cd_Mo_term rfl (by decide) rfl ?_
      refine m_if2 (t := 251) (pc' := 223) cd_Mo_term rfl rfl rfl (fun c220 => ?_) (fun c220 => ?_)
      · exact absurd (show (8 : Int32) ≤ 0 from c220) (by decide)
      · have c220 : ¬ (8 : Int32) ≤ 0 := c220
        refine m_ald (pc' := 224) cd_Mo_term rfl (Or.inr ⟨_, rfl, rfl, rfl⟩) l0 rfl rfl ?_
        refine m_fR (r := 6) (a := 7) (ad := 1489) (pc' := 227) rfl rfl cd_Mo_term rfl rfl rfl rfl rfl ?_
        refine m_k2 (v := 8) (pc' := 229) cd_Mo_term rfl (by decide) rfl ?_
        refine m_ald (pc' := 230) cd_Mo_term rfl (Or.inr ⟨_, rfl, rfl, rfl⟩) l0 rfl rfl ?_
        refine m_fI (k := 7) (x := (nI (rc (A 1) T.length))) (pc' := 233) cd_Mo_term rfl rfl rfl rfl rfl h7 ?_
        refine m_pure (pc' := 234) (st' := [.int ((8 : Int32) * (nI (rc (A 1) T.length))), .ref 1489]) cd_Mo_term rfl rfl (fun _ _ => rfl) ?_
        refine m_eq (show ((8 : Int32) * (nI (rc (A 1) T.length)) : Int32) = nI (8 * (rc (A 1) T.length)) from pk_mul 8 (rc (A 1) T.length)) ?_
        refine m_ild (pc' := 236) cd_Mo_term rfl (Or.inl ⟨rfl, rfl⟩) l8 rfl ?_
        refine m_pure (pc' := 237) (st' := [.int ((nI (8 * (rc (A 1) T.length))) + 0), .ref 1489]) cd_Mo_term rfl rfl (fun _ _ => rfl) ?_
        refine m_eq (show ((nI (8 * (rc (A 1) T.length))) + 0 : Int32) = nI ((8 * (rc (A 1) T.length)) + 0) from nI_add (8 * (rc (A 1) T.length)) 0) ?_
        refine m_ald (pc' := 238) cd_Mo_term rfl (Or.inr ⟨_, rfl, rfl, rfl⟩) l0 rfl rfl ?_
        refine m_fR (r := 8) (a := 9) (ad := 1491) (pc' := 241) rfl rfl cd_Mo_term rfl rfl rfl rfl rfl ?_
        refine m_ild (pc' := 243) cd_Mo_term rfl (Or.inl ⟨rfl, rfl⟩) l8 rfl ?_
        refine m_aI (r := 8) (a := 9) (g := (A 9)) (x := ((A 9) 0)) (pc' := 244) rfl rfl cd_Mo_term rfl rfl rfl (vp_in_nI (n := 0) (by decide) (by decide)) (congrArg (A 9) (by decide)) ?_
        refine m_aS (r := 6) (a := 7) (g := (A 7)) (p := ((8 * (rc (A 1) T.length)) + 0)) (pc' := 245) rfl rfl cd_Mo_term rfl rfl rfl (vp_in_nI (by omega) (by decide)) (nI_clamp (by omega)) ?_
        refine m_inc (y := 1) (pc' := 248) cd_Mo_term rfl l8 (by decide) (by decide) rfl (fun lv el => ?_)
        have l0 := tm_lk el l0 rfl (by decide)
        have l1 := tm_lk el l1 rfl (by decide)
        have l2 := tm_lk el l2 rfl (by decide)
        have l3 := tm_lk el l3 rfl (by decide)
        have l4 := tm_lk el l4 rfl (by decide)
        have l6 := tm_lk el l6 rfl (by decide)
        have l7 := tm_lk el l7 rfl (by decide)
        have l8 : lv.lookup 8 = some (.int 1) := tm_lks el
        clear el
        refine m_pure (pc' := 216) (st' := []) cd_Mo_term rfl rfl (fun _ _ => rfl) ?_
        refine m_ild (pc' := 218) cd_Mo_term rfl (Or.inl ⟨rfl, rfl⟩) l8 rfl ?_
        refine m_k2 (v := 8) (pc' := 220) cd_Mo_term rfl (by decide) rfl ?_
        refine m_if2 (t := 251) (pc' := 223) cd_Mo_term rfl rfl rfl (fun c220 => ?_) (fun c220 => ?_)
        · exact absurd (show (8 : Int32) ≤ 1 from c220) (by decide)
        · have c220 : ¬ (8 : Int32) ≤ 1 := c220
          refine m_ald (pc' := 224) cd_Mo_term rfl (Or.inr ⟨_, rfl, rfl, rfl⟩) l0 rfl rfl ?_
          refine m_fR (r := 6) (a := 7) (ad := 1489) (pc' := 227) rfl rfl cd_Mo_term rfl rfl rfl rfl rfl ?_
          refine m_k2 (v := 8) (pc' := 229) cd_Mo_term rfl (by decide) rfl ?_
          refine m_ald (pc' := 230) cd_Mo_term rfl (Or.inr ⟨_, rfl, rfl, rfl⟩) l0 rfl rfl ?_
          refine m_fI (k := 7) (x := (nI (rc (A 1) T.length))) (pc' := 233) cd_Mo_term rfl rfl rfl rfl rfl h7 ?_
          refine m_pure (pc' := 234) (st' := [.int ((8 : Int32) * (nI (rc (A 1) T.length))), .ref 1489]) cd_Mo_term rfl rfl (fun _ _ => rfl) ?_
          refine m_eq (show ((8 : Int32) * (nI (rc (A 1) T.length)) : Int32) = nI (8 * (rc (A 1) T.length)) from pk_mul 8 (rc (A 1) T.length)) ?_
          refine m_ild (pc' := 236) cd_Mo_term rfl (Or.inl ⟨rfl, rfl⟩) l8 rfl ?_
          refine m_pure (pc' := 237) (st' := [.int ((nI (8 * (rc (A 1) T.length))) + 1), .ref 1489]) cd_Mo_term rfl rfl (fun _ _ => rfl) ?_
          refine m_eq (show ((nI (8 * (rc (A 1) T.length))) + 1 : Int32) = nI ((8 * (rc (A 1) T.length)) + 1) from nI_add (8 * (rc (A 1) T.length)) 1) ?_
          refine m_ald (pc' := 238) cd_Mo_term rfl (Or.inr ⟨_, rfl, rfl, rfl⟩) l0 rfl rfl ?_
          refine m_fR (r := 8) (a := 9) (ad := 1491) (pc' := 241) rfl rfl cd_Mo_term rfl rfl rfl rfl rfl ?_
          refine m_ild (pc' := 243) cd_Mo_term rfl (Or.inl ⟨rfl, rfl⟩) l8 rfl ?_
          refine m_aI (r := 8) (a := 9) (g := (A 9)) (x := ((A 9) 1)) (pc' := 244) rfl rfl cd_Mo_term rfl rfl rfl (vp_in_nI (n := 1) (by decide) (by decide)) (congrArg (A 9) (by decide)) ?_
          refine m_aS (r := 6) (a := 7) (g := (upd (A 7) ((8 * (rc (A 1) T.length)) + 0) ((A 9) 0))) (p := ((8 * (rc (A 1) T.length)) + 1)) (pc' := 245) rfl rfl cd_Mo_term rfl rfl rfl (vp_in_nI (by omega) (by decide)) (nI_clamp (by omega)) ?_
          refine m_inc (y := 2) (pc' := 248) cd_Mo_term rfl l8 (by decide) (by decide) rfl (fun lv el => ?_)
          have l0 := tm_lk el l0 rfl (by decide)
          have l1 := tm_lk el l1 rfl (by decide)
          have l2 := tm_lk el l2 rfl (by decide)
          have l3 := tm_lk el l3 rfl (by decide)
          have l4 := tm_lk el l4 rfl (by decide)
          have l6 := tm_lk el l6 rfl (by decide)
          have l7 := tm_lk el l7 rfl (by decide)
          have l8 : lv.lookup 8 = some (.int 2) := tm_lks el
          clear el
          refine m_pure (pc' := 216) (st' := []) cd_Mo_term rfl rfl (fun _ _ => rfl) ?_
          refine m_ild (pc' := 218) cd_Mo_term rfl (Or.inl ⟨rfl, rfl⟩) l8 rfl ?_
          refine m_k2 (v := 8) (pc' := 220) cd_Mo_term rfl (by decide) rfl ?_
          refine m_if2 (t := 251) (pc' := 223) cd_Mo_term rfl rfl rfl (fun c220 => ?_) (fun c220 => ?_)
          · exact absurd (show (8 : Int32) ≤ 2 from c220) (by decide)
          · have c220 : ¬ (8 : Int32) ≤ 2 := c220
            refine m_ald (pc' := 224) cd_Mo_term rfl (Or.inr ⟨_, rfl, rfl, rfl⟩) l0 rfl rfl ?_
            refine m_fR (r := 6) (a := 7) (ad := 1489) (pc' := 227) rfl rfl cd_Mo_term rfl rfl rfl rfl rfl ?_
            refine m_k2 (v := 8) (pc' := 229) cd_Mo_term rfl (by decide) rfl ?_
            refine m_ald (pc' := 230) cd_Mo_term rfl (Or.inr ⟨_, rfl, rfl, rfl⟩) l0 rfl rfl ?_
            refine m_fI (k := 7) (x := (nI (rc (A 1) T.length))) (pc' := 233) cd_Mo_term rfl rfl rfl rfl rfl h7 ?_
            refine m_pure (pc' := 234) (st' := [.int ((8 : Int32) * (nI (rc (A 1) T.length))), .ref 1489]) cd_Mo_term rfl rfl (fun _ _ => rfl) ?_
            refine m_eq (show ((8 : Int32) * (nI (rc (A 1) T.length)) : Int32) = nI (8 * (rc (A 1) T.length)) from pk_mul 8 (rc (A 1) T.length)) ?_
            refine m_ild (pc' := 236) cd_Mo_term rfl (Or.inl ⟨rfl, rfl⟩) l8 rfl ?_
            refine m_pure (pc' := 237) (st' := [.int ((nI (8 * (rc (A 1) T.length))) + 2), .ref 1489]) cd_Mo_term rfl rfl (fun _ _ => rfl) ?_
            refine m_eq (show ((nI (8 * (rc (A 1) T.length))) + 2 : Int32) = nI ((8 * (rc (A 1) T.length)) + 2) from nI_add (8 * (rc (A 1) T.length)) 2) ?_
            refine m_ald (pc' := 238) cd_Mo_term rfl (Or.inr ⟨_, rfl, rfl, rfl⟩) l0 rfl rfl ?_
            refine m_fR (r := 8) (a := 9) (ad := 1491) (pc' := 241) rfl rfl cd_Mo_term rfl rfl rfl rfl rfl ?_
            refine m_ild (pc' := 243) cd_Mo_term rfl (Or.inl ⟨rfl, rfl⟩) l8 rfl ?_
            refine m_aI (r := 8) (a := 9) (g := (A 9)) (x := ((A 9) 2)) (pc' := 244) rfl rfl cd_Mo_term rfl rfl rfl (vp_in_nI (n := 2) (by decide) (by decide)) (congrArg (A 9) (by decide)) ?_
            refine m_aS (r := 6) (a := 7) (g := (upd (upd (A 7) ((8 * (rc (A 1) T.length)) + 0) ((A 9) 0)) ((8 * (rc (A 1) T.length)) + 1) ((A 9) 1))) (p := ((8 * (rc (A 1) T.length)) + 2)) (pc' := 245) rfl rfl cd_Mo_term rfl rfl rfl (vp_in_nI (by omega) (by decide)) (nI_clamp (by omega)) ?_
            refine m_inc (y := 3) (pc' := 248) cd_Mo_term rfl l8 (by decide) (by decide) rfl (fun lv el => ?_)
            have l0 := tm_lk el l0 rfl (by decide)
            have l1 := tm_lk el l1 rfl (by decide)
            have l2 := tm_lk el l2 rfl (by decide)
            have l3 := tm_lk el l3 rfl (by decide)
            have l4 := tm_lk el l4 rfl (by decide)
            have l6 := tm_lk el l6 rfl (by decide)
            have l7 := tm_lk el l7 rfl (by decide)
            have l8 : lv.lookup 8 = some (.int 3) := tm_lks el
            clear el
            refine m_pure (pc' := 216) (st' := []) cd_Mo_term rfl rfl (fun _ _ => rfl) ?_
            refine m_ild (pc' := 218) cd_Mo_term rfl (Or.inl ⟨rfl, rfl⟩) l8 rfl ?_
            refine m_k2 (v := 8) (pc' := 220) cd_Mo_term rfl (by decide) rfl ?_
            refine m_if2 (t := 251) (pc' := 223) cd_Mo_term rfl rfl rfl (fun c220 => ?_) (fun c220 => ?_)
            · exact absurd (show (8 : Int32) ≤ 3 from c220) (by decide)
            · have c220 : ¬ (8 : Int32) ≤ 3 := c220
              refine m_ald (pc' := 224) cd_Mo_term rfl (Or.inr ⟨_, rfl, rfl, rfl⟩) l0 rfl rfl ?_
              refine m_fR (r := 6) (a := 7) (ad := 1489) (pc' := 227) rfl rfl cd_Mo_term rfl rfl rfl rfl rfl ?_
              refine m_k2 (v := 8) (pc' := 229) cd_Mo_term rfl (by decide) rfl ?_
              refine m_ald (pc' := 230) cd_Mo_term rfl (Or.inr ⟨_, rfl, rfl, rfl⟩) l0 rfl rfl ?_
              refine m_fI (k := 7) (x := (nI (rc (A 1) T.length))) (pc' := 233) cd_Mo_term rfl rfl rfl rfl rfl h7 ?_
              refine m_pure (pc' := 234) (st' := [.int ((8 : Int32) * (nI (rc (A 1) T.length))), .ref 1489]) cd_Mo_term rfl rfl (fun _ _ => rfl) ?_
              refine m_eq (show ((8 : Int32) * (nI (rc (A 1) T.length)) : Int32) = nI (8 * (rc (A 1) T.length)) from pk_mul 8 (rc (A 1) T.length)) ?_
              refine m_ild (pc' := 236) cd_Mo_term rfl (Or.inl ⟨rfl, rfl⟩) l8 rfl ?_
              refine m_pure (pc' := 237) (st' := [.int ((nI (8 * (rc (A 1) T.length))) + 3), .ref 1489]) cd_Mo_term rfl rfl (fun _ _ => rfl) ?_
              refine m_eq (show ((nI (8 * (rc (A 1) T.length))) + 3 : Int32) = nI ((8 * (rc (A 1) T.length)) + 3) from nI_add (8 * (rc (A 1) T.length)) 3) ?_
              refine m_ald (pc' := 238) cd_Mo_term rfl (Or.inr ⟨_, rfl, rfl, rfl⟩) l0 rfl rfl ?_
              refine m_fR (r := 8) (a := 9) (ad := 1491) (pc' := 241) rfl rfl cd_Mo_term rfl rfl rfl rfl rfl ?_
              refine m_ild (pc' := 243) cd_Mo_term rfl (Or.inl ⟨rfl, rfl⟩) l8 rfl ?_
              refine m_aI (r := 8) (a := 9) (g := (A 9)) (x := ((A 9) 3)) (pc' := 244) rfl rfl cd_Mo_term rfl rfl rfl (vp_in_nI (n := 3) (by decide) (by decide)) (congrArg (A 9) (by decide)) ?_
              refine m_aS (r := 6) (a := 7) (g := (upd (upd (upd (A 7) ((8 * (rc (A 1) T.length)) + 0) ((A 9) 0)) ((8 * (rc (A 1) T.length)) + 1) ((A 9) 1)) ((8 * (rc (A 1) T.length)) + 2) ((A 9) 2))) (p := ((8 * (rc (A 1) T.length)) + 3)) (pc' := 245) rfl rfl cd_Mo_term rfl rfl rfl (vp_in_nI (by omega) (by decide)) (nI_clamp (by omega)) ?_
              refine m_inc (y := 4) (pc' := 248) cd_Mo_term rfl l8 (by decide) (by decide) rfl (fun lv el => ?_)
              have l0 := tm_lk el l0 rfl (by decide)
              have l1 := tm_lk el l1 rfl (by decide)
              have l2 := tm_lk el l2 rfl (by decide)
              have l3 := tm_lk el l3 rfl (by decide)
              have l4 := tm_lk el l4 rfl (by decide)
              have l6 := tm_lk el l6 rfl (by decide)
              have l7 := tm_lk el l7 rfl (by decide)
              have l8 : lv.lookup 8 = some (.int 4) := tm_lks el
              clear el
              refine m_pure (pc' := 216) (st' := []) cd_Mo_term rfl rfl (fun _ _ => rfl) ?_
              refine m_ild (pc' := 218) cd_Mo_term rfl (Or.inl ⟨rfl, rfl⟩) l8 rfl ?_
              refine m_k2 (v := 8) (pc' := 220) cd_Mo_term rfl (by decide) rfl ?_
              refine m_if2 (t := 251) (pc' := 223) cd_Mo_term rfl rfl rfl (fun c220 => ?_) (fun c220 => ?_)
              · exact absurd (show (8 : Int32) ≤ 4 from c220) (by decide)
              · have c220 : ¬ (8 : Int32) ≤ 4 := c220
                refine m_ald (pc' := 224) cd_Mo_term rfl (Or.inr ⟨_, rfl, rfl, rfl⟩) l0 rfl rfl ?_
                refine m_fR (r := 6) (a := 7) (ad := 1489) (pc' := 227) rfl rfl cd_Mo_term rfl rfl rfl rfl rfl ?_
                refine m_k2 (v := 8) (pc' := 229) cd_Mo_term rfl (by decide) rfl ?_
                refine m_ald (pc' := 230) cd_Mo_term rfl (Or.inr ⟨_, rfl, rfl, rfl⟩) l0 rfl rfl ?_
                refine m_fI (k := 7) (x := (nI (rc (A 1) T.length))) (pc' := 233) cd_Mo_term rfl rfl rfl rfl rfl h7 ?_
                refine m_pure (pc' := 234) (st' := [.int ((8 : Int32) * (nI (rc (A 1) T.length))), .ref 1489]) cd_Mo_term rfl rfl (fun _ _ => rfl) ?_
                refine m_eq (show ((8 : Int32) * (nI (rc (A 1) T.length)) : Int32) = nI (8 * (rc (A 1) T.length)) from pk_mul 8 (rc (A 1) T.length)) ?_
                refine m_ild (pc' := 236) cd_Mo_term rfl (Or.inl ⟨rfl, rfl⟩) l8 rfl ?_
                refine m_pure (pc' := 237) (st' := [.int ((nI (8 * (rc (A 1) T.length))) + 4), .ref 1489]) cd_Mo_term rfl rfl (fun _ _ => rfl) ?_
                refine m_eq (show ((nI (8 * (rc (A 1) T.length))) + 4 : Int32) = nI ((8 * (rc (A 1) T.length)) + 4) from nI_add (8 * (rc (A 1) T.length)) 4) ?_
                refine m_ald (pc' := 238) cd_Mo_term rfl (Or.inr ⟨_, rfl, rfl, rfl⟩) l0 rfl rfl ?_
                refine m_fR (r := 8) (a := 9) (ad := 1491) (pc' := 241) rfl rfl cd_Mo_term rfl rfl rfl rfl rfl ?_
                refine m_ild (pc' := 243) cd_Mo_term rfl (Or.inl ⟨rfl, rfl⟩) l8 rfl ?_
                refine m_aI (r := 8) (a := 9) (g := (A 9)) (x := ((A 9) 4)) (pc' := 244) rfl rfl cd_Mo_term rfl rfl rfl (vp_in_nI (n := 4) (by decide) (by decide)) (congrArg (A 9) (by decide)) ?_
                refine m_aS (r := 6) (a := 7) (g := (upd (upd (upd (upd (A 7) ((8 * (rc (A 1) T.length)) + 0) ((A 9) 0)) ((8 * (rc (A 1) T.length)) + 1) ((A 9) 1)) ((8 * (rc (A 1) T.length)) + 2) ((A 9) 2)) ((8 * (rc (A 1) T.length)) + 3) ((A 9) 3))) (p := ((8 * (rc (A 1) T.length)) + 4)) (pc' := 245) rfl rfl cd_Mo_term rfl rfl rfl (vp_in_nI (by omega) (by decide)) (nI_clamp (by omega)) ?_
                refine m_inc (y := 5) (pc' := 248) cd_Mo_term rfl l8 (by decide) (by decide) rfl (fun lv el => ?_)
                have l0 := tm_lk el l0 rfl (by decide)
                have l1 := tm_lk el l1 rfl (by decide)
                have l2 := tm_lk el l2 rfl (by decide)
                have l3 := tm_lk el l3 rfl (by decide)
                have l4 := tm_lk el l4 rfl (by decide)
                have l6 := tm_lk el l6 rfl (by decide)
                have l7 := tm_lk el l7 rfl (by decide)
                have l8 : lv.lookup 8 = some (.int 5) := tm_lks el
                clear el
                refine m_pure (pc' := 216) (st' := []) cd_Mo_term rfl rfl (fun _ _ => rfl) ?_
                refine m_ild (pc' := 218) cd_Mo_term rfl (Or.inl ⟨rfl, rfl⟩) l8 rfl ?_
                refine m_k2 (v := 8) (pc' := 220) cd_Mo_term rfl (by decide) rfl ?_
                refine m_if2 (t := 251) (pc' := 223) cd_Mo_term rfl rfl rfl (fun c220 => ?_) (fun c220 => ?_)
                · exact absurd (show (8 : Int32) ≤ 5 from c220) (by decide)
                · have c220 : ¬ (8 : Int32) ≤ 5 := c220
                  refine m_ald (pc' := 224) cd_Mo_term rfl (Or.inr ⟨_, rfl, rfl, rfl⟩) l0 rfl rfl ?_
                  refine m_fR (r := 6) (a := 7) (ad := 1489) (pc' := 227) rfl rfl cd_Mo_term rfl rfl rfl rfl rfl ?_
                  refine m_k2 (v := 8) (pc' := 229) cd_Mo_term rfl (by decide) rfl ?_
                  refine m_ald (pc' := 230) cd_Mo_term rfl (Or.inr ⟨_, rfl, rfl, rfl⟩) l0 rfl rfl ?_
                  refine m_fI (k := 7) (x := (nI (rc (A 1) T.length))) (pc' := 233) cd_Mo_term rfl rfl rfl rfl rfl h7 ?_
                  refine m_pure (pc' := 234) (st' := [.int ((8 : Int32) * (nI (rc (A 1) T.length))), .ref 1489]) cd_Mo_term rfl rfl (fun _ _ => rfl) ?_
                  refine m_eq (show ((8 : Int32) * (nI (rc (A 1) T.length)) : Int32) = nI (8 * (rc (A 1) T.length)) from pk_mul 8 (rc (A 1) T.length)) ?_
                  refine m_ild (pc' := 236) cd_Mo_term rfl (Or.inl ⟨rfl, rfl⟩) l8 rfl ?_
                  refine m_pure (pc' := 237) (st' := [.int ((nI (8 * (rc (A 1) T.length))) + 5), .ref 1489]) cd_Mo_term rfl rfl (fun _ _ => rfl) ?_
                  refine m_eq (show ((nI (8 * (rc (A 1) T.length))) + 5 : Int32) = nI ((8 * (rc (A 1) T.length)) + 5) from nI_add (8 * (rc (A 1) T.length)) 5) ?_
                  refine m_ald (pc' := 238) cd_Mo_term rfl (Or.inr ⟨_, rfl, rfl, rfl⟩) l0 rfl rfl ?_
                  refine m_fR (r := 8) (a := 9) (ad := 1491) (pc' := 241) rfl rfl cd_Mo_term rfl rfl rfl rfl rfl ?_
                  refine m_ild (pc' := 243) cd_Mo_term rfl (Or.inl ⟨rfl, rfl⟩) l8 rfl ?_
                  refine m_aI (r := 8) (a := 9) (g := (A 9)) (x := ((A 9) 5)) (pc' := 244) rfl rfl cd_Mo_term rfl rfl rfl (vp_in_nI (n := 5) (by decide) (by decide)) (congrArg (A 9) (by decide)) ?_
                  refine m_aS (r := 6) (a := 7) (g := (upd (upd (upd (upd (upd (A 7) ((8 * (rc (A 1) T.length)) + 0) ((A 9) 0)) ((8 * (rc (A 1) T.length)) + 1) ((A 9) 1)) ((8 * (rc (A 1) T.length)) + 2) ((A 9) 2)) ((8 * (rc (A 1) T.length)) + 3) ((A 9) 3)) ((8 * (rc (A 1) T.length)) + 4) ((A 9) 4))) (p := ((8 * (rc (A 1) T.length)) + 5)) (pc' := 245) rfl rfl cd_Mo_term rfl rfl rfl (vp_in_nI (by omega) (by decide)) (nI_clamp (by omega)) ?_
                  refine m_inc (y := 6) (pc' := 248) cd_Mo_term rfl l8 (by decide) (by decide) rfl (fun lv el => ?_)
                  have l0 := tm_lk el l0 rfl (by decide)
                  have l1 := tm_lk el l1 rfl (by decide)
                  have l2 := tm_lk el l2 rfl (by decide)
                  have l3 := tm_lk el l3 rfl (by decide)
                  have l4 := tm_lk el l4 rfl (by decide)
                  have l6 := tm_lk el l6 rfl (by decide)
                  have l7 := tm_lk el l7 rfl (by decide)
                  have l8 : lv.lookup 8 = some (.int 6) := tm_lks el
                  clear el
                  refine m_pure (pc' := 216) (st' := []) cd_Mo_term rfl rfl (fun _ _ => rfl) ?_
                  refine m_ild (pc' := 218) cd_Mo_term rfl (Or.inl ⟨rfl, rfl⟩) l8 rfl ?_
                  refine m_k2 (v := 8) (pc' := 220) cd_Mo_term rfl (by decide) rfl ?_
                  refine m_if2 (t := 251) (pc' := 223) cd_Mo_term rfl rfl rfl (fun c220 => ?_) (fun c220 => ?_)
                  · exact absurd (show (8 : Int32) ≤ 6 from c220) (by decide)
                  · have c220 : ¬ (8 : Int32) ≤ 6 := c220
                    refine m_ald (pc' := 224) cd_Mo_term rfl (Or.inr ⟨_, rfl, rfl, rfl⟩) l0 rfl rfl ?_
                    refine m_fR (r := 6) (a := 7) (ad := 1489) (pc' := 227) rfl rfl cd_Mo_term rfl rfl rfl rfl rfl ?_
                    refine m_k2 (v := 8) (pc' := 229) cd_Mo_term rfl (by decide) rfl ?_
                    refine m_ald (pc' := 230) cd_Mo_term rfl (Or.inr ⟨_, rfl, rfl, rfl⟩) l0 rfl rfl ?_
                    refine m_fI (k := 7) (x := (nI (rc (A 1) T.length))) (pc' := 233) cd_Mo_term rfl rfl rfl rfl rfl h7 ?_
                    refine m_pure (pc' := 234) (st' := [.int ((8 : Int32) * (nI (rc (A 1) T.length))), .ref 1489]) cd_Mo_term rfl rfl (fun _ _ => rfl) ?_
                    refine m_eq (show ((8 : Int32) * (nI (rc (A 1) T.length)) : Int32) = nI (8 * (rc (A 1) T.length)) from pk_mul 8 (rc (A 1) T.length)) ?_
                    refine m_ild (pc' := 236) cd_Mo_term rfl (Or.inl ⟨rfl, rfl⟩) l8 rfl ?_
                    refine m_pure (pc' := 237) (st' := [.int ((nI (8 * (rc (A 1) T.length))) + 6), .ref 1489]) cd_Mo_term rfl rfl (fun _ _ => rfl) ?_
                    refine m_eq (show ((nI (8 * (rc (A 1) T.length))) + 6 : Int32) = nI ((8 * (rc (A 1) T.length)) + 6) from nI_add (8 * (rc (A 1) T.length)) 6) ?_
                    refine m_ald (pc' := 238) cd_Mo_term rfl (Or.inr ⟨_, rfl, rfl, rfl⟩) l0 rfl rfl ?_
                    refine m_fR (r := 8) (a := 9) (ad := 1491) (pc' := 241) rfl rfl cd_Mo_term rfl rfl rfl rfl rfl ?_
                    refine m_ild (pc' := 243) cd_Mo_term rfl (Or.inl ⟨rfl, rfl⟩) l8 rfl ?_
                    refine m_aI (r := 8) (a := 9) (g := (A 9)) (x := ((A 9) 6)) (pc' := 244) rfl rfl cd_Mo_term rfl rfl rfl (vp_in_nI (n := 6) (by decide) (by decide)) (congrArg (A 9) (by decide)) ?_
                    refine m_aS (r := 6) (a := 7) (g := (upd (upd (upd (upd (upd (upd (A 7) ((8 * (rc (A 1) T.length)) + 0) ((A 9) 0)) ((8 * (rc (A 1) T.length)) + 1) ((A 9) 1)) ((8 * (rc (A 1) T.length)) + 2) ((A 9) 2)) ((8 * (rc (A 1) T.length)) + 3) ((A 9) 3)) ((8 * (rc (A 1) T.length)) + 4) ((A 9) 4)) ((8 * (rc (A 1) T.length)) + 5) ((A 9) 5))) (p := ((8 * (rc (A 1) T.length)) + 6)) (pc' := 245) rfl rfl cd_Mo_term rfl rfl rfl (vp_in_nI (by omega) (by decide)) (nI_clamp (by omega)) ?_
                    refine m_inc (y := 7) (pc' := 248) cd_Mo_term rfl l8 (by decide) (by decide) rfl (fun lv el => ?_)
                    have l0 := tm_lk el l0 rfl (by decide)
                    have l1 := tm_lk el l1 rfl (by decide)
                    have l2 := tm_lk el l2 rfl (by decide)
                    have l3 := tm_lk el l3 rfl (by decide)
                    have l4 := tm_lk el l4 rfl (by decide)
                    have l6 := tm_lk el l6 rfl (by decide)
                    have l7 := tm_lk el l7 rfl (by decide)
                    have l8 : lv.lookup 8 = some (.int 7) := tm_lks el
                    clear el
                    refine m_pure (pc' := 216) (st' := []) cd_Mo_term rfl rfl (fun _ _ => rfl) ?_
                    refine m_ild (pc' := 218) cd_Mo_term rfl (Or.inl ⟨rfl, rfl⟩) l8 rfl ?_
                    refine m_k2 (v := 8) (pc' := 220) cd_Mo_term rfl (by decide) rfl ?_
                    refine m_if2 (t := 251) (pc' := 223) cd_Mo_term rfl rfl rfl (fun c220 => ?_) (fun c220 => ?_)
                    · exact absurd (show (8 : Int32) ≤ 7 from c220) (by decide)
                    · have c220 : ¬ (8 : Int32) ≤ 7 := c220
                      refine m_ald (pc' := 224) cd_Mo_term rfl (Or.inr ⟨_, rfl, rfl, rfl⟩) l0 rfl rfl ?_
                      refine m_fR (r := 6) (a := 7) (ad := 1489) (pc' := 227) rfl rfl cd_Mo_term rfl rfl rfl rfl rfl ?_
                      refine m_k2 (v := 8) (pc' := 229) cd_Mo_term rfl (by decide) rfl ?_
                      refine m_ald (pc' := 230) cd_Mo_term rfl (Or.inr ⟨_, rfl, rfl, rfl⟩) l0 rfl rfl ?_
                      refine m_fI (k := 7) (x := (nI (rc (A 1) T.length))) (pc' := 233) cd_Mo_term rfl rfl rfl rfl rfl h7 ?_
                      refine m_pure (pc' := 234) (st' := [.int ((8 : Int32) * (nI (rc (A 1) T.length))), .ref 1489]) cd_Mo_term rfl rfl (fun _ _ => rfl) ?_
                      refine m_eq (show ((8 : Int32) * (nI (rc (A 1) T.length)) : Int32) = nI (8 * (rc (A 1) T.length)) from pk_mul 8 (rc (A 1) T.length)) ?_
                      refine m_ild (pc' := 236) cd_Mo_term rfl (Or.inl ⟨rfl, rfl⟩) l8 rfl ?_
                      refine m_pure (pc' := 237) (st' := [.int ((nI (8 * (rc (A 1) T.length))) + 7), .ref 1489]) cd_Mo_term rfl rfl (fun _ _ => rfl) ?_
                      refine m_eq (show ((nI (8 * (rc (A 1) T.length))) + 7 : Int32) = nI ((8 * (rc (A 1) T.length)) + 7) from nI_add (8 * (rc (A 1) T.length)) 7) ?_
                      refine m_ald (pc' := 238) cd_Mo_term rfl (Or.inr ⟨_, rfl, rfl, rfl⟩) l0 rfl rfl ?_
                      refine m_fR (r := 8) (a := 9) (ad := 1491) (pc' := 241) rfl rfl cd_Mo_term rfl rfl rfl rfl rfl ?_
                      refine m_ild (pc' := 243) cd_Mo_term rfl (Or.inl ⟨rfl, rfl⟩) l8 rfl ?_
                      refine m_aI (r := 8) (a := 9) (g := (A 9)) (x := ((A 9) 7)) (pc' := 244) rfl rfl cd_Mo_term rfl rfl rfl (vp_in_nI (n := 7) (by decide) (by decide)) (congrArg (A 9) (by decide)) ?_
                      refine m_aS (r := 6) (a := 7) (g := (upd (upd (upd (upd (upd (upd (upd (A 7) ((8 * (rc (A 1) T.length)) + 0) ((A 9) 0)) ((8 * (rc (A 1) T.length)) + 1) ((A 9) 1)) ((8 * (rc (A 1) T.length)) + 2) ((A 9) 2)) ((8 * (rc (A 1) T.length)) + 3) ((A 9) 3)) ((8 * (rc (A 1) T.length)) + 4) ((A 9) 4)) ((8 * (rc (A 1) T.length)) + 5) ((A 9) 5)) ((8 * (rc (A 1) T.length)) + 6) ((A 9) 6))) (p := ((8 * (rc (A 1) T.length)) + 7)) (pc' := 245) rfl rfl cd_Mo_term rfl rfl rfl (vp_in_nI (by omega) (by decide)) (nI_clamp (by omega)) ?_
                      refine m_inc (y := 8) (pc' := 248) cd_Mo_term rfl l8 (by decide) (by decide) rfl (fun lv el => ?_)
                      have l0 := tm_lk el l0 rfl (by decide)
                      have l1 := tm_lk el l1 rfl (by decide)
                      have l2 := tm_lk el l2 rfl (by decide)
                      have l3 := tm_lk el l3 rfl (by decide)
                      have l4 := tm_lk el l4 rfl (by decide)
                      have l6 := tm_lk el l6 rfl (by decide)
                      have l7 := tm_lk el l7 rfl (by decide)
                      have l8 : lv.lookup 8 = some (.int 8) := tm_lks el
                      clear el
                      refine m_pure (pc' := 216) (st' := []) cd_Mo_term rfl rfl (fun _ _ => rfl) ?_
                      refine m_ild (pc' := 218) cd_Mo_term rfl (Or.inl ⟨rfl, rfl⟩) l8 rfl ?_
                      refine m_k2 (v := 8) (pc' := 220) cd_Mo_term rfl (by decide) rfl ?_
                      refine m_if2 (t := 251) (pc' := 223) cd_Mo_term rfl rfl rfl (fun c220 => ?_) (fun c220 => ?_)
                      · have c220 : (8 : Int32) ≤ 8 := c220
                        refine m_ald (pc' := 252) cd_Mo_term rfl (Or.inr ⟨_, rfl, rfl, rfl⟩) l0 rfl rfl ?_
                        refine m_pure (pc' := 253) (st' := [.ref 1482, .ref 1482]) cd_Mo_term rfl rfl (fun _ _ => rfl) ?_
                        refine m_fI (k := 7) (x := (nI (rc (A 1) T.length))) (pc' := 256) cd_Mo_term rfl rfl rfl rfl rfl h7 ?_
                        refine m_k1 (v := 1) (pc' := 257) cd_Mo_term rfl (by decide) rfl ?_
                        refine m_pure (pc' := 258) (st' := [.int ((nI (rc (A 1) T.length)) + 1), .ref 1482]) cd_Mo_term rfl rfl (fun _ _ => rfl) ?_
                        refine m_eq (show ((nI (rc (A 1) T.length)) + 1 : Int32) = nI ((rc (A 1) T.length) + 1) from nI_add (rc (A 1) T.length) 1) ?_
                        refine m_pI (k := 7) (pc' := 261) cd_Mo_term rfl rfl rfl rfl (by simp [tm_okV, narrow, fits]) rfl rfl ?_
                        refine m_ald (pc' := 262) cd_Mo_term rfl (Or.inr ⟨_, rfl, rfl, rfl⟩) l0 rfl rfl ?_
                        refine m_fR (r := 7) (a := 8) (ad := 1490) (pc' := 265) rfl rfl cd_Mo_term rfl rfl rfl rfl rfl ?_
                        refine m_ild (pc' := 267) cd_Mo_term rfl (Or.inl ⟨rfl, rfl⟩) l6 rfl ?_
                        refine m_ild (pc' := 269) cd_Mo_term rfl (Or.inl ⟨rfl, rfl⟩) l7 rfl ?_
                        refine m_aS (r := 7) (a := 8) (g := (A 8)) (p := (((hix (hky w a b c (A 9))) + e) % 8192)) (pc' := 270) rfl rfl cd_Mo_term rfl rfl rfl (vp_in_nI (by omega) (by decide)) (nI_clamp (by omega)) ?_
                        refine m_ild (pc' := 272) cd_Mo_term rfl (Or.inl ⟨rfl, rfl⟩) l7 rfl ?_
                        have hN := MT_new (cl' := cl8 (A 7) (rc (A 1) T.length) (A 9)) hM hX hnew hl hr he hz hk rfl (fun _ k hk8 => cl8_at hk8) (fun q hq => cl8_lo hq) hsec
                        rw [if_pos c170, if_pos c170] at hN
                        have hA : ∀ (B1 : Nat → Nat → Int32) (j i : Nat) (g : Nat → Int32), ¬ (1 ≤ j ∧ j ≤ 8) → 1 ≤ i → i ≤ 8 → fset B1 i g j = B1 j := fun B1 j i g q1 q2 q3 => fset_ne (by omega)
                        exact m_reti cd_Mo_term rfl ⟨_, rfl, (k1 _ _ hnew hN (fun k q => (fset_ne (show k ≠ 7 by omega)).trans (fset_ne (show k ≠ 0 by omega))) (fun j q => by rw [hA _ j _ _ q (by decide) (by decide), hA _ j _ _ q (by decide) (by decide), hA _ j _ _ q (by decide) (by decide), hA _ j _ _ q (by decide) (by decide), hA _ j _ _ q (by decide) (by decide), hA _ j _ _ q (by decide) (by decide), hA _ j _ _ q (by decide) (by decide), hA _ j _ _ q (by decide) (by decide), hA _ j _ _ q (by decide) (by decide), hA _ j _ _ q (by decide) (by decide), hA _ j _ _ q (by decide) (by decide), hA _ j _ _ q (by decide) (by decide), hA _ j _ _ q (by decide) (by decide), hA _ j _ _ q (by decide) (by decide), hA _ j _ _ q (by decide) (by decide)]))⟩
                      · exact absurd (show ¬ (8 : Int32) ≤ 8 from c220) (by decide)
set_option maxRecDepth 100000 in
theorem l_term {sc : tm_X} {d : Nat} {f : Nat → Int32} {A : Nat → Nat → Int32} {T : List Tm} {DL : List (Int32 × Int32)} {G W : Tm → Prop} {w a b c : Int32} {X : Tm} {e : Nat} {Q : Int32 → MS → Prop} (hM : MT f A T DL G W) (hX : tkr w a b c (A 9) T DL T.length X) (hl : T.length < 4000) (hr : rc (A 1) T.length < 1000) (hsec : kd X = 1 → ∀ Y, Y ∈ T → kd Y = 1 → mk Y < mk X) (he : e < 8192) (hz : A 8 (((hix (hky w a b c (A 9))) + e) % 8192) = 0) (hk : ∀ k, k < e → ∃ u, 0 < u ∧ u < T.length ∧ A 8 (((hix (hky w a b c (A 9))) + k) % 8192) = nI u) (k0 : ∀ i, T[i]? = some X → Q (nI i) (f, A)) (k1 : ∀ f1 A1, X ∉ T → MT f1 A1 (T ++ [X]) DL G W → (∀ k, ¬ (k = 0 ∨ k = 7) → f1 k = f k) → (∀ j, ¬ (1 ≤ j ∧ j ≤ 8) → A1 j = A j) → Q (nI T.length) (f1, A1)) : ∀ (m k : Nat), k + m = e → (∀ i u, i < k → A 8 (((hix (hky w a b c (A 9))) + i) % 8192) = nI u → T[u]? ≠ some X) → ∀ lv : tm_L, lv.lookup 0 = some (.ref 1482) → lv.lookup 1 = some (.int w) → lv.lookup 2 = some (.int a) → lv.lookup 3 = some (.int b) → lv.lookup 4 = some (.int c) → lv.lookup 6 = some (.int (nI (((hix (hky w a b c (A 9))) + k) % 8192))) → mg sc (d + 1) 180 75 lv [] (f, A) (fun r s' => ∃ x, r = some (.int x) ∧ Q x s') := by
  intro m
  induction m with
  | zero =>
    intro k hke hnf lv l0 l1 l2 l3 l4 l6
    have hk2 : k = e := by omega
    subst hk2
    have hb := Nat.mod_lt ((hix (hky w a b c (A 9))) + k) (show 0 < 8192 by decide)
    have hnew : X ∉ T := fun q => by
      obtain ⟨t, ht⟩ := List.getElem?_of_mem q
      have ht0 : 0 < t := by
        rcases Nat.eq_zero_or_pos t with z | z
        · subst z; rw [hM.1.2.2.1.1] at ht; exact absurd (Option.some.inj ht).symm (tkr_nz hX)
        · exact z
      have hrow := MT_row hM ht0 ht
      obtain ⟨e1, e2, e3, e4, e5⟩ := tkr_key hM.2.2.1.1 hX hrow.2
      obtain ⟨sl, q1, q2⟩ := hM.2.2.1.2
      obtain ⟨a1, d1, a2, a3, a4⟩ := q1 t ht0 (tv_lt ht)
      have hh : mhs (A 1) (A 2) (A 3) (A 4) (A 7) t = (hix (hky w a b c (A 9))) := by unfold mhs; rw [← e1, ← e2]; rw [e1, ← e3, ← e4, ← e1]; rw [hky_congr e5]
      rw [hh] at a3 a4
      rcases Nat.lt_trichotomy d1 k with g | g | g
      · exact hnf d1 t g (by rw [← a3]; exact a1) ht
      · subst g; rw [a3] at a1; rw [hz] at a1; exact nI_ne0 ht0 (by have := tv_lt ht; omega) a1.symm
      · obtain ⟨u, u0, u1, u2⟩ := a4 k g
        rw [hz] at u2
        exact nI_ne0 u0 (by have := tv_lt ht; omega) u2.symm
    refine m_ald (pc' := 76) cd_Mo_term rfl (Or.inr ⟨_, rfl, rfl, rfl⟩) l0 rfl rfl ?_
    refine m_fR (r := 7) (a := 8) (ad := 1490) (pc' := 79) rfl rfl cd_Mo_term rfl rfl rfl rfl rfl ?_
    refine m_ild (pc' := 81) cd_Mo_term rfl (Or.inl ⟨rfl, rfl⟩) l6 rfl ?_
    refine m_aI (r := 7) (a := 8) (g := (A 8)) (x := 0) (pc' := 82) rfl rfl cd_Mo_term rfl rfl rfl (vp_in_nI (by omega) (by decide)) (by rw [(nI_clamp (by omega))]; exact hz) ?_
    refine m_if1 (t := 129) (pc' := 85) cd_Mo_term rfl rfl rfl (fun c82 => ?_) (fun c82 => ?_)
    · have c82 : (0 : Int32) = 0 := c82
      exact l_termN hM hX hl hr hsec hnew he hz hk k1 lv l0 l1 l2 l3 l4 l6
    · exact absurd (show ¬ (0 : Int32) = 0 from c82) (by decide)
  | succ m ih =>
    intro k hke hnf lv l0 l1 l2 l3 l4 l6
    have hb := Nat.mod_lt ((hix (hky w a b c (A 9))) + k) (show 0 < 8192 by decide)
    obtain ⟨u, hu0, hu1, hu2⟩ := hk k (by omega)
    obtain ⟨Y, hY⟩ : ∃ Y, T[u]? = some Y := ⟨_, List.getElem?_eq_getElem hu1⟩
    have hrow := MT_row hM hu0 hY
    have hlt : T.length < 2 ^ 31 := by omega
    have hdl : DL.length < 2 ^ 31 := by have := hM.1.2.2.2; omega
    refine m_ald (pc' := 76) cd_Mo_term rfl (Or.inr ⟨_, rfl, rfl, rfl⟩) l0 rfl rfl ?_
    refine m_fR (r := 7) (a := 8) (ad := 1490) (pc' := 79) rfl rfl cd_Mo_term rfl rfl rfl rfl rfl ?_
    refine m_ild (pc' := 81) cd_Mo_term rfl (Or.inl ⟨rfl, rfl⟩) l6 rfl ?_
    refine m_aI (r := 7) (a := 8) (g := (A 8)) (x := (nI u)) (pc' := 82) rfl rfl cd_Mo_term rfl rfl rfl (vp_in_nI (by omega) (by decide)) (by rw [(nI_clamp (by omega))]; exact hu2) ?_
    refine m_if1 (t := 129) (pc' := 85) cd_Mo_term rfl rfl rfl (fun c82 => ?_) (fun c82 => ?_)
    · have c82 : (nI u) = 0 := c82
      exact absurd c82 (nI_ne0 hu0 (by omega))
    · have c82 : ¬ (nI u) = 0 := c82
      refine m_ald (pc' := 86) cd_Mo_term rfl (Or.inr ⟨_, rfl, rfl, rfl⟩) l0 rfl rfl ?_
      refine m_ald (pc' := 87) cd_Mo_term rfl (Or.inr ⟨_, rfl, rfl, rfl⟩) l0 rfl rfl ?_
      refine m_fR (r := 7) (a := 8) (ad := 1490) (pc' := 90) rfl rfl cd_Mo_term rfl rfl rfl rfl rfl ?_
      refine m_ild (pc' := 92) cd_Mo_term rfl (Or.inl ⟨rfl, rfl⟩) l6 rfl ?_
      refine m_aI (r := 7) (a := 8) (g := (A 8)) (x := (nI u)) (pc' := 93) rfl rfl cd_Mo_term rfl rfl rfl (vp_in_nI (by omega) (by decide)) (by rw [(nI_clamp (by omega))]; exact hu2) ?_
      refine m_ild (pc' := 94) cd_Mo_term rfl (Or.inr ⟨_, rfl, rfl, rfl⟩) l1 rfl ?_
      refine m_ild (pc' := 95) cd_Mo_term rfl (Or.inr ⟨_, rfl, rfl, rfl⟩) l2 rfl ?_
      refine m_ild (pc' := 96) cd_Mo_term rfl (Or.inr ⟨_, rfl, rfl, rfl⟩) l3 rfl ?_
      refine m_ild (pc' := 98) cd_Mo_term rfl (Or.inl ⟨rfl, rfl⟩) l4 rfl ?_
      refine m_ci (pc' := 101) cd_Mo_term rfl rfl rfl rfl rfl cd_Mo_alike rfl (Nat.le_of_ble_eq_true rfl) (m_alike (u := rc (A 1) u) (by omega) (MT_u hM hu0 hY) (fun g1 g2 g3 g4 => ?_) (fun g => ?_))
      · skip
        show mg _ _ _ 101 _ [.int 1] _ _
        refine m_if1 (t := 112) (pc' := 104) cd_Mo_term rfl rfl rfl (fun c101 => ?_) (fun c101 => ?_)
        · exact absurd (show (1 : Int32) = 0 from c101) (by decide)
        · have c101 : ¬ (1 : Int32) = 0 := c101
          refine m_ald (pc' := 105) cd_Mo_term rfl (Or.inr ⟨_, rfl, rfl, rfl⟩) l0 rfl rfl ?_
          refine m_fR (r := 7) (a := 8) (ad := 1490) (pc' := 108) rfl rfl cd_Mo_term rfl rfl rfl rfl rfl ?_
          refine m_ild (pc' := 110) cd_Mo_term rfl (Or.inl ⟨rfl, rfl⟩) l6 rfl ?_
          refine m_aI (r := 7) (a := 8) (g := (A 8)) (x := (nI u)) (pc' := 111) rfl rfl cd_Mo_term rfl rfl rfl (vp_in_nI (by omega) (by decide)) (by rw [(nI_clamp (by omega))]; exact hu2) ?_
          have hYX : Y = X := by
            have q := hrow.2
            rw [g1, g2] at q
            by_cases c7 : w = 7
            · rw [if_pos c7] at q
              have hb0 : b = 0 := by
                rcases hX with h | h | h | h | h | h | h
                · exact h.2.1
                · exact h.2.1
                · exact absurd (h.1.symm.trans c7) (by decide)
                · exact absurd (h.1.symm.trans c7) (by decide)
                · exact absurd (h.1.symm.trans c7) (by decide)
                · exact absurd (h.1.symm.trans c7) (by decide)
                · exact h.2.1
              have hc0 : ∀ {w a b c : Int32} {r : Nat → Int32} {i : Nat} {Z : Tm}, w = 7 → tkr w a b c r T DL i Z → c = 0 := fun hw h => by
                rcases h with h | h | h | h | h | h | h
                · exact h.2.2.1
                · exact h.2.2.1
                · exact h.2.1
                · exact absurd (h.1.symm.trans hw) (by decide)
                · exact absurd (h.1.symm.trans hw) (by decide)
                · exact h.2.1
                · exact h.2.2.1
              rw [← hb0, hc0 c7 q, ← hc0 c7 hX] at q
              exact tkr_tree hlt hdl q hX (fun _ i hi => g4 c7 i hi)
            · rw [if_neg c7, (g3 c7).1, (g3 c7).2] at q
              exact tkr_tree hlt hdl q hX (fun h => absurd h c7)
          subst hYX
          exact m_reti cd_Mo_term rfl ⟨_, rfl, (k0 u hY)⟩
      · skip
        show mg _ _ _ 101 _ [.int 0] _ _
        refine m_if1 (t := 112) (pc' := 104) cd_Mo_term rfl rfl rfl (fun c101 => ?_) (fun c101 => ?_)
        · have c101 : (0 : Int32) = 0 := c101
          refine m_ild (pc' := 114) cd_Mo_term rfl (Or.inl ⟨rfl, rfl⟩) l6 rfl ?_
          refine m_k1 (v := 1) (pc' := 115) cd_Mo_term rfl (by decide) rfl ?_
          refine m_pure (pc' := 116) (st' := [.int ((nI (((hix (hky w a b c (A 9))) + k) % 8192)) + 1)]) cd_Mo_term rfl rfl (fun _ _ => rfl) ?_
          refine m_eq (show ((nI (((hix (hky w a b c (A 9))) + k) % 8192)) + 1 : Int32) = nI ((((hix (hky w a b c (A 9))) + k) % 8192) + 1) from nI_add (((hix (hky w a b c (A 9))) + k) % 8192) 1) ?_
          refine m_ald (pc' := 117) cd_Mo_term rfl (Or.inr ⟨_, rfl, rfl, rfl⟩) l0 rfl rfl ?_
          refine m_fR (r := 7) (a := 8) (ad := 1490) (pc' := 120) rfl rfl cd_Mo_term rfl rfl rfl rfl rfl ?_
          refine m_al (r := 7) (a := 8) (x := 8192) (pc' := 121) rfl (by decide) rfl cd_Mo_term rfl rfl rfl ?_
          refine m_k1 (v := 1) (pc' := 122) cd_Mo_term rfl (by decide) rfl ?_
          refine m_pure (pc' := 123) (st' := [.int ((8192 : Int32) - 1), .int (nI ((((hix (hky w a b c (A 9))) + k) % 8192) + 1))]) cd_Mo_term rfl rfl (fun _ _ => rfl) ?_
          refine m_eq (show ((8192 : Int32) - 1 : Int32) = 8191 from by decide) ?_
          refine m_pure (pc' := 124) (st' := [.int ((nI ((((hix (hky w a b c (A 9))) + k) % 8192) + 1)) &&& 8191)]) cd_Mo_term rfl rfl (fun _ _ => rfl) ?_
          refine m_eq (show ((nI ((((hix (hky w a b c (A 9))) + k) % 8192) + 1)) &&& 8191 : Int32) = nI (((hix (hky w a b c (A 9))) + (k + 1)) % 8192) from by rw [nxt_and hb]; congr 1; omega) ?_
          refine m_ist (pc' := 126) cd_Mo_term rfl (Or.inl ⟨rfl, rfl⟩) (by decide) rfl (fun lv el => ?_)
          have l0 := tm_lk el l0 rfl (by decide)
          have l1 := tm_lk el l1 rfl (by decide)
          have l2 := tm_lk el l2 rfl (by decide)
          have l3 := tm_lk el l3 rfl (by decide)
          have l4 := tm_lk el l4 rfl (by decide)
          have l6 : lv.lookup 6 = some (.int (nI (((hix (hky w a b c (A 9))) + (k + 1)) % 8192))) := tm_lks el
          clear el
          refine m_pure (pc' := 75) (st' := []) cd_Mo_term rfl rfl (fun _ _ => rfl) ?_
          refine ih (k + 1) (by omega) (fun i v hi hv hX2 => ?_) lv l0 l1 l2 l3 l4 l6
          rcases Nat.lt_or_ge i k with q | q
          · exact hnf i v q hv hX2
          · have ei : i = k := by omega
            subst ei
            have ev := (nI_eq (by omega) (by have := tv_lt hX2; omega)).mp (hu2.symm.trans hv)
            subst ev
            rw [hY] at hX2
            cases hX2
            obtain ⟨e1, e2, e3, e4, e5⟩ := tkr_key hM.2.2.1.1 hX hrow.2
            exact g ⟨e1.symm, e2.symm, fun h7 => ⟨by rw [← e1, if_neg h7] at e3; exact e3.symm, e4.symm⟩, fun h7 i hi => (e5 h7 i hi).symm⟩
        · exact absurd (show ¬ (0 : Int32) = 0 from c101) (by decide)
set_option maxRecDepth 100000 in
theorem m_term0 {sc : tm_X} {d : Nat} {f : Nat → Int32} {A : Nat → Nat → Int32} {T : List Tm} {DL : List (Int32 × Int32)} {G W : Tm → Prop} {w a b c : Int32} {X : Tm} {Q : Int32 → MS → Prop} (hM : MT f A T DL G W) (hX : tkr w a b c (A 9) T DL T.length X) (hl : T.length < 4000) (hr : rc (A 1) T.length < 1000) (hsec : kd X = 1 → ∀ Y, Y ∈ T → kd Y = 1 → mk Y < mk X) (k0 : ∀ i, T[i]? = some X → Q (nI i) (f, A)) (k1 : ∀ f1 A1, X ∉ T → MT f1 A1 (T ++ [X]) DL G W → (∀ k, ¬ (k = 0 ∨ k = 7) → f1 k = f k) → (∀ j, ¬ (1 ≤ j ∧ j ≤ 8) → A1 j = A j) → Q (nI T.length) (f1, A1)) : mGi sc (d + 2) 180 [.ref 1482, .int w, .int a, .int b, .int c] (f, A) Q := by
  obtain ⟨e, he, hz, hk⟩ := mtb_free (show T.length ≤ 4096 by omega) hM.2.2.1.2 (hix (hky w a b c (A 9)))
  show mg sc (d + 2) 180 0 [(0, .ref 1482), (1, .int w), (2, .int a), (3, .int b), (4, .int c)] [] (f, A) _
  generalize elv : ([(0, .ref 1482), (1, .int w), (2, .int a), (3, .int b), (4, .int c)] : tm_L) = lv
  have l0 : lv.lookup 0 = some (.ref 1482) := by rw [← elv]; rfl
  have l1 : lv.lookup 1 = some (.int w) := by rw [← elv]; rfl
  have l2 : lv.lookup 2 = some (.int a) := by rw [← elv]; rfl
  have l3 : lv.lookup 3 = some (.int b) := by rw [← elv]; rfl
  have l4 : lv.lookup 4 = some (.int c) := by rw [← elv]; rfl
  clear elv
  refine m_ald (pc' := 1) cd_Mo_term rfl (Or.inr ⟨_, rfl, rfl, rfl⟩) l0 rfl rfl ?_
  refine m_cv (pc' := 4) cd_Mo_term rfl rfl rfl rfl rfl cd_Mo_grow rfl (Nat.le_of_ble_eq_true rfl) (m_grow hM.1.1.1 (by omega) hM.1.2.1.1 (by omega) ?_)
  show mg _ _ _ 4 _ [] _ _
  refine m_ild (pc' := 5) cd_Mo_term rfl (Or.inr ⟨_, rfl, rfl, rfl⟩) l1 rfl ?_
  refine m_ild (pc' := 6) cd_Mo_term rfl (Or.inr ⟨_, rfl, rfl, rfl⟩) l2 rfl ?_
  refine m_si (pc' := 9) cd_Mo_term rfl rfl rfl rfl rfl cd_Mo_mixed rfl (Nat.le_of_ble_eq_true rfl) (m_mixed ?_)
  show mg _ _ _ 9 _ [.int (mxd w a)] _ _
  refine m_ist (pc' := 11) cd_Mo_term rfl (Or.inl ⟨rfl, rfl⟩) (by decide) rfl (fun lv el => ?_)
  have l0 := tm_lk el l0 rfl (by decide)
  have l1 := tm_lk el l1 rfl (by decide)
  have l2 := tm_lk el l2 rfl (by decide)
  have l3 := tm_lk el l3 rfl (by decide)
  have l4 := tm_lk el l4 rfl (by decide)
  have l5 : lv.lookup 5 = some (.int (mxd w a)) := tm_lks el
  clear el
  refine m_ild (pc' := 12) cd_Mo_term rfl (Or.inr ⟨_, rfl, rfl, rfl⟩) l1 rfl ?_
  refine m_k2 (v := 7) (pc' := 14) cd_Mo_term rfl (by decide) rfl ?_
  refine m_if2 (t := 50) (pc' := 17) cd_Mo_term rfl rfl rfl (fun c14 => ?_) (fun c14 => ?_)
  · have c14 : ¬ w = 7 := c14
    refine m_ild (pc' := 52) cd_Mo_term rfl (Or.inl ⟨rfl, rfl⟩) l5 rfl ?_
    refine m_ild (pc' := 53) cd_Mo_term rfl (Or.inr ⟨_, rfl, rfl, rfl⟩) l3 rfl ?_
    refine m_si (pc' := 56) cd_Mo_term rfl rfl rfl rfl rfl cd_Mo_mixed rfl (Nat.le_of_ble_eq_true rfl) (m_mixed ?_)
    show mg _ _ _ 56 _ [.int (mxd (mxd w a) b)] _ _
    refine m_ild (pc' := 58) cd_Mo_term rfl (Or.inl ⟨rfl, rfl⟩) l4 rfl ?_
    refine m_si (pc' := 61) cd_Mo_term rfl rfl rfl rfl rfl cd_Mo_mixed rfl (Nat.le_of_ble_eq_true rfl) (m_mixed ?_)
    show mg _ _ _ 61 _ [.int (mxd (mxd (mxd w a) b) c)] _ _
    refine m_ist (pc' := 63) cd_Mo_term rfl (Or.inl ⟨rfl, rfl⟩) (by decide) rfl (fun lv el => ?_)
    have l0 := tm_lk el l0 rfl (by decide)
    have l1 := tm_lk el l1 rfl (by decide)
    have l2 := tm_lk el l2 rfl (by decide)
    have l3 := tm_lk el l3 rfl (by decide)
    have l4 := tm_lk el l4 rfl (by decide)
    have l5 : lv.lookup 5 = some (.int (mxd (mxd (mxd w a) b) c)) := tm_lks el
    clear el
    refine m_ild (pc' := 65) cd_Mo_term rfl (Or.inl ⟨rfl, rfl⟩) l5 rfl ?_
    refine m_ald (pc' := 66) cd_Mo_term rfl (Or.inr ⟨_, rfl, rfl, rfl⟩) l0 rfl rfl ?_
    refine m_fR (r := 7) (a := 8) (ad := 1490) (pc' := 69) rfl rfl cd_Mo_term rfl rfl rfl rfl rfl ?_
    refine m_al (r := 7) (a := 8) (x := 8192) (pc' := 70) rfl (by decide) rfl cd_Mo_term rfl rfl rfl ?_
    refine m_k1 (v := 1) (pc' := 71) cd_Mo_term rfl (by decide) rfl ?_
    refine m_pure (pc' := 72) (st' := [.int ((8192 : Int32) - 1), .int (mxd (mxd (mxd w a) b) c)]) cd_Mo_term rfl rfl (fun _ _ => rfl) ?_
    refine m_eq (show ((8192 : Int32) - 1 : Int32) = 8191 from by decide) ?_
    refine m_pure (pc' := 73) (st' := [.int ((mxd (mxd (mxd w a) b) c) &&& 8191)]) cd_Mo_term rfl rfl (fun _ _ => rfl) ?_
    refine m_eq (show ((mxd (mxd (mxd w a) b) c) &&& 8191 : Int32) = nI (((hix (hky w a b c (A 9))) + 0) % 8192) from by rw [show (mxd (mxd (mxd w a) b) c) = hky w a b c (A 9) from by unfold hky; rw [if_neg c14], hix_and]; congr 1; have := hix_lt (hky w a b c (A 9)); omega) ?_
    refine m_ist (pc' := 75) cd_Mo_term rfl (Or.inl ⟨rfl, rfl⟩) (by decide) rfl (fun lv el => ?_)
    have l0 := tm_lk el l0 rfl (by decide)
    have l1 := tm_lk el l1 rfl (by decide)
    have l2 := tm_lk el l2 rfl (by decide)
    have l3 := tm_lk el l3 rfl (by decide)
    have l4 := tm_lk el l4 rfl (by decide)
    have l5 := tm_lk el l5 rfl (by decide)
    have l6 : lv.lookup 6 = some (.int (nI (((hix (hky w a b c (A 9))) + 0) % 8192))) := tm_lks el
    clear el
    exact l_term hM hX hl hr hsec he hz hk k0 k1 e 0 (by omega) (fun i u hi => absurd hi (by omega)) lv l0 l1 l2 l3 l4 l6
  · have c14 : w = 7 := Classical.not_not.mp c14
    refine m_k1 (v := 0) (pc' := 18) cd_Mo_term rfl (by decide) rfl ?_
    refine m_ist (pc' := 20) cd_Mo_term rfl (Or.inl ⟨rfl, rfl⟩) (by decide) rfl (fun lv el => ?_)
    have l0 := tm_lk el l0 rfl (by decide)
    have l1 := tm_lk el l1 rfl (by decide)
    have l2 := tm_lk el l2 rfl (by decide)
    have l3 := tm_lk el l3 rfl (by decide)
    have l4 := tm_lk el l4 rfl (by decide)
    have l5 := tm_lk el l5 rfl (by decide)
    have l6 : lv.lookup 6 = some (.int 0) := tm_lks el
    clear el
    refine m_ild (pc' := 22) cd_Mo_term rfl (Or.inl ⟨rfl, rfl⟩) l6 rfl ?_
    refine m_k2 (v := 8) (pc' := 24) cd_Mo_term rfl (by decide) rfl ?_
    refine m_if2 (t := 47) (pc' := 27) cd_Mo_term rfl rfl rfl (fun c24 => ?_) (fun c24 => ?_)
    · exact absurd (show (8 : Int32) ≤ 0 from c24) (by decide)
    · have c24 : ¬ (8 : Int32) ≤ 0 := c24
      refine m_ild (pc' := 29) cd_Mo_term rfl (Or.inl ⟨rfl, rfl⟩) l5 rfl ?_
      refine m_ald (pc' := 30) cd_Mo_term rfl (Or.inr ⟨_, rfl, rfl, rfl⟩) l0 rfl rfl ?_
      refine m_fR (r := 8) (a := 9) (ad := 1491) (pc' := 33) rfl rfl cd_Mo_term rfl rfl rfl rfl rfl ?_
      refine m_ild (pc' := 35) cd_Mo_term rfl (Or.inl ⟨rfl, rfl⟩) l6 rfl ?_
      refine m_aI (r := 8) (a := 9) (g := (A 9)) (x := ((A 9) 0)) (pc' := 36) rfl rfl cd_Mo_term rfl rfl rfl (vp_in_nI (n := 0) (by decide) (by decide)) (congrArg (A 9) (by decide)) ?_
      refine m_si (pc' := 39) cd_Mo_term rfl rfl rfl rfl rfl cd_Mo_mixed rfl (Nat.le_of_ble_eq_true rfl) (m_mixed ?_)
      show mg _ _ _ 39 _ [.int (mxd (mxd w a) ((A 9) 0))] _ _
      refine m_ist (pc' := 41) cd_Mo_term rfl (Or.inl ⟨rfl, rfl⟩) (by decide) rfl (fun lv el => ?_)
      have l0 := tm_lk el l0 rfl (by decide)
      have l1 := tm_lk el l1 rfl (by decide)
      have l2 := tm_lk el l2 rfl (by decide)
      have l3 := tm_lk el l3 rfl (by decide)
      have l4 := tm_lk el l4 rfl (by decide)
      have l6 := tm_lk el l6 rfl (by decide)
      have l5 : lv.lookup 5 = some (.int (mxd (mxd w a) ((A 9) 0))) := tm_lks el
      clear el
      refine m_inc (y := 1) (pc' := 44) cd_Mo_term rfl l6 (by decide) (by decide) rfl (fun lv el => ?_)
      have l0 := tm_lk el l0 rfl (by decide)
      have l1 := tm_lk el l1 rfl (by decide)
      have l2 := tm_lk el l2 rfl (by decide)
      have l3 := tm_lk el l3 rfl (by decide)
      have l4 := tm_lk el l4 rfl (by decide)
      have l5 := tm_lk el l5 rfl (by decide)
      have l6 : lv.lookup 6 = some (.int 1) := tm_lks el
      clear el
      refine m_pure (pc' := 20) (st' := []) cd_Mo_term rfl rfl (fun _ _ => rfl) ?_
      refine m_ild (pc' := 22) cd_Mo_term rfl (Or.inl ⟨rfl, rfl⟩) l6 rfl ?_
      refine m_k2 (v := 8) (pc' := 24) cd_Mo_term rfl (by decide) rfl ?_
      refine m_if2 (t := 47) (pc' := 27) cd_Mo_term rfl rfl rfl (fun c24 => ?_) (fun c24 => ?_)
      · exact absurd (show (8 : Int32) ≤ 1 from c24) (by decide)
      · have c24 : ¬ (8 : Int32) ≤ 1 := c24
        refine m_ild (pc' := 29) cd_Mo_term rfl (Or.inl ⟨rfl, rfl⟩) l5 rfl ?_
        refine m_ald (pc' := 30) cd_Mo_term rfl (Or.inr ⟨_, rfl, rfl, rfl⟩) l0 rfl rfl ?_
        refine m_fR (r := 8) (a := 9) (ad := 1491) (pc' := 33) rfl rfl cd_Mo_term rfl rfl rfl rfl rfl ?_
        refine m_ild (pc' := 35) cd_Mo_term rfl (Or.inl ⟨rfl, rfl⟩) l6 rfl ?_
        refine m_aI (r := 8) (a := 9) (g := (A 9)) (x := ((A 9) 1)) (pc' := 36) rfl rfl cd_Mo_term rfl rfl rfl (vp_in_nI (n := 1) (by decide) (by decide)) (congrArg (A 9) (by decide)) ?_
        refine m_si (pc' := 39) cd_Mo_term rfl rfl rfl rfl rfl cd_Mo_mixed rfl (Nat.le_of_ble_eq_true rfl) (m_mixed ?_)
        show mg _ _ _ 39 _ [.int (mxd (mxd (mxd w a) ((A 9) 0)) ((A 9) 1))] _ _
        refine m_ist (pc' := 41) cd_Mo_term rfl (Or.inl ⟨rfl, rfl⟩) (by decide) rfl (fun lv el => ?_)
        have l0 := tm_lk el l0 rfl (by decide)
        have l1 := tm_lk el l1 rfl (by decide)
        have l2 := tm_lk el l2 rfl (by decide)
        have l3 := tm_lk el l3 rfl (by decide)
        have l4 := tm_lk el l4 rfl (by decide)
        have l6 := tm_lk el l6 rfl (by decide)
        have l5 : lv.lookup 5 = some (.int (mxd (mxd (mxd w a) ((A 9) 0)) ((A 9) 1))) := tm_lks el
        clear el
        refine m_inc (y := 2) (pc' := 44) cd_Mo_term rfl l6 (by decide) (by decide) rfl (fun lv el => ?_)
        have l0 := tm_lk el l0 rfl (by decide)
        have l1 := tm_lk el l1 rfl (by decide)
        have l2 := tm_lk el l2 rfl (by decide)
        have l3 := tm_lk el l3 rfl (by decide)
        have l4 := tm_lk el l4 rfl (by decide)
        have l5 := tm_lk el l5 rfl (by decide)
        have l6 : lv.lookup 6 = some (.int 2) := tm_lks el
        clear el
        refine m_pure (pc' := 20) (st' := []) cd_Mo_term rfl rfl (fun _ _ => rfl) ?_
        refine m_ild (pc' := 22) cd_Mo_term rfl (Or.inl ⟨rfl, rfl⟩) l6 rfl ?_
        refine m_k2 (v := 8) (pc' := 24) cd_Mo_term rfl (by decide) rfl ?_
        refine m_if2 (t := 47) (pc' := 27) cd_Mo_term rfl rfl rfl (fun c24 => ?_) (fun c24 => ?_)
        · exact absurd (show (8 : Int32) ≤ 2 from c24) (by decide)
        · have c24 : ¬ (8 : Int32) ≤ 2 := c24
          refine m_ild (pc' := 29) cd_Mo_term rfl (Or.inl ⟨rfl, rfl⟩) l5 rfl ?_
          refine m_ald (pc' := 30) cd_Mo_term rfl (Or.inr ⟨_, rfl, rfl, rfl⟩) l0 rfl rfl ?_
          refine m_fR (r := 8) (a := 9) (ad := 1491) (pc' := 33) rfl rfl cd_Mo_term rfl rfl rfl rfl rfl ?_
          refine m_ild (pc' := 35) cd_Mo_term rfl (Or.inl ⟨rfl, rfl⟩) l6 rfl ?_
          refine m_aI (r := 8) (a := 9) (g := (A 9)) (x := ((A 9) 2)) (pc' := 36) rfl rfl cd_Mo_term rfl rfl rfl (vp_in_nI (n := 2) (by decide) (by decide)) (congrArg (A 9) (by decide)) ?_
          refine m_si (pc' := 39) cd_Mo_term rfl rfl rfl rfl rfl cd_Mo_mixed rfl (Nat.le_of_ble_eq_true rfl) (m_mixed ?_)
          show mg _ _ _ 39 _ [.int (mxd (mxd (mxd (mxd w a) ((A 9) 0)) ((A 9) 1)) ((A 9) 2))] _ _
          refine m_ist (pc' := 41) cd_Mo_term rfl (Or.inl ⟨rfl, rfl⟩) (by decide) rfl (fun lv el => ?_)
          have l0 := tm_lk el l0 rfl (by decide)
          have l1 := tm_lk el l1 rfl (by decide)
          have l2 := tm_lk el l2 rfl (by decide)
          have l3 := tm_lk el l3 rfl (by decide)
          have l4 := tm_lk el l4 rfl (by decide)
          have l6 := tm_lk el l6 rfl (by decide)
          have l5 : lv.lookup 5 = some (.int (mxd (mxd (mxd (mxd w a) ((A 9) 0)) ((A 9) 1)) ((A 9) 2))) := tm_lks el
          clear el
          refine m_inc (y := 3) (pc' := 44) cd_Mo_term rfl l6 (by decide) (by decide) rfl (fun lv el => ?_)
          have l0 := tm_lk el l0 rfl (by decide)
          have l1 := tm_lk el l1 rfl (by decide)
          have l2 := tm_lk el l2 rfl (by decide)
          have l3 := tm_lk el l3 rfl (by decide)
          have l4 := tm_lk el l4 rfl (by decide)
          have l5 := tm_lk el l5 rfl (by decide)
          have l6 : lv.lookup 6 = some (.int 3) := tm_lks el
          clear el
          refine m_pure (pc' := 20) (st' := []) cd_Mo_term rfl rfl (fun _ _ => rfl) ?_
          refine m_ild (pc' := 22) cd_Mo_term rfl (Or.inl ⟨rfl, rfl⟩) l6 rfl ?_
          refine m_k2 (v := 8) (pc' := 24) cd_Mo_term rfl (by decide) rfl ?_
          refine m_if2 (t := 47) (pc' := 27) cd_Mo_term rfl rfl rfl (fun c24 => ?_) (fun c24 => ?_)
          · exact absurd (show (8 : Int32) ≤ 3 from c24) (by decide)
          · have c24 : ¬ (8 : Int32) ≤ 3 := c24
            refine m_ild (pc' := 29) cd_Mo_term rfl (Or.inl ⟨rfl, rfl⟩) l5 rfl ?_
            refine m_ald (pc' := 30) cd_Mo_term rfl (Or.inr ⟨_, rfl, rfl, rfl⟩) l0 rfl rfl ?_
            refine m_fR (r := 8) (a := 9) (ad := 1491) (pc' := 33) rfl rfl cd_Mo_term rfl rfl rfl rfl rfl ?_
            refine m_ild (pc' := 35) cd_Mo_term rfl (Or.inl ⟨rfl, rfl⟩) l6 rfl ?_
            refine m_aI (r := 8) (a := 9) (g := (A 9)) (x := ((A 9) 3)) (pc' := 36) rfl rfl cd_Mo_term rfl rfl rfl (vp_in_nI (n := 3) (by decide) (by decide)) (congrArg (A 9) (by decide)) ?_
            refine m_si (pc' := 39) cd_Mo_term rfl rfl rfl rfl rfl cd_Mo_mixed rfl (Nat.le_of_ble_eq_true rfl) (m_mixed ?_)
            show mg _ _ _ 39 _ [.int (mxd (mxd (mxd (mxd (mxd w a) ((A 9) 0)) ((A 9) 1)) ((A 9) 2)) ((A 9) 3))] _ _
            refine m_ist (pc' := 41) cd_Mo_term rfl (Or.inl ⟨rfl, rfl⟩) (by decide) rfl (fun lv el => ?_)
            have l0 := tm_lk el l0 rfl (by decide)
            have l1 := tm_lk el l1 rfl (by decide)
            have l2 := tm_lk el l2 rfl (by decide)
            have l3 := tm_lk el l3 rfl (by decide)
            have l4 := tm_lk el l4 rfl (by decide)
            have l6 := tm_lk el l6 rfl (by decide)
            have l5 : lv.lookup 5 = some (.int (mxd (mxd (mxd (mxd (mxd w a) ((A 9) 0)) ((A 9) 1)) ((A 9) 2)) ((A 9) 3))) := tm_lks el
            clear el
            refine m_inc (y := 4) (pc' := 44) cd_Mo_term rfl l6 (by decide) (by decide) rfl (fun lv el => ?_)
            have l0 := tm_lk el l0 rfl (by decide)
            have l1 := tm_lk el l1 rfl (by decide)
            have l2 := tm_lk el l2 rfl (by decide)
            have l3 := tm_lk el l3 rfl (by decide)
            have l4 := tm_lk el l4 rfl (by decide)
            have l5 := tm_lk el l5 rfl (by decide)
            have l6 : lv.lookup 6 = some (.int 4) := tm_lks el
            clear el
            refine m_pure (pc' := 20) (st' := []) cd_Mo_term rfl rfl (fun _ _ => rfl) ?_
            refine m_ild (pc' := 22) cd_Mo_term rfl (Or.inl ⟨rfl, rfl⟩) l6 rfl ?_
            refine m_k2 (v := 8) (pc' := 24) cd_Mo_term rfl (by decide) rfl ?_
            refine m_if2 (t := 47) (pc' := 27) cd_Mo_term rfl rfl rfl (fun c24 => ?_) (fun c24 => ?_)
            · exact absurd (show (8 : Int32) ≤ 4 from c24) (by decide)
            · have c24 : ¬ (8 : Int32) ≤ 4 := c24
              refine m_ild (pc' := 29) cd_Mo_term rfl (Or.inl ⟨rfl, rfl⟩) l5 rfl ?_
              refine m_ald (pc' := 30) cd_Mo_term rfl (Or.inr ⟨_, rfl, rfl, rfl⟩) l0 rfl rfl ?_
              refine m_fR (r := 8) (a := 9) (ad := 1491) (pc' := 33) rfl rfl cd_Mo_term rfl rfl rfl rfl rfl ?_
              refine m_ild (pc' := 35) cd_Mo_term rfl (Or.inl ⟨rfl, rfl⟩) l6 rfl ?_
              refine m_aI (r := 8) (a := 9) (g := (A 9)) (x := ((A 9) 4)) (pc' := 36) rfl rfl cd_Mo_term rfl rfl rfl (vp_in_nI (n := 4) (by decide) (by decide)) (congrArg (A 9) (by decide)) ?_
              refine m_si (pc' := 39) cd_Mo_term rfl rfl rfl rfl rfl cd_Mo_mixed rfl (Nat.le_of_ble_eq_true rfl) (m_mixed ?_)
              show mg _ _ _ 39 _ [.int (mxd (mxd (mxd (mxd (mxd (mxd w a) ((A 9) 0)) ((A 9) 1)) ((A 9) 2)) ((A 9) 3)) ((A 9) 4))] _ _
              refine m_ist (pc' := 41) cd_Mo_term rfl (Or.inl ⟨rfl, rfl⟩) (by decide) rfl (fun lv el => ?_)
              have l0 := tm_lk el l0 rfl (by decide)
              have l1 := tm_lk el l1 rfl (by decide)
              have l2 := tm_lk el l2 rfl (by decide)
              have l3 := tm_lk el l3 rfl (by decide)
              have l4 := tm_lk el l4 rfl (by decide)
              have l6 := tm_lk el l6 rfl (by decide)
              have l5 : lv.lookup 5 = some (.int (mxd (mxd (mxd (mxd (mxd (mxd w a) ((A 9) 0)) ((A 9) 1)) ((A 9) 2)) ((A 9) 3)) ((A 9) 4))) := tm_lks el
              clear el
              refine m_inc (y := 5) (pc' := 44) cd_Mo_term rfl l6 (by decide) (by decide) rfl (fun lv el => ?_)
              have l0 := tm_lk el l0 rfl (by decide)
              have l1 := tm_lk el l1 rfl (by decide)
              have l2 := tm_lk el l2 rfl (by decide)
              have l3 := tm_lk el l3 rfl (by decide)
              have l4 := tm_lk el l4 rfl (by decide)
              have l5 := tm_lk el l5 rfl (by decide)
              have l6 : lv.lookup 6 = some (.int 5) := tm_lks el
              clear el
              refine m_pure (pc' := 20) (st' := []) cd_Mo_term rfl rfl (fun _ _ => rfl) ?_
              refine m_ild (pc' := 22) cd_Mo_term rfl (Or.inl ⟨rfl, rfl⟩) l6 rfl ?_
              refine m_k2 (v := 8) (pc' := 24) cd_Mo_term rfl (by decide) rfl ?_
              refine m_if2 (t := 47) (pc' := 27) cd_Mo_term rfl rfl rfl (fun c24 => ?_) (fun c24 => ?_)
              · exact absurd (show (8 : Int32) ≤ 5 from c24) (by decide)
              · have c24 : ¬ (8 : Int32) ≤ 5 := c24
                refine m_ild (pc' := 29) cd_Mo_term rfl (Or.inl ⟨rfl, rfl⟩) l5 rfl ?_
                refine m_ald (pc' := 30) cd_Mo_term rfl (Or.inr ⟨_, rfl, rfl, rfl⟩) l0 rfl rfl ?_
                refine m_fR (r := 8) (a := 9) (ad := 1491) (pc' := 33) rfl rfl cd_Mo_term rfl rfl rfl rfl rfl ?_
                refine m_ild (pc' := 35) cd_Mo_term rfl (Or.inl ⟨rfl, rfl⟩) l6 rfl ?_
                refine m_aI (r := 8) (a := 9) (g := (A 9)) (x := ((A 9) 5)) (pc' := 36) rfl rfl cd_Mo_term rfl rfl rfl (vp_in_nI (n := 5) (by decide) (by decide)) (congrArg (A 9) (by decide)) ?_
                refine m_si (pc' := 39) cd_Mo_term rfl rfl rfl rfl rfl cd_Mo_mixed rfl (Nat.le_of_ble_eq_true rfl) (m_mixed ?_)
                show mg _ _ _ 39 _ [.int (mxd (mxd (mxd (mxd (mxd (mxd (mxd w a) ((A 9) 0)) ((A 9) 1)) ((A 9) 2)) ((A 9) 3)) ((A 9) 4)) ((A 9) 5))] _ _
                refine m_ist (pc' := 41) cd_Mo_term rfl (Or.inl ⟨rfl, rfl⟩) (by decide) rfl (fun lv el => ?_)
                have l0 := tm_lk el l0 rfl (by decide)
                have l1 := tm_lk el l1 rfl (by decide)
                have l2 := tm_lk el l2 rfl (by decide)
                have l3 := tm_lk el l3 rfl (by decide)
                have l4 := tm_lk el l4 rfl (by decide)
                have l6 := tm_lk el l6 rfl (by decide)
                have l5 : lv.lookup 5 = some (.int (mxd (mxd (mxd (mxd (mxd (mxd (mxd w a) ((A 9) 0)) ((A 9) 1)) ((A 9) 2)) ((A 9) 3)) ((A 9) 4)) ((A 9) 5))) := tm_lks el
                clear el
                refine m_inc (y := 6) (pc' := 44) cd_Mo_term rfl l6 (by decide) (by decide) rfl (fun lv el => ?_)
                have l0 := tm_lk el l0 rfl (by decide)
                have l1 := tm_lk el l1 rfl (by decide)
                have l2 := tm_lk el l2 rfl (by decide)
                have l3 := tm_lk el l3 rfl (by decide)
                have l4 := tm_lk el l4 rfl (by decide)
                have l5 := tm_lk el l5 rfl (by decide)
                have l6 : lv.lookup 6 = some (.int 6) := tm_lks el
                clear el
                refine m_pure (pc' := 20) (st' := []) cd_Mo_term rfl rfl (fun _ _ => rfl) ?_
                refine m_ild (pc' := 22) cd_Mo_term rfl (Or.inl ⟨rfl, rfl⟩) l6 rfl ?_
                refine m_k2 (v := 8) (pc' := 24) cd_Mo_term rfl (by decide) rfl ?_
                refine m_if2 (t := 47) (pc' := 27) cd_Mo_term rfl rfl rfl (fun c24 => ?_) (fun c24 => ?_)
                · exact absurd (show (8 : Int32) ≤ 6 from c24) (by decide)
                · have c24 : ¬ (8 : Int32) ≤ 6 := c24
                  refine m_ild (pc' := 29) cd_Mo_term rfl (Or.inl ⟨rfl, rfl⟩) l5 rfl ?_
                  refine m_ald (pc' := 30) cd_Mo_term rfl (Or.inr ⟨_, rfl, rfl, rfl⟩) l0 rfl rfl ?_
                  refine m_fR (r := 8) (a := 9) (ad := 1491) (pc' := 33) rfl rfl cd_Mo_term rfl rfl rfl rfl rfl ?_
                  refine m_ild (pc' := 35) cd_Mo_term rfl (Or.inl ⟨rfl, rfl⟩) l6 rfl ?_
                  refine m_aI (r := 8) (a := 9) (g := (A 9)) (x := ((A 9) 6)) (pc' := 36) rfl rfl cd_Mo_term rfl rfl rfl (vp_in_nI (n := 6) (by decide) (by decide)) (congrArg (A 9) (by decide)) ?_
                  refine m_si (pc' := 39) cd_Mo_term rfl rfl rfl rfl rfl cd_Mo_mixed rfl (Nat.le_of_ble_eq_true rfl) (m_mixed ?_)
                  show mg _ _ _ 39 _ [.int (mxd (mxd (mxd (mxd (mxd (mxd (mxd (mxd w a) ((A 9) 0)) ((A 9) 1)) ((A 9) 2)) ((A 9) 3)) ((A 9) 4)) ((A 9) 5)) ((A 9) 6))] _ _
                  refine m_ist (pc' := 41) cd_Mo_term rfl (Or.inl ⟨rfl, rfl⟩) (by decide) rfl (fun lv el => ?_)
                  have l0 := tm_lk el l0 rfl (by decide)
                  have l1 := tm_lk el l1 rfl (by decide)
                  have l2 := tm_lk el l2 rfl (by decide)
                  have l3 := tm_lk el l3 rfl (by decide)
                  have l4 := tm_lk el l4 rfl (by decide)
                  have l6 := tm_lk el l6 rfl (by decide)
                  have l5 : lv.lookup 5 = some (.int (mxd (mxd (mxd (mxd (mxd (mxd (mxd (mxd w a) ((A 9) 0)) ((A 9) 1)) ((A 9) 2)) ((A 9) 3)) ((A 9) 4)) ((A 9) 5)) ((A 9) 6))) := tm_lks el
                  clear el
                  refine m_inc (y := 7) (pc' := 44) cd_Mo_term rfl l6 (by decide) (by decide) rfl (fun lv el => ?_)
                  have l0 := tm_lk el l0 rfl (by decide)
                  have l1 := tm_lk el l1 rfl (by decide)
                  have l2 := tm_lk el l2 rfl (by decide)
                  have l3 := tm_lk el l3 rfl (by decide)
                  have l4 := tm_lk el l4 rfl (by decide)
                  have l5 := tm_lk el l5 rfl (by decide)
                  have l6 : lv.lookup 6 = some (.int 7) := tm_lks el
                  clear el
                  refine m_pure (pc' := 20) (st' := []) cd_Mo_term rfl rfl (fun _ _ => rfl) ?_
                  refine m_ild (pc' := 22) cd_Mo_term rfl (Or.inl ⟨rfl, rfl⟩) l6 rfl ?_
                  refine m_k2 (v := 8) (pc' := 24) cd_Mo_term rfl (by decide) rfl ?_
                  refine m_if2 (t := 47) (pc' := 27) cd_Mo_term rfl rfl rfl (fun c24 => ?_) (fun c24 => ?_)
                  · exact absurd (show (8 : Int32) ≤ 7 from c24) (by decide)
                  · have c24 : ¬ (8 : Int32) ≤ 7 := c24
                    refine m_ild (pc' := 29) cd_Mo_term rfl (Or.inl ⟨rfl, rfl⟩) l5 rfl ?_
                    refine m_ald (pc' := 30) cd_Mo_term rfl (Or.inr ⟨_, rfl, rfl, rfl⟩) l0 rfl rfl ?_
                    refine m_fR (r := 8) (a := 9) (ad := 1491) (pc' := 33) rfl rfl cd_Mo_term rfl rfl rfl rfl rfl ?_
                    refine m_ild (pc' := 35) cd_Mo_term rfl (Or.inl ⟨rfl, rfl⟩) l6 rfl ?_
                    refine m_aI (r := 8) (a := 9) (g := (A 9)) (x := ((A 9) 7)) (pc' := 36) rfl rfl cd_Mo_term rfl rfl rfl (vp_in_nI (n := 7) (by decide) (by decide)) (congrArg (A 9) (by decide)) ?_
                    refine m_si (pc' := 39) cd_Mo_term rfl rfl rfl rfl rfl cd_Mo_mixed rfl (Nat.le_of_ble_eq_true rfl) (m_mixed ?_)
                    show mg _ _ _ 39 _ [.int (mxd (mxd (mxd (mxd (mxd (mxd (mxd (mxd (mxd w a) ((A 9) 0)) ((A 9) 1)) ((A 9) 2)) ((A 9) 3)) ((A 9) 4)) ((A 9) 5)) ((A 9) 6)) ((A 9) 7))] _ _
                    refine m_ist (pc' := 41) cd_Mo_term rfl (Or.inl ⟨rfl, rfl⟩) (by decide) rfl (fun lv el => ?_)
                    have l0 := tm_lk el l0 rfl (by decide)
                    have l1 := tm_lk el l1 rfl (by decide)
                    have l2 := tm_lk el l2 rfl (by decide)
                    have l3 := tm_lk el l3 rfl (by decide)
                    have l4 := tm_lk el l4 rfl (by decide)
                    have l6 := tm_lk el l6 rfl (by decide)
                    have l5 : lv.lookup 5 = some (.int (mxd (mxd (mxd (mxd (mxd (mxd (mxd (mxd (mxd w a) ((A 9) 0)) ((A 9) 1)) ((A 9) 2)) ((A 9) 3)) ((A 9) 4)) ((A 9) 5)) ((A 9) 6)) ((A 9) 7))) := tm_lks el
                    clear el
                    refine m_inc (y := 8) (pc' := 44) cd_Mo_term rfl l6 (by decide) (by decide) rfl (fun lv el => ?_)
                    have l0 := tm_lk el l0 rfl (by decide)
                    have l1 := tm_lk el l1 rfl (by decide)
                    have l2 := tm_lk el l2 rfl (by decide)
                    have l3 := tm_lk el l3 rfl (by decide)
                    have l4 := tm_lk el l4 rfl (by decide)
                    have l5 := tm_lk el l5 rfl (by decide)
                    have l6 : lv.lookup 6 = some (.int 8) := tm_lks el
                    clear el
                    refine m_pure (pc' := 20) (st' := []) cd_Mo_term rfl rfl (fun _ _ => rfl) ?_
                    refine m_ild (pc' := 22) cd_Mo_term rfl (Or.inl ⟨rfl, rfl⟩) l6 rfl ?_
                    refine m_k2 (v := 8) (pc' := 24) cd_Mo_term rfl (by decide) rfl ?_
                    refine m_if2 (t := 47) (pc' := 27) cd_Mo_term rfl rfl rfl (fun c24 => ?_) (fun c24 => ?_)
                    · have c24 : (8 : Int32) ≤ 8 := c24
                      refine m_pure (pc' := 63) (st' := []) cd_Mo_term rfl rfl (fun _ _ => rfl) ?_
                      refine m_ild (pc' := 65) cd_Mo_term rfl (Or.inl ⟨rfl, rfl⟩) l5 rfl ?_
                      refine m_ald (pc' := 66) cd_Mo_term rfl (Or.inr ⟨_, rfl, rfl, rfl⟩) l0 rfl rfl ?_
                      refine m_fR (r := 7) (a := 8) (ad := 1490) (pc' := 69) rfl rfl cd_Mo_term rfl rfl rfl rfl rfl ?_
                      refine m_al (r := 7) (a := 8) (x := 8192) (pc' := 70) rfl (by decide) rfl cd_Mo_term rfl rfl rfl ?_
                      refine m_k1 (v := 1) (pc' := 71) cd_Mo_term rfl (by decide) rfl ?_
                      refine m_pure (pc' := 72) (st' := [.int ((8192 : Int32) - 1), .int (mxd (mxd (mxd (mxd (mxd (mxd (mxd (mxd (mxd w a) ((A 9) 0)) ((A 9) 1)) ((A 9) 2)) ((A 9) 3)) ((A 9) 4)) ((A 9) 5)) ((A 9) 6)) ((A 9) 7))]) cd_Mo_term rfl rfl (fun _ _ => rfl) ?_
                      refine m_eq (show ((8192 : Int32) - 1 : Int32) = 8191 from by decide) ?_
                      refine m_pure (pc' := 73) (st' := [.int ((mxd (mxd (mxd (mxd (mxd (mxd (mxd (mxd (mxd w a) ((A 9) 0)) ((A 9) 1)) ((A 9) 2)) ((A 9) 3)) ((A 9) 4)) ((A 9) 5)) ((A 9) 6)) ((A 9) 7)) &&& 8191)]) cd_Mo_term rfl rfl (fun _ _ => rfl) ?_
                      refine m_eq (show ((mxd (mxd (mxd (mxd (mxd (mxd (mxd (mxd (mxd w a) ((A 9) 0)) ((A 9) 1)) ((A 9) 2)) ((A 9) 3)) ((A 9) 4)) ((A 9) 5)) ((A 9) 6)) ((A 9) 7)) &&& 8191 : Int32) = nI (((hix (hky w a b c (A 9))) + 0) % 8192) from by rw [show (mxd (mxd (mxd (mxd (mxd (mxd (mxd (mxd (mxd w a) ((A 9) 0)) ((A 9) 1)) ((A 9) 2)) ((A 9) 3)) ((A 9) 4)) ((A 9) 5)) ((A 9) 6)) ((A 9) 7)) = hky w a b c (A 9) from by unfold hky; rw [if_pos c14]; rfl, hix_and]; congr 1; have := hix_lt (hky w a b c (A 9)); omega) ?_
                      refine m_ist (pc' := 75) cd_Mo_term rfl (Or.inl ⟨rfl, rfl⟩) (by decide) rfl (fun lv el => ?_)
                      have l0 := tm_lk el l0 rfl (by decide)
                      have l1 := tm_lk el l1 rfl (by decide)
                      have l2 := tm_lk el l2 rfl (by decide)
                      have l3 := tm_lk el l3 rfl (by decide)
                      have l4 := tm_lk el l4 rfl (by decide)
                      have l5 := tm_lk el l5 rfl (by decide)
                      have l6 : lv.lookup 6 = some (.int (nI (((hix (hky w a b c (A 9))) + 0) % 8192))) := tm_lks el
                      clear el
                      exact l_term hM hX hl hr hsec he hz hk k0 k1 e 0 (by omega) (fun i u hi => absurd hi (by omega)) lv l0 l1 l2 l3 l4 l6
                    · exact absurd (show ¬ (8 : Int32) ≤ 8 from c24) (by decide)
def mjF (g f : Nat → Int32) : Nat → Int32 := fun k => if k = 0 ∨ k = 7 then g k else f k
def mjA (B A : Nat → Nat → Int32) : Nat → Nat → Int32 := fun j => if 1 ≤ j ∧ j ≤ 8 then B j else A j
theorem mjF_of {g f : Nat → Int32} (h : ∀ k, ¬ (k = 0 ∨ k = 7) → g k = f k) : mjF g f = g := by
  funext k
  unfold mjF
  split
  · rfl
  · rename_i q; exact (h k q).symm
theorem mjA_of {B A : Nat → Nat → Int32} (h : ∀ j, ¬ (1 ≤ j ∧ j ≤ 8) → B j = A j) : mjA B A = B := by
  funext j
  unfold mjA
  split
  · rfl
  · rename_i q; exact (h j q).symm
/-- a term is made: at most one more; all but the table's cells stays -/
theorem m_term {sc : tm_X} {d : Nat} {f : Nat → Int32} {A : Nat → Nat → Int32} {T : List Tm} {DL : List (Int32 × Int32)} {G W : Tm → Prop} {w a b c : Int32} {X : Tm} {Q : Int32 → MS → Prop} (hM : MT f A T DL G W) (hX : tkr w a b c (A 9) T DL T.length X) (hl : T.length < 4000) (hr : rc (A 1) T.length < 1000) (hsec : kd X = 1 → ∀ Y, Y ∈ T → kd Y = 1 → mk Y < mk X) (kk : ∀ f1 A1 T' i, T <+: T' → T'.length ≤ T.length + 1 → rc (A1 1) T'.length ≤ rc (A 1) T.length + (if w = 7 then 1 else 0) → T'[i]? = some X → (∀ Y, Y ∈ T' → Y ∈ T ∨ Y = X) → MT (mjF f1 f) (mjA A1 A) T' DL G W → Q (nI i) (mjF f1 f, mjA A1 A)) : mGi sc (d + 2) 180 [.ref 1482, .int w, .int a, .int b, .int c] (f, A) Q := by
  refine m_term0 hM hX hl hr hsec (fun i hi => ?_) (fun f1 A1 hnew hN e1 e2 => ?_)
  · have k2 := kk f A T i (List.prefix_refl T) (by omega) (by omega) hi (fun Y q => Or.inl q)
    rw [mjF_of (fun _ _ => rfl), mjA_of (fun _ _ => rfl)] at k2
    exact k2 hM
  · have k2 := kk f1 A1 (T ++ [X]) T.length (List.prefix_append _ _) (by simp) ?_ (by simp) (fun Y q => by simpa using q)
    · rw [mjF_of e1, mjA_of e2] at k2
      exact k2 hN
    · have hM2 := hM.1.2.1
      have hlen : (T ++ [X]).length = T.length + 1 := by simp
      rw [hlen]
      show rc (A1 1) T.length + (if A1 1 T.length = 7 then 1 else 0) ≤ _
      have hw : A1 1 T.length = w := by
        have q := (hN.2.1 T.length X (by have := hM.1.1.2.1; omega) (by simp)).2
        exact (tkr_kd q).symm.trans (tkr_kd hX)
      have hrc : rc (A1 1) T.length = rc (A 1) T.length := rc_congr (fun i hi => by
        rcases Nat.eq_zero_or_pos i with z | z
        · subst z; exact hN.1.2.2.1.2.trans hM.1.2.2.1.2.symm
        · obtain ⟨Y, hY⟩ : ∃ Y, T[i]? = some Y := ⟨_, List.getElem?_eq_getElem hi⟩
          have q1 := (hN.2.1 i Y z (by rw [List.getElem?_append_left hi]; exact hY)).2
          have q2 := (hM.2.1 i Y z hY).2
          exact (tkr_kd q1).symm.trans (tkr_kd q2))
      rw [hw, hrc]
      exact Nat.le_refl _
