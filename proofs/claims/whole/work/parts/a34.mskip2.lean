/-! The reference: skipSession -/
theorem sub_le5 {m k : Nat} (hm : m ≤ 100000) (hk : k ≤ 100000) : nI m - nI k ≤ 5 ↔ m ≤ k + 5 := by
  rw [Int32.le_iff_toInt_le, Int32.toInt_sub, nI_toInt (by omega), nI_toInt (by omega)]
  show Int.bmod ((m : Int) - (k : Int)) 4294967296 ≤ 5 ↔ _
  rw [Int.bmod_def]
  split <;> omega
theorem nI_s1 (k : Nat) : nI k + 1 = nI (k + 1) := nI_add k 1
theorem drop1_era {α : Type} (l : List α) : l.drop 1 = l.eraseIdx 0 := by cases l <;> rfl
set_option maxRecDepth 100000 in
theorem l_mskip1 {sc : tm_X} {d : Nat} {f : Nat → Int32} {A : Nat → Nat → Int32} {T : List Tm} {DL : List (Int32 × Int32)} {G Kw : Tm → Prop} {th ch ba ro mi sd bp bo : Tm} {n b : Int32} {le : List (Tm × Int32 × Tm)} {br on : Bool} {m nn : Nat} {Q : Option Value → MS → Prop} (hM : MT f A T DL G Kw) (hl : T.length + 2 ≤ 4000) (hr : rc (A 1) T.length < 1000) (hS : qSe (A 43) T 0 ((th, ch, nI nn, le), ba, ro, mi, sd, n, b, br, bp, bo, on)) (h8 : le.length < 8) (kk : ∀ f1 A1 T1 (lv : tm_L), T <+: T1 → T1.length ≤ T.length + 2 → rc (A1 1) T1.length ≤ rc (A 1) T.length →  MT f1 A1 T1 DL G Kw → (∀ k, ¬ (k = 0 ∨ k = 7 ∨ k = 61) → f1 k = f k) → (∀ j, ¬ ((1 ≤ j ∧ j ≤ 8) ∨ j = 43 ∨ j = 44) → A1 j = A j) → f1 61 = f 61 → qSe (A1 43) T1 0 ((th, Tmx 7 ch tz, nI (nn + 1), le ++ [(th, nI nn, Tmx 6 ch tz)]), ba, ro, mi, sd, n, b, br, bp, bo, on) → lv.lookup 0 = some (.ref 1482) → lv.lookup 1 = some (.int (nI m)) →  mg sc (d + 5) 237 15 lv [] (f1, A1) Q) : ∀ lv : tm_L, lv.lookup 0 = some (.ref 1482) → lv.lookup 1 = some (.int (nI m)) →  mg sc (d + 5) 237 81 lv [] (f, A) Q := by
  intro lv l0 l1
  have hTl := MT_len hM
  have hS2 := hS
  obtain ⟨⟨a1, a2, a3, a4, a5, a6⟩, ⟨a7, a8, a9⟩, ⟨a10, a11⟩, ⟨a12, a13⟩, a14, _⟩ := hS
  refine m_k2 (v := 13) (pc' := 83) cd_Mo_skipSession rfl (by decide) rfl ?_
  refine m_k1 (v := 3) (pc' := 84) cd_Mo_skipSession rfl (by decide) rfl ?_
  refine m_ald (pc' := 85) cd_Mo_skipSession rfl (Or.inr ⟨_, rfl, rfl, rfl⟩) l0 rfl rfl ?_
  refine m_fR (r := 42) (a := 43) (ad := 1525) (pc' := 88) rfl rfl cd_Mo_skipSession rfl rfl rfl rfl rfl ?_
  refine m_k2 (v := 12) (pc' := 90) cd_Mo_skipSession rfl (by decide) rfl ?_
  refine m_aI (r := 42) (a := 43) (g := (A 43)) (x := nI le.length) (pc' := 91) rfl rfl cd_Mo_skipSession rfl rfl rfl (vp_in_nI (n := 12) (by decide) (by decide)) (by rw [(show (12 : Int32).toNatClampNeg = 12 by decide)]; exact a12) ?_
  refine m_pure (pc' := 92) (st' := [.int ((3 : Int32) * (nI le.length)), .int 13]) cd_Mo_skipSession rfl rfl (fun _ _ => rfl) ?_
  refine m_eq (show ((3 : Int32) * (nI le.length) : Int32) = nI (3 * le.length) from pk_mul 3 le.length) ?_
  refine m_pure (pc' := 93) (st' := [.int ((13 : Int32) + (nI (3 * le.length)))]) cd_Mo_skipSession rfl rfl (fun _ _ => rfl) ?_
  refine m_eq (show ((13 : Int32) + (nI (3 * le.length)) : Int32) = nI (13 + (3 * le.length)) from nI_add 13 (3 * le.length)) ?_
  refine m_ist (pc' := 94) cd_Mo_skipSession rfl (Or.inr ⟨_, rfl, rfl, rfl⟩) (by decide) rfl (fun lv el => ?_)
  have l0 := tm_lk el l0 rfl (by decide)
  have l1 := tm_lk el l1 rfl (by decide)
  have l2 : lv.lookup 2 = some (.int (nI (13 + (3 * le.length)))) := tm_lks el
  clear el
  refine m_ald (pc' := 95) cd_Mo_skipSession rfl (Or.inr ⟨_, rfl, rfl, rfl⟩) l0 rfl rfl ?_
  refine m_fR (r := 42) (a := 43) (ad := 1525) (pc' := 98) rfl rfl cd_Mo_skipSession rfl rfl rfl rfl rfl ?_
  refine m_ild (pc' := 99) cd_Mo_skipSession rfl (Or.inr ⟨_, rfl, rfl, rfl⟩) l2 rfl ?_
  refine m_ald (pc' := 100) cd_Mo_skipSession rfl (Or.inr ⟨_, rfl, rfl, rfl⟩) l0 rfl rfl ?_
  refine m_fR (r := 42) (a := 43) (ad := 1525) (pc' := 103) rfl rfl cd_Mo_skipSession rfl rfl rfl rfl rfl ?_
  refine m_k1 (v := 3) (pc' := 104) cd_Mo_skipSession rfl (by decide) rfl ?_
  refine m_aI (r := 42) (a := 43) (g := (A 43)) (x := ((A 43) 3)) (pc' := 105) rfl rfl cd_Mo_skipSession rfl rfl rfl (vp_in_nI (n := 3) (by decide) (by decide)) (congrArg (A 43) (show (3 : Int32).toNatClampNeg = 3 by decide)) ?_
  refine m_aS (r := 42) (a := 43) (g := (A 43)) (p := (13 + (3 * le.length))) (pc' := 106) rfl rfl cd_Mo_skipSession rfl rfl rfl (vp_in_nI (by omega) (by decide)) (nI_clamp (by omega)) ?_
  refine m_ald (pc' := 107) cd_Mo_skipSession rfl (Or.inr ⟨_, rfl, rfl, rfl⟩) l0 rfl rfl ?_
  refine m_fR (r := 42) (a := 43) (ad := 1525) (pc' := 110) rfl rfl cd_Mo_skipSession rfl rfl rfl rfl rfl ?_
  refine m_ild (pc' := 111) cd_Mo_skipSession rfl (Or.inr ⟨_, rfl, rfl, rfl⟩) l2 rfl ?_
  refine m_k1 (v := 1) (pc' := 112) cd_Mo_skipSession rfl (by decide) rfl ?_
  refine m_pure (pc' := 113) (st' := [.int ((nI (13 + (3 * le.length))) + 1), .ref 1525]) cd_Mo_skipSession rfl rfl (fun _ _ => rfl) ?_
  refine m_eq (show ((nI (13 + (3 * le.length))) + 1 : Int32) = nI ((13 + (3 * le.length)) + 1) from nI_add (13 + (3 * le.length)) 1) ?_
  refine m_ald (pc' := 114) cd_Mo_skipSession rfl (Or.inr ⟨_, rfl, rfl, rfl⟩) l0 rfl rfl ?_
  refine m_fR (r := 42) (a := 43) (ad := 1525) (pc' := 117) rfl rfl cd_Mo_skipSession rfl rfl rfl rfl rfl ?_
  refine m_k2 (v := 8) (pc' := 119) cd_Mo_skipSession rfl (by decide) rfl ?_
  refine m_aI (r := 42) (a := 43) (g := (upd (A 43) (13 + (3 * le.length)) ((A 43) 3))) (x := nI nn) (pc' := 120) rfl rfl cd_Mo_skipSession rfl rfl rfl (vp_in_nI (n := 8) (by decide) (by decide)) (by rw [(show (8 : Int32).toNatClampNeg = 8 by decide), upd_ne (by omega)]; exact a9) ?_
  refine m_aS (r := 42) (a := 43) (g := (upd (A 43) (13 + (3 * le.length)) ((A 43) 3))) (p := ((13 + (3 * le.length)) + 1)) (pc' := 121) rfl rfl cd_Mo_skipSession rfl rfl rfl (vp_in_nI (by omega) (by decide)) (nI_clamp (by omega)) ?_
  rw [fset_fset]
  refine m_ald (pc' := 122) cd_Mo_skipSession rfl (Or.inr ⟨_, rfl, rfl, rfl⟩) l0 rfl rfl ?_
  refine m_fR (r := 42) (a := 43) (ad := 1525) (pc' := 125) rfl rfl cd_Mo_skipSession rfl rfl rfl rfl rfl ?_
  refine m_ild (pc' := 126) cd_Mo_skipSession rfl (Or.inr ⟨_, rfl, rfl, rfl⟩) l2 rfl ?_
  refine m_k1 (v := 2) (pc' := 127) cd_Mo_skipSession rfl (by decide) rfl ?_
  refine m_pure (pc' := 128) (st' := [.int ((nI (13 + (3 * le.length))) + 2), .ref 1525]) cd_Mo_skipSession rfl rfl (fun _ _ => rfl) ?_
  refine m_eq (show ((nI (13 + (3 * le.length))) + 2 : Int32) = nI ((13 + (3 * le.length)) + 2) from nI_add (13 + (3 * le.length)) 2) ?_
  refine m_ald (pc' := 129) cd_Mo_skipSession rfl (Or.inr ⟨_, rfl, rfl, rfl⟩) l0 rfl rfl ?_
  refine m_k2 (v := 6) (pc' := 131) cd_Mo_skipSession rfl (by decide) rfl ?_
  refine m_ald (pc' := 132) cd_Mo_skipSession rfl (Or.inr ⟨_, rfl, rfl, rfl⟩) l0 rfl rfl ?_
  refine m_fR (r := 42) (a := 43) (ad := 1525) (pc' := 135) rfl rfl cd_Mo_skipSession rfl rfl rfl rfl rfl ?_
  refine m_k2 (v := 7) (pc' := 137) cd_Mo_skipSession rfl (by decide) rfl ?_
  refine m_aI (r := 42) (a := 43) (g := (upd (upd (A 43) (13 + (3 * le.length)) ((A 43) 3)) ((13 + (3 * le.length)) + 1) (nI nn))) (x := ((A 43) 7)) (pc' := 138) rfl rfl cd_Mo_skipSession rfl rfl rfl (vp_in_nI (n := 7) (by decide) (by decide)) (by rw [(show (7 : Int32).toNatClampNeg = 7 by decide), upd_ne (by omega), upd_ne (by omega)]) ?_
  refine m_k1 (v := 0) (pc' := 139) cd_Mo_skipSession rfl (by decide) rfl ?_
  refine m_ci (pc' := 142) cd_Mo_skipSession rfl rfl rfl rfl rfl cd_Mo_mix rfl (Nat.le_of_ble_eq_true rfl) (m_mix (by exact MT_i hM rfl rfl rfl rfl rfl rfl rfl rfl rfl rfl) (by omega) (by show rc (A 1) T.length < 1000; omega) a6 (MT_z hM) (fun f1 A1 T1 r1 hx1 hr1 => ?_))
  obtain ⟨p1, q1, s1, hM1⟩ := hx1
  have hM1 : MT f1 A1 T1 _ _ _ := MT_i hM1 rfl rfl rfl rfl rfl rfl rfl rfl rfl rfl
  have s1 : rc (A1 1) T1.length ≤ rc (A 1) T.length + 0 := s1
  show mg _ _ _ 142 _ [.int r1, .int (nI ((13 + (3 * le.length)) + 2)), .ref 1525] _ _
  refine m_aS (r := 42) (a := 43) (g := (upd (upd (A 43) (13 + (3 * le.length)) ((A 43) 3)) ((13 + (3 * le.length)) + 1) (nI nn))) (p := ((13 + (3 * le.length)) + 2)) (pc' := 143) rfl rfl cd_Mo_skipSession rfl rfl rfl (vp_in_nI (by omega) (by decide)) (nI_clamp (by omega)) ?_
  refine m_ald (pc' := 144) cd_Mo_skipSession rfl (Or.inr ⟨_, rfl, rfl, rfl⟩) l0 rfl rfl ?_
  refine m_fR (r := 42) (a := 43) (ad := 1525) (pc' := 147) rfl rfl cd_Mo_skipSession rfl rfl rfl rfl rfl ?_
  refine m_k2 (v := 12) (pc' := 149) cd_Mo_skipSession rfl (by decide) rfl ?_
  refine m_pure (pc' := 150) (st' := [.int 12, .ref 1525, .int 12, .ref 1525]) cd_Mo_skipSession rfl rfl (fun _ _ => rfl) ?_
  refine m_aI (r := 42) (a := 43) (g := (upd (upd (upd (A 43) (13 + (3 * le.length)) ((A 43) 3)) ((13 + (3 * le.length)) + 1) (nI nn)) ((13 + (3 * le.length)) + 2) r1)) (x := nI le.length) (pc' := 151) rfl rfl cd_Mo_skipSession rfl rfl rfl (vp_in_nI (n := 12) (by decide) (by decide)) (by rw [(show (12 : Int32).toNatClampNeg = 12 by decide), upd_ne (by omega), upd_ne (by omega), upd_ne (by omega)]; exact a12) ?_
  refine m_k1 (v := 1) (pc' := 152) cd_Mo_skipSession rfl (by decide) rfl ?_
  refine m_pure (pc' := 153) (st' := [.int ((nI le.length) + 1), .int 12, .ref 1525]) cd_Mo_skipSession rfl rfl (fun _ _ => rfl) ?_
  refine m_eq (show ((nI le.length) + 1 : Int32) = nI (le.length + 1) from nI_add le.length 1) ?_
  refine m_aS (r := 42) (a := 43) (g := (upd (upd (upd (A 43) (13 + (3 * le.length)) ((A 43) 3)) ((13 + (3 * le.length)) + 1) (nI nn)) ((13 + (3 * le.length)) + 2) r1)) (p := 12) (pc' := 154) rfl rfl cd_Mo_skipSession rfl rfl rfl (vp_in_nI (n := 12) (by decide) (by decide)) (show (12 : Int32).toNatClampNeg = 12 by decide) ?_
  rw [fset_fset]
  refine m_ald (pc' := 155) cd_Mo_skipSession rfl (Or.inr ⟨_, rfl, rfl, rfl⟩) l0 rfl rfl ?_
  have hq : qSe (upd (upd (upd (upd (A 43) (13 + (3 * le.length)) ((A 43) 3)) ((13 + (3 * le.length)) + 1) (nI nn)) ((13 + (3 * le.length)) + 2) r1) 12 (nI (le.length + 1))) T1 0 ((th, ch, nI nn, le ++ [(th, nI nn, Tmx 6 ch tz)]), ba, ro, mi, sd, n, b, br, bp, bo, on) := by
    refine qSe_le p1 hS2 (fun k hk => by rw [upd_ne (by omega), upd_ne (by omega), upd_ne (by omega), upd_ne (by omega)]) ?_ (by simp; omega) ?_
    · rw [upd_same]; congr 1; simp
    · refine qLf_push p1 h8 a14 (fun k k1 k2 => by rw [upd_ne (by omega), upd_ne (by omega), upd_ne (by omega), upd_ne (by omega)]) ?_ ?_ ?_
      · rw [upd_ne (by omega), upd_ne (by omega), upd_ne (by omega), upd_same]; exact tv_mono p1 a4
      · rw [upd_ne (by omega), upd_ne (by omega), upd_same]
      · rw [upd_ne (by omega), upd_same]; exact hr1
  refine m_cv (pc' := 158) cd_Mo_skipSession rfl rfl rfl rfl rfl cd_Mo_stepSession rfl (Nat.le_of_ble_eq_true rfl) (m_stepSes (by exact MT_i hM1 rfl rfl rfl rfl rfl rfl rfl rfl rfl rfl) (by omega) (by show rc (A1 1) T1.length < 1000; omega) hq (fun f2 A2 T2 p2 q2 s2 hM2 e61 _ hq2 => ?_))
  show mg _ _ _ 158 _ [] _ _
  refine m_pure (pc' := 15) (st' := []) cd_Mo_skipSession rfl rfl (fun _ _ => rfl) ?_
  have s2 : rc (A2 1) T2.length ≤ rc (A1 1) T1.length := s2
  rw [nI_s1] at hq2
  exact kk _ _ _ lv (p1.trans p2) (by omega) (show rc (A2 1) _ ≤ _ by omega) hM2 (fun k q => by have e0 : ¬ k = 0 := (by omega); have e7 : ¬ k = 7 := (by omega); have e61 : ¬ k = 61 := (by omega); simp only [fset, mjF, mjKf, e0, e7, e61, or_self, if_false]) (fun j q => by have e0 : ¬ (1 ≤ j ∧ j ≤ 8) := (by omega); have e43 : ¬ j = 43 := (by omega); have e44 : ¬ j = 44 := (by omega); simp only [fset, mjA, mjKA, e0, e43, e44, or_self, if_false]) e61 hq2 l0 l1
set_option maxRecDepth 100000 in
theorem l_mskip {sc : tm_X} {d : Nat} {DL : List (Int32 × Int32)} {G Kw : Tm → Prop} {th ba ro mi sd bp bo : Tm} {n b : Int32} {br on : Bool} {m : Nat} {Q : Int32 → MS → Prop} (hm : m ≤ 9999) : ∀ (r : Nat) (f : Nat → Int32) (A : Nat → Nat → Int32) (T : List Tm) (ch : Tm) (nn : Nat) (le : List (Tm × Int32 × Tm)), m ≤ nn + r → nn ≤ 10000 → MT f A T DL G Kw → T.length + 2 * r ≤ 4000 → rc (A 1) T.length < 1000 → qSe (A 43) T 0 ((th, ch, nI nn, le), ba, ro, mi, sd, n, b, br, bp, bo, on) → (∀ f1 A1 T1, T <+: T1 → T1.length ≤ T.length + 2 * r → rc (A1 1) T1.length ≤ rc (A 1) T.length →  MT (mjKf f1 f) (mjKA A1 A) T1 DL G Kw → f1 61 = f 61 → qSe (A1 43) T1 0 (ib_skipN (nI m) r (th, ch, nI nn, le), ba, ro, mi, sd, n, b, br, bp, bo, on) → Q 1 (mjKf f1 f, mjKA A1 A)) → ∀ lv : tm_L, lv.lookup 0 = some (.ref 1482) → lv.lookup 1 = some (.int (nI m)) →  mg sc (d + 5) 237 15 lv [] (f, A) (fun r s' => ∃ v, r = some (.int v) ∧ Q v s') := by
  intro r
  induction r with
  | zero =>
    intro f A T ch nn le hmn hnn hM hl hr hS kk lv l0 l1
    have hTl := MT_len hM
    have hS2 := hS
    obtain ⟨⟨a1, a2, a3, a4, a5, a6⟩, ⟨a7, a8, a9⟩, ⟨a10, a11⟩, ⟨a12, a13⟩, a14, a15⟩ := hS
    refine m_ald (pc' := 16) cd_Mo_skipSession rfl (Or.inr ⟨_, rfl, rfl, rfl⟩) l0 rfl rfl ?_
    refine m_fR (r := 42) (a := 43) (ad := 1525) (pc' := 19) rfl rfl cd_Mo_skipSession rfl rfl rfl rfl rfl ?_
    refine m_k2 (v := 8) (pc' := 21) cd_Mo_skipSession rfl (by decide) rfl ?_
    refine m_aI (r := 42) (a := 43) (g := (A 43)) (x := nI nn) (pc' := 22) rfl rfl cd_Mo_skipSession rfl rfl rfl (vp_in_nI (n := 8) (by decide) (by decide)) (by rw [(show (8 : Int32).toNatClampNeg = 8 by decide)]; exact a9) ?_
    refine m_ild (pc' := 23) cd_Mo_skipSession rfl (Or.inr ⟨_, rfl, rfl, rfl⟩) l1 rfl ?_
    refine m_if2 (t := 161) (pc' := 26) cd_Mo_skipSession rfl rfl rfl (fun c23 => ?_) (fun c23 => ?_)
    · have c23 : (nI m) ≤ (nI nn) := c23
      refine m_k1 (v := 1) (pc' := 162) cd_Mo_skipSession rfl (by decide) rfl ?_
      exact m_retz cd_Mo_skipSession rfl (Or.inr rfl) ⟨_, rfl, (mK_end (Q := Q 1) (f := f) (A := A) (fun _ _ => rfl) (fun _ _ => rfl) (kk f A T (List.prefix_refl T) (by omega) (Nat.le_refl _) (by exact MT_i hM rfl rfl rfl rfl rfl rfl rfl rfl rfl rfl) rfl hS2))⟩
    · have c23 : ¬ (nI m) ≤ (nI nn) := c23
      exact absurd (nI_le (by omega) (by omega)) c23
  | succ r ih =>
    intro f A T ch nn le hmn hnn hM hl hr hS kk lv l0 l1
    have hTl := MT_len hM
    have hS2 := hS
    obtain ⟨⟨a1, a2, a3, a4, a5, a6⟩, ⟨a7, a8, a9⟩, ⟨a10, a11⟩, ⟨a12, a13⟩, a14, a15⟩ := hS
    refine m_ald (pc' := 16) cd_Mo_skipSession rfl (Or.inr ⟨_, rfl, rfl, rfl⟩) l0 rfl rfl ?_
    refine m_fR (r := 42) (a := 43) (ad := 1525) (pc' := 19) rfl rfl cd_Mo_skipSession rfl rfl rfl rfl rfl ?_
    refine m_k2 (v := 8) (pc' := 21) cd_Mo_skipSession rfl (by decide) rfl ?_
    refine m_aI (r := 42) (a := 43) (g := (A 43)) (x := nI nn) (pc' := 22) rfl rfl cd_Mo_skipSession rfl rfl rfl (vp_in_nI (n := 8) (by decide) (by decide)) (by rw [(show (8 : Int32).toNatClampNeg = 8 by decide)]; exact a9) ?_
    refine m_ild (pc' := 23) cd_Mo_skipSession rfl (Or.inr ⟨_, rfl, rfl, rfl⟩) l1 rfl ?_
    refine m_if2 (t := 161) (pc' := 26) cd_Mo_skipSession rfl rfl rfl (fun c23 => ?_) (fun c23 => ?_)
    · have c23 : (nI m) ≤ (nI nn) := c23
      refine m_k1 (v := 1) (pc' := 162) cd_Mo_skipSession rfl (by decide) rfl ?_
      exact m_retz cd_Mo_skipSession rfl (Or.inr rfl) ⟨_, rfl, (mK_end (Q := Q 1) (f := f) (A := A) (fun _ _ => rfl) (fun _ _ => rfl) (kk f A T (List.prefix_refl T) (by omega) (Nat.le_refl _) (by exact MT_i hM rfl rfl rfl rfl rfl rfl rfl rfl rfl rfl) rfl (by rw [(show ib_skipN (nI m) (r + 1) (th, ch, nI nn, le) = (th, ch, nI nn, le) from if_pos c23)]; exact hS2)))⟩
    · have c23 : ¬ (nI m) ≤ (nI nn) := c23
      refine m_ald (pc' := 27) cd_Mo_skipSession rfl (Or.inr ⟨_, rfl, rfl, rfl⟩) l0 rfl rfl ?_
      refine m_fR (r := 42) (a := 43) (ad := 1525) (pc' := 30) rfl rfl cd_Mo_skipSession rfl rfl rfl rfl rfl ?_
      refine m_k2 (v := 12) (pc' := 32) cd_Mo_skipSession rfl (by decide) rfl ?_
      refine m_aI (r := 42) (a := 43) (g := (A 43)) (x := nI le.length) (pc' := 33) rfl rfl cd_Mo_skipSession rfl rfl rfl (vp_in_nI (n := 12) (by decide) (by decide)) (by rw [(show (12 : Int32).toNatClampNeg = 12 by decide)]; exact a12) ?_
      refine m_k2 (v := 8) (pc' := 35) cd_Mo_skipSession rfl (by decide) rfl ?_
      refine m_if2 (t := 81) (pc' := 38) cd_Mo_skipSession rfl rfl rfl (fun c35 => ?_) (fun c35 => ?_)
      · have c35 : ¬ (nI le.length) = 8 := c35
        have cL : ¬ le.length = 8 := fun q => c35 (by rw [q]; rfl)
        have hnm : nn < m := Nat.lt_of_not_le (fun q => c23 (nI_le q (by omega)))
        have es := (show ib_skipN (nI m) (r + 1) (th, ch, nI nn, le) = ib_skipN (nI m) r (th, Tmx 7 ch tz, nI (nn + 1), le ++ [(th, nI nn, Tmx 6 ch tz)]) from (if_neg c23).trans (by unfold ib_step; rw [if_neg cL]; rw [nI_s1]))
        rw [es] at kk
        refine l_mskip1 (f := f) (A := A) (by exact MT_i hM rfl rfl rfl rfl rfl rfl rfl rfl rfl rfl) (by omega) (by exact hr) hS2 (by omega) (fun f1 A1 T1 lv p1 q1 s1 hM1 ef eA e61 hq1 l0 l1 => ?_) lv l0 l1
        have s1 : rc (A1 1) T1.length ≤ rc (A 1) T.length := s1
        have eA2 : ∀ j, ¬ ((1 ≤ j ∧ j ≤ 8) ∨ j = 43 ∨ j = 44) → A1 j = A j := fun j q => (eA j q)
        refine ih f1 A1 T1 _ (nn + 1) _ (by omega) (by omega) hM1 (by omega) (by omega) hq1 (fun f2 A2 T2 p2 q2 s2 hM2 e62 hq2 => ?_) lv l0 l1
        rw [mjKf_in ef, mjKA_in eA2] at hM2 ⊢
        exact kk f2 A2 T2 (p1.trans p2) (by omega) (by omega) hM2 (e62.trans e61) hq2
      · have c35 : (nI le.length) = 8 := Classical.not_not.mp c35
        refine m_k1 (v := 0) (pc' := 39) cd_Mo_skipSession rfl (by decide) rfl ?_
        refine m_ist (pc' := 40) cd_Mo_skipSession rfl (Or.inr ⟨_, rfl, rfl, rfl⟩) (by decide) rfl (fun lv el => ?_)
        have l0 := tm_lk el l0 rfl (by decide)
        have l1 := tm_lk el l1 rfl (by decide)
        have l2 : lv.lookup 2 = some (.int 0) := tm_lks el
        clear el
        have cL : le.length = 8 := nI_cxl (by omega) (by omega) c35
        rw [show A = fset A 43 (shW 3 (A 43) 13 (13 + 0)) from (by rw [Nat.add_zero, shW_0, fset_id])]
        refine l_mskip0 (fun lv l0 l1 => ?_) 21 0 rfl lv l0 l1 l2
        refine m_ald (pc' := 71) cd_Mo_skipSession rfl (Or.inr ⟨_, rfl, rfl, rfl⟩) l0 rfl rfl ?_
        refine m_fR (r := 42) (a := 43) (ad := 1525) (pc' := 74) rfl rfl cd_Mo_skipSession rfl rfl rfl rfl rfl ?_
        refine m_k2 (v := 12) (pc' := 76) cd_Mo_skipSession rfl (by decide) rfl ?_
        refine m_pure (pc' := 77) (st' := [.int 12, .ref 1525, .int 12, .ref 1525]) cd_Mo_skipSession rfl rfl (fun _ _ => rfl) ?_
        refine m_aI (r := 42) (a := 43) (g := (shW 3 (A 43) 13 34)) (x := 8) (pc' := 78) rfl rfl cd_Mo_skipSession rfl rfl rfl (vp_in_nI (n := 12) (by decide) (by decide)) (by rw [(show (12 : Int32).toNatClampNeg = 12 by decide), shW_out (by omega)]; exact (a12.trans (by rw [cL]; rfl))) ?_
        refine m_k1 (v := 1) (pc' := 79) cd_Mo_skipSession rfl (by decide) rfl ?_
        refine m_pure (pc' := 80) (st' := [.int ((8 : Int32) - 1), .int 12, .ref 1525]) cd_Mo_skipSession rfl rfl (fun _ _ => rfl) ?_
        refine m_eq (show ((8 : Int32) - 1 : Int32) = 7 from by decide) ?_
        refine m_aS (r := 42) (a := 43) (g := (shW 3 (A 43) 13 34)) (p := 12) (pc' := 81) rfl rfl cd_Mo_skipSession rfl rfl rfl (vp_in_nI (n := 12) (by decide) (by decide)) (show (12 : Int32).toNatClampNeg = 12 by decide) ?_
        have hq : qSe (upd (shW 3 (A 43) 13 34) 12 7) T 0 ((th, ch, nI nn, le.drop 1), ba, ro, mi, sd, n, b, br, bp, bo, on) := by
          rw [drop1_era]
          refine qSe_le (List.prefix_refl T) hS2 (fun k hk => by rw [upd_ne (by omega), shW_out (by omega)]) ?_ (by rw [← drop1_era, List.length_drop]; omega) ?_
          · rw [upd_same, ← drop1_era, List.length_drop, cL]; rfl
          · exact qLf_shift (i := 0) (by omega) a14 (fun k k1 k2 => by rw [upd_ne (by omega)])
        rw [fset_fset]
        have hnm : nn < m := Nat.lt_of_not_le (fun q => c23 (nI_le q (by omega)))
        have es := (show ib_skipN (nI m) (r + 1) (th, ch, nI nn, le) = ib_skipN (nI m) r (th, Tmx 7 ch tz, nI (nn + 1), le.drop 1 ++ [(th, nI nn, Tmx 6 ch tz)]) from (if_neg c23).trans (by unfold ib_step; rw [if_pos cL]; rw [nI_s1]))
        rw [es] at kk
        refine l_mskip1 (f := f) (A := (fset A 43 (upd (shW 3 (A 43) 13 34) 12 7))) (by exact MT_i hM rfl rfl rfl rfl rfl rfl rfl rfl rfl rfl) (by omega) (by exact hr) hq (by rw [List.length_drop]; omega) (fun f1 A1 T1 lv p1 q1 s1 hM1 ef eA e61 hq1 l0 l1 => ?_) lv l0 l1
        have s1 : rc (A1 1) T1.length ≤ rc (A 1) T.length := s1
        have eA2 : ∀ j, ¬ ((1 ≤ j ∧ j ≤ 8) ∨ j = 43 ∨ j = 44) → A1 j = A j := fun j q => (eA j q).trans (fset_ne (by omega))
        refine ih f1 A1 T1 _ (nn + 1) _ (by omega) (by omega) hM1 (by omega) (by omega) hq1 (fun f2 A2 T2 p2 q2 s2 hM2 e62 hq2 => ?_) lv l0 l1
        rw [mjKf_in ef, mjKA_in eA2] at hM2 ⊢
        exact kk f2 A2 T2 (p1.trans p2) (by omega) (by omega) hM2 (e62.trans e61) hq2
set_option maxRecDepth 100000 in
theorem m_skipSes {sc : tm_X} {d : Nat} {f : Nat → Int32} {A : Nat → Nat → Int32} {T : List Tm} {DL : List (Int32 × Int32)} {G Kw : Tm → Prop} {th ch ba ro mi sd bp bo : Tm} {n b : Int32} {le : List (Tm × Int32 × Tm)} {br on : Bool} {m nn : Nat} {Q : Int32 → MS → Prop} (hM : MT f A T DL G Kw) (hl : T.length + 10 ≤ 4000) (hr : rc (A 1) T.length < 1000) (hm : m ≤ 9999) (hn : nn ≤ 10000) (hS : qSe (A 43) T 0 ((th, ch, nI nn, le), ba, ro, mi, sd, n, b, br, bp, bo, on)) (k0 : ib_skipTo (th, ch, nI nn, le) (nI m) = none → Q 0 (f, A)) (kk : ∀ J, ib_skipTo (th, ch, nI nn, le) (nI m) = some J → ∀ f1 A1 T1, T <+: T1 → T1.length ≤ T.length + 10 → rc (A1 1) T1.length ≤ rc (A 1) T.length →  MT (mjKf f1 f) (mjKA A1 A) T1 DL G Kw → f1 61 = f 61 → qSe (A1 43) T1 0 (J, ba, ro, mi, sd, n, b, br, bp, bo, on) → Q 1 (mjKf f1 f, mjKA A1 A)) : mGi sc (d + 5) 237 [.ref 1482, .int (nI m)] (f, A) Q := by
  have hTl := MT_len hM
  have hS2 := hS
  obtain ⟨⟨a1, a2, a3, a4, a5, a6⟩, ⟨a7, a8, a9⟩, _⟩ := hS
  show mg sc (d + 5) 237 0 [(0, .ref 1482), (1, .int (nI m))] [] (f, A) _
  generalize elv : ([(0, .ref 1482), (1, .int (nI m))] : tm_L) = lv
  have l0 : lv.lookup 0 = some (.ref 1482) := by rw [← elv]; rfl
  have l1 : lv.lookup 1 = some (.int (nI m)) := by rw [← elv]; rfl
  clear elv
  refine m_ild (pc' := 1) cd_Mo_skipSession rfl (Or.inr ⟨_, rfl, rfl, rfl⟩) l1 rfl ?_
  refine m_ald (pc' := 2) cd_Mo_skipSession rfl (Or.inr ⟨_, rfl, rfl, rfl⟩) l0 rfl rfl ?_
  refine m_fR (r := 42) (a := 43) (ad := 1525) (pc' := 5) rfl rfl cd_Mo_skipSession rfl rfl rfl rfl rfl ?_
  refine m_k2 (v := 8) (pc' := 7) cd_Mo_skipSession rfl (by decide) rfl ?_
  refine m_aI (r := 42) (a := 43) (g := (A 43)) (x := nI nn) (pc' := 8) rfl rfl cd_Mo_skipSession rfl rfl rfl (vp_in_nI (n := 8) (by decide) (by decide)) (by rw [(show (8 : Int32).toNatClampNeg = 8 by decide)]; exact a9) ?_
  refine m_k1 (v := 5) (pc' := 9) cd_Mo_skipSession rfl (by decide) rfl ?_
  refine m_pure (pc' := 10) (st' := [.int ((nI nn) + 5), .int (nI m)]) cd_Mo_skipSession rfl rfl (fun _ _ => rfl) ?_
  refine m_eq (show ((nI nn) + 5 : Int32) = nI (nn + 5) from nI_add nn 5) ?_
  refine m_if2 (t := 15) (pc' := 13) cd_Mo_skipSession rfl rfl rfl (fun c10 => ?_) (fun c10 => ?_)
  · have c10 : (nI m) ≤ (nI (nn + 5)) := c10
    have hc : m ≤ nn + 5 := (nI_leI (by omega) (by omega)).mp c10
    refine l_mskip hm 5 f A T ch nn le hc hn hM (by omega) hr hS2 (fun f1 A1 T1 p1 q1 s1 hM1 e61 hq1 => ?_) lv l0 l1
    exact kk _ (if_pos ((sub_le5 (by omega) (by omega)).mpr hc)) f1 A1 T1 p1 (by omega) s1 hM1 e61 hq1
  · have c10 : ¬ (nI m) ≤ (nI (nn + 5)) := c10
    refine m_k1 (v := 0) (pc' := 14) cd_Mo_skipSession rfl (by decide) rfl ?_
    exact m_retz cd_Mo_skipSession rfl (Or.inl rfl) ⟨_, rfl, (k0 (if_neg (fun q => c10 (nI_le ((sub_le5 (by omega) (by omega)).mp q) (by omega)))))⟩
