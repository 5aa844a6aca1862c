/-! Prekeys and one-time keys -/
theorem len4 {α : Type} {l : List α} (h : l.length ≤ 4) : l = [] ∨ (∃ a, l = [a]) ∨ (∃ a b, l = [a, b]) ∨ (∃ a b c, l = [a, b, c]) ∨ ∃ a b c d, l = [a, b, c, d] := by
  rcases l with _ | ⟨a, _ | ⟨b, _ | ⟨c, _ | ⟨d, l⟩⟩⟩⟩
  · exact Or.inl rfl
  · exact Or.inr (Or.inl ⟨a, rfl⟩)
  · exact Or.inr (Or.inr (Or.inl ⟨a, b, rfl⟩))
  · exact Or.inr (Or.inr (Or.inr (Or.inl ⟨a, b, c, rfl⟩)))
  · have : l = [] := by simp at h; exact h
    subst this
    exact Or.inr (Or.inr (Or.inr (Or.inr ⟨a, b, c, d, rfl⟩)))
theorem gt_lit {α : Type} {P : Nat → α → Prop} {l : List α} : (∀ (i : Nat) (A : α), l[i]? = some A → P i A) ↔ (∀ i, (h : i < l.length) → P i (l[i]'h)) := by
  constructor
  · intro H i h
    exact H i _ (List.getElem?_eq_getElem h)
  · intro H i A e
    obtain ⟨h, rfl⟩ := List.getElem?_eq_some_iff.mp e
    exact H i h
theorem t_Pstart {sc : tm_X} {d y : Nat} {B : bm_H} {T : List Tm} {s n : Int32} {A : Tm} {Q : bm_H → Prop} (hR : PkS B y) (hs : tv T s A) (kk : ∀ B', RPk B' T y (A, n, []) → fz (fun v => v = y) B B' → Q B') : bm_Gv sc d 44 [.ref y, .int s, .int n] B Q := by
  show bm_G sc d 44 0 [(0, .ref y), (1, .int s), (2, .int n)] [] B _
  generalize elv : ([(0, .ref y), (1, .int s), (2, .int n)] : tm_L) = lv
  have l0 : lv.lookup 0 = some (.ref y) := by rw [← elv]; rfl
  have l1 : lv.lookup 1 = some (.int s) := by rw [← elv]; rfl
  have l2 : lv.lookup 2 = some (.int n) := by rw [← elv]; rfl
  clear elv
  refine g_ald (pc' := 1) cd_Pk_start rfl (Or.inr ⟨_, rfl, rfl, rfl⟩) l0 rfl rfl ?_
  refine g_ild (pc' := 2) cd_Pk_start rfl (Or.inr ⟨_, rfl, rfl, rfl⟩) l1 rfl ?_
  refine g_putI (c := 6) (k := 2) (pc' := 5) cd_Pk_start rfl rfl rfl rfl (by simp [tm_okV, narrow, fits]) (Or.inl rfl) rfl (by decide) hR.1.1 hR.1.2 ?_
  have P1 : bm_FI (bm_putI B 6 2 y s) 6 2 y = s := if_pos ⟨rfl, rfl, rfl⟩
  have Z2 : fz (fun v => v = y) B (bm_putI B 6 2 y s) := fz_trans (fz_rfl _ B) ⟨fr_mono (fun _ q => q) (fr_putI _ 6 2 y _), rfl, rfl⟩
  refine g_ald (pc' := 6) cd_Pk_start rfl (Or.inr ⟨_, rfl, rfl, rfl⟩) l0 rfl rfl ?_
  refine g_ild (pc' := 7) cd_Pk_start rfl (Or.inr ⟨_, rfl, rfl, rfl⟩) l2 rfl ?_
  refine g_putI (c := 6) (k := 3) (pc' := 10) cd_Pk_start rfl rfl rfl rfl (by simp [tm_okV, narrow, fits]) (Or.inl rfl) rfl (by decide) hR.1.1 hR.1.2 ?_
  have P3 : bm_FI (bm_putI (bm_putI B 6 2 y s) 6 3 y n) 6 3 y = n := if_pos ⟨rfl, rfl, rfl⟩
  have Z4 : fz (fun v => v = y) B (bm_putI (bm_putI B 6 2 y s) 6 3 y n) := fz_trans Z2 ⟨fr_mono (fun _ q => q) (fr_putI _ 6 3 y _), rfl, rfl⟩
  refine g_ald (pc' := 11) cd_Pk_start rfl (Or.inr ⟨_, rfl, rfl, rfl⟩) l0 rfl rfl ?_
  refine g_k1 (v := 0) (pc' := 12) cd_Pk_start rfl (by decide) rfl ?_
  refine g_putI (c := 6) (k := 1) (pc' := 15) cd_Pk_start rfl rfl rfl rfl (by simp [tm_okV, narrow, fits]) (Or.inl rfl) rfl (by decide) hR.1.1 hR.1.2 ?_
  have P5 : bm_FI (bm_putI (bm_putI (bm_putI B 6 2 y s) 6 3 y n) 6 1 y 0) 6 1 y = 0 := if_pos ⟨rfl, rfl, rfl⟩
  have Z6 : fz (fun v => v = y) B (bm_putI (bm_putI (bm_putI B 6 2 y s) 6 3 y n) 6 1 y 0) := fz_trans Z4 ⟨fr_mono (fun _ q => q) (fr_putI _ 6 1 y _), rfl, rfl⟩
  exact g_retv cd_Pk_start rfl ⟨rfl, (kk _ ⟨hR, ⟨tvq P1 hs, P3, P5, Nat.zero_le _⟩, fun i A h => by simp at h⟩ Z6)⟩
theorem l_addBase {sc : tm_X} {d y a ca ba da rm dr : Nat} {B : bm_H} {T : List Tm} {A0 : Tm} {n : Int32} {bs : List Tm} {b : Int32} {A : Tm} {Q : Int32 → bm_H → Prop} (hT : TI B a ca ba da rm dr T) (hR : RPk B T y (A0, n, bs)) (hb : tv T b A) (kk0 : (A ∈ bs ∨ 4 ≤ bs.length) → Q 0 B) (kk1 : ∀ B', A ∉ bs → bs.length < 4 → RPk B' T y (A0, n, bs ++ [A]) → fz (fun v => v = y ∨ v = y + 1) B B' → Q 1 B') : ∀ (R : List Tm) (i : Nat), bs.drop i = R → i ≤ 4 → (∀ j, j < i → bs[j]? ≠ some A) → ∀ lv : tm_L, lv.lookup 0 = some (.ref y) → lv.lookup 1 = some (.int b) → lv.lookup 2 = some (.int (nI i)) → bm_G sc d 112 2 lv [] B (fun r B' => ∃ x, r = some (.int x) ∧ Q x B') := by
  intro R
  have h4 : bs.length ≤ 4 := hR.2.1.2.2.2
  induction R with
  | nil =>
    intro i hdr hi4 hno lv l0 l1 l2
    have hl := drop_nil hdr
    have hni : A ∉ bs := fun q => by obtain ⟨j, hj⟩ := List.getElem?_of_mem q; exact hno j (by have := (List.getElem?_eq_some_iff.mp hj).1; omega) hj
    refine g_ild (pc' := 3) cd_Pk_addBase rfl (Or.inr ⟨_, rfl, rfl, rfl⟩) l2 rfl ?_
    refine g_ald (pc' := 4) cd_Pk_addBase rfl (Or.inr ⟨_, rfl, rfl, rfl⟩) l0 rfl rfl ?_
    refine g_fI (c := 6) (k := 1) (x := nI (bs.length)) (pc' := 7) cd_Pk_addBase rfl rfl rfl rfl rfl (by decide) hR.1.1.1 hR.1.1.2 hR.2.1.2.2.1 ?_
    refine g_if2 (t := 28) (pc' := 10) cd_Pk_addBase rfl rfl rfl (fun c7 => ?_) (fun c7 => ?_)
    · have c7 : (nI (bs.length)) ≤ (nI i) := c7
      refine g_ald (pc' := 29) cd_Pk_addBase rfl (Or.inr ⟨_, rfl, rfl, rfl⟩) l0 rfl rfl ?_
      refine g_fI (c := 6) (k := 1) (x := nI (bs.length)) (pc' := 32) cd_Pk_addBase rfl rfl rfl rfl rfl (by decide) hR.1.1.1 hR.1.1.2 hR.2.1.2.2.1 ?_
      refine g_k1 (v := 4) (pc' := 33) cd_Pk_addBase rfl (by decide) rfl ?_
      refine g_if2 (t := 38) (pc' := 36) cd_Pk_addBase rfl rfl rfl (fun c33 => ?_) (fun c33 => ?_)
      · have c33 : (nI (bs.length)) < 4 := c33
        have hlt0 : bs.length < 4 := (nI_ltI (a := bs.length) (b := 4) (by omega) (by decide)).mp c33
        refine g_ald (pc' := 39) cd_Pk_addBase rfl (Or.inr ⟨_, rfl, rfl, rfl⟩) l0 rfl rfl ?_
        refine g_fR (c := 6) (k := 0) (x := (y + 1)) (pc' := 42) cd_Pk_addBase rfl rfl rfl rfl rfl (by decide) hR.1.1.1 hR.1.1.2 hR.1.2.1 ?_
        refine g_ald (pc' := 43) cd_Pk_addBase rfl (Or.inr ⟨_, rfl, rfl, rfl⟩) l0 rfl rfl ?_
        refine g_fI (c := 6) (k := 1) (x := nI (bs.length)) (pc' := 46) cd_Pk_addBase rfl rfl rfl rfl rfl (by decide) hR.1.1.1 hR.1.1.2 hR.2.1.2.2.1 ?_
        refine g_ild (pc' := 47) cd_Pk_addBase rfl (Or.inr ⟨_, rfl, rfl, rfl⟩) l1 rfl ?_
        refine g_iast (pc' := 48) cd_Pk_addBase rfl rfl hR.1.2.2.1 hR.1.2.2.2.1 (by rw [show bm_AL B (y + 1) = 4 from hR.1.2.2.2.2]; exact vp_in_nI (by omega) (by decide)) ?_
        rw [show (nI (bs.length) : Int32).toNatClampNeg = (bs.length) from nI_clamp (by omega)]
        have A7 : bm_AI (bm_setI B (y + 1) (bs.length) b) (y + 1) = (upd (bm_AI B (y + 1)) (bs.length) b) := ((AI_set B (y + 1) (bs.length) b).trans (congrArg (fun f => upd f (bs.length) b) (show bm_AI B (y + 1) = (bm_AI B (y + 1)) from rfl)))
        have Z8 : fz (fun v => v = y ∨ v = y + 1) B (bm_setI B (y + 1) (bs.length) b) := fz_trans (fz_rfl _ B) ⟨fr_mono (fun _ q => Or.inr q) (fr_setI _ (y + 1) _ _), rfl, rfl⟩
        refine g_ald (pc' := 49) cd_Pk_addBase rfl (Or.inr ⟨_, rfl, rfl, rfl⟩) l0 rfl rfl ?_
        refine g_pure (pc' := 50) (st' := [.ref y, .ref y]) cd_Pk_addBase rfl rfl (fun _ _ => rfl) ?_
        refine g_fI (c := 6) (k := 1) (x := nI (bs.length)) (pc' := 53) cd_Pk_addBase rfl rfl rfl rfl rfl (by decide) hR.1.1.1 hR.1.1.2 hR.2.1.2.2.1 ?_
        refine g_k1 (v := 1) (pc' := 54) cd_Pk_addBase rfl (by decide) rfl ?_
        refine g_pure (pc' := 55) (st' := [.int ((nI (bs.length)) + 1), .ref y]) cd_Pk_addBase rfl rfl (fun _ _ => rfl) ?_
        rw [show ((nI (bs.length)) + 1 : Int32) = nI ((bs.length) + 1) from nI_add (bs.length) 1]
        refine g_putI (c := 6) (k := 1) (pc' := 58) cd_Pk_addBase rfl rfl rfl rfl (by simp [tm_okV, narrow, fits]) (Or.inl rfl) rfl (by decide) hR.1.1.1 hR.1.1.2 ?_
        have P9 : bm_FI (bm_putI (bm_setI B (y + 1) (bs.length) b) 6 1 y (nI ((bs.length) + 1))) 6 1 y = nI ((bs.length) + 1) := if_pos ⟨rfl, rfl, rfl⟩
        have Z10 : fz (fun v => v = y ∨ v = y + 1) B (bm_putI (bm_setI B (y + 1) (bs.length) b) 6 1 y (nI ((bs.length) + 1))) := fz_trans Z8 ⟨fr_mono (fun _ q => Or.inl q) (fr_putI _ 6 1 y _), rfl, rfl⟩
        refine g_k1 (v := 1) (pc' := 59) cd_Pk_addBase rfl (by decide) rfl ?_
        have hlt : bs.length < 4 := hlt0
        have hA : bm_AI (bm_putI (bm_setI B (y + 1) (bs.length) b) 6 1 y (nI ((bs.length) + 1))) (y + 1) = upd (bm_AI B (y + 1)) bs.length b := A7
        have hP : ∀ (i : Nat) (C : Tm), (bs ++ [A])[i]? = some C → tv T (bm_AI (bm_putI (bm_setI B (y + 1) (bs.length) b) 6 1 y (nI ((bs.length) + 1))) (y + 1) i) C := by
          intro i C hC
          rw [hA]
          by_cases hc : i = bs.length
          · subst hc; simp at hC; subst hC; simp [upd]; exact hb
          · rw [pk_un hc]; rw [List.getElem?_append_left (by have := (List.getElem?_eq_some_iff.mp hC).1; simp at this; omega)] at hC; exact hR.2.2 i C hC
        exact g_retz cd_Pk_addBase rfl (Or.inr rfl) ⟨_, rfl, (kk1 _ hni hlt ⟨hR.1, ⟨hR.2.1.1, hR.2.1.2.1, P9.trans (by simp), by simp; omega⟩, hP⟩ Z10)⟩
      · have c33 : ¬ (nI (bs.length)) < 4 := c33
        refine g_k1 (v := 0) (pc' := 37) cd_Pk_addBase rfl (by decide) rfl ?_
        exact g_retz cd_Pk_addBase rfl (Or.inl rfl) ⟨_, rfl, (kk0 (Or.inr (by have := (nI_leI (a := 4) (b := bs.length) (by decide) (by omega)).mp (Int32.not_lt.mp c33); exact this)))⟩
    · have c7 : ¬ (nI (bs.length)) ≤ (nI i) := c7
      exact absurd (nI_le hl (by omega)) c7
  | cons e R ih =>
    intro i hdr hi4 hno lv l0 l1 l2
    obtain ⟨he, hdr2⟩ := drop_cons hdr
    have hl := (List.getElem?_eq_some_iff.mp he).1
    have hte := hR.2.2 i e he
    refine g_ild (pc' := 3) cd_Pk_addBase rfl (Or.inr ⟨_, rfl, rfl, rfl⟩) l2 rfl ?_
    refine g_ald (pc' := 4) cd_Pk_addBase rfl (Or.inr ⟨_, rfl, rfl, rfl⟩) l0 rfl rfl ?_
    refine g_fI (c := 6) (k := 1) (x := nI (bs.length)) (pc' := 7) cd_Pk_addBase rfl rfl rfl rfl rfl (by decide) hR.1.1.1 hR.1.1.2 hR.2.1.2.2.1 ?_
    refine g_if2 (t := 28) (pc' := 10) cd_Pk_addBase rfl rfl rfl (fun c7 => ?_) (fun c7 => ?_)
    · have c7 : (nI (bs.length)) ≤ (nI i) := c7
      exact absurd c7 (nI_ge hl (by omega))
    · have c7 : ¬ (nI (bs.length)) ≤ (nI i) := c7
      refine g_ald (pc' := 11) cd_Pk_addBase rfl (Or.inr ⟨_, rfl, rfl, rfl⟩) l0 rfl rfl ?_
      refine g_fR (c := 6) (k := 0) (x := (y + 1)) (pc' := 14) cd_Pk_addBase rfl rfl rfl rfl rfl (by decide) hR.1.1.1 hR.1.1.2 hR.1.2.1 ?_
      refine g_ild (pc' := 15) cd_Pk_addBase rfl (Or.inr ⟨_, rfl, rfl, rfl⟩) l2 rfl ?_
      refine g_aI (x := ((bm_AI B (y + 1)) i)) (pc' := 16) cd_Pk_addBase rfl rfl hR.1.2.2.1 hR.1.2.2.2.1 (by rw [show bm_AL B (y + 1) = 4 from hR.1.2.2.2.2]; exact vp_in_nI (by omega) (by decide)) (by rw [show bm_AI B (y + 1) = (bm_AI B (y + 1)) from rfl]; exact congrArg (bm_AI B (y + 1)) (nI_clamp (n := i) (show (i : Nat) < 2 ^ 31 by omega))) ?_
      refine g_ild (pc' := 17) cd_Pk_addBase rfl (Or.inr ⟨_, rfl, rfl, rfl⟩) l1 rfl ?_
      refine g_if2 (t := 22) (pc' := 20) cd_Pk_addBase rfl rfl rfl (fun c17 => ?_) (fun c17 => ?_)
      · have c17 : ¬ ((bm_AI B (y + 1)) i) = b := c17
        refine g_inc (y := nI (i + 1)) (pc' := 25) cd_Pk_addBase rfl l2 (by decide) (nI_add i 1) rfl (fun lv el => ?_)
        have l0 := tm_lk el l0 rfl (by decide)
        have l1 := tm_lk el l1 rfl (by decide)
        have l2 : lv.lookup 2 = some (.int (nI (i + 1))) := tm_lks el
        clear el
        refine g_pure (pc' := 2) (st' := []) cd_Pk_addBase rfl rfl (fun _ _ => rfl) ?_
        exact ih (i + 1) hdr2 (by omega) (fun j hj hj2 => by by_cases hc : j = i; (subst hc; rw [he] at hj2; exact c17 ((TI_eq hT hte hb).mpr (Option.some.inj hj2))); exact hno j (by omega) hj2) lv l0 l1 l2
      · have c17 : ((bm_AI B (y + 1)) i) = b := Classical.not_not.mp c17
        refine g_k1 (v := 0) (pc' := 21) cd_Pk_addBase rfl (by decide) rfl ?_
        exact g_retz cd_Pk_addBase rfl (Or.inl rfl) ⟨_, rfl, (kk0 (Or.inl ((TI_eq hT hte hb).mp c17 ▸ List.mem_of_getElem? he)))⟩
theorem t_addBase {sc : tm_X} {d y a ca ba da rm dr : Nat} {B : bm_H} {T : List Tm} {A0 : Tm} {n : Int32} {bs : List Tm} {b : Int32} {A : Tm} {Q : Int32 → bm_H → Prop} (hT : TI B a ca ba da rm dr T) (hR : RPk B T y (A0, n, bs)) (hb : tv T b A) (kk0 : (A ∈ bs ∨ 4 ≤ bs.length) → Q 0 B) (kk1 : ∀ B', A ∉ bs → bs.length < 4 → RPk B' T y (A0, n, bs ++ [A]) → fz (fun v => v = y ∨ v = y + 1) B B' → Q 1 B') : bm_Gi sc d 112 [.ref y, .int b] B Q := by
  show bm_G sc d 112 0 [(0, .ref y), (1, .int b)] [] B _
  generalize elv : ([(0, .ref y), (1, .int b)] : tm_L) = lv
  have l0 : lv.lookup 0 = some (.ref y) := by rw [← elv]; rfl
  have l1 : lv.lookup 1 = some (.int b) := by rw [← elv]; rfl
  clear elv
  refine g_k1 (v := 0) (pc' := 1) cd_Pk_addBase rfl (by decide) rfl ?_
  refine g_ist (pc' := 2) cd_Pk_addBase rfl (Or.inr ⟨_, rfl, rfl, rfl⟩) (by decide) rfl (fun lv el => ?_)
  have l0 := tm_lk el l0 rfl (by decide)
  have l1 := tm_lk el l1 rfl (by decide)
  have l2 : lv.lookup 2 = some (.int 0) := tm_lks el
  clear el
  exact l_addBase hT hR hb kk0 kk1 bs 0 rfl (by decide) (fun j hj => absurd hj (Nat.not_lt_zero _)) lv l0 l1 l2
theorem t_findPrekey {sc : tm_X} {d a ca ba da rm dr : Nat} {B : bm_H} {T : List Tm} {x : Nat} {w : SW} {id : Tm} {K0 K1 : PK} {on : List (Tm × Int32)} {ln : Int32} {se : Nat → List SS} {me : Nat → MM} {b : Int32} {A : Tm} {Q : Option Nat → bm_H → Prop} (hT : TI B a ca ba da rm dr T) (hR : RDe B T x w (id, K0, K1, on, ln, se, me)) (hb : tv T b A) (k0 : 0 < K0.2.1 → kd K0.1 = 1) (k1 : 0 < K1.2.1 → kd K1.1 = 1) (kk0 : ¬ (0 < K0.2.1 ∧ Tpub K0.1 = A) → ¬ (0 < K1.2.1 ∧ Tpub K1.1 = A) → Q none B) (kkA : 0 < K0.2.1 → Tpub K0.1 = A → Q (some (pA x w.1 0)) B) (kkB : ¬ (0 < K0.2.1 ∧ Tpub K0.1 = A) → 0 < K1.2.1 → Tpub K1.1 = A → Q (some (pA x w.1 1)) B) : bm_Gr sc (d + 2) 110 [.ref x, .ref a, .int b] B Q := by
  show bm_G sc (d + 2) 110 0 [(0, .ref x), (1, .ref a), (2, .int b)] [] B _
  generalize elv : ([(0, .ref x), (1, .ref a), (2, .int b)] : tm_L) = lv
  have l0 : lv.lookup 0 = some (.ref x) := by rw [← elv]; rfl
  have l1 : lv.lookup 1 = some (.ref a) := by rw [← elv]; rfl
  have l2 : lv.lookup 2 = some (.int b) := by rw [← elv]; rfl
  clear elv
  refine g_k1 (v := 0) (pc' := 1) cd_De_findPrekey rfl (by decide) rfl ?_
  refine g_ist (pc' := 2) cd_De_findPrekey rfl (Or.inr ⟨_, rfl, rfl, rfl⟩) (by decide) rfl (fun lv el => ?_)
  have l0 := tm_lk el l0 rfl (by decide)
  have l1 := tm_lk el l1 rfl (by decide)
  have l2 := tm_lk el l2 rfl (by decide)
  have l3 : lv.lookup 3 = some (.int 0) := tm_lks el
  clear el
  refine g_ild (pc' := 3) cd_De_findPrekey rfl (Or.inr ⟨_, rfl, rfl, rfl⟩) l3 rfl ?_
  refine g_ald (pc' := 4) cd_De_findPrekey rfl (Or.inr ⟨_, rfl, rfl, rfl⟩) l0 rfl rfl ?_
  refine g_fR (c := 0) (k := 0) (x := (x + 1)) (pc' := 7) cd_De_findPrekey rfl rfl rfl rfl rfl (by decide) hR.1.1.1 hR.1.1.2 hR.1.2.1.1 ?_
  refine g_al (x := 2) (pc' := 8) cd_De_findPrekey rfl rfl hR.1.2.2.1.1 (by rw [show bm_K B (x + 1) = 17 from hR.1.2.2.1.2.1]; decide) (by rw [show bm_K B (x + 1) = 17 from hR.1.2.2.1.2.1]; decide) (congrArg Int32.ofNat hR.1.2.2.1.2.2) ?_
  refine g_if2 (t := 53) (pc' := 11) cd_De_findPrekey rfl rfl rfl (fun c8 => ?_) (fun c8 => ?_)
  · exact absurd (show (2 : Int32) ≤ 0 from c8) (by decide)
  · have c8 : ¬ (2 : Int32) ≤ 0 := c8
    refine g_ald (pc' := 12) cd_De_findPrekey rfl (Or.inr ⟨_, rfl, rfl, rfl⟩) l0 rfl rfl ?_
    refine g_fR (c := 0) (k := 0) (x := (x + 1)) (pc' := 15) cd_De_findPrekey rfl rfl rfl rfl rfl (by decide) hR.1.1.1 hR.1.1.2 hR.1.2.1.1 ?_
    refine g_ild (pc' := 16) cd_De_findPrekey rfl (Or.inr ⟨_, rfl, rfl, rfl⟩) l3 rfl ?_
    refine g_aR (t := 4) (x := (pA x w.1 0)) (pc' := 17) cd_De_findPrekey rfl rfl hR.1.2.2.1.1 hR.1.2.2.1.2.1 (by decide) rfl rfl (by rw [show bm_AL B (x + 1) = 2 from hR.1.2.2.1.2.2]; exact vp_in_nI (n := 0) (by decide) (by decide)) hR.2.2.1.1.1 ?_
    refine g_fI (c := 6) (k := 3) (x := K0.2.1) (pc' := 20) cd_De_findPrekey rfl rfl rfl rfl rfl (by decide) hR.2.2.1.2.1.1.1.1 hR.2.2.1.2.1.1.1.2 hR.2.2.1.2.1.2.1.2.1 ?_
    refine g_if1 (t := 47) (pc' := 23) cd_De_findPrekey rfl rfl rfl (fun c20 => ?_) (fun c20 => ?_)
    · have c20 : K0.2.1 ≤ 0 := c20
      have m0 := c20
      refine g_inc (y := 1) (pc' := 50) cd_De_findPrekey rfl l3 (by decide) (by decide) rfl (fun lv el => ?_)
      have l0 := tm_lk el l0 rfl (by decide)
      have l1 := tm_lk el l1 rfl (by decide)
      have l2 := tm_lk el l2 rfl (by decide)
      have l3 : lv.lookup 3 = some (.int 1) := tm_lks el
      clear el
      refine g_pure (pc' := 2) (st' := []) cd_De_findPrekey rfl rfl (fun _ _ => rfl) ?_
      refine g_ild (pc' := 3) cd_De_findPrekey rfl (Or.inr ⟨_, rfl, rfl, rfl⟩) l3 rfl ?_
      refine g_ald (pc' := 4) cd_De_findPrekey rfl (Or.inr ⟨_, rfl, rfl, rfl⟩) l0 rfl rfl ?_
      refine g_fR (c := 0) (k := 0) (x := (x + 1)) (pc' := 7) cd_De_findPrekey rfl rfl rfl rfl rfl (by decide) hR.1.1.1 hR.1.1.2 hR.1.2.1.1 ?_
      refine g_al (x := 2) (pc' := 8) cd_De_findPrekey rfl rfl hR.1.2.2.1.1 (by rw [show bm_K B (x + 1) = 17 from hR.1.2.2.1.2.1]; decide) (by rw [show bm_K B (x + 1) = 17 from hR.1.2.2.1.2.1]; decide) (congrArg Int32.ofNat hR.1.2.2.1.2.2) ?_
      refine g_if2 (t := 53) (pc' := 11) cd_De_findPrekey rfl rfl rfl (fun c8 => ?_) (fun c8 => ?_)
      · exact absurd (show (2 : Int32) ≤ 1 from c8) (by decide)
      · have c8 : ¬ (2 : Int32) ≤ 1 := c8
        refine g_ald (pc' := 12) cd_De_findPrekey rfl (Or.inr ⟨_, rfl, rfl, rfl⟩) l0 rfl rfl ?_
        refine g_fR (c := 0) (k := 0) (x := (x + 1)) (pc' := 15) cd_De_findPrekey rfl rfl rfl rfl rfl (by decide) hR.1.1.1 hR.1.1.2 hR.1.2.1.1 ?_
        refine g_ild (pc' := 16) cd_De_findPrekey rfl (Or.inr ⟨_, rfl, rfl, rfl⟩) l3 rfl ?_
        refine g_aR (t := 4) (x := (pA x w.1 1)) (pc' := 17) cd_De_findPrekey rfl rfl hR.1.2.2.1.1 hR.1.2.2.1.2.1 (by decide) rfl rfl (by rw [show bm_AL B (x + 1) = 2 from hR.1.2.2.1.2.2]; exact vp_in_nI (n := 1) (by decide) (by decide)) hR.2.2.1.1.2 ?_
        refine g_fI (c := 6) (k := 3) (x := K1.2.1) (pc' := 20) cd_De_findPrekey rfl rfl rfl rfl rfl (by decide) hR.2.2.1.2.2.1.1.1 hR.2.2.1.2.2.1.1.2 hR.2.2.1.2.2.2.1.2.1 ?_
        refine g_if1 (t := 47) (pc' := 23) cd_De_findPrekey rfl rfl rfl (fun c20 => ?_) (fun c20 => ?_)
        · have c20 : K1.2.1 ≤ 0 := c20
          have m1 := c20
          refine g_inc (y := 2) (pc' := 50) cd_De_findPrekey rfl l3 (by decide) (by decide) rfl (fun lv el => ?_)
          have l0 := tm_lk el l0 rfl (by decide)
          have l1 := tm_lk el l1 rfl (by decide)
          have l2 := tm_lk el l2 rfl (by decide)
          have l3 : lv.lookup 3 = some (.int 2) := tm_lks el
          clear el
          refine g_pure (pc' := 2) (st' := []) cd_De_findPrekey rfl rfl (fun _ _ => rfl) ?_
          refine g_ild (pc' := 3) cd_De_findPrekey rfl (Or.inr ⟨_, rfl, rfl, rfl⟩) l3 rfl ?_
          refine g_ald (pc' := 4) cd_De_findPrekey rfl (Or.inr ⟨_, rfl, rfl, rfl⟩) l0 rfl rfl ?_
          refine g_fR (c := 0) (k := 0) (x := (x + 1)) (pc' := 7) cd_De_findPrekey rfl rfl rfl rfl rfl (by decide) hR.1.1.1 hR.1.1.2 hR.1.2.1.1 ?_
          refine g_al (x := 2) (pc' := 8) cd_De_findPrekey rfl rfl hR.1.2.2.1.1 (by rw [show bm_K B (x + 1) = 17 from hR.1.2.2.1.2.1]; decide) (by rw [show bm_K B (x + 1) = 17 from hR.1.2.2.1.2.1]; decide) (congrArg Int32.ofNat hR.1.2.2.1.2.2) ?_
          refine g_if2 (t := 53) (pc' := 11) cd_De_findPrekey rfl rfl rfl (fun c8 => ?_) (fun c8 => ?_)
          · have c8 : (2 : Int32) ≤ 2 := c8
            refine g_pure (pc' := 54) (st' := [.null]) cd_De_findPrekey rfl rfl (fun _ _ => rfl) ?_
            exact g_retr (x := none) cd_De_findPrekey rfl ⟨none, rfl, (kk0 (fun q => absurd m0 (Int32.not_le.mpr q.1)) (fun q => absurd m1 (Int32.not_le.mpr q.1)))⟩
          · exact absurd (show ¬ (2 : Int32) ≤ 2 from c8) (by decide)
        · have c20 : ¬ K1.2.1 ≤ 0 := c20
          have m1 := c20
          refine g_ald (pc' := 24) cd_De_findPrekey rfl (Or.inr ⟨_, rfl, rfl, rfl⟩) l1 rfl rfl ?_
          refine g_ald (pc' := 25) cd_De_findPrekey rfl (Or.inr ⟨_, rfl, rfl, rfl⟩) l0 rfl rfl ?_
          refine g_fR (c := 0) (k := 0) (x := (x + 1)) (pc' := 28) cd_De_findPrekey rfl rfl rfl rfl rfl (by decide) hR.1.1.1 hR.1.1.2 hR.1.2.1.1 ?_
          refine g_ild (pc' := 29) cd_De_findPrekey rfl (Or.inr ⟨_, rfl, rfl, rfl⟩) l3 rfl ?_
          refine g_aR (t := 4) (x := (pA x w.1 1)) (pc' := 30) cd_De_findPrekey rfl rfl hR.1.2.2.1.1 hR.1.2.2.1.2.1 (by decide) rfl rfl (by rw [show bm_AL B (x + 1) = 2 from hR.1.2.2.1.2.2]; exact vp_in_nI (n := 1) (by decide) (by decide)) hR.2.2.1.1.2 ?_
          refine g_fI (c := 6) (k := 2) (x := (bm_FI B 6 2 (pA x w.1 1))) (pc' := 33) cd_De_findPrekey rfl rfl rfl rfl rfl (by decide) hR.2.2.1.2.2.1.1.1 hR.2.2.1.2.2.1.1.2 rfl ?_
          refine g_calli (pc' := 36) cd_De_findPrekey rfl rfl rfl rfl rfl (tm_invV rfl rfl cd_Te_publicOf rfl (Nat.le_of_ble_eq_true rfl) (by decide) hT.1.1.1 hT.1.1.2) (t_publicOf hT hR.2.2.1.2.2.2.1.1 (fun r11 ht11 => ?_))
          rw [if_pos (k1 (Int32.not_le.mp c20))] at ht11
          show bm_G _ _ _ 36 _ [.int r11] B _
          refine g_ild (pc' := 37) cd_De_findPrekey rfl (Or.inr ⟨_, rfl, rfl, rfl⟩) l2 rfl ?_
          refine g_if2 (t := 47) (pc' := 40) cd_De_findPrekey rfl rfl rfl (fun c37 => ?_) (fun c37 => ?_)
          · have c37 : ¬ r11 = b := c37
            have n1 := c37
            have hp1 := ht11
            refine g_inc (y := 2) (pc' := 50) cd_De_findPrekey rfl l3 (by decide) (by decide) rfl (fun lv el => ?_)
            have l0 := tm_lk el l0 rfl (by decide)
            have l1 := tm_lk el l1 rfl (by decide)
            have l2 := tm_lk el l2 rfl (by decide)
            have l3 : lv.lookup 3 = some (.int 2) := tm_lks el
            clear el
            refine g_pure (pc' := 2) (st' := []) cd_De_findPrekey rfl rfl (fun _ _ => rfl) ?_
            refine g_ild (pc' := 3) cd_De_findPrekey rfl (Or.inr ⟨_, rfl, rfl, rfl⟩) l3 rfl ?_
            refine g_ald (pc' := 4) cd_De_findPrekey rfl (Or.inr ⟨_, rfl, rfl, rfl⟩) l0 rfl rfl ?_
            refine g_fR (c := 0) (k := 0) (x := (x + 1)) (pc' := 7) cd_De_findPrekey rfl rfl rfl rfl rfl (by decide) hR.1.1.1 hR.1.1.2 hR.1.2.1.1 ?_
            refine g_al (x := 2) (pc' := 8) cd_De_findPrekey rfl rfl hR.1.2.2.1.1 (by rw [show bm_K B (x + 1) = 17 from hR.1.2.2.1.2.1]; decide) (by rw [show bm_K B (x + 1) = 17 from hR.1.2.2.1.2.1]; decide) (congrArg Int32.ofNat hR.1.2.2.1.2.2) ?_
            refine g_if2 (t := 53) (pc' := 11) cd_De_findPrekey rfl rfl rfl (fun c8 => ?_) (fun c8 => ?_)
            · have c8 : (2 : Int32) ≤ 2 := c8
              refine g_pure (pc' := 54) (st' := [.null]) cd_De_findPrekey rfl rfl (fun _ _ => rfl) ?_
              exact g_retr (x := none) cd_De_findPrekey rfl ⟨none, rfl, (kk0 (fun q => absurd m0 (Int32.not_le.mpr q.1)) (fun q => n1 ((TI_eq hT hp1 hb).mpr q.2)))⟩
            · exact absurd (show ¬ (2 : Int32) ≤ 2 from c8) (by decide)
          · have c37 : r11 = b := Classical.not_not.mp c37
            have n1 := c37
            have hp1 := ht11
            refine g_ald (pc' := 41) cd_De_findPrekey rfl (Or.inr ⟨_, rfl, rfl, rfl⟩) l0 rfl rfl ?_
            refine g_fR (c := 0) (k := 0) (x := (x + 1)) (pc' := 44) cd_De_findPrekey rfl rfl rfl rfl rfl (by decide) hR.1.1.1 hR.1.1.2 hR.1.2.1.1 ?_
            refine g_ild (pc' := 45) cd_De_findPrekey rfl (Or.inr ⟨_, rfl, rfl, rfl⟩) l3 rfl ?_
            refine g_aR (t := 4) (x := (pA x w.1 1)) (pc' := 46) cd_De_findPrekey rfl rfl hR.1.2.2.1.1 hR.1.2.2.1.2.1 (by decide) rfl rfl (by rw [show bm_AL B (x + 1) = 2 from hR.1.2.2.1.2.2]; exact vp_in_nI (n := 1) (by decide) (by decide)) hR.2.2.1.1.2 ?_
            exact g_retr (x := (some (pA x w.1 1))) cd_De_findPrekey rfl ⟨(some (pA x w.1 1)), rfl, (kkB (fun q => absurd m0 (Int32.not_le.mpr q.1)) (Int32.not_le.mp m1) ((TI_eq hT hp1 hb).mp n1))⟩
    · have c20 : ¬ K0.2.1 ≤ 0 := c20
      have m0 := c20
      refine g_ald (pc' := 24) cd_De_findPrekey rfl (Or.inr ⟨_, rfl, rfl, rfl⟩) l1 rfl rfl ?_
      refine g_ald (pc' := 25) cd_De_findPrekey rfl (Or.inr ⟨_, rfl, rfl, rfl⟩) l0 rfl rfl ?_
      refine g_fR (c := 0) (k := 0) (x := (x + 1)) (pc' := 28) cd_De_findPrekey rfl rfl rfl rfl rfl (by decide) hR.1.1.1 hR.1.1.2 hR.1.2.1.1 ?_
      refine g_ild (pc' := 29) cd_De_findPrekey rfl (Or.inr ⟨_, rfl, rfl, rfl⟩) l3 rfl ?_
      refine g_aR (t := 4) (x := (pA x w.1 0)) (pc' := 30) cd_De_findPrekey rfl rfl hR.1.2.2.1.1 hR.1.2.2.1.2.1 (by decide) rfl rfl (by rw [show bm_AL B (x + 1) = 2 from hR.1.2.2.1.2.2]; exact vp_in_nI (n := 0) (by decide) (by decide)) hR.2.2.1.1.1 ?_
      refine g_fI (c := 6) (k := 2) (x := (bm_FI B 6 2 (pA x w.1 0))) (pc' := 33) cd_De_findPrekey rfl rfl rfl rfl rfl (by decide) hR.2.2.1.2.1.1.1.1 hR.2.2.1.2.1.1.1.2 rfl ?_
      refine g_calli (pc' := 36) cd_De_findPrekey rfl rfl rfl rfl rfl (tm_invV rfl rfl cd_Te_publicOf rfl (Nat.le_of_ble_eq_true rfl) (by decide) hT.1.1.1 hT.1.1.2) (t_publicOf hT hR.2.2.1.2.1.2.1.1 (fun r12 ht12 => ?_))
      rw [if_pos (k0 (Int32.not_le.mp c20))] at ht12
      show bm_G _ _ _ 36 _ [.int r12] B _
      refine g_ild (pc' := 37) cd_De_findPrekey rfl (Or.inr ⟨_, rfl, rfl, rfl⟩) l2 rfl ?_
      refine g_if2 (t := 47) (pc' := 40) cd_De_findPrekey rfl rfl rfl (fun c37 => ?_) (fun c37 => ?_)
      · have c37 : ¬ r12 = b := c37
        have n0 := c37
        have hp0 := ht12
        refine g_inc (y := 1) (pc' := 50) cd_De_findPrekey rfl l3 (by decide) (by decide) rfl (fun lv el => ?_)
        have l0 := tm_lk el l0 rfl (by decide)
        have l1 := tm_lk el l1 rfl (by decide)
        have l2 := tm_lk el l2 rfl (by decide)
        have l3 : lv.lookup 3 = some (.int 1) := tm_lks el
        clear el
        refine g_pure (pc' := 2) (st' := []) cd_De_findPrekey rfl rfl (fun _ _ => rfl) ?_
        refine g_ild (pc' := 3) cd_De_findPrekey rfl (Or.inr ⟨_, rfl, rfl, rfl⟩) l3 rfl ?_
        refine g_ald (pc' := 4) cd_De_findPrekey rfl (Or.inr ⟨_, rfl, rfl, rfl⟩) l0 rfl rfl ?_
        refine g_fR (c := 0) (k := 0) (x := (x + 1)) (pc' := 7) cd_De_findPrekey rfl rfl rfl rfl rfl (by decide) hR.1.1.1 hR.1.1.2 hR.1.2.1.1 ?_
        refine g_al (x := 2) (pc' := 8) cd_De_findPrekey rfl rfl hR.1.2.2.1.1 (by rw [show bm_K B (x + 1) = 17 from hR.1.2.2.1.2.1]; decide) (by rw [show bm_K B (x + 1) = 17 from hR.1.2.2.1.2.1]; decide) (congrArg Int32.ofNat hR.1.2.2.1.2.2) ?_
        refine g_if2 (t := 53) (pc' := 11) cd_De_findPrekey rfl rfl rfl (fun c8 => ?_) (fun c8 => ?_)
        · exact absurd (show (2 : Int32) ≤ 1 from c8) (by decide)
        · have c8 : ¬ (2 : Int32) ≤ 1 := c8
          refine g_ald (pc' := 12) cd_De_findPrekey rfl (Or.inr ⟨_, rfl, rfl, rfl⟩) l0 rfl rfl ?_
          refine g_fR (c := 0) (k := 0) (x := (x + 1)) (pc' := 15) cd_De_findPrekey rfl rfl rfl rfl rfl (by decide) hR.1.1.1 hR.1.1.2 hR.1.2.1.1 ?_
          refine g_ild (pc' := 16) cd_De_findPrekey rfl (Or.inr ⟨_, rfl, rfl, rfl⟩) l3 rfl ?_
          refine g_aR (t := 4) (x := (pA x w.1 1)) (pc' := 17) cd_De_findPrekey rfl rfl hR.1.2.2.1.1 hR.1.2.2.1.2.1 (by decide) rfl rfl (by rw [show bm_AL B (x + 1) = 2 from hR.1.2.2.1.2.2]; exact vp_in_nI (n := 1) (by decide) (by decide)) hR.2.2.1.1.2 ?_
          refine g_fI (c := 6) (k := 3) (x := K1.2.1) (pc' := 20) cd_De_findPrekey rfl rfl rfl rfl rfl (by decide) hR.2.2.1.2.2.1.1.1 hR.2.2.1.2.2.1.1.2 hR.2.2.1.2.2.2.1.2.1 ?_
          refine g_if1 (t := 47) (pc' := 23) cd_De_findPrekey rfl rfl rfl (fun c20 => ?_) (fun c20 => ?_)
          · have c20 : K1.2.1 ≤ 0 := c20
            have m1 := c20
            refine g_inc (y := 2) (pc' := 50) cd_De_findPrekey rfl l3 (by decide) (by decide) rfl (fun lv el => ?_)
            have l0 := tm_lk el l0 rfl (by decide)
            have l1 := tm_lk el l1 rfl (by decide)
            have l2 := tm_lk el l2 rfl (by decide)
            have l3 : lv.lookup 3 = some (.int 2) := tm_lks el
            clear el
            refine g_pure (pc' := 2) (st' := []) cd_De_findPrekey rfl rfl (fun _ _ => rfl) ?_
            refine g_ild (pc' := 3) cd_De_findPrekey rfl (Or.inr ⟨_, rfl, rfl, rfl⟩) l3 rfl ?_
            refine g_ald (pc' := 4) cd_De_findPrekey rfl (Or.inr ⟨_, rfl, rfl, rfl⟩) l0 rfl rfl ?_
            refine g_fR (c := 0) (k := 0) (x := (x + 1)) (pc' := 7) cd_De_findPrekey rfl rfl rfl rfl rfl (by decide) hR.1.1.1 hR.1.1.2 hR.1.2.1.1 ?_
            refine g_al (x := 2) (pc' := 8) cd_De_findPrekey rfl rfl hR.1.2.2.1.1 (by rw [show bm_K B (x + 1) = 17 from hR.1.2.2.1.2.1]; decide) (by rw [show bm_K B (x + 1) = 17 from hR.1.2.2.1.2.1]; decide) (congrArg Int32.ofNat hR.1.2.2.1.2.2) ?_
            refine g_if2 (t := 53) (pc' := 11) cd_De_findPrekey rfl rfl rfl (fun c8 => ?_) (fun c8 => ?_)
            · have c8 : (2 : Int32) ≤ 2 := c8
              refine g_pure (pc' := 54) (st' := [.null]) cd_De_findPrekey rfl rfl (fun _ _ => rfl) ?_
              exact g_retr (x := none) cd_De_findPrekey rfl ⟨none, rfl, (kk0 (fun q => n0 ((TI_eq hT hp0 hb).mpr q.2)) (fun q => absurd m1 (Int32.not_le.mpr q.1)))⟩
            · exact absurd (show ¬ (2 : Int32) ≤ 2 from c8) (by decide)
          · have c20 : ¬ K1.2.1 ≤ 0 := c20
            have m1 := c20
            refine g_ald (pc' := 24) cd_De_findPrekey rfl (Or.inr ⟨_, rfl, rfl, rfl⟩) l1 rfl rfl ?_
            refine g_ald (pc' := 25) cd_De_findPrekey rfl (Or.inr ⟨_, rfl, rfl, rfl⟩) l0 rfl rfl ?_
            refine g_fR (c := 0) (k := 0) (x := (x + 1)) (pc' := 28) cd_De_findPrekey rfl rfl rfl rfl rfl (by decide) hR.1.1.1 hR.1.1.2 hR.1.2.1.1 ?_
            refine g_ild (pc' := 29) cd_De_findPrekey rfl (Or.inr ⟨_, rfl, rfl, rfl⟩) l3 rfl ?_
            refine g_aR (t := 4) (x := (pA x w.1 1)) (pc' := 30) cd_De_findPrekey rfl rfl hR.1.2.2.1.1 hR.1.2.2.1.2.1 (by decide) rfl rfl (by rw [show bm_AL B (x + 1) = 2 from hR.1.2.2.1.2.2]; exact vp_in_nI (n := 1) (by decide) (by decide)) hR.2.2.1.1.2 ?_
            refine g_fI (c := 6) (k := 2) (x := (bm_FI B 6 2 (pA x w.1 1))) (pc' := 33) cd_De_findPrekey rfl rfl rfl rfl rfl (by decide) hR.2.2.1.2.2.1.1.1 hR.2.2.1.2.2.1.1.2 rfl ?_
            refine g_calli (pc' := 36) cd_De_findPrekey rfl rfl rfl rfl rfl (tm_invV rfl rfl cd_Te_publicOf rfl (Nat.le_of_ble_eq_true rfl) (by decide) hT.1.1.1 hT.1.1.2) (t_publicOf hT hR.2.2.1.2.2.2.1.1 (fun r13 ht13 => ?_))
            rw [if_pos (k1 (Int32.not_le.mp c20))] at ht13
            show bm_G _ _ _ 36 _ [.int r13] B _
            refine g_ild (pc' := 37) cd_De_findPrekey rfl (Or.inr ⟨_, rfl, rfl, rfl⟩) l2 rfl ?_
            refine g_if2 (t := 47) (pc' := 40) cd_De_findPrekey rfl rfl rfl (fun c37 => ?_) (fun c37 => ?_)
            · have c37 : ¬ r13 = b := c37
              have n1 := c37
              have hp1 := ht13
              refine g_inc (y := 2) (pc' := 50) cd_De_findPrekey rfl l3 (by decide) (by decide) rfl (fun lv el => ?_)
              have l0 := tm_lk el l0 rfl (by decide)
              have l1 := tm_lk el l1 rfl (by decide)
              have l2 := tm_lk el l2 rfl (by decide)
              have l3 : lv.lookup 3 = some (.int 2) := tm_lks el
              clear el
              refine g_pure (pc' := 2) (st' := []) cd_De_findPrekey rfl rfl (fun _ _ => rfl) ?_
              refine g_ild (pc' := 3) cd_De_findPrekey rfl (Or.inr ⟨_, rfl, rfl, rfl⟩) l3 rfl ?_
              refine g_ald (pc' := 4) cd_De_findPrekey rfl (Or.inr ⟨_, rfl, rfl, rfl⟩) l0 rfl rfl ?_
              refine g_fR (c := 0) (k := 0) (x := (x + 1)) (pc' := 7) cd_De_findPrekey rfl rfl rfl rfl rfl (by decide) hR.1.1.1 hR.1.1.2 hR.1.2.1.1 ?_
              refine g_al (x := 2) (pc' := 8) cd_De_findPrekey rfl rfl hR.1.2.2.1.1 (by rw [show bm_K B (x + 1) = 17 from hR.1.2.2.1.2.1]; decide) (by rw [show bm_K B (x + 1) = 17 from hR.1.2.2.1.2.1]; decide) (congrArg Int32.ofNat hR.1.2.2.1.2.2) ?_
              refine g_if2 (t := 53) (pc' := 11) cd_De_findPrekey rfl rfl rfl (fun c8 => ?_) (fun c8 => ?_)
              · have c8 : (2 : Int32) ≤ 2 := c8
                refine g_pure (pc' := 54) (st' := [.null]) cd_De_findPrekey rfl rfl (fun _ _ => rfl) ?_
                exact g_retr (x := none) cd_De_findPrekey rfl ⟨none, rfl, (kk0 (fun q => n0 ((TI_eq hT hp0 hb).mpr q.2)) (fun q => n1 ((TI_eq hT hp1 hb).mpr q.2)))⟩
              · exact absurd (show ¬ (2 : Int32) ≤ 2 from c8) (by decide)
            · have c37 : r13 = b := Classical.not_not.mp c37
              have n1 := c37
              have hp1 := ht13
              refine g_ald (pc' := 41) cd_De_findPrekey rfl (Or.inr ⟨_, rfl, rfl, rfl⟩) l0 rfl rfl ?_
              refine g_fR (c := 0) (k := 0) (x := (x + 1)) (pc' := 44) cd_De_findPrekey rfl rfl rfl rfl rfl (by decide) hR.1.1.1 hR.1.1.2 hR.1.2.1.1 ?_
              refine g_ild (pc' := 45) cd_De_findPrekey rfl (Or.inr ⟨_, rfl, rfl, rfl⟩) l3 rfl ?_
              refine g_aR (t := 4) (x := (pA x w.1 1)) (pc' := 46) cd_De_findPrekey rfl rfl hR.1.2.2.1.1 hR.1.2.2.1.2.1 (by decide) rfl rfl (by rw [show bm_AL B (x + 1) = 2 from hR.1.2.2.1.2.2]; exact vp_in_nI (n := 1) (by decide) (by decide)) hR.2.2.1.1.2 ?_
              exact g_retr (x := (some (pA x w.1 1))) cd_De_findPrekey rfl ⟨(some (pA x w.1 1)), rfl, (kkB (fun q => n0 ((TI_eq hT hp0 hb).mpr q.2)) (Int32.not_le.mp m1) ((TI_eq hT hp1 hb).mp n1))⟩
      · have c37 : r12 = b := Classical.not_not.mp c37
        have n0 := c37
        have hp0 := ht12
        refine g_ald (pc' := 41) cd_De_findPrekey rfl (Or.inr ⟨_, rfl, rfl, rfl⟩) l0 rfl rfl ?_
        refine g_fR (c := 0) (k := 0) (x := (x + 1)) (pc' := 44) cd_De_findPrekey rfl rfl rfl rfl rfl (by decide) hR.1.1.1 hR.1.1.2 hR.1.2.1.1 ?_
        refine g_ild (pc' := 45) cd_De_findPrekey rfl (Or.inr ⟨_, rfl, rfl, rfl⟩) l3 rfl ?_
        refine g_aR (t := 4) (x := (pA x w.1 0)) (pc' := 46) cd_De_findPrekey rfl rfl hR.1.2.2.1.1 hR.1.2.2.1.2.1 (by decide) rfl rfl (by rw [show bm_AL B (x + 1) = 2 from hR.1.2.2.1.2.2]; exact vp_in_nI (n := 0) (by decide) (by decide)) hR.2.2.1.1.1 ?_
        exact g_retr (x := (some (pA x w.1 0))) cd_De_findPrekey rfl ⟨(some (pA x w.1 0)), rfl, (kkA (Int32.not_le.mp m0) ((TI_eq hT hp0 hb).mp n0))⟩
