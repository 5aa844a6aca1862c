/-! One-time keys taken, keys renewed -/
theorem ix1 {α : Type} {P : Nat → α → Prop} {a : α} (h : P 0 a) : ∀ (k : Nat) (S : α), [a][k]? = some S → P k S := by
  intro k S e
  rcases k with _ | k
  · cases e; exact h
  · cases e
theorem ix2 {α : Type} {P : Nat → α → Prop} {a b : α} (h : P 0 a) (h1 : P 1 b) : ∀ (k : Nat) (S : α), [a, b][k]? = some S → P k S := by
  intro k S e
  rcases k with _ | _ | k
  · cases e; exact h
  · cases e; exact h1
  · cases e
theorem ix3 {α : Type} {P : Nat → α → Prop} {a b c : α} (h : P 0 a) (h1 : P 1 b) (h2 : P 2 c) : ∀ (k : Nat) (S : α), [a, b, c][k]? = some S → P k S := by
  intro k S e
  rcases k with _ | _ | _ | k
  · cases e; exact h
  · cases e; exact h1
  · cases e; exact h2
  · cases e
theorem ix0 {α : Type} {P : Nat → α → Prop} : ∀ (k : Nat) (S : α), ([] : List α)[k]? = some S → P k S := by
  intro k S e
  cases e
theorem all3 {α : Type} {P : α → Prop} {a b c : α} (h : P a) (h2 : P b) (h3 : P c) : ∀ (k : Nat) (S : α), [a, b, c][k]? = some S → P S := by
  intro k S e
  rcases k with _ | _ | _ | k
  · cases e; exact h
  · cases e; exact h2
  · cases e; exact h3
  · cases e
theorem all4 {α : Type} {P : α → Prop} {a b c d : α} (h : P a) (h2 : P b) (h3 : P c) (h4 : P d) : ∀ (k : Nat) (S : α), [a, b, c, d][k]? = some S → P S := by
  intro k S e
  rcases k with _ | _ | _ | _ | k
  · cases e; exact h
  · cases e; exact h2
  · cases e; exact h3
  · cases e; exact h4
  · cases e
theorem all0 {α : Type} {P : α → Prop} : ∀ (k : Nat) (S : α), ([] : List α)[k]? = some S → P S := by
  intro k S e
  cases e
theorem t_takeOnce0 {sc : tm_X} {d a ca ba da rm dr x : Nat} {B : bm_H} {T : List Tm} {w : SW} {id : Tm} {K0 K1 : PK} {ln : Int32} {se : Nat → List SS} {me : Nat → MM}  {b : Int32} {A : Tm} {Q : Int32 → bm_H → Prop} (hT : TI B a ca ba da rm dr T) (hR : RDe B T x w (id, K0, K1, [], ln, se, me)) (hb : tv T b A) (hk : ∀ e, e ∈ ([] : List (Tm × Int32)) → kd e.1 = 1) (kk0 : (∀ (k : Nat) (e : Tm × Int32), ([] : List (Tm × Int32))[k]? = some e → Tpub e.1 ≠ A) → Q 0 B) (kk1 : ∀ i e B' r, ([] : List (Tm × Int32))[i]? = some e → Tpub e.1 = A → (∀ (j : Nat) (e' : Tm × Int32), j < i → ([] : List (Tm × Int32))[j]? = some e' → Tpub e'.1 ≠ A) → tv T r e.1 → RDe B' T x w (id, K0, K1, ([] : List (Tm × Int32)).eraseIdx i, ln, se, me) → fz (fun y => y = x ∨ y = x + 6 ∨ y = x + 7) B B' → Q r B') : bm_Gi sc (d + 2) 111 [.ref x, .ref a, .int b] B Q := by
  show bm_G sc (d + 2) 111 0 [(0, .ref x), (1, .ref a), (2, .int b)] [] B _
  generalize elv : ([(0, .ref x), (1, .ref a), (2, .int b)] : tm_L) = lv
  have l0 : lv.lookup 0 = some (.ref x) := by rw [← elv]; rfl
  have l1 : lv.lookup 1 = some (.ref a) := by rw [← elv]; rfl
  have l2 : lv.lookup 2 = some (.int b) := by rw [← elv]; rfl
  clear elv
  refine g_k1 (v := 0) (pc' := 1) cd_De_takeOnce rfl (by decide) rfl ?_
  refine g_ist (pc' := 2) cd_De_takeOnce rfl (Or.inr ⟨_, rfl, rfl, rfl⟩) (by decide) rfl (fun lv el => ?_)
  have l0 := tm_lk el l0 rfl (by decide)
  have l1 := tm_lk el l1 rfl (by decide)
  have l2 := tm_lk el l2 rfl (by decide)
  have l3 : lv.lookup 3 = some (.int 0) := tm_lks el
  clear el
  refine g_ild (pc' := 3) cd_De_takeOnce rfl (Or.inr ⟨_, rfl, rfl, rfl⟩) l3 rfl ?_
  refine g_ald (pc' := 4) cd_De_takeOnce rfl (Or.inr ⟨_, rfl, rfl, rfl⟩) l0 rfl rfl ?_
  refine g_fI (c := 0) (k := 7) (x := 0) (pc' := 7) cd_De_takeOnce rfl rfl rfl rfl rfl (by decide) hR.1.1.1 hR.1.1.2 hR.2.2.2.1.1.1 ?_
  refine g_if2 (t := 97) (pc' := 10) cd_De_takeOnce rfl rfl rfl (fun c7 => ?_) (fun c7 => ?_)
  · have c7 : (0 : Int32) ≤ 0 := c7
    refine g_k1 (v := 0) (pc' := 98) cd_De_takeOnce rfl (by decide) rfl ?_
    exact g_reti cd_De_takeOnce rfl ⟨_, rfl, (kk0 (all0 (P := fun e : Tm × Int32 => Tpub e.1 ≠ A)))⟩
  · exact absurd (show ¬ (0 : Int32) ≤ 0 from c7) (by decide)
theorem t_takeOnce1 {sc : tm_X} {d a ca ba da rm dr x : Nat} {B : bm_H} {T : List Tm} {w : SW} {id : Tm} {K0 K1 : PK} {ln : Int32} {se : Nat → List SS} {me : Nat → MM} {e0 : Tm × Int32} {b : Int32} {A : Tm} {Q : Int32 → bm_H → Prop} (hT : TI B a ca ba da rm dr T) (hR : RDe B T x w (id, K0, K1, [e0], ln, se, me)) (hb : tv T b A) (hk : ∀ e, e ∈ ([e0] : List (Tm × Int32)) → kd e.1 = 1) (kk0 : (∀ (k : Nat) (e : Tm × Int32), ([e0] : List (Tm × Int32))[k]? = some e → Tpub e.1 ≠ A) → Q 0 B) (kk1 : ∀ i e B' r, ([e0] : List (Tm × Int32))[i]? = some e → Tpub e.1 = A → (∀ (j : Nat) (e' : Tm × Int32), j < i → ([e0] : List (Tm × Int32))[j]? = some e' → Tpub e'.1 ≠ A) → tv T r e.1 → RDe B' T x w (id, K0, K1, ([e0] : List (Tm × Int32)).eraseIdx i, ln, se, me) → fz (fun y => y = x ∨ y = x + 6 ∨ y = x + 7) B B' → Q r B') : bm_Gi sc (d + 2) 111 [.ref x, .ref a, .int b] B Q := by
  have g0 := hR.2.2.2.1.2 0 e0 rfl
  show bm_G sc (d + 2) 111 0 [(0, .ref x), (1, .ref a), (2, .int b)] [] B _
  generalize elv : ([(0, .ref x), (1, .ref a), (2, .int b)] : tm_L) = lv
  have l0 : lv.lookup 0 = some (.ref x) := by rw [← elv]; rfl
  have l1 : lv.lookup 1 = some (.ref a) := by rw [← elv]; rfl
  have l2 : lv.lookup 2 = some (.int b) := by rw [← elv]; rfl
  clear elv
  refine g_k1 (v := 0) (pc' := 1) cd_De_takeOnce rfl (by decide) rfl ?_
  refine g_ist (pc' := 2) cd_De_takeOnce rfl (Or.inr ⟨_, rfl, rfl, rfl⟩) (by decide) rfl (fun lv el => ?_)
  have l0 := tm_lk el l0 rfl (by decide)
  have l1 := tm_lk el l1 rfl (by decide)
  have l2 := tm_lk el l2 rfl (by decide)
  have l3 : lv.lookup 3 = some (.int 0) := tm_lks el
  clear el
  refine g_ild (pc' := 3) cd_De_takeOnce rfl (Or.inr ⟨_, rfl, rfl, rfl⟩) l3 rfl ?_
  refine g_ald (pc' := 4) cd_De_takeOnce rfl (Or.inr ⟨_, rfl, rfl, rfl⟩) l0 rfl rfl ?_
  refine g_fI (c := 0) (k := 7) (x := 1) (pc' := 7) cd_De_takeOnce rfl rfl rfl rfl rfl (by decide) hR.1.1.1 hR.1.1.2 hR.2.2.2.1.1.1 ?_
  refine g_if2 (t := 97) (pc' := 10) cd_De_takeOnce rfl rfl rfl (fun c7 => ?_) (fun c7 => ?_)
  · exact absurd (show (1 : Int32) ≤ 0 from c7) (by decide)
  · have c7 : ¬ (1 : Int32) ≤ 0 := c7
    refine g_ald (pc' := 11) cd_De_takeOnce rfl (Or.inr ⟨_, rfl, rfl, rfl⟩) l0 rfl rfl ?_
    refine g_fR (c := 0) (k := 1) (x := (x + 6)) (pc' := 14) cd_De_takeOnce rfl rfl rfl rfl rfl (by decide) hR.1.1.1 hR.1.1.2 hR.1.2.1.2.1 ?_
    refine g_ild (pc' := 15) cd_De_takeOnce rfl (Or.inr ⟨_, rfl, rfl, rfl⟩) l3 rfl ?_
    refine g_aI (x := (bm_AI B (x + 6) 0)) (pc' := 16) cd_De_takeOnce rfl rfl hR.1.2.2.2.1.1 hR.1.2.2.2.1.2.1 (by rw [show bm_AL B (x + 6) = 4 from hR.1.2.2.2.1.2.2]; exact vp_in_nI (n := 0) (by decide) (by decide)) (show bm_AI B (x + 6) 0 = (bm_AI B (x + 6) 0) from congrFun (show bm_AI B (x + 6) = (bm_AI B (x + 6)) from rfl) 0) ?_
    refine g_ist (pc' := 18) cd_De_takeOnce rfl (Or.inl ⟨rfl, rfl⟩) (by decide) rfl (fun lv el => ?_)
    have l0 := tm_lk el l0 rfl (by decide)
    have l1 := tm_lk el l1 rfl (by decide)
    have l2 := tm_lk el l2 rfl (by decide)
    have l3 := tm_lk el l3 rfl (by decide)
    have l4 : lv.lookup 4 = some (.int ((bm_AI B (x + 6) 0))) := tm_lks el
    clear el
    refine g_ald (pc' := 19) cd_De_takeOnce rfl (Or.inr ⟨_, rfl, rfl, rfl⟩) l1 rfl rfl ?_
    refine g_ild (pc' := 21) cd_De_takeOnce rfl (Or.inl ⟨rfl, rfl⟩) l4 rfl ?_
    refine g_calli (pc' := 24) cd_De_takeOnce rfl rfl rfl rfl rfl (tm_invV rfl rfl cd_Te_publicOf rfl (Nat.le_of_ble_eq_true rfl) (by decide) hT.1.1.1 hT.1.1.2) (t_publicOf hT g0.1 (fun r1 ht1 => ?_))
    rw [if_pos (hk _ (List.mem_of_getElem? (i := 0) rfl))] at ht1
    show bm_G _ _ _ 24 _ [.int r1] B _
    refine g_ild (pc' := 25) cd_De_takeOnce rfl (Or.inr ⟨_, rfl, rfl, rfl⟩) l2 rfl ?_
    refine g_if2 (t := 91) (pc' := 28) cd_De_takeOnce rfl rfl rfl (fun c25 => ?_) (fun c25 => ?_)
    · have c25 : ¬ r1 = b := c25
      have n0 := c25
      have hp0 := ht1
      refine g_inc (y := 1) (pc' := 94) cd_De_takeOnce rfl l3 (by decide) (by decide) rfl (fun lv el => ?_)
      have l0 := tm_lk el l0 rfl (by decide)
      have l1 := tm_lk el l1 rfl (by decide)
      have l2 := tm_lk el l2 rfl (by decide)
      have l4 := tm_lk el l4 rfl (by decide)
      have l3 : lv.lookup 3 = some (.int 1) := tm_lks el
      clear el
      refine g_pure (pc' := 2) (st' := []) cd_De_takeOnce rfl rfl (fun _ _ => rfl) ?_
      refine g_ild (pc' := 3) cd_De_takeOnce rfl (Or.inr ⟨_, rfl, rfl, rfl⟩) l3 rfl ?_
      refine g_ald (pc' := 4) cd_De_takeOnce rfl (Or.inr ⟨_, rfl, rfl, rfl⟩) l0 rfl rfl ?_
      refine g_fI (c := 0) (k := 7) (x := 1) (pc' := 7) cd_De_takeOnce rfl rfl rfl rfl rfl (by decide) hR.1.1.1 hR.1.1.2 hR.2.2.2.1.1.1 ?_
      refine g_if2 (t := 97) (pc' := 10) cd_De_takeOnce rfl rfl rfl (fun c7 => ?_) (fun c7 => ?_)
      · have c7 : (1 : Int32) ≤ 1 := c7
        refine g_k1 (v := 0) (pc' := 98) cd_De_takeOnce rfl (by decide) rfl ?_
        exact g_reti cd_De_takeOnce rfl ⟨_, rfl, (kk0 (all1 (P := fun e : Tm × Int32 => Tpub e.1 ≠ A) (fun q => n0 ((TI_eq hT hp0 hb).mpr q))))⟩
      · exact absurd (show ¬ (1 : Int32) ≤ 1 from c7) (by decide)
    · have c25 : r1 = b := Classical.not_not.mp c25
      have n0 := c25
      have hp0 := ht1
      refine g_ald (pc' := 29) cd_De_takeOnce rfl (Or.inr ⟨_, rfl, rfl, rfl⟩) l0 rfl rfl ?_
      refine g_pure (pc' := 30) (st' := [.ref x, .ref x]) cd_De_takeOnce rfl rfl (fun _ _ => rfl) ?_
      refine g_fI (c := 0) (k := 7) (x := 1) (pc' := 33) cd_De_takeOnce rfl rfl rfl rfl rfl (by decide) hR.1.1.1 hR.1.1.2 hR.2.2.2.1.1.1 ?_
      refine g_k1 (v := 1) (pc' := 34) cd_De_takeOnce rfl (by decide) rfl ?_
      refine g_pure (pc' := 35) (st' := [.int (1 - 1), .ref x]) cd_De_takeOnce rfl rfl (fun _ _ => rfl) ?_
      rw [show (1 - 1 : Int32) = 0 from by decide]
      refine g_putI (c := 0) (k := 7) (pc' := 38) cd_De_takeOnce rfl rfl rfl rfl (by simp [tm_okV, narrow, fits]) (Or.inl rfl) rfl (by decide) hR.1.1.1 hR.1.1.2 ?_
      have P2 : bm_FI (bm_putI B 0 7 x 0) 0 7 x = 0 := if_pos ⟨rfl, rfl, rfl⟩
      have Z3 : fz (fun y => y = x ∨ y = x + 6 ∨ y = x + 7) B (bm_putI B 0 7 x 0) := fz_trans (fz_rfl _ B) ⟨fr_mono (fun _ q => Or.inl q) (fr_putI _ 0 7 x _), rfl, rfl⟩
      refine g_ild (pc' := 39) cd_De_takeOnce rfl (Or.inr ⟨_, rfl, rfl, rfl⟩) l3 rfl ?_
      refine g_ist (pc' := 41) cd_De_takeOnce rfl (Or.inl ⟨rfl, rfl⟩) (by decide) rfl (fun lv el => ?_)
      have l0 := tm_lk el l0 rfl (by decide)
      have l1 := tm_lk el l1 rfl (by decide)
      have l2 := tm_lk el l2 rfl (by decide)
      have l3 := tm_lk el l3 rfl (by decide)
      have l4 := tm_lk el l4 rfl (by decide)
      have l5 : lv.lookup 5 = some (.int 0) := tm_lks el
      clear el
      refine g_ild (pc' := 43) cd_De_takeOnce rfl (Or.inl ⟨rfl, rfl⟩) l5 rfl ?_
      refine g_ald (pc' := 44) cd_De_takeOnce rfl (Or.inr ⟨_, rfl, rfl, rfl⟩) l0 rfl rfl ?_
      refine g_fI (c := 0) (k := 7) (x := 0) (pc' := 47) cd_De_takeOnce rfl rfl rfl rfl rfl (by decide) hR.1.1.1 hR.1.1.2 P2 ?_
      refine g_if2 (t := 88) (pc' := 50) cd_De_takeOnce rfl rfl rfl (fun c47 => ?_) (fun c47 => ?_)
      · have c47 : (0 : Int32) ≤ 0 := c47
        refine g_ild (pc' := 90) cd_De_takeOnce rfl (Or.inl ⟨rfl, rfl⟩) l4 rfl ?_
        have hA6 : bm_AI (bm_putI B 0 7 x 0) (x + 6) = (bm_AI B (x + 6)) := rfl
        have hA7 : bm_AI (bm_putI B 0 7 x 0) (x + 7) = (bm_AI B (x + 7)) := rfl
        have hO : ROn (bm_putI B 0 7 x 0) T x ([] : List (Tm × Int32)) := ⟨⟨P2, by simp⟩, by rw [hA6, hA7]; exact ix0 (P := fun (k : Nat) (e : Tm × Int32) => tv T ((bm_AI B (x + 6)) k) e.1 ∧ (bm_AI B (x + 7)) k = e.2)⟩
        exact g_reti cd_De_takeOnce rfl ⟨_, rfl, (kk1 0 e0 _ _ rfl ((TI_eq hT hp0 hb).mp n0) (fun j e h => absurd h (Nat.not_lt_zero _)) g0.1 (RDe_top hR Z3.1 (fun y a b c e f => by omega) (List.prefix_refl T) hR.2.1 hO) Z3)⟩
      · exact absurd (show ¬ (0 : Int32) ≤ 0 from c47) (by decide)
theorem t_takeOnce2 {sc : tm_X} {d a ca ba da rm dr x : Nat} {B : bm_H} {T : List Tm} {w : SW} {id : Tm} {K0 K1 : PK} {ln : Int32} {se : Nat → List SS} {me : Nat → MM} {e0 e1 : Tm × Int32} {b : Int32} {A : Tm} {Q : Int32 → bm_H → Prop} (hT : TI B a ca ba da rm dr T) (hR : RDe B T x w (id, K0, K1, [e0, e1], ln, se, me)) (hb : tv T b A) (hk : ∀ e, e ∈ ([e0, e1] : List (Tm × Int32)) → kd e.1 = 1) (kk0 : (∀ (k : Nat) (e : Tm × Int32), ([e0, e1] : List (Tm × Int32))[k]? = some e → Tpub e.1 ≠ A) → Q 0 B) (kk1 : ∀ i e B' r, ([e0, e1] : List (Tm × Int32))[i]? = some e → Tpub e.1 = A → (∀ (j : Nat) (e' : Tm × Int32), j < i → ([e0, e1] : List (Tm × Int32))[j]? = some e' → Tpub e'.1 ≠ A) → tv T r e.1 → RDe B' T x w (id, K0, K1, ([e0, e1] : List (Tm × Int32)).eraseIdx i, ln, se, me) → fz (fun y => y = x ∨ y = x + 6 ∨ y = x + 7) B B' → Q r B') : bm_Gi sc (d + 2) 111 [.ref x, .ref a, .int b] B Q := by
  have g0 := hR.2.2.2.1.2 0 e0 rfl
  have g1 := hR.2.2.2.1.2 1 e1 rfl
  show bm_G sc (d + 2) 111 0 [(0, .ref x), (1, .ref a), (2, .int b)] [] B _
  generalize elv : ([(0, .ref x), (1, .ref a), (2, .int b)] : tm_L) = lv
  have l0 : lv.lookup 0 = some (.ref x) := by rw [← elv]; rfl
  have l1 : lv.lookup 1 = some (.ref a) := by rw [← elv]; rfl
  have l2 : lv.lookup 2 = some (.int b) := by rw [← elv]; rfl
  clear elv
  refine g_k1 (v := 0) (pc' := 1) cd_De_takeOnce rfl (by decide) rfl ?_
  refine g_ist (pc' := 2) cd_De_takeOnce rfl (Or.inr ⟨_, rfl, rfl, rfl⟩) (by decide) rfl (fun lv el => ?_)
  have l0 := tm_lk el l0 rfl (by decide)
  have l1 := tm_lk el l1 rfl (by decide)
  have l2 := tm_lk el l2 rfl (by decide)
  have l3 : lv.lookup 3 = some (.int 0) := tm_lks el
  clear el
  refine g_ild (pc' := 3) cd_De_takeOnce rfl (Or.inr ⟨_, rfl, rfl, rfl⟩) l3 rfl ?_
  refine g_ald (pc' := 4) cd_De_takeOnce rfl (Or.inr ⟨_, rfl, rfl, rfl⟩) l0 rfl rfl ?_
  refine g_fI (c := 0) (k := 7) (x := 2) (pc' := 7) cd_De_takeOnce rfl rfl rfl rfl rfl (by decide) hR.1.1.1 hR.1.1.2 hR.2.2.2.1.1.1 ?_
  refine g_if2 (t := 97) (pc' := 10) cd_De_takeOnce rfl rfl rfl (fun c7 => ?_) (fun c7 => ?_)
  · exact absurd (show (2 : Int32) ≤ 0 from c7) (by decide)
  · have c7 : ¬ (2 : Int32) ≤ 0 := c7
    refine g_ald (pc' := 11) cd_De_takeOnce rfl (Or.inr ⟨_, rfl, rfl, rfl⟩) l0 rfl rfl ?_
    refine g_fR (c := 0) (k := 1) (x := (x + 6)) (pc' := 14) cd_De_takeOnce rfl rfl rfl rfl rfl (by decide) hR.1.1.1 hR.1.1.2 hR.1.2.1.2.1 ?_
    refine g_ild (pc' := 15) cd_De_takeOnce rfl (Or.inr ⟨_, rfl, rfl, rfl⟩) l3 rfl ?_
    refine g_aI (x := (bm_AI B (x + 6) 0)) (pc' := 16) cd_De_takeOnce rfl rfl hR.1.2.2.2.1.1 hR.1.2.2.2.1.2.1 (by rw [show bm_AL B (x + 6) = 4 from hR.1.2.2.2.1.2.2]; exact vp_in_nI (n := 0) (by decide) (by decide)) (show bm_AI B (x + 6) 0 = (bm_AI B (x + 6) 0) from congrFun (show bm_AI B (x + 6) = (bm_AI B (x + 6)) from rfl) 0) ?_
    refine g_ist (pc' := 18) cd_De_takeOnce rfl (Or.inl ⟨rfl, rfl⟩) (by decide) rfl (fun lv el => ?_)
    have l0 := tm_lk el l0 rfl (by decide)
    have l1 := tm_lk el l1 rfl (by decide)
    have l2 := tm_lk el l2 rfl (by decide)
    have l3 := tm_lk el l3 rfl (by decide)
    have l4 : lv.lookup 4 = some (.int ((bm_AI B (x + 6) 0))) := tm_lks el
    clear el
    refine g_ald (pc' := 19) cd_De_takeOnce rfl (Or.inr ⟨_, rfl, rfl, rfl⟩) l1 rfl rfl ?_
    refine g_ild (pc' := 21) cd_De_takeOnce rfl (Or.inl ⟨rfl, rfl⟩) l4 rfl ?_
    refine g_calli (pc' := 24) cd_De_takeOnce rfl rfl rfl rfl rfl (tm_invV rfl rfl cd_Te_publicOf rfl (Nat.le_of_ble_eq_true rfl) (by decide) hT.1.1.1 hT.1.1.2) (t_publicOf hT g0.1 (fun r4 ht4 => ?_))
    rw [if_pos (hk _ (List.mem_of_getElem? (i := 0) rfl))] at ht4
    show bm_G _ _ _ 24 _ [.int r4] B _
    refine g_ild (pc' := 25) cd_De_takeOnce rfl (Or.inr ⟨_, rfl, rfl, rfl⟩) l2 rfl ?_
    refine g_if2 (t := 91) (pc' := 28) cd_De_takeOnce rfl rfl rfl (fun c25 => ?_) (fun c25 => ?_)
    · have c25 : ¬ r4 = b := c25
      have n0 := c25
      have hp0 := ht4
      refine g_inc (y := 1) (pc' := 94) cd_De_takeOnce rfl l3 (by decide) (by decide) rfl (fun lv el => ?_)
      have l0 := tm_lk el l0 rfl (by decide)
      have l1 := tm_lk el l1 rfl (by decide)
      have l2 := tm_lk el l2 rfl (by decide)
      have l4 := tm_lk el l4 rfl (by decide)
      have l3 : lv.lookup 3 = some (.int 1) := tm_lks el
      clear el
      refine g_pure (pc' := 2) (st' := []) cd_De_takeOnce rfl rfl (fun _ _ => rfl) ?_
      refine g_ild (pc' := 3) cd_De_takeOnce rfl (Or.inr ⟨_, rfl, rfl, rfl⟩) l3 rfl ?_
      refine g_ald (pc' := 4) cd_De_takeOnce rfl (Or.inr ⟨_, rfl, rfl, rfl⟩) l0 rfl rfl ?_
      refine g_fI (c := 0) (k := 7) (x := 2) (pc' := 7) cd_De_takeOnce rfl rfl rfl rfl rfl (by decide) hR.1.1.1 hR.1.1.2 hR.2.2.2.1.1.1 ?_
      refine g_if2 (t := 97) (pc' := 10) cd_De_takeOnce rfl rfl rfl (fun c7 => ?_) (fun c7 => ?_)
      · exact absurd (show (2 : Int32) ≤ 1 from c7) (by decide)
      · have c7 : ¬ (2 : Int32) ≤ 1 := c7
        refine g_ald (pc' := 11) cd_De_takeOnce rfl (Or.inr ⟨_, rfl, rfl, rfl⟩) l0 rfl rfl ?_
        refine g_fR (c := 0) (k := 1) (x := (x + 6)) (pc' := 14) cd_De_takeOnce rfl rfl rfl rfl rfl (by decide) hR.1.1.1 hR.1.1.2 hR.1.2.1.2.1 ?_
        refine g_ild (pc' := 15) cd_De_takeOnce rfl (Or.inr ⟨_, rfl, rfl, rfl⟩) l3 rfl ?_
        refine g_aI (x := (bm_AI B (x + 6) 1)) (pc' := 16) cd_De_takeOnce rfl rfl hR.1.2.2.2.1.1 hR.1.2.2.2.1.2.1 (by rw [show bm_AL B (x + 6) = 4 from hR.1.2.2.2.1.2.2]; exact vp_in_nI (n := 1) (by decide) (by decide)) (show bm_AI B (x + 6) 1 = (bm_AI B (x + 6) 1) from congrFun (show bm_AI B (x + 6) = (bm_AI B (x + 6)) from rfl) 1) ?_
        refine g_ist (pc' := 18) cd_De_takeOnce rfl (Or.inl ⟨rfl, rfl⟩) (by decide) rfl (fun lv el => ?_)
        have l0 := tm_lk el l0 rfl (by decide)
        have l1 := tm_lk el l1 rfl (by decide)
        have l2 := tm_lk el l2 rfl (by decide)
        have l3 := tm_lk el l3 rfl (by decide)
        have l4 : lv.lookup 4 = some (.int ((bm_AI B (x + 6) 1))) := tm_lks el
        clear el
        refine g_ald (pc' := 19) cd_De_takeOnce rfl (Or.inr ⟨_, rfl, rfl, rfl⟩) l1 rfl rfl ?_
        refine g_ild (pc' := 21) cd_De_takeOnce rfl (Or.inl ⟨rfl, rfl⟩) l4 rfl ?_
        refine g_calli (pc' := 24) cd_De_takeOnce rfl rfl rfl rfl rfl (tm_invV rfl rfl cd_Te_publicOf rfl (Nat.le_of_ble_eq_true rfl) (by decide) hT.1.1.1 hT.1.1.2) (t_publicOf hT g1.1 (fun r5 ht5 => ?_))
        rw [if_pos (hk _ (List.mem_of_getElem? (i := 1) rfl))] at ht5
        show bm_G _ _ _ 24 _ [.int r5] B _
        refine g_ild (pc' := 25) cd_De_takeOnce rfl (Or.inr ⟨_, rfl, rfl, rfl⟩) l2 rfl ?_
        refine g_if2 (t := 91) (pc' := 28) cd_De_takeOnce rfl rfl rfl (fun c25 => ?_) (fun c25 => ?_)
        · have c25 : ¬ r5 = b := c25
          have n1 := c25
          have hp1 := ht5
          refine g_inc (y := 2) (pc' := 94) cd_De_takeOnce rfl l3 (by decide) (by decide) rfl (fun lv el => ?_)
          have l0 := tm_lk el l0 rfl (by decide)
          have l1 := tm_lk el l1 rfl (by decide)
          have l2 := tm_lk el l2 rfl (by decide)
          have l4 := tm_lk el l4 rfl (by decide)
          have l3 : lv.lookup 3 = some (.int 2) := tm_lks el
          clear el
          refine g_pure (pc' := 2) (st' := []) cd_De_takeOnce rfl rfl (fun _ _ => rfl) ?_
          refine g_ild (pc' := 3) cd_De_takeOnce rfl (Or.inr ⟨_, rfl, rfl, rfl⟩) l3 rfl ?_
          refine g_ald (pc' := 4) cd_De_takeOnce rfl (Or.inr ⟨_, rfl, rfl, rfl⟩) l0 rfl rfl ?_
          refine g_fI (c := 0) (k := 7) (x := 2) (pc' := 7) cd_De_takeOnce rfl rfl rfl rfl rfl (by decide) hR.1.1.1 hR.1.1.2 hR.2.2.2.1.1.1 ?_
          refine g_if2 (t := 97) (pc' := 10) cd_De_takeOnce rfl rfl rfl (fun c7 => ?_) (fun c7 => ?_)
          · have c7 : (2 : Int32) ≤ 2 := c7
            refine g_k1 (v := 0) (pc' := 98) cd_De_takeOnce rfl (by decide) rfl ?_
            exact g_reti cd_De_takeOnce rfl ⟨_, rfl, (kk0 (all2 (P := fun e : Tm × Int32 => Tpub e.1 ≠ A) (fun q => n0 ((TI_eq hT hp0 hb).mpr q)) (fun q => n1 ((TI_eq hT hp1 hb).mpr q))))⟩
          · exact absurd (show ¬ (2 : Int32) ≤ 2 from c7) (by decide)
        · have c25 : r5 = b := Classical.not_not.mp c25
          have n1 := c25
          have hp1 := ht5
          refine g_ald (pc' := 29) cd_De_takeOnce rfl (Or.inr ⟨_, rfl, rfl, rfl⟩) l0 rfl rfl ?_
          refine g_pure (pc' := 30) (st' := [.ref x, .ref x]) cd_De_takeOnce rfl rfl (fun _ _ => rfl) ?_
          refine g_fI (c := 0) (k := 7) (x := 2) (pc' := 33) cd_De_takeOnce rfl rfl rfl rfl rfl (by decide) hR.1.1.1 hR.1.1.2 hR.2.2.2.1.1.1 ?_
          refine g_k1 (v := 1) (pc' := 34) cd_De_takeOnce rfl (by decide) rfl ?_
          refine g_pure (pc' := 35) (st' := [.int (2 - 1), .ref x]) cd_De_takeOnce rfl rfl (fun _ _ => rfl) ?_
          rw [show (2 - 1 : Int32) = 1 from by decide]
          refine g_putI (c := 0) (k := 7) (pc' := 38) cd_De_takeOnce rfl rfl rfl rfl (by simp [tm_okV, narrow, fits]) (Or.inl rfl) rfl (by decide) hR.1.1.1 hR.1.1.2 ?_
          have P6 : bm_FI (bm_putI B 0 7 x 1) 0 7 x = 1 := if_pos ⟨rfl, rfl, rfl⟩
          have Z7 : fz (fun y => y = x ∨ y = x + 6 ∨ y = x + 7) B (bm_putI B 0 7 x 1) := fz_trans (fz_rfl _ B) ⟨fr_mono (fun _ q => Or.inl q) (fr_putI _ 0 7 x _), rfl, rfl⟩
          refine g_ild (pc' := 39) cd_De_takeOnce rfl (Or.inr ⟨_, rfl, rfl, rfl⟩) l3 rfl ?_
          refine g_ist (pc' := 41) cd_De_takeOnce rfl (Or.inl ⟨rfl, rfl⟩) (by decide) rfl (fun lv el => ?_)
          have l0 := tm_lk el l0 rfl (by decide)
          have l1 := tm_lk el l1 rfl (by decide)
          have l2 := tm_lk el l2 rfl (by decide)
          have l3 := tm_lk el l3 rfl (by decide)
          have l4 := tm_lk el l4 rfl (by decide)
          have l5 : lv.lookup 5 = some (.int 1) := tm_lks el
          clear el
          refine g_ild (pc' := 43) cd_De_takeOnce rfl (Or.inl ⟨rfl, rfl⟩) l5 rfl ?_
          refine g_ald (pc' := 44) cd_De_takeOnce rfl (Or.inr ⟨_, rfl, rfl, rfl⟩) l0 rfl rfl ?_
          refine g_fI (c := 0) (k := 7) (x := 1) (pc' := 47) cd_De_takeOnce rfl rfl rfl rfl rfl (by decide) hR.1.1.1 hR.1.1.2 P6 ?_
          refine g_if2 (t := 88) (pc' := 50) cd_De_takeOnce rfl rfl rfl (fun c47 => ?_) (fun c47 => ?_)
          · have c47 : (1 : Int32) ≤ 1 := c47
            refine g_ild (pc' := 90) cd_De_takeOnce rfl (Or.inl ⟨rfl, rfl⟩) l4 rfl ?_
            have hA6 : bm_AI (bm_putI B 0 7 x 1) (x + 6) = (bm_AI B (x + 6)) := rfl
            have hA7 : bm_AI (bm_putI B 0 7 x 1) (x + 7) = (bm_AI B (x + 7)) := rfl
            have hO : ROn (bm_putI B 0 7 x 1) T x ([e0] : List (Tm × Int32)) := ⟨⟨P6, by simp⟩, by rw [hA6, hA7]; exact ix1 (P := fun (k : Nat) (e : Tm × Int32) => tv T ((bm_AI B (x + 6)) k) e.1 ∧ (bm_AI B (x + 7)) k = e.2) g0⟩
            exact g_reti cd_De_takeOnce rfl ⟨_, rfl, (kk1 1 e1 _ _ rfl ((TI_eq hT hp1 hb).mp n1) (fun j e h hj => all1 (P := fun e : Tm × Int32 => Tpub e.1 ≠ A) (fun q => n0 ((TI_eq hT hp0 hb).mpr q)) j e (by rw [← hj]; rcases j with _ | j; all_goals first | rfl | omega)) g1.1 (RDe_top hR Z7.1 (fun y a b c e f => by omega) (List.prefix_refl T) hR.2.1 hO) Z7)⟩
          · exact absurd (show ¬ (1 : Int32) ≤ 1 from c47) (by decide)
    · have c25 : r4 = b := Classical.not_not.mp c25
      have n0 := c25
      have hp0 := ht4
      refine g_ald (pc' := 29) cd_De_takeOnce rfl (Or.inr ⟨_, rfl, rfl, rfl⟩) l0 rfl rfl ?_
      refine g_pure (pc' := 30) (st' := [.ref x, .ref x]) cd_De_takeOnce rfl rfl (fun _ _ => rfl) ?_
      refine g_fI (c := 0) (k := 7) (x := 2) (pc' := 33) cd_De_takeOnce rfl rfl rfl rfl rfl (by decide) hR.1.1.1 hR.1.1.2 hR.2.2.2.1.1.1 ?_
      refine g_k1 (v := 1) (pc' := 34) cd_De_takeOnce rfl (by decide) rfl ?_
      refine g_pure (pc' := 35) (st' := [.int (2 - 1), .ref x]) cd_De_takeOnce rfl rfl (fun _ _ => rfl) ?_
      rw [show (2 - 1 : Int32) = 1 from by decide]
      refine g_putI (c := 0) (k := 7) (pc' := 38) cd_De_takeOnce rfl rfl rfl rfl (by simp [tm_okV, narrow, fits]) (Or.inl rfl) rfl (by decide) hR.1.1.1 hR.1.1.2 ?_
      have P8 : bm_FI (bm_putI B 0 7 x 1) 0 7 x = 1 := if_pos ⟨rfl, rfl, rfl⟩
      have Z9 : fz (fun y => y = x ∨ y = x + 6 ∨ y = x + 7) B (bm_putI B 0 7 x 1) := fz_trans (fz_rfl _ B) ⟨fr_mono (fun _ q => Or.inl q) (fr_putI _ 0 7 x _), rfl, rfl⟩
      refine g_ild (pc' := 39) cd_De_takeOnce rfl (Or.inr ⟨_, rfl, rfl, rfl⟩) l3 rfl ?_
      refine g_ist (pc' := 41) cd_De_takeOnce rfl (Or.inl ⟨rfl, rfl⟩) (by decide) rfl (fun lv el => ?_)
      have l0 := tm_lk el l0 rfl (by decide)
      have l1 := tm_lk el l1 rfl (by decide)
      have l2 := tm_lk el l2 rfl (by decide)
      have l3 := tm_lk el l3 rfl (by decide)
      have l4 := tm_lk el l4 rfl (by decide)
      have l5 : lv.lookup 5 = some (.int 0) := tm_lks el
      clear el
      refine g_ild (pc' := 43) cd_De_takeOnce rfl (Or.inl ⟨rfl, rfl⟩) l5 rfl ?_
      refine g_ald (pc' := 44) cd_De_takeOnce rfl (Or.inr ⟨_, rfl, rfl, rfl⟩) l0 rfl rfl ?_
      refine g_fI (c := 0) (k := 7) (x := 1) (pc' := 47) cd_De_takeOnce rfl rfl rfl rfl rfl (by decide) hR.1.1.1 hR.1.1.2 P8 ?_
      refine g_if2 (t := 88) (pc' := 50) cd_De_takeOnce rfl rfl rfl (fun c47 => ?_) (fun c47 => ?_)
      · exact absurd (show (1 : Int32) ≤ 0 from c47) (by decide)
      · have c47 : ¬ (1 : Int32) ≤ 0 := c47
        refine g_ald (pc' := 51) cd_De_takeOnce rfl (Or.inr ⟨_, rfl, rfl, rfl⟩) l0 rfl rfl ?_
        refine g_fR (c := 0) (k := 1) (x := (x + 6)) (pc' := 54) cd_De_takeOnce rfl rfl rfl rfl rfl (by decide) hR.1.1.1 hR.1.1.2 hR.1.2.1.2.1 ?_
        refine g_ild (pc' := 56) cd_De_takeOnce rfl (Or.inl ⟨rfl, rfl⟩) l5 rfl ?_
        refine g_ald (pc' := 57) cd_De_takeOnce rfl (Or.inr ⟨_, rfl, rfl, rfl⟩) l0 rfl rfl ?_
        refine g_fR (c := 0) (k := 1) (x := (x + 6)) (pc' := 60) cd_De_takeOnce rfl rfl rfl rfl rfl (by decide) hR.1.1.1 hR.1.1.2 hR.1.2.1.2.1 ?_
        refine g_ild (pc' := 62) cd_De_takeOnce rfl (Or.inl ⟨rfl, rfl⟩) l5 rfl ?_
        refine g_k1 (v := 1) (pc' := 63) cd_De_takeOnce rfl (by decide) rfl ?_
        refine g_pure (pc' := 64) (st' := [.int (0 + 1), .ref ((x + 6)), .int 0, .ref ((x + 6))]) cd_De_takeOnce rfl rfl (fun _ _ => rfl) ?_
        rw [show (0 + 1 : Int32) = 1 from by decide]
        refine g_aI (x := (bm_AI B (x + 6) 1)) (pc' := 65) cd_De_takeOnce rfl rfl hR.1.2.2.2.1.1 hR.1.2.2.2.1.2.1 (by rw [show bm_AL (bm_putI B 0 7 x 1) (x + 6) = 4 from hR.1.2.2.2.1.2.2]; exact vp_in_nI (n := 1) (by decide) (by decide)) (show bm_AI (bm_putI B 0 7 x 1) (x + 6) 1 = (bm_AI B (x + 6) 1) from congrFun (show bm_AI (bm_putI B 0 7 x 1) (x + 6) = (bm_AI B (x + 6)) from rfl) 1) ?_
        refine g_iast (pc' := 66) cd_De_takeOnce rfl rfl hR.1.2.2.2.1.1 hR.1.2.2.2.1.2.1 (by rw [show bm_AL (bm_putI B 0 7 x 1) (x + 6) = 4 from hR.1.2.2.2.1.2.2]; exact vp_in_nI (n := 0) (by decide) (by decide)) ?_
        rw [show (0 : Int32).toNatClampNeg = 0 from by decide]
        have A10 : bm_AI (bm_setI (bm_putI B 0 7 x 1) (x + 6) 0 (bm_AI B (x + 6) 1)) (x + 6) = (upd (bm_AI B (x + 6)) 0 (bm_AI B (x + 6) 1)) := ((AI_set (bm_putI B 0 7 x 1) (x + 6) 0 (bm_AI B (x + 6) 1)).trans (congrArg (fun f => upd f 0 (bm_AI B (x + 6) 1)) (show bm_AI (bm_putI B 0 7 x 1) (x + 6) = (bm_AI B (x + 6)) from rfl)))
        have A11 : bm_AI (bm_setI (bm_putI B 0 7 x 1) (x + 6) 0 (bm_AI B (x + 6) 1)) (x + 7) = (bm_AI B (x + 7)) := ((AI_setn (bm_putI B 0 7 x 1) 0 (bm_AI B (x + 6) 1) (x + 7) (by omega)).trans (show bm_AI (bm_putI B 0 7 x 1) (x + 7) = (bm_AI B (x + 7)) from rfl))
        have Z12 : fz (fun y => y = x ∨ y = x + 6 ∨ y = x + 7) B (bm_setI (bm_putI B 0 7 x 1) (x + 6) 0 (bm_AI B (x + 6) 1)) := fz_trans Z9 ⟨fr_mono (fun _ q => Or.inr (Or.inl q)) (fr_setI _ (x + 6) _ _), rfl, rfl⟩
        refine g_ald (pc' := 67) cd_De_takeOnce rfl (Or.inr ⟨_, rfl, rfl, rfl⟩) l0 rfl rfl ?_
        refine g_fR (c := 0) (k := 2) (x := (x + 7)) (pc' := 70) cd_De_takeOnce rfl rfl rfl rfl rfl (by decide) hR.1.1.1 hR.1.1.2 hR.1.2.1.2.2.1 ?_
        refine g_ild (pc' := 72) cd_De_takeOnce rfl (Or.inl ⟨rfl, rfl⟩) l5 rfl ?_
        refine g_ald (pc' := 73) cd_De_takeOnce rfl (Or.inr ⟨_, rfl, rfl, rfl⟩) l0 rfl rfl ?_
        refine g_fR (c := 0) (k := 2) (x := (x + 7)) (pc' := 76) cd_De_takeOnce rfl rfl rfl rfl rfl (by decide) hR.1.1.1 hR.1.1.2 hR.1.2.1.2.2.1 ?_
        refine g_ild (pc' := 78) cd_De_takeOnce rfl (Or.inl ⟨rfl, rfl⟩) l5 rfl ?_
        refine g_k1 (v := 1) (pc' := 79) cd_De_takeOnce rfl (by decide) rfl ?_
        refine g_pure (pc' := 80) (st' := [.int (0 + 1), .ref ((x + 7)), .int 0, .ref ((x + 7))]) cd_De_takeOnce rfl rfl (fun _ _ => rfl) ?_
        rw [show (0 + 1 : Int32) = 1 from by decide]
        refine g_aI (x := (bm_AI B (x + 7) 1)) (pc' := 81) cd_De_takeOnce rfl rfl hR.1.2.2.2.2.1.1 hR.1.2.2.2.2.1.2.1 (by rw [show bm_AL (bm_setI (bm_putI B 0 7 x 1) (x + 6) 0 (bm_AI B (x + 6) 1)) (x + 7) = 4 from hR.1.2.2.2.2.1.2.2]; exact vp_in_nI (n := 1) (by decide) (by decide)) (show bm_AI (bm_setI (bm_putI B 0 7 x 1) (x + 6) 0 (bm_AI B (x + 6) 1)) (x + 7) 1 = (bm_AI B (x + 7) 1) from congrFun (show bm_AI (bm_setI (bm_putI B 0 7 x 1) (x + 6) 0 (bm_AI B (x + 6) 1)) (x + 7) = (bm_AI B (x + 7)) from A11) 1) ?_
        refine g_iast (pc' := 82) cd_De_takeOnce rfl rfl hR.1.2.2.2.2.1.1 hR.1.2.2.2.2.1.2.1 (by rw [show bm_AL (bm_setI (bm_putI B 0 7 x 1) (x + 6) 0 (bm_AI B (x + 6) 1)) (x + 7) = 4 from hR.1.2.2.2.2.1.2.2]; exact vp_in_nI (n := 0) (by decide) (by decide)) ?_
        rw [show (0 : Int32).toNatClampNeg = 0 from by decide]
        have A13 : bm_AI (bm_setI (bm_setI (bm_putI B 0 7 x 1) (x + 6) 0 (bm_AI B (x + 6) 1)) (x + 7) 0 (bm_AI B (x + 7) 1)) (x + 6) = (upd (bm_AI B (x + 6)) 0 (bm_AI B (x + 6) 1)) := ((AI_setn (bm_setI (bm_putI B 0 7 x 1) (x + 6) 0 (bm_AI B (x + 6) 1)) 0 (bm_AI B (x + 7) 1) (x + 6) (by omega)).trans (show bm_AI (bm_setI (bm_putI B 0 7 x 1) (x + 6) 0 (bm_AI B (x + 6) 1)) (x + 6) = (upd (bm_AI B (x + 6)) 0 (bm_AI B (x + 6) 1)) from A10))
        have A14 : bm_AI (bm_setI (bm_setI (bm_putI B 0 7 x 1) (x + 6) 0 (bm_AI B (x + 6) 1)) (x + 7) 0 (bm_AI B (x + 7) 1)) (x + 7) = (upd (bm_AI B (x + 7)) 0 (bm_AI B (x + 7) 1)) := ((AI_set (bm_setI (bm_putI B 0 7 x 1) (x + 6) 0 (bm_AI B (x + 6) 1)) (x + 7) 0 (bm_AI B (x + 7) 1)).trans (congrArg (fun f => upd f 0 (bm_AI B (x + 7) 1)) (show bm_AI (bm_setI (bm_putI B 0 7 x 1) (x + 6) 0 (bm_AI B (x + 6) 1)) (x + 7) = (bm_AI B (x + 7)) from A11)))
        have Z15 : fz (fun y => y = x ∨ y = x + 6 ∨ y = x + 7) B (bm_setI (bm_setI (bm_putI B 0 7 x 1) (x + 6) 0 (bm_AI B (x + 6) 1)) (x + 7) 0 (bm_AI B (x + 7) 1)) := fz_trans Z12 ⟨fr_mono (fun _ q => Or.inr (Or.inr q)) (fr_setI _ (x + 7) _ _), rfl, rfl⟩
        refine g_inc (y := 1) (pc' := 85) cd_De_takeOnce rfl l5 (by decide) (by decide) rfl (fun lv el => ?_)
        have l0 := tm_lk el l0 rfl (by decide)
        have l1 := tm_lk el l1 rfl (by decide)
        have l2 := tm_lk el l2 rfl (by decide)
        have l3 := tm_lk el l3 rfl (by decide)
        have l4 := tm_lk el l4 rfl (by decide)
        have l5 : lv.lookup 5 = some (.int 1) := tm_lks el
        clear el
        refine g_pure (pc' := 41) (st' := []) cd_De_takeOnce rfl rfl (fun _ _ => rfl) ?_
        refine g_ild (pc' := 43) cd_De_takeOnce rfl (Or.inl ⟨rfl, rfl⟩) l5 rfl ?_
        refine g_ald (pc' := 44) cd_De_takeOnce rfl (Or.inr ⟨_, rfl, rfl, rfl⟩) l0 rfl rfl ?_
        refine g_fI (c := 0) (k := 7) (x := 1) (pc' := 47) cd_De_takeOnce rfl rfl rfl rfl rfl (by decide) hR.1.1.1 hR.1.1.2 P8 ?_
        refine g_if2 (t := 88) (pc' := 50) cd_De_takeOnce rfl rfl rfl (fun c47 => ?_) (fun c47 => ?_)
        · have c47 : (1 : Int32) ≤ 1 := c47
          refine g_ild (pc' := 90) cd_De_takeOnce rfl (Or.inl ⟨rfl, rfl⟩) l4 rfl ?_
          have hA6 : bm_AI (bm_setI (bm_setI (bm_putI B 0 7 x 1) (x + 6) 0 (bm_AI B (x + 6) 1)) (x + 7) 0 (bm_AI B (x + 7) 1)) (x + 6) = (upd (bm_AI B (x + 6)) 0 (bm_AI B (x + 6) 1)) := A13
          have hA7 : bm_AI (bm_setI (bm_setI (bm_putI B 0 7 x 1) (x + 6) 0 (bm_AI B (x + 6) 1)) (x + 7) 0 (bm_AI B (x + 7) 1)) (x + 7) = (upd (bm_AI B (x + 7)) 0 (bm_AI B (x + 7) 1)) := A14
          have hO : ROn (bm_setI (bm_setI (bm_putI B 0 7 x 1) (x + 6) 0 (bm_AI B (x + 6) 1)) (x + 7) 0 (bm_AI B (x + 7) 1)) T x ([e1] : List (Tm × Int32)) := ⟨⟨P8, by simp⟩, by rw [hA6, hA7]; exact ix1 (P := fun (k : Nat) (e : Tm × Int32) => tv T ((upd (bm_AI B (x + 6)) 0 (bm_AI B (x + 6) 1)) k) e.1 ∧ (upd (bm_AI B (x + 7)) 0 (bm_AI B (x + 7) 1)) k = e.2) g1⟩
          exact g_reti cd_De_takeOnce rfl ⟨_, rfl, (kk1 0 e0 _ _ rfl ((TI_eq hT hp0 hb).mp n0) (fun j e h => absurd h (Nat.not_lt_zero _)) g0.1 (RDe_top hR Z15.1 (fun y a b c e f => by omega) (List.prefix_refl T) hR.2.1 hO) Z15)⟩
        · exact absurd (show ¬ (1 : Int32) ≤ 1 from c47) (by decide)
theorem t_takeOnce3 {sc : tm_X} {d a ca ba da rm dr x : Nat} {B : bm_H} {T : List Tm} {w : SW} {id : Tm} {K0 K1 : PK} {ln : Int32} {se : Nat → List SS} {me : Nat → MM} {e0 e1 e2 : Tm × Int32} {b : Int32} {A : Tm} {Q : Int32 → bm_H → Prop} (hT : TI B a ca ba da rm dr T) (hR : RDe B T x w (id, K0, K1, [e0, e1, e2], ln, se, me)) (hb : tv T b A) (hk : ∀ e, e ∈ ([e0, e1, e2] : List (Tm × Int32)) → kd e.1 = 1) (kk0 : (∀ (k : Nat) (e : Tm × Int32), ([e0, e1, e2] : List (Tm × Int32))[k]? = some e → Tpub e.1 ≠ A) → Q 0 B) (kk1 : ∀ i e B' r, ([e0, e1, e2] : List (Tm × Int32))[i]? = some e → Tpub e.1 = A → (∀ (j : Nat) (e' : Tm × Int32), j < i → ([e0, e1, e2] : List (Tm × Int32))[j]? = some e' → Tpub e'.1 ≠ A) → tv T r e.1 → RDe B' T x w (id, K0, K1, ([e0, e1, e2] : List (Tm × Int32)).eraseIdx i, ln, se, me) → fz (fun y => y = x ∨ y = x + 6 ∨ y = x + 7) B B' → Q r B') : bm_Gi sc (d + 2) 111 [.ref x, .ref a, .int b] B Q := by
  have g0 := hR.2.2.2.1.2 0 e0 rfl
  have g1 := hR.2.2.2.1.2 1 e1 rfl
  have g2 := hR.2.2.2.1.2 2 e2 rfl
  show bm_G sc (d + 2) 111 0 [(0, .ref x), (1, .ref a), (2, .int b)] [] B _
  generalize elv : ([(0, .ref x), (1, .ref a), (2, .int b)] : tm_L) = lv
  have l0 : lv.lookup 0 = some (.ref x) := by rw [← elv]; rfl
  have l1 : lv.lookup 1 = some (.ref a) := by rw [← elv]; rfl
  have l2 : lv.lookup 2 = some (.int b) := by rw [← elv]; rfl
  clear elv
  refine g_k1 (v := 0) (pc' := 1) cd_De_takeOnce rfl (by decide) rfl ?_
  refine g_ist (pc' := 2) cd_De_takeOnce rfl (Or.inr ⟨_, rfl, rfl, rfl⟩) (by decide) rfl (fun lv el => ?_)
  have l0 := tm_lk el l0 rfl (by decide)
  have l1 := tm_lk el l1 rfl (by decide)
  have l2 := tm_lk el l2 rfl (by decide)
  have l3 : lv.lookup 3 = some (.int 0) := tm_lks el
  clear el
  refine g_ild (pc' := 3) cd_De_takeOnce rfl (Or.inr ⟨_, rfl, rfl, rfl⟩) l3 rfl ?_
  refine g_ald (pc' := 4) cd_De_takeOnce rfl (Or.inr ⟨_, rfl, rfl, rfl⟩) l0 rfl rfl ?_
  refine g_fI (c := 0) (k := 7) (x := 3) (pc' := 7) cd_De_takeOnce rfl rfl rfl rfl rfl (by decide) hR.1.1.1 hR.1.1.2 hR.2.2.2.1.1.1 ?_
  refine g_if2 (t := 97) (pc' := 10) cd_De_takeOnce rfl rfl rfl (fun c7 => ?_) (fun c7 => ?_)
  · exact absurd (show (3 : Int32) ≤ 0 from c7) (by decide)
  · have c7 : ¬ (3 : Int32) ≤ 0 := c7
    refine g_ald (pc' := 11) cd_De_takeOnce rfl (Or.inr ⟨_, rfl, rfl, rfl⟩) l0 rfl rfl ?_
    refine g_fR (c := 0) (k := 1) (x := (x + 6)) (pc' := 14) cd_De_takeOnce rfl rfl rfl rfl rfl (by decide) hR.1.1.1 hR.1.1.2 hR.1.2.1.2.1 ?_
    refine g_ild (pc' := 15) cd_De_takeOnce rfl (Or.inr ⟨_, rfl, rfl, rfl⟩) l3 rfl ?_
    refine g_aI (x := (bm_AI B (x + 6) 0)) (pc' := 16) cd_De_takeOnce rfl rfl hR.1.2.2.2.1.1 hR.1.2.2.2.1.2.1 (by rw [show bm_AL B (x + 6) = 4 from hR.1.2.2.2.1.2.2]; exact vp_in_nI (n := 0) (by decide) (by decide)) (show bm_AI B (x + 6) 0 = (bm_AI B (x + 6) 0) from congrFun (show bm_AI B (x + 6) = (bm_AI B (x + 6)) from rfl) 0) ?_
    refine g_ist (pc' := 18) cd_De_takeOnce rfl (Or.inl ⟨rfl, rfl⟩) (by decide) rfl (fun lv el => ?_)
    have l0 := tm_lk el l0 rfl (by decide)
    have l1 := tm_lk el l1 rfl (by decide)
    have l2 := tm_lk el l2 rfl (by decide)
    have l3 := tm_lk el l3 rfl (by decide)
    have l4 : lv.lookup 4 = some (.int ((bm_AI B (x + 6) 0))) := tm_lks el
    clear el
    refine g_ald (pc' := 19) cd_De_takeOnce rfl (Or.inr ⟨_, rfl, rfl, rfl⟩) l1 rfl rfl ?_
    refine g_ild (pc' := 21) cd_De_takeOnce rfl (Or.inl ⟨rfl, rfl⟩) l4 rfl ?_
    refine g_calli (pc' := 24) cd_De_takeOnce rfl rfl rfl rfl rfl (tm_invV rfl rfl cd_Te_publicOf rfl (Nat.le_of_ble_eq_true rfl) (by decide) hT.1.1.1 hT.1.1.2) (t_publicOf hT g0.1 (fun r16 ht16 => ?_))
    rw [if_pos (hk _ (List.mem_of_getElem? (i := 0) rfl))] at ht16
    show bm_G _ _ _ 24 _ [.int r16] B _
    refine g_ild (pc' := 25) cd_De_takeOnce rfl (Or.inr ⟨_, rfl, rfl, rfl⟩) l2 rfl ?_
    refine g_if2 (t := 91) (pc' := 28) cd_De_takeOnce rfl rfl rfl (fun c25 => ?_) (fun c25 => ?_)
    · have c25 : ¬ r16 = b := c25
      have n0 := c25
      have hp0 := ht16
      refine g_inc (y := 1) (pc' := 94) cd_De_takeOnce rfl l3 (by decide) (by decide) rfl (fun lv el => ?_)
      have l0 := tm_lk el l0 rfl (by decide)
      have l1 := tm_lk el l1 rfl (by decide)
      have l2 := tm_lk el l2 rfl (by decide)
      have l4 := tm_lk el l4 rfl (by decide)
      have l3 : lv.lookup 3 = some (.int 1) := tm_lks el
      clear el
      refine g_pure (pc' := 2) (st' := []) cd_De_takeOnce rfl rfl (fun _ _ => rfl) ?_
      refine g_ild (pc' := 3) cd_De_takeOnce rfl (Or.inr ⟨_, rfl, rfl, rfl⟩) l3 rfl ?_
      refine g_ald (pc' := 4) cd_De_takeOnce rfl (Or.inr ⟨_, rfl, rfl, rfl⟩) l0 rfl rfl ?_
      refine g_fI (c := 0) (k := 7) (x := 3) (pc' := 7) cd_De_takeOnce rfl rfl rfl rfl rfl (by decide) hR.1.1.1 hR.1.1.2 hR.2.2.2.1.1.1 ?_
      refine g_if2 (t := 97) (pc' := 10) cd_De_takeOnce rfl rfl rfl (fun c7 => ?_) (fun c7 => ?_)
      · exact absurd (show (3 : Int32) ≤ 1 from c7) (by decide)
      · have c7 : ¬ (3 : Int32) ≤ 1 := c7
        refine g_ald (pc' := 11) cd_De_takeOnce rfl (Or.inr ⟨_, rfl, rfl, rfl⟩) l0 rfl rfl ?_
        refine g_fR (c := 0) (k := 1) (x := (x + 6)) (pc' := 14) cd_De_takeOnce rfl rfl rfl rfl rfl (by decide) hR.1.1.1 hR.1.1.2 hR.1.2.1.2.1 ?_
        refine g_ild (pc' := 15) cd_De_takeOnce rfl (Or.inr ⟨_, rfl, rfl, rfl⟩) l3 rfl ?_
        refine g_aI (x := (bm_AI B (x + 6) 1)) (pc' := 16) cd_De_takeOnce rfl rfl hR.1.2.2.2.1.1 hR.1.2.2.2.1.2.1 (by rw [show bm_AL B (x + 6) = 4 from hR.1.2.2.2.1.2.2]; exact vp_in_nI (n := 1) (by decide) (by decide)) (show bm_AI B (x + 6) 1 = (bm_AI B (x + 6) 1) from congrFun (show bm_AI B (x + 6) = (bm_AI B (x + 6)) from rfl) 1) ?_
        refine g_ist (pc' := 18) cd_De_takeOnce rfl (Or.inl ⟨rfl, rfl⟩) (by decide) rfl (fun lv el => ?_)
        have l0 := tm_lk el l0 rfl (by decide)
        have l1 := tm_lk el l1 rfl (by decide)
        have l2 := tm_lk el l2 rfl (by decide)
        have l3 := tm_lk el l3 rfl (by decide)
        have l4 : lv.lookup 4 = some (.int ((bm_AI B (x + 6) 1))) := tm_lks el
        clear el
        refine g_ald (pc' := 19) cd_De_takeOnce rfl (Or.inr ⟨_, rfl, rfl, rfl⟩) l1 rfl rfl ?_
        refine g_ild (pc' := 21) cd_De_takeOnce rfl (Or.inl ⟨rfl, rfl⟩) l4 rfl ?_
        refine g_calli (pc' := 24) cd_De_takeOnce rfl rfl rfl rfl rfl (tm_invV rfl rfl cd_Te_publicOf rfl (Nat.le_of_ble_eq_true rfl) (by decide) hT.1.1.1 hT.1.1.2) (t_publicOf hT g1.1 (fun r17 ht17 => ?_))
        rw [if_pos (hk _ (List.mem_of_getElem? (i := 1) rfl))] at ht17
        show bm_G _ _ _ 24 _ [.int r17] B _
        refine g_ild (pc' := 25) cd_De_takeOnce rfl (Or.inr ⟨_, rfl, rfl, rfl⟩) l2 rfl ?_
        refine g_if2 (t := 91) (pc' := 28) cd_De_takeOnce rfl rfl rfl (fun c25 => ?_) (fun c25 => ?_)
        · have c25 : ¬ r17 = b := c25
          have n1 := c25
          have hp1 := ht17
          refine g_inc (y := 2) (pc' := 94) cd_De_takeOnce rfl l3 (by decide) (by decide) rfl (fun lv el => ?_)
          have l0 := tm_lk el l0 rfl (by decide)
          have l1 := tm_lk el l1 rfl (by decide)
          have l2 := tm_lk el l2 rfl (by decide)
          have l4 := tm_lk el l4 rfl (by decide)
          have l3 : lv.lookup 3 = some (.int 2) := tm_lks el
          clear el
          refine g_pure (pc' := 2) (st' := []) cd_De_takeOnce rfl rfl (fun _ _ => rfl) ?_
          refine g_ild (pc' := 3) cd_De_takeOnce rfl (Or.inr ⟨_, rfl, rfl, rfl⟩) l3 rfl ?_
          refine g_ald (pc' := 4) cd_De_takeOnce rfl (Or.inr ⟨_, rfl, rfl, rfl⟩) l0 rfl rfl ?_
          refine g_fI (c := 0) (k := 7) (x := 3) (pc' := 7) cd_De_takeOnce rfl rfl rfl rfl rfl (by decide) hR.1.1.1 hR.1.1.2 hR.2.2.2.1.1.1 ?_
          refine g_if2 (t := 97) (pc' := 10) cd_De_takeOnce rfl rfl rfl (fun c7 => ?_) (fun c7 => ?_)
          · exact absurd (show (3 : Int32) ≤ 2 from c7) (by decide)
          · have c7 : ¬ (3 : Int32) ≤ 2 := c7
            refine g_ald (pc' := 11) cd_De_takeOnce rfl (Or.inr ⟨_, rfl, rfl, rfl⟩) l0 rfl rfl ?_
            refine g_fR (c := 0) (k := 1) (x := (x + 6)) (pc' := 14) cd_De_takeOnce rfl rfl rfl rfl rfl (by decide) hR.1.1.1 hR.1.1.2 hR.1.2.1.2.1 ?_
            refine g_ild (pc' := 15) cd_De_takeOnce rfl (Or.inr ⟨_, rfl, rfl, rfl⟩) l3 rfl ?_
            refine g_aI (x := (bm_AI B (x + 6) 2)) (pc' := 16) cd_De_takeOnce rfl rfl hR.1.2.2.2.1.1 hR.1.2.2.2.1.2.1 (by rw [show bm_AL B (x + 6) = 4 from hR.1.2.2.2.1.2.2]; exact vp_in_nI (n := 2) (by decide) (by decide)) (show bm_AI B (x + 6) 2 = (bm_AI B (x + 6) 2) from congrFun (show bm_AI B (x + 6) = (bm_AI B (x + 6)) from rfl) 2) ?_
            refine g_ist (pc' := 18) cd_De_takeOnce rfl (Or.inl ⟨rfl, rfl⟩) (by decide) rfl (fun lv el => ?_)
            have l0 := tm_lk el l0 rfl (by decide)
            have l1 := tm_lk el l1 rfl (by decide)
            have l2 := tm_lk el l2 rfl (by decide)
            have l3 := tm_lk el l3 rfl (by decide)
            have l4 : lv.lookup 4 = some (.int ((bm_AI B (x + 6) 2))) := tm_lks el
            clear el
            refine g_ald (pc' := 19) cd_De_takeOnce rfl (Or.inr ⟨_, rfl, rfl, rfl⟩) l1 rfl rfl ?_
            refine g_ild (pc' := 21) cd_De_takeOnce rfl (Or.inl ⟨rfl, rfl⟩) l4 rfl ?_
            refine g_calli (pc' := 24) cd_De_takeOnce rfl rfl rfl rfl rfl (tm_invV rfl rfl cd_Te_publicOf rfl (Nat.le_of_ble_eq_true rfl) (by decide) hT.1.1.1 hT.1.1.2) (t_publicOf hT g2.1 (fun r18 ht18 => ?_))
            rw [if_pos (hk _ (List.mem_of_getElem? (i := 2) rfl))] at ht18
            show bm_G _ _ _ 24 _ [.int r18] B _
            refine g_ild (pc' := 25) cd_De_takeOnce rfl (Or.inr ⟨_, rfl, rfl, rfl⟩) l2 rfl ?_
            refine g_if2 (t := 91) (pc' := 28) cd_De_takeOnce rfl rfl rfl (fun c25 => ?_) (fun c25 => ?_)
            · have c25 : ¬ r18 = b := c25
              have n2 := c25
              have hp2 := ht18
              refine g_inc (y := 3) (pc' := 94) cd_De_takeOnce rfl l3 (by decide) (by decide) rfl (fun lv el => ?_)
              have l0 := tm_lk el l0 rfl (by decide)
              have l1 := tm_lk el l1 rfl (by decide)
              have l2 := tm_lk el l2 rfl (by decide)
              have l4 := tm_lk el l4 rfl (by decide)
              have l3 : lv.lookup 3 = some (.int 3) := tm_lks el
              clear el
              refine g_pure (pc' := 2) (st' := []) cd_De_takeOnce rfl rfl (fun _ _ => rfl) ?_
              refine g_ild (pc' := 3) cd_De_takeOnce rfl (Or.inr ⟨_, rfl, rfl, rfl⟩) l3 rfl ?_
              refine g_ald (pc' := 4) cd_De_takeOnce rfl (Or.inr ⟨_, rfl, rfl, rfl⟩) l0 rfl rfl ?_
              refine g_fI (c := 0) (k := 7) (x := 3) (pc' := 7) cd_De_takeOnce rfl rfl rfl rfl rfl (by decide) hR.1.1.1 hR.1.1.2 hR.2.2.2.1.1.1 ?_
              refine g_if2 (t := 97) (pc' := 10) cd_De_takeOnce rfl rfl rfl (fun c7 => ?_) (fun c7 => ?_)
              · have c7 : (3 : Int32) ≤ 3 := c7
                refine g_k1 (v := 0) (pc' := 98) cd_De_takeOnce rfl (by decide) rfl ?_
                exact g_reti cd_De_takeOnce rfl ⟨_, rfl, (kk0 (all3 (P := fun e : Tm × Int32 => Tpub e.1 ≠ A) (fun q => n0 ((TI_eq hT hp0 hb).mpr q)) (fun q => n1 ((TI_eq hT hp1 hb).mpr q)) (fun q => n2 ((TI_eq hT hp2 hb).mpr q))))⟩
              · exact absurd (show ¬ (3 : Int32) ≤ 3 from c7) (by decide)
            · have c25 : r18 = b := Classical.not_not.mp c25
              have n2 := c25
              have hp2 := ht18
              refine g_ald (pc' := 29) cd_De_takeOnce rfl (Or.inr ⟨_, rfl, rfl, rfl⟩) l0 rfl rfl ?_
              refine g_pure (pc' := 30) (st' := [.ref x, .ref x]) cd_De_takeOnce rfl rfl (fun _ _ => rfl) ?_
              refine g_fI (c := 0) (k := 7) (x := 3) (pc' := 33) cd_De_takeOnce rfl rfl rfl rfl rfl (by decide) hR.1.1.1 hR.1.1.2 hR.2.2.2.1.1.1 ?_
              refine g_k1 (v := 1) (pc' := 34) cd_De_takeOnce rfl (by decide) rfl ?_
              refine g_pure (pc' := 35) (st' := [.int (3 - 1), .ref x]) cd_De_takeOnce rfl rfl (fun _ _ => rfl) ?_
              rw [show (3 - 1 : Int32) = 2 from by decide]
              refine g_putI (c := 0) (k := 7) (pc' := 38) cd_De_takeOnce rfl rfl rfl rfl (by simp [tm_okV, narrow, fits]) (Or.inl rfl) rfl (by decide) hR.1.1.1 hR.1.1.2 ?_
              have P19 : bm_FI (bm_putI B 0 7 x 2) 0 7 x = 2 := if_pos ⟨rfl, rfl, rfl⟩
              have Z20 : fz (fun y => y = x ∨ y = x + 6 ∨ y = x + 7) B (bm_putI B 0 7 x 2) := fz_trans (fz_rfl _ B) ⟨fr_mono (fun _ q => Or.inl q) (fr_putI _ 0 7 x _), rfl, rfl⟩
              refine g_ild (pc' := 39) cd_De_takeOnce rfl (Or.inr ⟨_, rfl, rfl, rfl⟩) l3 rfl ?_
              refine g_ist (pc' := 41) cd_De_takeOnce rfl (Or.inl ⟨rfl, rfl⟩) (by decide) rfl (fun lv el => ?_)
              have l0 := tm_lk el l0 rfl (by decide)
              have l1 := tm_lk el l1 rfl (by decide)
              have l2 := tm_lk el l2 rfl (by decide)
              have l3 := tm_lk el l3 rfl (by decide)
              have l4 := tm_lk el l4 rfl (by decide)
              have l5 : lv.lookup 5 = some (.int 2) := tm_lks el
              clear el
              refine g_ild (pc' := 43) cd_De_takeOnce rfl (Or.inl ⟨rfl, rfl⟩) l5 rfl ?_
              refine g_ald (pc' := 44) cd_De_takeOnce rfl (Or.inr ⟨_, rfl, rfl, rfl⟩) l0 rfl rfl ?_
              refine g_fI (c := 0) (k := 7) (x := 2) (pc' := 47) cd_De_takeOnce rfl rfl rfl rfl rfl (by decide) hR.1.1.1 hR.1.1.2 P19 ?_
              refine g_if2 (t := 88) (pc' := 50) cd_De_takeOnce rfl rfl rfl (fun c47 => ?_) (fun c47 => ?_)
              · have c47 : (2 : Int32) ≤ 2 := c47
                refine g_ild (pc' := 90) cd_De_takeOnce rfl (Or.inl ⟨rfl, rfl⟩) l4 rfl ?_
                have hA6 : bm_AI (bm_putI B 0 7 x 2) (x + 6) = (bm_AI B (x + 6)) := rfl
                have hA7 : bm_AI (bm_putI B 0 7 x 2) (x + 7) = (bm_AI B (x + 7)) := rfl
                have hO : ROn (bm_putI B 0 7 x 2) T x ([e0, e1] : List (Tm × Int32)) := ⟨⟨P19, by simp⟩, by rw [hA6, hA7]; exact ix2 (P := fun (k : Nat) (e : Tm × Int32) => tv T ((bm_AI B (x + 6)) k) e.1 ∧ (bm_AI B (x + 7)) k = e.2) g0 g1⟩
                exact g_reti cd_De_takeOnce rfl ⟨_, rfl, (kk1 2 e2 _ _ rfl ((TI_eq hT hp2 hb).mp n2) (fun j e h hj => all2 (P := fun e : Tm × Int32 => Tpub e.1 ≠ A) (fun q => n0 ((TI_eq hT hp0 hb).mpr q)) (fun q => n1 ((TI_eq hT hp1 hb).mpr q)) j e (by rw [← hj]; rcases j with _ | _ | j; all_goals first | rfl | omega)) g2.1 (RDe_top hR Z20.1 (fun y a b c e f => by omega) (List.prefix_refl T) hR.2.1 hO) Z20)⟩
              · exact absurd (show ¬ (2 : Int32) ≤ 2 from c47) (by decide)
        · have c25 : r17 = b := Classical.not_not.mp c25
          have n1 := c25
          have hp1 := ht17
          refine g_ald (pc' := 29) cd_De_takeOnce rfl (Or.inr ⟨_, rfl, rfl, rfl⟩) l0 rfl rfl ?_
          refine g_pure (pc' := 30) (st' := [.ref x, .ref x]) cd_De_takeOnce rfl rfl (fun _ _ => rfl) ?_
          refine g_fI (c := 0) (k := 7) (x := 3) (pc' := 33) cd_De_takeOnce rfl rfl rfl rfl rfl (by decide) hR.1.1.1 hR.1.1.2 hR.2.2.2.1.1.1 ?_
          refine g_k1 (v := 1) (pc' := 34) cd_De_takeOnce rfl (by decide) rfl ?_
          refine g_pure (pc' := 35) (st' := [.int (3 - 1), .ref x]) cd_De_takeOnce rfl rfl (fun _ _ => rfl) ?_
          rw [show (3 - 1 : Int32) = 2 from by decide]
          refine g_putI (c := 0) (k := 7) (pc' := 38) cd_De_takeOnce rfl rfl rfl rfl (by simp [tm_okV, narrow, fits]) (Or.inl rfl) rfl (by decide) hR.1.1.1 hR.1.1.2 ?_
          have P21 : bm_FI (bm_putI B 0 7 x 2) 0 7 x = 2 := if_pos ⟨rfl, rfl, rfl⟩
          have Z22 : fz (fun y => y = x ∨ y = x + 6 ∨ y = x + 7) B (bm_putI B 0 7 x 2) := fz_trans (fz_rfl _ B) ⟨fr_mono (fun _ q => Or.inl q) (fr_putI _ 0 7 x _), rfl, rfl⟩
          refine g_ild (pc' := 39) cd_De_takeOnce rfl (Or.inr ⟨_, rfl, rfl, rfl⟩) l3 rfl ?_
          refine g_ist (pc' := 41) cd_De_takeOnce rfl (Or.inl ⟨rfl, rfl⟩) (by decide) rfl (fun lv el => ?_)
          have l0 := tm_lk el l0 rfl (by decide)
          have l1 := tm_lk el l1 rfl (by decide)
          have l2 := tm_lk el l2 rfl (by decide)
          have l3 := tm_lk el l3 rfl (by decide)
          have l4 := tm_lk el l4 rfl (by decide)
          have l5 : lv.lookup 5 = some (.int 1) := tm_lks el
          clear el
          refine g_ild (pc' := 43) cd_De_takeOnce rfl (Or.inl ⟨rfl, rfl⟩) l5 rfl ?_
          refine g_ald (pc' := 44) cd_De_takeOnce rfl (Or.inr ⟨_, rfl, rfl, rfl⟩) l0 rfl rfl ?_
          refine g_fI (c := 0) (k := 7) (x := 2) (pc' := 47) cd_De_takeOnce rfl rfl rfl rfl rfl (by decide) hR.1.1.1 hR.1.1.2 P21 ?_
          refine g_if2 (t := 88) (pc' := 50) cd_De_takeOnce rfl rfl rfl (fun c47 => ?_) (fun c47 => ?_)
          · exact absurd (show (2 : Int32) ≤ 1 from c47) (by decide)
          · have c47 : ¬ (2 : Int32) ≤ 1 := c47
            refine g_ald (pc' := 51) cd_De_takeOnce rfl (Or.inr ⟨_, rfl, rfl, rfl⟩) l0 rfl rfl ?_
            refine g_fR (c := 0) (k := 1) (x := (x + 6)) (pc' := 54) cd_De_takeOnce rfl rfl rfl rfl rfl (by decide) hR.1.1.1 hR.1.1.2 hR.1.2.1.2.1 ?_
            refine g_ild (pc' := 56) cd_De_takeOnce rfl (Or.inl ⟨rfl, rfl⟩) l5 rfl ?_
            refine g_ald (pc' := 57) cd_De_takeOnce rfl (Or.inr ⟨_, rfl, rfl, rfl⟩) l0 rfl rfl ?_
            refine g_fR (c := 0) (k := 1) (x := (x + 6)) (pc' := 60) cd_De_takeOnce rfl rfl rfl rfl rfl (by decide) hR.1.1.1 hR.1.1.2 hR.1.2.1.2.1 ?_
            refine g_ild (pc' := 62) cd_De_takeOnce rfl (Or.inl ⟨rfl, rfl⟩) l5 rfl ?_
            refine g_k1 (v := 1) (pc' := 63) cd_De_takeOnce rfl (by decide) rfl ?_
            refine g_pure (pc' := 64) (st' := [.int (1 + 1), .ref ((x + 6)), .int 1, .ref ((x + 6))]) cd_De_takeOnce rfl rfl (fun _ _ => rfl) ?_
            rw [show (1 + 1 : Int32) = 2 from by decide]
            refine g_aI (x := (bm_AI B (x + 6) 2)) (pc' := 65) cd_De_takeOnce rfl rfl hR.1.2.2.2.1.1 hR.1.2.2.2.1.2.1 (by rw [show bm_AL (bm_putI B 0 7 x 2) (x + 6) = 4 from hR.1.2.2.2.1.2.2]; exact vp_in_nI (n := 2) (by decide) (by decide)) (show bm_AI (bm_putI B 0 7 x 2) (x + 6) 2 = (bm_AI B (x + 6) 2) from congrFun (show bm_AI (bm_putI B 0 7 x 2) (x + 6) = (bm_AI B (x + 6)) from rfl) 2) ?_
            refine g_iast (pc' := 66) cd_De_takeOnce rfl rfl hR.1.2.2.2.1.1 hR.1.2.2.2.1.2.1 (by rw [show bm_AL (bm_putI B 0 7 x 2) (x + 6) = 4 from hR.1.2.2.2.1.2.2]; exact vp_in_nI (n := 1) (by decide) (by decide)) ?_
            rw [show (1 : Int32).toNatClampNeg = 1 from by decide]
            have A23 : bm_AI (bm_setI (bm_putI B 0 7 x 2) (x + 6) 1 (bm_AI B (x + 6) 2)) (x + 6) = (upd (bm_AI B (x + 6)) 1 (bm_AI B (x + 6) 2)) := ((AI_set (bm_putI B 0 7 x 2) (x + 6) 1 (bm_AI B (x + 6) 2)).trans (congrArg (fun f => upd f 1 (bm_AI B (x + 6) 2)) (show bm_AI (bm_putI B 0 7 x 2) (x + 6) = (bm_AI B (x + 6)) from rfl)))
            have A24 : bm_AI (bm_setI (bm_putI B 0 7 x 2) (x + 6) 1 (bm_AI B (x + 6) 2)) (x + 7) = (bm_AI B (x + 7)) := ((AI_setn (bm_putI B 0 7 x 2) 1 (bm_AI B (x + 6) 2) (x + 7) (by omega)).trans (show bm_AI (bm_putI B 0 7 x 2) (x + 7) = (bm_AI B (x + 7)) from rfl))
            have Z25 : fz (fun y => y = x ∨ y = x + 6 ∨ y = x + 7) B (bm_setI (bm_putI B 0 7 x 2) (x + 6) 1 (bm_AI B (x + 6) 2)) := fz_trans Z22 ⟨fr_mono (fun _ q => Or.inr (Or.inl q)) (fr_setI _ (x + 6) _ _), rfl, rfl⟩
            refine g_ald (pc' := 67) cd_De_takeOnce rfl (Or.inr ⟨_, rfl, rfl, rfl⟩) l0 rfl rfl ?_
            refine g_fR (c := 0) (k := 2) (x := (x + 7)) (pc' := 70) cd_De_takeOnce rfl rfl rfl rfl rfl (by decide) hR.1.1.1 hR.1.1.2 hR.1.2.1.2.2.1 ?_
            refine g_ild (pc' := 72) cd_De_takeOnce rfl (Or.inl ⟨rfl, rfl⟩) l5 rfl ?_
            refine g_ald (pc' := 73) cd_De_takeOnce rfl (Or.inr ⟨_, rfl, rfl, rfl⟩) l0 rfl rfl ?_
            refine g_fR (c := 0) (k := 2) (x := (x + 7)) (pc' := 76) cd_De_takeOnce rfl rfl rfl rfl rfl (by decide) hR.1.1.1 hR.1.1.2 hR.1.2.1.2.2.1 ?_
            refine g_ild (pc' := 78) cd_De_takeOnce rfl (Or.inl ⟨rfl, rfl⟩) l5 rfl ?_
            refine g_k1 (v := 1) (pc' := 79) cd_De_takeOnce rfl (by decide) rfl ?_
            refine g_pure (pc' := 80) (st' := [.int (1 + 1), .ref ((x + 7)), .int 1, .ref ((x + 7))]) cd_De_takeOnce rfl rfl (fun _ _ => rfl) ?_
            rw [show (1 + 1 : Int32) = 2 from by decide]
            refine g_aI (x := (bm_AI B (x + 7) 2)) (pc' := 81) cd_De_takeOnce rfl rfl hR.1.2.2.2.2.1.1 hR.1.2.2.2.2.1.2.1 (by rw [show bm_AL (bm_setI (bm_putI B 0 7 x 2) (x + 6) 1 (bm_AI B (x + 6) 2)) (x + 7) = 4 from hR.1.2.2.2.2.1.2.2]; exact vp_in_nI (n := 2) (by decide) (by decide)) (show bm_AI (bm_setI (bm_putI B 0 7 x 2) (x + 6) 1 (bm_AI B (x + 6) 2)) (x + 7) 2 = (bm_AI B (x + 7) 2) from congrFun (show bm_AI (bm_setI (bm_putI B 0 7 x 2) (x + 6) 1 (bm_AI B (x + 6) 2)) (x + 7) = (bm_AI B (x + 7)) from A24) 2) ?_
            refine g_iast (pc' := 82) cd_De_takeOnce rfl rfl hR.1.2.2.2.2.1.1 hR.1.2.2.2.2.1.2.1 (by rw [show bm_AL (bm_setI (bm_putI B 0 7 x 2) (x + 6) 1 (bm_AI B (x + 6) 2)) (x + 7) = 4 from hR.1.2.2.2.2.1.2.2]; exact vp_in_nI (n := 1) (by decide) (by decide)) ?_
            rw [show (1 : Int32).toNatClampNeg = 1 from by decide]
            have A26 : bm_AI (bm_setI (bm_setI (bm_putI B 0 7 x 2) (x + 6) 1 (bm_AI B (x + 6) 2)) (x + 7) 1 (bm_AI B (x + 7) 2)) (x + 6) = (upd (bm_AI B (x + 6)) 1 (bm_AI B (x + 6) 2)) := ((AI_setn (bm_setI (bm_putI B 0 7 x 2) (x + 6) 1 (bm_AI B (x + 6) 2)) 1 (bm_AI B (x + 7) 2) (x + 6) (by omega)).trans (show bm_AI (bm_setI (bm_putI B 0 7 x 2) (x + 6) 1 (bm_AI B (x + 6) 2)) (x + 6) = (upd (bm_AI B (x + 6)) 1 (bm_AI B (x + 6) 2)) from A23))
            have A27 : bm_AI (bm_setI (bm_setI (bm_putI B 0 7 x 2) (x + 6) 1 (bm_AI B (x + 6) 2)) (x + 7) 1 (bm_AI B (x + 7) 2)) (x + 7) = (upd (bm_AI B (x + 7)) 1 (bm_AI B (x + 7) 2)) := ((AI_set (bm_setI (bm_putI B 0 7 x 2) (x + 6) 1 (bm_AI B (x + 6) 2)) (x + 7) 1 (bm_AI B (x + 7) 2)).trans (congrArg (fun f => upd f 1 (bm_AI B (x + 7) 2)) (show bm_AI (bm_setI (bm_putI B 0 7 x 2) (x + 6) 1 (bm_AI B (x + 6) 2)) (x + 7) = (bm_AI B (x + 7)) from A24)))
            have Z28 : fz (fun y => y = x ∨ y = x + 6 ∨ y = x + 7) B (bm_setI (bm_setI (bm_putI B 0 7 x 2) (x + 6) 1 (bm_AI B (x + 6) 2)) (x + 7) 1 (bm_AI B (x + 7) 2)) := fz_trans Z25 ⟨fr_mono (fun _ q => Or.inr (Or.inr q)) (fr_setI _ (x + 7) _ _), rfl, rfl⟩
            refine g_inc (y := 2) (pc' := 85) cd_De_takeOnce rfl l5 (by decide) (by decide) rfl (fun lv el => ?_)
            have l0 := tm_lk el l0 rfl (by decide)
            have l1 := tm_lk el l1 rfl (by decide)
            have l2 := tm_lk el l2 rfl (by decide)
            have l3 := tm_lk el l3 rfl (by decide)
            have l4 := tm_lk el l4 rfl (by decide)
            have l5 : lv.lookup 5 = some (.int 2) := tm_lks el
            clear el
            refine g_pure (pc' := 41) (st' := []) cd_De_takeOnce rfl rfl (fun _ _ => rfl) ?_
            refine g_ild (pc' := 43) cd_De_takeOnce rfl (Or.inl ⟨rfl, rfl⟩) l5 rfl ?_
            refine g_ald (pc' := 44) cd_De_takeOnce rfl (Or.inr ⟨_, rfl, rfl, rfl⟩) l0 rfl rfl ?_
            refine g_fI (c := 0) (k := 7) (x := 2) (pc' := 47) cd_De_takeOnce rfl rfl rfl rfl rfl (by decide) hR.1.1.1 hR.1.1.2 P21 ?_
            refine g_if2 (t := 88) (pc' := 50) cd_De_takeOnce rfl rfl rfl (fun c47 => ?_) (fun c47 => ?_)
            · have c47 : (2 : Int32) ≤ 2 := c47
              refine g_ild (pc' := 90) cd_De_takeOnce rfl (Or.inl ⟨rfl, rfl⟩) l4 rfl ?_
              have hA6 : bm_AI (bm_setI (bm_setI (bm_putI B 0 7 x 2) (x + 6) 1 (bm_AI B (x + 6) 2)) (x + 7) 1 (bm_AI B (x + 7) 2)) (x + 6) = (upd (bm_AI B (x + 6)) 1 (bm_AI B (x + 6) 2)) := A26
              have hA7 : bm_AI (bm_setI (bm_setI (bm_putI B 0 7 x 2) (x + 6) 1 (bm_AI B (x + 6) 2)) (x + 7) 1 (bm_AI B (x + 7) 2)) (x + 7) = (upd (bm_AI B (x + 7)) 1 (bm_AI B (x + 7) 2)) := A27
              have hO : ROn (bm_setI (bm_setI (bm_putI B 0 7 x 2) (x + 6) 1 (bm_AI B (x + 6) 2)) (x + 7) 1 (bm_AI B (x + 7) 2)) T x ([e0, e2] : List (Tm × Int32)) := ⟨⟨P21, by simp⟩, by rw [hA6, hA7]; exact ix2 (P := fun (k : Nat) (e : Tm × Int32) => tv T ((upd (bm_AI B (x + 6)) 1 (bm_AI B (x + 6) 2)) k) e.1 ∧ (upd (bm_AI B (x + 7)) 1 (bm_AI B (x + 7) 2)) k = e.2) g0 g2⟩
              exact g_reti cd_De_takeOnce rfl ⟨_, rfl, (kk1 1 e1 _ _ rfl ((TI_eq hT hp1 hb).mp n1) (fun j e h hj => all1 (P := fun e : Tm × Int32 => Tpub e.1 ≠ A) (fun q => n0 ((TI_eq hT hp0 hb).mpr q)) j e (by rw [← hj]; rcases j with _ | j; all_goals first | rfl | omega)) g1.1 (RDe_top hR Z28.1 (fun y a b c e f => by omega) (List.prefix_refl T) hR.2.1 hO) Z28)⟩
            · exact absurd (show ¬ (2 : Int32) ≤ 2 from c47) (by decide)
    · have c25 : r16 = b := Classical.not_not.mp c25
      have n0 := c25
      have hp0 := ht16
      refine g_ald (pc' := 29) cd_De_takeOnce rfl (Or.inr ⟨_, rfl, rfl, rfl⟩) l0 rfl rfl ?_
      refine g_pure (pc' := 30) (st' := [.ref x, .ref x]) cd_De_takeOnce rfl rfl (fun _ _ => rfl) ?_
      refine g_fI (c := 0) (k := 7) (x := 3) (pc' := 33) cd_De_takeOnce rfl rfl rfl rfl rfl (by decide) hR.1.1.1 hR.1.1.2 hR.2.2.2.1.1.1 ?_
      refine g_k1 (v := 1) (pc' := 34) cd_De_takeOnce rfl (by decide) rfl ?_
      refine g_pure (pc' := 35) (st' := [.int (3 - 1), .ref x]) cd_De_takeOnce rfl rfl (fun _ _ => rfl) ?_
      rw [show (3 - 1 : Int32) = 2 from by decide]
      refine g_putI (c := 0) (k := 7) (pc' := 38) cd_De_takeOnce rfl rfl rfl rfl (by simp [tm_okV, narrow, fits]) (Or.inl rfl) rfl (by decide) hR.1.1.1 hR.1.1.2 ?_
      have P29 : bm_FI (bm_putI B 0 7 x 2) 0 7 x = 2 := if_pos ⟨rfl, rfl, rfl⟩
      have Z30 : fz (fun y => y = x ∨ y = x + 6 ∨ y = x + 7) B (bm_putI B 0 7 x 2) := fz_trans (fz_rfl _ B) ⟨fr_mono (fun _ q => Or.inl q) (fr_putI _ 0 7 x _), rfl, rfl⟩
      refine g_ild (pc' := 39) cd_De_takeOnce rfl (Or.inr ⟨_, rfl, rfl, rfl⟩) l3 rfl ?_
      refine g_ist (pc' := 41) cd_De_takeOnce rfl (Or.inl ⟨rfl, rfl⟩) (by decide) rfl (fun lv el => ?_)
      have l0 := tm_lk el l0 rfl (by decide)
      have l1 := tm_lk el l1 rfl (by decide)
      have l2 := tm_lk el l2 rfl (by decide)
      have l3 := tm_lk el l3 rfl (by decide)
      have l4 := tm_lk el l4 rfl (by decide)
      have l5 : lv.lookup 5 = some (.int 0) := tm_lks el
      clear el
      refine g_ild (pc' := 43) cd_De_takeOnce rfl (Or.inl ⟨rfl, rfl⟩) l5 rfl ?_
      refine g_ald (pc' := 44) cd_De_takeOnce rfl (Or.inr ⟨_, rfl, rfl, rfl⟩) l0 rfl rfl ?_
      refine g_fI (c := 0) (k := 7) (x := 2) (pc' := 47) cd_De_takeOnce rfl rfl rfl rfl rfl (by decide) hR.1.1.1 hR.1.1.2 P29 ?_
      refine g_if2 (t := 88) (pc' := 50) cd_De_takeOnce rfl rfl rfl (fun c47 => ?_) (fun c47 => ?_)
      · exact absurd (show (2 : Int32) ≤ 0 from c47) (by decide)
      · have c47 : ¬ (2 : Int32) ≤ 0 := c47
        refine g_ald (pc' := 51) cd_De_takeOnce rfl (Or.inr ⟨_, rfl, rfl, rfl⟩) l0 rfl rfl ?_
        refine g_fR (c := 0) (k := 1) (x := (x + 6)) (pc' := 54) cd_De_takeOnce rfl rfl rfl rfl rfl (by decide) hR.1.1.1 hR.1.1.2 hR.1.2.1.2.1 ?_
        refine g_ild (pc' := 56) cd_De_takeOnce rfl (Or.inl ⟨rfl, rfl⟩) l5 rfl ?_
        refine g_ald (pc' := 57) cd_De_takeOnce rfl (Or.inr ⟨_, rfl, rfl, rfl⟩) l0 rfl rfl ?_
        refine g_fR (c := 0) (k := 1) (x := (x + 6)) (pc' := 60) cd_De_takeOnce rfl rfl rfl rfl rfl (by decide) hR.1.1.1 hR.1.1.2 hR.1.2.1.2.1 ?_
        refine g_ild (pc' := 62) cd_De_takeOnce rfl (Or.inl ⟨rfl, rfl⟩) l5 rfl ?_
        refine g_k1 (v := 1) (pc' := 63) cd_De_takeOnce rfl (by decide) rfl ?_
        refine g_pure (pc' := 64) (st' := [.int (0 + 1), .ref ((x + 6)), .int 0, .ref ((x + 6))]) cd_De_takeOnce rfl rfl (fun _ _ => rfl) ?_
        rw [show (0 + 1 : Int32) = 1 from by decide]
        refine g_aI (x := (bm_AI B (x + 6) 1)) (pc' := 65) cd_De_takeOnce rfl rfl hR.1.2.2.2.1.1 hR.1.2.2.2.1.2.1 (by rw [show bm_AL (bm_putI B 0 7 x 2) (x + 6) = 4 from hR.1.2.2.2.1.2.2]; exact vp_in_nI (n := 1) (by decide) (by decide)) (show bm_AI (bm_putI B 0 7 x 2) (x + 6) 1 = (bm_AI B (x + 6) 1) from congrFun (show bm_AI (bm_putI B 0 7 x 2) (x + 6) = (bm_AI B (x + 6)) from rfl) 1) ?_
        refine g_iast (pc' := 66) cd_De_takeOnce rfl rfl hR.1.2.2.2.1.1 hR.1.2.2.2.1.2.1 (by rw [show bm_AL (bm_putI B 0 7 x 2) (x + 6) = 4 from hR.1.2.2.2.1.2.2]; exact vp_in_nI (n := 0) (by decide) (by decide)) ?_
        rw [show (0 : Int32).toNatClampNeg = 0 from by decide]
        have A31 : bm_AI (bm_setI (bm_putI B 0 7 x 2) (x + 6) 0 (bm_AI B (x + 6) 1)) (x + 6) = (upd (bm_AI B (x + 6)) 0 (bm_AI B (x + 6) 1)) := ((AI_set (bm_putI B 0 7 x 2) (x + 6) 0 (bm_AI B (x + 6) 1)).trans (congrArg (fun f => upd f 0 (bm_AI B (x + 6) 1)) (show bm_AI (bm_putI B 0 7 x 2) (x + 6) = (bm_AI B (x + 6)) from rfl)))
        have A32 : bm_AI (bm_setI (bm_putI B 0 7 x 2) (x + 6) 0 (bm_AI B (x + 6) 1)) (x + 7) = (bm_AI B (x + 7)) := ((AI_setn (bm_putI B 0 7 x 2) 0 (bm_AI B (x + 6) 1) (x + 7) (by omega)).trans (show bm_AI (bm_putI B 0 7 x 2) (x + 7) = (bm_AI B (x + 7)) from rfl))
        have Z33 : fz (fun y => y = x ∨ y = x + 6 ∨ y = x + 7) B (bm_setI (bm_putI B 0 7 x 2) (x + 6) 0 (bm_AI B (x + 6) 1)) := fz_trans Z30 ⟨fr_mono (fun _ q => Or.inr (Or.inl q)) (fr_setI _ (x + 6) _ _), rfl, rfl⟩
        refine g_ald (pc' := 67) cd_De_takeOnce rfl (Or.inr ⟨_, rfl, rfl, rfl⟩) l0 rfl rfl ?_
        refine g_fR (c := 0) (k := 2) (x := (x + 7)) (pc' := 70) cd_De_takeOnce rfl rfl rfl rfl rfl (by decide) hR.1.1.1 hR.1.1.2 hR.1.2.1.2.2.1 ?_
        refine g_ild (pc' := 72) cd_De_takeOnce rfl (Or.inl ⟨rfl, rfl⟩) l5 rfl ?_
        refine g_ald (pc' := 73) cd_De_takeOnce rfl (Or.inr ⟨_, rfl, rfl, rfl⟩) l0 rfl rfl ?_
        refine g_fR (c := 0) (k := 2) (x := (x + 7)) (pc' := 76) cd_De_takeOnce rfl rfl rfl rfl rfl (by decide) hR.1.1.1 hR.1.1.2 hR.1.2.1.2.2.1 ?_
        refine g_ild (pc' := 78) cd_De_takeOnce rfl (Or.inl ⟨rfl, rfl⟩) l5 rfl ?_
        refine g_k1 (v := 1) (pc' := 79) cd_De_takeOnce rfl (by decide) rfl ?_
        refine g_pure (pc' := 80) (st' := [.int (0 + 1), .ref ((x + 7)), .int 0, .ref ((x + 7))]) cd_De_takeOnce rfl rfl (fun _ _ => rfl) ?_
        rw [show (0 + 1 : Int32) = 1 from by decide]
        refine g_aI (x := (bm_AI B (x + 7) 1)) (pc' := 81) cd_De_takeOnce rfl rfl hR.1.2.2.2.2.1.1 hR.1.2.2.2.2.1.2.1 (by rw [show bm_AL (bm_setI (bm_putI B 0 7 x 2) (x + 6) 0 (bm_AI B (x + 6) 1)) (x + 7) = 4 from hR.1.2.2.2.2.1.2.2]; exact vp_in_nI (n := 1) (by decide) (by decide)) (show bm_AI (bm_setI (bm_putI B 0 7 x 2) (x + 6) 0 (bm_AI B (x + 6) 1)) (x + 7) 1 = (bm_AI B (x + 7) 1) from congrFun (show bm_AI (bm_setI (bm_putI B 0 7 x 2) (x + 6) 0 (bm_AI B (x + 6) 1)) (x + 7) = (bm_AI B (x + 7)) from A32) 1) ?_
        refine g_iast (pc' := 82) cd_De_takeOnce rfl rfl hR.1.2.2.2.2.1.1 hR.1.2.2.2.2.1.2.1 (by rw [show bm_AL (bm_setI (bm_putI B 0 7 x 2) (x + 6) 0 (bm_AI B (x + 6) 1)) (x + 7) = 4 from hR.1.2.2.2.2.1.2.2]; exact vp_in_nI (n := 0) (by decide) (by decide)) ?_
        rw [show (0 : Int32).toNatClampNeg = 0 from by decide]
        have A34 : bm_AI (bm_setI (bm_setI (bm_putI B 0 7 x 2) (x + 6) 0 (bm_AI B (x + 6) 1)) (x + 7) 0 (bm_AI B (x + 7) 1)) (x + 6) = (upd (bm_AI B (x + 6)) 0 (bm_AI B (x + 6) 1)) := ((AI_setn (bm_setI (bm_putI B 0 7 x 2) (x + 6) 0 (bm_AI B (x + 6) 1)) 0 (bm_AI B (x + 7) 1) (x + 6) (by omega)).trans (show bm_AI (bm_setI (bm_putI B 0 7 x 2) (x + 6) 0 (bm_AI B (x + 6) 1)) (x + 6) = (upd (bm_AI B (x + 6)) 0 (bm_AI B (x + 6) 1)) from A31))
        have A35 : bm_AI (bm_setI (bm_setI (bm_putI B 0 7 x 2) (x + 6) 0 (bm_AI B (x + 6) 1)) (x + 7) 0 (bm_AI B (x + 7) 1)) (x + 7) = (upd (bm_AI B (x + 7)) 0 (bm_AI B (x + 7) 1)) := ((AI_set (bm_setI (bm_putI B 0 7 x 2) (x + 6) 0 (bm_AI B (x + 6) 1)) (x + 7) 0 (bm_AI B (x + 7) 1)).trans (congrArg (fun f => upd f 0 (bm_AI B (x + 7) 1)) (show bm_AI (bm_setI (bm_putI B 0 7 x 2) (x + 6) 0 (bm_AI B (x + 6) 1)) (x + 7) = (bm_AI B (x + 7)) from A32)))
        have Z36 : fz (fun y => y = x ∨ y = x + 6 ∨ y = x + 7) B (bm_setI (bm_setI (bm_putI B 0 7 x 2) (x + 6) 0 (bm_AI B (x + 6) 1)) (x + 7) 0 (bm_AI B (x + 7) 1)) := fz_trans Z33 ⟨fr_mono (fun _ q => Or.inr (Or.inr q)) (fr_setI _ (x + 7) _ _), rfl, rfl⟩
        refine g_inc (y := 1) (pc' := 85) cd_De_takeOnce rfl l5 (by decide) (by decide) rfl (fun lv el => ?_)
        have l0 := tm_lk el l0 rfl (by decide)
        have l1 := tm_lk el l1 rfl (by decide)
        have l2 := tm_lk el l2 rfl (by decide)
        have l3 := tm_lk el l3 rfl (by decide)
        have l4 := tm_lk el l4 rfl (by decide)
        have l5 : lv.lookup 5 = some (.int 1) := tm_lks el
        clear el
        refine g_pure (pc' := 41) (st' := []) cd_De_takeOnce rfl rfl (fun _ _ => rfl) ?_
        refine g_ild (pc' := 43) cd_De_takeOnce rfl (Or.inl ⟨rfl, rfl⟩) l5 rfl ?_
        refine g_ald (pc' := 44) cd_De_takeOnce rfl (Or.inr ⟨_, rfl, rfl, rfl⟩) l0 rfl rfl ?_
        refine g_fI (c := 0) (k := 7) (x := 2) (pc' := 47) cd_De_takeOnce rfl rfl rfl rfl rfl (by decide) hR.1.1.1 hR.1.1.2 P29 ?_
        refine g_if2 (t := 88) (pc' := 50) cd_De_takeOnce rfl rfl rfl (fun c47 => ?_) (fun c47 => ?_)
        · exact absurd (show (2 : Int32) ≤ 1 from c47) (by decide)
        · have c47 : ¬ (2 : Int32) ≤ 1 := c47
          refine g_ald (pc' := 51) cd_De_takeOnce rfl (Or.inr ⟨_, rfl, rfl, rfl⟩) l0 rfl rfl ?_
          refine g_fR (c := 0) (k := 1) (x := (x + 6)) (pc' := 54) cd_De_takeOnce rfl rfl rfl rfl rfl (by decide) hR.1.1.1 hR.1.1.2 hR.1.2.1.2.1 ?_
          refine g_ild (pc' := 56) cd_De_takeOnce rfl (Or.inl ⟨rfl, rfl⟩) l5 rfl ?_
          refine g_ald (pc' := 57) cd_De_takeOnce rfl (Or.inr ⟨_, rfl, rfl, rfl⟩) l0 rfl rfl ?_
          refine g_fR (c := 0) (k := 1) (x := (x + 6)) (pc' := 60) cd_De_takeOnce rfl rfl rfl rfl rfl (by decide) hR.1.1.1 hR.1.1.2 hR.1.2.1.2.1 ?_
          refine g_ild (pc' := 62) cd_De_takeOnce rfl (Or.inl ⟨rfl, rfl⟩) l5 rfl ?_
          refine g_k1 (v := 1) (pc' := 63) cd_De_takeOnce rfl (by decide) rfl ?_
          refine g_pure (pc' := 64) (st' := [.int (1 + 1), .ref ((x + 6)), .int 1, .ref ((x + 6))]) cd_De_takeOnce rfl rfl (fun _ _ => rfl) ?_
          rw [show (1 + 1 : Int32) = 2 from by decide]
          refine g_aI (x := (bm_AI B (x + 6) 2)) (pc' := 65) cd_De_takeOnce rfl rfl hR.1.2.2.2.1.1 hR.1.2.2.2.1.2.1 (by rw [show bm_AL (bm_setI (bm_setI (bm_putI B 0 7 x 2) (x + 6) 0 (bm_AI B (x + 6) 1)) (x + 7) 0 (bm_AI B (x + 7) 1)) (x + 6) = 4 from hR.1.2.2.2.1.2.2]; exact vp_in_nI (n := 2) (by decide) (by decide)) (show bm_AI (bm_setI (bm_setI (bm_putI B 0 7 x 2) (x + 6) 0 (bm_AI B (x + 6) 1)) (x + 7) 0 (bm_AI B (x + 7) 1)) (x + 6) 2 = (bm_AI B (x + 6) 2) from congrFun (show bm_AI (bm_setI (bm_setI (bm_putI B 0 7 x 2) (x + 6) 0 (bm_AI B (x + 6) 1)) (x + 7) 0 (bm_AI B (x + 7) 1)) (x + 6) = (upd (bm_AI B (x + 6)) 0 (bm_AI B (x + 6) 1)) from A34) 2) ?_
          refine g_iast (pc' := 66) cd_De_takeOnce rfl rfl hR.1.2.2.2.1.1 hR.1.2.2.2.1.2.1 (by rw [show bm_AL (bm_setI (bm_setI (bm_putI B 0 7 x 2) (x + 6) 0 (bm_AI B (x + 6) 1)) (x + 7) 0 (bm_AI B (x + 7) 1)) (x + 6) = 4 from hR.1.2.2.2.1.2.2]; exact vp_in_nI (n := 1) (by decide) (by decide)) ?_
          rw [show (1 : Int32).toNatClampNeg = 1 from by decide]
          have A37 : bm_AI (bm_setI (bm_setI (bm_setI (bm_putI B 0 7 x 2) (x + 6) 0 (bm_AI B (x + 6) 1)) (x + 7) 0 (bm_AI B (x + 7) 1)) (x + 6) 1 (bm_AI B (x + 6) 2)) (x + 6) = (upd (upd (bm_AI B (x + 6)) 0 (bm_AI B (x + 6) 1)) 1 (bm_AI B (x + 6) 2)) := ((AI_set (bm_setI (bm_setI (bm_putI B 0 7 x 2) (x + 6) 0 (bm_AI B (x + 6) 1)) (x + 7) 0 (bm_AI B (x + 7) 1)) (x + 6) 1 (bm_AI B (x + 6) 2)).trans (congrArg (fun f => upd f 1 (bm_AI B (x + 6) 2)) (show bm_AI (bm_setI (bm_setI (bm_putI B 0 7 x 2) (x + 6) 0 (bm_AI B (x + 6) 1)) (x + 7) 0 (bm_AI B (x + 7) 1)) (x + 6) = (upd (bm_AI B (x + 6)) 0 (bm_AI B (x + 6) 1)) from A34)))
          have A38 : bm_AI (bm_setI (bm_setI (bm_setI (bm_putI B 0 7 x 2) (x + 6) 0 (bm_AI B (x + 6) 1)) (x + 7) 0 (bm_AI B (x + 7) 1)) (x + 6) 1 (bm_AI B (x + 6) 2)) (x + 7) = (upd (bm_AI B (x + 7)) 0 (bm_AI B (x + 7) 1)) := ((AI_setn (bm_setI (bm_setI (bm_putI B 0 7 x 2) (x + 6) 0 (bm_AI B (x + 6) 1)) (x + 7) 0 (bm_AI B (x + 7) 1)) 1 (bm_AI B (x + 6) 2) (x + 7) (by omega)).trans (show bm_AI (bm_setI (bm_setI (bm_putI B 0 7 x 2) (x + 6) 0 (bm_AI B (x + 6) 1)) (x + 7) 0 (bm_AI B (x + 7) 1)) (x + 7) = (upd (bm_AI B (x + 7)) 0 (bm_AI B (x + 7) 1)) from A35))
          have Z39 : fz (fun y => y = x ∨ y = x + 6 ∨ y = x + 7) B (bm_setI (bm_setI (bm_setI (bm_putI B 0 7 x 2) (x + 6) 0 (bm_AI B (x + 6) 1)) (x + 7) 0 (bm_AI B (x + 7) 1)) (x + 6) 1 (bm_AI B (x + 6) 2)) := fz_trans Z36 ⟨fr_mono (fun _ q => Or.inr (Or.inl q)) (fr_setI _ (x + 6) _ _), rfl, rfl⟩
          refine g_ald (pc' := 67) cd_De_takeOnce rfl (Or.inr ⟨_, rfl, rfl, rfl⟩) l0 rfl rfl ?_
          refine g_fR (c := 0) (k := 2) (x := (x + 7)) (pc' := 70) cd_De_takeOnce rfl rfl rfl rfl rfl (by decide) hR.1.1.1 hR.1.1.2 hR.1.2.1.2.2.1 ?_
          refine g_ild (pc' := 72) cd_De_takeOnce rfl (Or.inl ⟨rfl, rfl⟩) l5 rfl ?_
          refine g_ald (pc' := 73) cd_De_takeOnce rfl (Or.inr ⟨_, rfl, rfl, rfl⟩) l0 rfl rfl ?_
          refine g_fR (c := 0) (k := 2) (x := (x + 7)) (pc' := 76) cd_De_takeOnce rfl rfl rfl rfl rfl (by decide) hR.1.1.1 hR.1.1.2 hR.1.2.1.2.2.1 ?_
          refine g_ild (pc' := 78) cd_De_takeOnce rfl (Or.inl ⟨rfl, rfl⟩) l5 rfl ?_
          refine g_k1 (v := 1) (pc' := 79) cd_De_takeOnce rfl (by decide) rfl ?_
          refine g_pure (pc' := 80) (st' := [.int (1 + 1), .ref ((x + 7)), .int 1, .ref ((x + 7))]) cd_De_takeOnce rfl rfl (fun _ _ => rfl) ?_
          rw [show (1 + 1 : Int32) = 2 from by decide]
          refine g_aI (x := (bm_AI B (x + 7) 2)) (pc' := 81) cd_De_takeOnce rfl rfl hR.1.2.2.2.2.1.1 hR.1.2.2.2.2.1.2.1 (by rw [show bm_AL (bm_setI (bm_setI (bm_setI (bm_putI B 0 7 x 2) (x + 6) 0 (bm_AI B (x + 6) 1)) (x + 7) 0 (bm_AI B (x + 7) 1)) (x + 6) 1 (bm_AI B (x + 6) 2)) (x + 7) = 4 from hR.1.2.2.2.2.1.2.2]; exact vp_in_nI (n := 2) (by decide) (by decide)) (show bm_AI (bm_setI (bm_setI (bm_setI (bm_putI B 0 7 x 2) (x + 6) 0 (bm_AI B (x + 6) 1)) (x + 7) 0 (bm_AI B (x + 7) 1)) (x + 6) 1 (bm_AI B (x + 6) 2)) (x + 7) 2 = (bm_AI B (x + 7) 2) from congrFun (show bm_AI (bm_setI (bm_setI (bm_setI (bm_putI B 0 7 x 2) (x + 6) 0 (bm_AI B (x + 6) 1)) (x + 7) 0 (bm_AI B (x + 7) 1)) (x + 6) 1 (bm_AI B (x + 6) 2)) (x + 7) = (upd (bm_AI B (x + 7)) 0 (bm_AI B (x + 7) 1)) from A38) 2) ?_
          refine g_iast (pc' := 82) cd_De_takeOnce rfl rfl hR.1.2.2.2.2.1.1 hR.1.2.2.2.2.1.2.1 (by rw [show bm_AL (bm_setI (bm_setI (bm_setI (bm_putI B 0 7 x 2) (x + 6) 0 (bm_AI B (x + 6) 1)) (x + 7) 0 (bm_AI B (x + 7) 1)) (x + 6) 1 (bm_AI B (x + 6) 2)) (x + 7) = 4 from hR.1.2.2.2.2.1.2.2]; exact vp_in_nI (n := 1) (by decide) (by decide)) ?_
          rw [show (1 : Int32).toNatClampNeg = 1 from by decide]
          have A40 : bm_AI (bm_setI (bm_setI (bm_setI (bm_setI (bm_putI B 0 7 x 2) (x + 6) 0 (bm_AI B (x + 6) 1)) (x + 7) 0 (bm_AI B (x + 7) 1)) (x + 6) 1 (bm_AI B (x + 6) 2)) (x + 7) 1 (bm_AI B (x + 7) 2)) (x + 6) = (upd (upd (bm_AI B (x + 6)) 0 (bm_AI B (x + 6) 1)) 1 (bm_AI B (x + 6) 2)) := ((AI_setn (bm_setI (bm_setI (bm_setI (bm_putI B 0 7 x 2) (x + 6) 0 (bm_AI B (x + 6) 1)) (x + 7) 0 (bm_AI B (x + 7) 1)) (x + 6) 1 (bm_AI B (x + 6) 2)) 1 (bm_AI B (x + 7) 2) (x + 6) (by omega)).trans (show bm_AI (bm_setI (bm_setI (bm_setI (bm_putI B 0 7 x 2) (x + 6) 0 (bm_AI B (x + 6) 1)) (x + 7) 0 (bm_AI B (x + 7) 1)) (x + 6) 1 (bm_AI B (x + 6) 2)) (x + 6) = (upd (upd (bm_AI B (x + 6)) 0 (bm_AI B (x + 6) 1)) 1 (bm_AI B (x + 6) 2)) from A37))
          have A41 : bm_AI (bm_setI (bm_setI (bm_setI (bm_setI (bm_putI B 0 7 x 2) (x + 6) 0 (bm_AI B (x + 6) 1)) (x + 7) 0 (bm_AI B (x + 7) 1)) (x + 6) 1 (bm_AI B (x + 6) 2)) (x + 7) 1 (bm_AI B (x + 7) 2)) (x + 7) = (upd (upd (bm_AI B (x + 7)) 0 (bm_AI B (x + 7) 1)) 1 (bm_AI B (x + 7) 2)) := ((AI_set (bm_setI (bm_setI (bm_setI (bm_putI B 0 7 x 2) (x + 6) 0 (bm_AI B (x + 6) 1)) (x + 7) 0 (bm_AI B (x + 7) 1)) (x + 6) 1 (bm_AI B (x + 6) 2)) (x + 7) 1 (bm_AI B (x + 7) 2)).trans (congrArg (fun f => upd f 1 (bm_AI B (x + 7) 2)) (show bm_AI (bm_setI (bm_setI (bm_setI (bm_putI B 0 7 x 2) (x + 6) 0 (bm_AI B (x + 6) 1)) (x + 7) 0 (bm_AI B (x + 7) 1)) (x + 6) 1 (bm_AI B (x + 6) 2)) (x + 7) = (upd (bm_AI B (x + 7)) 0 (bm_AI B (x + 7) 1)) from A38)))
          have Z42 : fz (fun y => y = x ∨ y = x + 6 ∨ y = x + 7) B (bm_setI (bm_setI (bm_setI (bm_setI (bm_putI B 0 7 x 2) (x + 6) 0 (bm_AI B (x + 6) 1)) (x + 7) 0 (bm_AI B (x + 7) 1)) (x + 6) 1 (bm_AI B (x + 6) 2)) (x + 7) 1 (bm_AI B (x + 7) 2)) := fz_trans Z39 ⟨fr_mono (fun _ q => Or.inr (Or.inr q)) (fr_setI _ (x + 7) _ _), rfl, rfl⟩
          refine g_inc (y := 2) (pc' := 85) cd_De_takeOnce rfl l5 (by decide) (by decide) rfl (fun lv el => ?_)
          have l0 := tm_lk el l0 rfl (by decide)
          have l1 := tm_lk el l1 rfl (by decide)
          have l2 := tm_lk el l2 rfl (by decide)
          have l3 := tm_lk el l3 rfl (by decide)
          have l4 := tm_lk el l4 rfl (by decide)
          have l5 : lv.lookup 5 = some (.int 2) := tm_lks el
          clear el
          refine g_pure (pc' := 41) (st' := []) cd_De_takeOnce rfl rfl (fun _ _ => rfl) ?_
          refine g_ild (pc' := 43) cd_De_takeOnce rfl (Or.inl ⟨rfl, rfl⟩) l5 rfl ?_
          refine g_ald (pc' := 44) cd_De_takeOnce rfl (Or.inr ⟨_, rfl, rfl, rfl⟩) l0 rfl rfl ?_
          refine g_fI (c := 0) (k := 7) (x := 2) (pc' := 47) cd_De_takeOnce rfl rfl rfl rfl rfl (by decide) hR.1.1.1 hR.1.1.2 P29 ?_
          refine g_if2 (t := 88) (pc' := 50) cd_De_takeOnce rfl rfl rfl (fun c47 => ?_) (fun c47 => ?_)
          · have c47 : (2 : Int32) ≤ 2 := c47
            refine g_ild (pc' := 90) cd_De_takeOnce rfl (Or.inl ⟨rfl, rfl⟩) l4 rfl ?_
            have hA6 : bm_AI (bm_setI (bm_setI (bm_setI (bm_setI (bm_putI B 0 7 x 2) (x + 6) 0 (bm_AI B (x + 6) 1)) (x + 7) 0 (bm_AI B (x + 7) 1)) (x + 6) 1 (bm_AI B (x + 6) 2)) (x + 7) 1 (bm_AI B (x + 7) 2)) (x + 6) = (upd (upd (bm_AI B (x + 6)) 0 (bm_AI B (x + 6) 1)) 1 (bm_AI B (x + 6) 2)) := A40
            have hA7 : bm_AI (bm_setI (bm_setI (bm_setI (bm_setI (bm_putI B 0 7 x 2) (x + 6) 0 (bm_AI B (x + 6) 1)) (x + 7) 0 (bm_AI B (x + 7) 1)) (x + 6) 1 (bm_AI B (x + 6) 2)) (x + 7) 1 (bm_AI B (x + 7) 2)) (x + 7) = (upd (upd (bm_AI B (x + 7)) 0 (bm_AI B (x + 7) 1)) 1 (bm_AI B (x + 7) 2)) := A41
            have hO : ROn (bm_setI (bm_setI (bm_setI (bm_setI (bm_putI B 0 7 x 2) (x + 6) 0 (bm_AI B (x + 6) 1)) (x + 7) 0 (bm_AI B (x + 7) 1)) (x + 6) 1 (bm_AI B (x + 6) 2)) (x + 7) 1 (bm_AI B (x + 7) 2)) T x ([e1, e2] : List (Tm × Int32)) := ⟨⟨P29, by simp⟩, by rw [hA6, hA7]; exact ix2 (P := fun (k : Nat) (e : Tm × Int32) => tv T ((upd (upd (bm_AI B (x + 6)) 0 (bm_AI B (x + 6) 1)) 1 (bm_AI B (x + 6) 2)) k) e.1 ∧ (upd (upd (bm_AI B (x + 7)) 0 (bm_AI B (x + 7) 1)) 1 (bm_AI B (x + 7) 2)) k = e.2) g1 g2⟩
            exact g_reti cd_De_takeOnce rfl ⟨_, rfl, (kk1 0 e0 _ _ rfl ((TI_eq hT hp0 hb).mp n0) (fun j e h => absurd h (Nat.not_lt_zero _)) g0.1 (RDe_top hR Z42.1 (fun y a b c e f => by omega) (List.prefix_refl T) hR.2.1 hO) Z42)⟩
          · exact absurd (show ¬ (2 : Int32) ≤ 2 from c47) (by decide)
theorem t_takeOnce4 {sc : tm_X} {d a ca ba da rm dr x : Nat} {B : bm_H} {T : List Tm} {w : SW} {id : Tm} {K0 K1 : PK} {ln : Int32} {se : Nat → List SS} {me : Nat → MM} {e0 e1 e2 e3 : Tm × Int32} {b : Int32} {A : Tm} {Q : Int32 → bm_H → Prop} (hT : TI B a ca ba da rm dr T) (hR : RDe B T x w (id, K0, K1, [e0, e1, e2, e3], ln, se, me)) (hb : tv T b A) (hk : ∀ e, e ∈ ([e0, e1, e2, e3] : List (Tm × Int32)) → kd e.1 = 1) (kk0 : (∀ (k : Nat) (e : Tm × Int32), ([e0, e1, e2, e3] : List (Tm × Int32))[k]? = some e → Tpub e.1 ≠ A) → Q 0 B) (kk1 : ∀ i e B' r, ([e0, e1, e2, e3] : List (Tm × Int32))[i]? = some e → Tpub e.1 = A → (∀ (j : Nat) (e' : Tm × Int32), j < i → ([e0, e1, e2, e3] : List (Tm × Int32))[j]? = some e' → Tpub e'.1 ≠ A) → tv T r e.1 → RDe B' T x w (id, K0, K1, ([e0, e1, e2, e3] : List (Tm × Int32)).eraseIdx i, ln, se, me) → fz (fun y => y = x ∨ y = x + 6 ∨ y = x + 7) B B' → Q r B') : bm_Gi sc (d + 2) 111 [.ref x, .ref a, .int b] B Q := by
  have g0 := hR.2.2.2.1.2 0 e0 rfl
  have g1 := hR.2.2.2.1.2 1 e1 rfl
  have g2 := hR.2.2.2.1.2 2 e2 rfl
  have g3 := hR.2.2.2.1.2 3 e3 rfl
  show bm_G sc (d + 2) 111 0 [(0, .ref x), (1, .ref a), (2, .int b)] [] B _
  generalize elv : ([(0, .ref x), (1, .ref a), (2, .int b)] : tm_L) = lv
  have l0 : lv.lookup 0 = some (.ref x) := by rw [← elv]; rfl
  have l1 : lv.lookup 1 = some (.ref a) := by rw [← elv]; rfl
  have l2 : lv.lookup 2 = some (.int b) := by rw [← elv]; rfl
  clear elv
  refine g_k1 (v := 0) (pc' := 1) cd_De_takeOnce rfl (by decide) rfl ?_
  refine g_ist (pc' := 2) cd_De_takeOnce rfl (Or.inr ⟨_, rfl, rfl, rfl⟩) (by decide) rfl (fun lv el => ?_)
  have l0 := tm_lk el l0 rfl (by decide)
  have l1 := tm_lk el l1 rfl (by decide)
  have l2 := tm_lk el l2 rfl (by decide)
  have l3 : lv.lookup 3 = some (.int 0) := tm_lks el
  clear el
  refine g_ild (pc' := 3) cd_De_takeOnce rfl (Or.inr ⟨_, rfl, rfl, rfl⟩) l3 rfl ?_
  refine g_ald (pc' := 4) cd_De_takeOnce rfl (Or.inr ⟨_, rfl, rfl, rfl⟩) l0 rfl rfl ?_
  refine g_fI (c := 0) (k := 7) (x := 4) (pc' := 7) cd_De_takeOnce rfl rfl rfl rfl rfl (by decide) hR.1.1.1 hR.1.1.2 hR.2.2.2.1.1.1 ?_
  refine g_if2 (t := 97) (pc' := 10) cd_De_takeOnce rfl rfl rfl (fun c7 => ?_) (fun c7 => ?_)
  · exact absurd (show (4 : Int32) ≤ 0 from c7) (by decide)
  · have c7 : ¬ (4 : Int32) ≤ 0 := c7
    refine g_ald (pc' := 11) cd_De_takeOnce rfl (Or.inr ⟨_, rfl, rfl, rfl⟩) l0 rfl rfl ?_
    refine g_fR (c := 0) (k := 1) (x := (x + 6)) (pc' := 14) cd_De_takeOnce rfl rfl rfl rfl rfl (by decide) hR.1.1.1 hR.1.1.2 hR.1.2.1.2.1 ?_
    refine g_ild (pc' := 15) cd_De_takeOnce rfl (Or.inr ⟨_, rfl, rfl, rfl⟩) l3 rfl ?_
    refine g_aI (x := (bm_AI B (x + 6) 0)) (pc' := 16) cd_De_takeOnce rfl rfl hR.1.2.2.2.1.1 hR.1.2.2.2.1.2.1 (by rw [show bm_AL B (x + 6) = 4 from hR.1.2.2.2.1.2.2]; exact vp_in_nI (n := 0) (by decide) (by decide)) (show bm_AI B (x + 6) 0 = (bm_AI B (x + 6) 0) from congrFun (show bm_AI B (x + 6) = (bm_AI B (x + 6)) from rfl) 0) ?_
    refine g_ist (pc' := 18) cd_De_takeOnce rfl (Or.inl ⟨rfl, rfl⟩) (by decide) rfl (fun lv el => ?_)
    have l0 := tm_lk el l0 rfl (by decide)
    have l1 := tm_lk el l1 rfl (by decide)
    have l2 := tm_lk el l2 rfl (by decide)
    have l3 := tm_lk el l3 rfl (by decide)
    have l4 : lv.lookup 4 = some (.int ((bm_AI B (x + 6) 0))) := tm_lks el
    clear el
    refine g_ald (pc' := 19) cd_De_takeOnce rfl (Or.inr ⟨_, rfl, rfl, rfl⟩) l1 rfl rfl ?_
    refine g_ild (pc' := 21) cd_De_takeOnce rfl (Or.inl ⟨rfl, rfl⟩) l4 rfl ?_
    refine g_calli (pc' := 24) cd_De_takeOnce rfl rfl rfl rfl rfl (tm_invV rfl rfl cd_Te_publicOf rfl (Nat.le_of_ble_eq_true rfl) (by decide) hT.1.1.1 hT.1.1.2) (t_publicOf hT g0.1 (fun r43 ht43 => ?_))
    rw [if_pos (hk _ (List.mem_of_getElem? (i := 0) rfl))] at ht43
    show bm_G _ _ _ 24 _ [.int r43] B _
    refine g_ild (pc' := 25) cd_De_takeOnce rfl (Or.inr ⟨_, rfl, rfl, rfl⟩) l2 rfl ?_
    refine g_if2 (t := 91) (pc' := 28) cd_De_takeOnce rfl rfl rfl (fun c25 => ?_) (fun c25 => ?_)
    · have c25 : ¬ r43 = b := c25
      have n0 := c25
      have hp0 := ht43
      refine g_inc (y := 1) (pc' := 94) cd_De_takeOnce rfl l3 (by decide) (by decide) rfl (fun lv el => ?_)
      have l0 := tm_lk el l0 rfl (by decide)
      have l1 := tm_lk el l1 rfl (by decide)
      have l2 := tm_lk el l2 rfl (by decide)
      have l4 := tm_lk el l4 rfl (by decide)
      have l3 : lv.lookup 3 = some (.int 1) := tm_lks el
      clear el
      refine g_pure (pc' := 2) (st' := []) cd_De_takeOnce rfl rfl (fun _ _ => rfl) ?_
      refine g_ild (pc' := 3) cd_De_takeOnce rfl (Or.inr ⟨_, rfl, rfl, rfl⟩) l3 rfl ?_
      refine g_ald (pc' := 4) cd_De_takeOnce rfl (Or.inr ⟨_, rfl, rfl, rfl⟩) l0 rfl rfl ?_
      refine g_fI (c := 0) (k := 7) (x := 4) (pc' := 7) cd_De_takeOnce rfl rfl rfl rfl rfl (by decide) hR.1.1.1 hR.1.1.2 hR.2.2.2.1.1.1 ?_
      refine g_if2 (t := 97) (pc' := 10) cd_De_takeOnce rfl rfl rfl (fun c7 => ?_) (fun c7 => ?_)
      · exact absurd (show (4 : Int32) ≤ 1 from c7) (by decide)
      · have c7 : ¬ (4 : Int32) ≤ 1 := c7
        refine g_ald (pc' := 11) cd_De_takeOnce rfl (Or.inr ⟨_, rfl, rfl, rfl⟩) l0 rfl rfl ?_
        refine g_fR (c := 0) (k := 1) (x := (x + 6)) (pc' := 14) cd_De_takeOnce rfl rfl rfl rfl rfl (by decide) hR.1.1.1 hR.1.1.2 hR.1.2.1.2.1 ?_
        refine g_ild (pc' := 15) cd_De_takeOnce rfl (Or.inr ⟨_, rfl, rfl, rfl⟩) l3 rfl ?_
        refine g_aI (x := (bm_AI B (x + 6) 1)) (pc' := 16) cd_De_takeOnce rfl rfl hR.1.2.2.2.1.1 hR.1.2.2.2.1.2.1 (by rw [show bm_AL B (x + 6) = 4 from hR.1.2.2.2.1.2.2]; exact vp_in_nI (n := 1) (by decide) (by decide)) (show bm_AI B (x + 6) 1 = (bm_AI B (x + 6) 1) from congrFun (show bm_AI B (x + 6) = (bm_AI B (x + 6)) from rfl) 1) ?_
        refine g_ist (pc' := 18) cd_De_takeOnce rfl (Or.inl ⟨rfl, rfl⟩) (by decide) rfl (fun lv el => ?_)
        have l0 := tm_lk el l0 rfl (by decide)
        have l1 := tm_lk el l1 rfl (by decide)
        have l2 := tm_lk el l2 rfl (by decide)
        have l3 := tm_lk el l3 rfl (by decide)
        have l4 : lv.lookup 4 = some (.int ((bm_AI B (x + 6) 1))) := tm_lks el
        clear el
        refine g_ald (pc' := 19) cd_De_takeOnce rfl (Or.inr ⟨_, rfl, rfl, rfl⟩) l1 rfl rfl ?_
        refine g_ild (pc' := 21) cd_De_takeOnce rfl (Or.inl ⟨rfl, rfl⟩) l4 rfl ?_
        refine g_calli (pc' := 24) cd_De_takeOnce rfl rfl rfl rfl rfl (tm_invV rfl rfl cd_Te_publicOf rfl (Nat.le_of_ble_eq_true rfl) (by decide) hT.1.1.1 hT.1.1.2) (t_publicOf hT g1.1 (fun r44 ht44 => ?_))
        rw [if_pos (hk _ (List.mem_of_getElem? (i := 1) rfl))] at ht44
        show bm_G _ _ _ 24 _ [.int r44] B _
        refine g_ild (pc' := 25) cd_De_takeOnce rfl (Or.inr ⟨_, rfl, rfl, rfl⟩) l2 rfl ?_
        refine g_if2 (t := 91) (pc' := 28) cd_De_takeOnce rfl rfl rfl (fun c25 => ?_) (fun c25 => ?_)
        · have c25 : ¬ r44 = b := c25
          have n1 := c25
          have hp1 := ht44
          refine g_inc (y := 2) (pc' := 94) cd_De_takeOnce rfl l3 (by decide) (by decide) rfl (fun lv el => ?_)
          have l0 := tm_lk el l0 rfl (by decide)
          have l1 := tm_lk el l1 rfl (by decide)
          have l2 := tm_lk el l2 rfl (by decide)
          have l4 := tm_lk el l4 rfl (by decide)
          have l3 : lv.lookup 3 = some (.int 2) := tm_lks el
          clear el
          refine g_pure (pc' := 2) (st' := []) cd_De_takeOnce rfl rfl (fun _ _ => rfl) ?_
          refine g_ild (pc' := 3) cd_De_takeOnce rfl (Or.inr ⟨_, rfl, rfl, rfl⟩) l3 rfl ?_
          refine g_ald (pc' := 4) cd_De_takeOnce rfl (Or.inr ⟨_, rfl, rfl, rfl⟩) l0 rfl rfl ?_
          refine g_fI (c := 0) (k := 7) (x := 4) (pc' := 7) cd_De_takeOnce rfl rfl rfl rfl rfl (by decide) hR.1.1.1 hR.1.1.2 hR.2.2.2.1.1.1 ?_
          refine g_if2 (t := 97) (pc' := 10) cd_De_takeOnce rfl rfl rfl (fun c7 => ?_) (fun c7 => ?_)
          · exact absurd (show (4 : Int32) ≤ 2 from c7) (by decide)
          · have c7 : ¬ (4 : Int32) ≤ 2 := c7
            refine g_ald (pc' := 11) cd_De_takeOnce rfl (Or.inr ⟨_, rfl, rfl, rfl⟩) l0 rfl rfl ?_
            refine g_fR (c := 0) (k := 1) (x := (x + 6)) (pc' := 14) cd_De_takeOnce rfl rfl rfl rfl rfl (by decide) hR.1.1.1 hR.1.1.2 hR.1.2.1.2.1 ?_
            refine g_ild (pc' := 15) cd_De_takeOnce rfl (Or.inr ⟨_, rfl, rfl, rfl⟩) l3 rfl ?_
            refine g_aI (x := (bm_AI B (x + 6) 2)) (pc' := 16) cd_De_takeOnce rfl rfl hR.1.2.2.2.1.1 hR.1.2.2.2.1.2.1 (by rw [show bm_AL B (x + 6) = 4 from hR.1.2.2.2.1.2.2]; exact vp_in_nI (n := 2) (by decide) (by decide)) (show bm_AI B (x + 6) 2 = (bm_AI B (x + 6) 2) from congrFun (show bm_AI B (x + 6) = (bm_AI B (x + 6)) from rfl) 2) ?_
            refine g_ist (pc' := 18) cd_De_takeOnce rfl (Or.inl ⟨rfl, rfl⟩) (by decide) rfl (fun lv el => ?_)
            have l0 := tm_lk el l0 rfl (by decide)
            have l1 := tm_lk el l1 rfl (by decide)
            have l2 := tm_lk el l2 rfl (by decide)
            have l3 := tm_lk el l3 rfl (by decide)
            have l4 : lv.lookup 4 = some (.int ((bm_AI B (x + 6) 2))) := tm_lks el
            clear el
            refine g_ald (pc' := 19) cd_De_takeOnce rfl (Or.inr ⟨_, rfl, rfl, rfl⟩) l1 rfl rfl ?_
            refine g_ild (pc' := 21) cd_De_takeOnce rfl (Or.inl ⟨rfl, rfl⟩) l4 rfl ?_
            refine g_calli (pc' := 24) cd_De_takeOnce rfl rfl rfl rfl rfl (tm_invV rfl rfl cd_Te_publicOf rfl (Nat.le_of_ble_eq_true rfl) (by decide) hT.1.1.1 hT.1.1.2) (t_publicOf hT g2.1 (fun r45 ht45 => ?_))
            rw [if_pos (hk _ (List.mem_of_getElem? (i := 2) rfl))] at ht45
            show bm_G _ _ _ 24 _ [.int r45] B _
            refine g_ild (pc' := 25) cd_De_takeOnce rfl (Or.inr ⟨_, rfl, rfl, rfl⟩) l2 rfl ?_
            refine g_if2 (t := 91) (pc' := 28) cd_De_takeOnce rfl rfl rfl (fun c25 => ?_) (fun c25 => ?_)
            · have c25 : ¬ r45 = b := c25
              have n2 := c25
              have hp2 := ht45
              refine g_inc (y := 3) (pc' := 94) cd_De_takeOnce rfl l3 (by decide) (by decide) rfl (fun lv el => ?_)
              have l0 := tm_lk el l0 rfl (by decide)
              have l1 := tm_lk el l1 rfl (by decide)
              have l2 := tm_lk el l2 rfl (by decide)
              have l4 := tm_lk el l4 rfl (by decide)
              have l3 : lv.lookup 3 = some (.int 3) := tm_lks el
              clear el
              refine g_pure (pc' := 2) (st' := []) cd_De_takeOnce rfl rfl (fun _ _ => rfl) ?_
              refine g_ild (pc' := 3) cd_De_takeOnce rfl (Or.inr ⟨_, rfl, rfl, rfl⟩) l3 rfl ?_
              refine g_ald (pc' := 4) cd_De_takeOnce rfl (Or.inr ⟨_, rfl, rfl, rfl⟩) l0 rfl rfl ?_
              refine g_fI (c := 0) (k := 7) (x := 4) (pc' := 7) cd_De_takeOnce rfl rfl rfl rfl rfl (by decide) hR.1.1.1 hR.1.1.2 hR.2.2.2.1.1.1 ?_
              refine g_if2 (t := 97) (pc' := 10) cd_De_takeOnce rfl rfl rfl (fun c7 => ?_) (fun c7 => ?_)
              · exact absurd (show (4 : Int32) ≤ 3 from c7) (by decide)
              · have c7 : ¬ (4 : Int32) ≤ 3 := c7
                refine g_ald (pc' := 11) cd_De_takeOnce rfl (Or.inr ⟨_, rfl, rfl, rfl⟩) l0 rfl rfl ?_
                refine g_fR (c := 0) (k := 1) (x := (x + 6)) (pc' := 14) cd_De_takeOnce rfl rfl rfl rfl rfl (by decide) hR.1.1.1 hR.1.1.2 hR.1.2.1.2.1 ?_
                refine g_ild (pc' := 15) cd_De_takeOnce rfl (Or.inr ⟨_, rfl, rfl, rfl⟩) l3 rfl ?_
                refine g_aI (x := (bm_AI B (x + 6) 3)) (pc' := 16) cd_De_takeOnce rfl rfl hR.1.2.2.2.1.1 hR.1.2.2.2.1.2.1 (by rw [show bm_AL B (x + 6) = 4 from hR.1.2.2.2.1.2.2]; exact vp_in_nI (n := 3) (by decide) (by decide)) (show bm_AI B (x + 6) 3 = (bm_AI B (x + 6) 3) from congrFun (show bm_AI B (x + 6) = (bm_AI B (x + 6)) from rfl) 3) ?_
                refine g_ist (pc' := 18) cd_De_takeOnce rfl (Or.inl ⟨rfl, rfl⟩) (by decide) rfl (fun lv el => ?_)
                have l0 := tm_lk el l0 rfl (by decide)
                have l1 := tm_lk el l1 rfl (by decide)
                have l2 := tm_lk el l2 rfl (by decide)
                have l3 := tm_lk el l3 rfl (by decide)
                have l4 : lv.lookup 4 = some (.int ((bm_AI B (x + 6) 3))) := tm_lks el
                clear el
                refine g_ald (pc' := 19) cd_De_takeOnce rfl (Or.inr ⟨_, rfl, rfl, rfl⟩) l1 rfl rfl ?_
                refine g_ild (pc' := 21) cd_De_takeOnce rfl (Or.inl ⟨rfl, rfl⟩) l4 rfl ?_
                refine g_calli (pc' := 24) cd_De_takeOnce rfl rfl rfl rfl rfl (tm_invV rfl rfl cd_Te_publicOf rfl (Nat.le_of_ble_eq_true rfl) (by decide) hT.1.1.1 hT.1.1.2) (t_publicOf hT g3.1 (fun r46 ht46 => ?_))
                rw [if_pos (hk _ (List.mem_of_getElem? (i := 3) rfl))] at ht46
                show bm_G _ _ _ 24 _ [.int r46] B _
                refine g_ild (pc' := 25) cd_De_takeOnce rfl (Or.inr ⟨_, rfl, rfl, rfl⟩) l2 rfl ?_
                refine g_if2 (t := 91) (pc' := 28) cd_De_takeOnce rfl rfl rfl (fun c25 => ?_) (fun c25 => ?_)
                · have c25 : ¬ r46 = b := c25
                  have n3 := c25
                  have hp3 := ht46
                  refine g_inc (y := 4) (pc' := 94) cd_De_takeOnce rfl l3 (by decide) (by decide) rfl (fun lv el => ?_)
                  have l0 := tm_lk el l0 rfl (by decide)
                  have l1 := tm_lk el l1 rfl (by decide)
                  have l2 := tm_lk el l2 rfl (by decide)
                  have l4 := tm_lk el l4 rfl (by decide)
                  have l3 : lv.lookup 3 = some (.int 4) := tm_lks el
                  clear el
                  refine g_pure (pc' := 2) (st' := []) cd_De_takeOnce rfl rfl (fun _ _ => rfl) ?_
                  refine g_ild (pc' := 3) cd_De_takeOnce rfl (Or.inr ⟨_, rfl, rfl, rfl⟩) l3 rfl ?_
                  refine g_ald (pc' := 4) cd_De_takeOnce rfl (Or.inr ⟨_, rfl, rfl, rfl⟩) l0 rfl rfl ?_
                  refine g_fI (c := 0) (k := 7) (x := 4) (pc' := 7) cd_De_takeOnce rfl rfl rfl rfl rfl (by decide) hR.1.1.1 hR.1.1.2 hR.2.2.2.1.1.1 ?_
                  refine g_if2 (t := 97) (pc' := 10) cd_De_takeOnce rfl rfl rfl (fun c7 => ?_) (fun c7 => ?_)
                  · have c7 : (4 : Int32) ≤ 4 := c7
                    refine g_k1 (v := 0) (pc' := 98) cd_De_takeOnce rfl (by decide) rfl ?_
                    exact g_reti cd_De_takeOnce rfl ⟨_, rfl, (kk0 (all4 (P := fun e : Tm × Int32 => Tpub e.1 ≠ A) (fun q => n0 ((TI_eq hT hp0 hb).mpr q)) (fun q => n1 ((TI_eq hT hp1 hb).mpr q)) (fun q => n2 ((TI_eq hT hp2 hb).mpr q)) (fun q => n3 ((TI_eq hT hp3 hb).mpr q))))⟩
                  · exact absurd (show ¬ (4 : Int32) ≤ 4 from c7) (by decide)
                · have c25 : r46 = b := Classical.not_not.mp c25
                  have n3 := c25
                  have hp3 := ht46
                  refine g_ald (pc' := 29) cd_De_takeOnce rfl (Or.inr ⟨_, rfl, rfl, rfl⟩) l0 rfl rfl ?_
                  refine g_pure (pc' := 30) (st' := [.ref x, .ref x]) cd_De_takeOnce rfl rfl (fun _ _ => rfl) ?_
                  refine g_fI (c := 0) (k := 7) (x := 4) (pc' := 33) cd_De_takeOnce rfl rfl rfl rfl rfl (by decide) hR.1.1.1 hR.1.1.2 hR.2.2.2.1.1.1 ?_
                  refine g_k1 (v := 1) (pc' := 34) cd_De_takeOnce rfl (by decide) rfl ?_
                  refine g_pure (pc' := 35) (st' := [.int (4 - 1), .ref x]) cd_De_takeOnce rfl rfl (fun _ _ => rfl) ?_
                  rw [show (4 - 1 : Int32) = 3 from by decide]
                  refine g_putI (c := 0) (k := 7) (pc' := 38) cd_De_takeOnce rfl rfl rfl rfl (by simp [tm_okV, narrow, fits]) (Or.inl rfl) rfl (by decide) hR.1.1.1 hR.1.1.2 ?_
                  have P47 : bm_FI (bm_putI B 0 7 x 3) 0 7 x = 3 := if_pos ⟨rfl, rfl, rfl⟩
                  have Z48 : fz (fun y => y = x ∨ y = x + 6 ∨ y = x + 7) B (bm_putI B 0 7 x 3) := fz_trans (fz_rfl _ B) ⟨fr_mono (fun _ q => Or.inl q) (fr_putI _ 0 7 x _), rfl, rfl⟩
                  refine g_ild (pc' := 39) cd_De_takeOnce rfl (Or.inr ⟨_, rfl, rfl, rfl⟩) l3 rfl ?_
                  refine g_ist (pc' := 41) cd_De_takeOnce rfl (Or.inl ⟨rfl, rfl⟩) (by decide) rfl (fun lv el => ?_)
                  have l0 := tm_lk el l0 rfl (by decide)
                  have l1 := tm_lk el l1 rfl (by decide)
                  have l2 := tm_lk el l2 rfl (by decide)
                  have l3 := tm_lk el l3 rfl (by decide)
                  have l4 := tm_lk el l4 rfl (by decide)
                  have l5 : lv.lookup 5 = some (.int 3) := tm_lks el
                  clear el
                  refine g_ild (pc' := 43) cd_De_takeOnce rfl (Or.inl ⟨rfl, rfl⟩) l5 rfl ?_
                  refine g_ald (pc' := 44) cd_De_takeOnce rfl (Or.inr ⟨_, rfl, rfl, rfl⟩) l0 rfl rfl ?_
                  refine g_fI (c := 0) (k := 7) (x := 3) (pc' := 47) cd_De_takeOnce rfl rfl rfl rfl rfl (by decide) hR.1.1.1 hR.1.1.2 P47 ?_
                  refine g_if2 (t := 88) (pc' := 50) cd_De_takeOnce rfl rfl rfl (fun c47 => ?_) (fun c47 => ?_)
                  · have c47 : (3 : Int32) ≤ 3 := c47
                    refine g_ild (pc' := 90) cd_De_takeOnce rfl (Or.inl ⟨rfl, rfl⟩) l4 rfl ?_
                    have hA6 : bm_AI (bm_putI B 0 7 x 3) (x + 6) = (bm_AI B (x + 6)) := rfl
                    have hA7 : bm_AI (bm_putI B 0 7 x 3) (x + 7) = (bm_AI B (x + 7)) := rfl
                    have hO : ROn (bm_putI B 0 7 x 3) T x ([e0, e1, e2] : List (Tm × Int32)) := ⟨⟨P47, by simp⟩, by rw [hA6, hA7]; exact ix3 (P := fun (k : Nat) (e : Tm × Int32) => tv T ((bm_AI B (x + 6)) k) e.1 ∧ (bm_AI B (x + 7)) k = e.2) g0 g1 g2⟩
                    exact g_reti cd_De_takeOnce rfl ⟨_, rfl, (kk1 3 e3 _ _ rfl ((TI_eq hT hp3 hb).mp n3) (fun j e h hj => all3 (P := fun e : Tm × Int32 => Tpub e.1 ≠ A) (fun q => n0 ((TI_eq hT hp0 hb).mpr q)) (fun q => n1 ((TI_eq hT hp1 hb).mpr q)) (fun q => n2 ((TI_eq hT hp2 hb).mpr q)) j e (by rw [← hj]; rcases j with _ | _ | _ | j; all_goals first | rfl | omega)) g3.1 (RDe_top hR Z48.1 (fun y a b c e f => by omega) (List.prefix_refl T) hR.2.1 hO) Z48)⟩
                  · exact absurd (show ¬ (3 : Int32) ≤ 3 from c47) (by decide)
            · have c25 : r45 = b := Classical.not_not.mp c25
              have n2 := c25
              have hp2 := ht45
              refine g_ald (pc' := 29) cd_De_takeOnce rfl (Or.inr ⟨_, rfl, rfl, rfl⟩) l0 rfl rfl ?_
              refine g_pure (pc' := 30) (st' := [.ref x, .ref x]) cd_De_takeOnce rfl rfl (fun _ _ => rfl) ?_
              refine g_fI (c := 0) (k := 7) (x := 4) (pc' := 33) cd_De_takeOnce rfl rfl rfl rfl rfl (by decide) hR.1.1.1 hR.1.1.2 hR.2.2.2.1.1.1 ?_
              refine g_k1 (v := 1) (pc' := 34) cd_De_takeOnce rfl (by decide) rfl ?_
              refine g_pure (pc' := 35) (st' := [.int (4 - 1), .ref x]) cd_De_takeOnce rfl rfl (fun _ _ => rfl) ?_
              rw [show (4 - 1 : Int32) = 3 from by decide]
              refine g_putI (c := 0) (k := 7) (pc' := 38) cd_De_takeOnce rfl rfl rfl rfl (by simp [tm_okV, narrow, fits]) (Or.inl rfl) rfl (by decide) hR.1.1.1 hR.1.1.2 ?_
              have P49 : bm_FI (bm_putI B 0 7 x 3) 0 7 x = 3 := if_pos ⟨rfl, rfl, rfl⟩
              have Z50 : fz (fun y => y = x ∨ y = x + 6 ∨ y = x + 7) B (bm_putI B 0 7 x 3) := fz_trans (fz_rfl _ B) ⟨fr_mono (fun _ q => Or.inl q) (fr_putI _ 0 7 x _), rfl, rfl⟩
              refine g_ild (pc' := 39) cd_De_takeOnce rfl (Or.inr ⟨_, rfl, rfl, rfl⟩) l3 rfl ?_
              refine g_ist (pc' := 41) cd_De_takeOnce rfl (Or.inl ⟨rfl, rfl⟩) (by decide) rfl (fun lv el => ?_)
              have l0 := tm_lk el l0 rfl (by decide)
              have l1 := tm_lk el l1 rfl (by decide)
              have l2 := tm_lk el l2 rfl (by decide)
              have l3 := tm_lk el l3 rfl (by decide)
              have l4 := tm_lk el l4 rfl (by decide)
              have l5 : lv.lookup 5 = some (.int 2) := tm_lks el
              clear el
              refine g_ild (pc' := 43) cd_De_takeOnce rfl (Or.inl ⟨rfl, rfl⟩) l5 rfl ?_
              refine g_ald (pc' := 44) cd_De_takeOnce rfl (Or.inr ⟨_, rfl, rfl, rfl⟩) l0 rfl rfl ?_
              refine g_fI (c := 0) (k := 7) (x := 3) (pc' := 47) cd_De_takeOnce rfl rfl rfl rfl rfl (by decide) hR.1.1.1 hR.1.1.2 P49 ?_
              refine g_if2 (t := 88) (pc' := 50) cd_De_takeOnce rfl rfl rfl (fun c47 => ?_) (fun c47 => ?_)
              · exact absurd (show (3 : Int32) ≤ 2 from c47) (by decide)
              · have c47 : ¬ (3 : Int32) ≤ 2 := c47
                refine g_ald (pc' := 51) cd_De_takeOnce rfl (Or.inr ⟨_, rfl, rfl, rfl⟩) l0 rfl rfl ?_
                refine g_fR (c := 0) (k := 1) (x := (x + 6)) (pc' := 54) cd_De_takeOnce rfl rfl rfl rfl rfl (by decide) hR.1.1.1 hR.1.1.2 hR.1.2.1.2.1 ?_
                refine g_ild (pc' := 56) cd_De_takeOnce rfl (Or.inl ⟨rfl, rfl⟩) l5 rfl ?_
                refine g_ald (pc' := 57) cd_De_takeOnce rfl (Or.inr ⟨_, rfl, rfl, rfl⟩) l0 rfl rfl ?_
                refine g_fR (c := 0) (k := 1) (x := (x + 6)) (pc' := 60) cd_De_takeOnce rfl rfl rfl rfl rfl (by decide) hR.1.1.1 hR.1.1.2 hR.1.2.1.2.1 ?_
                refine g_ild (pc' := 62) cd_De_takeOnce rfl (Or.inl ⟨rfl, rfl⟩) l5 rfl ?_
                refine g_k1 (v := 1) (pc' := 63) cd_De_takeOnce rfl (by decide) rfl ?_
                refine g_pure (pc' := 64) (st' := [.int (2 + 1), .ref ((x + 6)), .int 2, .ref ((x + 6))]) cd_De_takeOnce rfl rfl (fun _ _ => rfl) ?_
                rw [show (2 + 1 : Int32) = 3 from by decide]
                refine g_aI (x := (bm_AI B (x + 6) 3)) (pc' := 65) cd_De_takeOnce rfl rfl hR.1.2.2.2.1.1 hR.1.2.2.2.1.2.1 (by rw [show bm_AL (bm_putI B 0 7 x 3) (x + 6) = 4 from hR.1.2.2.2.1.2.2]; exact vp_in_nI (n := 3) (by decide) (by decide)) (show bm_AI (bm_putI B 0 7 x 3) (x + 6) 3 = (bm_AI B (x + 6) 3) from congrFun (show bm_AI (bm_putI B 0 7 x 3) (x + 6) = (bm_AI B (x + 6)) from rfl) 3) ?_
                refine g_iast (pc' := 66) cd_De_takeOnce rfl rfl hR.1.2.2.2.1.1 hR.1.2.2.2.1.2.1 (by rw [show bm_AL (bm_putI B 0 7 x 3) (x + 6) = 4 from hR.1.2.2.2.1.2.2]; exact vp_in_nI (n := 2) (by decide) (by decide)) ?_
                rw [show (2 : Int32).toNatClampNeg = 2 from by decide]
                have A51 : bm_AI (bm_setI (bm_putI B 0 7 x 3) (x + 6) 2 (bm_AI B (x + 6) 3)) (x + 6) = (upd (bm_AI B (x + 6)) 2 (bm_AI B (x + 6) 3)) := ((AI_set (bm_putI B 0 7 x 3) (x + 6) 2 (bm_AI B (x + 6) 3)).trans (congrArg (fun f => upd f 2 (bm_AI B (x + 6) 3)) (show bm_AI (bm_putI B 0 7 x 3) (x + 6) = (bm_AI B (x + 6)) from rfl)))
                have A52 : bm_AI (bm_setI (bm_putI B 0 7 x 3) (x + 6) 2 (bm_AI B (x + 6) 3)) (x + 7) = (bm_AI B (x + 7)) := ((AI_setn (bm_putI B 0 7 x 3) 2 (bm_AI B (x + 6) 3) (x + 7) (by omega)).trans (show bm_AI (bm_putI B 0 7 x 3) (x + 7) = (bm_AI B (x + 7)) from rfl))
                have Z53 : fz (fun y => y = x ∨ y = x + 6 ∨ y = x + 7) B (bm_setI (bm_putI B 0 7 x 3) (x + 6) 2 (bm_AI B (x + 6) 3)) := fz_trans Z50 ⟨fr_mono (fun _ q => Or.inr (Or.inl q)) (fr_setI _ (x + 6) _ _), rfl, rfl⟩
                refine g_ald (pc' := 67) cd_De_takeOnce rfl (Or.inr ⟨_, rfl, rfl, rfl⟩) l0 rfl rfl ?_
                refine g_fR (c := 0) (k := 2) (x := (x + 7)) (pc' := 70) cd_De_takeOnce rfl rfl rfl rfl rfl (by decide) hR.1.1.1 hR.1.1.2 hR.1.2.1.2.2.1 ?_
                refine g_ild (pc' := 72) cd_De_takeOnce rfl (Or.inl ⟨rfl, rfl⟩) l5 rfl ?_
                refine g_ald (pc' := 73) cd_De_takeOnce rfl (Or.inr ⟨_, rfl, rfl, rfl⟩) l0 rfl rfl ?_
                refine g_fR (c := 0) (k := 2) (x := (x + 7)) (pc' := 76) cd_De_takeOnce rfl rfl rfl rfl rfl (by decide) hR.1.1.1 hR.1.1.2 hR.1.2.1.2.2.1 ?_
                refine g_ild (pc' := 78) cd_De_takeOnce rfl (Or.inl ⟨rfl, rfl⟩) l5 rfl ?_
                refine g_k1 (v := 1) (pc' := 79) cd_De_takeOnce rfl (by decide) rfl ?_
                refine g_pure (pc' := 80) (st' := [.int (2 + 1), .ref ((x + 7)), .int 2, .ref ((x + 7))]) cd_De_takeOnce rfl rfl (fun _ _ => rfl) ?_
                rw [show (2 + 1 : Int32) = 3 from by decide]
                refine g_aI (x := (bm_AI B (x + 7) 3)) (pc' := 81) cd_De_takeOnce rfl rfl hR.1.2.2.2.2.1.1 hR.1.2.2.2.2.1.2.1 (by rw [show bm_AL (bm_setI (bm_putI B 0 7 x 3) (x + 6) 2 (bm_AI B (x + 6) 3)) (x + 7) = 4 from hR.1.2.2.2.2.1.2.2]; exact vp_in_nI (n := 3) (by decide) (by decide)) (show bm_AI (bm_setI (bm_putI B 0 7 x 3) (x + 6) 2 (bm_AI B (x + 6) 3)) (x + 7) 3 = (bm_AI B (x + 7) 3) from congrFun (show bm_AI (bm_setI (bm_putI B 0 7 x 3) (x + 6) 2 (bm_AI B (x + 6) 3)) (x + 7) = (bm_AI B (x + 7)) from A52) 3) ?_
                refine g_iast (pc' := 82) cd_De_takeOnce rfl rfl hR.1.2.2.2.2.1.1 hR.1.2.2.2.2.1.2.1 (by rw [show bm_AL (bm_setI (bm_putI B 0 7 x 3) (x + 6) 2 (bm_AI B (x + 6) 3)) (x + 7) = 4 from hR.1.2.2.2.2.1.2.2]; exact vp_in_nI (n := 2) (by decide) (by decide)) ?_
                rw [show (2 : Int32).toNatClampNeg = 2 from by decide]
                have A54 : bm_AI (bm_setI (bm_setI (bm_putI B 0 7 x 3) (x + 6) 2 (bm_AI B (x + 6) 3)) (x + 7) 2 (bm_AI B (x + 7) 3)) (x + 6) = (upd (bm_AI B (x + 6)) 2 (bm_AI B (x + 6) 3)) := ((AI_setn (bm_setI (bm_putI B 0 7 x 3) (x + 6) 2 (bm_AI B (x + 6) 3)) 2 (bm_AI B (x + 7) 3) (x + 6) (by omega)).trans (show bm_AI (bm_setI (bm_putI B 0 7 x 3) (x + 6) 2 (bm_AI B (x + 6) 3)) (x + 6) = (upd (bm_AI B (x + 6)) 2 (bm_AI B (x + 6) 3)) from A51))
                have A55 : bm_AI (bm_setI (bm_setI (bm_putI B 0 7 x 3) (x + 6) 2 (bm_AI B (x + 6) 3)) (x + 7) 2 (bm_AI B (x + 7) 3)) (x + 7) = (upd (bm_AI B (x + 7)) 2 (bm_AI B (x + 7) 3)) := ((AI_set (bm_setI (bm_putI B 0 7 x 3) (x + 6) 2 (bm_AI B (x + 6) 3)) (x + 7) 2 (bm_AI B (x + 7) 3)).trans (congrArg (fun f => upd f 2 (bm_AI B (x + 7) 3)) (show bm_AI (bm_setI (bm_putI B 0 7 x 3) (x + 6) 2 (bm_AI B (x + 6) 3)) (x + 7) = (bm_AI B (x + 7)) from A52)))
                have Z56 : fz (fun y => y = x ∨ y = x + 6 ∨ y = x + 7) B (bm_setI (bm_setI (bm_putI B 0 7 x 3) (x + 6) 2 (bm_AI B (x + 6) 3)) (x + 7) 2 (bm_AI B (x + 7) 3)) := fz_trans Z53 ⟨fr_mono (fun _ q => Or.inr (Or.inr q)) (fr_setI _ (x + 7) _ _), rfl, rfl⟩
                refine g_inc (y := 3) (pc' := 85) cd_De_takeOnce rfl l5 (by decide) (by decide) rfl (fun lv el => ?_)
                have l0 := tm_lk el l0 rfl (by decide)
                have l1 := tm_lk el l1 rfl (by decide)
                have l2 := tm_lk el l2 rfl (by decide)
                have l3 := tm_lk el l3 rfl (by decide)
                have l4 := tm_lk el l4 rfl (by decide)
                have l5 : lv.lookup 5 = some (.int 3) := tm_lks el
                clear el
                refine g_pure (pc' := 41) (st' := []) cd_De_takeOnce rfl rfl (fun _ _ => rfl) ?_
                refine g_ild (pc' := 43) cd_De_takeOnce rfl (Or.inl ⟨rfl, rfl⟩) l5 rfl ?_
                refine g_ald (pc' := 44) cd_De_takeOnce rfl (Or.inr ⟨_, rfl, rfl, rfl⟩) l0 rfl rfl ?_
                refine g_fI (c := 0) (k := 7) (x := 3) (pc' := 47) cd_De_takeOnce rfl rfl rfl rfl rfl (by decide) hR.1.1.1 hR.1.1.2 P49 ?_
                refine g_if2 (t := 88) (pc' := 50) cd_De_takeOnce rfl rfl rfl (fun c47 => ?_) (fun c47 => ?_)
                · have c47 : (3 : Int32) ≤ 3 := c47
                  refine g_ild (pc' := 90) cd_De_takeOnce rfl (Or.inl ⟨rfl, rfl⟩) l4 rfl ?_
                  have hA6 : bm_AI (bm_setI (bm_setI (bm_putI B 0 7 x 3) (x + 6) 2 (bm_AI B (x + 6) 3)) (x + 7) 2 (bm_AI B (x + 7) 3)) (x + 6) = (upd (bm_AI B (x + 6)) 2 (bm_AI B (x + 6) 3)) := A54
                  have hA7 : bm_AI (bm_setI (bm_setI (bm_putI B 0 7 x 3) (x + 6) 2 (bm_AI B (x + 6) 3)) (x + 7) 2 (bm_AI B (x + 7) 3)) (x + 7) = (upd (bm_AI B (x + 7)) 2 (bm_AI B (x + 7) 3)) := A55
                  have hO : ROn (bm_setI (bm_setI (bm_putI B 0 7 x 3) (x + 6) 2 (bm_AI B (x + 6) 3)) (x + 7) 2 (bm_AI B (x + 7) 3)) T x ([e0, e1, e3] : List (Tm × Int32)) := ⟨⟨P49, by simp⟩, by rw [hA6, hA7]; exact ix3 (P := fun (k : Nat) (e : Tm × Int32) => tv T ((upd (bm_AI B (x + 6)) 2 (bm_AI B (x + 6) 3)) k) e.1 ∧ (upd (bm_AI B (x + 7)) 2 (bm_AI B (x + 7) 3)) k = e.2) g0 g1 g3⟩
                  exact g_reti cd_De_takeOnce rfl ⟨_, rfl, (kk1 2 e2 _ _ rfl ((TI_eq hT hp2 hb).mp n2) (fun j e h hj => all2 (P := fun e : Tm × Int32 => Tpub e.1 ≠ A) (fun q => n0 ((TI_eq hT hp0 hb).mpr q)) (fun q => n1 ((TI_eq hT hp1 hb).mpr q)) j e (by rw [← hj]; rcases j with _ | _ | j; all_goals first | rfl | omega)) g2.1 (RDe_top hR Z56.1 (fun y a b c e f => by omega) (List.prefix_refl T) hR.2.1 hO) Z56)⟩
                · exact absurd (show ¬ (3 : Int32) ≤ 3 from c47) (by decide)
        · have c25 : r44 = b := Classical.not_not.mp c25
          have n1 := c25
          have hp1 := ht44
          refine g_ald (pc' := 29) cd_De_takeOnce rfl (Or.inr ⟨_, rfl, rfl, rfl⟩) l0 rfl rfl ?_
          refine g_pure (pc' := 30) (st' := [.ref x, .ref x]) cd_De_takeOnce rfl rfl (fun _ _ => rfl) ?_
          refine g_fI (c := 0) (k := 7) (x := 4) (pc' := 33) cd_De_takeOnce rfl rfl rfl rfl rfl (by decide) hR.1.1.1 hR.1.1.2 hR.2.2.2.1.1.1 ?_
          refine g_k1 (v := 1) (pc' := 34) cd_De_takeOnce rfl (by decide) rfl ?_
          refine g_pure (pc' := 35) (st' := [.int (4 - 1), .ref x]) cd_De_takeOnce rfl rfl (fun _ _ => rfl) ?_
          rw [show (4 - 1 : Int32) = 3 from by decide]
          refine g_putI (c := 0) (k := 7) (pc' := 38) cd_De_takeOnce rfl rfl rfl rfl (by simp [tm_okV, narrow, fits]) (Or.inl rfl) rfl (by decide) hR.1.1.1 hR.1.1.2 ?_
          have P57 : bm_FI (bm_putI B 0 7 x 3) 0 7 x = 3 := if_pos ⟨rfl, rfl, rfl⟩
          have Z58 : fz (fun y => y = x ∨ y = x + 6 ∨ y = x + 7) B (bm_putI B 0 7 x 3) := fz_trans (fz_rfl _ B) ⟨fr_mono (fun _ q => Or.inl q) (fr_putI _ 0 7 x _), rfl, rfl⟩
          refine g_ild (pc' := 39) cd_De_takeOnce rfl (Or.inr ⟨_, rfl, rfl, rfl⟩) l3 rfl ?_
          refine g_ist (pc' := 41) cd_De_takeOnce rfl (Or.inl ⟨rfl, rfl⟩) (by decide) rfl (fun lv el => ?_)
          have l0 := tm_lk el l0 rfl (by decide)
          have l1 := tm_lk el l1 rfl (by decide)
          have l2 := tm_lk el l2 rfl (by decide)
          have l3 := tm_lk el l3 rfl (by decide)
          have l4 := tm_lk el l4 rfl (by decide)
          have l5 : lv.lookup 5 = some (.int 1) := tm_lks el
          clear el
          refine g_ild (pc' := 43) cd_De_takeOnce rfl (Or.inl ⟨rfl, rfl⟩) l5 rfl ?_
          refine g_ald (pc' := 44) cd_De_takeOnce rfl (Or.inr ⟨_, rfl, rfl, rfl⟩) l0 rfl rfl ?_
          refine g_fI (c := 0) (k := 7) (x := 3) (pc' := 47) cd_De_takeOnce rfl rfl rfl rfl rfl (by decide) hR.1.1.1 hR.1.1.2 P57 ?_
          refine g_if2 (t := 88) (pc' := 50) cd_De_takeOnce rfl rfl rfl (fun c47 => ?_) (fun c47 => ?_)
          · exact absurd (show (3 : Int32) ≤ 1 from c47) (by decide)
          · have c47 : ¬ (3 : Int32) ≤ 1 := c47
            refine g_ald (pc' := 51) cd_De_takeOnce rfl (Or.inr ⟨_, rfl, rfl, rfl⟩) l0 rfl rfl ?_
            refine g_fR (c := 0) (k := 1) (x := (x + 6)) (pc' := 54) cd_De_takeOnce rfl rfl rfl rfl rfl (by decide) hR.1.1.1 hR.1.1.2 hR.1.2.1.2.1 ?_
            refine g_ild (pc' := 56) cd_De_takeOnce rfl (Or.inl ⟨rfl, rfl⟩) l5 rfl ?_
            refine g_ald (pc' := 57) cd_De_takeOnce rfl (Or.inr ⟨_, rfl, rfl, rfl⟩) l0 rfl rfl ?_
            refine g_fR (c := 0) (k := 1) (x := (x + 6)) (pc' := 60) cd_De_takeOnce rfl rfl rfl rfl rfl (by decide) hR.1.1.1 hR.1.1.2 hR.1.2.1.2.1 ?_
            refine g_ild (pc' := 62) cd_De_takeOnce rfl (Or.inl ⟨rfl, rfl⟩) l5 rfl ?_
            refine g_k1 (v := 1) (pc' := 63) cd_De_takeOnce rfl (by decide) rfl ?_
            refine g_pure (pc' := 64) (st' := [.int (1 + 1), .ref ((x + 6)), .int 1, .ref ((x + 6))]) cd_De_takeOnce rfl rfl (fun _ _ => rfl) ?_
            rw [show (1 + 1 : Int32) = 2 from by decide]
            refine g_aI (x := (bm_AI B (x + 6) 2)) (pc' := 65) cd_De_takeOnce rfl rfl hR.1.2.2.2.1.1 hR.1.2.2.2.1.2.1 (by rw [show bm_AL (bm_putI B 0 7 x 3) (x + 6) = 4 from hR.1.2.2.2.1.2.2]; exact vp_in_nI (n := 2) (by decide) (by decide)) (show bm_AI (bm_putI B 0 7 x 3) (x + 6) 2 = (bm_AI B (x + 6) 2) from congrFun (show bm_AI (bm_putI B 0 7 x 3) (x + 6) = (bm_AI B (x + 6)) from rfl) 2) ?_
            refine g_iast (pc' := 66) cd_De_takeOnce rfl rfl hR.1.2.2.2.1.1 hR.1.2.2.2.1.2.1 (by rw [show bm_AL (bm_putI B 0 7 x 3) (x + 6) = 4 from hR.1.2.2.2.1.2.2]; exact vp_in_nI (n := 1) (by decide) (by decide)) ?_
            rw [show (1 : Int32).toNatClampNeg = 1 from by decide]
            have A59 : bm_AI (bm_setI (bm_putI B 0 7 x 3) (x + 6) 1 (bm_AI B (x + 6) 2)) (x + 6) = (upd (bm_AI B (x + 6)) 1 (bm_AI B (x + 6) 2)) := ((AI_set (bm_putI B 0 7 x 3) (x + 6) 1 (bm_AI B (x + 6) 2)).trans (congrArg (fun f => upd f 1 (bm_AI B (x + 6) 2)) (show bm_AI (bm_putI B 0 7 x 3) (x + 6) = (bm_AI B (x + 6)) from rfl)))
            have A60 : bm_AI (bm_setI (bm_putI B 0 7 x 3) (x + 6) 1 (bm_AI B (x + 6) 2)) (x + 7) = (bm_AI B (x + 7)) := ((AI_setn (bm_putI B 0 7 x 3) 1 (bm_AI B (x + 6) 2) (x + 7) (by omega)).trans (show bm_AI (bm_putI B 0 7 x 3) (x + 7) = (bm_AI B (x + 7)) from rfl))
            have Z61 : fz (fun y => y = x ∨ y = x + 6 ∨ y = x + 7) B (bm_setI (bm_putI B 0 7 x 3) (x + 6) 1 (bm_AI B (x + 6) 2)) := fz_trans Z58 ⟨fr_mono (fun _ q => Or.inr (Or.inl q)) (fr_setI _ (x + 6) _ _), rfl, rfl⟩
            refine g_ald (pc' := 67) cd_De_takeOnce rfl (Or.inr ⟨_, rfl, rfl, rfl⟩) l0 rfl rfl ?_
            refine g_fR (c := 0) (k := 2) (x := (x + 7)) (pc' := 70) cd_De_takeOnce rfl rfl rfl rfl rfl (by decide) hR.1.1.1 hR.1.1.2 hR.1.2.1.2.2.1 ?_
            refine g_ild (pc' := 72) cd_De_takeOnce rfl (Or.inl ⟨rfl, rfl⟩) l5 rfl ?_
            refine g_ald (pc' := 73) cd_De_takeOnce rfl (Or.inr ⟨_, rfl, rfl, rfl⟩) l0 rfl rfl ?_
            refine g_fR (c := 0) (k := 2) (x := (x + 7)) (pc' := 76) cd_De_takeOnce rfl rfl rfl rfl rfl (by decide) hR.1.1.1 hR.1.1.2 hR.1.2.1.2.2.1 ?_
            refine g_ild (pc' := 78) cd_De_takeOnce rfl (Or.inl ⟨rfl, rfl⟩) l5 rfl ?_
            refine g_k1 (v := 1) (pc' := 79) cd_De_takeOnce rfl (by decide) rfl ?_
            refine g_pure (pc' := 80) (st' := [.int (1 + 1), .ref ((x + 7)), .int 1, .ref ((x + 7))]) cd_De_takeOnce rfl rfl (fun _ _ => rfl) ?_
            rw [show (1 + 1 : Int32) = 2 from by decide]
            refine g_aI (x := (bm_AI B (x + 7) 2)) (pc' := 81) cd_De_takeOnce rfl rfl hR.1.2.2.2.2.1.1 hR.1.2.2.2.2.1.2.1 (by rw [show bm_AL (bm_setI (bm_putI B 0 7 x 3) (x + 6) 1 (bm_AI B (x + 6) 2)) (x + 7) = 4 from hR.1.2.2.2.2.1.2.2]; exact vp_in_nI (n := 2) (by decide) (by decide)) (show bm_AI (bm_setI (bm_putI B 0 7 x 3) (x + 6) 1 (bm_AI B (x + 6) 2)) (x + 7) 2 = (bm_AI B (x + 7) 2) from congrFun (show bm_AI (bm_setI (bm_putI B 0 7 x 3) (x + 6) 1 (bm_AI B (x + 6) 2)) (x + 7) = (bm_AI B (x + 7)) from A60) 2) ?_
            refine g_iast (pc' := 82) cd_De_takeOnce rfl rfl hR.1.2.2.2.2.1.1 hR.1.2.2.2.2.1.2.1 (by rw [show bm_AL (bm_setI (bm_putI B 0 7 x 3) (x + 6) 1 (bm_AI B (x + 6) 2)) (x + 7) = 4 from hR.1.2.2.2.2.1.2.2]; exact vp_in_nI (n := 1) (by decide) (by decide)) ?_
            rw [show (1 : Int32).toNatClampNeg = 1 from by decide]
            have A62 : bm_AI (bm_setI (bm_setI (bm_putI B 0 7 x 3) (x + 6) 1 (bm_AI B (x + 6) 2)) (x + 7) 1 (bm_AI B (x + 7) 2)) (x + 6) = (upd (bm_AI B (x + 6)) 1 (bm_AI B (x + 6) 2)) := ((AI_setn (bm_setI (bm_putI B 0 7 x 3) (x + 6) 1 (bm_AI B (x + 6) 2)) 1 (bm_AI B (x + 7) 2) (x + 6) (by omega)).trans (show bm_AI (bm_setI (bm_putI B 0 7 x 3) (x + 6) 1 (bm_AI B (x + 6) 2)) (x + 6) = (upd (bm_AI B (x + 6)) 1 (bm_AI B (x + 6) 2)) from A59))
            have A63 : bm_AI (bm_setI (bm_setI (bm_putI B 0 7 x 3) (x + 6) 1 (bm_AI B (x + 6) 2)) (x + 7) 1 (bm_AI B (x + 7) 2)) (x + 7) = (upd (bm_AI B (x + 7)) 1 (bm_AI B (x + 7) 2)) := ((AI_set (bm_setI (bm_putI B 0 7 x 3) (x + 6) 1 (bm_AI B (x + 6) 2)) (x + 7) 1 (bm_AI B (x + 7) 2)).trans (congrArg (fun f => upd f 1 (bm_AI B (x + 7) 2)) (show bm_AI (bm_setI (bm_putI B 0 7 x 3) (x + 6) 1 (bm_AI B (x + 6) 2)) (x + 7) = (bm_AI B (x + 7)) from A60)))
            have Z64 : fz (fun y => y = x ∨ y = x + 6 ∨ y = x + 7) B (bm_setI (bm_setI (bm_putI B 0 7 x 3) (x + 6) 1 (bm_AI B (x + 6) 2)) (x + 7) 1 (bm_AI B (x + 7) 2)) := fz_trans Z61 ⟨fr_mono (fun _ q => Or.inr (Or.inr q)) (fr_setI _ (x + 7) _ _), rfl, rfl⟩
            refine g_inc (y := 2) (pc' := 85) cd_De_takeOnce rfl l5 (by decide) (by decide) rfl (fun lv el => ?_)
            have l0 := tm_lk el l0 rfl (by decide)
            have l1 := tm_lk el l1 rfl (by decide)
            have l2 := tm_lk el l2 rfl (by decide)
            have l3 := tm_lk el l3 rfl (by decide)
            have l4 := tm_lk el l4 rfl (by decide)
            have l5 : lv.lookup 5 = some (.int 2) := tm_lks el
            clear el
            refine g_pure (pc' := 41) (st' := []) cd_De_takeOnce rfl rfl (fun _ _ => rfl) ?_
            refine g_ild (pc' := 43) cd_De_takeOnce rfl (Or.inl ⟨rfl, rfl⟩) l5 rfl ?_
            refine g_ald (pc' := 44) cd_De_takeOnce rfl (Or.inr ⟨_, rfl, rfl, rfl⟩) l0 rfl rfl ?_
            refine g_fI (c := 0) (k := 7) (x := 3) (pc' := 47) cd_De_takeOnce rfl rfl rfl rfl rfl (by decide) hR.1.1.1 hR.1.1.2 P57 ?_
            refine g_if2 (t := 88) (pc' := 50) cd_De_takeOnce rfl rfl rfl (fun c47 => ?_) (fun c47 => ?_)
            · exact absurd (show (3 : Int32) ≤ 2 from c47) (by decide)
            · have c47 : ¬ (3 : Int32) ≤ 2 := c47
              refine g_ald (pc' := 51) cd_De_takeOnce rfl (Or.inr ⟨_, rfl, rfl, rfl⟩) l0 rfl rfl ?_
              refine g_fR (c := 0) (k := 1) (x := (x + 6)) (pc' := 54) cd_De_takeOnce rfl rfl rfl rfl rfl (by decide) hR.1.1.1 hR.1.1.2 hR.1.2.1.2.1 ?_
              refine g_ild (pc' := 56) cd_De_takeOnce rfl (Or.inl ⟨rfl, rfl⟩) l5 rfl ?_
              refine g_ald (pc' := 57) cd_De_takeOnce rfl (Or.inr ⟨_, rfl, rfl, rfl⟩) l0 rfl rfl ?_
              refine g_fR (c := 0) (k := 1) (x := (x + 6)) (pc' := 60) cd_De_takeOnce rfl rfl rfl rfl rfl (by decide) hR.1.1.1 hR.1.1.2 hR.1.2.1.2.1 ?_
              refine g_ild (pc' := 62) cd_De_takeOnce rfl (Or.inl ⟨rfl, rfl⟩) l5 rfl ?_
              refine g_k1 (v := 1) (pc' := 63) cd_De_takeOnce rfl (by decide) rfl ?_
              refine g_pure (pc' := 64) (st' := [.int (2 + 1), .ref ((x + 6)), .int 2, .ref ((x + 6))]) cd_De_takeOnce rfl rfl (fun _ _ => rfl) ?_
              rw [show (2 + 1 : Int32) = 3 from by decide]
              refine g_aI (x := (bm_AI B (x + 6) 3)) (pc' := 65) cd_De_takeOnce rfl rfl hR.1.2.2.2.1.1 hR.1.2.2.2.1.2.1 (by rw [show bm_AL (bm_setI (bm_setI (bm_putI B 0 7 x 3) (x + 6) 1 (bm_AI B (x + 6) 2)) (x + 7) 1 (bm_AI B (x + 7) 2)) (x + 6) = 4 from hR.1.2.2.2.1.2.2]; exact vp_in_nI (n := 3) (by decide) (by decide)) (show bm_AI (bm_setI (bm_setI (bm_putI B 0 7 x 3) (x + 6) 1 (bm_AI B (x + 6) 2)) (x + 7) 1 (bm_AI B (x + 7) 2)) (x + 6) 3 = (bm_AI B (x + 6) 3) from congrFun (show bm_AI (bm_setI (bm_setI (bm_putI B 0 7 x 3) (x + 6) 1 (bm_AI B (x + 6) 2)) (x + 7) 1 (bm_AI B (x + 7) 2)) (x + 6) = (upd (bm_AI B (x + 6)) 1 (bm_AI B (x + 6) 2)) from A62) 3) ?_
              refine g_iast (pc' := 66) cd_De_takeOnce rfl rfl hR.1.2.2.2.1.1 hR.1.2.2.2.1.2.1 (by rw [show bm_AL (bm_setI (bm_setI (bm_putI B 0 7 x 3) (x + 6) 1 (bm_AI B (x + 6) 2)) (x + 7) 1 (bm_AI B (x + 7) 2)) (x + 6) = 4 from hR.1.2.2.2.1.2.2]; exact vp_in_nI (n := 2) (by decide) (by decide)) ?_
              rw [show (2 : Int32).toNatClampNeg = 2 from by decide]
              have A65 : bm_AI (bm_setI (bm_setI (bm_setI (bm_putI B 0 7 x 3) (x + 6) 1 (bm_AI B (x + 6) 2)) (x + 7) 1 (bm_AI B (x + 7) 2)) (x + 6) 2 (bm_AI B (x + 6) 3)) (x + 6) = (upd (upd (bm_AI B (x + 6)) 1 (bm_AI B (x + 6) 2)) 2 (bm_AI B (x + 6) 3)) := ((AI_set (bm_setI (bm_setI (bm_putI B 0 7 x 3) (x + 6) 1 (bm_AI B (x + 6) 2)) (x + 7) 1 (bm_AI B (x + 7) 2)) (x + 6) 2 (bm_AI B (x + 6) 3)).trans (congrArg (fun f => upd f 2 (bm_AI B (x + 6) 3)) (show bm_AI (bm_setI (bm_setI (bm_putI B 0 7 x 3) (x + 6) 1 (bm_AI B (x + 6) 2)) (x + 7) 1 (bm_AI B (x + 7) 2)) (x + 6) = (upd (bm_AI B (x + 6)) 1 (bm_AI B (x + 6) 2)) from A62)))
              have A66 : bm_AI (bm_setI (bm_setI (bm_setI (bm_putI B 0 7 x 3) (x + 6) 1 (bm_AI B (x + 6) 2)) (x + 7) 1 (bm_AI B (x + 7) 2)) (x + 6) 2 (bm_AI B (x + 6) 3)) (x + 7) = (upd (bm_AI B (x + 7)) 1 (bm_AI B (x + 7) 2)) := ((AI_setn (bm_setI (bm_setI (bm_putI B 0 7 x 3) (x + 6) 1 (bm_AI B (x + 6) 2)) (x + 7) 1 (bm_AI B (x + 7) 2)) 2 (bm_AI B (x + 6) 3) (x + 7) (by omega)).trans (show bm_AI (bm_setI (bm_setI (bm_putI B 0 7 x 3) (x + 6) 1 (bm_AI B (x + 6) 2)) (x + 7) 1 (bm_AI B (x + 7) 2)) (x + 7) = (upd (bm_AI B (x + 7)) 1 (bm_AI B (x + 7) 2)) from A63))
              have Z67 : fz (fun y => y = x ∨ y = x + 6 ∨ y = x + 7) B (bm_setI (bm_setI (bm_setI (bm_putI B 0 7 x 3) (x + 6) 1 (bm_AI B (x + 6) 2)) (x + 7) 1 (bm_AI B (x + 7) 2)) (x + 6) 2 (bm_AI B (x + 6) 3)) := fz_trans Z64 ⟨fr_mono (fun _ q => Or.inr (Or.inl q)) (fr_setI _ (x + 6) _ _), rfl, rfl⟩
              refine g_ald (pc' := 67) cd_De_takeOnce rfl (Or.inr ⟨_, rfl, rfl, rfl⟩) l0 rfl rfl ?_
              refine g_fR (c := 0) (k := 2) (x := (x + 7)) (pc' := 70) cd_De_takeOnce rfl rfl rfl rfl rfl (by decide) hR.1.1.1 hR.1.1.2 hR.1.2.1.2.2.1 ?_
              refine g_ild (pc' := 72) cd_De_takeOnce rfl (Or.inl ⟨rfl, rfl⟩) l5 rfl ?_
              refine g_ald (pc' := 73) cd_De_takeOnce rfl (Or.inr ⟨_, rfl, rfl, rfl⟩) l0 rfl rfl ?_
              refine g_fR (c := 0) (k := 2) (x := (x + 7)) (pc' := 76) cd_De_takeOnce rfl rfl rfl rfl rfl (by decide) hR.1.1.1 hR.1.1.2 hR.1.2.1.2.2.1 ?_
              refine g_ild (pc' := 78) cd_De_takeOnce rfl (Or.inl ⟨rfl, rfl⟩) l5 rfl ?_
              refine g_k1 (v := 1) (pc' := 79) cd_De_takeOnce rfl (by decide) rfl ?_
              refine g_pure (pc' := 80) (st' := [.int (2 + 1), .ref ((x + 7)), .int 2, .ref ((x + 7))]) cd_De_takeOnce rfl rfl (fun _ _ => rfl) ?_
              rw [show (2 + 1 : Int32) = 3 from by decide]
              refine g_aI (x := (bm_AI B (x + 7) 3)) (pc' := 81) cd_De_takeOnce rfl rfl hR.1.2.2.2.2.1.1 hR.1.2.2.2.2.1.2.1 (by rw [show bm_AL (bm_setI (bm_setI (bm_setI (bm_putI B 0 7 x 3) (x + 6) 1 (bm_AI B (x + 6) 2)) (x + 7) 1 (bm_AI B (x + 7) 2)) (x + 6) 2 (bm_AI B (x + 6) 3)) (x + 7) = 4 from hR.1.2.2.2.2.1.2.2]; exact vp_in_nI (n := 3) (by decide) (by decide)) (show bm_AI (bm_setI (bm_setI (bm_setI (bm_putI B 0 7 x 3) (x + 6) 1 (bm_AI B (x + 6) 2)) (x + 7) 1 (bm_AI B (x + 7) 2)) (x + 6) 2 (bm_AI B (x + 6) 3)) (x + 7) 3 = (bm_AI B (x + 7) 3) from congrFun (show bm_AI (bm_setI (bm_setI (bm_setI (bm_putI B 0 7 x 3) (x + 6) 1 (bm_AI B (x + 6) 2)) (x + 7) 1 (bm_AI B (x + 7) 2)) (x + 6) 2 (bm_AI B (x + 6) 3)) (x + 7) = (upd (bm_AI B (x + 7)) 1 (bm_AI B (x + 7) 2)) from A66) 3) ?_
              refine g_iast (pc' := 82) cd_De_takeOnce rfl rfl hR.1.2.2.2.2.1.1 hR.1.2.2.2.2.1.2.1 (by rw [show bm_AL (bm_setI (bm_setI (bm_setI (bm_putI B 0 7 x 3) (x + 6) 1 (bm_AI B (x + 6) 2)) (x + 7) 1 (bm_AI B (x + 7) 2)) (x + 6) 2 (bm_AI B (x + 6) 3)) (x + 7) = 4 from hR.1.2.2.2.2.1.2.2]; exact vp_in_nI (n := 2) (by decide) (by decide)) ?_
              rw [show (2 : Int32).toNatClampNeg = 2 from by decide]
              have A68 : bm_AI (bm_setI (bm_setI (bm_setI (bm_setI (bm_putI B 0 7 x 3) (x + 6) 1 (bm_AI B (x + 6) 2)) (x + 7) 1 (bm_AI B (x + 7) 2)) (x + 6) 2 (bm_AI B (x + 6) 3)) (x + 7) 2 (bm_AI B (x + 7) 3)) (x + 6) = (upd (upd (bm_AI B (x + 6)) 1 (bm_AI B (x + 6) 2)) 2 (bm_AI B (x + 6) 3)) := ((AI_setn (bm_setI (bm_setI (bm_setI (bm_putI B 0 7 x 3) (x + 6) 1 (bm_AI B (x + 6) 2)) (x + 7) 1 (bm_AI B (x + 7) 2)) (x + 6) 2 (bm_AI B (x + 6) 3)) 2 (bm_AI B (x + 7) 3) (x + 6) (by omega)).trans (show bm_AI (bm_setI (bm_setI (bm_setI (bm_putI B 0 7 x 3) (x + 6) 1 (bm_AI B (x + 6) 2)) (x + 7) 1 (bm_AI B (x + 7) 2)) (x + 6) 2 (bm_AI B (x + 6) 3)) (x + 6) = (upd (upd (bm_AI B (x + 6)) 1 (bm_AI B (x + 6) 2)) 2 (bm_AI B (x + 6) 3)) from A65))
              have A69 : bm_AI (bm_setI (bm_setI (bm_setI (bm_setI (bm_putI B 0 7 x 3) (x + 6) 1 (bm_AI B (x + 6) 2)) (x + 7) 1 (bm_AI B (x + 7) 2)) (x + 6) 2 (bm_AI B (x + 6) 3)) (x + 7) 2 (bm_AI B (x + 7) 3)) (x + 7) = (upd (upd (bm_AI B (x + 7)) 1 (bm_AI B (x + 7) 2)) 2 (bm_AI B (x + 7) 3)) := ((AI_set (bm_setI (bm_setI (bm_setI (bm_putI B 0 7 x 3) (x + 6) 1 (bm_AI B (x + 6) 2)) (x + 7) 1 (bm_AI B (x + 7) 2)) (x + 6) 2 (bm_AI B (x + 6) 3)) (x + 7) 2 (bm_AI B (x + 7) 3)).trans (congrArg (fun f => upd f 2 (bm_AI B (x + 7) 3)) (show bm_AI (bm_setI (bm_setI (bm_setI (bm_putI B 0 7 x 3) (x + 6) 1 (bm_AI B (x + 6) 2)) (x + 7) 1 (bm_AI B (x + 7) 2)) (x + 6) 2 (bm_AI B (x + 6) 3)) (x + 7) = (upd (bm_AI B (x + 7)) 1 (bm_AI B (x + 7) 2)) from A66)))
              have Z70 : fz (fun y => y = x ∨ y = x + 6 ∨ y = x + 7) B (bm_setI (bm_setI (bm_setI (bm_setI (bm_putI B 0 7 x 3) (x + 6) 1 (bm_AI B (x + 6) 2)) (x + 7) 1 (bm_AI B (x + 7) 2)) (x + 6) 2 (bm_AI B (x + 6) 3)) (x + 7) 2 (bm_AI B (x + 7) 3)) := fz_trans Z67 ⟨fr_mono (fun _ q => Or.inr (Or.inr q)) (fr_setI _ (x + 7) _ _), rfl, rfl⟩
              refine g_inc (y := 3) (pc' := 85) cd_De_takeOnce rfl l5 (by decide) (by decide) rfl (fun lv el => ?_)
              have l0 := tm_lk el l0 rfl (by decide)
              have l1 := tm_lk el l1 rfl (by decide)
              have l2 := tm_lk el l2 rfl (by decide)
              have l3 := tm_lk el l3 rfl (by decide)
              have l4 := tm_lk el l4 rfl (by decide)
              have l5 : lv.lookup 5 = some (.int 3) := tm_lks el
              clear el
              refine g_pure (pc' := 41) (st' := []) cd_De_takeOnce rfl rfl (fun _ _ => rfl) ?_
              refine g_ild (pc' := 43) cd_De_takeOnce rfl (Or.inl ⟨rfl, rfl⟩) l5 rfl ?_
              refine g_ald (pc' := 44) cd_De_takeOnce rfl (Or.inr ⟨_, rfl, rfl, rfl⟩) l0 rfl rfl ?_
              refine g_fI (c := 0) (k := 7) (x := 3) (pc' := 47) cd_De_takeOnce rfl rfl rfl rfl rfl (by decide) hR.1.1.1 hR.1.1.2 P57 ?_
              refine g_if2 (t := 88) (pc' := 50) cd_De_takeOnce rfl rfl rfl (fun c47 => ?_) (fun c47 => ?_)
              · have c47 : (3 : Int32) ≤ 3 := c47
                refine g_ild (pc' := 90) cd_De_takeOnce rfl (Or.inl ⟨rfl, rfl⟩) l4 rfl ?_
                have hA6 : bm_AI (bm_setI (bm_setI (bm_setI (bm_setI (bm_putI B 0 7 x 3) (x + 6) 1 (bm_AI B (x + 6) 2)) (x + 7) 1 (bm_AI B (x + 7) 2)) (x + 6) 2 (bm_AI B (x + 6) 3)) (x + 7) 2 (bm_AI B (x + 7) 3)) (x + 6) = (upd (upd (bm_AI B (x + 6)) 1 (bm_AI B (x + 6) 2)) 2 (bm_AI B (x + 6) 3)) := A68
                have hA7 : bm_AI (bm_setI (bm_setI (bm_setI (bm_setI (bm_putI B 0 7 x 3) (x + 6) 1 (bm_AI B (x + 6) 2)) (x + 7) 1 (bm_AI B (x + 7) 2)) (x + 6) 2 (bm_AI B (x + 6) 3)) (x + 7) 2 (bm_AI B (x + 7) 3)) (x + 7) = (upd (upd (bm_AI B (x + 7)) 1 (bm_AI B (x + 7) 2)) 2 (bm_AI B (x + 7) 3)) := A69
                have hO : ROn (bm_setI (bm_setI (bm_setI (bm_setI (bm_putI B 0 7 x 3) (x + 6) 1 (bm_AI B (x + 6) 2)) (x + 7) 1 (bm_AI B (x + 7) 2)) (x + 6) 2 (bm_AI B (x + 6) 3)) (x + 7) 2 (bm_AI B (x + 7) 3)) T x ([e0, e2, e3] : List (Tm × Int32)) := ⟨⟨P57, by simp⟩, by rw [hA6, hA7]; exact ix3 (P := fun (k : Nat) (e : Tm × Int32) => tv T ((upd (upd (bm_AI B (x + 6)) 1 (bm_AI B (x + 6) 2)) 2 (bm_AI B (x + 6) 3)) k) e.1 ∧ (upd (upd (bm_AI B (x + 7)) 1 (bm_AI B (x + 7) 2)) 2 (bm_AI B (x + 7) 3)) k = e.2) g0 g2 g3⟩
                exact g_reti cd_De_takeOnce rfl ⟨_, rfl, (kk1 1 e1 _ _ rfl ((TI_eq hT hp1 hb).mp n1) (fun j e h hj => all1 (P := fun e : Tm × Int32 => Tpub e.1 ≠ A) (fun q => n0 ((TI_eq hT hp0 hb).mpr q)) j e (by rw [← hj]; rcases j with _ | j; all_goals first | rfl | omega)) g1.1 (RDe_top hR Z70.1 (fun y a b c e f => by omega) (List.prefix_refl T) hR.2.1 hO) Z70)⟩
              · exact absurd (show ¬ (3 : Int32) ≤ 3 from c47) (by decide)
    · have c25 : r43 = b := Classical.not_not.mp c25
      have n0 := c25
      have hp0 := ht43
      refine g_ald (pc' := 29) cd_De_takeOnce rfl (Or.inr ⟨_, rfl, rfl, rfl⟩) l0 rfl rfl ?_
      refine g_pure (pc' := 30) (st' := [.ref x, .ref x]) cd_De_takeOnce rfl rfl (fun _ _ => rfl) ?_
      refine g_fI (c := 0) (k := 7) (x := 4) (pc' := 33) cd_De_takeOnce rfl rfl rfl rfl rfl (by decide) hR.1.1.1 hR.1.1.2 hR.2.2.2.1.1.1 ?_
      refine g_k1 (v := 1) (pc' := 34) cd_De_takeOnce rfl (by decide) rfl ?_
      refine g_pure (pc' := 35) (st' := [.int (4 - 1), .ref x]) cd_De_takeOnce rfl rfl (fun _ _ => rfl) ?_
      rw [show (4 - 1 : Int32) = 3 from by decide]
      refine g_putI (c := 0) (k := 7) (pc' := 38) cd_De_takeOnce rfl rfl rfl rfl (by simp [tm_okV, narrow, fits]) (Or.inl rfl) rfl (by decide) hR.1.1.1 hR.1.1.2 ?_
      have P71 : bm_FI (bm_putI B 0 7 x 3) 0 7 x = 3 := if_pos ⟨rfl, rfl, rfl⟩
      have Z72 : fz (fun y => y = x ∨ y = x + 6 ∨ y = x + 7) B (bm_putI B 0 7 x 3) := fz_trans (fz_rfl _ B) ⟨fr_mono (fun _ q => Or.inl q) (fr_putI _ 0 7 x _), rfl, rfl⟩
      refine g_ild (pc' := 39) cd_De_takeOnce rfl (Or.inr ⟨_, rfl, rfl, rfl⟩) l3 rfl ?_
      refine g_ist (pc' := 41) cd_De_takeOnce rfl (Or.inl ⟨rfl, rfl⟩) (by decide) rfl (fun lv el => ?_)
      have l0 := tm_lk el l0 rfl (by decide)
      have l1 := tm_lk el l1 rfl (by decide)
      have l2 := tm_lk el l2 rfl (by decide)
      have l3 := tm_lk el l3 rfl (by decide)
      have l4 := tm_lk el l4 rfl (by decide)
      have l5 : lv.lookup 5 = some (.int 0) := tm_lks el
      clear el
      refine g_ild (pc' := 43) cd_De_takeOnce rfl (Or.inl ⟨rfl, rfl⟩) l5 rfl ?_
      refine g_ald (pc' := 44) cd_De_takeOnce rfl (Or.inr ⟨_, rfl, rfl, rfl⟩) l0 rfl rfl ?_
      refine g_fI (c := 0) (k := 7) (x := 3) (pc' := 47) cd_De_takeOnce rfl rfl rfl rfl rfl (by decide) hR.1.1.1 hR.1.1.2 P71 ?_
      refine g_if2 (t := 88) (pc' := 50) cd_De_takeOnce rfl rfl rfl (fun c47 => ?_) (fun c47 => ?_)
      · exact absurd (show (3 : Int32) ≤ 0 from c47) (by decide)
      · have c47 : ¬ (3 : Int32) ≤ 0 := c47
        refine g_ald (pc' := 51) cd_De_takeOnce rfl (Or.inr ⟨_, rfl, rfl, rfl⟩) l0 rfl rfl ?_
        refine g_fR (c := 0) (k := 1) (x := (x + 6)) (pc' := 54) cd_De_takeOnce rfl rfl rfl rfl rfl (by decide) hR.1.1.1 hR.1.1.2 hR.1.2.1.2.1 ?_
        refine g_ild (pc' := 56) cd_De_takeOnce rfl (Or.inl ⟨rfl, rfl⟩) l5 rfl ?_
        refine g_ald (pc' := 57) cd_De_takeOnce rfl (Or.inr ⟨_, rfl, rfl, rfl⟩) l0 rfl rfl ?_
        refine g_fR (c := 0) (k := 1) (x := (x + 6)) (pc' := 60) cd_De_takeOnce rfl rfl rfl rfl rfl (by decide) hR.1.1.1 hR.1.1.2 hR.1.2.1.2.1 ?_
        refine g_ild (pc' := 62) cd_De_takeOnce rfl (Or.inl ⟨rfl, rfl⟩) l5 rfl ?_
        refine g_k1 (v := 1) (pc' := 63) cd_De_takeOnce rfl (by decide) rfl ?_
        refine g_pure (pc' := 64) (st' := [.int (0 + 1), .ref ((x + 6)), .int 0, .ref ((x + 6))]) cd_De_takeOnce rfl rfl (fun _ _ => rfl) ?_
        rw [show (0 + 1 : Int32) = 1 from by decide]
        refine g_aI (x := (bm_AI B (x + 6) 1)) (pc' := 65) cd_De_takeOnce rfl rfl hR.1.2.2.2.1.1 hR.1.2.2.2.1.2.1 (by rw [show bm_AL (bm_putI B 0 7 x 3) (x + 6) = 4 from hR.1.2.2.2.1.2.2]; exact vp_in_nI (n := 1) (by decide) (by decide)) (show bm_AI (bm_putI B 0 7 x 3) (x + 6) 1 = (bm_AI B (x + 6) 1) from congrFun (show bm_AI (bm_putI B 0 7 x 3) (x + 6) = (bm_AI B (x + 6)) from rfl) 1) ?_
        refine g_iast (pc' := 66) cd_De_takeOnce rfl rfl hR.1.2.2.2.1.1 hR.1.2.2.2.1.2.1 (by rw [show bm_AL (bm_putI B 0 7 x 3) (x + 6) = 4 from hR.1.2.2.2.1.2.2]; exact vp_in_nI (n := 0) (by decide) (by decide)) ?_
        rw [show (0 : Int32).toNatClampNeg = 0 from by decide]
        have A73 : bm_AI (bm_setI (bm_putI B 0 7 x 3) (x + 6) 0 (bm_AI B (x + 6) 1)) (x + 6) = (upd (bm_AI B (x + 6)) 0 (bm_AI B (x + 6) 1)) := ((AI_set (bm_putI B 0 7 x 3) (x + 6) 0 (bm_AI B (x + 6) 1)).trans (congrArg (fun f => upd f 0 (bm_AI B (x + 6) 1)) (show bm_AI (bm_putI B 0 7 x 3) (x + 6) = (bm_AI B (x + 6)) from rfl)))
        have A74 : bm_AI (bm_setI (bm_putI B 0 7 x 3) (x + 6) 0 (bm_AI B (x + 6) 1)) (x + 7) = (bm_AI B (x + 7)) := ((AI_setn (bm_putI B 0 7 x 3) 0 (bm_AI B (x + 6) 1) (x + 7) (by omega)).trans (show bm_AI (bm_putI B 0 7 x 3) (x + 7) = (bm_AI B (x + 7)) from rfl))
        have Z75 : fz (fun y => y = x ∨ y = x + 6 ∨ y = x + 7) B (bm_setI (bm_putI B 0 7 x 3) (x + 6) 0 (bm_AI B (x + 6) 1)) := fz_trans Z72 ⟨fr_mono (fun _ q => Or.inr (Or.inl q)) (fr_setI _ (x + 6) _ _), rfl, rfl⟩
        refine g_ald (pc' := 67) cd_De_takeOnce rfl (Or.inr ⟨_, rfl, rfl, rfl⟩) l0 rfl rfl ?_
        refine g_fR (c := 0) (k := 2) (x := (x + 7)) (pc' := 70) cd_De_takeOnce rfl rfl rfl rfl rfl (by decide) hR.1.1.1 hR.1.1.2 hR.1.2.1.2.2.1 ?_
        refine g_ild (pc' := 72) cd_De_takeOnce rfl (Or.inl ⟨rfl, rfl⟩) l5 rfl ?_
        refine g_ald (pc' := 73) cd_De_takeOnce rfl (Or.inr ⟨_, rfl, rfl, rfl⟩) l0 rfl rfl ?_
        refine g_fR (c := 0) (k := 2) (x := (x + 7)) (pc' := 76) cd_De_takeOnce rfl rfl rfl rfl rfl (by decide) hR.1.1.1 hR.1.1.2 hR.1.2.1.2.2.1 ?_
        refine g_ild (pc' := 78) cd_De_takeOnce rfl (Or.inl ⟨rfl, rfl⟩) l5 rfl ?_
        refine g_k1 (v := 1) (pc' := 79) cd_De_takeOnce rfl (by decide) rfl ?_
        refine g_pure (pc' := 80) (st' := [.int (0 + 1), .ref ((x + 7)), .int 0, .ref ((x + 7))]) cd_De_takeOnce rfl rfl (fun _ _ => rfl) ?_
        rw [show (0 + 1 : Int32) = 1 from by decide]
        refine g_aI (x := (bm_AI B (x + 7) 1)) (pc' := 81) cd_De_takeOnce rfl rfl hR.1.2.2.2.2.1.1 hR.1.2.2.2.2.1.2.1 (by rw [show bm_AL (bm_setI (bm_putI B 0 7 x 3) (x + 6) 0 (bm_AI B (x + 6) 1)) (x + 7) = 4 from hR.1.2.2.2.2.1.2.2]; exact vp_in_nI (n := 1) (by decide) (by decide)) (show bm_AI (bm_setI (bm_putI B 0 7 x 3) (x + 6) 0 (bm_AI B (x + 6) 1)) (x + 7) 1 = (bm_AI B (x + 7) 1) from congrFun (show bm_AI (bm_setI (bm_putI B 0 7 x 3) (x + 6) 0 (bm_AI B (x + 6) 1)) (x + 7) = (bm_AI B (x + 7)) from A74) 1) ?_
        refine g_iast (pc' := 82) cd_De_takeOnce rfl rfl hR.1.2.2.2.2.1.1 hR.1.2.2.2.2.1.2.1 (by rw [show bm_AL (bm_setI (bm_putI B 0 7 x 3) (x + 6) 0 (bm_AI B (x + 6) 1)) (x + 7) = 4 from hR.1.2.2.2.2.1.2.2]; exact vp_in_nI (n := 0) (by decide) (by decide)) ?_
        rw [show (0 : Int32).toNatClampNeg = 0 from by decide]
        have A76 : bm_AI (bm_setI (bm_setI (bm_putI B 0 7 x 3) (x + 6) 0 (bm_AI B (x + 6) 1)) (x + 7) 0 (bm_AI B (x + 7) 1)) (x + 6) = (upd (bm_AI B (x + 6)) 0 (bm_AI B (x + 6) 1)) := ((AI_setn (bm_setI (bm_putI B 0 7 x 3) (x + 6) 0 (bm_AI B (x + 6) 1)) 0 (bm_AI B (x + 7) 1) (x + 6) (by omega)).trans (show bm_AI (bm_setI (bm_putI B 0 7 x 3) (x + 6) 0 (bm_AI B (x + 6) 1)) (x + 6) = (upd (bm_AI B (x + 6)) 0 (bm_AI B (x + 6) 1)) from A73))
        have A77 : bm_AI (bm_setI (bm_setI (bm_putI B 0 7 x 3) (x + 6) 0 (bm_AI B (x + 6) 1)) (x + 7) 0 (bm_AI B (x + 7) 1)) (x + 7) = (upd (bm_AI B (x + 7)) 0 (bm_AI B (x + 7) 1)) := ((AI_set (bm_setI (bm_putI B 0 7 x 3) (x + 6) 0 (bm_AI B (x + 6) 1)) (x + 7) 0 (bm_AI B (x + 7) 1)).trans (congrArg (fun f => upd f 0 (bm_AI B (x + 7) 1)) (show bm_AI (bm_setI (bm_putI B 0 7 x 3) (x + 6) 0 (bm_AI B (x + 6) 1)) (x + 7) = (bm_AI B (x + 7)) from A74)))
        have Z78 : fz (fun y => y = x ∨ y = x + 6 ∨ y = x + 7) B (bm_setI (bm_setI (bm_putI B 0 7 x 3) (x + 6) 0 (bm_AI B (x + 6) 1)) (x + 7) 0 (bm_AI B (x + 7) 1)) := fz_trans Z75 ⟨fr_mono (fun _ q => Or.inr (Or.inr q)) (fr_setI _ (x + 7) _ _), rfl, rfl⟩
        refine g_inc (y := 1) (pc' := 85) cd_De_takeOnce rfl l5 (by decide) (by decide) rfl (fun lv el => ?_)
        have l0 := tm_lk el l0 rfl (by decide)
        have l1 := tm_lk el l1 rfl (by decide)
        have l2 := tm_lk el l2 rfl (by decide)
        have l3 := tm_lk el l3 rfl (by decide)
        have l4 := tm_lk el l4 rfl (by decide)
        have l5 : lv.lookup 5 = some (.int 1) := tm_lks el
        clear el
        refine g_pure (pc' := 41) (st' := []) cd_De_takeOnce rfl rfl (fun _ _ => rfl) ?_
        refine g_ild (pc' := 43) cd_De_takeOnce rfl (Or.inl ⟨rfl, rfl⟩) l5 rfl ?_
        refine g_ald (pc' := 44) cd_De_takeOnce rfl (Or.inr ⟨_, rfl, rfl, rfl⟩) l0 rfl rfl ?_
        refine g_fI (c := 0) (k := 7) (x := 3) (pc' := 47) cd_De_takeOnce rfl rfl rfl rfl rfl (by decide) hR.1.1.1 hR.1.1.2 P71 ?_
        refine g_if2 (t := 88) (pc' := 50) cd_De_takeOnce rfl rfl rfl (fun c47 => ?_) (fun c47 => ?_)
        · exact absurd (show (3 : Int32) ≤ 1 from c47) (by decide)
        · have c47 : ¬ (3 : Int32) ≤ 1 := c47
          refine g_ald (pc' := 51) cd_De_takeOnce rfl (Or.inr ⟨_, rfl, rfl, rfl⟩) l0 rfl rfl ?_
          refine g_fR (c := 0) (k := 1) (x := (x + 6)) (pc' := 54) cd_De_takeOnce rfl rfl rfl rfl rfl (by decide) hR.1.1.1 hR.1.1.2 hR.1.2.1.2.1 ?_
          refine g_ild (pc' := 56) cd_De_takeOnce rfl (Or.inl ⟨rfl, rfl⟩) l5 rfl ?_
          refine g_ald (pc' := 57) cd_De_takeOnce rfl (Or.inr ⟨_, rfl, rfl, rfl⟩) l0 rfl rfl ?_
          refine g_fR (c := 0) (k := 1) (x := (x + 6)) (pc' := 60) cd_De_takeOnce rfl rfl rfl rfl rfl (by decide) hR.1.1.1 hR.1.1.2 hR.1.2.1.2.1 ?_
          refine g_ild (pc' := 62) cd_De_takeOnce rfl (Or.inl ⟨rfl, rfl⟩) l5 rfl ?_
          refine g_k1 (v := 1) (pc' := 63) cd_De_takeOnce rfl (by decide) rfl ?_
          refine g_pure (pc' := 64) (st' := [.int (1 + 1), .ref ((x + 6)), .int 1, .ref ((x + 6))]) cd_De_takeOnce rfl rfl (fun _ _ => rfl) ?_
          rw [show (1 + 1 : Int32) = 2 from by decide]
          refine g_aI (x := (bm_AI B (x + 6) 2)) (pc' := 65) cd_De_takeOnce rfl rfl hR.1.2.2.2.1.1 hR.1.2.2.2.1.2.1 (by rw [show bm_AL (bm_setI (bm_setI (bm_putI B 0 7 x 3) (x + 6) 0 (bm_AI B (x + 6) 1)) (x + 7) 0 (bm_AI B (x + 7) 1)) (x + 6) = 4 from hR.1.2.2.2.1.2.2]; exact vp_in_nI (n := 2) (by decide) (by decide)) (show bm_AI (bm_setI (bm_setI (bm_putI B 0 7 x 3) (x + 6) 0 (bm_AI B (x + 6) 1)) (x + 7) 0 (bm_AI B (x + 7) 1)) (x + 6) 2 = (bm_AI B (x + 6) 2) from congrFun (show bm_AI (bm_setI (bm_setI (bm_putI B 0 7 x 3) (x + 6) 0 (bm_AI B (x + 6) 1)) (x + 7) 0 (bm_AI B (x + 7) 1)) (x + 6) = (upd (bm_AI B (x + 6)) 0 (bm_AI B (x + 6) 1)) from A76) 2) ?_
          refine g_iast (pc' := 66) cd_De_takeOnce rfl rfl hR.1.2.2.2.1.1 hR.1.2.2.2.1.2.1 (by rw [show bm_AL (bm_setI (bm_setI (bm_putI B 0 7 x 3) (x + 6) 0 (bm_AI B (x + 6) 1)) (x + 7) 0 (bm_AI B (x + 7) 1)) (x + 6) = 4 from hR.1.2.2.2.1.2.2]; exact vp_in_nI (n := 1) (by decide) (by decide)) ?_
          rw [show (1 : Int32).toNatClampNeg = 1 from by decide]
          have A79 : bm_AI (bm_setI (bm_setI (bm_setI (bm_putI B 0 7 x 3) (x + 6) 0 (bm_AI B (x + 6) 1)) (x + 7) 0 (bm_AI B (x + 7) 1)) (x + 6) 1 (bm_AI B (x + 6) 2)) (x + 6) = (upd (upd (bm_AI B (x + 6)) 0 (bm_AI B (x + 6) 1)) 1 (bm_AI B (x + 6) 2)) := ((AI_set (bm_setI (bm_setI (bm_putI B 0 7 x 3) (x + 6) 0 (bm_AI B (x + 6) 1)) (x + 7) 0 (bm_AI B (x + 7) 1)) (x + 6) 1 (bm_AI B (x + 6) 2)).trans (congrArg (fun f => upd f 1 (bm_AI B (x + 6) 2)) (show bm_AI (bm_setI (bm_setI (bm_putI B 0 7 x 3) (x + 6) 0 (bm_AI B (x + 6) 1)) (x + 7) 0 (bm_AI B (x + 7) 1)) (x + 6) = (upd (bm_AI B (x + 6)) 0 (bm_AI B (x + 6) 1)) from A76)))
          have A80 : bm_AI (bm_setI (bm_setI (bm_setI (bm_putI B 0 7 x 3) (x + 6) 0 (bm_AI B (x + 6) 1)) (x + 7) 0 (bm_AI B (x + 7) 1)) (x + 6) 1 (bm_AI B (x + 6) 2)) (x + 7) = (upd (bm_AI B (x + 7)) 0 (bm_AI B (x + 7) 1)) := ((AI_setn (bm_setI (bm_setI (bm_putI B 0 7 x 3) (x + 6) 0 (bm_AI B (x + 6) 1)) (x + 7) 0 (bm_AI B (x + 7) 1)) 1 (bm_AI B (x + 6) 2) (x + 7) (by omega)).trans (show bm_AI (bm_setI (bm_setI (bm_putI B 0 7 x 3) (x + 6) 0 (bm_AI B (x + 6) 1)) (x + 7) 0 (bm_AI B (x + 7) 1)) (x + 7) = (upd (bm_AI B (x + 7)) 0 (bm_AI B (x + 7) 1)) from A77))
          have Z81 : fz (fun y => y = x ∨ y = x + 6 ∨ y = x + 7) B (bm_setI (bm_setI (bm_setI (bm_putI B 0 7 x 3) (x + 6) 0 (bm_AI B (x + 6) 1)) (x + 7) 0 (bm_AI B (x + 7) 1)) (x + 6) 1 (bm_AI B (x + 6) 2)) := fz_trans Z78 ⟨fr_mono (fun _ q => Or.inr (Or.inl q)) (fr_setI _ (x + 6) _ _), rfl, rfl⟩
          refine g_ald (pc' := 67) cd_De_takeOnce rfl (Or.inr ⟨_, rfl, rfl, rfl⟩) l0 rfl rfl ?_
          refine g_fR (c := 0) (k := 2) (x := (x + 7)) (pc' := 70) cd_De_takeOnce rfl rfl rfl rfl rfl (by decide) hR.1.1.1 hR.1.1.2 hR.1.2.1.2.2.1 ?_
          refine g_ild (pc' := 72) cd_De_takeOnce rfl (Or.inl ⟨rfl, rfl⟩) l5 rfl ?_
          refine g_ald (pc' := 73) cd_De_takeOnce rfl (Or.inr ⟨_, rfl, rfl, rfl⟩) l0 rfl rfl ?_
          refine g_fR (c := 0) (k := 2) (x := (x + 7)) (pc' := 76) cd_De_takeOnce rfl rfl rfl rfl rfl (by decide) hR.1.1.1 hR.1.1.2 hR.1.2.1.2.2.1 ?_
          refine g_ild (pc' := 78) cd_De_takeOnce rfl (Or.inl ⟨rfl, rfl⟩) l5 rfl ?_
          refine g_k1 (v := 1) (pc' := 79) cd_De_takeOnce rfl (by decide) rfl ?_
          refine g_pure (pc' := 80) (st' := [.int (1 + 1), .ref ((x + 7)), .int 1, .ref ((x + 7))]) cd_De_takeOnce rfl rfl (fun _ _ => rfl) ?_
          rw [show (1 + 1 : Int32) = 2 from by decide]
          refine g_aI (x := (bm_AI B (x + 7) 2)) (pc' := 81) cd_De_takeOnce rfl rfl hR.1.2.2.2.2.1.1 hR.1.2.2.2.2.1.2.1 (by rw [show bm_AL (bm_setI (bm_setI (bm_setI (bm_putI B 0 7 x 3) (x + 6) 0 (bm_AI B (x + 6) 1)) (x + 7) 0 (bm_AI B (x + 7) 1)) (x + 6) 1 (bm_AI B (x + 6) 2)) (x + 7) = 4 from hR.1.2.2.2.2.1.2.2]; exact vp_in_nI (n := 2) (by decide) (by decide)) (show bm_AI (bm_setI (bm_setI (bm_setI (bm_putI B 0 7 x 3) (x + 6) 0 (bm_AI B (x + 6) 1)) (x + 7) 0 (bm_AI B (x + 7) 1)) (x + 6) 1 (bm_AI B (x + 6) 2)) (x + 7) 2 = (bm_AI B (x + 7) 2) from congrFun (show bm_AI (bm_setI (bm_setI (bm_setI (bm_putI B 0 7 x 3) (x + 6) 0 (bm_AI B (x + 6) 1)) (x + 7) 0 (bm_AI B (x + 7) 1)) (x + 6) 1 (bm_AI B (x + 6) 2)) (x + 7) = (upd (bm_AI B (x + 7)) 0 (bm_AI B (x + 7) 1)) from A80) 2) ?_
          refine g_iast (pc' := 82) cd_De_takeOnce rfl rfl hR.1.2.2.2.2.1.1 hR.1.2.2.2.2.1.2.1 (by rw [show bm_AL (bm_setI (bm_setI (bm_setI (bm_putI B 0 7 x 3) (x + 6) 0 (bm_AI B (x + 6) 1)) (x + 7) 0 (bm_AI B (x + 7) 1)) (x + 6) 1 (bm_AI B (x + 6) 2)) (x + 7) = 4 from hR.1.2.2.2.2.1.2.2]; exact vp_in_nI (n := 1) (by decide) (by decide)) ?_
          rw [show (1 : Int32).toNatClampNeg = 1 from by decide]
          have A82 : bm_AI (bm_setI (bm_setI (bm_setI (bm_setI (bm_putI B 0 7 x 3) (x + 6) 0 (bm_AI B (x + 6) 1)) (x + 7) 0 (bm_AI B (x + 7) 1)) (x + 6) 1 (bm_AI B (x + 6) 2)) (x + 7) 1 (bm_AI B (x + 7) 2)) (x + 6) = (upd (upd (bm_AI B (x + 6)) 0 (bm_AI B (x + 6) 1)) 1 (bm_AI B (x + 6) 2)) := ((AI_setn (bm_setI (bm_setI (bm_setI (bm_putI B 0 7 x 3) (x + 6) 0 (bm_AI B (x + 6) 1)) (x + 7) 0 (bm_AI B (x + 7) 1)) (x + 6) 1 (bm_AI B (x + 6) 2)) 1 (bm_AI B (x + 7) 2) (x + 6) (by omega)).trans (show bm_AI (bm_setI (bm_setI (bm_setI (bm_putI B 0 7 x 3) (x + 6) 0 (bm_AI B (x + 6) 1)) (x + 7) 0 (bm_AI B (x + 7) 1)) (x + 6) 1 (bm_AI B (x + 6) 2)) (x + 6) = (upd (upd (bm_AI B (x + 6)) 0 (bm_AI B (x + 6) 1)) 1 (bm_AI B (x + 6) 2)) from A79))
          have A83 : bm_AI (bm_setI (bm_setI (bm_setI (bm_setI (bm_putI B 0 7 x 3) (x + 6) 0 (bm_AI B (x + 6) 1)) (x + 7) 0 (bm_AI B (x + 7) 1)) (x + 6) 1 (bm_AI B (x + 6) 2)) (x + 7) 1 (bm_AI B (x + 7) 2)) (x + 7) = (upd (upd (bm_AI B (x + 7)) 0 (bm_AI B (x + 7) 1)) 1 (bm_AI B (x + 7) 2)) := ((AI_set (bm_setI (bm_setI (bm_setI (bm_putI B 0 7 x 3) (x + 6) 0 (bm_AI B (x + 6) 1)) (x + 7) 0 (bm_AI B (x + 7) 1)) (x + 6) 1 (bm_AI B (x + 6) 2)) (x + 7) 1 (bm_AI B (x + 7) 2)).trans (congrArg (fun f => upd f 1 (bm_AI B (x + 7) 2)) (show bm_AI (bm_setI (bm_setI (bm_setI (bm_putI B 0 7 x 3) (x + 6) 0 (bm_AI B (x + 6) 1)) (x + 7) 0 (bm_AI B (x + 7) 1)) (x + 6) 1 (bm_AI B (x + 6) 2)) (x + 7) = (upd (bm_AI B (x + 7)) 0 (bm_AI B (x + 7) 1)) from A80)))
          have Z84 : fz (fun y => y = x ∨ y = x + 6 ∨ y = x + 7) B (bm_setI (bm_setI (bm_setI (bm_setI (bm_putI B 0 7 x 3) (x + 6) 0 (bm_AI B (x + 6) 1)) (x + 7) 0 (bm_AI B (x + 7) 1)) (x + 6) 1 (bm_AI B (x + 6) 2)) (x + 7) 1 (bm_AI B (x + 7) 2)) := fz_trans Z81 ⟨fr_mono (fun _ q => Or.inr (Or.inr q)) (fr_setI _ (x + 7) _ _), rfl, rfl⟩
          refine g_inc (y := 2) (pc' := 85) cd_De_takeOnce rfl l5 (by decide) (by decide) rfl (fun lv el => ?_)
          have l0 := tm_lk el l0 rfl (by decide)
          have l1 := tm_lk el l1 rfl (by decide)
          have l2 := tm_lk el l2 rfl (by decide)
          have l3 := tm_lk el l3 rfl (by decide)
          have l4 := tm_lk el l4 rfl (by decide)
          have l5 : lv.lookup 5 = some (.int 2) := tm_lks el
          clear el
          refine g_pure (pc' := 41) (st' := []) cd_De_takeOnce rfl rfl (fun _ _ => rfl) ?_
          refine g_ild (pc' := 43) cd_De_takeOnce rfl (Or.inl ⟨rfl, rfl⟩) l5 rfl ?_
          refine g_ald (pc' := 44) cd_De_takeOnce rfl (Or.inr ⟨_, rfl, rfl, rfl⟩) l0 rfl rfl ?_
          refine g_fI (c := 0) (k := 7) (x := 3) (pc' := 47) cd_De_takeOnce rfl rfl rfl rfl rfl (by decide) hR.1.1.1 hR.1.1.2 P71 ?_
          refine g_if2 (t := 88) (pc' := 50) cd_De_takeOnce rfl rfl rfl (fun c47 => ?_) (fun c47 => ?_)
          · exact absurd (show (3 : Int32) ≤ 2 from c47) (by decide)
          · have c47 : ¬ (3 : Int32) ≤ 2 := c47
            refine g_ald (pc' := 51) cd_De_takeOnce rfl (Or.inr ⟨_, rfl, rfl, rfl⟩) l0 rfl rfl ?_
            refine g_fR (c := 0) (k := 1) (x := (x + 6)) (pc' := 54) cd_De_takeOnce rfl rfl rfl rfl rfl (by decide) hR.1.1.1 hR.1.1.2 hR.1.2.1.2.1 ?_
            refine g_ild (pc' := 56) cd_De_takeOnce rfl (Or.inl ⟨rfl, rfl⟩) l5 rfl ?_
            refine g_ald (pc' := 57) cd_De_takeOnce rfl (Or.inr ⟨_, rfl, rfl, rfl⟩) l0 rfl rfl ?_
            refine g_fR (c := 0) (k := 1) (x := (x + 6)) (pc' := 60) cd_De_takeOnce rfl rfl rfl rfl rfl (by decide) hR.1.1.1 hR.1.1.2 hR.1.2.1.2.1 ?_
            refine g_ild (pc' := 62) cd_De_takeOnce rfl (Or.inl ⟨rfl, rfl⟩) l5 rfl ?_
            refine g_k1 (v := 1) (pc' := 63) cd_De_takeOnce rfl (by decide) rfl ?_
            refine g_pure (pc' := 64) (st' := [.int (2 + 1), .ref ((x + 6)), .int 2, .ref ((x + 6))]) cd_De_takeOnce rfl rfl (fun _ _ => rfl) ?_
            rw [show (2 + 1 : Int32) = 3 from by decide]
            refine g_aI (x := (bm_AI B (x + 6) 3)) (pc' := 65) cd_De_takeOnce rfl rfl hR.1.2.2.2.1.1 hR.1.2.2.2.1.2.1 (by rw [show bm_AL (bm_setI (bm_setI (bm_setI (bm_setI (bm_putI B 0 7 x 3) (x + 6) 0 (bm_AI B (x + 6) 1)) (x + 7) 0 (bm_AI B (x + 7) 1)) (x + 6) 1 (bm_AI B (x + 6) 2)) (x + 7) 1 (bm_AI B (x + 7) 2)) (x + 6) = 4 from hR.1.2.2.2.1.2.2]; exact vp_in_nI (n := 3) (by decide) (by decide)) (show bm_AI (bm_setI (bm_setI (bm_setI (bm_setI (bm_putI B 0 7 x 3) (x + 6) 0 (bm_AI B (x + 6) 1)) (x + 7) 0 (bm_AI B (x + 7) 1)) (x + 6) 1 (bm_AI B (x + 6) 2)) (x + 7) 1 (bm_AI B (x + 7) 2)) (x + 6) 3 = (bm_AI B (x + 6) 3) from congrFun (show bm_AI (bm_setI (bm_setI (bm_setI (bm_setI (bm_putI B 0 7 x 3) (x + 6) 0 (bm_AI B (x + 6) 1)) (x + 7) 0 (bm_AI B (x + 7) 1)) (x + 6) 1 (bm_AI B (x + 6) 2)) (x + 7) 1 (bm_AI B (x + 7) 2)) (x + 6) = (upd (upd (bm_AI B (x + 6)) 0 (bm_AI B (x + 6) 1)) 1 (bm_AI B (x + 6) 2)) from A82) 3) ?_
            refine g_iast (pc' := 66) cd_De_takeOnce rfl rfl hR.1.2.2.2.1.1 hR.1.2.2.2.1.2.1 (by rw [show bm_AL (bm_setI (bm_setI (bm_setI (bm_setI (bm_putI B 0 7 x 3) (x + 6) 0 (bm_AI B (x + 6) 1)) (x + 7) 0 (bm_AI B (x + 7) 1)) (x + 6) 1 (bm_AI B (x + 6) 2)) (x + 7) 1 (bm_AI B (x + 7) 2)) (x + 6) = 4 from hR.1.2.2.2.1.2.2]; exact vp_in_nI (n := 2) (by decide) (by decide)) ?_
            rw [show (2 : Int32).toNatClampNeg = 2 from by decide]
            have A85 : bm_AI (bm_setI (bm_setI (bm_setI (bm_setI (bm_setI (bm_putI B 0 7 x 3) (x + 6) 0 (bm_AI B (x + 6) 1)) (x + 7) 0 (bm_AI B (x + 7) 1)) (x + 6) 1 (bm_AI B (x + 6) 2)) (x + 7) 1 (bm_AI B (x + 7) 2)) (x + 6) 2 (bm_AI B (x + 6) 3)) (x + 6) = (upd (upd (upd (bm_AI B (x + 6)) 0 (bm_AI B (x + 6) 1)) 1 (bm_AI B (x + 6) 2)) 2 (bm_AI B (x + 6) 3)) := ((AI_set (bm_setI (bm_setI (bm_setI (bm_setI (bm_putI B 0 7 x 3) (x + 6) 0 (bm_AI B (x + 6) 1)) (x + 7) 0 (bm_AI B (x + 7) 1)) (x + 6) 1 (bm_AI B (x + 6) 2)) (x + 7) 1 (bm_AI B (x + 7) 2)) (x + 6) 2 (bm_AI B (x + 6) 3)).trans (congrArg (fun f => upd f 2 (bm_AI B (x + 6) 3)) (show bm_AI (bm_setI (bm_setI (bm_setI (bm_setI (bm_putI B 0 7 x 3) (x + 6) 0 (bm_AI B (x + 6) 1)) (x + 7) 0 (bm_AI B (x + 7) 1)) (x + 6) 1 (bm_AI B (x + 6) 2)) (x + 7) 1 (bm_AI B (x + 7) 2)) (x + 6) = (upd (upd (bm_AI B (x + 6)) 0 (bm_AI B (x + 6) 1)) 1 (bm_AI B (x + 6) 2)) from A82)))
            have A86 : bm_AI (bm_setI (bm_setI (bm_setI (bm_setI (bm_setI (bm_putI B 0 7 x 3) (x + 6) 0 (bm_AI B (x + 6) 1)) (x + 7) 0 (bm_AI B (x + 7) 1)) (x + 6) 1 (bm_AI B (x + 6) 2)) (x + 7) 1 (bm_AI B (x + 7) 2)) (x + 6) 2 (bm_AI B (x + 6) 3)) (x + 7) = (upd (upd (bm_AI B (x + 7)) 0 (bm_AI B (x + 7) 1)) 1 (bm_AI B (x + 7) 2)) := ((AI_setn (bm_setI (bm_setI (bm_setI (bm_setI (bm_putI B 0 7 x 3) (x + 6) 0 (bm_AI B (x + 6) 1)) (x + 7) 0 (bm_AI B (x + 7) 1)) (x + 6) 1 (bm_AI B (x + 6) 2)) (x + 7) 1 (bm_AI B (x + 7) 2)) 2 (bm_AI B (x + 6) 3) (x + 7) (by omega)).trans (show bm_AI (bm_setI (bm_setI (bm_setI (bm_setI (bm_putI B 0 7 x 3) (x + 6) 0 (bm_AI B (x + 6) 1)) (x + 7) 0 (bm_AI B (x + 7) 1)) (x + 6) 1 (bm_AI B (x + 6) 2)) (x + 7) 1 (bm_AI B (x + 7) 2)) (x + 7) = (upd (upd (bm_AI B (x + 7)) 0 (bm_AI B (x + 7) 1)) 1 (bm_AI B (x + 7) 2)) from A83))
            have Z87 : fz (fun y => y = x ∨ y = x + 6 ∨ y = x + 7) B (bm_setI (bm_setI (bm_setI (bm_setI (bm_setI (bm_putI B 0 7 x 3) (x + 6) 0 (bm_AI B (x + 6) 1)) (x + 7) 0 (bm_AI B (x + 7) 1)) (x + 6) 1 (bm_AI B (x + 6) 2)) (x + 7) 1 (bm_AI B (x + 7) 2)) (x + 6) 2 (bm_AI B (x + 6) 3)) := fz_trans Z84 ⟨fr_mono (fun _ q => Or.inr (Or.inl q)) (fr_setI _ (x + 6) _ _), rfl, rfl⟩
            refine g_ald (pc' := 67) cd_De_takeOnce rfl (Or.inr ⟨_, rfl, rfl, rfl⟩) l0 rfl rfl ?_
            refine g_fR (c := 0) (k := 2) (x := (x + 7)) (pc' := 70) cd_De_takeOnce rfl rfl rfl rfl rfl (by decide) hR.1.1.1 hR.1.1.2 hR.1.2.1.2.2.1 ?_
            refine g_ild (pc' := 72) cd_De_takeOnce rfl (Or.inl ⟨rfl, rfl⟩) l5 rfl ?_
            refine g_ald (pc' := 73) cd_De_takeOnce rfl (Or.inr ⟨_, rfl, rfl, rfl⟩) l0 rfl rfl ?_
            refine g_fR (c := 0) (k := 2) (x := (x + 7)) (pc' := 76) cd_De_takeOnce rfl rfl rfl rfl rfl (by decide) hR.1.1.1 hR.1.1.2 hR.1.2.1.2.2.1 ?_
            refine g_ild (pc' := 78) cd_De_takeOnce rfl (Or.inl ⟨rfl, rfl⟩) l5 rfl ?_
            refine g_k1 (v := 1) (pc' := 79) cd_De_takeOnce rfl (by decide) rfl ?_
            refine g_pure (pc' := 80) (st' := [.int (2 + 1), .ref ((x + 7)), .int 2, .ref ((x + 7))]) cd_De_takeOnce rfl rfl (fun _ _ => rfl) ?_
            rw [show (2 + 1 : Int32) = 3 from by decide]
            refine g_aI (x := (bm_AI B (x + 7) 3)) (pc' := 81) cd_De_takeOnce rfl rfl hR.1.2.2.2.2.1.1 hR.1.2.2.2.2.1.2.1 (by rw [show bm_AL (bm_setI (bm_setI (bm_setI (bm_setI (bm_setI (bm_putI B 0 7 x 3) (x + 6) 0 (bm_AI B (x + 6) 1)) (x + 7) 0 (bm_AI B (x + 7) 1)) (x + 6) 1 (bm_AI B (x + 6) 2)) (x + 7) 1 (bm_AI B (x + 7) 2)) (x + 6) 2 (bm_AI B (x + 6) 3)) (x + 7) = 4 from hR.1.2.2.2.2.1.2.2]; exact vp_in_nI (n := 3) (by decide) (by decide)) (show bm_AI (bm_setI (bm_setI (bm_setI (bm_setI (bm_setI (bm_putI B 0 7 x 3) (x + 6) 0 (bm_AI B (x + 6) 1)) (x + 7) 0 (bm_AI B (x + 7) 1)) (x + 6) 1 (bm_AI B (x + 6) 2)) (x + 7) 1 (bm_AI B (x + 7) 2)) (x + 6) 2 (bm_AI B (x + 6) 3)) (x + 7) 3 = (bm_AI B (x + 7) 3) from congrFun (show bm_AI (bm_setI (bm_setI (bm_setI (bm_setI (bm_setI (bm_putI B 0 7 x 3) (x + 6) 0 (bm_AI B (x + 6) 1)) (x + 7) 0 (bm_AI B (x + 7) 1)) (x + 6) 1 (bm_AI B (x + 6) 2)) (x + 7) 1 (bm_AI B (x + 7) 2)) (x + 6) 2 (bm_AI B (x + 6) 3)) (x + 7) = (upd (upd (bm_AI B (x + 7)) 0 (bm_AI B (x + 7) 1)) 1 (bm_AI B (x + 7) 2)) from A86) 3) ?_
            refine g_iast (pc' := 82) cd_De_takeOnce rfl rfl hR.1.2.2.2.2.1.1 hR.1.2.2.2.2.1.2.1 (by rw [show bm_AL (bm_setI (bm_setI (bm_setI (bm_setI (bm_setI (bm_putI B 0 7 x 3) (x + 6) 0 (bm_AI B (x + 6) 1)) (x + 7) 0 (bm_AI B (x + 7) 1)) (x + 6) 1 (bm_AI B (x + 6) 2)) (x + 7) 1 (bm_AI B (x + 7) 2)) (x + 6) 2 (bm_AI B (x + 6) 3)) (x + 7) = 4 from hR.1.2.2.2.2.1.2.2]; exact vp_in_nI (n := 2) (by decide) (by decide)) ?_
            rw [show (2 : Int32).toNatClampNeg = 2 from by decide]
            have A88 : bm_AI (bm_setI (bm_setI (bm_setI (bm_setI (bm_setI (bm_setI (bm_putI B 0 7 x 3) (x + 6) 0 (bm_AI B (x + 6) 1)) (x + 7) 0 (bm_AI B (x + 7) 1)) (x + 6) 1 (bm_AI B (x + 6) 2)) (x + 7) 1 (bm_AI B (x + 7) 2)) (x + 6) 2 (bm_AI B (x + 6) 3)) (x + 7) 2 (bm_AI B (x + 7) 3)) (x + 6) = (upd (upd (upd (bm_AI B (x + 6)) 0 (bm_AI B (x + 6) 1)) 1 (bm_AI B (x + 6) 2)) 2 (bm_AI B (x + 6) 3)) := ((AI_setn (bm_setI (bm_setI (bm_setI (bm_setI (bm_setI (bm_putI B 0 7 x 3) (x + 6) 0 (bm_AI B (x + 6) 1)) (x + 7) 0 (bm_AI B (x + 7) 1)) (x + 6) 1 (bm_AI B (x + 6) 2)) (x + 7) 1 (bm_AI B (x + 7) 2)) (x + 6) 2 (bm_AI B (x + 6) 3)) 2 (bm_AI B (x + 7) 3) (x + 6) (by omega)).trans (show bm_AI (bm_setI (bm_setI (bm_setI (bm_setI (bm_setI (bm_putI B 0 7 x 3) (x + 6) 0 (bm_AI B (x + 6) 1)) (x + 7) 0 (bm_AI B (x + 7) 1)) (x + 6) 1 (bm_AI B (x + 6) 2)) (x + 7) 1 (bm_AI B (x + 7) 2)) (x + 6) 2 (bm_AI B (x + 6) 3)) (x + 6) = (upd (upd (upd (bm_AI B (x + 6)) 0 (bm_AI B (x + 6) 1)) 1 (bm_AI B (x + 6) 2)) 2 (bm_AI B (x + 6) 3)) from A85))
            have A89 : bm_AI (bm_setI (bm_setI (bm_setI (bm_setI (bm_setI (bm_setI (bm_putI B 0 7 x 3) (x + 6) 0 (bm_AI B (x + 6) 1)) (x + 7) 0 (bm_AI B (x + 7) 1)) (x + 6) 1 (bm_AI B (x + 6) 2)) (x + 7) 1 (bm_AI B (x + 7) 2)) (x + 6) 2 (bm_AI B (x + 6) 3)) (x + 7) 2 (bm_AI B (x + 7) 3)) (x + 7) = (upd (upd (upd (bm_AI B (x + 7)) 0 (bm_AI B (x + 7) 1)) 1 (bm_AI B (x + 7) 2)) 2 (bm_AI B (x + 7) 3)) := ((AI_set (bm_setI (bm_setI (bm_setI (bm_setI (bm_setI (bm_putI B 0 7 x 3) (x + 6) 0 (bm_AI B (x + 6) 1)) (x + 7) 0 (bm_AI B (x + 7) 1)) (x + 6) 1 (bm_AI B (x + 6) 2)) (x + 7) 1 (bm_AI B (x + 7) 2)) (x + 6) 2 (bm_AI B (x + 6) 3)) (x + 7) 2 (bm_AI B (x + 7) 3)).trans (congrArg (fun f => upd f 2 (bm_AI B (x + 7) 3)) (show bm_AI (bm_setI (bm_setI (bm_setI (bm_setI (bm_setI (bm_putI B 0 7 x 3) (x + 6) 0 (bm_AI B (x + 6) 1)) (x + 7) 0 (bm_AI B (x + 7) 1)) (x + 6) 1 (bm_AI B (x + 6) 2)) (x + 7) 1 (bm_AI B (x + 7) 2)) (x + 6) 2 (bm_AI B (x + 6) 3)) (x + 7) = (upd (upd (bm_AI B (x + 7)) 0 (bm_AI B (x + 7) 1)) 1 (bm_AI B (x + 7) 2)) from A86)))
            have Z90 : fz (fun y => y = x ∨ y = x + 6 ∨ y = x + 7) B (bm_setI (bm_setI (bm_setI (bm_setI (bm_setI (bm_setI (bm_putI B 0 7 x 3) (x + 6) 0 (bm_AI B (x + 6) 1)) (x + 7) 0 (bm_AI B (x + 7) 1)) (x + 6) 1 (bm_AI B (x + 6) 2)) (x + 7) 1 (bm_AI B (x + 7) 2)) (x + 6) 2 (bm_AI B (x + 6) 3)) (x + 7) 2 (bm_AI B (x + 7) 3)) := fz_trans Z87 ⟨fr_mono (fun _ q => Or.inr (Or.inr q)) (fr_setI _ (x + 7) _ _), rfl, rfl⟩
            refine g_inc (y := 3) (pc' := 85) cd_De_takeOnce rfl l5 (by decide) (by decide) rfl (fun lv el => ?_)
            have l0 := tm_lk el l0 rfl (by decide)
            have l1 := tm_lk el l1 rfl (by decide)
            have l2 := tm_lk el l2 rfl (by decide)
            have l3 := tm_lk el l3 rfl (by decide)
            have l4 := tm_lk el l4 rfl (by decide)
            have l5 : lv.lookup 5 = some (.int 3) := tm_lks el
            clear el
            refine g_pure (pc' := 41) (st' := []) cd_De_takeOnce rfl rfl (fun _ _ => rfl) ?_
            refine g_ild (pc' := 43) cd_De_takeOnce rfl (Or.inl ⟨rfl, rfl⟩) l5 rfl ?_
            refine g_ald (pc' := 44) cd_De_takeOnce rfl (Or.inr ⟨_, rfl, rfl, rfl⟩) l0 rfl rfl ?_
            refine g_fI (c := 0) (k := 7) (x := 3) (pc' := 47) cd_De_takeOnce rfl rfl rfl rfl rfl (by decide) hR.1.1.1 hR.1.1.2 P71 ?_
            refine g_if2 (t := 88) (pc' := 50) cd_De_takeOnce rfl rfl rfl (fun c47 => ?_) (fun c47 => ?_)
            · have c47 : (3 : Int32) ≤ 3 := c47
              refine g_ild (pc' := 90) cd_De_takeOnce rfl (Or.inl ⟨rfl, rfl⟩) l4 rfl ?_
              have hA6 : bm_AI (bm_setI (bm_setI (bm_setI (bm_setI (bm_setI (bm_setI (bm_putI B 0 7 x 3) (x + 6) 0 (bm_AI B (x + 6) 1)) (x + 7) 0 (bm_AI B (x + 7) 1)) (x + 6) 1 (bm_AI B (x + 6) 2)) (x + 7) 1 (bm_AI B (x + 7) 2)) (x + 6) 2 (bm_AI B (x + 6) 3)) (x + 7) 2 (bm_AI B (x + 7) 3)) (x + 6) = (upd (upd (upd (bm_AI B (x + 6)) 0 (bm_AI B (x + 6) 1)) 1 (bm_AI B (x + 6) 2)) 2 (bm_AI B (x + 6) 3)) := A88
              have hA7 : bm_AI (bm_setI (bm_setI (bm_setI (bm_setI (bm_setI (bm_setI (bm_putI B 0 7 x 3) (x + 6) 0 (bm_AI B (x + 6) 1)) (x + 7) 0 (bm_AI B (x + 7) 1)) (x + 6) 1 (bm_AI B (x + 6) 2)) (x + 7) 1 (bm_AI B (x + 7) 2)) (x + 6) 2 (bm_AI B (x + 6) 3)) (x + 7) 2 (bm_AI B (x + 7) 3)) (x + 7) = (upd (upd (upd (bm_AI B (x + 7)) 0 (bm_AI B (x + 7) 1)) 1 (bm_AI B (x + 7) 2)) 2 (bm_AI B (x + 7) 3)) := A89
              have hO : ROn (bm_setI (bm_setI (bm_setI (bm_setI (bm_setI (bm_setI (bm_putI B 0 7 x 3) (x + 6) 0 (bm_AI B (x + 6) 1)) (x + 7) 0 (bm_AI B (x + 7) 1)) (x + 6) 1 (bm_AI B (x + 6) 2)) (x + 7) 1 (bm_AI B (x + 7) 2)) (x + 6) 2 (bm_AI B (x + 6) 3)) (x + 7) 2 (bm_AI B (x + 7) 3)) T x ([e1, e2, e3] : List (Tm × Int32)) := ⟨⟨P71, by simp⟩, by rw [hA6, hA7]; exact ix3 (P := fun (k : Nat) (e : Tm × Int32) => tv T ((upd (upd (upd (bm_AI B (x + 6)) 0 (bm_AI B (x + 6) 1)) 1 (bm_AI B (x + 6) 2)) 2 (bm_AI B (x + 6) 3)) k) e.1 ∧ (upd (upd (upd (bm_AI B (x + 7)) 0 (bm_AI B (x + 7) 1)) 1 (bm_AI B (x + 7) 2)) 2 (bm_AI B (x + 7) 3)) k = e.2) g1 g2 g3⟩
              exact g_reti cd_De_takeOnce rfl ⟨_, rfl, (kk1 0 e0 _ _ rfl ((TI_eq hT hp0 hb).mp n0) (fun j e h => absurd h (Nat.not_lt_zero _)) g0.1 (RDe_top hR Z90.1 (fun y a b c e f => by omega) (List.prefix_refl T) hR.2.1 hO) Z90)⟩
            · exact absurd (show ¬ (3 : Int32) ≤ 3 from c47) (by decide)
theorem t_takeOnce {sc : tm_X} {d a ca ba da rm dr : Nat} {B : bm_H} {T : List Tm} {x : Nat} {w : SW} {id : Tm} {K0 K1 : PK} {on : List (Tm × Int32)} {ln : Int32} {se : Nat → List SS} {me : Nat → MM} {b : Int32} {A : Tm} {Q : Int32 → bm_H → Prop} (hT : TI B a ca ba da rm dr T) (hR : RDe B T x w (id, K0, K1, on, ln, se, me)) (hb : tv T b A) (hk : ∀ e, e ∈ on → kd e.1 = 1) (kk0 : (∀ (k : Nat) (e : Tm × Int32), on[k]? = some e → Tpub e.1 ≠ A) → Q 0 B) (kk1 : ∀ i e B' r, on[i]? = some e → Tpub e.1 = A → (∀ (j : Nat) (e' : Tm × Int32), j < i → on[j]? = some e' → Tpub e'.1 ≠ A) → tv T r e.1 → RDe B' T x w (id, K0, K1, on.eraseIdx i, ln, se, me) → fz (fun y => y = x ∨ y = x + 6 ∨ y = x + 7) B B' → Q r B') : bm_Gi sc (d + 2) 111 [.ref x, .ref a, .int b] B Q := by
  rcases len4 hR.2.2.2.1.1.2 with rfl | ⟨e0, rfl⟩ | ⟨e0, e1, rfl⟩ | ⟨e0, e1, e2, rfl⟩ | ⟨e0, e1, e2, e3, rfl⟩
  · exact t_takeOnce0 hT hR hb hk kk0 kk1
  · exact t_takeOnce1 hT hR hb hk kk0 kk1
  · exact t_takeOnce2 hT hR hb hk kk0 kk1
  · exact t_takeOnce3 hT hR hb hk kk0 kk1
  · exact t_takeOnce4 hT hR hb hk kk0 kk1
