/-! What arrives -/
def tp_one (A : Tm) (p : Nat) (M : MM) : Bool := match gv_find (mgv M p) (nu (pt (pt A 1) 1) 2) with
  | some (_, G) => G.2.2
  | none => false
/-- the answer, the device then, and of a letter: from, group, SECRET, by a one-time key -/
noncomputable def ar_spec (D : DV) (ids : Nat → Tm) (q : Nat) (A : Tm) : Int32 × DV × Int32 × Int32 × Tm × Bool := match D with
  | (id, K0, K1, on, lnu, se, me) => if tm_form A = 3 then ((ts_spec D ids q (nu (pt A 1) 0).toNatClampNeg A).1, (ts_spec D ids q (nu (pt A 1) 0).toNatClampNeg A).2.1, nu (pt A 1) 0, -1, pt (pt A 2) 0, (ts_spec D ids q (nu (pt A 1) 0).toNatClampNeg A).2.2)
    else if tm_form A = 6 then cif (tl_ok A q (nu (pt A 1) 0).toNatClampNeg (ids (nu (pt A 1) 0).toNatClampNeg) (me (nu (pt A 1) 0).toNatClampNeg)) (3, (id, K0, K1, on, lnu, se, fset me (nu (pt A 1) 0).toNatClampNeg (mm_adopt (me (nu (pt A 1) 0).toNatClampNeg) (nu (pt A 1) 1) (nu (pt A 1) 2))), 0, 0, tz, false) (-16, D, 0, 0, tz, false)
    else if tm_form A = 7 then ((tp_spec A q (nu (pt (pt A 1) 1) 1).toNatClampNeg (me (nu (pt (pt A 1) 1) 0).toNatClampNeg)).1, (id, K0, K1, on, lnu, se, fset me (nu (pt (pt A 1) 1) 0).toNatClampNeg (tp_spec A q (nu (pt (pt A 1) 1) 1).toNatClampNeg (me (nu (pt (pt A 1) 1) 0).toNatClampNeg)).2), nu (pt (pt A 1) 1) 1, nu (pt (pt A 1) 1) 0, pt (pt (pt A 1) 2) 0, tp_one A (nu (pt (pt A 1) 1) 1).toNatClampNeg (me (nu (pt (pt A 1) 1) 0).toNatClampNeg))
    else (-10, D, 0, 0, tz, false)
theorem form_3 {A : Tm} (h : tm_form A = 3) : Tgood 3 (pt A 1) = true := by
  unfold tm_form at h
  split at h
  · split at h
    · assumption
    · exact absurd h (by decide)
  · split at h
    · split at h
      · exact absurd h (by decide)
      · split at h
        · exact absurd h (by decide)
        · exact absurd h (by decide)
    · exact absurd h (by decide)
theorem form_6 {A : Tm} (h : tm_form A = 6) : Tgood 6 (pt A 1) = true := by
  unfold tm_form at h
  split at h
  · split at h
    · exact absurd h (by decide)
    · exact absurd h (by decide)
  · split at h
    · split at h
      · assumption
      · split at h
        · exact absurd h (by decide)
        · exact absurd h (by decide)
    · exact absurd h (by decide)
theorem form_7 {A : Tm} (h : tm_form A = 7) : Tgood 7 (pt (pt A 1) 1) = true := by
  unfold tm_form at h
  split at h
  · split at h
    · exact absurd h (by decide)
    · exact absurd h (by decide)
  · split at h
    · split at h
      · exact absurd h (by decide)
      · split at h
        · rename_i q; exact q.2
        · exact absurd h (by decide)
    · exact absurd h (by decide)
set_option maxRecDepth 100000 in
theorem l_arrEnd {sc : tm_X} {d : Nat} {B : bm_H} {F : Nat → Prop} {N S M ln : Nat} {T : List Tm} {dr : Nat} {K : Tm → Prop} {ca rm kc kl rk : Nat} {ws : List (Tm × Int32)} {wt : List Tm} {L : List LT} {bd ll tc tl tf tg : Nat → Int32} {cf cg : Int32} {ct : Tm} {co : Bool} {li fo db : Int32} {ids dir reg : Nat → Tm} {seen : List Tm} {π : Nat → Nat} {w : Nat → SW} {dev : Nat → DV} {sto : Nat → ST} {q : Nat} {a : Int32} {p0 : Bool} {P : EN2} {c : Option Nat} {Q : Int32 → bm_H → Prop} (hC : CK B F N S M ln T dr K ca rm kc kl rk) (hH : RH B T ws wt (L, bd, ll, tc, tl, tf, tg, cf, cg, ct, co, li, fo, db) ids dir reg seen π w dev sto) (hq : q < 6) (hst : sto q = (p0, P, [], c, false)) (hen : 0 ≤ a → (dv_en (dev 6)).length ≤ 536) (kN : a < 0 → Q a B) (k0 : ∀ B', 0 ≤ a → (st_commit p0 P c (dv_en (dev 6))).1 = 0 → CK B' F N S M ln T dr K ca rm kc kl rk → RH B' T ws wt (L, bd, ll, tc, tl, tf, tg, cf, cg, ct, co, li, fo, db) ids dir reg seen π w dev (fset sto q (st_commit p0 P c (dv_en (dev 6))).2) → fr (fun y => ¬ F y) B B' → Q (-4) B') (k1 : ∀ B', 0 ≤ a → (st_commit p0 P c (dv_en (dev 6))).1 = 1 → CK B' F N S M ln T dr K ca rm kc kl rk → RH B' T ws wt (L, bd, ll, tc, tl, tf, tg, cf, cg, ct, co, li, fo, db) ids dir reg seen (sw6 π q) (sw6 w q) (sw6 dev q) (fset sto q (st_commit p0 P c (dv_en (dev 6))).2) → fr (fun y => ¬ F y) B B' → Q (-4) B') (k2 : ∀ B', 0 ≤ a → (st_commit p0 P c (dv_en (dev 6))).1 = 2 → CK B' F N S M ln T dr K ca rm kc kl rk → RH B' T ws wt (if a = 1 then lg_taken (L, bd, ll, tc, tl, tf, tg, cf, cg, ct, co, li, fo, db) q else (L, bd, ll, tc, tl, tf, tg, cf, cg, ct, co, li, fo, db)) ids dir reg seen (sw6 π q) (sw6 w q) (sw6 dev q) (fset sto q (st_commit p0 P c (dv_en (dev 6))).2) → fr (fun y => ¬ F y) B B' → Q a B') : ∀ lv : tm_L, lv.lookup 0 = some (.ref 0) → lv.lookup 1 = some (.int (nI q)) → lv.lookup 3 = some (.int a) → bm_G sc (d + 5) 105 106 lv [] B (fun r B' => ∃ v, r = some (.int v) ∧ Q v B') := by
  intro lv l0 l1 l3
  refine g_ild (pc' := 107) cd_Ho_arrive rfl (Or.inr ⟨_, rfl, rfl, rfl⟩) l3 rfl ?_
  refine g_if1 (t := 112) (pc' := 110) cd_Ho_arrive rfl rfl rfl (fun c107 => ?_) (fun c107 => ?_)
  · have c107 : (0 : Int32) ≤ a := c107
    refine g_ald (pc' := 113) cd_Ho_arrive rfl (Or.inr ⟨_, rfl, rfl, rfl⟩) l0 rfl rfl ?_
    refine g_ild (pc' := 114) cd_Ho_arrive rfl (Or.inr ⟨_, rfl, rfl, rfl⟩) l1 rfl ?_
    refine g_calli (pc' := 117) cd_Ho_arrive rfl rfl rfl rfl rfl (tm_invV rfl rfl cd_Ho_finish rfl (Nat.le_of_ble_eq_true rfl) (by decide) hH.1.1.1 hH.1.1.2) (t_finish hC hH hq hst (hen c107) (fun B4 ho hC4 hH4 hz4 => ?_) (fun B4 ho hC4 hH4 hz4 => ?_))
    · skip
      show bm_G _ _ _ 117 _ [.int 0] B4 _
      refine g_if1 (t := 123) (pc' := 120) cd_Ho_arrive rfl rfl rfl (fun c117 => ?_) (fun c117 => ?_)
      · exact absurd (show ¬ (0 : Int32) = 0 from c117) (by decide)
      · have c117 : (0 : Int32) = 0 := Classical.not_not.mp c117
        refine g_k2 (v := (-4)) (pc' := 122) cd_Ho_arrive rfl (by decide) rfl ?_
        exact g_reti cd_Ho_arrive rfl ⟨_, rfl, (k0 B4 c107 ho hC4 hH4 (fr_mono (fun y q => nF_lo hC (by omega)) hz4.1))⟩
    · skip
      show bm_G _ _ _ 117 _ [.int (bz (decide ((st_commit p0 P c (dv_en (dev 6))).1 = 2)))] B4 _
      refine g_if1 (t := 123) (pc' := 120) cd_Ho_arrive rfl rfl rfl (fun c117 => ?_) (fun c117 => ?_)
      · have c117 : (decide ((st_commit p0 P c (dv_en (dev 6))).1 = 2)) = true := bz_t c117
        refine g_ild (pc' := 124) cd_Ho_arrive rfl (Or.inr ⟨_, rfl, rfl, rfl⟩) l3 rfl ?_
        refine g_k1 (v := 1) (pc' := 125) cd_Ho_arrive rfl (by decide) rfl ?_
        refine g_if2 (t := 140) (pc' := 128) cd_Ho_arrive rfl rfl rfl (fun c125 => ?_) (fun c125 => ?_)
        · have c125 : ¬ a = 1 := c125
          refine g_ild (pc' := 141) cd_Ho_arrive rfl (Or.inr ⟨_, rfl, rfl, rfl⟩) l3 rfl ?_
          exact g_reti cd_Ho_arrive rfl ⟨_, rfl, (k2 B4 c107 (of_decide_eq_true c117) hC4 (by rw [if_neg c125]; exact hH4) (fr_mono (fun y q => nF_lo hC (by omega)) hz4.1))⟩
        · have c125 : a = 1 := Classical.not_not.mp c125
          refine g_ald (pc' := 129) cd_Ho_arrive rfl (Or.inr ⟨_, rfl, rfl, rfl⟩) l0 rfl rfl ?_
          refine g_fR (c := 11) (k := 3) (x := 11) (pc' := 132) cd_Ho_arrive rfl rfl rfl rfl rfl (by decide) hH4.1.1.1 hH4.1.1.2 hH4.1.2.1.2.2.2.1 ?_
          refine g_ald (pc' := 133) cd_Ho_arrive rfl (Or.inr ⟨_, rfl, rfl, rfl⟩) l0 rfl rfl ?_
          refine g_fR (c := 11) (k := 0) (x := 1) (pc' := 136) cd_Ho_arrive rfl rfl rfl rfl rfl (by decide) hH4.1.1.1 hH4.1.1.2 hH4.1.2.1.1 ?_
          refine g_ild (pc' := 137) cd_Ho_arrive rfl (Or.inr ⟨_, rfl, rfl, rfl⟩) l1 rfl ?_
          refine g_callv (pc' := 140) cd_Ho_arrive rfl rfl rfl rfl rfl (tm_invV rfl rfl cd_Le_noteTaken rfl (Nat.le_of_ble_eq_true rfl) (by decide) hH4.2.2.1.1.1.1 hH4.2.2.1.1.1.2) (t_noteTaken hC4.1 hH4.2.2.1 hq (fun B5 hL5 hz5 => ?_))
          have hH5 := RH_le hH4 hz5.1 (fun y q => by unfold lex; omega) (List.prefix_refl T) hL5
          have hC5 := CK_cls hC4 hz5 (fun y q => by unfold lex at q; omega)
          show bm_G _ _ _ 140 _ [] B5 _
          refine g_ild (pc' := 141) cd_Ho_arrive rfl (Or.inr ⟨_, rfl, rfl, rfl⟩) l3 rfl ?_
          exact g_reti cd_Ho_arrive rfl ⟨_, rfl, (k2 B5 c107 (of_decide_eq_true c117) hC5 (by rw [if_pos c125]; exact hH5) (fr_trans (fr_mono (fun y q => nF_lo hC (by omega)) hz4.1) (fr_mono (fun y q => nF_lo hC (by unfold lex at q; omega)) hz5.1)))⟩
      · have c117 : (decide ((st_commit p0 P c (dv_en (dev 6))).1 = 2)) = false := bz_f (Classical.not_not.mp c117)
        refine g_k2 (v := (-4)) (pc' := 122) cd_Ho_arrive rfl (by decide) rfl ?_
        have ho1 : (st_commit p0 P c (dv_en (dev 6))).1 = 1 := by have := st_commit_le (p := p0) (P := P) (c := c) (W := dv_en (dev 6)); have q2 := of_decide_eq_false c117; omega
        exact g_reti cd_Ho_arrive rfl ⟨_, rfl, (k1 B4 c107 ho1 hC4 hH4 (fr_mono (fun y q => nF_lo hC (by omega)) hz4.1))⟩
  · have c107 : ¬ (0 : Int32) ≤ a := c107
    refine g_ild (pc' := 111) cd_Ho_arrive rfl (Or.inr ⟨_, rfl, rfl, rfl⟩) l3 rfl ?_
    exact g_reti cd_Ho_arrive rfl ⟨_, rfl, (kN (Int32.not_le.mp c107))⟩
theorem tp_01 (A : Tm) (q p : Nat) (M : MM) : 0 ≤ (tp_spec A q p M).1 → (tp_spec A q p M).1 = 1 := by
  intro h
  by_cases c1 : p = q
  · rw [tp_11 c1] at h; exact absurd (show (0 : Int32) ≤ -11 from h) (by decide)
  · cases hf : gv_find (mgv M p) (nu (pt (pt A 1) 1) 2) with
    | none => rw [tp_17 c1 (Or.inl hf)] at h; exact absurd (show (0 : Int32) ≤ -17 from h) (by decide)
    | some r =>
      obtain ⟨k, G⟩ := r
      cases hb : hbit M.2.1 (nI p) with
      | false => rw [tp_17 c1 (Or.inr hb)] at h; exact absurd (show (0 : Int32) ≤ -17 from h) (by decide)
      | true =>
        rw [tp_go c1 hf hb] at h ⊢
        by_cases c2 : (if kd (pt A 0) = 1 then Tpub (pt A 0) else tz) = G.1.1
        · rw [cif_t c2] at h ⊢
          cases hk : gv_key G.1 (nu (pt (pt A 1) 1) 3) with
          | none => rw [hk] at h; exact absurd (show (0 : Int32) ≤ -13 from h) (by decide)
          | some r =>
            obtain ⟨key, I⟩ := r
            rw [hk] at h
            dsimp only at h ⊢
            by_cases c3 : key = pt (pt A 1) 0
            · rw [cif_t c3] at h ⊢
              by_cases c4 : Tgood 4 (pt (pt A 1) 2) = true
              · rw [if_pos c4]
              · rw [if_neg c4] at h; exact absurd (show (0 : Int32) ≤ -15 from h) (by decide)
            · rw [cif_f c3] at h; exact absurd (show (0 : Int32) ≤ -14 from h) (by decide)
        · rw [cif_f c2] at h; exact absurd (show (0 : Int32) ≤ -14 from h) (by decide)
set_option maxRecDepth 100000 in
theorem t_arrive {sc : tm_X} {d : Nat} {B : bm_H} {F : Nat → Prop} {N S M ln : Nat} {T : List Tm} {dr : Nat} {K : Tm → Prop} {ca rm kc kl rk : Nat} {ws : List (Tm × Int32)} {wt : List Tm} {L : List LT} {bd ll tc tl tf tg : Nat → Int32} {cf cg : Int32} {ct : Tm} {co : Bool} {li fo db : Int32} {ids dir reg : Nat → Tm} {seen : List Tm} {π : Nat → Nat} {w : Nat → SW} {dev : Nat → DV} {sto : Nat → ST} {id : Tm} {K0 K1 : PK} {on : List (Tm × Int32)} {lnu : Int32} {se : Nat → List SS} {me : Nat → MM} {q : Nat} {x : Int32} {A : Tm} {p0 : Bool} {P : EN2} {c : Option Nat} {Q : Int32 → bm_H → Prop} (hC : CK B F N S M ln T dr K ca rm kc kl rk) (hH : RH B T ws wt (L, bd, ll, tc, tl, tf, tg, cf, cg, ct, co, li, fo, db) ids dir reg seen π w dev sto) (hTl : T.length ≤ 30000) (hq : q < 6) (eD : dev q = (id, K0, K1, on, lnu, se, me)) (hst : (sto q).2.2.2.2 = false → sto q = (p0, P, [], c, false)) (kI : kd id = 1) (kJ : ∀ p, p < 6 → kd (ids p) = 1) (hk0 : 0 < K0.2.1 → kd K0.1 = 1) (hk1 : 0 < K1.2.1 → kd K1.1 = 1) (hk : ∀ e, e ∈ on → kd e.1 = 1) (hse : ∀ (p k : Nat) (S : SS), (se p)[k]? = some S → okI S.1 ∧ kd S.2.2.2.1 = 1) (hme : ∀ (g p k : Nat) (G : GV), (mgv (me g) p)[k]? = some G → okI G.1) (hx : tv T x A) (hen : 0 ≤ (ar_spec (id, K0, K1, on, lnu, se, me) ids q A).1 → (dv_en (ar_spec (id, K0, K1, on, lnu, se, me) ids q A).2.1).length ≤ 536) (kD : (sto q).2.2.2.2 = true → Q (-3) B) (kN : ∀ B' T' M' ca' rm' w' D' G', T <+: T' → T'.length ≤ T.length + 34 → (ar_spec (id, K0, K1, on, lnu, se, me) ids q A).1 < 0 → (∃ cf' cg' ct' co', G' = (L, bd, ll, tc, tl, tf, tg, cf', cg', ct', co', li, fo, db)) → CK B' F N S M' ln T' dr K ca' rm' kc kl rk → RH B' T' ws [] G' ids dir reg seen π w' (fset dev 6 D') sto → fr (fun y => ¬ F y) B B' → Q (ar_spec (id, K0, K1, on, lnu, se, me) ids q A).1 B') (k0 : ∀ B' T' M' ca' rm' w' D' G', T <+: T' → T'.length ≤ T.length + 34 → 0 ≤ (ar_spec (id, K0, K1, on, lnu, se, me) ids q A).1 → (st_commit p0 P c (dv_en (ar_spec (id, K0, K1, on, lnu, se, me) ids q A).2.1)).1 = 0 → (∃ cf' cg' ct' co', G' = (L, bd, ll, tc, tl, tf, tg, cf', cg', ct', co', li, fo, db)) → CK B' F N S M' ln T' dr K ca' rm' kc kl rk → RH B' T' ws [] G' ids dir reg seen π w' (fset dev 6 D') (fset sto q (st_commit p0 P c (dv_en (ar_spec (id, K0, K1, on, lnu, se, me) ids q A).2.1)).2) → fr (fun y => ¬ F y) B B' → Q (-4) B') (k1 : ∀ B' T' M' ca' rm' w' G', T <+: T' → T'.length ≤ T.length + 34 → 0 ≤ (ar_spec (id, K0, K1, on, lnu, se, me) ids q A).1 → (st_commit p0 P c (dv_en (ar_spec (id, K0, K1, on, lnu, se, me) ids q A).2.1)).1 = 1 → (∃ cf' cg' ct' co', G' = (L, bd, ll, tc, tl, tf, tg, cf', cg', ct', co', li, fo, db)) → CK B' F N S M' ln T' dr K ca' rm' kc kl rk → RH B' T' ws [] G' ids dir reg seen (sw6 π q) w' (sw6 (fset dev 6 (ar_spec (id, K0, K1, on, lnu, se, me) ids q A).2.1) q) (fset sto q (st_commit p0 P c (dv_en (ar_spec (id, K0, K1, on, lnu, se, me) ids q A).2.1)).2) → fr (fun y => ¬ F y) B B' → Q (-4) B') (k2 : ∀ B' T' M' ca' rm' w' G', T <+: T' → T'.length ≤ T.length + 34 → 0 ≤ (ar_spec (id, K0, K1, on, lnu, se, me) ids q A).1 → (st_commit p0 P c (dv_en (ar_spec (id, K0, K1, on, lnu, se, me) ids q A).2.1)).1 = 2 → ((ar_spec (id, K0, K1, on, lnu, se, me) ids q A).1 = 1 → G' = lg_taken (L, bd, ll, tc, tl, tf, tg, (ar_spec (id, K0, K1, on, lnu, se, me) ids q A).2.2.1, (ar_spec (id, K0, K1, on, lnu, se, me) ids q A).2.2.2.1, (ar_spec (id, K0, K1, on, lnu, se, me) ids q A).2.2.2.2.1, (ar_spec (id, K0, K1, on, lnu, se, me) ids q A).2.2.2.2.2, li, fo, db) q) → ((ar_spec (id, K0, K1, on, lnu, se, me) ids q A).1 ≠ 1 → G' = (L, bd, ll, tc, tl, tf, tg, cf, cg, ct, co, li, fo, db)) → CK B' F N S M' ln T' dr K ca' rm' kc kl rk → RH B' T' ws [] G' ids dir reg seen (sw6 π q) w' (sw6 (fset dev 6 (ar_spec (id, K0, K1, on, lnu, se, me) ids q A).2.1) q) (fset sto q (st_commit p0 P c (dv_en (ar_spec (id, K0, K1, on, lnu, se, me) ids q A).2.1)).2) → fr (fun y => ¬ F y) B B' → Q (ar_spec (id, K0, K1, on, lnu, se, me) ids q A).1 B') : bm_Gi sc (d + 6) 105 [.ref 0, .int (nI q), .int x] B Q := by
  have hst0 := hH.2.2.2.2.2.2 q hq
  have hSS := RSt_K hst0
  show bm_G sc (d + 6) 105 0 [(0, .ref 0), (1, .int (nI q)), (2, .int x)] [] B _
  generalize elv : ([(0, .ref 0), (1, .int (nI q)), (2, .int x)] : tm_L) = lv
  have l0 : lv.lookup 0 = some (.ref 0) := by rw [← elv]; rfl
  have l1 : lv.lookup 1 = some (.int (nI q)) := by rw [← elv]; rfl
  have l2 : lv.lookup 2 = some (.int x) := by rw [← elv]; rfl
  clear elv
  refine g_ald (pc' := 1) cd_Ho_arrive rfl (Or.inr ⟨_, rfl, rfl, rfl⟩) l0 rfl rfl ?_
  refine g_fR (c := 11) (k := 5) (x := 20) (pc' := 4) cd_Ho_arrive rfl rfl rfl rfl rfl (by decide) hH.1.1.1 hH.1.1.2 hH.1.2.1.2.2.2.2.2.1 ?_
  refine g_ild (pc' := 5) cd_Ho_arrive rfl (Or.inr ⟨_, rfl, rfl, rfl⟩) l1 rfl ?_
  refine g_aR (t := 3) (x := (431 + 209 * q)) (pc' := 6) cd_Ho_arrive rfl rfl hH.1.2.2.2.1.1 hH.1.2.2.2.1.2.1 (by decide) rfl rfl (by rw [show bm_AL B 20 = 6 from hH.1.2.2.2.1.2.2]; exact vp_in_nI (by omega) (by decide)) (by rw [nI_clamp (by omega)]; exact hH.2.2.2.2.2.1 q hq) ?_
  refine g_fI (c := 8) (k := 6) (x := bz (sto q).2.2.2.2) (pc' := 9) cd_Ho_arrive rfl rfl rfl rfl rfl (by decide) hSS.1 hSS.2 (RSt_dn hst0) ?_
  refine g_if1 (t := 15) (pc' := 12) cd_Ho_arrive rfl rfl rfl (fun c9 => ?_) (fun c9 => ?_)
  · have c9 : (sto q).2.2.2.2 = false := bz_f c9
    refine g_ald (pc' := 16) cd_Ho_arrive rfl (Or.inr ⟨_, rfl, rfl, rfl⟩) l0 rfl rfl ?_
    refine g_fR (c := 11) (k := 0) (x := 1) (pc' := 19) cd_Ho_arrive rfl rfl rfl rfl rfl (by decide) hH.1.1.1 hH.1.1.2 hH.1.2.1.1 ?_
    refine g_calli (pc' := 22) cd_Ho_arrive rfl rfl rfl rfl rfl (tm_invV rfl rfl cd_Te_hasRoom rfl (Nat.le_of_ble_eq_true rfl) (by decide) hC.1.1.1.1 hC.1.1.1.2) (t_roomC hC hTl (fun B1 ca1 rm1 hC1 hf1 => ?_))
    have hH1 := RH_fr hH hf1 (fun y q => by omega) (List.prefix_refl T)
    have hs := hst c9
    show bm_G _ _ _ 22 _ [.int 1] B1 _
    refine g_if1 (t := 28) (pc' := 25) cd_Ho_arrive rfl rfl rfl (fun c22 => ?_) (fun c22 => ?_)
    · have c22 : ¬ (1 : Int32) = 0 := c22
      refine g_ald (pc' := 29) cd_Ho_arrive rfl (Or.inr ⟨_, rfl, rfl, rfl⟩) l0 rfl rfl ?_
      refine g_ild (pc' := 30) cd_Ho_arrive rfl (Or.inr ⟨_, rfl, rfl, rfl⟩) l1 rfl ?_
      refine g_callv (pc' := 33) cd_Ho_arrive rfl rfl rfl rfl rfl (tm_invV rfl rfl cd_Ho_startWork rfl (Nat.le_of_ble_eq_true rfl) (by decide) hH1.1.1.1 hH1.1.1.2) (t_startWork hC1 hH1 hq (fun B2 hC2 hH2 hz2 => ?_))
      have eD2 : fset dev 6 (dev q) 6 = (id, K0, K1, on, lnu, se, me) := (fset_same _ _ _).trans eD
      have hrm2 := hC2.2.2.2.2.1.2
      have hf2 : fr (fun y => ¬ F y) B B2 := fr_trans (fr_mono (fun y q => nF_lo hC (by omega)) hf1) (fr_mono (fun y q => nF_lo hC (by omega)) hz2.1)
      show bm_G _ _ _ 33 _ [] B2 _
      refine g_k2 (v := (-10)) (pc' := 35) cd_Ho_arrive rfl (by decide) rfl ?_
      refine g_ist (pc' := 36) cd_Ho_arrive rfl (Or.inr ⟨_, rfl, rfl, rfl⟩) (by decide) rfl (fun lv el => ?_)
      have l0 := tm_lk el l0 rfl (by decide)
      have l1 := tm_lk el l1 rfl (by decide)
      have l2 := tm_lk el l2 rfl (by decide)
      have l3 : lv.lookup 3 = some (.int (-10)) := tm_lks el
      clear el
      refine g_ald (pc' := 37) cd_Ho_arrive rfl (Or.inr ⟨_, rfl, rfl, rfl⟩) l0 rfl rfl ?_
      refine g_ild (pc' := 38) cd_Ho_arrive rfl (Or.inr ⟨_, rfl, rfl, rfl⟩) l2 rfl ?_
      refine g_calli (pc' := 41) cd_Ho_arrive rfl rfl rfl rfl rfl (tm_invV rfl rfl cd_Ho_formOf rfl (Nat.le_of_ble_eq_true rfl) (by decide) hH2.1.1.1 hH2.1.1.2) (t_formOf hC2 hH2 hx ?_)
      show bm_G _ _ _ 41 _ [.int ((tm_form A))] B2 _
      by_cases s41_3 : (tm_form A) = 3
      · skip
        refine g_swk (pc' := 76) s41_3 cd_Ho_arrive rfl rfl (fun _ _ => rfl) ?_
        refine g_ald (pc' := 77) cd_Ho_arrive rfl (Or.inr ⟨_, rfl, rfl, rfl⟩) l0 rfl rfl ?_
        refine g_ild (pc' := 78) cd_Ho_arrive rfl (Or.inr ⟨_, rfl, rfl, rfl⟩) l1 rfl ?_
        refine g_ild (pc' := 79) cd_Ho_arrive rfl (Or.inr ⟨_, rfl, rfl, rfl⟩) l2 rfl ?_
        have hg3 := form_3 s41_3
        obtain ⟨⟨p, hp, ep⟩, -⟩ := good3_g hg3
        have hpp := good3_p hg3
        have th := TI_pt hC2.1 hx (i := 1) (by decide)
        have kA := pub_p0 (TI_sp hC2.1 (TI_pt hC2.1 th (i := 0) (by decide))) hpp.1
        have kH := pub_p0 (TI_sp hC2.1 (TI_pt hC2.1 th (i := 1) (by decide))) hpp.2.1
        have epp : (nu (pt A 1) 0).toNatClampNeg = p := by rw [ep, nI_clamp (by omega)]
        have hE : (ar_spec (id, K0, K1, on, lnu, se, me) ids q A) = ((ts_spec (id, K0, K1, on, lnu, se, me) ids q p A).1, (ts_spec (id, K0, K1, on, lnu, se, me) ids q p A).2.1, nI p, -1, pt (pt A 2) 0, (ts_spec (id, K0, K1, on, lnu, se, me) ids q p A).2.2) := by unfold ar_spec; dsimp only; rw [if_pos s41_3, epp, ep]
        refine g_calli (pc' := 82) cd_Ho_arrive rfl rfl rfl rfl rfl (tm_invV rfl rfl cd_Ho_takeSealed rfl (Nat.le_of_ble_eq_true rfl) (by decide) hH2.1.1.1 hH2.1.1.2) (t_takeSealed hC2 hH2 hq hp ep eD2 kI (kJ p hp) hk0 hk1 hk (hse p) kA kH hx (by omega) (fun B3 T3 w3 D3 G3 hp3 hl3 q1 q2 q3 hC3 hH3 hf3 => ?_))
        show bm_G _ _ _ 82 _ [.int ((ts_spec (id, K0, K1, on, lnu, se, me) ids q p A).1)] B3 _
        refine g_ist (pc' := 83) cd_Ho_arrive rfl (Or.inr ⟨_, rfl, rfl, rfl⟩) (by decide) rfl (fun lv el => ?_)
        have l0 := tm_lk el l0 rfl (by decide)
        have l1 := tm_lk el l1 rfl (by decide)
        have l2 := tm_lk el l2 rfl (by decide)
        have l3 : lv.lookup 3 = some (.int ((ts_spec (id, K0, K1, on, lnu, se, me) ids q p A).1)) := tm_lks el
        clear el
        refine g_pure (pc' := 106) (st' := []) cd_Ho_arrive rfl rfl (fun _ _ => rfl) ?_
        obtain ⟨cf3, cg3, ct3, co3, eG3⟩ : ∃ a1 a2 a3 a4, G3 = (L, bd, ll, tc, tl, tf, tg, a1, a2, a3, a4, li, fo, db) := by
          by_cases z : (ts_spec (id, K0, K1, on, lnu, se, me) ids q p A).1 = 1
          · exact ⟨_, _, _, _, q2 z⟩
          · exact ⟨_, _, _, _, q3 z⟩
        subst eG3
        have hDD : 0 ≤ (ts_spec (id, K0, K1, on, lnu, se, me) ids q p A).1 → D3 = (ar_spec (id, K0, K1, on, lnu, se, me) ids q A).2.1 := (fun z => by rw [hE]; exact q1 z)
        have hs6 : 0 ≤ (ts_spec (id, K0, K1, on, lnu, se, me) ids q p A).1 → (fset (fset dev 6 (dev q)) 6 D3 6) = (ar_spec (id, K0, K1, on, lnu, se, me) ids q A).2.1 := fun z => by rw [fset_same]; exact hDD z
        have hff : ∀ B', fr (fun y => ¬ F y) B3 B' → fr (fun y => ¬ F y) B B' := fun B' z => fr_trans (fr_trans hf2 hf3) z
        have ea : (ts_spec (id, K0, K1, on, lnu, se, me) ids q p A).1 = (ar_spec (id, K0, K1, on, lnu, se, me) ids q A).1 := by rw [hE]
        refine l_arrEnd (a := (ts_spec (id, K0, K1, on, lnu, se, me) ids q p A).1) hC3 hH3 hq hs (fun z => by rw [hs6 z]; exact hen (ea ▸ z)) (fun z => ?_) (fun B' z z1 z2 z3 z4 => ?_) (fun B' z z1 z2 z3 z4 => ?_) (fun B' z z1 z2 z3 z4 => ?_) lv l0 l1 l3
        · have hHx := hH3
          rw [fset_fset] at hHx
          exact bm_eq (kN B3 T3 _ ca1 rm1 _ _ _ hp3 (by omega) (ea ▸ z) ⟨_, _, _, _, rfl⟩ hC3 hHx (fr_trans hf2 hf3)) ea.symm
        · rw [hs6 z] at z1 z3
          rw [fset_fset] at z3
          exact k0 B' T3 _ ca1 rm1 _ _ _ hp3 (by omega) (ea ▸ z) z1 ⟨_, _, _, _, rfl⟩ z2 z3 (hff B' z4)
        · rw [hs6 z] at z1 z3
          rw [fset_fset, hDD z] at z3
          exact k1 B' T3 _ ca1 rm1 _ _ hp3 (by omega) (ea ▸ z) z1 ⟨_, _, _, _, rfl⟩ z2 z3 (hff B' z4)
        · rw [hs6 z] at z1 z3
          rw [fset_fset, hDD z] at z3
          exact bm_eq (k2 B' T3 _ ca1 rm1 _ _ hp3 (by omega) (ea ▸ z) z1 (fun y => by rw [if_pos (ea.trans y), q2 (ea.trans y), hE]) (fun y => by rw [if_neg (fun y2 => y (ea ▸ y2)), q3 (fun y2 => y (ea ▸ y2))]) z2 z3 (hff B' z4)) ea.symm
      by_cases s41_4 : (tm_form A) = 4
      · skip
        refine g_swk (pc' := 106) s41_4 cd_Ho_arrive rfl rfl (fun _ _ => rfl) ?_
        have hE : (ar_spec (id, K0, K1, on, lnu, se, me) ids q A) = (-10, (id, K0, K1, on, lnu, se, me), 0, 0, tz, false) := by unfold ar_spec; dsimp only; rw [if_neg (by rw [s41_4]; decide), if_neg (by rw [s41_4]; decide), if_neg (by rw [s41_4]; decide)]
        exact l_arrEnd (a := (-10)) hC2 hH2 hq hs (fun z => absurd z (by decide)) (fun z => bm_eq (kN B2 T _ ca1 rm1 _ _ _ (List.prefix_refl T) (by omega) (by rw [hE]; show ((-10) : Int32) < 0; decide) ⟨_, _, _, _, rfl⟩ hC2 hH2 hf2) (by rw [hE])) (fun _ z => absurd z (by decide)) (fun _ z => absurd z (by decide)) (fun _ z => absurd z (by decide)) lv l0 l1 l3
      by_cases s41_5 : (tm_form A) = 5
      · skip
        refine g_swk (pc' := 106) s41_5 cd_Ho_arrive rfl rfl (fun _ _ => rfl) ?_
        have hE : (ar_spec (id, K0, K1, on, lnu, se, me) ids q A) = (-10, (id, K0, K1, on, lnu, se, me), 0, 0, tz, false) := by unfold ar_spec; dsimp only; rw [if_neg (by rw [s41_5]; decide), if_neg (by rw [s41_5]; decide), if_neg (by rw [s41_5]; decide)]
        exact l_arrEnd (a := (-10)) hC2 hH2 hq hs (fun z => absurd z (by decide)) (fun z => bm_eq (kN B2 T _ ca1 rm1 _ _ _ (List.prefix_refl T) (by omega) (by rw [hE]; show ((-10) : Int32) < 0; decide) ⟨_, _, _, _, rfl⟩ hC2 hH2 hf2) (by rw [hE])) (fun _ z => absurd z (by decide)) (fun _ z => absurd z (by decide)) (fun _ z => absurd z (by decide)) lv l0 l1 l3
      by_cases s41_6 : (tm_form A) = 6
      · skip
        refine g_swk (pc' := 86) s41_6 cd_Ho_arrive rfl rfl (fun _ _ => rfl) ?_
        refine g_ald (pc' := 87) cd_Ho_arrive rfl (Or.inr ⟨_, rfl, rfl, rfl⟩) l0 rfl rfl ?_
        refine g_ild (pc' := 88) cd_Ho_arrive rfl (Or.inr ⟨_, rfl, rfl, rfl⟩) l1 rfl ?_
        refine g_ild (pc' := 89) cd_Ho_arrive rfl (Or.inr ⟨_, rfl, rfl, rfl⟩) l2 rfl ?_
        have hg6 := form_6 s41_6
        obtain ⟨g, hg, eg⟩ := good6_g hg6
        have egg : (nu (pt A 1) 0).toNatClampNeg = g := by rw [eg, nI_clamp (by omega)]
        obtain ⟨ve, ma, go, ge, ch, si, ix, ga, sl, gv, eM⟩ : ∃ a1 a2 a3 a4 a5 a6 a7 a8 a9 a10, me g = (a1, a2, a3, a4, a5, a6, a7, a8, a9, a10) := ⟨_, _, _, _, _, _, _, _, _, _, rfl⟩
        have hE : (ar_spec (id, K0, K1, on, lnu, se, me) ids q A) = cif (tl_ok A q g (ids g) (me g)) (3, (id, K0, K1, on, lnu, se, fset me g (mm_adopt (me g) (nu (pt A 1) 1) (nu (pt A 1) 2))), 0, 0, tz, false) (-16, (id, K0, K1, on, lnu, se, me), 0, 0, tz, false) := by unfold ar_spec; dsimp only; rw [if_neg s41_3, if_pos s41_6, egg]
        refine g_calli (pc' := 92) cd_Ho_arrive rfl rfl rfl rfl rfl (tm_invV rfl rfl cd_Ho_takeList rfl (Nat.le_of_ble_eq_true rfl) (by decide) hH2.1.1.1 hH2.1.1.2) (t_takeList hC2 hH2 hq hg eg eD2 eM hx (fun q1 => ?_) (fun B3 w3 q1 hC3 hH3 hz3 => ?_))
        · skip
          show bm_G _ _ _ 92 _ [.int (-16)] B2 _
          refine g_ist (pc' := 93) cd_Ho_arrive rfl (Or.inr ⟨_, rfl, rfl, rfl⟩) (by decide) rfl (fun lv el => ?_)
          have l0 := tm_lk el l0 rfl (by decide)
          have l1 := tm_lk el l1 rfl (by decide)
          have l2 := tm_lk el l2 rfl (by decide)
          have l3 : lv.lookup 3 = some (.int (-16)) := tm_lks el
          clear el
          refine g_pure (pc' := 106) (st' := []) cd_Ho_arrive rfl rfl (fun _ _ => rfl) ?_
          rw [cif_f q1] at hE
          exact l_arrEnd (a := (-16)) hC2 hH2 hq hs (fun z => absurd z (by decide)) (fun z => bm_eq (kN B2 T _ ca1 rm1 _ _ _ (List.prefix_refl T) (by omega) (by rw [hE]; show ((-16) : Int32) < 0; decide) ⟨_, _, _, _, rfl⟩ hC2 hH2 hf2) (by rw [hE])) (fun _ z => absurd z (by decide)) (fun _ z => absurd z (by decide)) (fun _ z => absurd z (by decide)) lv l0 l1 l3
        · skip
          show bm_G _ _ _ 92 _ [.int 3] B3 _
          refine g_ist (pc' := 93) cd_Ho_arrive rfl (Or.inr ⟨_, rfl, rfl, rfl⟩) (by decide) rfl (fun lv el => ?_)
          have l0 := tm_lk el l0 rfl (by decide)
          have l1 := tm_lk el l1 rfl (by decide)
          have l2 := tm_lk el l2 rfl (by decide)
          have l3 : lv.lookup 3 = some (.int 3) := tm_lks el
          clear el
          refine g_pure (pc' := 106) (st' := []) cd_Ho_arrive rfl rfl (fun _ _ => rfl) ?_
          rw [cif_t q1] at hE
          have hf3 : fr (fun y => ¬ F y) B2 B3 := fr_mono (fun y q => q.elim (nF_tcs hC2) (fun q => nF_lo hC (by have := rb_in (hH2.2.2.2.2.1.2.2.1 6 (by decide)); omega))) hz3.1
          have hDD : 0 ≤ (3 : Int32) → (id, K0, K1, on, lnu, se, fset me g (mm_adopt (me g) (nu (pt A 1) 1) (nu (pt A 1) 2))) = (ar_spec (id, K0, K1, on, lnu, se, me) ids q A).2.1 := (fun _ => by rw [hE])
          have hs6 : 0 ≤ (3 : Int32) → (fset (fset dev 6 (dev q)) 6 (id, K0, K1, on, lnu, se, fset me g (mm_adopt (me g) (nu (pt A 1) 1) (nu (pt A 1) 2))) 6) = (ar_spec (id, K0, K1, on, lnu, se, me) ids q A).2.1 := fun z => by rw [fset_same]; exact hDD z
          have hff : ∀ B', fr (fun y => ¬ F y) B3 B' → fr (fun y => ¬ F y) B B' := fun B' z => fr_trans (fr_trans hf2 hf3) z
          have ea : (3 : Int32) = (ar_spec (id, K0, K1, on, lnu, se, me) ids q A).1 := by rw [hE]
          refine l_arrEnd (a := (3 : Int32)) hC3 hH3 hq hs (fun z => by rw [hs6 z]; exact hen (ea ▸ z)) (fun z => ?_) (fun B' z z1 z2 z3 z4 => ?_) (fun B' z z1 z2 z3 z4 => ?_) (fun B' z z1 z2 z3 z4 => ?_) lv l0 l1 l3
          · have hHx := hH3
            rw [fset_fset] at hHx
            exact bm_eq (kN B3 T _ ca1 rm1 _ _ _ (List.prefix_refl T) (by omega) (ea ▸ z) ⟨_, _, _, _, rfl⟩ hC3 hHx (fr_trans hf2 hf3)) ea.symm
          · rw [hs6 z] at z1 z3
            rw [fset_fset] at z3
            exact k0 B' T _ ca1 rm1 _ _ _ (List.prefix_refl T) (by omega) (ea ▸ z) z1 ⟨_, _, _, _, rfl⟩ z2 z3 (hff B' z4)
          · rw [hs6 z] at z1 z3
            rw [fset_fset, hDD z] at z3
            exact k1 B' T _ ca1 rm1 _ _ (List.prefix_refl T) (by omega) (ea ▸ z) z1 ⟨_, _, _, _, rfl⟩ z2 z3 (hff B' z4)
          · rw [hs6 z] at z1 z3
            rw [fset_fset, hDD z] at z3
            exact bm_eq (k2 B' T _ ca1 rm1 _ _ (List.prefix_refl T) (by omega) (ea ▸ z) z1 (fun y => absurd (ea.trans y) (by decide)) (fun y => if_neg (by decide)) z2 z3 (hff B' z4)) ea.symm
      by_cases s41_7 : (tm_form A) = 7
      · skip
        refine g_swk (pc' := 96) s41_7 cd_Ho_arrive rfl rfl (fun _ _ => rfl) ?_
        refine g_ald (pc' := 97) cd_Ho_arrive rfl (Or.inr ⟨_, rfl, rfl, rfl⟩) l0 rfl rfl ?_
        refine g_ild (pc' := 98) cd_Ho_arrive rfl (Or.inr ⟨_, rfl, rfl, rfl⟩) l1 rfl ?_
        refine g_ild (pc' := 99) cd_Ho_arrive rfl (Or.inr ⟨_, rfl, rfl, rfl⟩) l2 rfl ?_
        have hg7 := form_7 s41_7
        obtain ⟨⟨g, hg, eg⟩, p, hp, ep⟩ := good7_g hg7
        have egg : (nu (pt (pt A 1) 1) 0).toNatClampNeg = g := by rw [eg, nI_clamp (by omega)]
        have epp : (nu (pt (pt A 1) 1) 1).toNatClampNeg = p := by rw [ep, nI_clamp (by omega)]
        have hE : (ar_spec (id, K0, K1, on, lnu, se, me) ids q A) = ((tp_spec A q p (me g)).1, (id, K0, K1, on, lnu, se, fset me g (tp_spec A q p (me g)).2), nI p, nI g, pt (pt (pt A 1) 2) 0, tp_one A p (me g)) := by unfold ar_spec; dsimp only; rw [if_neg s41_3, if_neg s41_6, if_pos s41_7, egg, epp, ep, eg]
        refine g_calli (pc' := 102) cd_Ho_arrive rfl rfl rfl rfl rfl (tm_invV rfl rfl cd_Ho_takePost rfl (Nat.le_of_ble_eq_true rfl) (by decide) hH2.1.1.1 hH2.1.1.2) (t_takePost hC2 hH2 hq hp hg eg ep eD2 (hme g p) hx (by omega) (fun B3 T3 w3 D3 G3 hp3 hl3 q1 q2 q3 hC3 hH3 hf3 => ?_))
        show bm_G _ _ _ 102 _ [.int ((tp_spec A q p (me g)).1)] B3 _
        refine g_ist (pc' := 103) cd_Ho_arrive rfl (Or.inr ⟨_, rfl, rfl, rfl⟩) (by decide) rfl (fun lv el => ?_)
        have l0 := tm_lk el l0 rfl (by decide)
        have l1 := tm_lk el l1 rfl (by decide)
        have l2 := tm_lk el l2 rfl (by decide)
        have l3 : lv.lookup 3 = some (.int ((tp_spec A q p (me g)).1)) := tm_lks el
        clear el
        refine g_pure (pc' := 106) (st' := []) cd_Ho_arrive rfl rfl (fun _ _ => rfl) ?_
        obtain ⟨cf3, cg3, ct3, co3, eG3⟩ : ∃ a1 a2 a3 a4, G3 = (L, bd, ll, tc, tl, tf, tg, a1, a2, a3, a4, li, fo, db) := by
          by_cases z : (tp_spec A q p (me g)).1 = 1
          · obtain ⟨k5, Gv5, -, z2⟩ := q2 z
            exact ⟨_, _, _, _, z2⟩
          · exact ⟨_, _, _, _, q3 z⟩
        subst eG3
        have h01 : 0 ≤ (tp_spec A q p (me g)).1 → (tp_spec A q p (me g)).1 = 1 := tp_01 A q p (me g)
        have hDD : 0 ≤ (tp_spec A q p (me g)).1 → D3 = (ar_spec (id, K0, K1, on, lnu, se, me) ids q A).2.1 := (fun z => by rw [hE]; exact q1 (h01 z))
        have hs6 : 0 ≤ (tp_spec A q p (me g)).1 → (fset (fset dev 6 (dev q)) 6 D3 6) = (ar_spec (id, K0, K1, on, lnu, se, me) ids q A).2.1 := fun z => by rw [fset_same]; exact hDD z
        have hff : ∀ B', fr (fun y => ¬ F y) B3 B' → fr (fun y => ¬ F y) B B' := fun B' z => fr_trans (fr_trans hf2 hf3) z
        have ea : (tp_spec A q p (me g)).1 = (ar_spec (id, K0, K1, on, lnu, se, me) ids q A).1 := by rw [hE]
        refine l_arrEnd (a := (tp_spec A q p (me g)).1) hC3 hH3 hq hs (fun z => by rw [hs6 z]; exact hen (ea ▸ z)) (fun z => ?_) (fun B' z z1 z2 z3 z4 => ?_) (fun B' z z1 z2 z3 z4 => ?_) (fun B' z z1 z2 z3 z4 => ?_) lv l0 l1 l3
        · have hHx := hH3
          rw [fset_fset] at hHx
          exact bm_eq (kN B3 T3 _ ca1 rm1 _ _ _ hp3 (by omega) (ea ▸ z) ⟨_, _, _, _, rfl⟩ hC3 hHx (fr_trans hf2 hf3)) ea.symm
        · rw [hs6 z] at z1 z3
          rw [fset_fset] at z3
          exact k0 B' T3 _ ca1 rm1 _ _ _ hp3 (by omega) (ea ▸ z) z1 ⟨_, _, _, _, rfl⟩ z2 z3 (hff B' z4)
        · rw [hs6 z] at z1 z3
          rw [fset_fset, hDD z] at z3
          exact k1 B' T3 _ ca1 rm1 _ _ hp3 (by omega) (ea ▸ z) z1 ⟨_, _, _, _, rfl⟩ z2 z3 (hff B' z4)
        · rw [hs6 z] at z1 z3
          rw [fset_fset, hDD z] at z3
          exact bm_eq (k2 B' T3 _ ca1 rm1 _ _ hp3 (by omega) (ea ▸ z) z1 (fun y => by obtain ⟨k5, Gv5, z5, z6⟩ := q2 (ea.trans y); rw [if_pos (ea.trans y), z6, hE, show tp_one A p (me g) = Gv5.2.2 by unfold tp_one; rw [z5]]) (fun y => by rw [if_neg (fun y2 => y (ea ▸ y2)), q3 (fun y2 => y (ea ▸ y2))]) z2 z3 (hff B' z4)) ea.symm
      refine g_swd (t := 106) cd_Ho_arrive rfl rfl (by have := i32_ne (n := 3) (by decide) s41_3; have := i32_ne (n := 4) (by decide) s41_4; have := i32_ne (n := 5) (by decide) s41_5; have := i32_ne (n := 6) (by decide) s41_6; have := i32_ne (n := 7) (by decide) s41_7; omega) ?_
      have hE : (ar_spec (id, K0, K1, on, lnu, se, me) ids q A) = (-10, (id, K0, K1, on, lnu, se, me), 0, 0, tz, false) := by unfold ar_spec; dsimp only; rw [if_neg s41_3, if_neg s41_6, if_neg s41_7]
      exact l_arrEnd (a := (-10)) hC2 hH2 hq hs (fun z => absurd z (by decide)) (fun z => bm_eq (kN B2 T _ ca1 rm1 _ _ _ (List.prefix_refl T) (by omega) (by rw [hE]; show ((-10) : Int32) < 0; decide) ⟨_, _, _, _, rfl⟩ hC2 hH2 hf2) (by rw [hE])) (fun _ z => absurd z (by decide)) (fun _ z => absurd z (by decide)) (fun _ z => absurd z (by decide)) lv l0 l1 l3
    · exact absurd (show ¬ (¬ (1 : Int32) = 0) from c22) (by decide)
  · have c9 : (sto q).2.2.2.2 = true := bz_t c9
    refine g_k2 (v := (-3)) (pc' := 14) cd_Ho_arrive rfl (by decide) rfl ?_
    exact g_reti cd_Ho_arrive rfl ⟨_, rfl, (kD c9)⟩
