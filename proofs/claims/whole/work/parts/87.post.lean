/-! post -/
def mm_ren (M : MM) (dr : Nat) (v : Int32) : MM := if mm_fresh M = true then M else mm_renew M dr v
def dr_ren (M : MM) (dr : Nat) : Nat := if mm_fresh M = true then dr else dr + 2
theorem mm_ren_si {M : MM} {dr : Nat} {v : Int32} (h : mm_fresh M = true → kd M.2.2.2.2.2.1 = 1) : kd (mm_ren M dr v).2.2.2.2.2.1 = 1 := by
  unfold mm_ren
  by_cases c : mm_fresh M = true
  · rw [if_pos c]; exact h c
  · rw [if_neg c]
    obtain ⟨ve, ma, go, ge, ch, si, ix, ga, sl, gv⟩ := M
    rfl
theorem t_renewH {sc : tm_X} {d : Nat} {B : bm_H} {F : Nat → Prop} {N S M ln : Nat} {T : List Tm} {dr : Nat} {K : Tm → Prop} {ca rm kc kl rk : Nat} {ws : List (Tm × Int32)} {wt : List Tm} {G : LG} {ids dir reg : Nat → Tm} {seen : List Tm} {π : Nat → Nat} {w : Nat → SW} {dev : Nat → DV} {sto : Nat → ST} {id : Tm} {K0 K1 : PK} {on : List (Tm × Int32)} {lnu : Int32} {se : Nat → List SS} {me : Nat → MM} {g : Nat} {v : Int32} {Q : bm_H → Prop} (hC : CK B F N S M ln T dr K ca rm kc kl rk) (hH : RH B T ws wt G ids dir reg seen π w dev sto) (hg : g < 4) (eD : dev 6 = (id, K0, K1, on, lnu, se, me)) (hM : T.length + 4 < M) (hdr : dr + 2 < 100000) (kk : ∀ B' T' w', T <+: T' → T'.length ≤ T.length + 4 → CK B' F N S M ln T' (dr_ren (me g) dr) K ca rm kc kl rk → RH B' T' ws wt G ids dir reg seen π (fset w 6 w') (fset dev 6 (id, K0, K1, on, lnu, se, fset me g (mm_ren (me g) dr v))) sto → fz (dxs 1 ca 3 4 (rb (π 6))) B B' → Q B') : bm_Gv sc (d + 3) 98 [.ref (rb (π 6) + 47 + 39 * g), .ref 1, .int v] B Q := by
  obtain ⟨h1, h2, h3, h4, h5⟩ := mem_at hC hH hg eD
  have hrm := hC.2.2.2.2.1.2
  obtain ⟨ve, ma, go, ge, ch, si, ix, ga, sl, gv, eM⟩ : ∃ a1 a2 a3 a4 a5 a6 a7 a8 a9 a10, me g = (a1, a2, a3, a4, a5, a6, a7, a8, a9, a10) := ⟨_, _, _, _, _, _, _, _, _, _, rfl⟩
  have h1' := h1
  rw [eM] at h1'
  refine t_renewChain h3 hC.1 h1' (by omega) hdr (fun q => ?_) (fun B' T' q q1 q2 q3 q4 q5 => ?_)
  · rw [← eM] at q
    have e1 : mm_ren (me g) dr v = me g := if_pos q
    have e2 : dr_ren (me g) dr = dr := if_pos q
    have hh := RH_mem hC hH hg eD hC.1 (fz_rfl (tcs 1 ca 3 4) B) (fun y q => Or.inl q) (List.prefix_refl T) h1
    refine kk B T _ (List.prefix_refl T) (by omega) (by rw [e2]; exact hh.1) (by rw [e1]; exact hh.2.1) hh.2.2
  · rw [← eM] at q q4
    have e1 : mm_ren (me g) dr v = mm_renew (me g) dr v := if_neg (by rw [q]; decide)
    have e2 : dr_ren (me g) dr = dr + 2 := if_neg (by rw [q]; decide)
    have hh := RH_mem hC hH hg eD q3 q5 (fun y q => q.elim Or.inl (fun q => Or.inr (by omega))) q1 q4
    exact kk B' T' _ q1 q2 (by rw [e2]; exact hh.1) (by rw [e1]; exact hh.2.1) hh.2.2
theorem t_postH {sc : tm_X} {d : Nat} {B : bm_H} {F : Nat → Prop} {N S M ln : Nat} {T : List Tm} {dr : Nat} {K : Tm → Prop} {ca rm kc kl rk : Nat} {ws : List (Tm × Int32)} {wt : List Tm} {G : LG} {ids dir reg : Nat → Tm} {seen : List Tm} {π : Nat → Nat} {w : Nat → SW} {dev : Nat → DV} {sto : Nat → ST} {id : Tm} {K0 K1 : PK} {on : List (Tm × Int32)} {lnu : Int32} {se : Nat → List SS} {me : Nat → MM} {g : Nat} {v u y : Int32} {Y : Tm} {Q : Int32 → bm_H → Prop} (hC : CK B F N S M ln T dr K ca rm kc kl rk) (hH : RH B T ws wt G ids dir reg seen π w dev sto) (hg : g < 4) (eD : dev 6 = (id, K0, K1, on, lnu, se, me)) (hM : T.length + 5 < M) (hy : tv T y Y) (kk : ∀ B' T' r w', T <+: T' → T'.length ≤ T.length + 5 → CK B' F N S M ln T' dr K ca rm kc kl rk → RH B' T' ws wt G ids dir reg seen π (fset w 6 w') (fset dev 6 (id, K0, K1, on, lnu, se, fset me g (mm_posted (me g)))) sto → tv T' r (mm_post (me g) v u Y) → w'.1 = (w 6).1 ∧ w'.2.1 = (w 6).2.1 → fz (dxs 1 ca 3 4 (rb (π 6))) B B' → Q r B') : bm_Gi sc (d + 3) 101 [.ref (rb (π 6) + 47 + 39 * g), .ref 1, .int v, .int u, .int y] B Q := by
  obtain ⟨h1, h2, h3, h4, h5⟩ := mem_at hC hH hg eD
  have hrm := hC.2.2.2.2.1.2
  obtain ⟨ve, ma, go, ge, ch, si, ix, ga, sl, gv, eM⟩ : ∃ a1 a2 a3 a4 a5 a6 a7 a8 a9 a10, me g = (a1, a2, a3, a4, a5, a6, a7, a8, a9, a10) := ⟨_, _, _, _, _, _, _, _, _, _, rfl⟩
  rw [eM] at h1
  refine t_nextPost h3 hC.1 h1 (by omega) hy (fun B' T' r q1 q2 q3 q4 q5 q6 => ?_)
  rw [← eM] at q4 q5
  have hh := RH_mem hC hH hg eD q3 q6 (fun y q => q.elim Or.inl (fun q => Or.inr (by omega))) q1 q5
  exact kk B' T' r _ q1 q2 hh.1 hh.2.1 q4 ⟨rfl, rfl⟩ hh.2.2
theorem mem_sw {B : bm_H} {F : Nat → Prop} {N S M ln : Nat} {T : List Tm} {dr : Nat} {K : Tm → Prop} {ca rm kc kl rk : Nat} {ws : List (Tm × Int32)} {wt : List Tm} {G : LG} {ids dir reg : Nat → Tm} {seen : List Tm} {π : Nat → Nat} {w : Nat → SW} {dev : Nat → DV} {sto : Nat → ST} {id : Tm} {K0 K1 : PK} {on : List (Tm × Int32)} {lnu : Int32} {se : Nat → List SS} {me : Nat → MM} {s g : Nat} (hC : CK B F N S M ln T dr K ca rm kc kl rk) (hH : RH B T ws wt G ids dir reg seen (sw6 π s) (sw6 w s) (sw6 (fset dev 6 (id, K0, K1, on, lnu, se, me)) s) sto) (hs : s < 6) (hg : g < 4) : RMe B T (rb (π 6) + 47 + 39 * g) ((w 6).2.2 g) (me g) := by
  have hV := hH.2.2.2.2.1
  have e1 : sw6 π s s = π 6 := by unfold sw6; rw [fset_ne (by omega), fset_same]
  have e2 : sw6 w s s = w 6 := by unfold sw6; rw [fset_ne (by omega), fset_same]
  have e3 : sw6 (fset dev 6 (id, K0, K1, on, lnu, se, me)) s s = (id, K0, K1, on, lnu, se, me) := by unfold sw6; rw [fset_ne (by omega), fset_same, fset_same]
  have hW := hV.2.2.2.2 s (by omega)
  rw [e1, e2, e3] at hW
  exact hW.2.2.2.2.2.2 g hg
set_option maxRecDepth 100000 in
theorem t_handOut {sc : tm_X} {d : Nat} {B : bm_H} {F : Nat → Prop} {N S M ln : Nat} {T : List Tm} {dr : Nat} {K : Tm → Prop} {ca rm kc kl rk : Nat} {ws : List (Tm × Int32)} {wt : List Tm} {G : LG} {ids dir reg : Nat → Tm} {seen : List Tm} {π : Nat → Nat} {w : Nat → SW} {dev : Nat → DV} {sto : Nat → ST} {id : Tm} {K0 K1 : PK} {on : List (Tm × Int32)} {lnu : Int32} {se : Nat → List SS} {me : Nat → MM} {s g : Nat} {Q : bm_H → Prop} (hC : CK B F N S M ln T dr K ca rm kc kl rk) (hH : RH B T ws wt G ids dir reg seen π w dev sto) (hs : s < 6) (hg : g < 4) (eD : dev 6 = (id, K0, K1, on, lnu, se, me)) (kI : kd id = 1) (kJ : ∀ p, p < 6 → kd (ids p) = 1) (hws : ws.length ≤ 692) (hok : okSe se) (hsi : kd (me g).2.2.2.2.2.1 = 1) (hwt : wt = []) (hM : T.length + 146 < M) (hdr : dr ≤ 2970) (kk : ∀ B' T' w', T <+: T' → T'.length ≤ T.length + 145 → (ho id ids s g (mm_gift (me g) (nI g)) 6 0 (se, me, dir, dr, [])).2.2.2.1 ≤ dr + 18 → (ho id ids s g (mm_gift (me g) (nI g)) 6 0 (se, me, dir, dr, [])).2.2.2.2.length ≤ 6 → okSe (ho id ids s g (mm_gift (me g) (nI g)) 6 0 (se, me, dir, dr, [])).1 → CK B' F N S M ln T' (ho id ids s g (mm_gift (me g) (nI g)) 6 0 (se, me, dir, dr, [])).2.2.2.1 K ca rm kc kl rk → RH B' T' ws (ho id ids s g (mm_gift (me g) (nI g)) 6 0 (se, me, dir, dr, [])).2.2.2.2 G ids (ho id ids s g (mm_gift (me g) (nI g)) 6 0 (se, me, dir, dr, [])).2.2.1 reg seen π w' (fset dev 6 (id, K0, K1, on, lnu, (ho id ids s g (mm_gift (me g) (nI g)) 6 0 (se, me, dir, dr, [])).1, (ho id ids s g (mm_gift (me g) (nI g)) 6 0 (se, me, dir, dr, [])).2.1)) sto → fr (fun y => ¬ F y) B B' → Q B') : bm_Gv sc (d + 5) 99 [.ref 0, .int (nI s), .int (nI g), .ref (rb (π 6) + 47 + 39 * g)] B Q := by
  obtain ⟨h1, h2, h3, h4, h5⟩ := mem_at hC hH hg eD
  have hrm := hC.2.2.2.2.1.2
  subst hwt
  obtain ⟨ve, ma, go, ge, ch, si, ix, ga, sl, gv, eM⟩ : ∃ a1 a2 a3 a4 a5 a6 a7 a8 a9 a10, me g = (a1, a2, a3, a4, a5, a6, a7, a8, a9, a10) := ⟨_, _, _, _, _, _, _, _, _, _, rfl⟩
  have h1' := h1
  rw [eM] at h1' hsi
  show bm_G sc (d + 5) 99 0 [(0, .ref 0), (1, .int (nI s)), (2, .int (nI g)), (3, .ref ((rb (π 6) + 47 + 39 * g)))] [] B _
  generalize elv : ([(0, .ref 0), (1, .int (nI s)), (2, .int (nI g)), (3, .ref ((rb (π 6) + 47 + 39 * g)))] : tm_L) = lv
  have l0 : lv.lookup 0 = some (.ref 0) := by rw [← elv]; rfl
  have l1 : lv.lookup 1 = some (.int (nI s)) := by rw [← elv]; rfl
  have l2 : lv.lookup 2 = some (.int (nI g)) := by rw [← elv]; rfl
  have l3 : lv.lookup 3 = some (.ref ((rb (π 6) + 47 + 39 * g))) := by rw [← elv]; rfl
  clear elv
  refine g_ald (pc' := 1) cd_Ho_handOut rfl (Or.inr ⟨_, rfl, rfl, rfl⟩) l3 rfl rfl ?_
  refine g_ald (pc' := 2) cd_Ho_handOut rfl (Or.inr ⟨_, rfl, rfl, rfl⟩) l0 rfl rfl ?_
  refine g_fR (c := 11) (k := 0) (x := 1) (pc' := 5) cd_Ho_handOut rfl rfl rfl rfl rfl (by decide) hH.1.1.1 hH.1.1.2 hH.1.2.1.1 ?_
  refine g_ild (pc' := 6) cd_Ho_handOut rfl (Or.inr ⟨_, rfl, rfl, rfl⟩) l2 rfl ?_
  refine g_calli (pc' := 9) cd_Ho_handOut rfl rfl rfl rfl rfl (tm_invV rfl rfl cd_Me_giftRow rfl (Nat.le_of_ble_eq_true rfl) (by decide) h1.1.1.1 h1.1.1.2) (t_giftRow (v := nI g) h3 hC.1 h1' (by omega) hsi (fun B1 T1 r1 hp1 hl1 hT1 ht1 hz1 => ?_))
  rw [← eM] at ht1
  have hC1 := CK_made hC hT1 hp1 hz1 (fun y q => Or.inl q)
  have hH1 := RH_te hC hH hz1 hp1
  have e6 : fset dev 6 (id, K0, K1, on, lnu, se, me) = dev := by rw [← eD]; exact fset_eta dev 6
  rw [← e6] at hH1
  show bm_G _ _ _ 9 _ [.int r1] B1 _
  refine g_ist (pc' := 11) cd_Ho_handOut rfl (Or.inl ⟨rfl, rfl⟩) (by decide) rfl (fun lv el => ?_)
  have l0 := tm_lk el l0 rfl (by decide)
  have l1 := tm_lk el l1 rfl (by decide)
  have l2 := tm_lk el l2 rfl (by decide)
  have l3 := tm_lk el l3 rfl (by decide)
  have l4 : lv.lookup 4 = some (.int r1) := tm_lks el
  clear el
  refine g_k1 (v := 0) (pc' := 12) cd_Ho_handOut rfl (by decide) rfl ?_
  refine g_ist (pc' := 14) cd_Ho_handOut rfl (Or.inl ⟨rfl, rfl⟩) (by decide) rfl (fun lv el => ?_)
  have l0 := tm_lk el l0 rfl (by decide)
  have l1 := tm_lk el l1 rfl (by decide)
  have l2 := tm_lk el l2 rfl (by decide)
  have l3 := tm_lk el l3 rfl (by decide)
  have l4 := tm_lk el l4 rfl (by decide)
  have l5 : lv.lookup 5 = some (.int 0) := tm_lks el
  clear el
  exact l_hand hs hg kI kJ hws 6 0 B1 T1 dr dir [] w se me rfl hC1 hH1 hok ht1 (by omega) (by omega) (by simp) (fun B' T' w' q1 q2 q3 q4 q5 q6 q7 q8 => kk B' T' w' (hp1.trans q1) (by omega) (by omega) q4 q5 q6 q7 (fr_trans (fr_mono (fun y q => nF_tcs hC q) hz1.1) q8)) lv l0 l1 l2 l3 l4 l5
