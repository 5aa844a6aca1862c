/-! What holds of every device: kept by what it does -/
theorem IVd_renew {s n : Nat} {DL E : List (Int32 × Int32)} {ls : List RL} {D : DV} (hd : DL.length ≤ 2900) (dr : Nat) (h : IVd s n DL ls D) : IVd s (n + 1) (DL ++ E) ls (dv_renew D dr s) := by
  obtain ⟨id, K0, K1, on, lnu, se, me⟩ := D
  obtain ⟨h1, ⟨h2, h3⟩, h4, h5⟩ := h
  exact ⟨h1, ⟨Or.inr ⟨_, rfl⟩, h2⟩, h4, GME_mono (by omega) hd (lsx_rfl _ _) h5⟩
theorem IVd_se {s n : Nat} {DL : List (Int32 × Int32)} {ls : List RL} {id : Tm} {K0 K1 : PK} {on : List (Tm × Int32)} {lnu : Int32} {se se' : Nat → List SS} {me : Nat → MM} (h : IVd s n DL ls (id, K0, K1, on, lnu, se, me)) (h' : ∀ q S, S ∈ se' q → BOS S) : IVd s n DL ls (id, K0, K1, on, lnu, se', me) := ⟨h.1, h.2.1, h', h.2.2.2⟩
theorem SE_set {Φ : Nat → SS → Prop} {se : Nat → List SS} {p : Nat} {l : List SS} (h : ∀ q S, S ∈ se q → Φ q S) (hl : ∀ S, S ∈ l → Φ p S) : ∀ q S, S ∈ fset se p l q → Φ q S := fun q S hS => by
  by_cases c : q = p
  · subst c; rw [fset_same] at hS; exact hl S hS
  · rw [fset_ne c] at hS; exact h q S hS
theorem an_once_RP {dir : Nat → Tm} {p n i : Nat} : RP (an_once dir p n i).1 := by
  by_cases c : (an_once dir p n i).1 = tz
  · exact Or.inl c
  · exact Or.inr (an_once_kd c)
theorem IVd_list {s n : Nat} {DL : List (Int32 × Int32)} {ls : List RL} {id : Tm} {K0 K1 : PK} {on : List (Tm × Int32)} {lnu : Int32} {se : Nat → List SS} {me : Nat → MM} {g : Nat} {v k : Int32} (hg : g < 4) (hk : ∀ i, 6 ≤ i → i < 32 → bt k i = false) (hs : hbit k (nI s) = true) (h : IVd s n DL ls (id, K0, K1, on, lnu, se, me)) : IVd s n DL ls (id, K0, K1, on, lnu, se, fset me g (mm_adopt (me g) v k)) := by
  obtain ⟨h1, h2, h3, h4⟩ := h
  obtain ⟨q1, q2, q3⟩ := GM1_adopt (v := v) hk hs (h4.1 g hg)
  exact ⟨h1, h2, h3, GME_keep h4 q1 (fun z => by rw [← q2]; exact z) (fun x _ z => by rw [← q3]; exact z)⟩
theorem ho1_drg {id : Tm} {ids : Nat → Tm} {s g p : Nat} {Y : Tm} {H : HS} : H.2.2.2.1 ≤ (ho1 id ids s g Y p H).2.2.2.1 := by
  have t : ∀ (S : SS) (d : Nat), d ≤ dr_turn S d := fun S d => by unfold dr_turn; split <;> omega
  obtain ⟨se, me, dir, dr, wt⟩ := H
  by_cases c : p = s ∨ hbit (me g).2.1 (nI p) = false ∨ hbit (me g).2.2.2.2.2.2.2.1 (nI p) = true
  · have e : ho1 id ids s g Y p (se, me, dir, dr, wt) = (se, me, dir, dr, wt) := ho1_skip c
    rw [e]; exact Nat.le_refl _
  · cases hse : se p with
    | nil =>
      by_cases c2 : an_pre dir ids p = tz
      · have e : ho1 id ids s g Y p (se, me, dir, dr, wt) = (se, me, dir, dr, wt) := ho1_none c hse c2
        rw [e]; exact Nat.le_refl _
      · have e := ho1_open (id := id) (dr := dr) (gift := Y) (wt := wt) c hse c2 rfl
        rw [e]
        dsimp only
        exact Nat.le_trans (Nat.le_add_right dr 2) (t _ (dr + 2))
    | cons S0 l =>
      have e := ho1_have (id := id) (ids := ids) (gift := Y) (dir := dir) (dr := dr) (wt := wt) c hse
      rw [e]
      exact t S0 dr
theorem ho_drg {id : Tm} {ids : Nat → Tm} {s g : Nat} {Y : Tm} : ∀ (n p : Nat) (H : HS), H.2.2.2.1 ≤ (ho id ids s g Y n p H).2.2.2.1
  | 0, _, _ => Nat.le_refl _
  | n + 1, p, H => by
    unfold ho
    exact Nat.le_trans ho1_drg (ho_drg n (p + 1) (ho1 id ids s g Y p H))
theorem po_drg {id : Tm} {ids : Nat → Tm} {s g : Nat} {se : Nat → List SS} {me : Nat → MM} {dir : Nat → Tm} {dr : Nat} : dr_ren (me g) dr ≤ (po_hand id ids s g se me dir dr).2.2.2.1 := ho_drg (id := id) (ids := ids) (s := s) (g := g) (Y := mm_gift (mm_ren (me g) dr (nI s)) (nI g)) 6 0 (se, fset me g (mm_ren (me g) dr (nI s)), dir, dr_ren (me g) dr, [])
theorem BO_view {id : Tm} {ids : Nat → Tm} {s g : Nat} {gift : Tm} {dir0 : Nat → Tm} : ∀ (n p : Nat) (H : HS), p + n ≤ 6 → (∀ j, H.2.2.1 j = dir0 j ∨ H.2.2.1 j = tz) → (∀ q S, S ∈ H.1 q → BOS S) → hov (fun _ S => BOS S) s g p gift H (ho id ids s g gift n p H) := ho_view (Φ := fun _ S => BOS S) (fun p S m h => BOS_turn h) (fun p m m' dir' _ _ hz => (BOS_open (Or.inr (an_pre_kd hz)) an_once_RP).1)
theorem IVd_post {s n g : Nat} {DL E : List (Int32 × Int32)} {ls ls' : List RL} {id : Tm} {ids : Nat → Tm} {K0 K1 : PK} {on : List (Tm × Int32)} {lnu : Int32} {se : Nat → List SS} {me : Nat → MM} {dir : Nat → Tm} {e : Int32 × Int32} (hg : g < 4) (hn : n ≤ 64) (hd : DL.length ≤ 2700) (h6 : 6 ≤ DL.length) (hls : ∀ r, r ∈ ls → ∃ m d p, m < DL.length ∧ r.1 = Tsec (nI m) d p) (hE : DL.length + E.length = (po_hand id ids s g se me dir DL.length).2.2.2.1) (hl : lsx (DL ++ E) ls ls') (h : IVd s n DL ls (id, K0, K1, on, lnu, se, me)) : IVd s (n + 1) (DL ++ E ++ [e]) ls' (id, K0, K1, on, lnu, (po_hand id ids s g se me dir DL.length).1, fset (po_hand id ids s g se me dir DL.length).2.1 g (mm_posted ((po_hand id ids s g se me dir DL.length).2.1 g))) := by
  obtain ⟨h1, h2, h3, h4⟩ := h
  have hdr := ho_dr6 (id := id) (ids := ids) (s := s) (g := g) (se := se) (me := me) (dir := dir) (dr := DL.length)
  have hdg := po_drg (id := id) (ids := ids) (s := s) (g := g) (se := se) (me := me) (dir := dir) (dr := DL.length)
  have h5 := GME_ren (E := E) hg hn (by omega) h6 (fun c => by
    have : dr_ren (me g) DL.length = DL.length + 2 := if_neg (by rw [c]; decide)
    omega) hls h4
  obtain ⟨a1, x, a2, -, -⟩ := BO_view (id := id) (ids := ids) (s := s) (g := g) (gift := mm_gift (mm_ren (me g) DL.length (nI s)) (nI g)) (dir0 := dir) 6 0 (se, fset me g (mm_ren (me g) DL.length (nI s)), dir, dr_ren (me g) DL.length, []) (by omega) (fun j => Or.inl rfl) h3
  have a2 : (po_hand id ids s g se me dir DL.length).2.1 = fset (fset me g (mm_ren (me g) DL.length (nI s))) g (mm_ga (fset me g (mm_ren (me g) DL.length (nI s)) g) x) := a2
  refine ⟨h1, h2, a1, ?_⟩
  have h6 := GME_keep (g := g) (M := mm_posted (mm_ga (fset me g (mm_ren (me g) DL.length (nI s)) g) x)) h5 (GM1_posted (GM1_ga x (h5.1 g hg))).1 (fun z => by
    have q := (GM1_posted (GM1_ga x (h5.1 g hg))).2.1
    rw [q] at z
    generalize fset me g (mm_ren (me g) DL.length (nI s)) g = M at z ⊢
    obtain ⟨ve, ma, go, ge, ch, si, ix, ga, sl, gv⟩ := M
    exact z) (fun y hy z => by
    have q := (GM1_posted (GM1_ga x (h5.1 g hg))).2.2
    rw [q] at z
    have z := upc_pred hy z
    generalize fset me g (mm_ren (me g) DL.length (nI s)) g = M at z ⊢
    obtain ⟨ve, ma, go, ge, ch, si, ix, ga, sl, gv⟩ := M
    exact z)
  rw [a2]
  generalize fset me g (mm_ren (me g) DL.length (nI s)) = F at h6 ⊢
  rw [fset_same, fset_fset]
  exact GME_mono (n := n + 1) (E := [e]) (Nat.le_refl _) (by rw [List.length_append]; omega) hl h6
theorem mm_acc_GM {s n : Nat} {DL : List (Int32 × Int32)} {ls : List RL} {M : MM} (p : Nat) (A : Tm) (o : Bool) (h : GM1 s n DL ls M) : GM1 s n DL ls (mm_acc M p A o) ∧ (mm_acc M p A o).2.2.2.1 = M.2.2.2.1 ∧ (mm_acc M p A o).2.2.2.2.1 = M.2.2.2.2.1 := by
  unfold mm_acc
  split
  · exact ⟨h, rfl, rfl⟩
  · exact GM1_set _ _ h
theorem IVd_ar {s n : Nat} {DL : List (Int32 × Int32)} {ls : List RL} {ids : Nat → Tm} {D : DV} {A : Tm} (h : IVd s n DL ls D) (h0 : 0 ≤ (ar_spec D ids s A).1) : IVd s n DL ls (ar_spec D ids s A).2.1 := by
  obtain ⟨id, K0, K1, on, lnu, se, me⟩ := D
  obtain ⟨h1, ⟨h2, h2'⟩, h3, h4⟩ := h
  unfold ar_spec at h0 ⊢
  dsimp only at h0 ⊢
  by_cases f3 : tm_form A = 3
  · rw [if_pos f3] at h0 ⊢
    dsimp only at h0 ⊢
    have hg := form_3 f3
    have hk := good3_p hg
    obtain ⟨hpq, hq, K0', K1', on', S, l, S1, me', ⟨b1, b2⟩, b3, ⟨⟨b4, b4'⟩, b5, b6⟩, b7⟩ := ts_view h0
    rw [b3]
    have hS : BOS S := by
      rcases b1 with b1 | ⟨b, o, -, rfl, -⟩
      · exact h3 _ S b1
      · exact BOS_start (Or.inr hk.1)
    refine ⟨h1, ⟨?_, ?_⟩, SE_set h3 (fun S' hS' => ?_), ?_⟩
    · rcases h2 with z | ⟨m, z⟩
      · exact Or.inl (b4.1.trans z)
      · exact Or.inr ⟨m, b4.1.trans z⟩
    · rcases h2' with z | ⟨m, z⟩
      · exact Or.inl (b4'.1.trans z)
      · exact Or.inr ⟨m, b4'.1.trans z⟩
    · rcases List.mem_cons.mp hS' with z | z
      · rw [z]; exact (BOS_key (Or.inr hk.2.1) hS b2).1
      · exact h3 _ S' (b6 S' z)
    · rcases b7 with ⟨-, -, z, -⟩ | ⟨-, g5, z⟩
      · rw [z]; exact h4
      · obtain ⟨g, hg4, eg⟩ := good5_g g5
        rw [z, eg, nI_clamp (by omega)]
        obtain ⟨q1, q2, q3⟩ := mm_acc_GM (nu (pt A 1) 0).toNatClampNeg (pt A 2) S1.2.2.2.2.2.2.2.2.2.2 (h4.1 g hg4)
        exact GME_keep h4 q1 (fun z => by rw [← q2]; exact z) (fun x _ z => by rw [← q3]; exact z)
  · rw [if_neg f3] at h0 ⊢
    by_cases f6 : tm_form A = 6
    · rw [if_pos f6] at h0 ⊢
      have hg := form_6 f6
      obtain ⟨g, hg4, eg⟩ := good6_g hg
      by_cases c : tl_ok A s (nu (pt A 1) 0).toNatClampNeg (ids (nu (pt A 1) 0).toNatClampNeg) (me (nu (pt A 1) 0).toNatClampNeg)
      · rw [cif_t c]
        rw [eg, nI_clamp (by omega)] at c ⊢
        have hm := good6_m hg
        exact IVd_list hg4 (msk_bits hm.1 hm.2) c.2.2.2.2.1 ⟨h1, ⟨h2, h2'⟩, h3, h4⟩
      · rw [cif_f c] at h0; exact absurd (show (0 : Int32) ≤ -16 from h0) (by decide)
    · rw [if_neg f6] at h0 ⊢
      by_cases f7 : tm_form A = 7
      · rw [if_pos f7] at h0 ⊢
        dsimp only at h0 ⊢
        obtain ⟨⟨g, hg4, eg⟩, -⟩ := good7_g (form_7 f7)
        rw [eg, nI_clamp (by omega)] at h0 ⊢
        obtain ⟨-, -, k, G0, I, -, -, -, b, -⟩ := tp_view h0
        rw [b]
        obtain ⟨q1, q2, q3⟩ := GM1_set (nu (pt (pt A 1) 1) 1).toNatClampNeg ((mgv (me g) (nu (pt (pt A 1) 1) 1).toNatClampNeg).set k (I, G0.2.1, G0.2.2)) (h4.1 g hg4)
        exact ⟨h1, ⟨h2, h2'⟩, h3, GME_keep h4 q1 (fun z => by rw [← q2]; exact z) (fun x _ z => by rw [← q3]; exact z)⟩
      · rw [if_neg f7] at h0
        exact absurd (show (0 : Int32) ≤ -10 from h0) (by decide)
