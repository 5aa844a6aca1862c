/-! Terms.intern: the search and the whole -/
/-- term t's row is the draft's -/
def te_alike (B : bm_H) (ca da t : Nat) : Prop := ∀ k, k < 10 → bm_AI B ca (t * 11 + k) = bm_AI B da k
/-- Terms behind a term that is made of the draft -/
def te_new (B : bm_H) (a ca ba da sz : Nat) : bm_H := bm_putI (bm_setI (bm_setI (bm_allI B ca (va_cpy (bm_AI B da) (bm_AI B ca) 0 (sz * 11) 10)) ca (sz * 11 + 10) (bm_AI B ba (te_sn (bm_AI B da)))) ba (te_sn (bm_AI B da)) (nI sz)) 9 4 a (nI (sz + 1))
set_option maxRecDepth 100000 in
theorem l_Te_intern_s {sc : tm_X} {d : Nat} {B : bm_H} {a ca ba da rm sz dr : Nat} {Q : Option Value → bm_H → Prop} (hT : te_ok B a ca ba da rm sz dr) (hB : te_tab (bm_AI B ca) (bm_AI B ba) sz) (kk1 : ∀ t, 0 < t → t < sz → te_alike B ca da t → Q (some (.int (nI t))) B) (kk2 : (∀ t, 0 < t → t < sz → ¬ te_alike B ca da t) → ∀ lv : tm_L, lv.lookup 0 = some (.ref a) → lv.lookup 2 = some (.int (nI (te_sn (bm_AI B da)))) → bm_G sc d 15 142 lv [] B Q) : ∀ (N n q : Nat), n < N → n ≤ sz → q + n ≤ sz → (∀ t, n ≤ t → t < sz → ¬ te_alike B ca da t) → ∀ lv : tm_L, lv.lookup 0 = some (.ref a) → lv.lookup 2 = some (.int (nI (te_sn (bm_AI B da)))) → lv.lookup 3 = some (.int (nI (te_last (bm_AI B ca) (te_sn (bm_AI B da)) n))) → lv.lookup 4 = some (.int (nI q)) → bm_G sc d 15 57 lv [] B Q := by
  have hsz : sz ≤ 65536 := Nat.le_trans hT.2.2.2.2.1.2.1 hT.2.2.2.2.1.2.2
  intro N
  induction N with
  | zero => intro n q h; omega
  | succ N ih =>
    intro n q hN hn hq hno lv l0 l2 l3 l4
    generalize hu : te_last (bm_AI B ca) (te_sn (bm_AI B da)) n = u at l3
    have hul : u < n ∨ u = 0 := by rw [← hu]; exact te_last_lt _ _ n
    have hgap : ∀ t, u < t → t < n → ¬ te_alike B ca da t := fun t h1 h2 h3 => te_last_no (bm_AI B ca) (te_sn (bm_AI B da)) n t (by rw [hu]; exact h1) h2 (te_sn_congr h3)
    refine g_ild (pc' := 59) cd_Te_intern rfl (Or.inl ⟨rfl, rfl⟩) l4 rfl ?_
    refine g_ald (pc' := 60) cd_Te_intern rfl (Or.inr ⟨_, rfl, rfl, rfl⟩) l0 rfl rfl ?_
    refine g_fI (c := 9) (k := 4) (x := (nI sz)) (pc' := 63) cd_Te_intern rfl rfl rfl rfl rfl (by decide) hT.1.1 hT.1.2 hT.2.2.2.1.2.1 ?_
    refine g_if2 (t := 142) (pc' := 66) cd_Te_intern rfl rfl rfl (fun c63 => ?_) (fun c63 => ?_)
    · have c63 : (nI sz) ≤ (nI q) := c63
      exact kk2 (fun t h1 h2 => hno t (by have := (nI_leI (by omega) (by omega)).mp c63; omega) h2) lv l0 l2
    · have c63 : ¬ (nI sz) ≤ (nI q) := c63
      refine g_ild (pc' := 67) cd_Te_intern rfl (Or.inr ⟨_, rfl, rfl, rfl⟩) l3 rfl ?_
      refine g_if1 (t := 142) (pc' := 70) cd_Te_intern rfl rfl rfl (fun c67 => ?_) (fun c67 => ?_)
      · have c67 : (nI u) = 0 := c67
        have hu0 : u = 0 := (nI_eq (b := 0) (by omega) (by omega)).mp c67
        exact kk2 (fun t h1 h2 => if h : n ≤ t then hno t h h2 else hgap t (by omega) (by omega)) lv l0 l2
      · have c67 : ¬ (nI u) = 0 := c67
        refine g_k1 (v := 0) (pc' := 71) cd_Te_intern rfl (by decide) rfl ?_
        refine g_ist (pc' := 73) cd_Te_intern rfl (Or.inl ⟨rfl, rfl⟩) (by decide) rfl (fun lv el => ?_)
        have l0 := tm_lk el l0 rfl (by decide)
        have l2 := tm_lk el l2 rfl (by decide)
        have l3 := tm_lk el l3 rfl (by decide)
        have l4 := tm_lk el l4 rfl (by decide)
        have l5 : lv.lookup 5 = some (.int 0) := tm_lks el
        clear el
        have hu0 : 0 < u := Nat.pos_of_ne_zero (fun q9 => c67 (by rw [q9]; rfl))
        have husz : u < sz := by omega
        have hus : te_sn (te_row (bm_AI B ca) u) = te_sn (bm_AI B da) := by have h9 := te_last_sn (bm_AI B ca) (te_sn (bm_AI B da)) n (by rw [hu]; omega); rw [hu] at h9; exact h9
        refine l_Te_intern_i hT husz (fun k lv hk heq hne l0 l2 l3 l4 l5 => ?_) 10 0 (by omega) (fun i hi => by omega) lv l0 l2 l3 l4 l5
        refine g_ild (pc' := 113) cd_Te_intern rfl (Or.inl ⟨rfl, rfl⟩) l5 rfl ?_
        refine g_ald (pc' := 114) cd_Te_intern rfl (Or.inr ⟨_, rfl, rfl, rfl⟩) l0 rfl rfl ?_
        refine g_fR (c := 9) (k := 2) (x := da) (pc' := 117) cd_Te_intern rfl rfl rfl rfl rfl (by decide) hT.1.1 hT.1.2 hT.2.1.2.2 ?_
        refine g_al (x := 10) (pc' := 118) cd_Te_intern rfl rfl hT.2.2.1.2.2.1 (Nat.le_of_eq (Eq.symm hT.2.2.1.2.2.2.1)) (by rw [show bm_K B da = 13 from hT.2.2.1.2.2.2.1]; decide) (by rw [show bm_AL B da = 10 from hT.2.2.1.2.2.2.2]; rfl) ?_
        refine g_if2 (t := 123) (pc' := 121) cd_Te_intern rfl rfl rfl (fun c118 => ?_) (fun c118 => ?_)
        · have c118 : ¬ (nI k) = 10 := c118
          have hk10 : k < 10 := Nat.lt_of_not_le fun h9 => c118 (show nI k = nI 10 by rw [show k = 10 by omega])
          have hnk : ¬ te_alike B ca da u := fun h9 => hne hk10 (h9 k hk10)
          refine g_ald (pc' := 124) cd_Te_intern rfl (Or.inr ⟨_, rfl, rfl, rfl⟩) l0 rfl rfl ?_
          refine g_fR (c := 9) (k := 0) (x := ca) (pc' := 127) cd_Te_intern rfl rfl rfl rfl rfl (by decide) hT.1.1 hT.1.2 hT.2.1.1 ?_
          refine g_ild (pc' := 128) cd_Te_intern rfl (Or.inr ⟨_, rfl, rfl, rfl⟩) l3 rfl ?_
          refine g_k2 (v := 11) (pc' := 130) cd_Te_intern rfl (by decide) rfl ?_
          refine g_pure (pc' := 131) (st' := [.int ((nI u) * 11), .ref ca]) cd_Te_intern rfl rfl (fun _ _ => rfl) ?_
          refine g_k2 (v := 10) (pc' := 133) cd_Te_intern rfl (by decide) rfl ?_
          refine g_pure (pc' := 134) (st' := [.int (((nI u) * 11) + 10), .ref ca]) cd_Te_intern rfl rfl (fun _ _ => rfl) ?_
          refine g_aI (x := (nI (te_last (bm_AI B ca) (te_sn (bm_AI B da)) u))) (pc' := 135) cd_Te_intern rfl rfl hT.2.2.1.1.1 hT.2.2.1.1.2.1 (te_at_in hT husz (k := 10) (by decide)).1 ((congrArg (bm_AI B ca) (te_at_in hT husz (k := 10) (by decide)).2).trans ((hB.2.1 u hu0 husz).trans (by rw [hus]))) ?_
          refine g_ist (pc' := 136) cd_Te_intern rfl (Or.inr ⟨_, rfl, rfl, rfl⟩) (by decide) rfl (fun lv el => ?_)
          have l0 := tm_lk el l0 rfl (by decide)
          have l2 := tm_lk el l2 rfl (by decide)
          have l4 := tm_lk el l4 rfl (by decide)
          have l5 := tm_lk el l5 rfl (by decide)
          have l3 : lv.lookup 3 = some (.int ((nI (te_last (bm_AI B ca) (te_sn (bm_AI B da)) u)))) := tm_lks el
          clear el
          refine g_inc (y := nI (q + 1)) (pc' := 139) cd_Te_intern rfl l4 (by decide) (nI_1 q) rfl (fun lv el => ?_)
          have l0 := tm_lk el l0 rfl (by decide)
          have l2 := tm_lk el l2 rfl (by decide)
          have l3 := tm_lk el l3 rfl (by decide)
          have l5 := tm_lk el l5 rfl (by decide)
          have l4 : lv.lookup 4 = some (.int (nI (q + 1))) := tm_lks el
          clear el
          refine g_pure (pc' := 57) (st' := []) cd_Te_intern rfl rfl (fun _ _ => rfl) ?_
          exact ih u (q + 1) (by omega) (by omega) (by omega) (fun t h1 h2 => if h : t = u then by subst h; exact hnk else if h3 : n ≤ t then hno t h3 h2 else hgap t (by omega) (by omega)) lv l0 l2 l3 l4
        · have c118 : ¬ (¬ (nI k) = 10) := c118
          refine g_ild (pc' := 122) cd_Te_intern rfl (Or.inr ⟨_, rfl, rfl, rfl⟩) l3 rfl ?_
          exact g_reti cd_Te_intern rfl (kk1 u hu0 husz (fun i hi => heq i (by have h9 : k = 10 := (nI_eq (b := 10) (by omega) (by omega)).mp (Classical.not_not.mp c118); omega)))
theorem te_nx_in {B : bm_H} {a ca ba da rm sz dr : Nat} (hT : te_ok B a ca ba da rm sz dr) {k : Nat} (hu : sz < rm) (hk : k < 11) : vp_in (nI sz * 11 + nI k) (bm_AL B ca) ∧ (nI sz * 11 + nI k).toNatClampNeg = sz * 11 + k := by
  obtain ⟨-, -, ⟨⟨-, -, hL⟩, -⟩, -, ⟨-, hs, hr⟩, -⟩ := hT
  have e : nI sz * 11 + nI k = nI (sz * 11 + k) := by rw [show (11 : Int32) = nI 11 from rfl, pk_mul, nI_add]
  rw [e, hL, nI_clamp (by omega)]
  exact ⟨vp_in_nI (by omega) (by omega), rfl⟩
set_option maxRecDepth 100000 in
theorem k_Te_intern {sc : tm_X} {d : Nat} {B : bm_H} {a ca ba da rm sz dr : Nat} {Q : Int32 → bm_H → Prop} (hT : te_ok B a ca ba da rm sz dr) (hB : te_tab (bm_AI B ca) (bm_AI B ba) sz) (hrm : sz < rm) (kk1 : ∀ t, 0 < t → t < sz → te_alike B ca da t → Q (nI t) B) (kk2 : (∀ t, 0 < t → t < sz → ¬ te_alike B ca da t) → Q (nI sz) (te_new B a ca ba da sz)) : bm_Gi sc (d + 1) 15 [.ref a] B Q := by
  show bm_G sc (d + 1) 15 0 [(0, .ref a)] [] B _
  have hsz : sz ≤ 65536 := Nat.le_trans hT.2.2.2.2.1.2.1 hT.2.2.2.2.1.2.2
  have hrm2 : rm ≤ 65536 := hT.2.2.2.2.1.2.2
  have hsl := te_slot_nI (bm_AI B da)
  generalize elv : ([(0, .ref a)] : tm_L) = lv
  have l0 : lv.lookup 0 = some (.ref a) := by rw [← elv]; rfl
  clear elv
  refine g_k1 (v := 0) (pc' := 1) cd_Te_intern rfl (by decide) rfl ?_
  refine g_ist (pc' := 2) cd_Te_intern rfl (Or.inr ⟨_, rfl, rfl, rfl⟩) (by decide) rfl (fun lv el => ?_)
  have l0 := tm_lk el l0 rfl (by decide)
  have l1 : lv.lookup 1 = some (.int 0) := tm_lks el
  clear el
  refine g_k1 (v := 0) (pc' := 3) cd_Te_intern rfl (by decide) rfl ?_
  refine g_ist (pc' := 4) cd_Te_intern rfl (Or.inr ⟨_, rfl, rfl, rfl⟩) (by decide) rfl (fun lv el => ?_)
  have l0 := tm_lk el l0 rfl (by decide)
  have l1 := tm_lk el l1 rfl (by decide)
  have l2 : lv.lookup 2 = some (.int 0) := tm_lks el
  clear el
  refine l_Te_intern_h hT (fun lv l0 l1 => ?_) 10 0 (by omega) lv l0 l1 l2
  refine g_ild (pc' := 32) cd_Te_intern rfl (Or.inr ⟨_, rfl, rfl, rfl⟩) l1 rfl ?_
  refine g_ild (pc' := 33) cd_Te_intern rfl (Or.inr ⟨_, rfl, rfl, rfl⟩) l1 rfl ?_
  refine g_k2 (v := 12) (pc' := 35) cd_Te_intern rfl (by decide) rfl ?_
  refine g_pure (pc' := 36) (st' := [.int (((te_hash (bm_AI B da) 10).toUInt32 >>> ((12 : Int32).toUInt32 &&& Int32.toUInt32 31)).toInt32), .int (te_hash (bm_AI B da) 10)]) cd_Te_intern rfl rfl (fun _ _ => rfl) ?_
  refine g_pure (pc' := 37) (st' := [.int ((te_hash (bm_AI B da) 10) ^^^ (((te_hash (bm_AI B da) 10).toUInt32 >>> ((12 : Int32).toUInt32 &&& Int32.toUInt32 31)).toInt32))]) cd_Te_intern rfl rfl (fun _ _ => rfl) ?_
  refine g_ild (pc' := 38) cd_Te_intern rfl (Or.inr ⟨_, rfl, rfl, rfl⟩) l1 rfl ?_
  refine g_k2 (v := 24) (pc' := 40) cd_Te_intern rfl (by decide) rfl ?_
  refine g_pure (pc' := 41) (st' := [.int (((te_hash (bm_AI B da) 10).toUInt32 >>> ((24 : Int32).toUInt32 &&& Int32.toUInt32 31)).toInt32), .int ((te_hash (bm_AI B da) 10) ^^^ (((te_hash (bm_AI B da) 10).toUInt32 >>> ((12 : Int32).toUInt32 &&& Int32.toUInt32 31)).toInt32))]) cd_Te_intern rfl rfl (fun _ _ => rfl) ?_
  refine g_pure (pc' := 42) (st' := [.int (((te_hash (bm_AI B da) 10) ^^^ (((te_hash (bm_AI B da) 10).toUInt32 >>> ((12 : Int32).toUInt32 &&& Int32.toUInt32 31)).toInt32)) ^^^ (((te_hash (bm_AI B da) 10).toUInt32 >>> ((24 : Int32).toUInt32 &&& Int32.toUInt32 31)).toInt32))]) cd_Te_intern rfl rfl (fun _ _ => rfl) ?_
  refine g_k3 (v := 4095) (pc' := 45) cd_Te_intern rfl (by decide) rfl ?_
  refine g_pure (pc' := 46) (st' := [.int ((((te_hash (bm_AI B da) 10) ^^^ (((te_hash (bm_AI B da) 10).toUInt32 >>> ((12 : Int32).toUInt32 &&& Int32.toUInt32 31)).toInt32)) ^^^ (((te_hash (bm_AI B da) 10).toUInt32 >>> ((24 : Int32).toUInt32 &&& Int32.toUInt32 31)).toInt32)) &&& 4095)]) cd_Te_intern rfl rfl (fun _ _ => rfl) ?_
  rw [show ((te_hash (bm_AI B da) 10 ^^^ ((te_hash (bm_AI B da) 10).toUInt32 >>> ((12 : Int32).toUInt32 &&& Int32.toUInt32 31)).toInt32) ^^^ ((te_hash (bm_AI B da) 10).toUInt32 >>> ((24 : Int32).toUInt32 &&& Int32.toUInt32 31)).toInt32) &&& 4095 = nI (te_sn (bm_AI B da)) from hsl.1]
  refine g_ist (pc' := 47) cd_Te_intern rfl (Or.inr ⟨_, rfl, rfl, rfl⟩) (by decide) rfl (fun lv el => ?_)
  have l0 := tm_lk el l0 rfl (by decide)
  have l1 := tm_lk el l1 rfl (by decide)
  have l2 : lv.lookup 2 = some (.int (nI (te_sn (bm_AI B da)))) := tm_lks el
  clear el
  refine g_ald (pc' := 48) cd_Te_intern rfl (Or.inr ⟨_, rfl, rfl, rfl⟩) l0 rfl rfl ?_
  refine g_fR (c := 9) (k := 1) (x := ba) (pc' := 51) cd_Te_intern rfl rfl rfl rfl rfl (by decide) hT.1.1 hT.1.2 hT.2.1.2.1 ?_
  refine g_ild (pc' := 52) cd_Te_intern rfl (Or.inr ⟨_, rfl, rfl, rfl⟩) l2 rfl ?_
  refine g_aI (x := (nI (te_last (bm_AI B ca) (te_sn (bm_AI B da)) sz))) (pc' := 53) cd_Te_intern rfl rfl hT.2.2.1.2.1.1 hT.2.2.1.2.1.2.1 (by rw [show bm_AL B ba = 4096 from hT.2.2.1.2.1.2.2]; exact vp_in_nI hsl.2 (by decide)) (by rw [nI_clamp (by have := hsl.2; omega)]; exact hB.1 _ hsl.2) ?_
  refine g_ist (pc' := 54) cd_Te_intern rfl (Or.inr ⟨_, rfl, rfl, rfl⟩) (by decide) rfl (fun lv el => ?_)
  have l0 := tm_lk el l0 rfl (by decide)
  have l1 := tm_lk el l1 rfl (by decide)
  have l2 := tm_lk el l2 rfl (by decide)
  have l3 : lv.lookup 3 = some (.int ((nI (te_last (bm_AI B ca) (te_sn (bm_AI B da)) sz)))) := tm_lks el
  clear el
  refine g_k1 (v := 0) (pc' := 55) cd_Te_intern rfl (by decide) rfl ?_
  refine g_ist (pc' := 57) cd_Te_intern rfl (Or.inl ⟨rfl, rfl⟩) (by decide) rfl (fun lv el => ?_)
  have l0 := tm_lk el l0 rfl (by decide)
  have l1 := tm_lk el l1 rfl (by decide)
  have l2 := tm_lk el l2 rfl (by decide)
  have l3 := tm_lk el l3 rfl (by decide)
  have l4 : lv.lookup 4 = some (.int 0) := tm_lks el
  clear el
  refine l_Te_intern_s hT hB (fun t h1 h2 h3 => ⟨_, rfl, kk1 t h1 h2 h3⟩) (fun hnone lv l0 l2 => ?_) (sz + 1) sz 0 (by omega) (by omega) (by omega) (fun t h1 h2 => by omega) lv l0 l2 l3 l4
  refine g_ald (pc' := 143) cd_Te_intern rfl (Or.inr ⟨_, rfl, rfl, rfl⟩) l0 rfl rfl ?_
  refine g_fI (c := 9) (k := 4) (x := (nI sz)) (pc' := 146) cd_Te_intern rfl rfl rfl rfl rfl (by decide) hT.1.1 hT.1.2 hT.2.2.2.1.2.1 ?_
  refine g_ald (pc' := 147) cd_Te_intern rfl (Or.inr ⟨_, rfl, rfl, rfl⟩) l0 rfl rfl ?_
  refine g_fI (c := 9) (k := 3) (x := (nI rm)) (pc' := 150) cd_Te_intern rfl rfl rfl rfl rfl (by decide) hT.1.1 hT.1.2 hT.2.2.2.1.1 ?_
  refine g_if2 (t := 155) (pc' := 153) cd_Te_intern rfl rfl rfl (fun c150 => ?_) (fun c150 => ?_)
  · have c150 : (nI sz) < (nI rm) := c150
    refine g_ald (pc' := 156) cd_Te_intern rfl (Or.inr ⟨_, rfl, rfl, rfl⟩) l0 rfl rfl ?_
    refine g_fR (c := 9) (k := 2) (x := da) (pc' := 159) cd_Te_intern rfl rfl rfl rfl rfl (by decide) hT.1.1 hT.1.2 hT.2.1.2.2 ?_
    refine g_k1 (v := 0) (pc' := 160) cd_Te_intern rfl (by decide) rfl ?_
    refine g_ald (pc' := 161) cd_Te_intern rfl (Or.inr ⟨_, rfl, rfl, rfl⟩) l0 rfl rfl ?_
    refine g_fR (c := 9) (k := 0) (x := ca) (pc' := 164) cd_Te_intern rfl rfl rfl rfl rfl (by decide) hT.1.1 hT.1.2 hT.2.1.1 ?_
    refine g_ald (pc' := 165) cd_Te_intern rfl (Or.inr ⟨_, rfl, rfl, rfl⟩) l0 rfl rfl ?_
    refine g_fI (c := 9) (k := 4) (x := (nI sz)) (pc' := 168) cd_Te_intern rfl rfl rfl rfl rfl (by decide) hT.1.1 hT.1.2 hT.2.2.2.1.2.1 ?_
    refine g_k2 (v := 11) (pc' := 170) cd_Te_intern rfl (by decide) rfl ?_
    refine g_pure (pc' := 171) (st' := [.int ((nI sz) * 11), .ref ca, .int 0, .ref da]) cd_Te_intern rfl rfl (fun _ _ => rfl) ?_
    refine g_ald (pc' := 172) cd_Te_intern rfl (Or.inr ⟨_, rfl, rfl, rfl⟩) l0 rfl rfl ?_
    refine g_fR (c := 9) (k := 2) (x := da) (pc' := 175) cd_Te_intern rfl rfl rfl rfl rfl (by decide) hT.1.1 hT.1.2 hT.2.1.2.2 ?_
    refine g_al (x := 10) (pc' := 176) cd_Te_intern rfl rfl hT.2.2.1.2.2.1 (Nat.le_of_eq (Eq.symm hT.2.2.1.2.2.2.1)) (by rw [show bm_K B da = 13 from hT.2.2.1.2.2.2.1]; decide) (by rw [show bm_AL B da = 10 from hT.2.2.1.2.2.2.2]; rfl) ?_
    have hx := te_nx_in hT (k := 0) hrm (by decide)
    rw [show nI 0 = 0 from rfl, Int32.add_zero, Nat.add_zero] at hx
    refine g_copy (pc' := 179) cd_Te_intern rfl rfl rfl hT.2.2.1.2.2.1 hT.2.2.1.2.2.2.1 hT.2.2.1.1.1 hT.2.2.1.1.2.1 (by decide) (fun q => hx.1 (Or.inl q)) (by decide) (by rw [show bm_AL B da = 10 from hT.2.2.1.2.2.2.2]; decide) (by rw [hx.2, show bm_AL B ca = rm * 11 from hT.2.2.1.1.2.2, show (10 : Int32).toNatClampNeg = 10 from rfl]; omega) rfl ?_
    rw [hx.2, show (10 : Int32).toNatClampNeg = 10 from rfl, show (0 : Int32).toNatClampNeg = 0 from rfl]
    refine g_ald (pc' := 180) cd_Te_intern rfl (Or.inr ⟨_, rfl, rfl, rfl⟩) l0 rfl rfl ?_
    refine g_fR (c := 9) (k := 0) (x := ca) (pc' := 183) cd_Te_intern rfl rfl rfl rfl rfl (by decide) hT.1.1 hT.1.2 hT.2.1.1 ?_
    refine g_ald (pc' := 184) cd_Te_intern rfl (Or.inr ⟨_, rfl, rfl, rfl⟩) l0 rfl rfl ?_
    refine g_fI (c := 9) (k := 4) (x := (nI sz)) (pc' := 187) cd_Te_intern rfl rfl rfl rfl rfl (by decide) hT.1.1 hT.1.2 hT.2.2.2.1.2.1 ?_
    refine g_k2 (v := 11) (pc' := 189) cd_Te_intern rfl (by decide) rfl ?_
    refine g_pure (pc' := 190) (st' := [.int ((nI sz) * 11), .ref ca]) cd_Te_intern rfl rfl (fun _ _ => rfl) ?_
    refine g_k2 (v := 10) (pc' := 192) cd_Te_intern rfl (by decide) rfl ?_
    refine g_pure (pc' := 193) (st' := [.int (((nI sz) * 11) + 10), .ref ca]) cd_Te_intern rfl rfl (fun _ _ => rfl) ?_
    refine g_ald (pc' := 194) cd_Te_intern rfl (Or.inr ⟨_, rfl, rfl, rfl⟩) l0 rfl rfl ?_
    refine g_fR (c := 9) (k := 1) (x := ba) (pc' := 197) cd_Te_intern rfl rfl rfl rfl rfl (by decide) hT.1.1 hT.1.2 hT.2.1.2.1 ?_
    refine g_ild (pc' := 198) cd_Te_intern rfl (Or.inr ⟨_, rfl, rfl, rfl⟩) l2 rfl ?_
    refine g_aI (x := (bm_AI B ba (te_sn (bm_AI B da)))) (pc' := 199) cd_Te_intern rfl rfl hT.2.2.1.2.1.1 hT.2.2.1.2.1.2.1 (by show vp_in _ (bm_AL B ba); rw [show bm_AL B ba = 4096 from hT.2.2.1.2.1.2.2]; exact vp_in_nI hsl.2 (by decide)) (by rw [nI_clamp (by have := hsl.2; omega)]; exact if_neg (Ne.symm hT.2.2.2.2.2.1)) ?_
    refine g_iast (pc' := 200) cd_Te_intern rfl rfl hT.2.2.1.1.1 hT.2.2.1.1.2.1 (te_nx_in hT (k := 10) hrm (by decide)).1 ?_
    rw [show (nI sz * 11 + 10).toNatClampNeg = sz * 11 + 10 from (te_nx_in hT (k := 10) hrm (by decide)).2]
    refine g_ald (pc' := 201) cd_Te_intern rfl (Or.inr ⟨_, rfl, rfl, rfl⟩) l0 rfl rfl ?_
    refine g_fR (c := 9) (k := 1) (x := ba) (pc' := 204) cd_Te_intern rfl rfl rfl rfl rfl (by decide) hT.1.1 hT.1.2 hT.2.1.2.1 ?_
    refine g_ild (pc' := 205) cd_Te_intern rfl (Or.inr ⟨_, rfl, rfl, rfl⟩) l2 rfl ?_
    refine g_ald (pc' := 206) cd_Te_intern rfl (Or.inr ⟨_, rfl, rfl, rfl⟩) l0 rfl rfl ?_
    refine g_fI (c := 9) (k := 4) (x := (nI sz)) (pc' := 209) cd_Te_intern rfl rfl rfl rfl rfl (by decide) hT.1.1 hT.1.2 hT.2.2.2.1.2.1 ?_
    refine g_iast (pc' := 210) cd_Te_intern rfl rfl hT.2.2.1.2.1.1 hT.2.2.1.2.1.2.1 (by show vp_in _ (bm_AL B ba); rw [show bm_AL B ba = 4096 from hT.2.2.1.2.1.2.2]; exact vp_in_nI hsl.2 (by decide)) ?_
    rw [nI_clamp (show te_sn (bm_AI B da) < 2 ^ 31 by have := hsl.2; omega)]
    refine g_ald (pc' := 211) cd_Te_intern rfl (Or.inr ⟨_, rfl, rfl, rfl⟩) l0 rfl rfl ?_
    refine g_pure (pc' := 212) (st' := [.ref a, .ref a]) cd_Te_intern rfl rfl (fun _ _ => rfl) ?_
    refine g_fI (c := 9) (k := 4) (x := (nI sz)) (pc' := 215) cd_Te_intern rfl rfl rfl rfl rfl (by decide) hT.1.1 hT.1.2 hT.2.2.2.1.2.1 ?_
    refine g_k1 (v := 1) (pc' := 216) cd_Te_intern rfl (by decide) rfl ?_
    refine g_pure (pc' := 217) (st' := [.int ((nI sz) + 1), .ref a]) cd_Te_intern rfl rfl (fun _ _ => rfl) ?_
    rw [nI_1 sz]
    refine g_putI (c := 9) (k := 4) (pc' := 220) cd_Te_intern rfl rfl rfl rfl (by simp [tm_okV, narrow, fits]) (Or.inl rfl) rfl (by decide) hT.1.1 hT.1.2 ?_
    refine g_ald (pc' := 221) cd_Te_intern rfl (Or.inr ⟨_, rfl, rfl, rfl⟩) l0 rfl rfl ?_
    refine g_fI (c := 9) (k := 4) (x := (nI (sz + 1))) (pc' := 224) cd_Te_intern rfl rfl rfl rfl rfl (by decide) hT.1.1 hT.1.2 (by simp [bm_putI, bm_up3, bm_FI]) ?_
    refine g_k1 (v := 1) (pc' := 225) cd_Te_intern rfl (by decide) rfl ?_
    refine g_pure (pc' := 226) (st' := [.int ((nI (sz + 1)) - 1)]) cd_Te_intern rfl rfl (fun _ _ => rfl) ?_
    rw [nI_pred sz]
    exact g_reti cd_Te_intern rfl ⟨_, rfl, kk2 hnone⟩
  · have c150 : ¬ (nI sz) < (nI rm) := c150
    exact absurd (nI_lt hrm (by omega)) c150
