/-! The reference is made: its loop. -/
def eDL : Nat → List (Int32 × Int32)
  | 0 => []
  | k + 1 => eDL k ++ [(nI k, 0)]
theorem eDL_len : ∀ k, (eDL k).length = k
  | 0 => rfl
  | k + 1 => by rw [eDL, List.length_append, eDL_len k]; rfl
theorem dv_en_e (id : Tm) : dv_en (id, ePk, ePk, [], 0, fun _ => [], fun _ => eMe) = [(id, tz)] := rfl
theorem qDv_e {g : Nat → Int32} {T : List Tm} {id : Tm} (hz : tv T 0 tz) (h : ∀ j, g j = 0) : qDv g T (id, ePk, ePk, [], 0, fun _ => [], fun _ => eMe) := by
  have t : ∀ j, tv T (g j) tz := fun j => tvq (h j) hz
  refine ⟨⟨⟨⟨t _, h _, h _, by decide⟩, fun i X q => by simp [ePk] at q⟩, ⟨⟨t _, h _, h _, by decide⟩, fun i X q => by simp [ePk] at q⟩⟩, ⟨⟨⟨h _, by decide⟩, fun i e q => by simp at q⟩, h _⟩, fun p _ => ⟨⟨h _, Nat.zero_le _⟩, fun k S q => by simp at q⟩, fun q _ => ?_⟩
  exact ⟨⟨h _, h _, h _, h _⟩, ⟨t _, t _⟩, ⟨h _, h _, h _⟩, fun p _ => ⟨⟨h _, Nat.zero_le _⟩, fun k G q => by simp at q⟩⟩
def MI0 (k : Nat) (f : Nat → Int32) (A : Nat → Nat → Int32) (T : List Tm) : Prop := (MT f A T (eDL k) (eG k) (fun _ => False) ∧ T.length ≤ 1 + 2 * k ∧ rc (A 1) T.length = 0) ∧ f 16 = 1 ∧ f 11 = nI k ∧ f 21 = 0 ∧ f 40 = 0 ∧ f 43 = 0 ∧ f 53 = 0 ∧ f 54 = 0 ∧ f 63 = 0
def MI1 (k : Nat) (A : Nat → Nat → Int32) (T : List Tm) : Prop := ((∀ i, A 10 i = 0) ∧ (∀ i, i < k → A 11 i = nI i) ∧ (∀ i, A 12 i = 0) ∧ ∀ i, i < k → A 13 i = -1) ∧ (∀ i, A 14 i = 0) ∧ (∀ i, i < k → tv T (A 16 i) (Id i)) ∧ (∀ i, A 17 i = 0) ∧ ∀ i, A 45 i = 0
def MI2 (k : Nat) (A : Nat → Nat → Int32) (T : List Tm) : Prop := (∀ i, i < k → tv T (A 18 (2400 * i)) (Id i) ∧ tv T (A 18 (2400 * i + 1)) tz) ∧ (∀ j, A 19 j = if j % 150 = 0 ∧ j < 150 * k then 1 else 0) ∧ (∀ j, A 20 j = if j % 2 = 0 ∧ j < 2 * k then 1 else 0) ∧ (∀ i, A 21 i = 0) ∧ (∀ i, A 22 i = 0) ∧ ∀ i, i < k → A 23 i = -1
def MI3 (k : Nat) (A : Nat → Nat → Int32) : Prop := (∀ i, i < k → A 24 i = 2147483647) ∧ (∀ i, i < k → A 25 i = -1) ∧ (∀ i, i < k → A 39 i = -1) ∧ (∀ i, i < k → A 40 i = -1) ∧ (∀ i, i < k → A 41 i = -1) ∧ ∀ i, A 42 i = 0
def MI (k : Nat) (s : MS) : Prop := ∃ T, MI0 k s.1 s.2 T ∧ MI1 k s.2 T ∧ MI2 k s.2 T ∧ MI3 k s.2
theorem MI_0 {f : Nat → Int32} {A : Nat → Nat → Int32} (hf : f = fset (fset (fun _ => 0) 0 1) 16 1) (hA : ∀ a, 1 ≤ a → a ≤ 46 → A a = fun _ => 0) : MI 0 (f, A) := by
  subst hf
  have no : ∀ (u : Nat) (X : Tm), 0 < u → [tz][u]? = some X → False := fun u X hu hX => by
    have := (List.getElem?_eq_some_iff.mp hX).1
    simp at this; omega
  have z : ∀ a i, 1 ≤ a → a ≤ 46 → A a i = 0 := fun a i h1 h2 => congrFun (hA a h1 h2) i
  refine ⟨[tz], ⟨⟨⟨⟨⟨rfl, by decide⟩, ⟨?_, ?_⟩, ⟨rfl, z _ _ (by decide) (by decide)⟩, by decide⟩, fun i X hi hX => (no i X hi hX).elim, ⟨fun i j X hi hj => ?_, fun _ => 0, fun t h1 h2 => absurd h1 (by simp at h2; omega), fun p _ => Or.inl (z _ _ (by decide) (by decide))⟩, fun i j X Y hij _ hY => (no j Y (by omega) hY).elim, fun i X hi hX => (no i X hi hX).elim, fun X q => absurd q.choose_spec.1 (Nat.not_lt_zero _), fun X q => q.elim⟩, by decide, ?_⟩, rfl, rfl, rfl, rfl, rfl, rfl, rfl, rfl⟩, ⟨⟨fun i => z _ _ (by decide) (by decide), al_nil, fun i => z _ _ (by decide) (by decide), al_nil⟩, fun i => z _ _ (by decide) (by decide), al_nil, fun i => z _ _ (by decide) (by decide), fun i => z _ _ (by decide) (by decide)⟩, ⟨al_nil, fun j => ?_, fun j => ?_, fun i => z _ _ (by decide) (by decide), fun i => z _ _ (by decide) (by decide), al_nil⟩, al_nil, al_nil, al_nil, al_nil, al_nil, fun i => z _ _ (by decide) (by decide)⟩
  · show (0 : Int32) = nI (0 + if A 1 0 = 7 then 1 else 0)
    rw [z 1 0 (by decide) (by decide)]; rfl
  · show 0 + (if A 1 0 = 7 then 1 else 0) ≤ 1000
    rw [z 1 0 (by decide) (by decide)]; decide
  · have h1 := (List.getElem?_eq_some_iff.mp hi).1
    have h2 := (List.getElem?_eq_some_iff.mp hj).1
    simp at h1 h2; omega
  · show 0 + (if A 1 0 = 7 then 1 else 0) = 0
    rw [z 1 0 (by decide) (by decide)]; rfl
  · rw [if_neg (by omega)]; exact z _ _ (by decide) (by decide)
  · rw [if_neg (by omega)]; exact z _ _ (by decide) (by decide)
theorem up_al {g : Nat → Int32} {k : Nat} {v : Int32} {P : Nat → Int32 → Prop} (h : ∀ i, i < k → P i (g i)) (hk : P k v) : ∀ i, i < k + 1 → P i (upd g k v i) := fun i hi => by
  by_cases c : i = k
  · subst c; rw [upd_same]; exact hk
  · rw [upd_ne c]; exact h i (by omega)
theorem up_0 {g : Nat → Int32} {k : Nat} (h : ∀ i, g i = 0) : ∀ i, upd g k 0 i = 0 := fun i => by
  by_cases c : i = k
  · subst c; rw [upd_same]
  · rw [upd_ne c]; exact h i
theorem up_19 {g : Nat → Int32} {k : Nat} (h : ∀ j, g j = if j % 150 = 0 ∧ j < 150 * k then 1 else 0) : ∀ j, upd g (150 * k) 1 j = if j % 150 = 0 ∧ j < 150 * (k + 1) then 1 else 0 := fun j => by
  by_cases c : j = 150 * k
  · subst c; rw [upd_same, if_pos (by omega)]
  · rw [upd_ne c, h j]
    by_cases q : j % 150 = 0 ∧ j < 150 * k
    · rw [if_pos q, if_pos (by omega)]
    · rw [if_neg q, if_neg (by omega)]
theorem up_20 {g : Nat → Int32} {k : Nat} (h : ∀ j, g j = if j % 2 = 0 ∧ j < 2 * k then 1 else 0) : ∀ j, upd g (2 * k) 1 j = if j % 2 = 0 ∧ j < 2 * (k + 1) then 1 else 0 := fun j => by
  by_cases c : j = 2 * k
  · subst c; rw [upd_same, if_pos (by omega)]
  · rw [upd_ne c, h j]
    by_cases q : j % 2 = 0 ∧ j < 2 * k
    · rw [if_pos q, if_pos (by omega)]
    · rw [if_neg q, if_neg (by omega)]
theorem up_18 {g : Nat → Int32} {T T' : List Tm} {k : Nat} {x y : Int32} (hp : T <+: T') (h : ∀ i, i < k → tv T (g (2400 * i)) (Id i) ∧ tv T (g (2400 * i + 1)) tz) (hx : tv T' x (Id k)) (hy : tv T' y tz) : ∀ i, i < k + 1 → tv T' (upd (upd g (2400 * k + 0) x) (2400 * k + 1) y (2400 * i)) (Id i) ∧ tv T' (upd (upd g (2400 * k + 0) x) (2400 * k + 1) y (2400 * i + 1)) tz := fun i hi => by
  by_cases c : i = k
  · subst c; rw [upd_ne (by omega), Nat.add_zero, upd_same, upd_same]; exact ⟨hx, hy⟩
  · rw [upd_ne (by omega), upd_ne (by omega), upd_ne (by omega), upd_ne (by omega)]
    exact ⟨tv_mono hp (h i (by omega)).1, tv_mono hp (h i (by omega)).2⟩
theorem qDv_e1 {g : Nat → Int32} {T : List Tm} {id : Tm} (hz : tv T 0 tz) (h : ∀ j, j < 1602 → g j = 0) : qDv g T (id, ePk, ePk, [], 0, fun _ => [], fun _ => eMe) := by
  have t : ∀ j, j < 1602 → tv T (g j) tz := fun j hj => tvq (h j hj) hz
  refine ⟨⟨⟨⟨t _ (by decide), h _ (by decide), h _ (by decide), by decide⟩, fun i X q => by simp [ePk] at q⟩, ⟨⟨t _ (by decide), h _ (by decide), h _ (by decide), by decide⟩, fun i X q => by simp [ePk] at q⟩⟩, ⟨⟨⟨h _ (by decide), by decide⟩, fun i e q => by simp at q⟩, h _ (by decide)⟩, fun p hp => ⟨⟨h _ (by omega), Nat.zero_le _⟩, fun k S q => by simp at q⟩, fun q hq => ?_⟩
  exact ⟨⟨h _ (by omega), h _ (by omega), h _ (by omega), h _ (by omega)⟩, ⟨t _ (by omega), t _ (by omega)⟩, ⟨h _ (by omega), h _ (by omega), h _ (by omega)⟩, fun p hp => ⟨⟨h _ (by omega), Nat.zero_le _⟩, fun k G q => by simp at q⟩⟩
theorem up_19q {g : Nat → Int32} {k : Nat} (h : ∀ j, g j = if j % 150 = 0 ∧ j < 150 * k then 1 else 0) : ∀ j, upd g (150 * k) 1 j = if j % 150 = 0 ∧ j < 150 * (k + 1) then 1 else 0 := up_19 h
set_option maxRecDepth 100000 in
theorem l_Mo {sc : tm_X} {d k : Nat} {f : Nat → Int32} {A : Nat → Nat → Int32} {Q : Option Value → MS → Prop} {lv : tm_L} (hk : k < 6) (h : MI k (f, A)) (l0 : lv.lookup 0 = some (.ref 1482)) (l1 : lv.lookup 1 = some (.int (nI k))) (kk : ∀ (s : MS) (lv : tm_L), MI (k + 1) s → lv.lookup 0 = some (.ref 1482) → lv.lookup 1 = some (.int (nI (k + 1))) → mg sc (d + 8) 178 413 lv [] s Q) : mg sc (d + 8) 178 419 lv [] (f, A) Q := by
  obtain ⟨T, ⟨⟨hM, hTl, hrc⟩, h16, h11, h21, h40, h43, h53, h54, h63⟩, ⟨⟨a10, a11, a12, a13⟩, a14, a16, a17, a45⟩, ⟨a18, a19, a20, a21, a22, a23⟩, a24, a25, a39, a40, a41, a42⟩ := h
  have hM : MT f A T (eDL k) (eG k) (fun _ => False) := hM
  have hTl : T.length ≤ 1 + 2 * k := hTl
  have hrc : rc (A 1) T.length = 0 := hrc
  have h16 : f 16 = 1 := h16
  have hd := eDL_len k
  have h11 : f 11 = nI (eDL k).length := by rw [hd]; exact h11
  have h21 : f 21 = 0 := h21
  refine m_ald (pc' := 420) cd_Mo_init rfl (Or.inr ⟨_, rfl, rfl, rfl⟩) l0 rfl rfl ?_
  refine m_fR (r := 15) (a := 16) (ad := 1498) (pc' := 423) rfl rfl cd_Mo_init rfl rfl rfl rfl rfl ?_
  refine m_ild (pc' := 424) cd_Mo_init rfl (Or.inr ⟨_, rfl, rfl, rfl⟩) l1 rfl ?_
  refine m_ald (pc' := 425) cd_Mo_init rfl (Or.inr ⟨_, rfl, rfl, rfl⟩) l0 rfl rfl ?_
  refine m_ild (pc' := 426) cd_Mo_init rfl (Or.inr ⟨_, rfl, rfl, rfl⟩) l1 rfl ?_
  refine m_k1 (v := 0) (pc' := 427) cd_Mo_init rfl (by decide) rfl ?_
  refine m_ci (pc' := 430) cd_Mo_init rfl rfl rfl rfl rfl cd_Mo_drawn rfl (Nat.le_of_ble_eq_true rfl) (m_drawn (y := nI k) (rt := false) (xd := nI k) (xp := 0) hM (by omega) (by rw [hrc]; decide) h11 (by omega) (fun f1 A1 T1 r1 hx1 hr1 => ?_))
  obtain ⟨p1, q1, s1, hM1⟩ := hx1
  have hM1 : MT f1 A1 T1 _ _ _ := MT_i hM1 rfl rfl rfl rfl rfl rfl rfl rfl rfl rfl
  have s1 : rc (A1 1) T1.length ≤ rc (A 1) T.length + 0 := s1
  have hM1 : MT f1 A1 T1 (eDL (k + 1)) (eG k) (fun _ => False) := hM1
  rw [hd] at hr1
  have hr1 : tv T1 r1 (Id k) := hr1
  show mg _ _ _ 430 _ [.int r1, .int (nI k), .ref 1498] _ _
  refine m_aS (r := 15) (a := 16) (g := (A 16)) (p := k) (pc' := 431) rfl rfl cd_Mo_init rfl rfl rfl (vp_in_nI (by omega) (by decide)) (nI_clamp (by omega)) ?_
  refine m_ald (pc' := 432) cd_Mo_init rfl (Or.inr ⟨_, rfl, rfl, rfl⟩) l0 rfl rfl ?_
  refine m_ald (pc' := 433) cd_Mo_init rfl (Or.inr ⟨_, rfl, rfl, rfl⟩) l0 rfl rfl ?_
  refine m_ald (pc' := 434) cd_Mo_init rfl (Or.inr ⟨_, rfl, rfl, rfl⟩) l0 rfl rfl ?_
  refine m_fR (r := 15) (a := 16) (ad := 1498) (pc' := 437) rfl rfl cd_Mo_init rfl rfl rfl rfl rfl ?_
  refine m_ild (pc' := 438) cd_Mo_init rfl (Or.inr ⟨_, rfl, rfl, rfl⟩) l1 rfl ?_
  refine m_aI (r := 15) (a := 16) (g := (upd (A 16) k r1)) (x := r1) (pc' := 439) rfl rfl cd_Mo_init rfl rfl rfl (vp_in_nI (by omega) (by decide)) (by rw [(nI_clamp (by omega))]; exact upd_same) ?_
  refine m_ci (pc' := 442) cd_Mo_init rfl rfl rfl rfl rfl cd_Mo_publicOf rfl (Nat.le_of_ble_eq_true rfl) (m_publicOf (by exact MT_i hM1 rfl rfl rfl rfl rfl rfl rfl rfl rfl rfl) (by omega) (by show rc (A1 1) T1.length < 1000; omega) hr1 rfl (fun f2 A2 T2 r2 hx2 hr2 => ?_))
  obtain ⟨p2, q2, s2, hM2⟩ := hx2
  have hM2 : MT f2 A2 T2 _ _ _ := MT_i hM2 rfl rfl rfl rfl rfl rfl rfl rfl rfl rfl
  have s2 : rc (A2 1) T2.length ≤ rc (A1 1) T1.length + 0 := s2
  show mg _ _ _ 442 _ [.int r2, .ref 1482] _ _
  refine m_cv (pc' := 445) cd_Mo_init rfl rfl rfl rfl rfl cd_Mo_give rfl (Nat.le_of_ble_eq_true rfl) (m_give (by exact MT_i hM2 rfl rfl rfl rfl rfl rfl rfl rfl rfl rfl) hr2 (fun v g5 hv hM3 => ?_))
  show mg _ _ _ 445 _ [] _ _
  refine m_ald (pc' := 446) cd_Mo_init rfl (Or.inr ⟨_, rfl, rfl, rfl⟩) l0 rfl rfl ?_
  refine m_fR (r := 23) (a := 24) (ad := 1506) (pc' := 449) rfl rfl cd_Mo_init rfl rfl rfl rfl rfl ?_
  refine m_ild (pc' := 450) cd_Mo_init rfl (Or.inr ⟨_, rfl, rfl, rfl⟩) l1 rfl ?_
  refine m_ldcw (pc' := 453) cd_Mo_init rfl rfl rfl ?_
  refine m_aS (r := 23) (a := 24) (g := (A 24)) (p := k) (pc' := 454) rfl rfl cd_Mo_init rfl rfl rfl (vp_in_nI (by omega) (by decide)) (nI_clamp (by omega)) ?_
  refine m_ald (pc' := 455) cd_Mo_init rfl (Or.inr ⟨_, rfl, rfl, rfl⟩) l0 rfl rfl ?_
  refine m_fR (r := 24) (a := 25) (ad := 1507) (pc' := 458) rfl rfl cd_Mo_init rfl rfl rfl rfl rfl ?_
  refine m_ild (pc' := 459) cd_Mo_init rfl (Or.inr ⟨_, rfl, rfl, rfl⟩) l1 rfl ?_
  refine m_k1 (v := (-1)) (pc' := 460) cd_Mo_init rfl (by decide) rfl ?_
  refine m_aS (r := 24) (a := 25) (g := (A 25)) (p := k) (pc' := 461) rfl rfl cd_Mo_init rfl rfl rfl (vp_in_nI (by omega) (by decide)) (nI_clamp (by omega)) ?_
  refine m_ald (pc' := 462) cd_Mo_init rfl (Or.inr ⟨_, rfl, rfl, rfl⟩) l0 rfl rfl ?_
  refine m_fR (r := 22) (a := 23) (ad := 1505) (pc' := 465) rfl rfl cd_Mo_init rfl rfl rfl rfl rfl ?_
  refine m_ild (pc' := 466) cd_Mo_init rfl (Or.inr ⟨_, rfl, rfl, rfl⟩) l1 rfl ?_
  refine m_k1 (v := (-1)) (pc' := 467) cd_Mo_init rfl (by decide) rfl ?_
  refine m_aS (r := 22) (a := 23) (g := (A 23)) (p := k) (pc' := 468) rfl rfl cd_Mo_init rfl rfl rfl (vp_in_nI (by omega) (by decide)) (nI_clamp (by omega)) ?_
  refine m_ald (pc' := 469) cd_Mo_init rfl (Or.inr ⟨_, rfl, rfl, rfl⟩) l0 rfl rfl ?_
  refine m_fR (r := 38) (a := 39) (ad := 1521) (pc' := 472) rfl rfl cd_Mo_init rfl rfl rfl rfl rfl ?_
  refine m_ild (pc' := 473) cd_Mo_init rfl (Or.inr ⟨_, rfl, rfl, rfl⟩) l1 rfl ?_
  refine m_k1 (v := (-1)) (pc' := 474) cd_Mo_init rfl (by decide) rfl ?_
  refine m_aS (r := 38) (a := 39) (g := (A 39)) (p := k) (pc' := 475) rfl rfl cd_Mo_init rfl rfl rfl (vp_in_nI (by omega) (by decide)) (nI_clamp (by omega)) ?_
  refine m_ald (pc' := 476) cd_Mo_init rfl (Or.inr ⟨_, rfl, rfl, rfl⟩) l0 rfl rfl ?_
  refine m_fR (r := 39) (a := 40) (ad := 1522) (pc' := 479) rfl rfl cd_Mo_init rfl rfl rfl rfl rfl ?_
  refine m_ild (pc' := 480) cd_Mo_init rfl (Or.inr ⟨_, rfl, rfl, rfl⟩) l1 rfl ?_
  refine m_k1 (v := (-1)) (pc' := 481) cd_Mo_init rfl (by decide) rfl ?_
  refine m_aS (r := 39) (a := 40) (g := (A 40)) (p := k) (pc' := 482) rfl rfl cd_Mo_init rfl rfl rfl (vp_in_nI (by omega) (by decide)) (nI_clamp (by omega)) ?_
  refine m_ald (pc' := 483) cd_Mo_init rfl (Or.inr ⟨_, rfl, rfl, rfl⟩) l0 rfl rfl ?_
  refine m_fR (r := 40) (a := 41) (ad := 1523) (pc' := 486) rfl rfl cd_Mo_init rfl rfl rfl rfl rfl ?_
  refine m_ild (pc' := 487) cd_Mo_init rfl (Or.inr ⟨_, rfl, rfl, rfl⟩) l1 rfl ?_
  refine m_k1 (v := (-1)) (pc' := 488) cd_Mo_init rfl (by decide) rfl ?_
  refine m_aS (r := 40) (a := 41) (g := (A 41)) (p := k) (pc' := 489) rfl rfl cd_Mo_init rfl rfl rfl (vp_in_nI (by omega) (by decide)) (nI_clamp (by omega)) ?_
  refine m_ald (pc' := 490) cd_Mo_init rfl (Or.inr ⟨_, rfl, rfl, rfl⟩) l0 rfl rfl ?_
  refine m_ild (pc' := 491) cd_Mo_init rfl (Or.inr ⟨_, rfl, rfl, rfl⟩) l1 rfl ?_
  refine m_cv (pc' := 494) cd_Mo_init rfl rfl rfl rfl rfl cd_Mo_load rfl (Nat.le_of_ble_eq_true rfl) (m_load hk (fun g15 hg15 => ?_))
  show mg _ _ _ 494 _ [] _ _
  refine m_ald (pc' := 495) cd_Mo_init rfl (Or.inr ⟨_, rfl, rfl, rfl⟩) l0 rfl rfl ?_
  refine m_ild (pc' := 496) cd_Mo_init rfl (Or.inr ⟨_, rfl, rfl, rfl⟩) l1 rfl ?_
  have hz2 : tv T2 0 tz := ⟨0, rfl, hM2.1.2.2.1.1⟩
  have hD15 : ∀ j, j < 1602 → g15 j = 0 := fun j hj => (hg15 j hj).trans (a14 _)
  refine m_cv (pc' := 499) cd_Mo_init rfl rfl rfl rfl rfl cd_Mo_list rfl (Nat.le_of_ble_eq_true rfl) (m_list (id := Id k) (K0 := ePk) (K1 := ePk) (on := []) (lnu := 0) (se := fun _ => []) (me := fun _ => eMe) (by exact MT_i hM3 rfl rfl rfl rfl rfl rfl rfl rfl rfl rfl) hk (show tv T2 (upd (A 16) k r1 k) (Id k) by rw [upd_same]; exact tv_mono p2 hr1) (qDv_e1 hz2 hD15) (Iff.intro (fun _ => rfl) (fun _ => rfl)) (Iff.intro (fun _ => rfl) (fun _ => rfl)) (by rw [dv_en_e]; show 1 ≤ 600; decide) (fun g27 hg27 => ?_))
  have hg27 : EN g27 T2 [(Id k, tz)] 0 := hg27
  show mg _ _ _ 499 _ [] _ _
  refine m_k1 (v := 0) (pc' := 500) cd_Mo_init rfl (by decide) rfl ?_
  refine m_ist (pc' := 501) cd_Mo_init rfl (Or.inr ⟨_, rfl, rfl, rfl⟩) (by decide) rfl (fun lv el => ?_)
  have l0 := tm_lk el l0 rfl (by decide)
  have l1 := tm_lk el l1 rfl (by decide)
  have l2 : lv.lookup 2 = some (.int 0) := tm_lks el
  clear el
  refine m_ild (pc' := 502) cd_Mo_init rfl (Or.inr ⟨_, rfl, rfl, rfl⟩) l2 rfl ?_
  refine m_k1 (v := 2) (pc' := 503) cd_Mo_init rfl (by decide) rfl ?_
  refine m_ald (pc' := 504) cd_Mo_init rfl (Or.inr ⟨_, rfl, rfl, rfl⟩) l0 rfl rfl ?_
  refine m_fI (k := 38) (x := 1) (pc' := 507) cd_Mo_init rfl rfl rfl rfl rfl (by show nI (dv_en (Id k, ePk, ePk, [], 0, fun _ => [], fun _ => eMe)).length = 1; rw [dv_en_e]; rfl) ?_
  refine m_pure (pc' := 508) (st' := [.int ((2 : Int32) * 1), .int 0]) cd_Mo_init rfl rfl (fun _ _ => rfl) ?_
  refine m_eq (show ((2 : Int32) * 1 : Int32) = 2 from by decide) ?_
  refine m_if2 (t := 535) (pc' := 511) cd_Mo_init rfl rfl rfl (fun c508 => ?_) (fun c508 => ?_)
  · exact absurd (show (2 : Int32) ≤ 0 from c508) (by decide)
  · have c508 : ¬ (2 : Int32) ≤ 0 := c508
    refine m_ald (pc' := 512) cd_Mo_init rfl (Or.inr ⟨_, rfl, rfl, rfl⟩) l0 rfl rfl ?_
    refine m_fR (r := 17) (a := 18) (ad := 1500) (pc' := 515) rfl rfl cd_Mo_init rfl rfl rfl rfl rfl ?_
    refine m_k3 (v := 2400) (pc' := 518) cd_Mo_init rfl (by decide) rfl ?_
    refine m_ild (pc' := 519) cd_Mo_init rfl (Or.inr ⟨_, rfl, rfl, rfl⟩) l1 rfl ?_
    refine m_pure (pc' := 520) (st' := [.int ((2400 : Int32) * (nI k)), .ref 1500]) cd_Mo_init rfl rfl (fun _ _ => rfl) ?_
    refine m_eq (show ((2400 : Int32) * (nI k) : Int32) = nI (2400 * k) from pk_mul 2400 k) ?_
    refine m_ild (pc' := 521) cd_Mo_init rfl (Or.inr ⟨_, rfl, rfl, rfl⟩) l2 rfl ?_
    refine m_pure (pc' := 522) (st' := [.int ((nI (2400 * k)) + 0), .ref 1500]) cd_Mo_init rfl rfl (fun _ _ => rfl) ?_
    refine m_eq (show ((nI (2400 * k)) + 0 : Int32) = nI ((2400 * k) + 0) from nI_add (2400 * k) 0) ?_
    refine m_ald (pc' := 523) cd_Mo_init rfl (Or.inr ⟨_, rfl, rfl, rfl⟩) l0 rfl rfl ?_
    refine m_fR (r := 26) (a := 27) (ad := 1509) (pc' := 526) rfl rfl cd_Mo_init rfl rfl rfl rfl rfl ?_
    refine m_ild (pc' := 527) cd_Mo_init rfl (Or.inr ⟨_, rfl, rfl, rfl⟩) l2 rfl ?_
    refine m_aI (r := 26) (a := 27) (g := g27) (x := (g27 0)) (pc' := 528) rfl rfl cd_Mo_init rfl rfl rfl (vp_in_nI (n := 0) (by decide) (by decide)) (congrArg g27 (show (0 : Int32).toNatClampNeg = 0 by decide)) ?_
    refine m_aS (r := 17) (a := 18) (g := (A 18)) (p := ((2400 * k) + 0)) (pc' := 529) rfl rfl cd_Mo_init rfl rfl rfl (vp_in_nI (by omega) (by decide)) (nI_clamp (by omega)) ?_
    refine m_inc (y := 1) (pc' := 532) cd_Mo_init rfl l2 (by decide) (by decide) rfl (fun lv el => ?_)
    have l0 := tm_lk el l0 rfl (by decide)
    have l1 := tm_lk el l1 rfl (by decide)
    have l2 : lv.lookup 2 = some (.int 1) := tm_lks el
    clear el
    refine m_pure (pc' := 501) (st' := []) cd_Mo_init rfl rfl (fun _ _ => rfl) ?_
    refine m_ild (pc' := 502) cd_Mo_init rfl (Or.inr ⟨_, rfl, rfl, rfl⟩) l2 rfl ?_
    refine m_k1 (v := 2) (pc' := 503) cd_Mo_init rfl (by decide) rfl ?_
    refine m_ald (pc' := 504) cd_Mo_init rfl (Or.inr ⟨_, rfl, rfl, rfl⟩) l0 rfl rfl ?_
    refine m_fI (k := 38) (x := 1) (pc' := 507) cd_Mo_init rfl rfl rfl rfl rfl (by show nI (dv_en (Id k, ePk, ePk, [], 0, fun _ => [], fun _ => eMe)).length = 1; rw [dv_en_e]; rfl) ?_
    refine m_pure (pc' := 508) (st' := [.int ((2 : Int32) * 1), .int 1]) cd_Mo_init rfl rfl (fun _ _ => rfl) ?_
    refine m_eq (show ((2 : Int32) * 1 : Int32) = 2 from by decide) ?_
    refine m_if2 (t := 535) (pc' := 511) cd_Mo_init rfl rfl rfl (fun c508 => ?_) (fun c508 => ?_)
    · exact absurd (show (2 : Int32) ≤ 1 from c508) (by decide)
    · have c508 : ¬ (2 : Int32) ≤ 1 := c508
      refine m_ald (pc' := 512) cd_Mo_init rfl (Or.inr ⟨_, rfl, rfl, rfl⟩) l0 rfl rfl ?_
      refine m_fR (r := 17) (a := 18) (ad := 1500) (pc' := 515) rfl rfl cd_Mo_init rfl rfl rfl rfl rfl ?_
      refine m_k3 (v := 2400) (pc' := 518) cd_Mo_init rfl (by decide) rfl ?_
      refine m_ild (pc' := 519) cd_Mo_init rfl (Or.inr ⟨_, rfl, rfl, rfl⟩) l1 rfl ?_
      refine m_pure (pc' := 520) (st' := [.int ((2400 : Int32) * (nI k)), .ref 1500]) cd_Mo_init rfl rfl (fun _ _ => rfl) ?_
      refine m_eq (show ((2400 : Int32) * (nI k) : Int32) = nI (2400 * k) from pk_mul 2400 k) ?_
      refine m_ild (pc' := 521) cd_Mo_init rfl (Or.inr ⟨_, rfl, rfl, rfl⟩) l2 rfl ?_
      refine m_pure (pc' := 522) (st' := [.int ((nI (2400 * k)) + 1), .ref 1500]) cd_Mo_init rfl rfl (fun _ _ => rfl) ?_
      refine m_eq (show ((nI (2400 * k)) + 1 : Int32) = nI ((2400 * k) + 1) from nI_add (2400 * k) 1) ?_
      refine m_ald (pc' := 523) cd_Mo_init rfl (Or.inr ⟨_, rfl, rfl, rfl⟩) l0 rfl rfl ?_
      refine m_fR (r := 26) (a := 27) (ad := 1509) (pc' := 526) rfl rfl cd_Mo_init rfl rfl rfl rfl rfl ?_
      refine m_ild (pc' := 527) cd_Mo_init rfl (Or.inr ⟨_, rfl, rfl, rfl⟩) l2 rfl ?_
      refine m_aI (r := 26) (a := 27) (g := g27) (x := (g27 1)) (pc' := 528) rfl rfl cd_Mo_init rfl rfl rfl (vp_in_nI (n := 1) (by decide) (by decide)) (congrArg g27 (show (1 : Int32).toNatClampNeg = 1 by decide)) ?_
      refine m_aS (r := 17) (a := 18) (g := (upd (A 18) ((2400 * k) + 0) (g27 0))) (p := ((2400 * k) + 1)) (pc' := 529) rfl rfl cd_Mo_init rfl rfl rfl (vp_in_nI (by omega) (by decide)) (nI_clamp (by omega)) ?_
      rw [fset_fset]
      refine m_inc (y := 2) (pc' := 532) cd_Mo_init rfl l2 (by decide) (by decide) rfl (fun lv el => ?_)
      have l0 := tm_lk el l0 rfl (by decide)
      have l1 := tm_lk el l1 rfl (by decide)
      have l2 : lv.lookup 2 = some (.int 2) := tm_lks el
      clear el
      refine m_pure (pc' := 501) (st' := []) cd_Mo_init rfl rfl (fun _ _ => rfl) ?_
      refine m_ild (pc' := 502) cd_Mo_init rfl (Or.inr ⟨_, rfl, rfl, rfl⟩) l2 rfl ?_
      refine m_k1 (v := 2) (pc' := 503) cd_Mo_init rfl (by decide) rfl ?_
      refine m_ald (pc' := 504) cd_Mo_init rfl (Or.inr ⟨_, rfl, rfl, rfl⟩) l0 rfl rfl ?_
      refine m_fI (k := 38) (x := 1) (pc' := 507) cd_Mo_init rfl rfl rfl rfl rfl (by show nI (dv_en (Id k, ePk, ePk, [], 0, fun _ => [], fun _ => eMe)).length = 1; rw [dv_en_e]; rfl) ?_
      refine m_pure (pc' := 508) (st' := [.int ((2 : Int32) * 1), .int 2]) cd_Mo_init rfl rfl (fun _ _ => rfl) ?_
      refine m_eq (show ((2 : Int32) * 1 : Int32) = 2 from by decide) ?_
      refine m_if2 (t := 535) (pc' := 511) cd_Mo_init rfl rfl rfl (fun c508 => ?_) (fun c508 => ?_)
      · have c508 : (2 : Int32) ≤ 2 := c508
        refine m_ald (pc' := 536) cd_Mo_init rfl (Or.inr ⟨_, rfl, rfl, rfl⟩) l0 rfl rfl ?_
        refine m_fR (r := 19) (a := 20) (ad := 1502) (pc' := 539) rfl rfl cd_Mo_init rfl rfl rfl rfl rfl ?_
        refine m_k1 (v := 2) (pc' := 540) cd_Mo_init rfl (by decide) rfl ?_
        refine m_ild (pc' := 541) cd_Mo_init rfl (Or.inr ⟨_, rfl, rfl, rfl⟩) l1 rfl ?_
        refine m_pure (pc' := 542) (st' := [.int ((2 : Int32) * (nI k)), .ref 1502]) cd_Mo_init rfl rfl (fun _ _ => rfl) ?_
        refine m_eq (show ((2 : Int32) * (nI k) : Int32) = nI (2 * k) from pk_mul 2 k) ?_
        refine m_ald (pc' := 543) cd_Mo_init rfl (Or.inr ⟨_, rfl, rfl, rfl⟩) l0 rfl rfl ?_
        refine m_fI (k := 38) (x := 1) (pc' := 546) cd_Mo_init rfl rfl rfl rfl rfl (by show nI (dv_en (Id k, ePk, ePk, [], 0, fun _ => [], fun _ => eMe)).length = 1; rw [dv_en_e]; rfl) ?_
        refine m_aS (r := 19) (a := 20) (g := (A 20)) (p := (2 * k)) (pc' := 547) rfl rfl cd_Mo_init rfl rfl rfl (vp_in_nI (by omega) (by decide)) (nI_clamp (by omega)) ?_
        refine m_ald (pc' := 548) cd_Mo_init rfl (Or.inr ⟨_, rfl, rfl, rfl⟩) l0 rfl rfl ?_
        refine m_fR (r := 18) (a := 19) (ad := 1501) (pc' := 551) rfl rfl cd_Mo_init rfl rfl rfl rfl rfl ?_
        refine m_k3 (v := 150) (pc' := 554) cd_Mo_init rfl (by decide) rfl ?_
        refine m_ild (pc' := 555) cd_Mo_init rfl (Or.inr ⟨_, rfl, rfl, rfl⟩) l1 rfl ?_
        refine m_pure (pc' := 556) (st' := [.int ((150 : Int32) * (nI k)), .ref 1501]) cd_Mo_init rfl rfl (fun _ _ => rfl) ?_
        refine m_eq (show ((150 : Int32) * (nI k) : Int32) = nI (150 * k) from pk_mul 150 k) ?_
        refine m_k1 (v := 1) (pc' := 557) cd_Mo_init rfl (by decide) rfl ?_
        refine m_bS (r := 18) (a := 19) (g := (A 19)) (p := (150 * k)) (pc' := 558) rfl rfl cd_Mo_init rfl rfl rfl (vp_in_nI (by omega) (by decide)) (nI_clamp (by omega)) (by decide) ?_
        refine m_inc (y := nI (k + 1)) (pc' := 561) cd_Mo_init rfl l1 (by decide) (nI_add k 1) rfl (fun lv el => ?_)
        have l0 := tm_lk el l0 rfl (by decide)
        have l2 := tm_lk el l2 rfl (by decide)
        have l1 : lv.lookup 1 = some (.int (nI (k + 1))) := tm_lks el
        clear el
        refine m_pure (pc' := 413) (st' := []) cd_Mo_init rfl rfl (fun _ _ => rfl) ?_
        have hv1 : v = 1 := hv.elim (fun q => q) (fun q => q.1.trans h16)
        subst hv1
        have p12 := p1.trans p2
        have hg0 := (hg27 0 (Id k, tz) rfl)
        have hE : MT f2 (fset A2 5 g5) T2 (eDL (k + 1)) (eG (k + 1)) (fun _ => False) := MT_G (MT_i hM3 rfl rfl rfl rfl rfl rfl rfl rfl rfl rfl) (fun y => by rw [← eG_s]; exact ⟨fun q => q.elim Or.inl (fun q => Or.inr q.1), fun q => q.elim Or.inl (fun q => Or.inr ⟨q, fun e => nomatch e⟩)⟩) (fun _ => Iff.rfl)
        refine kk _ lv ⟨T2, ⟨⟨by exact MT_i hE rfl rfl rfl rfl rfl rfl rfl rfl rfl rfl, by omega, by show rc (A2 1) T2.length = 0; omega⟩, rfl, ?_, h21, h40, h43, h53, h54, h63⟩, ⟨⟨?_, ?_, ?_, ?_⟩, a14, ?_, a17, a45⟩, ⟨?_, ?_, ?_, a21, a22, ?_⟩, ?_, ?_, ?_, ?_, ?_, a42⟩ l0 l1
        · show nI ((eDL k).length + 1) = _; rw [hd]
        · show ∀ i, upd (A 10) (eDL k).length (f 21) i = 0; rw [hd, h21]; exact up_0 a10
        · show ∀ i, i < k + 1 → upd (A 11) (eDL k).length (nI k) i = nI i; rw [hd]; exact up_al (P := fun i x => x = nI i) a11 rfl
        · show ∀ i, upd (A 12) (eDL k).length (bz false) i = 0; rw [hd]; exact up_0 a12
        · show ∀ i, i < k + 1 → upd (A 13) (eDL k).length (-1) i = -1; rw [hd]; exact up_al (P := fun i x => x = -1) a13 rfl
        · exact up_al (P := fun i x => tv T2 x (Id i)) (fun i hi => tv_mono p12 (a16 i hi)) (tv_mono p2 hr1)
        · exact up_18 p12 a18 hg0.1 hg0.2
        · exact up_19q a19
        · exact up_20 a20
        · exact up_al (P := fun i x => x = -1) a23 rfl
        · exact up_al (P := fun i x => x = 2147483647) a24 rfl
        · exact up_al (P := fun i x => x = -1) a25 rfl
        · exact up_al (P := fun i x => x = -1) a39 rfl
        · exact up_al (P := fun i x => x = -1) a40 rfl
        · exact up_al (P := fun i x => x = -1) a41 rfl
      · exact absurd (show ¬ (2 : Int32) ≤ 2 from c508) (by decide)
