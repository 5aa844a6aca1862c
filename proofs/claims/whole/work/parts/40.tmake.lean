/-! Makers of Terms, told by trees -/
/-- fields of references that change later on -/
def mutF (c k : Nat) : Bool := (c == 9 && k == 0) || (c == 3 && (k == 1 || k == 2)) || (c == 11 && k == 11) || (c == 12 && (1 ≤ k && k ≤ 9))
/-- B' keeps what B has outside of X; kinds, lengths and final references stay everywhere -/
def fr (X : Nat → Prop) (B B' : bm_H) : Prop := bm_n B ≤ bm_n B' ∧ ∀ x, x < bm_n B → bm_K B' x = bm_K B x ∧ bm_AL B' x = bm_AL B x ∧ (∀ c k, mutF c k = false → bm_FR B' c k x = bm_FR B c k x) ∧ (¬ X x → (∀ c k, bm_FI B' c k x = bm_FI B c k x) ∧ (∀ c k, bm_FR B' c k x = bm_FR B c k x) ∧ bm_AI B' x = bm_AI B x ∧ bm_AR B' x = bm_AR B x)
theorem fr_rfl (X : Nat → Prop) (B : bm_H) : fr X B B := ⟨Nat.le_refl _, fun _ _ => ⟨rfl, rfl, fun _ _ _ => rfl, fun _ => ⟨fun _ _ => rfl, fun _ _ => rfl, rfl, rfl⟩⟩⟩
theorem fr_trans {X : Nat → Prop} {B B1 B2 : bm_H} (h : fr X B B1) (g : fr X B1 B2) : fr X B B2 := by
  refine ⟨Nat.le_trans h.1 g.1, fun x hx => ?_⟩
  obtain ⟨h1, h2, h0, h3⟩ := h.2 x hx
  obtain ⟨g1, g2, g0, g3⟩ := g.2 x (Nat.lt_of_lt_of_le hx h.1)
  refine ⟨g1.trans h1, g2.trans h2, fun c k q => (g0 c k q).trans (h0 c k q), fun q => ?_⟩
  obtain ⟨h4, h5, h6, h7⟩ := h3 q
  obtain ⟨g4, g5, g6, g7⟩ := g3 q
  exact ⟨fun c k => (g4 c k).trans (h4 c k), fun c k => (g5 c k).trans (h5 c k), g6.trans h6, g7.trans h7⟩
theorem fr_mono {X Y : Nat → Prop} {B B' : bm_H} (hXY : ∀ x, X x → Y x) (h : fr X B B') : fr Y B B' := ⟨h.1, fun x hx => ⟨(h.2 x hx).1, (h.2 x hx).2.1, (h.2 x hx).2.2.1, fun q => (h.2 x hx).2.2.2 (fun w => q (hXY x w))⟩⟩
theorem fr_lt {X : Nat → Prop} {B B' : bm_H} (h : fr X B B') {x : Nat} (hx : x < bm_n B) : x < bm_n B' := Nat.lt_of_lt_of_le hx h.1
theorem fr_K {X : Nat → Prop} {B B' : bm_H} (h : fr X B B') {x : Nat} (hx : x < bm_n B) : bm_K B' x = bm_K B x := (h.2 x hx).1
theorem fr_AL {X : Nat → Prop} {B B' : bm_H} (h : fr X B B') {x : Nat} (hx : x < bm_n B) : bm_AL B' x = bm_AL B x := (h.2 x hx).2.1
theorem fr_FS {X : Nat → Prop} {B B' : bm_H} (h : fr X B B') {x : Nat} (hx : x < bm_n B) (c k : Nat) (q : mutF c k = false) : bm_FR B' c k x = bm_FR B c k x := (h.2 x hx).2.2.1 c k q
theorem fr_FI {X : Nat → Prop} {B B' : bm_H} (h : fr X B B') {x : Nat} (hx : x < bm_n B) (q : ¬ X x) (c k : Nat) : bm_FI B' c k x = bm_FI B c k x := ((h.2 x hx).2.2.2 q).1 c k
theorem fr_FR {X : Nat → Prop} {B B' : bm_H} (h : fr X B B') {x : Nat} (hx : x < bm_n B) (q : ¬ X x) (c k : Nat) : bm_FR B' c k x = bm_FR B c k x := ((h.2 x hx).2.2.2 q).2.1 c k
theorem fr_AI {X : Nat → Prop} {B B' : bm_H} (h : fr X B B') {x : Nat} (hx : x < bm_n B) (q : ¬ X x) : bm_AI B' x = bm_AI B x := ((h.2 x hx).2.2.2 q).2.2.1
theorem fr_AR {X : Nat → Prop} {B B' : bm_H} (h : fr X B B') {x : Nat} (hx : x < bm_n B) (q : ¬ X x) : bm_AR B' x = bm_AR B x := ((h.2 x hx).2.2.2 q).2.2.2
theorem fr_putI (B : bm_H) (c k a : Nat) (v : Int32) : fr (fun x => x = a) B (bm_putI B c k a v) := ⟨Nat.le_refl _, fun x _ => ⟨rfl, rfl, fun _ _ _ => rfl, fun q => ⟨fun c' k' => if_neg (fun w => q w.2.2), fun _ _ => rfl, rfl, rfl⟩⟩⟩
theorem fr_putR (B : bm_H) (c k a : Nat) (v : Option Nat) (hm : mutF c k = true) : fr (fun x => x = a) B (bm_putR B c k a v) := ⟨Nat.le_refl _, fun x _ => ⟨rfl, rfl, fun c' k' h => if_neg (fun w => by rw [w.1, w.2.1, hm] at h; cases h), fun q => ⟨fun _ _ => rfl, fun c' k' => if_neg (fun w => q w.2.2), rfl, rfl⟩⟩⟩
theorem fr_setI (B : bm_H) (a i : Nat) (v : Int32) : fr (fun x => x = a) B (bm_setI B a i v) := ⟨Nat.le_refl _, fun x _ => ⟨rfl, rfl, fun _ _ _ => rfl, fun q => ⟨fun _ _ => rfl, fun _ _ => rfl, funext fun j => if_neg (fun w => q w.1), rfl⟩⟩⟩
theorem fr_setR (B : bm_H) (a i : Nat) (v : Option Nat) : fr (fun x => x = a) B (bm_setR B a i v) := ⟨Nat.le_refl _, fun x _ => ⟨rfl, rfl, fun _ _ _ => rfl, fun q => ⟨fun _ _ => rfl, fun _ _ => rfl, rfl, funext fun j => if_neg (fun w => q w.1)⟩⟩⟩
theorem fr_allI (B : bm_H) (a : Nat) (f : Nat → Int32) : fr (fun x => x = a) B (bm_allI B a f) := ⟨Nat.le_refl _, fun x _ => ⟨rfl, rfl, fun _ _ _ => rfl, fun q => ⟨fun _ _ => rfl, fun _ _ => rfl, funext fun j => if_neg q, rfl⟩⟩⟩
theorem fr_te {B B' : bm_H} {a ca ba da : Nat} (h : te_fr B B' a ca ba da) : fr (fun x => x = a ∨ x = ca ∨ x = ba ∨ x = da) B B' := by
  obtain ⟨f1, f2, f3, f4, f5, f6, f7, f8⟩ := h
  refine ⟨by rw [f1]; exact Nat.le_refl _, fun x _ => ⟨by rw [f3], by rw [f6], fun c k _ => by rw [f5], fun q => ⟨fun c k => f4 c k x (fun w => q (Or.inl w.2.2)), fun c k => by rw [f5], f7 x (fun w => q (Or.inr (Or.inl w))) (fun w => q (Or.inr (Or.inr (Or.inl w)))) (fun w => q (Or.inr (Or.inr (Or.inr w)))), by rw [f8]⟩⟩⟩
/-- Terms has m more terms at the most, and dr' draws; all else is as it was -/
def tx (B B' : bm_H) (a ca ba da rm dr' : Nat) (T T' : List Tm) (m : Nat) : Prop := T <+: T' ∧ T'.length ≤ T.length + m ∧ TI B' a ca ba da rm dr' T' ∧ te_fr B B' a ca ba da
section MK
variable {sc : tm_X} {d : Nat} {B B' : bm_H} {a ca ba da rm dr : Nat} {T : List Tm} {Q : Int32 → bm_H → Prop}
theorem tx_rfl (h : TI B a ca ba da rm dr T) : tx B B a ca ba da rm dr T T 0 := ⟨List.prefix_refl _, Nat.le_refl _, h, te_fr_rfl _ _ _ _ _⟩
theorem tx_trans {B1 B2 : bm_H} {T1 T2 : List Tm} {d1 d2 m n : Nat} (h : tx B B1 a ca ba da rm d1 T T1 m) (g : tx B1 B2 a ca ba da rm d2 T1 T2 n) : tx B B2 a ca ba da rm d2 T T2 (m + n) := ⟨h.1.trans g.1, by have := h.2.1; have := g.2.1; omega, g.2.2.1, te_fr_trans h.2.2.2 g.2.2.2⟩
theorem tx_of (h : TI B a ca ba da rm dr T) {r sz' : Nat} {f : Nat → Int32} {P0 P1 P2 P3 A : Tm} (hm : te_made B B' a ca ba da rm T.length dr f r sz') (q0 : tv T (f 6) P0) (q1 : tv T (f 7) P1) (q2 : tv T (f 8) P2) (q3 : tv T (f 9) P3) (hA : tn [f 0, f 1, f 2, f 3, f 4, f 5] P0 P1 P2 P3 = A) (hsp : Tsp A) (hns : f 0 ≠ 1) : ∃ T', tx B B' a ca ba da rm dr T T' 1 ∧ tv T' (nI r) A := by
  subst hA
  obtain ⟨T', h1, h2, h3⟩ := TI_made h hm q0 q1 q2 q3 hsp (Nat.le_refl _) h.2.2.2.2.2 hns
  refine ⟨T', ⟨?_, ?_, h2, hm.2.2.2.2.2.2⟩, ⟨r, rfl, h3⟩⟩
  · rcases h1 with rfl | ⟨rfl, -⟩
    · exact List.prefix_refl _
    · exact List.prefix_append _ _
  · rcases h1 with rfl | ⟨rfl, -⟩
    · omega
    · simp
theorem t_mix {n p q : Int32} {P R : Tm} (h : TI B a ca ba da rm dr T) (hrm : T.length < rm) (hp : tv T p P) (hq : tv T q R) (kk : ∀ B' T' r, tx B B' a ca ba da rm dr T T' 1 → tv T' r (Tmx n P R) → Q r B') : bm_Gi sc (d + 2) 78 [.ref a, .int n, .int p, .int q] B Q := by
  refine k_Te_mix h.1 h.2.1 hrm (fun B' r sz' hm => ?_)
  obtain ⟨T', h1, h2⟩ := tx_of h hm hp hq (TI_z h) (TI_z h) (A := Tmx n P R) rfl (Or.inr (Or.inr (Or.inr (Or.inr (Or.inl ⟨_, _, _, rfl⟩))))) (by show (4 : Int32) ≠ 1; decide)
  exact kk _ _ _ h1 h2
theorem t_sealed {k e b : Int32} {K H C : Tm} (h : TI B a ca ba da rm dr T) (hrm : T.length < rm) (hk : tv T k K) (he : tv T e H) (hb : tv T b C) (kk : ∀ B' T' r, tx B B' a ca ba da rm dr T T' 1 → tv T' r (Tsl K H C) → Q r B') : bm_Gi sc (d + 2) 89 [.ref a, .int k, .int e, .int b] B Q := by
  refine k_Te_sealed h.1 h.2.1 hrm (fun B' r sz' hm => ?_)
  obtain ⟨T', h1, h2⟩ := tx_of h hm hk he hb (TI_z h) (A := Tsl K H C) rfl (Or.inr (Or.inr (Or.inr (Or.inr (Or.inr (Or.inl ⟨_, _, _, rfl⟩)))))) (by show (5 : Int32) ≠ 1; decide)
  exact kk _ _ _ h1 h2
theorem t_signed {s t : Int32} {S C : Tm} (h : TI B a ca ba da rm dr T) (hrm : T.length < rm) (hs : tv T s S) (ht : tv T t C) (kk : ∀ B' T' r, tx B B' a ca ba da rm dr T T' 1 → tv T' r (Tsg S C) → Q r B') : bm_Gi sc (d + 2) 62 [.ref a, .int s, .int t] B Q := by
  refine k_Te_signed h.1 h.2.1 hrm (fun B' r sz' hm => ?_)
  obtain ⟨T', h1, h2⟩ := tx_of h hm hs ht (TI_z h) (TI_z h) (A := Tsg S C) rfl (Or.inr (Or.inr (Or.inr (Or.inr (Or.inr (Or.inr (Or.inl ⟨_, _, rfl⟩))))))) (by show (6 : Int32) ≠ 1; decide)
  exact kk _ _ _ h1 h2
/-- a draft of a row -/
def tt_draft (B : bm_H) (da : Nat) (k n0 n1 n2 n3 : Int32) : bm_H := te_dset B da (te_rw [7, k, n0, n1, n2, n3, 0, 0, 0, 0])
theorem t_startRow {k n0 n1 n2 n3 : Int32} {Q : bm_H → Prop} (h : TI B a ca ba da rm dr T) (kk : Q (tt_draft B da k n0 n1 n2 n3)) : bm_Gv sc (d + 2) 60 [.ref a, .int k, .int n0, .int n1, .int n2, .int n3] B Q := k_Te_startRow h.1 kk
theorem t_endRow {k n0 n1 n2 n3 p0 p1 p2 p3 : Int32} {P0 P1 P2 P3 : Tm} (h : TI B a ca ba da rm dr T) (hrm : T.length < rm) (q0 : tv T p0 P0) (q1 : tv T p1 P1) (q2 : tv T p2 P2) (q3 : tv T p3 P3) (kk : ∀ B' T' r, tx B B' a ca ba da rm dr T T' 1 → tv T' r (Trw k n0 n1 n2 n3 P0 P1 P2 P3) → Q r B') : bm_Gi sc (d + 2) 61 [.ref a, .int p0, .int p1, .int p2, .int p3] (tt_draft B da k n0 n1 n2 n3) Q := by
  refine k_Te_endRow h.1 h.2.1 hrm (fun B' r sz' hm => ?_)
  obtain ⟨T', h1, h2⟩ := tx_of h hm q0 q1 q2 q3 (A := Trw k n0 n1 n2 n3 P0 P1 P2 P3) rfl (Or.inr (Or.inr (Or.inr (Or.inr (Or.inr (Or.inr (Or.inr ⟨_, _, _, _, _, _, _, _, _, rfl⟩))))))) (by show (7 : Int32) ≠ 1; decide)
  exact kk _ _ _ h1 h2
/-- the draft lies outside of all rows -/
theorem tt_draft_TI {k n0 n1 n2 n3 : Int32} (h : TI B a ca ba da rm dr T) : TI (tt_draft B da k n0 n1 n2 n3) a ca ba da rm dr T := TI_of h (te_dset_ok h.1) (te_dset_AI h.1.2.2.2.2.2.2.1) (te_dset_AI h.1.2.2.2.2.2.2.2)
theorem tx_draft {k n0 n1 n2 n3 : Int32} {B2 : bm_H} {T' : List Tm} {m : Nat} (h : tx (tt_draft B da k n0 n1 n2 n3) B2 a ca ba da rm dr T T' m) : tx B B2 a ca ba da rm dr T T' m := ⟨h.1, h.2.1, h.2.2.1, te_fr_trans (te_dset_fr _ _ _ _ _ _) h.2.2.2⟩
theorem Tsp_sec {A : Tm} (h : Tsp A) (hk : kd A = 1) : ∃ n d p, A = Tsec n d p := by
  rcases h with rfl | h | ⟨s, -, rfl⟩ | ⟨s, t, -, -, rfl⟩ | ⟨n, s, t, rfl⟩ | ⟨s, t, u, rfl⟩ | ⟨s, t, rfl⟩ | ⟨k, n0, n1, n2, n3, s, t, u, v, rfl⟩
  · exact absurd hk (by decide)
  · exact h
  · exact absurd hk (by show ¬ (2 : Int32) = 1; decide)
  · exact absurd hk (by show ¬ (3 : Int32) = 1; decide)
  · exact absurd hk (by show ¬ (4 : Int32) = 1; decide)
  · exact absurd hk (by show ¬ (5 : Int32) = 1; decide)
  · exact absurd hk (by show ¬ (6 : Int32) = 1; decide)
  · exact absurd hk (by show ¬ (7 : Int32) = 1; decide)
theorem Tsp_pub {A : Tm} (h : Tsp A) (hk : kd A = 2) : ∃ s, kd s = 1 ∧ A = Tpub s := by
  rcases h with rfl | ⟨n, e, p, rfl⟩ | h | ⟨s, t, -, -, rfl⟩ | ⟨n, s, t, rfl⟩ | ⟨s, t, u, rfl⟩ | ⟨s, t, rfl⟩ | ⟨k, n0, n1, n2, n3, s, t, u, v, rfl⟩
  · exact absurd hk (by decide)
  · exact absurd hk (by show ¬ (1 : Int32) = 2; decide)
  · exact h
  · exact absurd hk (by show ¬ (3 : Int32) = 2; decide)
  · exact absurd hk (by show ¬ (4 : Int32) = 2; decide)
  · exact absurd hk (by show ¬ (5 : Int32) = 2; decide)
  · exact absurd hk (by show ¬ (6 : Int32) = 2; decide)
  · exact absurd hk (by show ¬ (7 : Int32) = 2; decide)
theorem tv_pub {s : Int32} {S : Tm} (h : TI B a ca ba da rm dr T) (hs : tv T s S) (hk : kd S = 1) : tv T (s + 1) (Tpub S) := by
  obtain ⟨i, rfl, hs⟩ := hs
  exact ⟨i + 1, nI_1 i, (h.2.2.2.1.1 i S hs hk).1⟩
theorem t_publicOf {s : Int32} {S : Tm} (h : TI B a ca ba da rm dr T) (hs : tv T s S) (kk : ∀ r, tv T r (if kd S = 1 then Tpub S else tz) → Q r B) : bm_Gi sc (d + 1) 16 [.ref a, .int s] B Q := by
  refine k_Te_publicOf h.1 (kk _ ?_)
  unfold te_pub
  rw [TI_kd h hs]
  by_cases hk : kd S = 1
  · rw [if_pos hk, if_pos hk]; exact tv_pub h hs hk
  · rw [if_neg hk, if_neg hk]; exact TI_z h
/-- which of two secrets was drawn first -/
theorem tt_order {x y : Int32} {X Y : Tm} (h : TI B a ca ba da rm dr T) (hx : tv T x X) (hy : tv T y Y) (kx : kd X = 1) (ky : kd Y = 1) : y < x ↔ mk Y < mk X := by
  have hl := TI_len h
  obtain ⟨i, rfl, hx⟩ := hx
  obtain ⟨j, rfl, hy⟩ := hy
  have i1 := tv_lt hx
  have j1 := tv_lt hy
  rw [nI_ltI (by omega) (by omega)]
  have hs := h.2.2.2.1.2
  constructor
  · intro w; exact hs j i Y X w hy hx ky kx
  · intro w
    rcases Nat.lt_trichotomy i j with q | q | q
    · exact (Int32.lt_irrefl (Int32.lt_trans w (hs i j X Y q hx hy kx ky))).elim
    · subst q
      rw [hx] at hy
      cases hy
      exact (Int32.lt_irrefl w).elim
    · exact q
theorem t_shared {s p : Int32} {S P : Tm} (h : TI B a ca ba da rm dr T) (hrm : T.length < rm) (hs : tv T s S) (hp : tv T p P) (ks : kd S = 1) (kp : kd (pt P 0) = 1) (kk : ∀ B' T' r, tx B B' a ca ba da rm dr T T' 1 → tv T' r (Tsh S (pt P 0)) → Q r B') : bm_Gi sc (d + 2) 76 [.ref a, .int s, .int p] B Q := by
  have hq : tv T (te_oth B ca T.length p) (pt P 0) := TI_pt h hp (i := 0) (by decide)
  have ns : ¬ s = 0 := fun e => by have := (TI_0 h hs).mp e; rw [this] at ks; exact absurd ks (by decide)
  have nq : ¬ te_oth B ca T.length p = 0 := fun e => by have := (TI_0 h hq).mp e; rw [this] at kp; exact absurd kp (by decide)
  refine k_Te_shared h.1 h.2.1 hrm (fun w => absurd w (fun w => w.elim ns nq)) (fun _ _ B' r sz' hm => ?_)
  generalize te_oth B ca T.length p = q at *
  have hsp : ∀ x y : Tm, kd x = 1 → kd y = 1 → Tsp (Tsh0 x y) := fun x y hx hy => Or.inr (Or.inr (Or.inr (Or.inl ⟨x, y, hx, hy, rfl⟩)))
  have o1 := tt_order h hs hq ks kp
  have o2 := tt_order h hq hs kp ks
  by_cases c : q < s
  · have c2 : ¬ s < q := Int32.lt_asymm c
    rw [show te_mn s q = q from if_pos c, show te_mx s q = s from if_neg c2] at hm
    obtain ⟨T', h1, h2⟩ := tx_of h hm hq hs (tv_pub h hq kp) (tv_pub h hs ks) (A := Tsh0 (pt P 0) S) rfl (hsp _ _ kp ks) (by show (3 : Int32) ≠ 1; decide)
    refine kk _ _ _ h1 ?_
    unfold Tsh
    rw [if_pos (o1.mp c)]
    exact h2
  · have e1 : te_mn s q = s := if_neg c
    by_cases c2 : s < q
    · rw [e1, show te_mx s q = q from if_pos c2] at hm
      obtain ⟨T', h1, h2⟩ := tx_of h hm hs hq (tv_pub h hs ks) (tv_pub h hq kp) (A := Tsh0 S (pt P 0)) rfl (hsp _ _ ks kp) (by show (3 : Int32) ≠ 1; decide)
      refine kk _ _ _ h1 ?_
      unfold Tsh
      rw [if_neg (fun w => c (o1.mpr w))]
      exact h2
    · have e : s = q := Int32.le_antisymm (Int32.not_lt.mp c) (Int32.not_lt.mp c2)
      subst e
      have eP := TI_fun h hs hq
      rw [e1, show te_mx s s = s from if_neg c2] at hm
      obtain ⟨T', h1, h2⟩ := tx_of h hm hs hs (tv_pub h hs ks) (tv_pub h hs ks) (A := Tsh0 S S) rfl (hsp _ _ ks ks) (by show (3 : Int32) ≠ 1; decide)
      refine kk _ _ _ h1 ?_
      unfold Tsh
      rw [if_neg (fun w => c (o1.mpr w)), ← eP]
      exact h2
end MK
