/-! What holds of the whole state, always: all but the secrets -/
def CL (T : List Tm) (X : Tm) : Prop := X ∈ T ∨ ∃ a, a ∈ T ∧ kd a = 1 ∧ X = Tpub a
theorem MT_CL {f : Nat → Int32} {A : Nat → Nat → Int32} {T : List Tm} {DL : List (Int32 × Int32)} {G W : Tm → Prop} (hM : MT f A T DL G W) {X : Tm} (h : CL T X) (i : Nat) : CL T (pt X i) := by
  have hz : CL T tz := Or.inl (List.mem_of_getElem? hM.1.2.2.1.1)
  rcases h with h | ⟨a, ha, -, rfl⟩
  · by_cases c : X = tz
    · rw [c, pt_tz]; exact hz
    · obtain ⟨j, hj⟩ := List.getElem?_of_mem h
      rcases MT_can hM (MT_pos hM hj c) hj with ⟨-, -, h⟩ | ⟨-, P, ⟨p, -, -, h0⟩, -, rfl⟩ | ⟨-, P, R, ⟨p, -, -, h0⟩, ⟨q, -, -, h1⟩, k0, k1, rfl⟩ | ⟨-, n, P, R, ⟨p, -, -, h0⟩, ⟨q, -, -, h1⟩, rfl⟩ | ⟨-, P, R, S, ⟨⟨p, -, -, h0⟩, -⟩, ⟨⟨q, -, -, h1⟩, -⟩, ⟨⟨r, -, -, h2⟩, -⟩, rfl⟩ | ⟨-, P, R, ⟨⟨p, -, -, h0⟩, -⟩, ⟨⟨q, -, -, h1⟩, -⟩, rfl⟩ | ⟨-, n, n0, n1, n2, n3, P0, P1, P2, P3, ⟨p, -, -, h0⟩, ⟨q, -, -, h1⟩, ⟨r, -, -, h2⟩, ⟨s, -, -, h3⟩, rfl⟩
      · rw [h i]; exact hz
      · rcases i with _ | _ | _ | _ | i
        · exact Or.inl (List.mem_of_getElem? h0)
        · exact hz
        · exact hz
        · exact hz
        · exact hz
      · rcases i with _ | _ | _ | _ | i
        · exact Or.inl (List.mem_of_getElem? h0)
        · exact Or.inl (List.mem_of_getElem? h1)
        · exact Or.inr ⟨P, List.mem_of_getElem? h0, k0, rfl⟩
        · exact Or.inr ⟨R, List.mem_of_getElem? h1, k1, rfl⟩
        · exact hz
      · rcases i with _ | _ | _ | _ | i
        · exact Or.inl (List.mem_of_getElem? h0)
        · exact Or.inl (List.mem_of_getElem? h1)
        · exact hz
        · exact hz
        · exact hz
      · rcases i with _ | _ | _ | _ | i
        · exact Or.inl (List.mem_of_getElem? h0)
        · exact Or.inl (List.mem_of_getElem? h1)
        · exact Or.inl (List.mem_of_getElem? h2)
        · exact hz
        · exact hz
      · rcases i with _ | _ | _ | _ | i
        · exact Or.inl (List.mem_of_getElem? h0)
        · exact Or.inl (List.mem_of_getElem? h1)
        · exact hz
        · exact hz
        · exact hz
      · rcases i with _ | _ | _ | _ | i
        · exact Or.inl (List.mem_of_getElem? h0)
        · exact Or.inl (List.mem_of_getElem? h1)
        · exact Or.inl (List.mem_of_getElem? h2)
        · exact Or.inl (List.mem_of_getElem? h3)
        · exact hz
  · rcases i with _ | _ | _ | _ | i
    · exact Or.inl ha
    · exact hz
    · exact hz
    · exact hz
    · exact hz
theorem MT_pub {f : Nat → Int32} {A : Nat → Nat → Int32} {T : List Tm} {DL : List (Int32 × Int32)} {G W : Tm → Prop} (hM : MT f A T DL G W) {X : Tm} (hX : X ∈ T) (h : kd X = 2) : X = Tpub (pt X 0) := by
  obtain ⟨i, hi⟩ := List.getElem?_of_mem hX
  rcases MT_can hM (MT_pos hM hi (kd2_nz h)) hi with ⟨-, k, -⟩ | ⟨-, P, -, k, rfl⟩ | ⟨-, P, R, -, -, -, -, rfl⟩ | ⟨-, n, P, R, -, -, rfl⟩ | ⟨-, P, R, S, -, -, -, rfl⟩ | ⟨-, P, R, -, -, rfl⟩ | ⟨-, n, n0, n1, n2, n3, P0, P1, P2, P3, -, -, -, -, rfl⟩
  · exact absurd (k.symm.trans h) (by decide)
  · rfl
  · exact absurd h (show ¬ (3 : Int32) = 2 by decide)
  · exact absurd h (show ¬ (4 : Int32) = 2 by decide)
  · exact absurd h (show ¬ (5 : Int32) = 2 by decide)
  · exact absurd h (show ¬ (6 : Int32) = 2 by decide)
  · exact absurd h (show ¬ (7 : Int32) = 2 by decide)
/-- terms whose parts are among them, and whose SECRETs were drawn -/
def PC (DL : List (Int32 × Int32)) (C : Tm → Prop) : Prop := (∀ X i, C X → C (pt X i)) ∧ (∀ X, C X → kd X = 1 → SD DL X) ∧ (∀ X, C X → kd X = 2 → kd (pt X 0) = 1) ∧ ∀ X, C X → kd X = 2 → X = Tpub (pt X 0)
theorem J_C {N S n : Nat} {B : bm_H} {DL : List (Int32 × Int32)} {dev : Nat → DV} {sto : Nat → ST} {ws : List (Tm × Int32)} {dir reg : Nat → Tm} {seen : List Tm} {G : Tm → Prop} {L : LG} {ls : List RL} {lo : Nat → Int32} {R : RR} (h : J N S n B DL dev sto ws dir reg seen G L ls lo R) : ∃ C, PC DL C ∧ (∀ (i : Nat) (e : Tm × Int32), ws[i]? = some e → C e.1) ∧ (∀ i, i < 30 → C (dir i)) ∧ (∀ i, i < 32 → C (reg i)) ∧ (∀ p, p < 6 → C (dev p).1) ∧ (∀ (p q k : Nat) (S : SS), p < 6 → q < 6 → ((dev p).2.2.2.2.2.1 q)[k]? = some S → C S.2.2.2.1 ∧ C S.1.1) ∧ ∀ p, p < 6 → C (dev p).2.1.1 ∧ C (dev p).2.2.1.1 := by
  obtain ⟨f, A, T, T0, K, Kw, ca, rm, kc, kl, rk, M, ln, wt, π, w, dv, idc, -, ⟨-, -, hM, hS⟩, -⟩ := h
  refine ⟨CL T0, ⟨fun X i hX => MT_CL hM hX i, fun X hX k => ?_, fun X hX k => ?_, fun X hX k => ?_⟩, fun i e he => ?_, fun i hi => ?_, fun i hi => ?_, fun p hp => ?_, fun p q k S hp hq hk => ?_, fun p hp => ?_⟩
  · rcases hX with h | ⟨a, -, -, rfl⟩
    · obtain ⟨m, d, p, -, h2, h3⟩ := MT_sec hM h k
      exact ⟨m, d, p, h2, h3⟩
    · exact absurd k (show ¬ (2 : Int32) = 1 by decide)
  · rcases hX with h | ⟨a, -, ka, rfl⟩
    · exact MT_kd2 hM h k
    · exact ka
  · rcases hX with h | ⟨a, -, ka, rfl⟩
    · exact MT_pub hM h k
    · rfl
  · exact Or.inl (tv_memb (hS.2.1.1.2 i e he).1)
  · exact Or.inl (tv_memb (hS.2.1.2.1 i hi))
  · exact Or.inl (tv_memb (hS.2.1.2.2.1 i hi))
  · exact Or.inl (tv_memb (hS.1.1 p hp))
  · have hq0 := hS.1.2.1 p hp
    obtain ⟨id, K0, K1, on, lnu, se, me, e⟩ : ∃ a1 a2 a3 a4 a5 a6 a7, dev p = (a1, a2, a3, a4, a5, a6, a7) := ⟨_, _, _, _, _, _, _, rfl⟩
    rw [e] at hq0 hk
    have h1 := (hq0.2.2.1 q hq).2 k S hk
    obtain ⟨⟨th, ch, nx, le⟩, ba, ro, mi, sd, nn, b, br, bp, bo, oc⟩ := S
    exact ⟨Or.inl (tv_memb h1.1.2.2.1), Or.inl (tv_memb h1.1.2.2.2.1)⟩
  · have hq0 := hS.1.2.1 p hp
    obtain ⟨id, K0, K1, on, lnu, se, me, e⟩ : ∃ a1 a2 a3 a4 a5 a6 a7, dev p = (a1, a2, a3, a4, a5, a6, a7) := ⟨_, _, _, _, _, _, _, rfl⟩
    rw [e] at hq0 ⊢
    exact ⟨Or.inl (tv_memb hq0.1.1.1.1), Or.inl (tv_memb hq0.1.2.1.1)⟩
theorem J_O {N S n : Nat} {B : bm_H} {DL : List (Int32 × Int32)} {dev : Nat → DV} {sto : Nat → ST} {ws : List (Tm × Int32)} {dir reg : Nat → Tm} {seen : List Tm} {G : Tm → Prop} {L : LG} {ls : List RL} {lo : Nat → Int32} {R : RR} {p : Nat} {p0 : Bool} {P O : EN2} {c : Option Nat} (h : J N S n B DL dev sto ws dir reg seen G L ls lo R) (hp : p < 6) (hst : sto p = (p0, P, O, c, false)) : O = [] := by
  obtain ⟨f, A, T, T0, K, Kw, ca, rm, kc, kl, rk, M, ln, wt, π, w, dv, idc, -, ⟨-, -, hM, hS⟩, -⟩ := h
  have := hS.1.2.2 p hp
  rw [hst] at this
  exact qSt_O this
/-! The parts of it -/
def IA (n : Nat) (DL : List (Int32 × Int32)) (dev : Nat → DV) (sto : Nat → ST) (ws : List (Tm × Int32)) (ls : List RL) : Prop := (∀ q, q < 6 → DVI q n (dev q) ∧ (sto q).2.1 = dv_en (dev q)) ∧ DL.length ≤ 6 + 21 * n ∧ ws.length ≤ 7 * n ∧ ls.length ≤ n
def IC (n : Nat) (DL : List (Int32 × Int32)) (L : LG) (ls : List RL) (lo : Nat → Int32) (R : RR) : Prop := ∃ b, b ≤ n ∧ R.2.2.2.2.2.2.2.2.2.1 = nI b ∧ LGX b b DL ls lo L R
def IK (dev : Nat → DV) (ws : List (Tm × Int32)) (dir reg : Nat → Tm) (seen : List Tm) (G : Tm → Prop) : Prop := (∀ q, q < 6 → Kn G (Tpub (dev q).1)) ∧ (∀ e, e ∈ ws → Kn G e.1) ∧ ((∀ i, Kn G (dir i)) ∧ ∀ i, 30 ≤ i → dir i = tz) ∧ (∀ i, Kn G (reg i)) ∧ ∀ y, y ∈ seen → Kn G y
theorem IA_same {n : Nat} {DL : List (Int32 × Int32)} {dev : Nat → DV} {sto : Nat → ST} {ws : List (Tm × Int32)} {ls : List RL} (h : IA n DL dev sto ws ls) : IA (n + 1) DL dev sto ws ls := by
  obtain ⟨h1, h2, h3, h4⟩ := h
  exact ⟨fun q hq => ⟨DVI_mono (by omega) (h1 q hq).1, (h1 q hq).2⟩, by omega, by omega, by omega⟩
theorem IA_sto {n p : Nat} {DL DL' : List (Int32 × Int32)} {dev : Nat → DV} {sto : Nat → ST} {S : ST} {ws : List (Tm × Int32)} {ls : List RL} (h : IA n DL dev sto ws ls) (hS : S.2.1 = (sto p).2.1) (hd : DL'.length ≤ DL.length + 1) : IA (n + 1) DL' dev (fset sto p S) ws ls := by
  obtain ⟨h1, h2, h3, h4⟩ := h
  refine ⟨fun q hq => ⟨DVI_mono (by omega) (h1 q hq).1, ?_⟩, by omega, by omega, by omega⟩
  by_cases c : q = p
  · subst c; rw [fset_same, hS]; exact (h1 q hq).2
  · rw [fset_ne c]; exact (h1 q hq).2
theorem cm_P0 {p0 : Bool} {P W : EN2} {c : Option Nat} (h : (st_commit p0 P c W).1 = 0) : (st_commit p0 P c W).2.2.1 = P := by
  unfold st_commit at h ⊢
  split
  · rfl
  · rename_i h1
    rw [if_neg h1] at h
    split at h <;> cases h
theorem cm_P1 {p0 : Bool} {P W : EN2} {c : Option Nat} (h : (st_commit p0 P c W).1 ≠ 0) : (st_commit p0 P c W).2.2.1 = W := by
  unfold st_commit at h ⊢
  split
  · rename_i h1
    rw [if_pos h1] at h
    exact absurd rfl h
  · split <;> rfl
theorem IA_com {n s : Nat} {DL DL' : List (Int32 × Int32)} {dev : Nat → DV} {sto : Nat → ST} {D' : DV} {ws ws' : List (Tm × Int32)} {ls ls' : List RL} {p0 : Bool} {P O : EN2} {c : Option Nat} {dn : Bool} (h : IA n DL dev sto ws ls) (hs : s < 6) (hst : sto s = (p0, P, O, c, dn)) (hD : DVI s (n + 1) D') (hE : DL'.length ≤ DL.length + 21) (hw : ws'.length ≤ ws.length + 7) (hl : ls'.length ≤ ls.length + 1) : ((st_commit p0 P c (dv_en D')).1 = 0 → IA (n + 1) DL' dev (fset sto s (st_commit p0 P c (dv_en D')).2) ws' ls') ∧ ((st_commit p0 P c (dv_en D')).1 ≠ 0 → IA (n + 1) DL' (fset dev s D') (fset sto s (st_commit p0 P c (dv_en D')).2) ws' ls') := by
  obtain ⟨h1, h2, h3, h4⟩ := h
  refine ⟨fun hc => ⟨fun q hq => ?_, by omega, by omega, by omega⟩, fun hc => ⟨fun q hq => ?_, by omega, by omega, by omega⟩⟩
  · refine ⟨DVI_mono (by omega) (h1 q hq).1, ?_⟩
    by_cases z : q = s
    · subst z
      rw [fset_same, cm_P0 hc, ← (h1 q hq).2, hst]
    · rw [fset_ne z]; exact (h1 q hq).2
  · by_cases z : q = s
    · subst z
      rw [fset_same, fset_same, cm_P1 hc]
      exact ⟨hD, rfl⟩
    · rw [fset_ne z, fset_ne z]
      exact ⟨DVI_mono (by omega) (h1 q hq).1, (h1 q hq).2⟩
section IC
variable {n b b' : Nat} {DL : List (Int32 × Int32)} {ls : List RL} {lo : Nat → Int32} {Lc : List LT} {bd llc tc tlc tfc tgc : Nat → Int32} {cf cg : Int32} {ct : Tm} {co : Bool} {li foc dbc : Int32} {dt db rt fl ll tl tf tg tm : Nat → Int32} {ck fo du : Int32}
theorem IC_same {L : LG} {R : RR} (h : IC n DL L ls lo R) : IC (n + 1) DL L ls lo R := by
  obtain ⟨b, h1, h2, h3⟩ := h
  exact ⟨b, by omega, h2, h3⟩
theorem IC_tick (h : IC n DL (Lc, bd, llc, tc, tlc, tfc, tgc, cf, cg, ct, co, li, foc, dbc) ls lo (dt, db, rt, fl, ll, tl, tf, tg, tm, ck, fo, du)) {xf xg : Int32} {xt : Tm} {xo : Bool} : IC (n + 1) DL (Lc, bd, llc, tc, tlc, tfc, tgc, xf, xg, xt, xo, li, foc, dbc) ls lo (dt, db, rt, fl, ll, tl, tf, tg, tm, ck + 1, fo, du) := by
  obtain ⟨b, h1, h2, h3⟩ := h
  refine ⟨b + 1, by omega, ?_, LGX_mono (c := b + 1) (c' := b + 1) (by omega) (by omega) h3⟩
  have h2 : ck = nI b := h2
  show ck + 1 = nI (b + 1)
  rw [h2]
  exact nI_s1 b
/-- from a state in the midst of a call -/
theorem IC_mid (hb : b ≤ n) (hk : ck = nI b) (h : LGX b (b + 1) DL ls lo (Lc, bd, llc, tc, tlc, tfc, tgc, cf, cg, ct, co, li, foc, dbc) (dt, db, rt, fl, ll, tl, tf, tg, tm, ck + 1, fo, du)) : IC (n + 1) DL (Lc, bd, llc, tc, tlc, tfc, tgc, cf, cg, ct, co, li, foc, dbc) ls lo (dt, db, rt, fl, ll, tl, tf, tg, tm, ck + 1, fo, du) := by
  refine ⟨b + 1, by omega, ?_, LGX_mono (c := b + 1) (c' := b + 1) (by omega) (by omega) h⟩
  show ck + 1 = nI (b + 1)
  rw [hk]
  exact nI_s1 b
end IC
section IK
variable {dev dev' : Nat → DV} {ws ws' : List (Tm × Int32)} {dir dir' reg reg' : Nat → Tm} {seen seen' : List Tm} {G G' : Tm → Prop}
theorem IK_all (h : IK dev ws dir reg seen G) (hG : ∀ y, G y → G' y) (hd : ∀ q, q < 6 → (dev' q).1 = (dev q).1) (hw : ∀ e, e ∈ ws' → e ∈ ws ∨ Kn G' e.1) (hr : ∀ i, dir' i = dir i ∨ dir' i = tz ∨ (i < 30 ∧ Kn G' (dir' i))) : IK dev' ws' dir' reg seen G' := by
  obtain ⟨h1, h2, ⟨h3, h3b⟩, h4, h5⟩ := h
  refine ⟨fun q hq => by rw [hd q hq]; exact Kn_mono hG (h1 q hq), fun e he => ?_, ⟨fun i => ?_, fun i hi => ?_⟩, fun i => Kn_mono hG (h4 i), fun y hy => Kn_mono hG (h5 y hy)⟩
  · rcases hw e he with h | h
    · exact Kn_mono hG (h2 e h)
    · exact h
  · rcases hr i with h | h | h
    · rw [h]; exact Kn_mono hG (h3 i)
    · rw [h]; exact (Kn_clo _).1
    · exact h.2
  · rcases hr i with h | h | h
    · rw [h]; exact h3b i hi
    · exact h
    · omega
theorem IK_reg (h : IK dev ws dir reg seen G) (hr : ∀ i, Kn G (reg' i)) : IK dev ws dir reg' seen G := ⟨h.1, h.2.1, h.2.2.1, hr, h.2.2.2.2⟩
theorem IK_hl (h : IK dev ws dir reg seen G) (r : Int32) : Kn G (hl reg r) := by
  unfold hl
  split
  · exact h.2.2.2.1 _
  · exact (Kn_clo _).1
theorem IK_kp (h : IK dev ws dir reg seen G) (r : Int32) {X : Tm} (hX : Kn G X) : IK dev ws dir (kp reg r X).2 seen G := by
  refine IK_reg h (fun i => ?_)
  unfold kp
  split
  · by_cases c : i = r.toNatClampNeg
    · rw [c]; show Kn G (fset reg _ X _); rw [fset_same]; exact hX
    · show Kn G (fset reg _ X i); rw [fset_ne c]; exact h.2.2.2.1 i
  · exact h.2.2.2.1 i
end IK
