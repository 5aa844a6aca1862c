/-! Store -/
theorem AI_setn (B : bm_H) {a : Nat} (i : Nat) (v : Int32) (a2 : Nat) (h : a2 ≠ a) : bm_AI (bm_setI B a i v) a2 = bm_AI B a2 := funext fun j => if_neg (fun q => h q.1)
/-- present half, its entries, what lies in the other, the cut, down -/
abbrev EN2 : Type := List (Tm × Tm)
abbrev ST : Type := Bool × EN2 × EN2 × Option Nat × Bool
def sh : Bool → Nat
  | false => 0
  | true => 1
def hA (sa : Nat) : Bool → Nat
  | false => sa + 2
  | true => sa + 3
def ctI : Option Nat → Int32
  | none => -1
  | some k => nI k
def StS (B : bm_H) (sa : Nat) : Prop := (sa < bm_n B ∧ bm_K B sa = 8) ∧ bm_FR B 8 0 sa = some (sa + 1) ∧ bm_FR B 8 1 sa = some (sa + 4) ∧ bm_FR B 8 2 sa = some (sa + 5) ∧ (sa + 1 < bm_n B ∧ bm_K B (sa + 1) = 21 ∧ bm_AL B (sa + 1) = 2) ∧ (sa + 2 < bm_n B ∧ bm_K B (sa + 2) = 13 ∧ bm_AL B (sa + 2) = 1072) ∧ (sa + 3 < bm_n B ∧ bm_K B (sa + 3) = 13 ∧ bm_AL B (sa + 3) = 1072) ∧ (sa + 4 < bm_n B ∧ bm_K B (sa + 4) = 13 ∧ bm_AL B (sa + 4) = 2) ∧ (sa + 5 < bm_n B ∧ bm_K B (sa + 5) = 13 ∧ bm_AL B (sa + 5) = 2)
def StA (B : bm_H) (sa : Nat) : Prop := bm_AR B (sa + 1) 0 = some (sa + 2) ∧ bm_AR B (sa + 1) 1 = some (sa + 3)
def EN (g : Nat → Int32) (T : List Tm) (W : EN2) (f : Nat) : Prop := ∀ (i : Nat) (e : Tm × Tm), W[i]? = some e → tv T (g (2 * (f + i))) e.1 ∧ tv T (g (2 * (f + i) + 1)) e.2
def stx (sa y : Nat) : Prop := y = sa ∨ y = sa + 2 ∨ y = sa + 3 ∨ y = sa + 4 ∨ y = sa + 5
def RSt (B : bm_H) (T : List Tm) (sa : Nat) : ST → Prop
  | (p, P, O, c, dn) => (StS B sa ∧ StA B sa) ∧ (bm_FI B 8 4 sa = bz p ∧ bm_FI B 8 5 sa = ctI c ∧ bm_FI B 8 6 sa = bz dn ∧ ∀ k, c = some k → k ≤ 200) ∧ (bm_AI B (sa + 4) (sh p) = 0 ∧ bm_AI B (sa + 5) (sh p) = nI P.length ∧ P.length ≤ 536 ∧ EN (bm_AI B (hA sa p)) T P 0) ∧ ∃ f, bm_AI B (sa + 4) (sh !p) = nI f ∧ bm_AI B (sa + 5) (sh !p) = nI (f + O.length) ∧ f + O.length ≤ 536 ∧ EN (bm_AI B (hA sa !p)) T O f
def RSw (B : bm_H) (T : List Tm) (sa : Nat) (p : Bool) (P : EN2) (c : Option Nat) (dn : Bool) (W : EN2) : Prop := RSt B T sa (p, P, [], c, dn) ∧ bm_FI B 8 3 sa = nI W.length ∧ W.length ≤ 536 ∧ EN (bm_AI B (hA sa !p)) T W 0
theorem EN_mono {g : Nat → Int32} {T T' : List Tm} {W : EN2} {f : Nat} (h : T <+: T') (e : EN g T W f) : EN g T' W f := fun i x hx => ⟨tv_mono h (e i x hx).1, tv_mono h (e i x hx).2⟩
theorem EN_nil (g : Nat → Int32) (T : List Tm) (f : Nat) : EN g T [] f := fun i e he => by simp at he
theorem EN_push {g : Nat → Int32} {T : List Tm} {W : EN2} {x y : Int32} {A C : Tm} (h : EN g T W 0) (hx : tv T x A) (hy : tv T y C) : EN (upd (upd g (2 * W.length) x) (2 * W.length + 1) y) T (W ++ [(A, C)]) 0 := by
  intro i e he
  have hi := (List.getElem?_eq_some_iff.mp he).1
  simp at hi
  simp only [Nat.zero_add]
  by_cases c : i = W.length
  · subst c
    simp at he
    subst he
    exact ⟨by rw [pk_un (by omega)]; simp [upd]; exact hx, by simp [upd]; exact hy⟩
  · rw [List.getElem?_append_left (by omega)] at he
    have := h i e he
    simp only [Nat.zero_add] at this
    rw [pk_un (by omega), pk_un (by omega), pk_un (by omega), pk_un (by omega)]
    exact this
theorem hA_lo (sa : Nat) (p : Bool) : hA sa p = sa + 2 ∨ hA sa p = sa + 3 := by cases p <;> simp [hA]
theorem hA_ne (sa : Nat) (p : Bool) : hA sa p ≠ hA sa (!p) := by cases p <;> simp [hA]
theorem StS_fr {X : Nat → Prop} {B B' : bm_H} {sa : Nat} (h : StS B sa) (hf : fr X B B') : StS B' sa := by
  obtain ⟨⟨a1, a2⟩, a3, a4, a5, ⟨b1, b2, b3⟩, ⟨c1, c2, c3⟩, ⟨d1, d2, d3⟩, ⟨e1, e2, e3⟩, ⟨f1, f2, f3⟩⟩ := h
  exact ⟨⟨fr_lt hf a1, (fr_K hf a1).trans a2⟩, (fr_FS hf a1 8 0 rfl).trans a3, (fr_FS hf a1 8 1 rfl).trans a4, (fr_FS hf a1 8 2 rfl).trans a5, ⟨fr_lt hf b1, (fr_K hf b1).trans b2, (fr_AL hf b1).trans b3⟩, ⟨fr_lt hf c1, (fr_K hf c1).trans c2, (fr_AL hf c1).trans c3⟩, ⟨fr_lt hf d1, (fr_K hf d1).trans d2, (fr_AL hf d1).trans d3⟩, ⟨fr_lt hf e1, (fr_K hf e1).trans e2, (fr_AL hf e1).trans e3⟩, ⟨fr_lt hf f1, (fr_K hf f1).trans f2, (fr_AL hf f1).trans f3⟩⟩
theorem StA_fr {X : Nat → Prop} {B B' : bm_H} {sa : Nat} (h : StS B sa) (h2 : StA B sa) (hf : fr X B B') (n1 : ¬ X (sa + 1)) : StA B' sa := by
  have e := fr_AR hf h.2.2.2.2.1.1 n1
  exact ⟨by rw [e]; exact h2.1, by rw [e]; exact h2.2⟩
theorem StS_half {B : bm_H} {sa : Nat} (h : StS B sa) (p : Bool) : hA sa p < bm_n B := by cases p; exact h.2.2.2.2.2.1.1; exact h.2.2.2.2.2.2.1.1
theorem RSt_fr {X : Nat → Prop} {B B' : bm_H} {T T' : List Tm} {sa : Nat} {S : ST} (h : RSt B T sa S) (hf : fr X B B') (n0 : ∀ y, sa ≤ y → y < sa + 6 → ¬ X y) (hT : T <+: T') : RSt B' T' sa S := by
  obtain ⟨p, P, O, c, dn⟩ := S
  obtain ⟨⟨h1, h1'⟩, ⟨f4, f5, f6, hk⟩, ⟨p1, p2, p3, p4⟩, f, o1, o2, o3, o4⟩ := h
  have e := fun k => fr_FI hf h1.1.1 (n0 sa (by omega) (by omega)) 8 k
  have e4 := fr_AI hf h1.2.2.2.2.2.2.2.1.1 (n0 (sa + 4) (by omega) (by omega))
  have e5 := fr_AI hf h1.2.2.2.2.2.2.2.2.1 (n0 (sa + 5) (by omega) (by omega))
  have eh := fun q => fr_AI hf (StS_half h1 q) (n0 (hA sa q) (by have := hA_lo sa q; omega) (by have := hA_lo sa q; omega))
  exact ⟨⟨StS_fr h1 hf, StA_fr h1 h1' hf (n0 (sa + 1) (by omega) (by omega))⟩, ⟨(e 4).trans f4, (e 5).trans f5, (e 6).trans f6, hk⟩, ⟨by rw [e4]; exact p1, by rw [e5]; exact p2, p3, by rw [eh]; exact EN_mono hT p4⟩, f, by rw [e4]; exact o1, by rw [e5]; exact o2, o3, by rw [eh]; exact EN_mono hT o4⟩
theorem RSw_fr {X : Nat → Prop} {B B' : bm_H} {T T' : List Tm} {sa : Nat} {p : Bool} {P : EN2} {c : Option Nat} {dn : Bool} {W : EN2} (h : RSw B T sa p P c dn W) (hf : fr X B B') (n0 : ∀ y, sa ≤ y → y < sa + 6 → ¬ X y) (hT : T <+: T') : RSw B' T' sa p P c dn W := by
  have h1 := h.1.1.1
  exact ⟨RSt_fr h.1 hf n0 hT, (fr_FI hf h1.1.1 (n0 sa (by omega) (by omega)) 8 3).trans h.2.1, h.2.2.1, by rw [fr_AI hf (StS_half h1 (!p)) (n0 (hA sa !p) (by have := hA_lo sa !p; omega) (by have := hA_lo sa !p; omega))]; exact EN_mono hT h.2.2.2⟩
/-- an entry more -/
theorem RSw_put {B B' : bm_H} {T : List Tm} {sa : Nat} {p : Bool} {P : EN2} {c : Option Nat} {dn : Bool} {W : EN2} {x y : Int32} {A C : Tm} (h : RSw B T sa p P c dn W) (hW : W.length < 536) (hx : tv T x A) (hy : tv T y C) (hf : fr (fun z => z = sa ∨ z = hA sa !p) B B') (e3 : bm_FI B' 8 3 sa = nI (W.length + 1)) (e4 : bm_FI B' 8 4 sa = bm_FI B 8 4 sa) (e5 : bm_FI B' 8 5 sa = bm_FI B 8 5 sa) (e6 : bm_FI B' 8 6 sa = bm_FI B 8 6 sa) (eA : bm_AI B' (hA sa !p) = upd (upd (bm_AI B (hA sa !p)) (2 * W.length) x) (2 * W.length + 1) y) : RSw B' T sa p P c dn (W ++ [(A, C)]) := by
  obtain ⟨⟨⟨h1, h1'⟩, ⟨f4, f5, f6, hk⟩, ⟨p1, p2, p3, p4⟩, f, o1, o2, o3, o4⟩, w1, w2, w3⟩ := h
  have k0 := hA_lo sa p
  have k1 := hA_lo sa !p
  have kn := hA_ne sa p
  have a4 := fr_AI hf h1.2.2.2.2.2.2.2.1.1 (by omega)
  have a5 := fr_AI hf h1.2.2.2.2.2.2.2.2.1 (by omega)
  have ah := fr_AI hf (StS_half h1 p) (by omega)
  exact ⟨⟨⟨StS_fr h1 hf, StA_fr h1 h1' hf (by omega)⟩, ⟨e4.trans f4, e5.trans f5, e6.trans f6, hk⟩, ⟨by rw [a4]; exact p1, by rw [a5]; exact p2, p3, by rw [ah]; exact p4⟩, f, by rw [a4]; exact o1, by rw [a5]; exact o2, o3, EN_nil _ _ _⟩, by rw [e3]; simp, by simp; omega, by rw [eA]; exact EN_push w3 hx hy⟩
theorem t_put {sc : tm_X} {d : Nat} {sa : Nat} {B : bm_H} {T : List Tm} {p : Bool} {P : EN2} {c : Option Nat} {dn : Bool} {W : EN2} {x y : Int32} {A C : Tm} {Q : bm_H → Prop} (hR : RSw B T sa p P c dn W) (hW : W.length < 536) (hx : tv T x A) (hy : tv T y C) (kk : ∀ B', RSw B' T sa p P c dn (W ++ [(A, C)]) → fz (stx sa) B B' → Q B') : bm_Gv sc d 48 [.ref sa, .int x, .int y] B Q := by
  have hS := hR.1.1.1
  have hAA := hR.1.1.2
  cases p
  · show bm_G sc d 48 0 [(0, .ref sa), (1, .int x), (2, .int y)] [] B _
    generalize elv : ([(0, .ref sa), (1, .int x), (2, .int y)] : tm_L) = lv
    have l0 : lv.lookup 0 = some (.ref sa) := by rw [← elv]; rfl
    have l1 : lv.lookup 1 = some (.int x) := by rw [← elv]; rfl
    have l2 : lv.lookup 2 = some (.int y) := by rw [← elv]; rfl
    clear elv
    refine g_ald (pc' := 1) cd_St_put rfl (Or.inr ⟨_, rfl, rfl, rfl⟩) l0 rfl rfl ?_
    refine g_fI (c := 8) (k := 3) (x := nI W.length) (pc' := 4) cd_St_put rfl rfl rfl rfl rfl (by decide) hS.1.1 hS.1.2 hR.2.1 ?_
    refine g_k3 (v := 536) (pc' := 7) cd_St_put rfl (by decide) rfl ?_
    refine g_if2 (t := 60) (pc' := 10) cd_St_put rfl rfl rfl (fun c7 => ?_) (fun c7 => ?_)
    · have c7 : (536 : Int32) ≤ (nI W.length) := c7
      exact absurd c7 (nI_ge hW (by decide))
    · have c7 : ¬ (536 : Int32) ≤ (nI W.length) := c7
      refine g_ald (pc' := 11) cd_St_put rfl (Or.inr ⟨_, rfl, rfl, rfl⟩) l0 rfl rfl ?_
      refine g_fR (c := 8) (k := 0) (x := (sa + 1)) (pc' := 14) cd_St_put rfl rfl rfl rfl rfl (by decide) hS.1.1 hS.1.2 hS.2.1 ?_
      refine g_k1 (v := 1) (pc' := 15) cd_St_put rfl (by decide) rfl ?_
      refine g_ald (pc' := 16) cd_St_put rfl (Or.inr ⟨_, rfl, rfl, rfl⟩) l0 rfl rfl ?_
      refine g_fI (c := 8) (k := 4) (x := 0) (pc' := 19) cd_St_put rfl rfl rfl rfl rfl (by decide) hS.1.1 hS.1.2 hR.1.2.1.1 ?_
      refine g_pure (pc' := 20) (st' := [.int (1 - 0), .ref ((sa + 1))]) cd_St_put rfl rfl (fun _ _ => rfl) ?_
      rw [show (1 - 0 : Int32) = 1 from by decide]
      refine g_aR (t := 8) (x := (sa + 3)) (pc' := 21) cd_St_put rfl rfl hS.2.2.2.2.1.1 hS.2.2.2.2.1.2.1 (by decide) rfl rfl (by rw [show bm_AL B (sa + 1) = 2 from hS.2.2.2.2.1.2.2]; exact vp_in_nI (n := 1) (by decide) (by decide)) (show bm_AR B (sa + 1) 1 = some (sa + 3) from hAA.2) ?_
      refine g_k1 (v := 2) (pc' := 22) cd_St_put rfl (by decide) rfl ?_
      refine g_ald (pc' := 23) cd_St_put rfl (Or.inr ⟨_, rfl, rfl, rfl⟩) l0 rfl rfl ?_
      refine g_fI (c := 8) (k := 3) (x := nI W.length) (pc' := 26) cd_St_put rfl rfl rfl rfl rfl (by decide) hS.1.1 hS.1.2 hR.2.1 ?_
      refine g_pure (pc' := 27) (st' := [.int (2 * (nI W.length)), .ref ((sa + 3))]) cd_St_put rfl rfl (fun _ _ => rfl) ?_
      rw [show (2 * (nI W.length) : Int32) = nI (2 * W.length) from pk_mul 2 W.length]
      refine g_ild (pc' := 28) cd_St_put rfl (Or.inr ⟨_, rfl, rfl, rfl⟩) l1 rfl ?_
      refine g_iast (pc' := 29) cd_St_put rfl rfl hS.2.2.2.2.2.2.1.1 hS.2.2.2.2.2.2.1.2.1 (by rw [show bm_AL B (sa + 3) = 1072 from hS.2.2.2.2.2.2.1.2.2]; exact vp_in_nI (by omega) (by decide)) ?_
      rw [show (nI (2 * W.length) : Int32).toNatClampNeg = (2 * W.length) from nI_clamp (by omega)]
      have A1 : bm_AI (bm_setI B (sa + 3) (2 * W.length) x) (sa + 3) = (upd (bm_AI B (sa + 3)) (2 * W.length) x) := ((AI_set B (sa + 3) (2 * W.length) x).trans (congrArg (fun f => upd f (2 * W.length) x) (show bm_AI B (sa + 3) = (bm_AI B (sa + 3)) from rfl)))
      have Z2 : fz (fun z => z = sa ∨ z = (sa + 3)) B (bm_setI B (sa + 3) (2 * W.length) x) := fz_trans (fz_rfl _ B) ⟨fr_mono (fun _ q => Or.inr q) (fr_setI _ (sa + 3) _ _), rfl, rfl⟩
      refine g_ald (pc' := 30) cd_St_put rfl (Or.inr ⟨_, rfl, rfl, rfl⟩) l0 rfl rfl ?_
      refine g_fR (c := 8) (k := 0) (x := (sa + 1)) (pc' := 33) cd_St_put rfl rfl rfl rfl rfl (by decide) hS.1.1 hS.1.2 hS.2.1 ?_
      refine g_k1 (v := 1) (pc' := 34) cd_St_put rfl (by decide) rfl ?_
      refine g_ald (pc' := 35) cd_St_put rfl (Or.inr ⟨_, rfl, rfl, rfl⟩) l0 rfl rfl ?_
      refine g_fI (c := 8) (k := 4) (x := 0) (pc' := 38) cd_St_put rfl rfl rfl rfl rfl (by decide) hS.1.1 hS.1.2 hR.1.2.1.1 ?_
      refine g_pure (pc' := 39) (st' := [.int (1 - 0), .ref ((sa + 1))]) cd_St_put rfl rfl (fun _ _ => rfl) ?_
      rw [show (1 - 0 : Int32) = 1 from by decide]
      refine g_aR (t := 8) (x := (sa + 3)) (pc' := 40) cd_St_put rfl rfl hS.2.2.2.2.1.1 hS.2.2.2.2.1.2.1 (by decide) rfl rfl (by rw [show bm_AL (bm_setI B (sa + 3) (2 * W.length) x) (sa + 1) = 2 from hS.2.2.2.2.1.2.2]; exact vp_in_nI (n := 1) (by decide) (by decide)) (show bm_AR (bm_setI B (sa + 3) (2 * W.length) x) (sa + 1) 1 = some (sa + 3) from hAA.2) ?_
      refine g_k1 (v := 2) (pc' := 41) cd_St_put rfl (by decide) rfl ?_
      refine g_ald (pc' := 42) cd_St_put rfl (Or.inr ⟨_, rfl, rfl, rfl⟩) l0 rfl rfl ?_
      refine g_fI (c := 8) (k := 3) (x := nI W.length) (pc' := 45) cd_St_put rfl rfl rfl rfl rfl (by decide) hS.1.1 hS.1.2 hR.2.1 ?_
      refine g_pure (pc' := 46) (st' := [.int (2 * (nI W.length)), .ref ((sa + 3))]) cd_St_put rfl rfl (fun _ _ => rfl) ?_
      rw [show (2 * (nI W.length) : Int32) = nI (2 * W.length) from pk_mul 2 W.length]
      refine g_k1 (v := 1) (pc' := 47) cd_St_put rfl (by decide) rfl ?_
      refine g_pure (pc' := 48) (st' := [.int ((nI (2 * W.length)) + 1), .ref ((sa + 3))]) cd_St_put rfl rfl (fun _ _ => rfl) ?_
      rw [show ((nI (2 * W.length)) + 1 : Int32) = nI ((2 * W.length) + 1) from nI_add (2 * W.length) 1]
      refine g_ild (pc' := 49) cd_St_put rfl (Or.inr ⟨_, rfl, rfl, rfl⟩) l2 rfl ?_
      refine g_iast (pc' := 50) cd_St_put rfl rfl hS.2.2.2.2.2.2.1.1 hS.2.2.2.2.2.2.1.2.1 (by rw [show bm_AL (bm_setI B (sa + 3) (2 * W.length) x) (sa + 3) = 1072 from hS.2.2.2.2.2.2.1.2.2]; exact vp_in_nI (by omega) (by decide)) ?_
      rw [show (nI ((2 * W.length) + 1) : Int32).toNatClampNeg = ((2 * W.length) + 1) from nI_clamp (by omega)]
      have A3 : bm_AI (bm_setI (bm_setI B (sa + 3) (2 * W.length) x) (sa + 3) ((2 * W.length) + 1) y) (sa + 3) = (upd (upd (bm_AI B (sa + 3)) (2 * W.length) x) ((2 * W.length) + 1) y) := ((AI_set (bm_setI B (sa + 3) (2 * W.length) x) (sa + 3) ((2 * W.length) + 1) y).trans (congrArg (fun f => upd f ((2 * W.length) + 1) y) (show bm_AI (bm_setI B (sa + 3) (2 * W.length) x) (sa + 3) = (upd (bm_AI B (sa + 3)) (2 * W.length) x) from A1)))
      have Z4 : fz (fun z => z = sa ∨ z = (sa + 3)) B (bm_setI (bm_setI B (sa + 3) (2 * W.length) x) (sa + 3) ((2 * W.length) + 1) y) := fz_trans Z2 ⟨fr_mono (fun _ q => Or.inr q) (fr_setI _ (sa + 3) _ _), rfl, rfl⟩
      refine g_ald (pc' := 51) cd_St_put rfl (Or.inr ⟨_, rfl, rfl, rfl⟩) l0 rfl rfl ?_
      refine g_pure (pc' := 52) (st' := [.ref sa, .ref sa]) cd_St_put rfl rfl (fun _ _ => rfl) ?_
      refine g_fI (c := 8) (k := 3) (x := nI W.length) (pc' := 55) cd_St_put rfl rfl rfl rfl rfl (by decide) hS.1.1 hS.1.2 hR.2.1 ?_
      refine g_k1 (v := 1) (pc' := 56) cd_St_put rfl (by decide) rfl ?_
      refine g_pure (pc' := 57) (st' := [.int ((nI W.length) + 1), .ref sa]) cd_St_put rfl rfl (fun _ _ => rfl) ?_
      rw [show ((nI W.length) + 1 : Int32) = nI (W.length + 1) from nI_add W.length 1]
      refine g_putI (c := 8) (k := 3) (pc' := 60) cd_St_put rfl rfl rfl rfl (by simp [tm_okV, narrow, fits]) (Or.inl rfl) rfl (by decide) hS.1.1 hS.1.2 ?_
      have P5 : bm_FI (bm_putI (bm_setI (bm_setI B (sa + 3) (2 * W.length) x) (sa + 3) ((2 * W.length) + 1) y) 8 3 sa (nI (W.length + 1))) 8 3 sa = nI (W.length + 1) := if_pos ⟨rfl, rfl, rfl⟩
      have Z6 : fz (fun z => z = sa ∨ z = (sa + 3)) B (bm_putI (bm_setI (bm_setI B (sa + 3) (2 * W.length) x) (sa + 3) ((2 * W.length) + 1) y) 8 3 sa (nI (W.length + 1))) := fz_trans Z4 ⟨fr_mono (fun _ q => Or.inl q) (fr_putI _ 8 3 sa _), rfl, rfl⟩
      exact g_retv cd_St_put rfl ⟨rfl, (kk _ (RSw_put hR hW hx hy Z6.1 P5 rfl rfl rfl A3) (fz_mono (fun _ q => q.elim Or.inl (fun q => Or.inr (Or.inr (Or.inl q)))) Z6))⟩
  · show bm_G sc d 48 0 [(0, .ref sa), (1, .int x), (2, .int y)] [] B _
    generalize elv : ([(0, .ref sa), (1, .int x), (2, .int y)] : tm_L) = lv
    have l0 : lv.lookup 0 = some (.ref sa) := by rw [← elv]; rfl
    have l1 : lv.lookup 1 = some (.int x) := by rw [← elv]; rfl
    have l2 : lv.lookup 2 = some (.int y) := by rw [← elv]; rfl
    clear elv
    refine g_ald (pc' := 1) cd_St_put rfl (Or.inr ⟨_, rfl, rfl, rfl⟩) l0 rfl rfl ?_
    refine g_fI (c := 8) (k := 3) (x := nI W.length) (pc' := 4) cd_St_put rfl rfl rfl rfl rfl (by decide) hS.1.1 hS.1.2 hR.2.1 ?_
    refine g_k3 (v := 536) (pc' := 7) cd_St_put rfl (by decide) rfl ?_
    refine g_if2 (t := 60) (pc' := 10) cd_St_put rfl rfl rfl (fun c7 => ?_) (fun c7 => ?_)
    · have c7 : (536 : Int32) ≤ (nI W.length) := c7
      exact absurd c7 (nI_ge hW (by decide))
    · have c7 : ¬ (536 : Int32) ≤ (nI W.length) := c7
      refine g_ald (pc' := 11) cd_St_put rfl (Or.inr ⟨_, rfl, rfl, rfl⟩) l0 rfl rfl ?_
      refine g_fR (c := 8) (k := 0) (x := (sa + 1)) (pc' := 14) cd_St_put rfl rfl rfl rfl rfl (by decide) hS.1.1 hS.1.2 hS.2.1 ?_
      refine g_k1 (v := 1) (pc' := 15) cd_St_put rfl (by decide) rfl ?_
      refine g_ald (pc' := 16) cd_St_put rfl (Or.inr ⟨_, rfl, rfl, rfl⟩) l0 rfl rfl ?_
      refine g_fI (c := 8) (k := 4) (x := 1) (pc' := 19) cd_St_put rfl rfl rfl rfl rfl (by decide) hS.1.1 hS.1.2 hR.1.2.1.1 ?_
      refine g_pure (pc' := 20) (st' := [.int (1 - 1), .ref ((sa + 1))]) cd_St_put rfl rfl (fun _ _ => rfl) ?_
      rw [show (1 - 1 : Int32) = 0 from by decide]
      refine g_aR (t := 8) (x := (sa + 2)) (pc' := 21) cd_St_put rfl rfl hS.2.2.2.2.1.1 hS.2.2.2.2.1.2.1 (by decide) rfl rfl (by rw [show bm_AL B (sa + 1) = 2 from hS.2.2.2.2.1.2.2]; exact vp_in_nI (n := 0) (by decide) (by decide)) (show bm_AR B (sa + 1) 0 = some (sa + 2) from hAA.1) ?_
      refine g_k1 (v := 2) (pc' := 22) cd_St_put rfl (by decide) rfl ?_
      refine g_ald (pc' := 23) cd_St_put rfl (Or.inr ⟨_, rfl, rfl, rfl⟩) l0 rfl rfl ?_
      refine g_fI (c := 8) (k := 3) (x := nI W.length) (pc' := 26) cd_St_put rfl rfl rfl rfl rfl (by decide) hS.1.1 hS.1.2 hR.2.1 ?_
      refine g_pure (pc' := 27) (st' := [.int (2 * (nI W.length)), .ref ((sa + 2))]) cd_St_put rfl rfl (fun _ _ => rfl) ?_
      rw [show (2 * (nI W.length) : Int32) = nI (2 * W.length) from pk_mul 2 W.length]
      refine g_ild (pc' := 28) cd_St_put rfl (Or.inr ⟨_, rfl, rfl, rfl⟩) l1 rfl ?_
      refine g_iast (pc' := 29) cd_St_put rfl rfl hS.2.2.2.2.2.1.1 hS.2.2.2.2.2.1.2.1 (by rw [show bm_AL B (sa + 2) = 1072 from hS.2.2.2.2.2.1.2.2]; exact vp_in_nI (by omega) (by decide)) ?_
      rw [show (nI (2 * W.length) : Int32).toNatClampNeg = (2 * W.length) from nI_clamp (by omega)]
      have A7 : bm_AI (bm_setI B (sa + 2) (2 * W.length) x) (sa + 2) = (upd (bm_AI B (sa + 2)) (2 * W.length) x) := ((AI_set B (sa + 2) (2 * W.length) x).trans (congrArg (fun f => upd f (2 * W.length) x) (show bm_AI B (sa + 2) = (bm_AI B (sa + 2)) from rfl)))
      have Z8 : fz (fun z => z = sa ∨ z = (sa + 2)) B (bm_setI B (sa + 2) (2 * W.length) x) := fz_trans (fz_rfl _ B) ⟨fr_mono (fun _ q => Or.inr q) (fr_setI _ (sa + 2) _ _), rfl, rfl⟩
      refine g_ald (pc' := 30) cd_St_put rfl (Or.inr ⟨_, rfl, rfl, rfl⟩) l0 rfl rfl ?_
      refine g_fR (c := 8) (k := 0) (x := (sa + 1)) (pc' := 33) cd_St_put rfl rfl rfl rfl rfl (by decide) hS.1.1 hS.1.2 hS.2.1 ?_
      refine g_k1 (v := 1) (pc' := 34) cd_St_put rfl (by decide) rfl ?_
      refine g_ald (pc' := 35) cd_St_put rfl (Or.inr ⟨_, rfl, rfl, rfl⟩) l0 rfl rfl ?_
      refine g_fI (c := 8) (k := 4) (x := 1) (pc' := 38) cd_St_put rfl rfl rfl rfl rfl (by decide) hS.1.1 hS.1.2 hR.1.2.1.1 ?_
      refine g_pure (pc' := 39) (st' := [.int (1 - 1), .ref ((sa + 1))]) cd_St_put rfl rfl (fun _ _ => rfl) ?_
      rw [show (1 - 1 : Int32) = 0 from by decide]
      refine g_aR (t := 8) (x := (sa + 2)) (pc' := 40) cd_St_put rfl rfl hS.2.2.2.2.1.1 hS.2.2.2.2.1.2.1 (by decide) rfl rfl (by rw [show bm_AL (bm_setI B (sa + 2) (2 * W.length) x) (sa + 1) = 2 from hS.2.2.2.2.1.2.2]; exact vp_in_nI (n := 0) (by decide) (by decide)) (show bm_AR (bm_setI B (sa + 2) (2 * W.length) x) (sa + 1) 0 = some (sa + 2) from hAA.1) ?_
      refine g_k1 (v := 2) (pc' := 41) cd_St_put rfl (by decide) rfl ?_
      refine g_ald (pc' := 42) cd_St_put rfl (Or.inr ⟨_, rfl, rfl, rfl⟩) l0 rfl rfl ?_
      refine g_fI (c := 8) (k := 3) (x := nI W.length) (pc' := 45) cd_St_put rfl rfl rfl rfl rfl (by decide) hS.1.1 hS.1.2 hR.2.1 ?_
      refine g_pure (pc' := 46) (st' := [.int (2 * (nI W.length)), .ref ((sa + 2))]) cd_St_put rfl rfl (fun _ _ => rfl) ?_
      rw [show (2 * (nI W.length) : Int32) = nI (2 * W.length) from pk_mul 2 W.length]
      refine g_k1 (v := 1) (pc' := 47) cd_St_put rfl (by decide) rfl ?_
      refine g_pure (pc' := 48) (st' := [.int ((nI (2 * W.length)) + 1), .ref ((sa + 2))]) cd_St_put rfl rfl (fun _ _ => rfl) ?_
      rw [show ((nI (2 * W.length)) + 1 : Int32) = nI ((2 * W.length) + 1) from nI_add (2 * W.length) 1]
      refine g_ild (pc' := 49) cd_St_put rfl (Or.inr ⟨_, rfl, rfl, rfl⟩) l2 rfl ?_
      refine g_iast (pc' := 50) cd_St_put rfl rfl hS.2.2.2.2.2.1.1 hS.2.2.2.2.2.1.2.1 (by rw [show bm_AL (bm_setI B (sa + 2) (2 * W.length) x) (sa + 2) = 1072 from hS.2.2.2.2.2.1.2.2]; exact vp_in_nI (by omega) (by decide)) ?_
      rw [show (nI ((2 * W.length) + 1) : Int32).toNatClampNeg = ((2 * W.length) + 1) from nI_clamp (by omega)]
      have A9 : bm_AI (bm_setI (bm_setI B (sa + 2) (2 * W.length) x) (sa + 2) ((2 * W.length) + 1) y) (sa + 2) = (upd (upd (bm_AI B (sa + 2)) (2 * W.length) x) ((2 * W.length) + 1) y) := ((AI_set (bm_setI B (sa + 2) (2 * W.length) x) (sa + 2) ((2 * W.length) + 1) y).trans (congrArg (fun f => upd f ((2 * W.length) + 1) y) (show bm_AI (bm_setI B (sa + 2) (2 * W.length) x) (sa + 2) = (upd (bm_AI B (sa + 2)) (2 * W.length) x) from A7)))
      have Z10 : fz (fun z => z = sa ∨ z = (sa + 2)) B (bm_setI (bm_setI B (sa + 2) (2 * W.length) x) (sa + 2) ((2 * W.length) + 1) y) := fz_trans Z8 ⟨fr_mono (fun _ q => Or.inr q) (fr_setI _ (sa + 2) _ _), rfl, rfl⟩
      refine g_ald (pc' := 51) cd_St_put rfl (Or.inr ⟨_, rfl, rfl, rfl⟩) l0 rfl rfl ?_
      refine g_pure (pc' := 52) (st' := [.ref sa, .ref sa]) cd_St_put rfl rfl (fun _ _ => rfl) ?_
      refine g_fI (c := 8) (k := 3) (x := nI W.length) (pc' := 55) cd_St_put rfl rfl rfl rfl rfl (by decide) hS.1.1 hS.1.2 hR.2.1 ?_
      refine g_k1 (v := 1) (pc' := 56) cd_St_put rfl (by decide) rfl ?_
      refine g_pure (pc' := 57) (st' := [.int ((nI W.length) + 1), .ref sa]) cd_St_put rfl rfl (fun _ _ => rfl) ?_
      rw [show ((nI W.length) + 1 : Int32) = nI (W.length + 1) from nI_add W.length 1]
      refine g_putI (c := 8) (k := 3) (pc' := 60) cd_St_put rfl rfl rfl rfl (by simp [tm_okV, narrow, fits]) (Or.inl rfl) rfl (by decide) hS.1.1 hS.1.2 ?_
      have P11 : bm_FI (bm_putI (bm_setI (bm_setI B (sa + 2) (2 * W.length) x) (sa + 2) ((2 * W.length) + 1) y) 8 3 sa (nI (W.length + 1))) 8 3 sa = nI (W.length + 1) := if_pos ⟨rfl, rfl, rfl⟩
      have Z12 : fz (fun z => z = sa ∨ z = (sa + 2)) B (bm_putI (bm_setI (bm_setI B (sa + 2) (2 * W.length) x) (sa + 2) ((2 * W.length) + 1) y) 8 3 sa (nI (W.length + 1))) := fz_trans Z10 ⟨fr_mono (fun _ q => Or.inl q) (fr_putI _ 8 3 sa _), rfl, rfl⟩
      exact g_retv cd_St_put rfl ⟨rfl, (kk _ (RSw_put hR hW hx hy Z12.1 P11 rfl rfl rfl A9) (fz_mono (fun _ q => q.elim Or.inl (fun q => Or.inr (Or.inl q))) Z12))⟩
def en_any (A : Tm) : EN2 := if tnil A = true then [] else [(A, tz)]
theorem en_any_le (A : Tm) : (en_any A).length ≤ 1 := by unfold en_any; split <;> simp
theorem en_any_t {A : Tm} (h : A = tz) : en_any A = [] := if_pos (tnil_iff.mpr h)
theorem en_any_f {A : Tm} (h : A ≠ tz) : en_any A = [(A, tz)] := if_neg (fun q => h (tnil_iff.mp q))
def T0 (T : List Tm) : Prop := tv T 0 tz ∧ ∀ (x : Int32) (A : Tm), tv T x A → (x = 0 ↔ A = tz)
theorem TI_T0 {B : bm_H} {a ca ba da rm dr : Nat} {T : List Tm} (h : TI B a ca ba da rm dr T) : T0 T := ⟨TI_z h, fun _ _ q => TI_0 h q⟩
theorem t_putIfAny {sc : tm_X} {d : Nat} {sa : Nat} {B : bm_H} {T : List Tm} {p : Bool} {P : EN2} {c : Option Nat} {dn : Bool} {W : EN2} {x : Int32} {A : Tm} {Q : bm_H → Prop} (h0 : T0 T) (hR : RSw B T sa p P c dn W) (hW : W.length + (en_any A).length ≤ 536) (hx : tv T x A) (kk : ∀ B', RSw B' T sa p P c dn (W ++ en_any A) → fz (stx sa) B B' → Q B') : bm_Gv sc (d + 1) 51 [.ref sa, .int x] B Q := by
  show bm_G sc (d + 1) 51 0 [(0, .ref sa), (1, .int x)] [] B _
  generalize elv : ([(0, .ref sa), (1, .int x)] : tm_L) = lv
  have l0 : lv.lookup 0 = some (.ref sa) := by rw [← elv]; rfl
  have l1 : lv.lookup 1 = some (.int x) := by rw [← elv]; rfl
  clear elv
  refine g_ild (pc' := 1) cd_St_putIfAny rfl (Or.inr ⟨_, rfl, rfl, rfl⟩) l1 rfl ?_
  refine g_if1 (t := 10) (pc' := 4) cd_St_putIfAny rfl rfl rfl (fun c1 => ?_) (fun c1 => ?_)
  · have c1 : x = 0 := c1
    exact g_retv cd_St_putIfAny rfl ⟨rfl, (kk _ (by rw [en_any_t ((h0.2 _ _ hx).mp c1), List.append_nil]; exact hR) (fz_rfl _ B))⟩
  · have c1 : ¬ x = 0 := c1
    refine g_ald (pc' := 5) cd_St_putIfAny rfl (Or.inr ⟨_, rfl, rfl, rfl⟩) l0 rfl rfl ?_
    refine g_ild (pc' := 6) cd_St_putIfAny rfl (Or.inr ⟨_, rfl, rfl, rfl⟩) l1 rfl ?_
    refine g_k1 (v := 0) (pc' := 7) cd_St_putIfAny rfl (by decide) rfl ?_
    have hE := en_any_f (fun q => c1 ((h0.2 _ _ hx).mpr q))
    refine g_callv (pc' := 10) cd_St_putIfAny rfl rfl rfl rfl rfl (tm_invV rfl rfl cd_St_put rfl (Nat.le_of_ble_eq_true rfl) (by decide) hR.1.1.1.1.1 hR.1.1.1.1.2) (t_put hR (by rw [hE] at hW; simp at hW; omega) hx h0.1 (fun B1 hR1 hz1 => ?_))
    show bm_G _ _ _ 10 _ [] B1 _
    exact g_retv cd_St_putIfAny rfl ⟨rfl, (kk _ (hE ▸ hR1) hz1)⟩
theorem t_startEntries {sc : tm_X} {d : Nat} {sa : Nat} {B : bm_H} {T : List Tm} {p : Bool} {P : EN2} {c : Option Nat} {dn : Bool} {Q : bm_H → Prop} (hR : RSt B T sa (p, P, [], c, dn)) (kk : ∀ B', RSw B' T sa p P c dn [] → fz (stx sa) B B' → Q B') : bm_Gv sc d 47 [.ref sa] B Q := by
  have hS := hR.1.1
  show bm_G sc d 47 0 [(0, .ref sa)] [] B _
  generalize elv : ([(0, .ref sa)] : tm_L) = lv
  have l0 : lv.lookup 0 = some (.ref sa) := by rw [← elv]; rfl
  clear elv
  refine g_ald (pc' := 1) cd_St_startEntries rfl (Or.inr ⟨_, rfl, rfl, rfl⟩) l0 rfl rfl ?_
  refine g_k1 (v := 0) (pc' := 2) cd_St_startEntries rfl (by decide) rfl ?_
  refine g_putI (c := 8) (k := 3) (pc' := 5) cd_St_startEntries rfl rfl rfl rfl (by simp [tm_okV, narrow, fits]) (Or.inl rfl) rfl (by decide) hS.1.1 hS.1.2 ?_
  have P13 : bm_FI (bm_putI B 8 3 sa 0) 8 3 sa = 0 := if_pos ⟨rfl, rfl, rfl⟩
  exact g_retv cd_St_startEntries rfl ⟨rfl, (kk _ ⟨hR, P13, Nat.zero_le _, EN_nil _ _ _⟩ ⟨fr_mono (fun _ q => Or.inl q) (fr_putI B 8 3 sa 0), rfl, rfl⟩)⟩
theorem t_comeUp {sc : tm_X} {d : Nat} {sa : Nat} {B : bm_H} {T : List Tm} {p : Bool} {P O : EN2} {c : Option Nat} {dn : Bool} {Q : Int32 → bm_H → Prop} (hR : RSt B T sa (p, P, O, c, dn)) (kk : ∀ B', RSt B' T sa (p, P, [], c, false) → fz (stx sa) B B' → Q (bz dn) B') : bm_Gi sc d 135 [.ref sa] B Q := by
  have hS := hR.1.1
  have hAA := hR.1.2
  cases p
  · show bm_G sc d 135 0 [(0, .ref sa)] [] B _
    generalize elv : ([(0, .ref sa)] : tm_L) = lv
    have l0 : lv.lookup 0 = some (.ref sa) := by rw [← elv]; rfl
    clear elv
    refine g_ald (pc' := 1) cd_St_comeUp rfl (Or.inr ⟨_, rfl, rfl, rfl⟩) l0 rfl rfl ?_
    refine g_fI (c := 8) (k := 6) (x := bz dn) (pc' := 4) cd_St_comeUp rfl rfl rfl rfl rfl (by decide) hS.1.1 hS.1.2 hR.2.1.2.2.1 ?_
    refine g_ist (pc' := 5) cd_St_comeUp rfl (Or.inr ⟨_, rfl, rfl, rfl⟩) (by decide) rfl (fun lv el => ?_)
    have l0 := tm_lk el l0 rfl (by decide)
    have l1 : lv.lookup 1 = some (.int (bz dn)) := tm_lks el
    clear el
    refine g_ald (pc' := 6) cd_St_comeUp rfl (Or.inr ⟨_, rfl, rfl, rfl⟩) l0 rfl rfl ?_
    refine g_fR (c := 8) (k := 1) (x := (sa + 4)) (pc' := 9) cd_St_comeUp rfl rfl rfl rfl rfl (by decide) hS.1.1 hS.1.2 hS.2.2.1 ?_
    refine g_k1 (v := 1) (pc' := 10) cd_St_comeUp rfl (by decide) rfl ?_
    refine g_ald (pc' := 11) cd_St_comeUp rfl (Or.inr ⟨_, rfl, rfl, rfl⟩) l0 rfl rfl ?_
    refine g_fI (c := 8) (k := 4) (x := 0) (pc' := 14) cd_St_comeUp rfl rfl rfl rfl rfl (by decide) hS.1.1 hS.1.2 hR.2.1.1 ?_
    refine g_pure (pc' := 15) (st' := [.int (1 - 0), .ref ((sa + 4))]) cd_St_comeUp rfl rfl (fun _ _ => rfl) ?_
    rw [show (1 - 0 : Int32) = 1 from by decide]
    refine g_k1 (v := 0) (pc' := 16) cd_St_comeUp rfl (by decide) rfl ?_
    refine g_iast (pc' := 17) cd_St_comeUp rfl rfl hS.2.2.2.2.2.2.2.1.1 hS.2.2.2.2.2.2.2.1.2.1 (by rw [show bm_AL B (sa + 4) = 2 from hS.2.2.2.2.2.2.2.1.2.2]; exact vp_in_nI (n := 1) (by decide) (by decide)) ?_
    rw [show (1 : Int32).toNatClampNeg = 1 from by decide]
    have A14 : bm_AI (bm_setI B (sa + 4) 1 0) (sa + 4) = (upd (bm_AI B (sa + 4)) 1 0) := ((AI_set B (sa + 4) 1 0).trans (congrArg (fun f => upd f 1 0) (show bm_AI B (sa + 4) = (bm_AI B (sa + 4)) from rfl)))
    have A15 : bm_AI (bm_setI B (sa + 4) 1 0) (sa + 5) = (bm_AI B (sa + 5)) := ((AI_setn B 1 0 (sa + 5) (by omega)).trans (show bm_AI B (sa + 5) = (bm_AI B (sa + 5)) from rfl))
    have Z16 : fz (fun z => z = sa ∨ z = sa + 4 ∨ z = sa + 5) B (bm_setI B (sa + 4) 1 0) := fz_trans (fz_rfl _ B) ⟨fr_mono (fun _ q => Or.inr (Or.inl q)) (fr_setI _ (sa + 4) _ _), rfl, rfl⟩
    refine g_ald (pc' := 18) cd_St_comeUp rfl (Or.inr ⟨_, rfl, rfl, rfl⟩) l0 rfl rfl ?_
    refine g_fR (c := 8) (k := 2) (x := (sa + 5)) (pc' := 21) cd_St_comeUp rfl rfl rfl rfl rfl (by decide) hS.1.1 hS.1.2 hS.2.2.2.1 ?_
    refine g_k1 (v := 1) (pc' := 22) cd_St_comeUp rfl (by decide) rfl ?_
    refine g_ald (pc' := 23) cd_St_comeUp rfl (Or.inr ⟨_, rfl, rfl, rfl⟩) l0 rfl rfl ?_
    refine g_fI (c := 8) (k := 4) (x := 0) (pc' := 26) cd_St_comeUp rfl rfl rfl rfl rfl (by decide) hS.1.1 hS.1.2 hR.2.1.1 ?_
    refine g_pure (pc' := 27) (st' := [.int (1 - 0), .ref ((sa + 5))]) cd_St_comeUp rfl rfl (fun _ _ => rfl) ?_
    rw [show (1 - 0 : Int32) = 1 from by decide]
    refine g_k1 (v := 0) (pc' := 28) cd_St_comeUp rfl (by decide) rfl ?_
    refine g_iast (pc' := 29) cd_St_comeUp rfl rfl hS.2.2.2.2.2.2.2.2.1 hS.2.2.2.2.2.2.2.2.2.1 (by rw [show bm_AL (bm_setI B (sa + 4) 1 0) (sa + 5) = 2 from hS.2.2.2.2.2.2.2.2.2.2]; exact vp_in_nI (n := 1) (by decide) (by decide)) ?_
    rw [show (1 : Int32).toNatClampNeg = 1 from by decide]
    have A17 : bm_AI (bm_setI (bm_setI B (sa + 4) 1 0) (sa + 5) 1 0) (sa + 4) = (upd (bm_AI B (sa + 4)) 1 0) := ((AI_setn (bm_setI B (sa + 4) 1 0) 1 0 (sa + 4) (by omega)).trans (show bm_AI (bm_setI B (sa + 4) 1 0) (sa + 4) = (upd (bm_AI B (sa + 4)) 1 0) from A14))
    have A18 : bm_AI (bm_setI (bm_setI B (sa + 4) 1 0) (sa + 5) 1 0) (sa + 5) = (upd (bm_AI B (sa + 5)) 1 0) := ((AI_set (bm_setI B (sa + 4) 1 0) (sa + 5) 1 0).trans (congrArg (fun f => upd f 1 0) (show bm_AI (bm_setI B (sa + 4) 1 0) (sa + 5) = (bm_AI B (sa + 5)) from A15)))
    have Z19 : fz (fun z => z = sa ∨ z = sa + 4 ∨ z = sa + 5) B (bm_setI (bm_setI B (sa + 4) 1 0) (sa + 5) 1 0) := fz_trans Z16 ⟨fr_mono (fun _ q => Or.inr (Or.inr q)) (fr_setI _ (sa + 5) _ _), rfl, rfl⟩
    refine g_ald (pc' := 30) cd_St_comeUp rfl (Or.inr ⟨_, rfl, rfl, rfl⟩) l0 rfl rfl ?_
    refine g_k1 (v := 0) (pc' := 31) cd_St_comeUp rfl (by decide) rfl ?_
    refine g_putI (c := 8) (k := 6) (pc' := 34) cd_St_comeUp rfl rfl rfl rfl (by decide) (Or.inl rfl) rfl (by decide) hS.1.1 hS.1.2 ?_
    have P20 : bm_FI (bm_putI (bm_setI (bm_setI B (sa + 4) 1 0) (sa + 5) 1 0) 8 6 sa 0) 8 6 sa = 0 := if_pos ⟨rfl, rfl, rfl⟩
    have Z21 : fz (fun z => z = sa ∨ z = sa + 4 ∨ z = sa + 5) B (bm_putI (bm_setI (bm_setI B (sa + 4) 1 0) (sa + 5) 1 0) 8 6 sa 0) := fz_trans Z19 ⟨fr_mono (fun _ q => Or.inl q) (fr_putI _ 8 6 sa _), rfl, rfl⟩
    refine g_ild (pc' := 35) cd_St_comeUp rfl (Or.inr ⟨_, rfl, rfl, rfl⟩) l1 rfl ?_
    have g4 : bm_AI (bm_putI (bm_setI (bm_setI B (sa + 4) 1 0) (sa + 5) 1 0) 8 6 sa 0) (sa + 4) = (upd (bm_AI B (sa + 4)) 1 0) := A17
    have g5 : bm_AI (bm_putI (bm_setI (bm_setI B (sa + 4) 1 0) (sa + 5) 1 0) 8 6 sa 0) (sa + 5) = (upd (bm_AI B (sa + 5)) 1 0) := A18
    have gp : bm_AI (bm_putI (bm_setI (bm_setI B (sa + 4) 1 0) (sa + 5) 1 0) 8 6 sa 0) (sa + 2) = bm_AI B (sa + 2) := fr_AI Z21.1 hS.2.2.2.2.2.1.1 (by omega)
    have go : bm_AI (bm_putI (bm_setI (bm_setI B (sa + 4) 1 0) (sa + 5) 1 0) 8 6 sa 0) (sa + 3) = bm_AI B (sa + 3) := fr_AI Z21.1 hS.2.2.2.2.2.2.1.1 (by omega)
    exact g_retz cd_St_comeUp rfl (bz_01 dn) ⟨_, rfl, (kk _ ⟨⟨StS_fr hS Z21.1, StA_fr hS hAA Z21.1 (by omega)⟩, ⟨hR.2.1.1, hR.2.1.2.1, P20, hR.2.1.2.2.2⟩, ⟨(show bm_AI (bm_putI (bm_setI (bm_setI B (sa + 4) 1 0) (sa + 5) 1 0) 8 6 sa 0) (sa + 4) 0 = _ by rw [g4, pk_un (by decide)]; exact hR.2.2.1.1), (show bm_AI (bm_putI (bm_setI (bm_setI B (sa + 4) 1 0) (sa + 5) 1 0) 8 6 sa 0) (sa + 5) 0 = _ by rw [g5, pk_un (by decide)]; exact hR.2.2.1.2.1), hR.2.2.1.2.2.1, show EN (bm_AI (bm_putI (bm_setI (bm_setI B (sa + 4) 1 0) (sa + 5) 1 0) 8 6 sa 0) (sa + 2)) T P 0 by rw [gp]; exact hR.2.2.1.2.2.2⟩, 0, (show bm_AI (bm_putI (bm_setI (bm_setI B (sa + 4) 1 0) (sa + 5) 1 0) 8 6 sa 0) (sa + 4) 1 = _ by rw [g4]; rfl), (show bm_AI (bm_putI (bm_setI (bm_setI B (sa + 4) 1 0) (sa + 5) 1 0) 8 6 sa 0) (sa + 5) 1 = _ by rw [g5]; rfl), Nat.zero_le _, EN_nil _ _ _⟩ (fz_mono (fun _ q => q.elim Or.inl (fun q => q.elim (fun q => Or.inr (Or.inr (Or.inr (Or.inl q)))) (fun q => Or.inr (Or.inr (Or.inr (Or.inr q)))))) Z21))⟩
  · show bm_G sc d 135 0 [(0, .ref sa)] [] B _
    generalize elv : ([(0, .ref sa)] : tm_L) = lv
    have l0 : lv.lookup 0 = some (.ref sa) := by rw [← elv]; rfl
    clear elv
    refine g_ald (pc' := 1) cd_St_comeUp rfl (Or.inr ⟨_, rfl, rfl, rfl⟩) l0 rfl rfl ?_
    refine g_fI (c := 8) (k := 6) (x := bz dn) (pc' := 4) cd_St_comeUp rfl rfl rfl rfl rfl (by decide) hS.1.1 hS.1.2 hR.2.1.2.2.1 ?_
    refine g_ist (pc' := 5) cd_St_comeUp rfl (Or.inr ⟨_, rfl, rfl, rfl⟩) (by decide) rfl (fun lv el => ?_)
    have l0 := tm_lk el l0 rfl (by decide)
    have l1 : lv.lookup 1 = some (.int (bz dn)) := tm_lks el
    clear el
    refine g_ald (pc' := 6) cd_St_comeUp rfl (Or.inr ⟨_, rfl, rfl, rfl⟩) l0 rfl rfl ?_
    refine g_fR (c := 8) (k := 1) (x := (sa + 4)) (pc' := 9) cd_St_comeUp rfl rfl rfl rfl rfl (by decide) hS.1.1 hS.1.2 hS.2.2.1 ?_
    refine g_k1 (v := 1) (pc' := 10) cd_St_comeUp rfl (by decide) rfl ?_
    refine g_ald (pc' := 11) cd_St_comeUp rfl (Or.inr ⟨_, rfl, rfl, rfl⟩) l0 rfl rfl ?_
    refine g_fI (c := 8) (k := 4) (x := 1) (pc' := 14) cd_St_comeUp rfl rfl rfl rfl rfl (by decide) hS.1.1 hS.1.2 hR.2.1.1 ?_
    refine g_pure (pc' := 15) (st' := [.int (1 - 1), .ref ((sa + 4))]) cd_St_comeUp rfl rfl (fun _ _ => rfl) ?_
    rw [show (1 - 1 : Int32) = 0 from by decide]
    refine g_k1 (v := 0) (pc' := 16) cd_St_comeUp rfl (by decide) rfl ?_
    refine g_iast (pc' := 17) cd_St_comeUp rfl rfl hS.2.2.2.2.2.2.2.1.1 hS.2.2.2.2.2.2.2.1.2.1 (by rw [show bm_AL B (sa + 4) = 2 from hS.2.2.2.2.2.2.2.1.2.2]; exact vp_in_nI (n := 0) (by decide) (by decide)) ?_
    rw [show (0 : Int32).toNatClampNeg = 0 from by decide]
    have A22 : bm_AI (bm_setI B (sa + 4) 0 0) (sa + 4) = (upd (bm_AI B (sa + 4)) 0 0) := ((AI_set B (sa + 4) 0 0).trans (congrArg (fun f => upd f 0 0) (show bm_AI B (sa + 4) = (bm_AI B (sa + 4)) from rfl)))
    have A23 : bm_AI (bm_setI B (sa + 4) 0 0) (sa + 5) = (bm_AI B (sa + 5)) := ((AI_setn B 0 0 (sa + 5) (by omega)).trans (show bm_AI B (sa + 5) = (bm_AI B (sa + 5)) from rfl))
    have Z24 : fz (fun z => z = sa ∨ z = sa + 4 ∨ z = sa + 5) B (bm_setI B (sa + 4) 0 0) := fz_trans (fz_rfl _ B) ⟨fr_mono (fun _ q => Or.inr (Or.inl q)) (fr_setI _ (sa + 4) _ _), rfl, rfl⟩
    refine g_ald (pc' := 18) cd_St_comeUp rfl (Or.inr ⟨_, rfl, rfl, rfl⟩) l0 rfl rfl ?_
    refine g_fR (c := 8) (k := 2) (x := (sa + 5)) (pc' := 21) cd_St_comeUp rfl rfl rfl rfl rfl (by decide) hS.1.1 hS.1.2 hS.2.2.2.1 ?_
    refine g_k1 (v := 1) (pc' := 22) cd_St_comeUp rfl (by decide) rfl ?_
    refine g_ald (pc' := 23) cd_St_comeUp rfl (Or.inr ⟨_, rfl, rfl, rfl⟩) l0 rfl rfl ?_
    refine g_fI (c := 8) (k := 4) (x := 1) (pc' := 26) cd_St_comeUp rfl rfl rfl rfl rfl (by decide) hS.1.1 hS.1.2 hR.2.1.1 ?_
    refine g_pure (pc' := 27) (st' := [.int (1 - 1), .ref ((sa + 5))]) cd_St_comeUp rfl rfl (fun _ _ => rfl) ?_
    rw [show (1 - 1 : Int32) = 0 from by decide]
    refine g_k1 (v := 0) (pc' := 28) cd_St_comeUp rfl (by decide) rfl ?_
    refine g_iast (pc' := 29) cd_St_comeUp rfl rfl hS.2.2.2.2.2.2.2.2.1 hS.2.2.2.2.2.2.2.2.2.1 (by rw [show bm_AL (bm_setI B (sa + 4) 0 0) (sa + 5) = 2 from hS.2.2.2.2.2.2.2.2.2.2]; exact vp_in_nI (n := 0) (by decide) (by decide)) ?_
    rw [show (0 : Int32).toNatClampNeg = 0 from by decide]
    have A25 : bm_AI (bm_setI (bm_setI B (sa + 4) 0 0) (sa + 5) 0 0) (sa + 4) = (upd (bm_AI B (sa + 4)) 0 0) := ((AI_setn (bm_setI B (sa + 4) 0 0) 0 0 (sa + 4) (by omega)).trans (show bm_AI (bm_setI B (sa + 4) 0 0) (sa + 4) = (upd (bm_AI B (sa + 4)) 0 0) from A22))
    have A26 : bm_AI (bm_setI (bm_setI B (sa + 4) 0 0) (sa + 5) 0 0) (sa + 5) = (upd (bm_AI B (sa + 5)) 0 0) := ((AI_set (bm_setI B (sa + 4) 0 0) (sa + 5) 0 0).trans (congrArg (fun f => upd f 0 0) (show bm_AI (bm_setI B (sa + 4) 0 0) (sa + 5) = (bm_AI B (sa + 5)) from A23)))
    have Z27 : fz (fun z => z = sa ∨ z = sa + 4 ∨ z = sa + 5) B (bm_setI (bm_setI B (sa + 4) 0 0) (sa + 5) 0 0) := fz_trans Z24 ⟨fr_mono (fun _ q => Or.inr (Or.inr q)) (fr_setI _ (sa + 5) _ _), rfl, rfl⟩
    refine g_ald (pc' := 30) cd_St_comeUp rfl (Or.inr ⟨_, rfl, rfl, rfl⟩) l0 rfl rfl ?_
    refine g_k1 (v := 0) (pc' := 31) cd_St_comeUp rfl (by decide) rfl ?_
    refine g_putI (c := 8) (k := 6) (pc' := 34) cd_St_comeUp rfl rfl rfl rfl (by decide) (Or.inl rfl) rfl (by decide) hS.1.1 hS.1.2 ?_
    have P28 : bm_FI (bm_putI (bm_setI (bm_setI B (sa + 4) 0 0) (sa + 5) 0 0) 8 6 sa 0) 8 6 sa = 0 := if_pos ⟨rfl, rfl, rfl⟩
    have Z29 : fz (fun z => z = sa ∨ z = sa + 4 ∨ z = sa + 5) B (bm_putI (bm_setI (bm_setI B (sa + 4) 0 0) (sa + 5) 0 0) 8 6 sa 0) := fz_trans Z27 ⟨fr_mono (fun _ q => Or.inl q) (fr_putI _ 8 6 sa _), rfl, rfl⟩
    refine g_ild (pc' := 35) cd_St_comeUp rfl (Or.inr ⟨_, rfl, rfl, rfl⟩) l1 rfl ?_
    have g4 : bm_AI (bm_putI (bm_setI (bm_setI B (sa + 4) 0 0) (sa + 5) 0 0) 8 6 sa 0) (sa + 4) = (upd (bm_AI B (sa + 4)) 0 0) := A25
    have g5 : bm_AI (bm_putI (bm_setI (bm_setI B (sa + 4) 0 0) (sa + 5) 0 0) 8 6 sa 0) (sa + 5) = (upd (bm_AI B (sa + 5)) 0 0) := A26
    have gp : bm_AI (bm_putI (bm_setI (bm_setI B (sa + 4) 0 0) (sa + 5) 0 0) 8 6 sa 0) (sa + 3) = bm_AI B (sa + 3) := fr_AI Z29.1 hS.2.2.2.2.2.2.1.1 (by omega)
    have go : bm_AI (bm_putI (bm_setI (bm_setI B (sa + 4) 0 0) (sa + 5) 0 0) 8 6 sa 0) (sa + 2) = bm_AI B (sa + 2) := fr_AI Z29.1 hS.2.2.2.2.2.1.1 (by omega)
    exact g_retz cd_St_comeUp rfl (bz_01 dn) ⟨_, rfl, (kk _ ⟨⟨StS_fr hS Z29.1, StA_fr hS hAA Z29.1 (by omega)⟩, ⟨hR.2.1.1, hR.2.1.2.1, P28, hR.2.1.2.2.2⟩, ⟨(show bm_AI (bm_putI (bm_setI (bm_setI B (sa + 4) 0 0) (sa + 5) 0 0) 8 6 sa 0) (sa + 4) 1 = _ by rw [g4, pk_un (by decide)]; exact hR.2.2.1.1), (show bm_AI (bm_putI (bm_setI (bm_setI B (sa + 4) 0 0) (sa + 5) 0 0) 8 6 sa 0) (sa + 5) 1 = _ by rw [g5, pk_un (by decide)]; exact hR.2.2.1.2.1), hR.2.2.1.2.2.1, show EN (bm_AI (bm_putI (bm_setI (bm_setI B (sa + 4) 0 0) (sa + 5) 0 0) 8 6 sa 0) (sa + 3)) T P 0 by rw [gp]; exact hR.2.2.1.2.2.2⟩, 0, (show bm_AI (bm_putI (bm_setI (bm_setI B (sa + 4) 0 0) (sa + 5) 0 0) 8 6 sa 0) (sa + 4) 0 = _ by rw [g4]; rfl), (show bm_AI (bm_putI (bm_setI (bm_setI B (sa + 4) 0 0) (sa + 5) 0 0) 8 6 sa 0) (sa + 5) 0 = _ by rw [g5]; rfl), Nat.zero_le _, EN_nil _ _ _⟩ (fz_mono (fun _ q => q.elim Or.inl (fun q => q.elim (fun q => Or.inr (Or.inr (Or.inr (Or.inl q)))) (fun q => Or.inr (Or.inr (Or.inr (Or.inr q)))))) Z29))⟩
def bk (n : Nat) : Nat := (n + 7) / 8
def st_made (c : Option Nat) (al : Nat) : Nat := match c with
  | none => al
  | some k => min k al
def st_commit (p : Bool) (P : EN2) (c : Option Nat) (W : EN2) : Nat × ST := if st_made c (bk W.length + 1 + bk P.length) ≤ bk W.length then (0, p, P, W.take (8 * st_made c (bk W.length + 1 + bk P.length)), none, true) else (if st_made c (bk W.length + 1 + bk P.length) < bk W.length + 1 + bk P.length then 1 else 2, !p, W, P.drop (8 * (st_made c (bk W.length + 1 + bk P.length) - bk W.length - 1)), none, decide (st_made c (bk W.length + 1 + bk P.length) < bk W.length + 1 + bk P.length))
theorem st_commit_0 {p : Bool} {P : EN2} {c : Option Nat} {W : EN2} {al m : Nat} (ha : al = bk W.length + 1 + bk P.length) (hm : m = st_made c al) (h : m ≤ bk W.length) : st_commit p P c W = (0, p, P, W.take (8 * m), none, true) := by
  subst ha; subst hm
  exact if_pos h
theorem st_commit_1 {p : Bool} {P : EN2} {c : Option Nat} {W : EN2} {al m : Nat} (ha : al = bk W.length + 1 + bk P.length) (hm : m = st_made c al) (h : ¬ m ≤ bk W.length) (h2 : m < al) : st_commit p P c W = (1, !p, W, P.drop (8 * (m - bk W.length - 1)), none, true) := by
  subst ha; subst hm
  unfold st_commit
  rw [if_neg h, if_pos h2, decide_eq_true h2]
theorem st_commit_2 {p : Bool} {P : EN2} {c : Option Nat} {W : EN2} {al m : Nat} (ha : al = bk W.length + 1 + bk P.length) (hm : m = st_made c al) (h : ¬ m ≤ bk W.length) (h2 : ¬ m < al) : st_commit p P c W = (2, !p, W, P.drop (8 * (m - bk W.length - 1)), none, false) := by
  subst ha; subst hm
  unfold st_commit
  rw [if_neg h, if_neg h2, decide_eq_false h2]
theorem EN_take {g : Nat → Int32} {T : List Tm} {W : EN2} {k : Nat} (h : EN g T W 0) : EN g T (W.take k) 0 := fun i e he => by
  rw [List.getElem?_take] at he
  split at he
  · exact h i e he
  · cases he
theorem EN_drop {g : Nat → Int32} {T : List Tm} {W : EN2} {k : Nat} (h : EN g T W 0) : EN g T (W.drop k) (min W.length k) := fun i e he => by
  rw [List.getElem?_drop] at he
  have hi := (List.getElem?_eq_some_iff.mp he).1
  have := h (k + i) e he
  rw [show min W.length k = k by omega]
  simpa using this
theorem nI_min {a b : Nat} (ha : a < 2 ^ 31) (hb : b < 2 ^ 31) : (if nI b < nI a then nI b else nI a) = nI (min a b) := by
  by_cases c : b < a
  · rw [if_pos (nI_lt c ha)]; congr 1; omega
  · rw [if_neg (nI_nlt (by omega) hb)]; congr 1; omega
theorem bk_le {n : Nat} : n ≤ 8 * bk n ∧ 8 * bk n ≤ n + 7 := by unfold bk; omega
theorem nI_div (a b : Nat) (ha : a < 2 ^ 31) (hb : 0 < b) (hb2 : b < 2 ^ 31) : nI a / nI b = nI (a / b) := by
  apply Int32.toInt_inj.mp
  rw [Int32.toInt_div, nI_toInt ha, nI_toInt hb2, nI_toInt (Nat.lt_of_le_of_lt (Nat.div_le_self a b) ha)]
  have h1 : (0 : Int) ≤ a := Int.natCast_nonneg a
  rw [Int.tdiv_eq_ediv_of_nonneg h1]
  have h2 : ((a : Int) / (b : Int)) = ((a / b : Nat) : Int) := by simp
  rw [h2]
  have h3 : a / b ≤ a := Nat.div_le_self a b
  generalize a / b = q at h3 ⊢
  rw [Int.bmod_eq_of_le (by omega) (by omega)]
theorem t_blocks {sc : tm_X} {d : Nat} {B : bm_H} {n : Nat} {Q : Int32 → bm_H → Prop} (hn : n < 1000000) (kk : Q (nI (bk n)) B) : bm_Gi sc d 57 [.int (nI n)] B Q := by
  show bm_G sc d 57 0 [(0, .int (nI n))] [] B _
  generalize elv : ([(0, .int (nI n))] : tm_L) = lv
  have l0 : lv.lookup 0 = some (.int (nI n)) := by rw [← elv]; rfl
  clear elv
  refine g_ild (pc' := 1) cd_St_blocks rfl (Or.inr ⟨_, rfl, rfl, rfl⟩) l0 rfl ?_
  refine g_k2 (v := 8) (pc' := 3) cd_St_blocks rfl (by decide) rfl ?_
  refine g_pure (pc' := 4) (st' := [.int ((nI n) + 8)]) cd_St_blocks rfl rfl (fun _ _ => rfl) ?_
  rw [show ((nI n) + 8 : Int32) = nI (n + 8) from nI_add n 8]
  refine g_k1 (v := 1) (pc' := 5) cd_St_blocks rfl (by decide) rfl ?_
  refine g_pure (pc' := 6) (st' := [.int ((nI (n + 8)) - 1)]) cd_St_blocks rfl rfl (fun _ _ => rfl) ?_
  rw [show ((nI (n + 8)) - 1 : Int32) = nI ((n + 8) - 1) from pk_sub (a := (n + 8)) (b := 1) (by omega)]
  refine g_k2 (v := 8) (pc' := 8) cd_St_blocks rfl (by decide) rfl ?_
  refine g_div (z := nI (bk n)) (pc' := 9) cd_St_blocks rfl rfl (by decide) (nI_div (n + 8 - 1) 8 (by omega) (by decide) (by omega) |>.trans (by unfold bk; congr 1)) ?_
  exact g_reti cd_St_blocks rfl ⟨_, rfl, kk⟩
theorem t_commit_n {sc : tm_X} {d : Nat} {sa : Nat} {B : bm_H} {T : List Tm} {p : Bool} {P : EN2} {dn : Bool} {W : EN2} {Q : Int32 → bm_H → Prop} (hR : RSw B T sa p P none dn W) (kk : ∀ B', RSt B' T sa (st_commit p P (none) W).2 → fz (stx sa) B B' → Q (nI (st_commit p P (none) W).1) B') : bm_Gi sc (d + 1) 56 [.ref sa] B Q := by
  have hS := hR.1.1.1
  have hAA := hR.1.1.2
  have hw := hR.2.2.1
  have hp := hR.1.2.2.1.2.2.1
  have b1 := bk_le (n := W.length)
  have b2 := bk_le (n := P.length)
  cases p
  · show bm_G sc (d + 1) 56 0 [(0, .ref sa)] [] B _
    generalize elv : ([(0, .ref sa)] : tm_L) = lv
    have l0 : lv.lookup 0 = some (.ref sa) := by rw [← elv]; rfl
    clear elv
    refine g_k1 (v := 1) (pc' := 1) cd_St_commit rfl (by decide) rfl ?_
    refine g_ald (pc' := 2) cd_St_commit rfl (Or.inr ⟨_, rfl, rfl, rfl⟩) l0 rfl rfl ?_
    refine g_fI (c := 8) (k := 4) (x := 0) (pc' := 5) cd_St_commit rfl rfl rfl rfl rfl (by decide) hS.1.1 hS.1.2 hR.1.2.1.1 ?_
    refine g_pure (pc' := 6) (st' := [.int (1 - 0)]) cd_St_commit rfl rfl (fun _ _ => rfl) ?_
    rw [show (1 - 0 : Int32) = 1 from by decide]
    refine g_ist (pc' := 7) cd_St_commit rfl (Or.inr ⟨_, rfl, rfl, rfl⟩) (by decide) rfl (fun lv el => ?_)
    have l0 := tm_lk el l0 rfl (by decide)
    have l1 : lv.lookup 1 = some (.int 1) := tm_lks el
    clear el
    refine g_ald (pc' := 8) cd_St_commit rfl (Or.inr ⟨_, rfl, rfl, rfl⟩) l0 rfl rfl ?_
    refine g_fI (c := 8) (k := 3) (x := nI W.length) (pc' := 11) cd_St_commit rfl rfl rfl rfl rfl (by decide) hS.1.1 hS.1.2 hR.2.1 ?_
    refine g_calli (pc' := 14) cd_St_commit rfl rfl rfl rfl rfl (tm_invS rfl rfl cd_St_blocks rfl (Nat.le_of_ble_eq_true rfl)) (t_blocks (by omega) ?_)
    show bm_G _ _ _ 14 _ [.int (nI (bk W.length))] B _
    refine g_ist (pc' := 15) cd_St_commit rfl (Or.inr ⟨_, rfl, rfl, rfl⟩) (by decide) rfl (fun lv el => ?_)
    have l0 := tm_lk el l0 rfl (by decide)
    have l1 := tm_lk el l1 rfl (by decide)
    have l2 : lv.lookup 2 = some (.int (nI (bk W.length))) := tm_lks el
    clear el
    refine g_ild (pc' := 16) cd_St_commit rfl (Or.inr ⟨_, rfl, rfl, rfl⟩) l2 rfl ?_
    refine g_k1 (v := 1) (pc' := 17) cd_St_commit rfl (by decide) rfl ?_
    refine g_pure (pc' := 18) (st' := [.int ((nI (bk W.length)) + 1)]) cd_St_commit rfl rfl (fun _ _ => rfl) ?_
    rw [show ((nI (bk W.length)) + 1 : Int32) = nI ((bk W.length) + 1) from nI_add (bk W.length) 1]
    refine g_ald (pc' := 19) cd_St_commit rfl (Or.inr ⟨_, rfl, rfl, rfl⟩) l0 rfl rfl ?_
    refine g_fR (c := 8) (k := 2) (x := (sa + 5)) (pc' := 22) cd_St_commit rfl rfl rfl rfl rfl (by decide) hS.1.1 hS.1.2 hS.2.2.2.1 ?_
    refine g_ald (pc' := 23) cd_St_commit rfl (Or.inr ⟨_, rfl, rfl, rfl⟩) l0 rfl rfl ?_
    refine g_fI (c := 8) (k := 4) (x := 0) (pc' := 26) cd_St_commit rfl rfl rfl rfl rfl (by decide) hS.1.1 hS.1.2 hR.1.2.1.1 ?_
    refine g_aI (x := nI P.length) (pc' := 27) cd_St_commit rfl rfl hS.2.2.2.2.2.2.2.2.1 hS.2.2.2.2.2.2.2.2.2.1 (by rw [show bm_AL B (sa + 5) = 2 from hS.2.2.2.2.2.2.2.2.2.2]; exact vp_in_nI (n := 0) (by decide) (by decide)) (show bm_AI B (sa + 5) 0 = _ from hR.1.2.2.1.2.1) ?_
    refine g_calli (pc' := 30) cd_St_commit rfl rfl rfl rfl rfl (tm_invS rfl rfl cd_St_blocks rfl (Nat.le_of_ble_eq_true rfl)) (t_blocks (by omega) ?_)
    show bm_G _ _ _ 30 _ [.int (nI (bk P.length)), .int (nI ((bk W.length) + 1))] B _
    refine g_pure (pc' := 31) (st' := [.int ((nI ((bk W.length) + 1)) + (nI (bk P.length)))]) cd_St_commit rfl rfl (fun _ _ => rfl) ?_
    rw [show ((nI ((bk W.length) + 1)) + (nI (bk P.length)) : Int32) = nI (((bk W.length) + 1) + (bk P.length)) from nI_add ((bk W.length) + 1) (bk P.length)]
    refine g_ist (pc' := 32) cd_St_commit rfl (Or.inr ⟨_, rfl, rfl, rfl⟩) (by decide) rfl (fun lv el => ?_)
    have l0 := tm_lk el l0 rfl (by decide)
    have l1 := tm_lk el l1 rfl (by decide)
    have l2 := tm_lk el l2 rfl (by decide)
    have l3 : lv.lookup 3 = some (.int (nI (((bk W.length) + 1) + (bk P.length)))) := tm_lks el
    clear el
    refine g_ald (pc' := 33) cd_St_commit rfl (Or.inr ⟨_, rfl, rfl, rfl⟩) l0 rfl rfl ?_
    refine g_fI (c := 8) (k := 5) (x := (-1)) (pc' := 36) cd_St_commit rfl rfl rfl rfl rfl (by decide) hS.1.1 hS.1.2 hR.1.2.1.2.1 ?_
    refine g_k1 (v := (-1)) (pc' := 37) cd_St_commit rfl (by decide) rfl ?_
    refine g_if2 (t := 44) (pc' := 40) cd_St_commit rfl rfl rfl (fun c37 => ?_) (fun c37 => ?_)
    · exact absurd (show ¬ ((-1) : Int32) = (-1) from c37) (by decide)
    · have c37 : ((-1) : Int32) = (-1) := Classical.not_not.mp c37
      refine g_ild (pc' := 41) cd_St_commit rfl (Or.inr ⟨_, rfl, rfl, rfl⟩) l3 rfl ?_
      refine g_pure (pc' := 52) (st' := [.int (nI (((bk W.length) + 1) + (bk P.length)))]) cd_St_commit rfl rfl (fun _ _ => rfl) ?_
      refine g_ist (pc' := 54) cd_St_commit rfl (Or.inl ⟨rfl, rfl⟩) (by decide) rfl (fun lv el => ?_)
      have l0 := tm_lk el l0 rfl (by decide)
      have l1 := tm_lk el l1 rfl (by decide)
      have l2 := tm_lk el l2 rfl (by decide)
      have l3 := tm_lk el l3 rfl (by decide)
      have l4 : lv.lookup 4 = some (.int (nI (((bk W.length) + 1) + (bk P.length)))) := tm_lks el
      clear el
      refine g_ald (pc' := 55) cd_St_commit rfl (Or.inr ⟨_, rfl, rfl, rfl⟩) l0 rfl rfl ?_
      refine g_k1 (v := (-1)) (pc' := 56) cd_St_commit rfl (by decide) rfl ?_
      refine g_putI (c := 8) (k := 5) (pc' := 59) cd_St_commit rfl rfl rfl rfl (by simp [tm_okV, narrow, fits]) (Or.inl rfl) rfl (by decide) hS.1.1 hS.1.2 ?_
      have P30 : bm_FI (bm_putI B 8 5 sa (-1)) 8 5 sa = (-1) := if_pos ⟨rfl, rfl, rfl⟩
      have Z31 : fz (fun z => z = sa ∨ z = sa + 4 ∨ z = sa + 5) B (bm_putI B 8 5 sa (-1)) := fz_trans (fz_rfl _ B) ⟨fr_mono (fun _ q => Or.inl q) (fr_putI _ 8 5 sa _), rfl, rfl⟩
      refine g_ald (pc' := 60) cd_St_commit rfl (Or.inr ⟨_, rfl, rfl, rfl⟩) l0 rfl rfl ?_
      refine g_ild (pc' := 62) cd_St_commit rfl (Or.inl ⟨rfl, rfl⟩) l4 rfl ?_
      refine g_ild (pc' := 63) cd_St_commit rfl (Or.inr ⟨_, rfl, rfl, rfl⟩) l3 rfl ?_
      refine g_if2 (t := 70) (pc' := 66) cd_St_commit rfl rfl rfl (fun c63 => ?_) (fun c63 => ?_)
      · have c63 : (nI (((bk W.length) + 1) + (bk P.length))) ≤ (nI (((bk W.length) + 1) + (bk P.length))) := c63
        refine g_k1 (v := 0) (pc' := 71) cd_St_commit rfl (by decide) rfl ?_
        refine g_putI (c := 8) (k := 6) (pc' := 74) cd_St_commit rfl rfl rfl rfl (by decide) (Or.inl rfl) rfl (by decide) hS.1.1 hS.1.2 ?_
        have P32 : bm_FI (bm_putI (bm_putI B 8 5 sa (-1)) 8 6 sa 0) 8 6 sa = 0 := if_pos ⟨rfl, rfl, rfl⟩
        have Z33 : fz (fun z => z = sa ∨ z = sa + 4 ∨ z = sa + 5) B (bm_putI (bm_putI B 8 5 sa (-1)) 8 6 sa 0) := fz_trans Z31 ⟨fr_mono (fun _ q => Or.inl q) (fr_putI _ 8 6 sa _), rfl, rfl⟩
        obtain ⟨B34, eB34⟩ : ∃ Bx, Bx = (bm_putI (bm_putI B 8 5 sa (-1)) 8 6 sa 0) := ⟨_, rfl⟩
        have cl34_0 : sa < bm_n B34 := eB34 ▸ (show sa < bm_n (bm_putI (bm_putI B 8 5 sa (-1)) 8 6 sa 0) from hS.1.1)
        have ck34_0 : bm_K B34 sa = 8 := eB34 ▸ (show bm_K (bm_putI (bm_putI B 8 5 sa (-1)) 8 6 sa 0) sa = 8 from hS.1.2)
        have cl34_1 : (sa + 1) < bm_n B34 := eB34 ▸ (show (sa + 1) < bm_n (bm_putI (bm_putI B 8 5 sa (-1)) 8 6 sa 0) from hS.2.2.2.2.1.1)
        have ck34_1 : bm_K B34 (sa + 1) = 21 := eB34 ▸ (show bm_K (bm_putI (bm_putI B 8 5 sa (-1)) 8 6 sa 0) (sa + 1) = 21 from hS.2.2.2.2.1.2.1)
        have cl34_2 : (sa + 2) < bm_n B34 := eB34 ▸ (show (sa + 2) < bm_n (bm_putI (bm_putI B 8 5 sa (-1)) 8 6 sa 0) from hS.2.2.2.2.2.1.1)
        have ck34_2 : bm_K B34 (sa + 2) = 13 := eB34 ▸ (show bm_K (bm_putI (bm_putI B 8 5 sa (-1)) 8 6 sa 0) (sa + 2) = 13 from hS.2.2.2.2.2.1.2.1)
        have cl34_3 : (sa + 3) < bm_n B34 := eB34 ▸ (show (sa + 3) < bm_n (bm_putI (bm_putI B 8 5 sa (-1)) 8 6 sa 0) from hS.2.2.2.2.2.2.1.1)
        have ck34_3 : bm_K B34 (sa + 3) = 13 := eB34 ▸ (show bm_K (bm_putI (bm_putI B 8 5 sa (-1)) 8 6 sa 0) (sa + 3) = 13 from hS.2.2.2.2.2.2.1.2.1)
        have cl34_4 : (sa + 4) < bm_n B34 := eB34 ▸ (show (sa + 4) < bm_n (bm_putI (bm_putI B 8 5 sa (-1)) 8 6 sa 0) from hS.2.2.2.2.2.2.2.1.1)
        have ck34_4 : bm_K B34 (sa + 4) = 13 := eB34 ▸ (show bm_K (bm_putI (bm_putI B 8 5 sa (-1)) 8 6 sa 0) (sa + 4) = 13 from hS.2.2.2.2.2.2.2.1.2.1)
        have cl34_5 : (sa + 5) < bm_n B34 := eB34 ▸ (show (sa + 5) < bm_n (bm_putI (bm_putI B 8 5 sa (-1)) 8 6 sa 0) from hS.2.2.2.2.2.2.2.2.1)
        have ck34_5 : bm_K B34 (sa + 5) = 13 := eB34 ▸ (show bm_K (bm_putI (bm_putI B 8 5 sa (-1)) 8 6 sa 0) (sa + 5) = 13 from hS.2.2.2.2.2.2.2.2.2.1)
        have cf34_0 : bm_FI B34 8 4 sa = 0 := eB34 ▸ (show bm_FI (bm_putI (bm_putI B 8 5 sa (-1)) 8 6 sa 0) 8 4 sa = 0 from hR.1.2.1.1)
        have cf34_1 : bm_FI B34 8 5 sa = (-1) := eB34 ▸ (show bm_FI (bm_putI (bm_putI B 8 5 sa (-1)) 8 6 sa 0) 8 5 sa = (-1) from P30)
        have cf34_2 : bm_FI B34 8 3 sa = nI W.length := eB34 ▸ (show bm_FI (bm_putI (bm_putI B 8 5 sa (-1)) 8 6 sa 0) 8 3 sa = nI W.length from hR.2.1)
        have cf34_3 : bm_FI B34 8 6 sa = 0 := eB34 ▸ (show bm_FI (bm_putI (bm_putI B 8 5 sa (-1)) 8 6 sa 0) 8 6 sa = 0 from P32)
        have cr34_0 : bm_FR B34 8 0 sa = some (sa + 1) := eB34 ▸ (show bm_FR (bm_putI (bm_putI B 8 5 sa (-1)) 8 6 sa 0) 8 0 sa = some (sa + 1) from hS.2.1)
        have cr34_1 : bm_FR B34 8 1 sa = some (sa + 4) := eB34 ▸ (show bm_FR (bm_putI (bm_putI B 8 5 sa (-1)) 8 6 sa 0) 8 1 sa = some (sa + 4) from hS.2.2.1)
        have cr34_2 : bm_FR B34 8 2 sa = some (sa + 5) := eB34 ▸ (show bm_FR (bm_putI (bm_putI B 8 5 sa (-1)) 8 6 sa 0) 8 2 sa = some (sa + 5) from hS.2.2.2.1)
        have ci34_0 : bm_AI B34 (sa + 4) = (bm_AI B (sa + 4)) := eB34 ▸ (show bm_AI (bm_putI (bm_putI B 8 5 sa (-1)) 8 6 sa 0) (sa + 4) = (bm_AI B (sa + 4)) from rfl)
        have ci34_1 : bm_AI B34 (sa + 5) = (bm_AI B (sa + 5)) := eB34 ▸ (show bm_AI (bm_putI (bm_putI B 8 5 sa (-1)) 8 6 sa 0) (sa + 5) = (bm_AI B (sa + 5)) from rfl)
        have ca34_0 : bm_AL B34 (sa + 2) = 1072 := eB34 ▸ (show bm_AL (bm_putI (bm_putI B 8 5 sa (-1)) 8 6 sa 0) (sa + 2) = 1072 from hS.2.2.2.2.2.1.2.2)
        have ca34_1 : bm_AL B34 (sa + 3) = 1072 := eB34 ▸ (show bm_AL (bm_putI (bm_putI B 8 5 sa (-1)) 8 6 sa 0) (sa + 3) = 1072 from hS.2.2.2.2.2.2.1.2.2)
        have ca34_2 : bm_AL B34 (sa + 4) = 2 := eB34 ▸ (show bm_AL (bm_putI (bm_putI B 8 5 sa (-1)) 8 6 sa 0) (sa + 4) = 2 from hS.2.2.2.2.2.2.2.1.2.2)
        have ca34_3 : bm_AL B34 (sa + 5) = 2 := eB34 ▸ (show bm_AL (bm_putI (bm_putI B 8 5 sa (-1)) 8 6 sa 0) (sa + 5) = 2 from hS.2.2.2.2.2.2.2.2.2.2)
        have ca34_4 : bm_AL B34 (sa + 1) = 2 := eB34 ▸ (show bm_AL (bm_putI (bm_putI B 8 5 sa (-1)) 8 6 sa 0) (sa + 1) = 2 from hS.2.2.2.2.1.2.2)
        have cz34 : fz (fun z => z = sa ∨ z = sa + 4 ∨ z = sa + 5) B B34 := eB34 ▸ (show fz (fun z => z = sa ∨ z = sa + 4 ∨ z = sa + 5) B (bm_putI (bm_putI B 8 5 sa (-1)) 8 6 sa 0) from Z33)
        rw [← eB34]
        clear eB34
        refine g_ald (pc' := 75) cd_St_commit rfl (Or.inr ⟨_, rfl, rfl, rfl⟩) l0 rfl rfl ?_
        refine g_fR (c := 8) (k := 1) (x := (sa + 4)) (pc' := 78) cd_St_commit rfl rfl rfl rfl rfl (by decide) cl34_0 ck34_0 cr34_1 ?_
        refine g_ild (pc' := 79) cd_St_commit rfl (Or.inr ⟨_, rfl, rfl, rfl⟩) l1 rfl ?_
        refine g_k1 (v := 0) (pc' := 80) cd_St_commit rfl (by decide) rfl ?_
        refine g_iast (pc' := 81) cd_St_commit rfl rfl cl34_4 ck34_4 (by rw [show bm_AL B34 (sa + 4) = 2 from ca34_2]; exact vp_in_nI (n := 1) (by decide) (by decide)) ?_
        rw [show (1 : Int32).toNatClampNeg = 1 from by decide]
        have A35 : bm_AI (bm_setI B34 (sa + 4) 1 0) (sa + 4) = (upd (bm_AI B (sa + 4)) 1 0) := ((AI_set B34 (sa + 4) 1 0).trans (congrArg (fun f => upd f 1 0) (show bm_AI B34 (sa + 4) = (bm_AI B (sa + 4)) from ci34_0)))
        have A36 : bm_AI (bm_setI B34 (sa + 4) 1 0) (sa + 5) = (bm_AI B (sa + 5)) := ((AI_setn B34 1 0 (sa + 5) (by omega)).trans (show bm_AI B34 (sa + 5) = (bm_AI B (sa + 5)) from ci34_1))
        have Z37 : fz (fun z => z = sa ∨ z = sa + 4 ∨ z = sa + 5) B (bm_setI B34 (sa + 4) 1 0) := fz_trans cz34 ⟨fr_mono (fun _ q => Or.inr (Or.inl q)) (fr_setI _ (sa + 4) _ _), rfl, rfl⟩
        refine g_ald (pc' := 82) cd_St_commit rfl (Or.inr ⟨_, rfl, rfl, rfl⟩) l0 rfl rfl ?_
        refine g_fR (c := 8) (k := 2) (x := (sa + 5)) (pc' := 85) cd_St_commit rfl rfl rfl rfl rfl (by decide) cl34_0 ck34_0 cr34_2 ?_
        refine g_ild (pc' := 86) cd_St_commit rfl (Or.inr ⟨_, rfl, rfl, rfl⟩) l1 rfl ?_
        refine g_ald (pc' := 87) cd_St_commit rfl (Or.inr ⟨_, rfl, rfl, rfl⟩) l0 rfl rfl ?_
        refine g_fI (c := 8) (k := 3) (x := nI W.length) (pc' := 90) cd_St_commit rfl rfl rfl rfl rfl (by decide) cl34_0 ck34_0 cf34_2 ?_
        refine g_ild (pc' := 92) cd_St_commit rfl (Or.inl ⟨rfl, rfl⟩) l4 rfl ?_
        refine g_k2 (v := 8) (pc' := 94) cd_St_commit rfl (by decide) rfl ?_
        refine g_pure (pc' := 95) (st' := [.int ((nI (((bk W.length) + 1) + (bk P.length))) * 8), .int (nI W.length), .int 1, .ref ((sa + 5))]) cd_St_commit rfl rfl (fun _ _ => rfl) ?_
        rw [show ((nI (((bk W.length) + 1) + (bk P.length))) * 8 : Int32) = nI ((((bk W.length) + 1) + (bk P.length)) * 8) from pk_mul (((bk W.length) + 1) + (bk P.length)) 8]
        refine g_min (pc' := 98) cd_St_commit rfl rfl rfl rfl ?_
        rw [nI_min (a := W.length) (b := ((((bk W.length) + 1) + (bk P.length)) * 8)) (by omega) (by omega)]
        refine g_iast (pc' := 99) cd_St_commit rfl rfl cl34_5 ck34_5 (by rw [show bm_AL (bm_setI B34 (sa + 4) 1 0) (sa + 5) = 2 from ca34_3]; exact vp_in_nI (n := 1) (by decide) (by decide)) ?_
        rw [show (1 : Int32).toNatClampNeg = 1 from by decide]
        have A38 : bm_AI (bm_setI (bm_setI B34 (sa + 4) 1 0) (sa + 5) 1 (nI (min W.length ((((bk W.length) + 1) + (bk P.length)) * 8)))) (sa + 4) = (upd (bm_AI B (sa + 4)) 1 0) := ((AI_setn (bm_setI B34 (sa + 4) 1 0) 1 (nI (min W.length ((((bk W.length) + 1) + (bk P.length)) * 8))) (sa + 4) (by omega)).trans (show bm_AI (bm_setI B34 (sa + 4) 1 0) (sa + 4) = (upd (bm_AI B (sa + 4)) 1 0) from A35))
        have A39 : bm_AI (bm_setI (bm_setI B34 (sa + 4) 1 0) (sa + 5) 1 (nI (min W.length ((((bk W.length) + 1) + (bk P.length)) * 8)))) (sa + 5) = (upd (bm_AI B (sa + 5)) 1 (nI (min W.length ((((bk W.length) + 1) + (bk P.length)) * 8)))) := ((AI_set (bm_setI B34 (sa + 4) 1 0) (sa + 5) 1 (nI (min W.length ((((bk W.length) + 1) + (bk P.length)) * 8)))).trans (congrArg (fun f => upd f 1 (nI (min W.length ((((bk W.length) + 1) + (bk P.length)) * 8)))) (show bm_AI (bm_setI B34 (sa + 4) 1 0) (sa + 5) = (bm_AI B (sa + 5)) from A36)))
        have Z40 : fz (fun z => z = sa ∨ z = sa + 4 ∨ z = sa + 5) B (bm_setI (bm_setI B34 (sa + 4) 1 0) (sa + 5) 1 (nI (min W.length ((((bk W.length) + 1) + (bk P.length)) * 8)))) := fz_trans Z37 ⟨fr_mono (fun _ q => Or.inr (Or.inr q)) (fr_setI _ (sa + 5) _ _), rfl, rfl⟩
        refine g_ild (pc' := 101) cd_St_commit rfl (Or.inl ⟨rfl, rfl⟩) l4 rfl ?_
        refine g_ild (pc' := 102) cd_St_commit rfl (Or.inr ⟨_, rfl, rfl, rfl⟩) l2 rfl ?_
        refine g_if2 (t := 107) (pc' := 105) cd_St_commit rfl rfl rfl (fun c102 => ?_) (fun c102 => ?_)
        · have c102 : (nI (bk W.length)) < (nI (((bk W.length) + 1) + (bk P.length))) := c102
          have hgt : bk W.length < (bk W.length + 1 + bk P.length) := (nI_ltI (by omega) (by omega)).mp c102
          refine g_ild (pc' := 109) cd_St_commit rfl (Or.inl ⟨rfl, rfl⟩) l4 rfl ?_
          refine g_ild (pc' := 110) cd_St_commit rfl (Or.inr ⟨_, rfl, rfl, rfl⟩) l2 rfl ?_
          refine g_pure (pc' := 111) (st' := [.int ((nI (((bk W.length) + 1) + (bk P.length))) - (nI (bk W.length)))]) cd_St_commit rfl rfl (fun _ _ => rfl) ?_
          rw [show ((nI (((bk W.length) + 1) + (bk P.length))) - (nI (bk W.length)) : Int32) = nI ((((bk W.length) + 1) + (bk P.length)) - (bk W.length)) from pk_sub (a := (((bk W.length) + 1) + (bk P.length))) (b := (bk W.length)) (by omega)]
          refine g_k1 (v := 1) (pc' := 112) cd_St_commit rfl (by decide) rfl ?_
          refine g_pure (pc' := 113) (st' := [.int ((nI ((((bk W.length) + 1) + (bk P.length)) - (bk W.length))) - 1)]) cd_St_commit rfl rfl (fun _ _ => rfl) ?_
          rw [show ((nI ((((bk W.length) + 1) + (bk P.length)) - (bk W.length))) - 1 : Int32) = nI (((((bk W.length) + 1) + (bk P.length)) - (bk W.length)) - 1) from pk_sub (a := ((((bk W.length) + 1) + (bk P.length)) - (bk W.length))) (b := 1) (by omega)]
          refine g_ist (pc' := 115) cd_St_commit rfl (Or.inl ⟨rfl, rfl⟩) (by decide) rfl (fun lv el => ?_)
          have l0 := tm_lk el l0 rfl (by decide)
          have l1 := tm_lk el l1 rfl (by decide)
          have l2 := tm_lk el l2 rfl (by decide)
          have l3 := tm_lk el l3 rfl (by decide)
          have l4 := tm_lk el l4 rfl (by decide)
          have l5 : lv.lookup 5 = some (.int (nI (((((bk W.length) + 1) + (bk P.length)) - (bk W.length)) - 1))) := tm_lks el
          clear el
          refine g_ald (pc' := 116) cd_St_commit rfl (Or.inr ⟨_, rfl, rfl, rfl⟩) l0 rfl rfl ?_
          refine g_fR (c := 8) (k := 1) (x := (sa + 4)) (pc' := 119) cd_St_commit rfl rfl rfl rfl rfl (by decide) cl34_0 ck34_0 cr34_1 ?_
          refine g_ald (pc' := 120) cd_St_commit rfl (Or.inr ⟨_, rfl, rfl, rfl⟩) l0 rfl rfl ?_
          refine g_fI (c := 8) (k := 4) (x := 0) (pc' := 123) cd_St_commit rfl rfl rfl rfl rfl (by decide) cl34_0 ck34_0 cf34_0 ?_
          refine g_ald (pc' := 124) cd_St_commit rfl (Or.inr ⟨_, rfl, rfl, rfl⟩) l0 rfl rfl ?_
          refine g_fR (c := 8) (k := 2) (x := (sa + 5)) (pc' := 127) cd_St_commit rfl rfl rfl rfl rfl (by decide) cl34_0 ck34_0 cr34_2 ?_
          refine g_ald (pc' := 128) cd_St_commit rfl (Or.inr ⟨_, rfl, rfl, rfl⟩) l0 rfl rfl ?_
          refine g_fI (c := 8) (k := 4) (x := 0) (pc' := 131) cd_St_commit rfl rfl rfl rfl rfl (by decide) cl34_0 ck34_0 cf34_0 ?_
          refine g_aI (x := nI P.length) (pc' := 132) cd_St_commit rfl rfl cl34_5 ck34_5 (by rw [show bm_AL (bm_setI (bm_setI B34 (sa + 4) 1 0) (sa + 5) 1 (nI (min W.length ((((bk W.length) + 1) + (bk P.length)) * 8)))) (sa + 5) = 2 from ca34_3]; exact vp_in_nI (n := 0) (by decide) (by decide)) (show bm_AI (bm_setI (bm_setI B34 (sa + 4) 1 0) (sa + 5) 1 (nI (min W.length ((((bk W.length) + 1) + (bk P.length)) * 8)))) (sa + 5) 0 = _ by rw [show bm_AI (bm_setI (bm_setI B34 (sa + 4) 1 0) (sa + 5) 1 (nI (min W.length ((((bk W.length) + 1) + (bk P.length)) * 8)))) (sa + 5) = _ from A39, pk_un (by decide)]; exact hR.1.2.2.1.2.1) ?_
          refine g_ild (pc' := 134) cd_St_commit rfl (Or.inl ⟨rfl, rfl⟩) l5 rfl ?_
          refine g_k2 (v := 8) (pc' := 136) cd_St_commit rfl (by decide) rfl ?_
          refine g_pure (pc' := 137) (st' := [.int ((nI (((((bk W.length) + 1) + (bk P.length)) - (bk W.length)) - 1)) * 8), .int (nI P.length), .int 0, .ref ((sa + 4))]) cd_St_commit rfl rfl (fun _ _ => rfl) ?_
          rw [show ((nI (((((bk W.length) + 1) + (bk P.length)) - (bk W.length)) - 1)) * 8 : Int32) = nI ((((((bk W.length) + 1) + (bk P.length)) - (bk W.length)) - 1) * 8) from pk_mul (((((bk W.length) + 1) + (bk P.length)) - (bk W.length)) - 1) 8]
          refine g_min (pc' := 140) cd_St_commit rfl rfl rfl rfl ?_
          rw [nI_min (a := P.length) (b := ((((((bk W.length) + 1) + (bk P.length)) - (bk W.length)) - 1) * 8)) (by omega) (by omega)]
          refine g_iast (pc' := 141) cd_St_commit rfl rfl cl34_4 ck34_4 (by rw [show bm_AL (bm_setI (bm_setI B34 (sa + 4) 1 0) (sa + 5) 1 (nI (min W.length ((((bk W.length) + 1) + (bk P.length)) * 8)))) (sa + 4) = 2 from ca34_2]; exact vp_in_nI (n := 0) (by decide) (by decide)) ?_
          rw [show (0 : Int32).toNatClampNeg = 0 from by decide]
          have A41 : bm_AI (bm_setI (bm_setI (bm_setI B34 (sa + 4) 1 0) (sa + 5) 1 (nI (min W.length ((((bk W.length) + 1) + (bk P.length)) * 8)))) (sa + 4) 0 (nI (min P.length ((((((bk W.length) + 1) + (bk P.length)) - (bk W.length)) - 1) * 8)))) (sa + 4) = (upd (upd (bm_AI B (sa + 4)) 1 0) 0 (nI (min P.length ((((((bk W.length) + 1) + (bk P.length)) - (bk W.length)) - 1) * 8)))) := ((AI_set (bm_setI (bm_setI B34 (sa + 4) 1 0) (sa + 5) 1 (nI (min W.length ((((bk W.length) + 1) + (bk P.length)) * 8)))) (sa + 4) 0 (nI (min P.length ((((((bk W.length) + 1) + (bk P.length)) - (bk W.length)) - 1) * 8)))).trans (congrArg (fun f => upd f 0 (nI (min P.length ((((((bk W.length) + 1) + (bk P.length)) - (bk W.length)) - 1) * 8)))) (show bm_AI (bm_setI (bm_setI B34 (sa + 4) 1 0) (sa + 5) 1 (nI (min W.length ((((bk W.length) + 1) + (bk P.length)) * 8)))) (sa + 4) = (upd (bm_AI B (sa + 4)) 1 0) from A38)))
          have A42 : bm_AI (bm_setI (bm_setI (bm_setI B34 (sa + 4) 1 0) (sa + 5) 1 (nI (min W.length ((((bk W.length) + 1) + (bk P.length)) * 8)))) (sa + 4) 0 (nI (min P.length ((((((bk W.length) + 1) + (bk P.length)) - (bk W.length)) - 1) * 8)))) (sa + 5) = (upd (bm_AI B (sa + 5)) 1 (nI (min W.length ((((bk W.length) + 1) + (bk P.length)) * 8)))) := ((AI_setn (bm_setI (bm_setI B34 (sa + 4) 1 0) (sa + 5) 1 (nI (min W.length ((((bk W.length) + 1) + (bk P.length)) * 8)))) 0 (nI (min P.length ((((((bk W.length) + 1) + (bk P.length)) - (bk W.length)) - 1) * 8))) (sa + 5) (by omega)).trans (show bm_AI (bm_setI (bm_setI B34 (sa + 4) 1 0) (sa + 5) 1 (nI (min W.length ((((bk W.length) + 1) + (bk P.length)) * 8)))) (sa + 5) = (upd (bm_AI B (sa + 5)) 1 (nI (min W.length ((((bk W.length) + 1) + (bk P.length)) * 8)))) from A39))
          have Z43 : fz (fun z => z = sa ∨ z = sa + 4 ∨ z = sa + 5) B (bm_setI (bm_setI (bm_setI B34 (sa + 4) 1 0) (sa + 5) 1 (nI (min W.length ((((bk W.length) + 1) + (bk P.length)) * 8)))) (sa + 4) 0 (nI (min P.length ((((((bk W.length) + 1) + (bk P.length)) - (bk W.length)) - 1) * 8)))) := fz_trans Z40 ⟨fr_mono (fun _ q => Or.inr (Or.inl q)) (fr_setI _ (sa + 4) _ _), rfl, rfl⟩
          refine g_ald (pc' := 142) cd_St_commit rfl (Or.inr ⟨_, rfl, rfl, rfl⟩) l0 rfl rfl ?_
          refine g_ild (pc' := 143) cd_St_commit rfl (Or.inr ⟨_, rfl, rfl, rfl⟩) l1 rfl ?_
          refine g_putI (c := 8) (k := 4) (pc' := 146) cd_St_commit rfl rfl rfl rfl (by simp [tm_okV, narrow, fits]) (Or.inl rfl) rfl (by decide) cl34_0 ck34_0 ?_
          have P44 : bm_FI (bm_putI (bm_setI (bm_setI (bm_setI B34 (sa + 4) 1 0) (sa + 5) 1 (nI (min W.length ((((bk W.length) + 1) + (bk P.length)) * 8)))) (sa + 4) 0 (nI (min P.length ((((((bk W.length) + 1) + (bk P.length)) - (bk W.length)) - 1) * 8)))) 8 4 sa 1) 8 4 sa = 1 := if_pos ⟨rfl, rfl, rfl⟩
          have Z45 : fz (fun z => z = sa ∨ z = sa + 4 ∨ z = sa + 5) B (bm_putI (bm_setI (bm_setI (bm_setI B34 (sa + 4) 1 0) (sa + 5) 1 (nI (min W.length ((((bk W.length) + 1) + (bk P.length)) * 8)))) (sa + 4) 0 (nI (min P.length ((((((bk W.length) + 1) + (bk P.length)) - (bk W.length)) - 1) * 8)))) 8 4 sa 1) := fz_trans Z43 ⟨fr_mono (fun _ q => Or.inl q) (fr_putI _ 8 4 sa _), rfl, rfl⟩
          refine g_ald (pc' := 147) cd_St_commit rfl (Or.inr ⟨_, rfl, rfl, rfl⟩) l0 rfl rfl ?_
          refine g_fI (c := 8) (k := 6) (x := 0) (pc' := 150) cd_St_commit rfl rfl rfl rfl rfl (by decide) cl34_0 ck34_0 cf34_3 ?_
          refine g_if1 (t := 157) (pc' := 153) cd_St_commit rfl rfl rfl (fun c150 => ?_) (fun c150 => ?_)
          · have c150 : (0 : Int32) = 0 := c150
            refine g_k1 (v := 2) (pc' := 158) cd_St_commit rfl (by decide) rfl ?_
            have g4 : bm_AI (bm_putI (bm_setI (bm_setI (bm_setI B34 (sa + 4) 1 0) (sa + 5) 1 (nI (min W.length ((((bk W.length) + 1) + (bk P.length)) * 8)))) (sa + 4) 0 (nI (min P.length ((((((bk W.length) + 1) + (bk P.length)) - (bk W.length)) - 1) * 8)))) 8 4 sa 1) (sa + 4) = (upd (upd (bm_AI B (sa + 4)) 1 0) 0 (nI (min P.length ((((((bk W.length) + 1) + (bk P.length)) - (bk W.length)) - 1) * 8)))) := A41
            have g5 : bm_AI (bm_putI (bm_setI (bm_setI (bm_setI B34 (sa + 4) 1 0) (sa + 5) 1 (nI (min W.length ((((bk W.length) + 1) + (bk P.length)) * 8)))) (sa + 4) 0 (nI (min P.length ((((((bk W.length) + 1) + (bk P.length)) - (bk W.length)) - 1) * 8)))) 8 4 sa 1) (sa + 5) = (upd (bm_AI B (sa + 5)) 1 (nI (min W.length ((((bk W.length) + 1) + (bk P.length)) * 8)))) := A42
            have gp : bm_AI (bm_putI (bm_setI (bm_setI (bm_setI B34 (sa + 4) 1 0) (sa + 5) 1 (nI (min W.length ((((bk W.length) + 1) + (bk P.length)) * 8)))) (sa + 4) 0 (nI (min P.length ((((((bk W.length) + 1) + (bk P.length)) - (bk W.length)) - 1) * 8)))) 8 4 sa 1) (sa + 2) = bm_AI B (sa + 2) := fr_AI Z45.1 hS.2.2.2.2.2.1.1 (by omega)
            have go : bm_AI (bm_putI (bm_setI (bm_setI (bm_setI B34 (sa + 4) 1 0) (sa + 5) 1 (nI (min W.length ((((bk W.length) + 1) + (bk P.length)) * 8)))) (sa + 4) 0 (nI (min P.length ((((((bk W.length) + 1) + (bk P.length)) - (bk W.length)) - 1) * 8)))) 8 4 sa 1) (sa + 3) = bm_AI B (sa + 3) := fr_AI Z45.1 hS.2.2.2.2.2.2.1.1 (by omega)
            have hE := st_commit_2 (p := false) (P := P) (W := W) rfl (show (bk W.length + 1 + bk P.length) = st_made none (bk W.length + 1 + bk P.length) from rfl) (fun q => absurd ((nI_ltI (by omega) (by omega)).mp c102) (by omega)) (fun q => absurd ((nI_leI (by omega) (by omega)).mp c63) (by omega))
            have kk2 := kk
            rw [show st_commit false P (none) W = _ from hE] at kk2
            exact g_reti cd_St_commit rfl ⟨_, rfl, (kk2 _ ⟨⟨StS_fr hS Z45.1, StA_fr hS hAA Z45.1 (by omega)⟩, ⟨P44, cf34_1, cf34_3, fun _ q => by cases q⟩, ⟨(show bm_AI (bm_putI (bm_setI (bm_setI (bm_setI B34 (sa + 4) 1 0) (sa + 5) 1 (nI (min W.length ((((bk W.length) + 1) + (bk P.length)) * 8)))) (sa + 4) 0 (nI (min P.length ((((((bk W.length) + 1) + (bk P.length)) - (bk W.length)) - 1) * 8)))) 8 4 sa 1) (sa + 4) 1 = _ by rw [g4]; rw [pk_un (by decide)]; rfl), (show bm_AI (bm_putI (bm_setI (bm_setI (bm_setI B34 (sa + 4) 1 0) (sa + 5) 1 (nI (min W.length ((((bk W.length) + 1) + (bk P.length)) * 8)))) (sa + 4) 0 (nI (min P.length ((((((bk W.length) + 1) + (bk P.length)) - (bk W.length)) - 1) * 8)))) 8 4 sa 1) (sa + 5) 1 = _ by rw [g5]; simp only [upd, if_true]; congr 1; have := (nI_ltI (by omega) (by omega)).mp c102; omega), hw, show EN (bm_AI (bm_putI (bm_setI (bm_setI (bm_setI B34 (sa + 4) 1 0) (sa + 5) 1 (nI (min W.length ((((bk W.length) + 1) + (bk P.length)) * 8)))) (sa + 4) 0 (nI (min P.length ((((((bk W.length) + 1) + (bk P.length)) - (bk W.length)) - 1) * 8)))) 8 4 sa 1) (sa + 3)) T W 0 by rw [go]; exact hR.2.2.2⟩, min P.length (8 * ((bk W.length + 1 + bk P.length) - bk W.length - 1)), (show bm_AI (bm_putI (bm_setI (bm_setI (bm_setI B34 (sa + 4) 1 0) (sa + 5) 1 (nI (min W.length ((((bk W.length) + 1) + (bk P.length)) * 8)))) (sa + 4) 0 (nI (min P.length ((((((bk W.length) + 1) + (bk P.length)) - (bk W.length)) - 1) * 8)))) 8 4 sa 1) (sa + 4) 0 = _ by rw [g4]; simp only [upd, if_true]; congr 1; omega), (show bm_AI (bm_putI (bm_setI (bm_setI (bm_setI B34 (sa + 4) 1 0) (sa + 5) 1 (nI (min W.length ((((bk W.length) + 1) + (bk P.length)) * 8)))) (sa + 4) 0 (nI (min P.length ((((((bk W.length) + 1) + (bk P.length)) - (bk W.length)) - 1) * 8)))) 8 4 sa 1) (sa + 5) 0 = _ by rw [g5]; rw [pk_un (by decide)]; exact hR.1.2.2.1.2.1.trans (congrArg nI (by simp; omega))), (by simp; omega), show EN (bm_AI (bm_putI (bm_setI (bm_setI (bm_setI B34 (sa + 4) 1 0) (sa + 5) 1 (nI (min W.length ((((bk W.length) + 1) + (bk P.length)) * 8)))) (sa + 4) 0 (nI (min P.length ((((((bk W.length) + 1) + (bk P.length)) - (bk W.length)) - 1) * 8)))) 8 4 sa 1) (sa + 2)) T _ _ by rw [gp]; exact EN_drop hR.1.2.2.1.2.2.2⟩ (fz_mono (fun _ q => q.elim Or.inl (fun q => q.elim (fun q => Or.inr (Or.inr (Or.inr (Or.inl q)))) (fun q => Or.inr (Or.inr (Or.inr (Or.inr q)))))) Z45))⟩
          · exact absurd (show ¬ (0 : Int32) = 0 from c150) (by decide)
        · have c102 : ¬ (nI (bk W.length)) < (nI (((bk W.length) + 1) + (bk P.length))) := c102
          exact absurd ((nI_leI (by omega) (by omega)).mp (Int32.not_lt.mp c102)) (by have := (nI_leI (by omega) (by omega)).mp c63; omega)
      · have c63 : ¬ (nI (((bk W.length) + 1) + (bk P.length))) ≤ (nI (((bk W.length) + 1) + (bk P.length))) := c63
        exact absurd (nI_le (Nat.le_refl _) (by omega)) c63
  · show bm_G sc (d + 1) 56 0 [(0, .ref sa)] [] B _
    generalize elv : ([(0, .ref sa)] : tm_L) = lv
    have l0 : lv.lookup 0 = some (.ref sa) := by rw [← elv]; rfl
    clear elv
    refine g_k1 (v := 1) (pc' := 1) cd_St_commit rfl (by decide) rfl ?_
    refine g_ald (pc' := 2) cd_St_commit rfl (Or.inr ⟨_, rfl, rfl, rfl⟩) l0 rfl rfl ?_
    refine g_fI (c := 8) (k := 4) (x := 1) (pc' := 5) cd_St_commit rfl rfl rfl rfl rfl (by decide) hS.1.1 hS.1.2 hR.1.2.1.1 ?_
    refine g_pure (pc' := 6) (st' := [.int (1 - 1)]) cd_St_commit rfl rfl (fun _ _ => rfl) ?_
    rw [show (1 - 1 : Int32) = 0 from by decide]
    refine g_ist (pc' := 7) cd_St_commit rfl (Or.inr ⟨_, rfl, rfl, rfl⟩) (by decide) rfl (fun lv el => ?_)
    have l0 := tm_lk el l0 rfl (by decide)
    have l1 : lv.lookup 1 = some (.int 0) := tm_lks el
    clear el
    refine g_ald (pc' := 8) cd_St_commit rfl (Or.inr ⟨_, rfl, rfl, rfl⟩) l0 rfl rfl ?_
    refine g_fI (c := 8) (k := 3) (x := nI W.length) (pc' := 11) cd_St_commit rfl rfl rfl rfl rfl (by decide) hS.1.1 hS.1.2 hR.2.1 ?_
    refine g_calli (pc' := 14) cd_St_commit rfl rfl rfl rfl rfl (tm_invS rfl rfl cd_St_blocks rfl (Nat.le_of_ble_eq_true rfl)) (t_blocks (by omega) ?_)
    show bm_G _ _ _ 14 _ [.int (nI (bk W.length))] B _
    refine g_ist (pc' := 15) cd_St_commit rfl (Or.inr ⟨_, rfl, rfl, rfl⟩) (by decide) rfl (fun lv el => ?_)
    have l0 := tm_lk el l0 rfl (by decide)
    have l1 := tm_lk el l1 rfl (by decide)
    have l2 : lv.lookup 2 = some (.int (nI (bk W.length))) := tm_lks el
    clear el
    refine g_ild (pc' := 16) cd_St_commit rfl (Or.inr ⟨_, rfl, rfl, rfl⟩) l2 rfl ?_
    refine g_k1 (v := 1) (pc' := 17) cd_St_commit rfl (by decide) rfl ?_
    refine g_pure (pc' := 18) (st' := [.int ((nI (bk W.length)) + 1)]) cd_St_commit rfl rfl (fun _ _ => rfl) ?_
    rw [show ((nI (bk W.length)) + 1 : Int32) = nI ((bk W.length) + 1) from nI_add (bk W.length) 1]
    refine g_ald (pc' := 19) cd_St_commit rfl (Or.inr ⟨_, rfl, rfl, rfl⟩) l0 rfl rfl ?_
    refine g_fR (c := 8) (k := 2) (x := (sa + 5)) (pc' := 22) cd_St_commit rfl rfl rfl rfl rfl (by decide) hS.1.1 hS.1.2 hS.2.2.2.1 ?_
    refine g_ald (pc' := 23) cd_St_commit rfl (Or.inr ⟨_, rfl, rfl, rfl⟩) l0 rfl rfl ?_
    refine g_fI (c := 8) (k := 4) (x := 1) (pc' := 26) cd_St_commit rfl rfl rfl rfl rfl (by decide) hS.1.1 hS.1.2 hR.1.2.1.1 ?_
    refine g_aI (x := nI P.length) (pc' := 27) cd_St_commit rfl rfl hS.2.2.2.2.2.2.2.2.1 hS.2.2.2.2.2.2.2.2.2.1 (by rw [show bm_AL B (sa + 5) = 2 from hS.2.2.2.2.2.2.2.2.2.2]; exact vp_in_nI (n := 1) (by decide) (by decide)) (show bm_AI B (sa + 5) 1 = _ from hR.1.2.2.1.2.1) ?_
    refine g_calli (pc' := 30) cd_St_commit rfl rfl rfl rfl rfl (tm_invS rfl rfl cd_St_blocks rfl (Nat.le_of_ble_eq_true rfl)) (t_blocks (by omega) ?_)
    show bm_G _ _ _ 30 _ [.int (nI (bk P.length)), .int (nI ((bk W.length) + 1))] B _
    refine g_pure (pc' := 31) (st' := [.int ((nI ((bk W.length) + 1)) + (nI (bk P.length)))]) cd_St_commit rfl rfl (fun _ _ => rfl) ?_
    rw [show ((nI ((bk W.length) + 1)) + (nI (bk P.length)) : Int32) = nI (((bk W.length) + 1) + (bk P.length)) from nI_add ((bk W.length) + 1) (bk P.length)]
    refine g_ist (pc' := 32) cd_St_commit rfl (Or.inr ⟨_, rfl, rfl, rfl⟩) (by decide) rfl (fun lv el => ?_)
    have l0 := tm_lk el l0 rfl (by decide)
    have l1 := tm_lk el l1 rfl (by decide)
    have l2 := tm_lk el l2 rfl (by decide)
    have l3 : lv.lookup 3 = some (.int (nI (((bk W.length) + 1) + (bk P.length)))) := tm_lks el
    clear el
    refine g_ald (pc' := 33) cd_St_commit rfl (Or.inr ⟨_, rfl, rfl, rfl⟩) l0 rfl rfl ?_
    refine g_fI (c := 8) (k := 5) (x := (-1)) (pc' := 36) cd_St_commit rfl rfl rfl rfl rfl (by decide) hS.1.1 hS.1.2 hR.1.2.1.2.1 ?_
    refine g_k1 (v := (-1)) (pc' := 37) cd_St_commit rfl (by decide) rfl ?_
    refine g_if2 (t := 44) (pc' := 40) cd_St_commit rfl rfl rfl (fun c37 => ?_) (fun c37 => ?_)
    · exact absurd (show ¬ ((-1) : Int32) = (-1) from c37) (by decide)
    · have c37 : ((-1) : Int32) = (-1) := Classical.not_not.mp c37
      refine g_ild (pc' := 41) cd_St_commit rfl (Or.inr ⟨_, rfl, rfl, rfl⟩) l3 rfl ?_
      refine g_pure (pc' := 52) (st' := [.int (nI (((bk W.length) + 1) + (bk P.length)))]) cd_St_commit rfl rfl (fun _ _ => rfl) ?_
      refine g_ist (pc' := 54) cd_St_commit rfl (Or.inl ⟨rfl, rfl⟩) (by decide) rfl (fun lv el => ?_)
      have l0 := tm_lk el l0 rfl (by decide)
      have l1 := tm_lk el l1 rfl (by decide)
      have l2 := tm_lk el l2 rfl (by decide)
      have l3 := tm_lk el l3 rfl (by decide)
      have l4 : lv.lookup 4 = some (.int (nI (((bk W.length) + 1) + (bk P.length)))) := tm_lks el
      clear el
      refine g_ald (pc' := 55) cd_St_commit rfl (Or.inr ⟨_, rfl, rfl, rfl⟩) l0 rfl rfl ?_
      refine g_k1 (v := (-1)) (pc' := 56) cd_St_commit rfl (by decide) rfl ?_
      refine g_putI (c := 8) (k := 5) (pc' := 59) cd_St_commit rfl rfl rfl rfl (by simp [tm_okV, narrow, fits]) (Or.inl rfl) rfl (by decide) hS.1.1 hS.1.2 ?_
      have P46 : bm_FI (bm_putI B 8 5 sa (-1)) 8 5 sa = (-1) := if_pos ⟨rfl, rfl, rfl⟩
      have Z47 : fz (fun z => z = sa ∨ z = sa + 4 ∨ z = sa + 5) B (bm_putI B 8 5 sa (-1)) := fz_trans (fz_rfl _ B) ⟨fr_mono (fun _ q => Or.inl q) (fr_putI _ 8 5 sa _), rfl, rfl⟩
      refine g_ald (pc' := 60) cd_St_commit rfl (Or.inr ⟨_, rfl, rfl, rfl⟩) l0 rfl rfl ?_
      refine g_ild (pc' := 62) cd_St_commit rfl (Or.inl ⟨rfl, rfl⟩) l4 rfl ?_
      refine g_ild (pc' := 63) cd_St_commit rfl (Or.inr ⟨_, rfl, rfl, rfl⟩) l3 rfl ?_
      refine g_if2 (t := 70) (pc' := 66) cd_St_commit rfl rfl rfl (fun c63 => ?_) (fun c63 => ?_)
      · have c63 : (nI (((bk W.length) + 1) + (bk P.length))) ≤ (nI (((bk W.length) + 1) + (bk P.length))) := c63
        refine g_k1 (v := 0) (pc' := 71) cd_St_commit rfl (by decide) rfl ?_
        refine g_putI (c := 8) (k := 6) (pc' := 74) cd_St_commit rfl rfl rfl rfl (by decide) (Or.inl rfl) rfl (by decide) hS.1.1 hS.1.2 ?_
        have P48 : bm_FI (bm_putI (bm_putI B 8 5 sa (-1)) 8 6 sa 0) 8 6 sa = 0 := if_pos ⟨rfl, rfl, rfl⟩
        have Z49 : fz (fun z => z = sa ∨ z = sa + 4 ∨ z = sa + 5) B (bm_putI (bm_putI B 8 5 sa (-1)) 8 6 sa 0) := fz_trans Z47 ⟨fr_mono (fun _ q => Or.inl q) (fr_putI _ 8 6 sa _), rfl, rfl⟩
        obtain ⟨B50, eB50⟩ : ∃ Bx, Bx = (bm_putI (bm_putI B 8 5 sa (-1)) 8 6 sa 0) := ⟨_, rfl⟩
        have cl50_0 : sa < bm_n B50 := eB50 ▸ (show sa < bm_n (bm_putI (bm_putI B 8 5 sa (-1)) 8 6 sa 0) from hS.1.1)
        have ck50_0 : bm_K B50 sa = 8 := eB50 ▸ (show bm_K (bm_putI (bm_putI B 8 5 sa (-1)) 8 6 sa 0) sa = 8 from hS.1.2)
        have cl50_1 : (sa + 1) < bm_n B50 := eB50 ▸ (show (sa + 1) < bm_n (bm_putI (bm_putI B 8 5 sa (-1)) 8 6 sa 0) from hS.2.2.2.2.1.1)
        have ck50_1 : bm_K B50 (sa + 1) = 21 := eB50 ▸ (show bm_K (bm_putI (bm_putI B 8 5 sa (-1)) 8 6 sa 0) (sa + 1) = 21 from hS.2.2.2.2.1.2.1)
        have cl50_2 : (sa + 2) < bm_n B50 := eB50 ▸ (show (sa + 2) < bm_n (bm_putI (bm_putI B 8 5 sa (-1)) 8 6 sa 0) from hS.2.2.2.2.2.1.1)
        have ck50_2 : bm_K B50 (sa + 2) = 13 := eB50 ▸ (show bm_K (bm_putI (bm_putI B 8 5 sa (-1)) 8 6 sa 0) (sa + 2) = 13 from hS.2.2.2.2.2.1.2.1)
        have cl50_3 : (sa + 3) < bm_n B50 := eB50 ▸ (show (sa + 3) < bm_n (bm_putI (bm_putI B 8 5 sa (-1)) 8 6 sa 0) from hS.2.2.2.2.2.2.1.1)
        have ck50_3 : bm_K B50 (sa + 3) = 13 := eB50 ▸ (show bm_K (bm_putI (bm_putI B 8 5 sa (-1)) 8 6 sa 0) (sa + 3) = 13 from hS.2.2.2.2.2.2.1.2.1)
        have cl50_4 : (sa + 4) < bm_n B50 := eB50 ▸ (show (sa + 4) < bm_n (bm_putI (bm_putI B 8 5 sa (-1)) 8 6 sa 0) from hS.2.2.2.2.2.2.2.1.1)
        have ck50_4 : bm_K B50 (sa + 4) = 13 := eB50 ▸ (show bm_K (bm_putI (bm_putI B 8 5 sa (-1)) 8 6 sa 0) (sa + 4) = 13 from hS.2.2.2.2.2.2.2.1.2.1)
        have cl50_5 : (sa + 5) < bm_n B50 := eB50 ▸ (show (sa + 5) < bm_n (bm_putI (bm_putI B 8 5 sa (-1)) 8 6 sa 0) from hS.2.2.2.2.2.2.2.2.1)
        have ck50_5 : bm_K B50 (sa + 5) = 13 := eB50 ▸ (show bm_K (bm_putI (bm_putI B 8 5 sa (-1)) 8 6 sa 0) (sa + 5) = 13 from hS.2.2.2.2.2.2.2.2.2.1)
        have cf50_0 : bm_FI B50 8 4 sa = 1 := eB50 ▸ (show bm_FI (bm_putI (bm_putI B 8 5 sa (-1)) 8 6 sa 0) 8 4 sa = 1 from hR.1.2.1.1)
        have cf50_1 : bm_FI B50 8 5 sa = (-1) := eB50 ▸ (show bm_FI (bm_putI (bm_putI B 8 5 sa (-1)) 8 6 sa 0) 8 5 sa = (-1) from P46)
        have cf50_2 : bm_FI B50 8 3 sa = nI W.length := eB50 ▸ (show bm_FI (bm_putI (bm_putI B 8 5 sa (-1)) 8 6 sa 0) 8 3 sa = nI W.length from hR.2.1)
        have cf50_3 : bm_FI B50 8 6 sa = 0 := eB50 ▸ (show bm_FI (bm_putI (bm_putI B 8 5 sa (-1)) 8 6 sa 0) 8 6 sa = 0 from P48)
        have cr50_0 : bm_FR B50 8 0 sa = some (sa + 1) := eB50 ▸ (show bm_FR (bm_putI (bm_putI B 8 5 sa (-1)) 8 6 sa 0) 8 0 sa = some (sa + 1) from hS.2.1)
        have cr50_1 : bm_FR B50 8 1 sa = some (sa + 4) := eB50 ▸ (show bm_FR (bm_putI (bm_putI B 8 5 sa (-1)) 8 6 sa 0) 8 1 sa = some (sa + 4) from hS.2.2.1)
        have cr50_2 : bm_FR B50 8 2 sa = some (sa + 5) := eB50 ▸ (show bm_FR (bm_putI (bm_putI B 8 5 sa (-1)) 8 6 sa 0) 8 2 sa = some (sa + 5) from hS.2.2.2.1)
        have ci50_0 : bm_AI B50 (sa + 4) = (bm_AI B (sa + 4)) := eB50 ▸ (show bm_AI (bm_putI (bm_putI B 8 5 sa (-1)) 8 6 sa 0) (sa + 4) = (bm_AI B (sa + 4)) from rfl)
        have ci50_1 : bm_AI B50 (sa + 5) = (bm_AI B (sa + 5)) := eB50 ▸ (show bm_AI (bm_putI (bm_putI B 8 5 sa (-1)) 8 6 sa 0) (sa + 5) = (bm_AI B (sa + 5)) from rfl)
        have ca50_0 : bm_AL B50 (sa + 2) = 1072 := eB50 ▸ (show bm_AL (bm_putI (bm_putI B 8 5 sa (-1)) 8 6 sa 0) (sa + 2) = 1072 from hS.2.2.2.2.2.1.2.2)
        have ca50_1 : bm_AL B50 (sa + 3) = 1072 := eB50 ▸ (show bm_AL (bm_putI (bm_putI B 8 5 sa (-1)) 8 6 sa 0) (sa + 3) = 1072 from hS.2.2.2.2.2.2.1.2.2)
        have ca50_2 : bm_AL B50 (sa + 4) = 2 := eB50 ▸ (show bm_AL (bm_putI (bm_putI B 8 5 sa (-1)) 8 6 sa 0) (sa + 4) = 2 from hS.2.2.2.2.2.2.2.1.2.2)
        have ca50_3 : bm_AL B50 (sa + 5) = 2 := eB50 ▸ (show bm_AL (bm_putI (bm_putI B 8 5 sa (-1)) 8 6 sa 0) (sa + 5) = 2 from hS.2.2.2.2.2.2.2.2.2.2)
        have ca50_4 : bm_AL B50 (sa + 1) = 2 := eB50 ▸ (show bm_AL (bm_putI (bm_putI B 8 5 sa (-1)) 8 6 sa 0) (sa + 1) = 2 from hS.2.2.2.2.1.2.2)
        have cz50 : fz (fun z => z = sa ∨ z = sa + 4 ∨ z = sa + 5) B B50 := eB50 ▸ (show fz (fun z => z = sa ∨ z = sa + 4 ∨ z = sa + 5) B (bm_putI (bm_putI B 8 5 sa (-1)) 8 6 sa 0) from Z49)
        rw [← eB50]
        clear eB50
        refine g_ald (pc' := 75) cd_St_commit rfl (Or.inr ⟨_, rfl, rfl, rfl⟩) l0 rfl rfl ?_
        refine g_fR (c := 8) (k := 1) (x := (sa + 4)) (pc' := 78) cd_St_commit rfl rfl rfl rfl rfl (by decide) cl50_0 ck50_0 cr50_1 ?_
        refine g_ild (pc' := 79) cd_St_commit rfl (Or.inr ⟨_, rfl, rfl, rfl⟩) l1 rfl ?_
        refine g_k1 (v := 0) (pc' := 80) cd_St_commit rfl (by decide) rfl ?_
        refine g_iast (pc' := 81) cd_St_commit rfl rfl cl50_4 ck50_4 (by rw [show bm_AL B50 (sa + 4) = 2 from ca50_2]; exact vp_in_nI (n := 0) (by decide) (by decide)) ?_
        rw [show (0 : Int32).toNatClampNeg = 0 from by decide]
        have A51 : bm_AI (bm_setI B50 (sa + 4) 0 0) (sa + 4) = (upd (bm_AI B (sa + 4)) 0 0) := ((AI_set B50 (sa + 4) 0 0).trans (congrArg (fun f => upd f 0 0) (show bm_AI B50 (sa + 4) = (bm_AI B (sa + 4)) from ci50_0)))
        have A52 : bm_AI (bm_setI B50 (sa + 4) 0 0) (sa + 5) = (bm_AI B (sa + 5)) := ((AI_setn B50 0 0 (sa + 5) (by omega)).trans (show bm_AI B50 (sa + 5) = (bm_AI B (sa + 5)) from ci50_1))
        have Z53 : fz (fun z => z = sa ∨ z = sa + 4 ∨ z = sa + 5) B (bm_setI B50 (sa + 4) 0 0) := fz_trans cz50 ⟨fr_mono (fun _ q => Or.inr (Or.inl q)) (fr_setI _ (sa + 4) _ _), rfl, rfl⟩
        refine g_ald (pc' := 82) cd_St_commit rfl (Or.inr ⟨_, rfl, rfl, rfl⟩) l0 rfl rfl ?_
        refine g_fR (c := 8) (k := 2) (x := (sa + 5)) (pc' := 85) cd_St_commit rfl rfl rfl rfl rfl (by decide) cl50_0 ck50_0 cr50_2 ?_
        refine g_ild (pc' := 86) cd_St_commit rfl (Or.inr ⟨_, rfl, rfl, rfl⟩) l1 rfl ?_
        refine g_ald (pc' := 87) cd_St_commit rfl (Or.inr ⟨_, rfl, rfl, rfl⟩) l0 rfl rfl ?_
        refine g_fI (c := 8) (k := 3) (x := nI W.length) (pc' := 90) cd_St_commit rfl rfl rfl rfl rfl (by decide) cl50_0 ck50_0 cf50_2 ?_
        refine g_ild (pc' := 92) cd_St_commit rfl (Or.inl ⟨rfl, rfl⟩) l4 rfl ?_
        refine g_k2 (v := 8) (pc' := 94) cd_St_commit rfl (by decide) rfl ?_
        refine g_pure (pc' := 95) (st' := [.int ((nI (((bk W.length) + 1) + (bk P.length))) * 8), .int (nI W.length), .int 0, .ref ((sa + 5))]) cd_St_commit rfl rfl (fun _ _ => rfl) ?_
        rw [show ((nI (((bk W.length) + 1) + (bk P.length))) * 8 : Int32) = nI ((((bk W.length) + 1) + (bk P.length)) * 8) from pk_mul (((bk W.length) + 1) + (bk P.length)) 8]
        refine g_min (pc' := 98) cd_St_commit rfl rfl rfl rfl ?_
        rw [nI_min (a := W.length) (b := ((((bk W.length) + 1) + (bk P.length)) * 8)) (by omega) (by omega)]
        refine g_iast (pc' := 99) cd_St_commit rfl rfl cl50_5 ck50_5 (by rw [show bm_AL (bm_setI B50 (sa + 4) 0 0) (sa + 5) = 2 from ca50_3]; exact vp_in_nI (n := 0) (by decide) (by decide)) ?_
        rw [show (0 : Int32).toNatClampNeg = 0 from by decide]
        have A54 : bm_AI (bm_setI (bm_setI B50 (sa + 4) 0 0) (sa + 5) 0 (nI (min W.length ((((bk W.length) + 1) + (bk P.length)) * 8)))) (sa + 4) = (upd (bm_AI B (sa + 4)) 0 0) := ((AI_setn (bm_setI B50 (sa + 4) 0 0) 0 (nI (min W.length ((((bk W.length) + 1) + (bk P.length)) * 8))) (sa + 4) (by omega)).trans (show bm_AI (bm_setI B50 (sa + 4) 0 0) (sa + 4) = (upd (bm_AI B (sa + 4)) 0 0) from A51))
        have A55 : bm_AI (bm_setI (bm_setI B50 (sa + 4) 0 0) (sa + 5) 0 (nI (min W.length ((((bk W.length) + 1) + (bk P.length)) * 8)))) (sa + 5) = (upd (bm_AI B (sa + 5)) 0 (nI (min W.length ((((bk W.length) + 1) + (bk P.length)) * 8)))) := ((AI_set (bm_setI B50 (sa + 4) 0 0) (sa + 5) 0 (nI (min W.length ((((bk W.length) + 1) + (bk P.length)) * 8)))).trans (congrArg (fun f => upd f 0 (nI (min W.length ((((bk W.length) + 1) + (bk P.length)) * 8)))) (show bm_AI (bm_setI B50 (sa + 4) 0 0) (sa + 5) = (bm_AI B (sa + 5)) from A52)))
        have Z56 : fz (fun z => z = sa ∨ z = sa + 4 ∨ z = sa + 5) B (bm_setI (bm_setI B50 (sa + 4) 0 0) (sa + 5) 0 (nI (min W.length ((((bk W.length) + 1) + (bk P.length)) * 8)))) := fz_trans Z53 ⟨fr_mono (fun _ q => Or.inr (Or.inr q)) (fr_setI _ (sa + 5) _ _), rfl, rfl⟩
        refine g_ild (pc' := 101) cd_St_commit rfl (Or.inl ⟨rfl, rfl⟩) l4 rfl ?_
        refine g_ild (pc' := 102) cd_St_commit rfl (Or.inr ⟨_, rfl, rfl, rfl⟩) l2 rfl ?_
        refine g_if2 (t := 107) (pc' := 105) cd_St_commit rfl rfl rfl (fun c102 => ?_) (fun c102 => ?_)
        · have c102 : (nI (bk W.length)) < (nI (((bk W.length) + 1) + (bk P.length))) := c102
          have hgt : bk W.length < (bk W.length + 1 + bk P.length) := (nI_ltI (by omega) (by omega)).mp c102
          refine g_ild (pc' := 109) cd_St_commit rfl (Or.inl ⟨rfl, rfl⟩) l4 rfl ?_
          refine g_ild (pc' := 110) cd_St_commit rfl (Or.inr ⟨_, rfl, rfl, rfl⟩) l2 rfl ?_
          refine g_pure (pc' := 111) (st' := [.int ((nI (((bk W.length) + 1) + (bk P.length))) - (nI (bk W.length)))]) cd_St_commit rfl rfl (fun _ _ => rfl) ?_
          rw [show ((nI (((bk W.length) + 1) + (bk P.length))) - (nI (bk W.length)) : Int32) = nI ((((bk W.length) + 1) + (bk P.length)) - (bk W.length)) from pk_sub (a := (((bk W.length) + 1) + (bk P.length))) (b := (bk W.length)) (by omega)]
          refine g_k1 (v := 1) (pc' := 112) cd_St_commit rfl (by decide) rfl ?_
          refine g_pure (pc' := 113) (st' := [.int ((nI ((((bk W.length) + 1) + (bk P.length)) - (bk W.length))) - 1)]) cd_St_commit rfl rfl (fun _ _ => rfl) ?_
          rw [show ((nI ((((bk W.length) + 1) + (bk P.length)) - (bk W.length))) - 1 : Int32) = nI (((((bk W.length) + 1) + (bk P.length)) - (bk W.length)) - 1) from pk_sub (a := ((((bk W.length) + 1) + (bk P.length)) - (bk W.length))) (b := 1) (by omega)]
          refine g_ist (pc' := 115) cd_St_commit rfl (Or.inl ⟨rfl, rfl⟩) (by decide) rfl (fun lv el => ?_)
          have l0 := tm_lk el l0 rfl (by decide)
          have l1 := tm_lk el l1 rfl (by decide)
          have l2 := tm_lk el l2 rfl (by decide)
          have l3 := tm_lk el l3 rfl (by decide)
          have l4 := tm_lk el l4 rfl (by decide)
          have l5 : lv.lookup 5 = some (.int (nI (((((bk W.length) + 1) + (bk P.length)) - (bk W.length)) - 1))) := tm_lks el
          clear el
          refine g_ald (pc' := 116) cd_St_commit rfl (Or.inr ⟨_, rfl, rfl, rfl⟩) l0 rfl rfl ?_
          refine g_fR (c := 8) (k := 1) (x := (sa + 4)) (pc' := 119) cd_St_commit rfl rfl rfl rfl rfl (by decide) cl50_0 ck50_0 cr50_1 ?_
          refine g_ald (pc' := 120) cd_St_commit rfl (Or.inr ⟨_, rfl, rfl, rfl⟩) l0 rfl rfl ?_
          refine g_fI (c := 8) (k := 4) (x := 1) (pc' := 123) cd_St_commit rfl rfl rfl rfl rfl (by decide) cl50_0 ck50_0 cf50_0 ?_
          refine g_ald (pc' := 124) cd_St_commit rfl (Or.inr ⟨_, rfl, rfl, rfl⟩) l0 rfl rfl ?_
          refine g_fR (c := 8) (k := 2) (x := (sa + 5)) (pc' := 127) cd_St_commit rfl rfl rfl rfl rfl (by decide) cl50_0 ck50_0 cr50_2 ?_
          refine g_ald (pc' := 128) cd_St_commit rfl (Or.inr ⟨_, rfl, rfl, rfl⟩) l0 rfl rfl ?_
          refine g_fI (c := 8) (k := 4) (x := 1) (pc' := 131) cd_St_commit rfl rfl rfl rfl rfl (by decide) cl50_0 ck50_0 cf50_0 ?_
          refine g_aI (x := nI P.length) (pc' := 132) cd_St_commit rfl rfl cl50_5 ck50_5 (by rw [show bm_AL (bm_setI (bm_setI B50 (sa + 4) 0 0) (sa + 5) 0 (nI (min W.length ((((bk W.length) + 1) + (bk P.length)) * 8)))) (sa + 5) = 2 from ca50_3]; exact vp_in_nI (n := 1) (by decide) (by decide)) (show bm_AI (bm_setI (bm_setI B50 (sa + 4) 0 0) (sa + 5) 0 (nI (min W.length ((((bk W.length) + 1) + (bk P.length)) * 8)))) (sa + 5) 1 = _ by rw [show bm_AI (bm_setI (bm_setI B50 (sa + 4) 0 0) (sa + 5) 0 (nI (min W.length ((((bk W.length) + 1) + (bk P.length)) * 8)))) (sa + 5) = _ from A55, pk_un (by decide)]; exact hR.1.2.2.1.2.1) ?_
          refine g_ild (pc' := 134) cd_St_commit rfl (Or.inl ⟨rfl, rfl⟩) l5 rfl ?_
          refine g_k2 (v := 8) (pc' := 136) cd_St_commit rfl (by decide) rfl ?_
          refine g_pure (pc' := 137) (st' := [.int ((nI (((((bk W.length) + 1) + (bk P.length)) - (bk W.length)) - 1)) * 8), .int (nI P.length), .int 1, .ref ((sa + 4))]) cd_St_commit rfl rfl (fun _ _ => rfl) ?_
          rw [show ((nI (((((bk W.length) + 1) + (bk P.length)) - (bk W.length)) - 1)) * 8 : Int32) = nI ((((((bk W.length) + 1) + (bk P.length)) - (bk W.length)) - 1) * 8) from pk_mul (((((bk W.length) + 1) + (bk P.length)) - (bk W.length)) - 1) 8]
          refine g_min (pc' := 140) cd_St_commit rfl rfl rfl rfl ?_
          rw [nI_min (a := P.length) (b := ((((((bk W.length) + 1) + (bk P.length)) - (bk W.length)) - 1) * 8)) (by omega) (by omega)]
          refine g_iast (pc' := 141) cd_St_commit rfl rfl cl50_4 ck50_4 (by rw [show bm_AL (bm_setI (bm_setI B50 (sa + 4) 0 0) (sa + 5) 0 (nI (min W.length ((((bk W.length) + 1) + (bk P.length)) * 8)))) (sa + 4) = 2 from ca50_2]; exact vp_in_nI (n := 1) (by decide) (by decide)) ?_
          rw [show (1 : Int32).toNatClampNeg = 1 from by decide]
          have A57 : bm_AI (bm_setI (bm_setI (bm_setI B50 (sa + 4) 0 0) (sa + 5) 0 (nI (min W.length ((((bk W.length) + 1) + (bk P.length)) * 8)))) (sa + 4) 1 (nI (min P.length ((((((bk W.length) + 1) + (bk P.length)) - (bk W.length)) - 1) * 8)))) (sa + 4) = (upd (upd (bm_AI B (sa + 4)) 0 0) 1 (nI (min P.length ((((((bk W.length) + 1) + (bk P.length)) - (bk W.length)) - 1) * 8)))) := ((AI_set (bm_setI (bm_setI B50 (sa + 4) 0 0) (sa + 5) 0 (nI (min W.length ((((bk W.length) + 1) + (bk P.length)) * 8)))) (sa + 4) 1 (nI (min P.length ((((((bk W.length) + 1) + (bk P.length)) - (bk W.length)) - 1) * 8)))).trans (congrArg (fun f => upd f 1 (nI (min P.length ((((((bk W.length) + 1) + (bk P.length)) - (bk W.length)) - 1) * 8)))) (show bm_AI (bm_setI (bm_setI B50 (sa + 4) 0 0) (sa + 5) 0 (nI (min W.length ((((bk W.length) + 1) + (bk P.length)) * 8)))) (sa + 4) = (upd (bm_AI B (sa + 4)) 0 0) from A54)))
          have A58 : bm_AI (bm_setI (bm_setI (bm_setI B50 (sa + 4) 0 0) (sa + 5) 0 (nI (min W.length ((((bk W.length) + 1) + (bk P.length)) * 8)))) (sa + 4) 1 (nI (min P.length ((((((bk W.length) + 1) + (bk P.length)) - (bk W.length)) - 1) * 8)))) (sa + 5) = (upd (bm_AI B (sa + 5)) 0 (nI (min W.length ((((bk W.length) + 1) + (bk P.length)) * 8)))) := ((AI_setn (bm_setI (bm_setI B50 (sa + 4) 0 0) (sa + 5) 0 (nI (min W.length ((((bk W.length) + 1) + (bk P.length)) * 8)))) 1 (nI (min P.length ((((((bk W.length) + 1) + (bk P.length)) - (bk W.length)) - 1) * 8))) (sa + 5) (by omega)).trans (show bm_AI (bm_setI (bm_setI B50 (sa + 4) 0 0) (sa + 5) 0 (nI (min W.length ((((bk W.length) + 1) + (bk P.length)) * 8)))) (sa + 5) = (upd (bm_AI B (sa + 5)) 0 (nI (min W.length ((((bk W.length) + 1) + (bk P.length)) * 8)))) from A55))
          have Z59 : fz (fun z => z = sa ∨ z = sa + 4 ∨ z = sa + 5) B (bm_setI (bm_setI (bm_setI B50 (sa + 4) 0 0) (sa + 5) 0 (nI (min W.length ((((bk W.length) + 1) + (bk P.length)) * 8)))) (sa + 4) 1 (nI (min P.length ((((((bk W.length) + 1) + (bk P.length)) - (bk W.length)) - 1) * 8)))) := fz_trans Z56 ⟨fr_mono (fun _ q => Or.inr (Or.inl q)) (fr_setI _ (sa + 4) _ _), rfl, rfl⟩
          refine g_ald (pc' := 142) cd_St_commit rfl (Or.inr ⟨_, rfl, rfl, rfl⟩) l0 rfl rfl ?_
          refine g_ild (pc' := 143) cd_St_commit rfl (Or.inr ⟨_, rfl, rfl, rfl⟩) l1 rfl ?_
          refine g_putI (c := 8) (k := 4) (pc' := 146) cd_St_commit rfl rfl rfl rfl (by simp [tm_okV, narrow, fits]) (Or.inl rfl) rfl (by decide) cl50_0 ck50_0 ?_
          have P60 : bm_FI (bm_putI (bm_setI (bm_setI (bm_setI B50 (sa + 4) 0 0) (sa + 5) 0 (nI (min W.length ((((bk W.length) + 1) + (bk P.length)) * 8)))) (sa + 4) 1 (nI (min P.length ((((((bk W.length) + 1) + (bk P.length)) - (bk W.length)) - 1) * 8)))) 8 4 sa 0) 8 4 sa = 0 := if_pos ⟨rfl, rfl, rfl⟩
          have Z61 : fz (fun z => z = sa ∨ z = sa + 4 ∨ z = sa + 5) B (bm_putI (bm_setI (bm_setI (bm_setI B50 (sa + 4) 0 0) (sa + 5) 0 (nI (min W.length ((((bk W.length) + 1) + (bk P.length)) * 8)))) (sa + 4) 1 (nI (min P.length ((((((bk W.length) + 1) + (bk P.length)) - (bk W.length)) - 1) * 8)))) 8 4 sa 0) := fz_trans Z59 ⟨fr_mono (fun _ q => Or.inl q) (fr_putI _ 8 4 sa _), rfl, rfl⟩
          refine g_ald (pc' := 147) cd_St_commit rfl (Or.inr ⟨_, rfl, rfl, rfl⟩) l0 rfl rfl ?_
          refine g_fI (c := 8) (k := 6) (x := 0) (pc' := 150) cd_St_commit rfl rfl rfl rfl rfl (by decide) cl50_0 ck50_0 cf50_3 ?_
          refine g_if1 (t := 157) (pc' := 153) cd_St_commit rfl rfl rfl (fun c150 => ?_) (fun c150 => ?_)
          · have c150 : (0 : Int32) = 0 := c150
            refine g_k1 (v := 2) (pc' := 158) cd_St_commit rfl (by decide) rfl ?_
            have g4 : bm_AI (bm_putI (bm_setI (bm_setI (bm_setI B50 (sa + 4) 0 0) (sa + 5) 0 (nI (min W.length ((((bk W.length) + 1) + (bk P.length)) * 8)))) (sa + 4) 1 (nI (min P.length ((((((bk W.length) + 1) + (bk P.length)) - (bk W.length)) - 1) * 8)))) 8 4 sa 0) (sa + 4) = (upd (upd (bm_AI B (sa + 4)) 0 0) 1 (nI (min P.length ((((((bk W.length) + 1) + (bk P.length)) - (bk W.length)) - 1) * 8)))) := A57
            have g5 : bm_AI (bm_putI (bm_setI (bm_setI (bm_setI B50 (sa + 4) 0 0) (sa + 5) 0 (nI (min W.length ((((bk W.length) + 1) + (bk P.length)) * 8)))) (sa + 4) 1 (nI (min P.length ((((((bk W.length) + 1) + (bk P.length)) - (bk W.length)) - 1) * 8)))) 8 4 sa 0) (sa + 5) = (upd (bm_AI B (sa + 5)) 0 (nI (min W.length ((((bk W.length) + 1) + (bk P.length)) * 8)))) := A58
            have gp : bm_AI (bm_putI (bm_setI (bm_setI (bm_setI B50 (sa + 4) 0 0) (sa + 5) 0 (nI (min W.length ((((bk W.length) + 1) + (bk P.length)) * 8)))) (sa + 4) 1 (nI (min P.length ((((((bk W.length) + 1) + (bk P.length)) - (bk W.length)) - 1) * 8)))) 8 4 sa 0) (sa + 3) = bm_AI B (sa + 3) := fr_AI Z61.1 hS.2.2.2.2.2.2.1.1 (by omega)
            have go : bm_AI (bm_putI (bm_setI (bm_setI (bm_setI B50 (sa + 4) 0 0) (sa + 5) 0 (nI (min W.length ((((bk W.length) + 1) + (bk P.length)) * 8)))) (sa + 4) 1 (nI (min P.length ((((((bk W.length) + 1) + (bk P.length)) - (bk W.length)) - 1) * 8)))) 8 4 sa 0) (sa + 2) = bm_AI B (sa + 2) := fr_AI Z61.1 hS.2.2.2.2.2.1.1 (by omega)
            have hE := st_commit_2 (p := true) (P := P) (W := W) rfl (show (bk W.length + 1 + bk P.length) = st_made none (bk W.length + 1 + bk P.length) from rfl) (fun q => absurd ((nI_ltI (by omega) (by omega)).mp c102) (by omega)) (fun q => absurd ((nI_leI (by omega) (by omega)).mp c63) (by omega))
            have kk2 := kk
            rw [show st_commit true P (none) W = _ from hE] at kk2
            exact g_reti cd_St_commit rfl ⟨_, rfl, (kk2 _ ⟨⟨StS_fr hS Z61.1, StA_fr hS hAA Z61.1 (by omega)⟩, ⟨P60, cf50_1, cf50_3, fun _ q => by cases q⟩, ⟨(show bm_AI (bm_putI (bm_setI (bm_setI (bm_setI B50 (sa + 4) 0 0) (sa + 5) 0 (nI (min W.length ((((bk W.length) + 1) + (bk P.length)) * 8)))) (sa + 4) 1 (nI (min P.length ((((((bk W.length) + 1) + (bk P.length)) - (bk W.length)) - 1) * 8)))) 8 4 sa 0) (sa + 4) 0 = _ by rw [g4]; rw [pk_un (by decide)]; rfl), (show bm_AI (bm_putI (bm_setI (bm_setI (bm_setI B50 (sa + 4) 0 0) (sa + 5) 0 (nI (min W.length ((((bk W.length) + 1) + (bk P.length)) * 8)))) (sa + 4) 1 (nI (min P.length ((((((bk W.length) + 1) + (bk P.length)) - (bk W.length)) - 1) * 8)))) 8 4 sa 0) (sa + 5) 0 = _ by rw [g5]; simp only [upd, if_true]; congr 1; have := (nI_ltI (by omega) (by omega)).mp c102; omega), hw, show EN (bm_AI (bm_putI (bm_setI (bm_setI (bm_setI B50 (sa + 4) 0 0) (sa + 5) 0 (nI (min W.length ((((bk W.length) + 1) + (bk P.length)) * 8)))) (sa + 4) 1 (nI (min P.length ((((((bk W.length) + 1) + (bk P.length)) - (bk W.length)) - 1) * 8)))) 8 4 sa 0) (sa + 2)) T W 0 by rw [go]; exact hR.2.2.2⟩, min P.length (8 * ((bk W.length + 1 + bk P.length) - bk W.length - 1)), (show bm_AI (bm_putI (bm_setI (bm_setI (bm_setI B50 (sa + 4) 0 0) (sa + 5) 0 (nI (min W.length ((((bk W.length) + 1) + (bk P.length)) * 8)))) (sa + 4) 1 (nI (min P.length ((((((bk W.length) + 1) + (bk P.length)) - (bk W.length)) - 1) * 8)))) 8 4 sa 0) (sa + 4) 1 = _ by rw [g4]; simp only [upd, if_true]; congr 1; omega), (show bm_AI (bm_putI (bm_setI (bm_setI (bm_setI B50 (sa + 4) 0 0) (sa + 5) 0 (nI (min W.length ((((bk W.length) + 1) + (bk P.length)) * 8)))) (sa + 4) 1 (nI (min P.length ((((((bk W.length) + 1) + (bk P.length)) - (bk W.length)) - 1) * 8)))) 8 4 sa 0) (sa + 5) 1 = _ by rw [g5]; rw [pk_un (by decide)]; exact hR.1.2.2.1.2.1.trans (congrArg nI (by simp; omega))), (by simp; omega), show EN (bm_AI (bm_putI (bm_setI (bm_setI (bm_setI B50 (sa + 4) 0 0) (sa + 5) 0 (nI (min W.length ((((bk W.length) + 1) + (bk P.length)) * 8)))) (sa + 4) 1 (nI (min P.length ((((((bk W.length) + 1) + (bk P.length)) - (bk W.length)) - 1) * 8)))) 8 4 sa 0) (sa + 3)) T _ _ by rw [gp]; exact EN_drop hR.1.2.2.1.2.2.2⟩ (fz_mono (fun _ q => q.elim Or.inl (fun q => q.elim (fun q => Or.inr (Or.inr (Or.inr (Or.inl q)))) (fun q => Or.inr (Or.inr (Or.inr (Or.inr q)))))) Z61))⟩
          · exact absurd (show ¬ (0 : Int32) = 0 from c150) (by decide)
        · have c102 : ¬ (nI (bk W.length)) < (nI (((bk W.length) + 1) + (bk P.length))) := c102
          exact absurd ((nI_leI (by omega) (by omega)).mp (Int32.not_lt.mp c102)) (by have := (nI_leI (by omega) (by omega)).mp c63; omega)
      · have c63 : ¬ (nI (((bk W.length) + 1) + (bk P.length))) ≤ (nI (((bk W.length) + 1) + (bk P.length))) := c63
        exact absurd (nI_le (Nat.le_refl _) (by omega)) c63
theorem t_commit_s {sc : tm_X} {d : Nat} {sa : Nat} {B : bm_H} {T : List Tm} {p : Bool} {P : EN2} {dn : Bool} {W : EN2} {k : Nat} {Q : Int32 → bm_H → Prop} (hR : RSw B T sa p P (some k) dn W) (kk : ∀ B', RSt B' T sa (st_commit p P (some k) W).2 → fz (stx sa) B B' → Q (nI (st_commit p P (some k) W).1) B') : bm_Gi sc (d + 1) 56 [.ref sa] B Q := by
  have hS := hR.1.1.1
  have hAA := hR.1.1.2
  have hw := hR.2.2.1
  have hp := hR.1.2.2.1.2.2.1
  have b1 := bk_le (n := W.length)
  have b2 := bk_le (n := P.length)
  have hk := hR.1.2.1.2.2.2 k rfl
  cases p
  · show bm_G sc (d + 1) 56 0 [(0, .ref sa)] [] B _
    generalize elv : ([(0, .ref sa)] : tm_L) = lv
    have l0 : lv.lookup 0 = some (.ref sa) := by rw [← elv]; rfl
    clear elv
    refine g_k1 (v := 1) (pc' := 1) cd_St_commit rfl (by decide) rfl ?_
    refine g_ald (pc' := 2) cd_St_commit rfl (Or.inr ⟨_, rfl, rfl, rfl⟩) l0 rfl rfl ?_
    refine g_fI (c := 8) (k := 4) (x := 0) (pc' := 5) cd_St_commit rfl rfl rfl rfl rfl (by decide) hS.1.1 hS.1.2 hR.1.2.1.1 ?_
    refine g_pure (pc' := 6) (st' := [.int (1 - 0)]) cd_St_commit rfl rfl (fun _ _ => rfl) ?_
    rw [show (1 - 0 : Int32) = 1 from by decide]
    refine g_ist (pc' := 7) cd_St_commit rfl (Or.inr ⟨_, rfl, rfl, rfl⟩) (by decide) rfl (fun lv el => ?_)
    have l0 := tm_lk el l0 rfl (by decide)
    have l1 : lv.lookup 1 = some (.int 1) := tm_lks el
    clear el
    refine g_ald (pc' := 8) cd_St_commit rfl (Or.inr ⟨_, rfl, rfl, rfl⟩) l0 rfl rfl ?_
    refine g_fI (c := 8) (k := 3) (x := nI W.length) (pc' := 11) cd_St_commit rfl rfl rfl rfl rfl (by decide) hS.1.1 hS.1.2 hR.2.1 ?_
    refine g_calli (pc' := 14) cd_St_commit rfl rfl rfl rfl rfl (tm_invS rfl rfl cd_St_blocks rfl (Nat.le_of_ble_eq_true rfl)) (t_blocks (by omega) ?_)
    show bm_G _ _ _ 14 _ [.int (nI (bk W.length))] B _
    refine g_ist (pc' := 15) cd_St_commit rfl (Or.inr ⟨_, rfl, rfl, rfl⟩) (by decide) rfl (fun lv el => ?_)
    have l0 := tm_lk el l0 rfl (by decide)
    have l1 := tm_lk el l1 rfl (by decide)
    have l2 : lv.lookup 2 = some (.int (nI (bk W.length))) := tm_lks el
    clear el
    refine g_ild (pc' := 16) cd_St_commit rfl (Or.inr ⟨_, rfl, rfl, rfl⟩) l2 rfl ?_
    refine g_k1 (v := 1) (pc' := 17) cd_St_commit rfl (by decide) rfl ?_
    refine g_pure (pc' := 18) (st' := [.int ((nI (bk W.length)) + 1)]) cd_St_commit rfl rfl (fun _ _ => rfl) ?_
    rw [show ((nI (bk W.length)) + 1 : Int32) = nI ((bk W.length) + 1) from nI_add (bk W.length) 1]
    refine g_ald (pc' := 19) cd_St_commit rfl (Or.inr ⟨_, rfl, rfl, rfl⟩) l0 rfl rfl ?_
    refine g_fR (c := 8) (k := 2) (x := (sa + 5)) (pc' := 22) cd_St_commit rfl rfl rfl rfl rfl (by decide) hS.1.1 hS.1.2 hS.2.2.2.1 ?_
    refine g_ald (pc' := 23) cd_St_commit rfl (Or.inr ⟨_, rfl, rfl, rfl⟩) l0 rfl rfl ?_
    refine g_fI (c := 8) (k := 4) (x := 0) (pc' := 26) cd_St_commit rfl rfl rfl rfl rfl (by decide) hS.1.1 hS.1.2 hR.1.2.1.1 ?_
    refine g_aI (x := nI P.length) (pc' := 27) cd_St_commit rfl rfl hS.2.2.2.2.2.2.2.2.1 hS.2.2.2.2.2.2.2.2.2.1 (by rw [show bm_AL B (sa + 5) = 2 from hS.2.2.2.2.2.2.2.2.2.2]; exact vp_in_nI (n := 0) (by decide) (by decide)) (show bm_AI B (sa + 5) 0 = _ from hR.1.2.2.1.2.1) ?_
    refine g_calli (pc' := 30) cd_St_commit rfl rfl rfl rfl rfl (tm_invS rfl rfl cd_St_blocks rfl (Nat.le_of_ble_eq_true rfl)) (t_blocks (by omega) ?_)
    show bm_G _ _ _ 30 _ [.int (nI (bk P.length)), .int (nI ((bk W.length) + 1))] B _
    refine g_pure (pc' := 31) (st' := [.int ((nI ((bk W.length) + 1)) + (nI (bk P.length)))]) cd_St_commit rfl rfl (fun _ _ => rfl) ?_
    rw [show ((nI ((bk W.length) + 1)) + (nI (bk P.length)) : Int32) = nI (((bk W.length) + 1) + (bk P.length)) from nI_add ((bk W.length) + 1) (bk P.length)]
    refine g_ist (pc' := 32) cd_St_commit rfl (Or.inr ⟨_, rfl, rfl, rfl⟩) (by decide) rfl (fun lv el => ?_)
    have l0 := tm_lk el l0 rfl (by decide)
    have l1 := tm_lk el l1 rfl (by decide)
    have l2 := tm_lk el l2 rfl (by decide)
    have l3 : lv.lookup 3 = some (.int (nI (((bk W.length) + 1) + (bk P.length)))) := tm_lks el
    clear el
    refine g_ald (pc' := 33) cd_St_commit rfl (Or.inr ⟨_, rfl, rfl, rfl⟩) l0 rfl rfl ?_
    refine g_fI (c := 8) (k := 5) (x := nI k) (pc' := 36) cd_St_commit rfl rfl rfl rfl rfl (by decide) hS.1.1 hS.1.2 hR.1.2.1.2.1 ?_
    refine g_k1 (v := (-1)) (pc' := 37) cd_St_commit rfl (by decide) rfl ?_
    refine g_if2 (t := 44) (pc' := 40) cd_St_commit rfl rfl rfl (fun c37 => ?_) (fun c37 => ?_)
    · have c37 : ¬ (nI k) = (-1) := c37
      refine g_ald (pc' := 45) cd_St_commit rfl (Or.inr ⟨_, rfl, rfl, rfl⟩) l0 rfl rfl ?_
      refine g_fI (c := 8) (k := 5) (x := nI k) (pc' := 48) cd_St_commit rfl rfl rfl rfl rfl (by decide) hS.1.1 hS.1.2 hR.1.2.1.2.1 ?_
      refine g_ild (pc' := 49) cd_St_commit rfl (Or.inr ⟨_, rfl, rfl, rfl⟩) l3 rfl ?_
      refine g_min (pc' := 52) cd_St_commit rfl rfl rfl rfl ?_
      rw [nI_min (a := k) (b := (((bk W.length) + 1) + (bk P.length))) (by omega) (by omega)]
      refine g_ist (pc' := 54) cd_St_commit rfl (Or.inl ⟨rfl, rfl⟩) (by decide) rfl (fun lv el => ?_)
      have l0 := tm_lk el l0 rfl (by decide)
      have l1 := tm_lk el l1 rfl (by decide)
      have l2 := tm_lk el l2 rfl (by decide)
      have l3 := tm_lk el l3 rfl (by decide)
      have l4 : lv.lookup 4 = some (.int (nI (min k (((bk W.length) + 1) + (bk P.length))))) := tm_lks el
      clear el
      refine g_ald (pc' := 55) cd_St_commit rfl (Or.inr ⟨_, rfl, rfl, rfl⟩) l0 rfl rfl ?_
      refine g_k1 (v := (-1)) (pc' := 56) cd_St_commit rfl (by decide) rfl ?_
      refine g_putI (c := 8) (k := 5) (pc' := 59) cd_St_commit rfl rfl rfl rfl (by simp [tm_okV, narrow, fits]) (Or.inl rfl) rfl (by decide) hS.1.1 hS.1.2 ?_
      have P62 : bm_FI (bm_putI B 8 5 sa (-1)) 8 5 sa = (-1) := if_pos ⟨rfl, rfl, rfl⟩
      have Z63 : fz (fun z => z = sa ∨ z = sa + 4 ∨ z = sa + 5) B (bm_putI B 8 5 sa (-1)) := fz_trans (fz_rfl _ B) ⟨fr_mono (fun _ q => Or.inl q) (fr_putI _ 8 5 sa _), rfl, rfl⟩
      refine g_ald (pc' := 60) cd_St_commit rfl (Or.inr ⟨_, rfl, rfl, rfl⟩) l0 rfl rfl ?_
      refine g_ild (pc' := 62) cd_St_commit rfl (Or.inl ⟨rfl, rfl⟩) l4 rfl ?_
      refine g_ild (pc' := 63) cd_St_commit rfl (Or.inr ⟨_, rfl, rfl, rfl⟩) l3 rfl ?_
      refine g_if2 (t := 70) (pc' := 66) cd_St_commit rfl rfl rfl (fun c63 => ?_) (fun c63 => ?_)
      · have c63 : (nI (((bk W.length) + 1) + (bk P.length))) ≤ (nI (min k (((bk W.length) + 1) + (bk P.length)))) := c63
        refine g_k1 (v := 0) (pc' := 71) cd_St_commit rfl (by decide) rfl ?_
        refine g_putI (c := 8) (k := 6) (pc' := 74) cd_St_commit rfl rfl rfl rfl (by decide) (Or.inl rfl) rfl (by decide) hS.1.1 hS.1.2 ?_
        have P64 : bm_FI (bm_putI (bm_putI B 8 5 sa (-1)) 8 6 sa 0) 8 6 sa = 0 := if_pos ⟨rfl, rfl, rfl⟩
        have Z65 : fz (fun z => z = sa ∨ z = sa + 4 ∨ z = sa + 5) B (bm_putI (bm_putI B 8 5 sa (-1)) 8 6 sa 0) := fz_trans Z63 ⟨fr_mono (fun _ q => Or.inl q) (fr_putI _ 8 6 sa _), rfl, rfl⟩
        obtain ⟨B66, eB66⟩ : ∃ Bx, Bx = (bm_putI (bm_putI B 8 5 sa (-1)) 8 6 sa 0) := ⟨_, rfl⟩
        have cl66_0 : sa < bm_n B66 := eB66 ▸ (show sa < bm_n (bm_putI (bm_putI B 8 5 sa (-1)) 8 6 sa 0) from hS.1.1)
        have ck66_0 : bm_K B66 sa = 8 := eB66 ▸ (show bm_K (bm_putI (bm_putI B 8 5 sa (-1)) 8 6 sa 0) sa = 8 from hS.1.2)
        have cl66_1 : (sa + 1) < bm_n B66 := eB66 ▸ (show (sa + 1) < bm_n (bm_putI (bm_putI B 8 5 sa (-1)) 8 6 sa 0) from hS.2.2.2.2.1.1)
        have ck66_1 : bm_K B66 (sa + 1) = 21 := eB66 ▸ (show bm_K (bm_putI (bm_putI B 8 5 sa (-1)) 8 6 sa 0) (sa + 1) = 21 from hS.2.2.2.2.1.2.1)
        have cl66_2 : (sa + 2) < bm_n B66 := eB66 ▸ (show (sa + 2) < bm_n (bm_putI (bm_putI B 8 5 sa (-1)) 8 6 sa 0) from hS.2.2.2.2.2.1.1)
        have ck66_2 : bm_K B66 (sa + 2) = 13 := eB66 ▸ (show bm_K (bm_putI (bm_putI B 8 5 sa (-1)) 8 6 sa 0) (sa + 2) = 13 from hS.2.2.2.2.2.1.2.1)
        have cl66_3 : (sa + 3) < bm_n B66 := eB66 ▸ (show (sa + 3) < bm_n (bm_putI (bm_putI B 8 5 sa (-1)) 8 6 sa 0) from hS.2.2.2.2.2.2.1.1)
        have ck66_3 : bm_K B66 (sa + 3) = 13 := eB66 ▸ (show bm_K (bm_putI (bm_putI B 8 5 sa (-1)) 8 6 sa 0) (sa + 3) = 13 from hS.2.2.2.2.2.2.1.2.1)
        have cl66_4 : (sa + 4) < bm_n B66 := eB66 ▸ (show (sa + 4) < bm_n (bm_putI (bm_putI B 8 5 sa (-1)) 8 6 sa 0) from hS.2.2.2.2.2.2.2.1.1)
        have ck66_4 : bm_K B66 (sa + 4) = 13 := eB66 ▸ (show bm_K (bm_putI (bm_putI B 8 5 sa (-1)) 8 6 sa 0) (sa + 4) = 13 from hS.2.2.2.2.2.2.2.1.2.1)
        have cl66_5 : (sa + 5) < bm_n B66 := eB66 ▸ (show (sa + 5) < bm_n (bm_putI (bm_putI B 8 5 sa (-1)) 8 6 sa 0) from hS.2.2.2.2.2.2.2.2.1)
        have ck66_5 : bm_K B66 (sa + 5) = 13 := eB66 ▸ (show bm_K (bm_putI (bm_putI B 8 5 sa (-1)) 8 6 sa 0) (sa + 5) = 13 from hS.2.2.2.2.2.2.2.2.2.1)
        have cf66_0 : bm_FI B66 8 4 sa = 0 := eB66 ▸ (show bm_FI (bm_putI (bm_putI B 8 5 sa (-1)) 8 6 sa 0) 8 4 sa = 0 from hR.1.2.1.1)
        have cf66_1 : bm_FI B66 8 5 sa = (-1) := eB66 ▸ (show bm_FI (bm_putI (bm_putI B 8 5 sa (-1)) 8 6 sa 0) 8 5 sa = (-1) from P62)
        have cf66_2 : bm_FI B66 8 3 sa = nI W.length := eB66 ▸ (show bm_FI (bm_putI (bm_putI B 8 5 sa (-1)) 8 6 sa 0) 8 3 sa = nI W.length from hR.2.1)
        have cf66_3 : bm_FI B66 8 6 sa = 0 := eB66 ▸ (show bm_FI (bm_putI (bm_putI B 8 5 sa (-1)) 8 6 sa 0) 8 6 sa = 0 from P64)
        have cr66_0 : bm_FR B66 8 0 sa = some (sa + 1) := eB66 ▸ (show bm_FR (bm_putI (bm_putI B 8 5 sa (-1)) 8 6 sa 0) 8 0 sa = some (sa + 1) from hS.2.1)
        have cr66_1 : bm_FR B66 8 1 sa = some (sa + 4) := eB66 ▸ (show bm_FR (bm_putI (bm_putI B 8 5 sa (-1)) 8 6 sa 0) 8 1 sa = some (sa + 4) from hS.2.2.1)
        have cr66_2 : bm_FR B66 8 2 sa = some (sa + 5) := eB66 ▸ (show bm_FR (bm_putI (bm_putI B 8 5 sa (-1)) 8 6 sa 0) 8 2 sa = some (sa + 5) from hS.2.2.2.1)
        have ci66_0 : bm_AI B66 (sa + 4) = (bm_AI B (sa + 4)) := eB66 ▸ (show bm_AI (bm_putI (bm_putI B 8 5 sa (-1)) 8 6 sa 0) (sa + 4) = (bm_AI B (sa + 4)) from rfl)
        have ci66_1 : bm_AI B66 (sa + 5) = (bm_AI B (sa + 5)) := eB66 ▸ (show bm_AI (bm_putI (bm_putI B 8 5 sa (-1)) 8 6 sa 0) (sa + 5) = (bm_AI B (sa + 5)) from rfl)
        have ca66_0 : bm_AL B66 (sa + 2) = 1072 := eB66 ▸ (show bm_AL (bm_putI (bm_putI B 8 5 sa (-1)) 8 6 sa 0) (sa + 2) = 1072 from hS.2.2.2.2.2.1.2.2)
        have ca66_1 : bm_AL B66 (sa + 3) = 1072 := eB66 ▸ (show bm_AL (bm_putI (bm_putI B 8 5 sa (-1)) 8 6 sa 0) (sa + 3) = 1072 from hS.2.2.2.2.2.2.1.2.2)
        have ca66_2 : bm_AL B66 (sa + 4) = 2 := eB66 ▸ (show bm_AL (bm_putI (bm_putI B 8 5 sa (-1)) 8 6 sa 0) (sa + 4) = 2 from hS.2.2.2.2.2.2.2.1.2.2)
        have ca66_3 : bm_AL B66 (sa + 5) = 2 := eB66 ▸ (show bm_AL (bm_putI (bm_putI B 8 5 sa (-1)) 8 6 sa 0) (sa + 5) = 2 from hS.2.2.2.2.2.2.2.2.2.2)
        have ca66_4 : bm_AL B66 (sa + 1) = 2 := eB66 ▸ (show bm_AL (bm_putI (bm_putI B 8 5 sa (-1)) 8 6 sa 0) (sa + 1) = 2 from hS.2.2.2.2.1.2.2)
        have cz66 : fz (fun z => z = sa ∨ z = sa + 4 ∨ z = sa + 5) B B66 := eB66 ▸ (show fz (fun z => z = sa ∨ z = sa + 4 ∨ z = sa + 5) B (bm_putI (bm_putI B 8 5 sa (-1)) 8 6 sa 0) from Z65)
        rw [← eB66]
        clear eB66
        refine g_ald (pc' := 75) cd_St_commit rfl (Or.inr ⟨_, rfl, rfl, rfl⟩) l0 rfl rfl ?_
        refine g_fR (c := 8) (k := 1) (x := (sa + 4)) (pc' := 78) cd_St_commit rfl rfl rfl rfl rfl (by decide) cl66_0 ck66_0 cr66_1 ?_
        refine g_ild (pc' := 79) cd_St_commit rfl (Or.inr ⟨_, rfl, rfl, rfl⟩) l1 rfl ?_
        refine g_k1 (v := 0) (pc' := 80) cd_St_commit rfl (by decide) rfl ?_
        refine g_iast (pc' := 81) cd_St_commit rfl rfl cl66_4 ck66_4 (by rw [show bm_AL B66 (sa + 4) = 2 from ca66_2]; exact vp_in_nI (n := 1) (by decide) (by decide)) ?_
        rw [show (1 : Int32).toNatClampNeg = 1 from by decide]
        have A67 : bm_AI (bm_setI B66 (sa + 4) 1 0) (sa + 4) = (upd (bm_AI B (sa + 4)) 1 0) := ((AI_set B66 (sa + 4) 1 0).trans (congrArg (fun f => upd f 1 0) (show bm_AI B66 (sa + 4) = (bm_AI B (sa + 4)) from ci66_0)))
        have A68 : bm_AI (bm_setI B66 (sa + 4) 1 0) (sa + 5) = (bm_AI B (sa + 5)) := ((AI_setn B66 1 0 (sa + 5) (by omega)).trans (show bm_AI B66 (sa + 5) = (bm_AI B (sa + 5)) from ci66_1))
        have Z69 : fz (fun z => z = sa ∨ z = sa + 4 ∨ z = sa + 5) B (bm_setI B66 (sa + 4) 1 0) := fz_trans cz66 ⟨fr_mono (fun _ q => Or.inr (Or.inl q)) (fr_setI _ (sa + 4) _ _), rfl, rfl⟩
        refine g_ald (pc' := 82) cd_St_commit rfl (Or.inr ⟨_, rfl, rfl, rfl⟩) l0 rfl rfl ?_
        refine g_fR (c := 8) (k := 2) (x := (sa + 5)) (pc' := 85) cd_St_commit rfl rfl rfl rfl rfl (by decide) cl66_0 ck66_0 cr66_2 ?_
        refine g_ild (pc' := 86) cd_St_commit rfl (Or.inr ⟨_, rfl, rfl, rfl⟩) l1 rfl ?_
        refine g_ald (pc' := 87) cd_St_commit rfl (Or.inr ⟨_, rfl, rfl, rfl⟩) l0 rfl rfl ?_
        refine g_fI (c := 8) (k := 3) (x := nI W.length) (pc' := 90) cd_St_commit rfl rfl rfl rfl rfl (by decide) cl66_0 ck66_0 cf66_2 ?_
        refine g_ild (pc' := 92) cd_St_commit rfl (Or.inl ⟨rfl, rfl⟩) l4 rfl ?_
        refine g_k2 (v := 8) (pc' := 94) cd_St_commit rfl (by decide) rfl ?_
        refine g_pure (pc' := 95) (st' := [.int ((nI (min k (((bk W.length) + 1) + (bk P.length)))) * 8), .int (nI W.length), .int 1, .ref ((sa + 5))]) cd_St_commit rfl rfl (fun _ _ => rfl) ?_
        rw [show ((nI (min k (((bk W.length) + 1) + (bk P.length)))) * 8 : Int32) = nI ((min k (((bk W.length) + 1) + (bk P.length))) * 8) from pk_mul (min k (((bk W.length) + 1) + (bk P.length))) 8]
        refine g_min (pc' := 98) cd_St_commit rfl rfl rfl rfl ?_
        rw [nI_min (a := W.length) (b := ((min k (((bk W.length) + 1) + (bk P.length))) * 8)) (by omega) (by omega)]
        refine g_iast (pc' := 99) cd_St_commit rfl rfl cl66_5 ck66_5 (by rw [show bm_AL (bm_setI B66 (sa + 4) 1 0) (sa + 5) = 2 from ca66_3]; exact vp_in_nI (n := 1) (by decide) (by decide)) ?_
        rw [show (1 : Int32).toNatClampNeg = 1 from by decide]
        have A70 : bm_AI (bm_setI (bm_setI B66 (sa + 4) 1 0) (sa + 5) 1 (nI (min W.length ((min k (((bk W.length) + 1) + (bk P.length))) * 8)))) (sa + 4) = (upd (bm_AI B (sa + 4)) 1 0) := ((AI_setn (bm_setI B66 (sa + 4) 1 0) 1 (nI (min W.length ((min k (((bk W.length) + 1) + (bk P.length))) * 8))) (sa + 4) (by omega)).trans (show bm_AI (bm_setI B66 (sa + 4) 1 0) (sa + 4) = (upd (bm_AI B (sa + 4)) 1 0) from A67))
        have A71 : bm_AI (bm_setI (bm_setI B66 (sa + 4) 1 0) (sa + 5) 1 (nI (min W.length ((min k (((bk W.length) + 1) + (bk P.length))) * 8)))) (sa + 5) = (upd (bm_AI B (sa + 5)) 1 (nI (min W.length ((min k (((bk W.length) + 1) + (bk P.length))) * 8)))) := ((AI_set (bm_setI B66 (sa + 4) 1 0) (sa + 5) 1 (nI (min W.length ((min k (((bk W.length) + 1) + (bk P.length))) * 8)))).trans (congrArg (fun f => upd f 1 (nI (min W.length ((min k (((bk W.length) + 1) + (bk P.length))) * 8)))) (show bm_AI (bm_setI B66 (sa + 4) 1 0) (sa + 5) = (bm_AI B (sa + 5)) from A68)))
        have Z72 : fz (fun z => z = sa ∨ z = sa + 4 ∨ z = sa + 5) B (bm_setI (bm_setI B66 (sa + 4) 1 0) (sa + 5) 1 (nI (min W.length ((min k (((bk W.length) + 1) + (bk P.length))) * 8)))) := fz_trans Z69 ⟨fr_mono (fun _ q => Or.inr (Or.inr q)) (fr_setI _ (sa + 5) _ _), rfl, rfl⟩
        refine g_ild (pc' := 101) cd_St_commit rfl (Or.inl ⟨rfl, rfl⟩) l4 rfl ?_
        refine g_ild (pc' := 102) cd_St_commit rfl (Or.inr ⟨_, rfl, rfl, rfl⟩) l2 rfl ?_
        refine g_if2 (t := 107) (pc' := 105) cd_St_commit rfl rfl rfl (fun c102 => ?_) (fun c102 => ?_)
        · have c102 : (nI (bk W.length)) < (nI (min k (((bk W.length) + 1) + (bk P.length)))) := c102
          have hgt : bk W.length < (min k (bk W.length + 1 + bk P.length)) := (nI_ltI (by omega) (by omega)).mp c102
          refine g_ild (pc' := 109) cd_St_commit rfl (Or.inl ⟨rfl, rfl⟩) l4 rfl ?_
          refine g_ild (pc' := 110) cd_St_commit rfl (Or.inr ⟨_, rfl, rfl, rfl⟩) l2 rfl ?_
          refine g_pure (pc' := 111) (st' := [.int ((nI (min k (((bk W.length) + 1) + (bk P.length)))) - (nI (bk W.length)))]) cd_St_commit rfl rfl (fun _ _ => rfl) ?_
          rw [show ((nI (min k (((bk W.length) + 1) + (bk P.length)))) - (nI (bk W.length)) : Int32) = nI ((min k (((bk W.length) + 1) + (bk P.length))) - (bk W.length)) from pk_sub (a := (min k (((bk W.length) + 1) + (bk P.length)))) (b := (bk W.length)) (by omega)]
          refine g_k1 (v := 1) (pc' := 112) cd_St_commit rfl (by decide) rfl ?_
          refine g_pure (pc' := 113) (st' := [.int ((nI ((min k (((bk W.length) + 1) + (bk P.length))) - (bk W.length))) - 1)]) cd_St_commit rfl rfl (fun _ _ => rfl) ?_
          rw [show ((nI ((min k (((bk W.length) + 1) + (bk P.length))) - (bk W.length))) - 1 : Int32) = nI (((min k (((bk W.length) + 1) + (bk P.length))) - (bk W.length)) - 1) from pk_sub (a := ((min k (((bk W.length) + 1) + (bk P.length))) - (bk W.length))) (b := 1) (by omega)]
          refine g_ist (pc' := 115) cd_St_commit rfl (Or.inl ⟨rfl, rfl⟩) (by decide) rfl (fun lv el => ?_)
          have l0 := tm_lk el l0 rfl (by decide)
          have l1 := tm_lk el l1 rfl (by decide)
          have l2 := tm_lk el l2 rfl (by decide)
          have l3 := tm_lk el l3 rfl (by decide)
          have l4 := tm_lk el l4 rfl (by decide)
          have l5 : lv.lookup 5 = some (.int (nI (((min k (((bk W.length) + 1) + (bk P.length))) - (bk W.length)) - 1))) := tm_lks el
          clear el
          refine g_ald (pc' := 116) cd_St_commit rfl (Or.inr ⟨_, rfl, rfl, rfl⟩) l0 rfl rfl ?_
          refine g_fR (c := 8) (k := 1) (x := (sa + 4)) (pc' := 119) cd_St_commit rfl rfl rfl rfl rfl (by decide) cl66_0 ck66_0 cr66_1 ?_
          refine g_ald (pc' := 120) cd_St_commit rfl (Or.inr ⟨_, rfl, rfl, rfl⟩) l0 rfl rfl ?_
          refine g_fI (c := 8) (k := 4) (x := 0) (pc' := 123) cd_St_commit rfl rfl rfl rfl rfl (by decide) cl66_0 ck66_0 cf66_0 ?_
          refine g_ald (pc' := 124) cd_St_commit rfl (Or.inr ⟨_, rfl, rfl, rfl⟩) l0 rfl rfl ?_
          refine g_fR (c := 8) (k := 2) (x := (sa + 5)) (pc' := 127) cd_St_commit rfl rfl rfl rfl rfl (by decide) cl66_0 ck66_0 cr66_2 ?_
          refine g_ald (pc' := 128) cd_St_commit rfl (Or.inr ⟨_, rfl, rfl, rfl⟩) l0 rfl rfl ?_
          refine g_fI (c := 8) (k := 4) (x := 0) (pc' := 131) cd_St_commit rfl rfl rfl rfl rfl (by decide) cl66_0 ck66_0 cf66_0 ?_
          refine g_aI (x := nI P.length) (pc' := 132) cd_St_commit rfl rfl cl66_5 ck66_5 (by rw [show bm_AL (bm_setI (bm_setI B66 (sa + 4) 1 0) (sa + 5) 1 (nI (min W.length ((min k (((bk W.length) + 1) + (bk P.length))) * 8)))) (sa + 5) = 2 from ca66_3]; exact vp_in_nI (n := 0) (by decide) (by decide)) (show bm_AI (bm_setI (bm_setI B66 (sa + 4) 1 0) (sa + 5) 1 (nI (min W.length ((min k (((bk W.length) + 1) + (bk P.length))) * 8)))) (sa + 5) 0 = _ by rw [show bm_AI (bm_setI (bm_setI B66 (sa + 4) 1 0) (sa + 5) 1 (nI (min W.length ((min k (((bk W.length) + 1) + (bk P.length))) * 8)))) (sa + 5) = _ from A71, pk_un (by decide)]; exact hR.1.2.2.1.2.1) ?_
          refine g_ild (pc' := 134) cd_St_commit rfl (Or.inl ⟨rfl, rfl⟩) l5 rfl ?_
          refine g_k2 (v := 8) (pc' := 136) cd_St_commit rfl (by decide) rfl ?_
          refine g_pure (pc' := 137) (st' := [.int ((nI (((min k (((bk W.length) + 1) + (bk P.length))) - (bk W.length)) - 1)) * 8), .int (nI P.length), .int 0, .ref ((sa + 4))]) cd_St_commit rfl rfl (fun _ _ => rfl) ?_
          rw [show ((nI (((min k (((bk W.length) + 1) + (bk P.length))) - (bk W.length)) - 1)) * 8 : Int32) = nI ((((min k (((bk W.length) + 1) + (bk P.length))) - (bk W.length)) - 1) * 8) from pk_mul (((min k (((bk W.length) + 1) + (bk P.length))) - (bk W.length)) - 1) 8]
          refine g_min (pc' := 140) cd_St_commit rfl rfl rfl rfl ?_
          rw [nI_min (a := P.length) (b := ((((min k (((bk W.length) + 1) + (bk P.length))) - (bk W.length)) - 1) * 8)) (by omega) (by omega)]
          refine g_iast (pc' := 141) cd_St_commit rfl rfl cl66_4 ck66_4 (by rw [show bm_AL (bm_setI (bm_setI B66 (sa + 4) 1 0) (sa + 5) 1 (nI (min W.length ((min k (((bk W.length) + 1) + (bk P.length))) * 8)))) (sa + 4) = 2 from ca66_2]; exact vp_in_nI (n := 0) (by decide) (by decide)) ?_
          rw [show (0 : Int32).toNatClampNeg = 0 from by decide]
          have A73 : bm_AI (bm_setI (bm_setI (bm_setI B66 (sa + 4) 1 0) (sa + 5) 1 (nI (min W.length ((min k (((bk W.length) + 1) + (bk P.length))) * 8)))) (sa + 4) 0 (nI (min P.length ((((min k (((bk W.length) + 1) + (bk P.length))) - (bk W.length)) - 1) * 8)))) (sa + 4) = (upd (upd (bm_AI B (sa + 4)) 1 0) 0 (nI (min P.length ((((min k (((bk W.length) + 1) + (bk P.length))) - (bk W.length)) - 1) * 8)))) := ((AI_set (bm_setI (bm_setI B66 (sa + 4) 1 0) (sa + 5) 1 (nI (min W.length ((min k (((bk W.length) + 1) + (bk P.length))) * 8)))) (sa + 4) 0 (nI (min P.length ((((min k (((bk W.length) + 1) + (bk P.length))) - (bk W.length)) - 1) * 8)))).trans (congrArg (fun f => upd f 0 (nI (min P.length ((((min k (((bk W.length) + 1) + (bk P.length))) - (bk W.length)) - 1) * 8)))) (show bm_AI (bm_setI (bm_setI B66 (sa + 4) 1 0) (sa + 5) 1 (nI (min W.length ((min k (((bk W.length) + 1) + (bk P.length))) * 8)))) (sa + 4) = (upd (bm_AI B (sa + 4)) 1 0) from A70)))
          have A74 : bm_AI (bm_setI (bm_setI (bm_setI B66 (sa + 4) 1 0) (sa + 5) 1 (nI (min W.length ((min k (((bk W.length) + 1) + (bk P.length))) * 8)))) (sa + 4) 0 (nI (min P.length ((((min k (((bk W.length) + 1) + (bk P.length))) - (bk W.length)) - 1) * 8)))) (sa + 5) = (upd (bm_AI B (sa + 5)) 1 (nI (min W.length ((min k (((bk W.length) + 1) + (bk P.length))) * 8)))) := ((AI_setn (bm_setI (bm_setI B66 (sa + 4) 1 0) (sa + 5) 1 (nI (min W.length ((min k (((bk W.length) + 1) + (bk P.length))) * 8)))) 0 (nI (min P.length ((((min k (((bk W.length) + 1) + (bk P.length))) - (bk W.length)) - 1) * 8))) (sa + 5) (by omega)).trans (show bm_AI (bm_setI (bm_setI B66 (sa + 4) 1 0) (sa + 5) 1 (nI (min W.length ((min k (((bk W.length) + 1) + (bk P.length))) * 8)))) (sa + 5) = (upd (bm_AI B (sa + 5)) 1 (nI (min W.length ((min k (((bk W.length) + 1) + (bk P.length))) * 8)))) from A71))
          have Z75 : fz (fun z => z = sa ∨ z = sa + 4 ∨ z = sa + 5) B (bm_setI (bm_setI (bm_setI B66 (sa + 4) 1 0) (sa + 5) 1 (nI (min W.length ((min k (((bk W.length) + 1) + (bk P.length))) * 8)))) (sa + 4) 0 (nI (min P.length ((((min k (((bk W.length) + 1) + (bk P.length))) - (bk W.length)) - 1) * 8)))) := fz_trans Z72 ⟨fr_mono (fun _ q => Or.inr (Or.inl q)) (fr_setI _ (sa + 4) _ _), rfl, rfl⟩
          refine g_ald (pc' := 142) cd_St_commit rfl (Or.inr ⟨_, rfl, rfl, rfl⟩) l0 rfl rfl ?_
          refine g_ild (pc' := 143) cd_St_commit rfl (Or.inr ⟨_, rfl, rfl, rfl⟩) l1 rfl ?_
          refine g_putI (c := 8) (k := 4) (pc' := 146) cd_St_commit rfl rfl rfl rfl (by simp [tm_okV, narrow, fits]) (Or.inl rfl) rfl (by decide) cl66_0 ck66_0 ?_
          have P76 : bm_FI (bm_putI (bm_setI (bm_setI (bm_setI B66 (sa + 4) 1 0) (sa + 5) 1 (nI (min W.length ((min k (((bk W.length) + 1) + (bk P.length))) * 8)))) (sa + 4) 0 (nI (min P.length ((((min k (((bk W.length) + 1) + (bk P.length))) - (bk W.length)) - 1) * 8)))) 8 4 sa 1) 8 4 sa = 1 := if_pos ⟨rfl, rfl, rfl⟩
          have Z77 : fz (fun z => z = sa ∨ z = sa + 4 ∨ z = sa + 5) B (bm_putI (bm_setI (bm_setI (bm_setI B66 (sa + 4) 1 0) (sa + 5) 1 (nI (min W.length ((min k (((bk W.length) + 1) + (bk P.length))) * 8)))) (sa + 4) 0 (nI (min P.length ((((min k (((bk W.length) + 1) + (bk P.length))) - (bk W.length)) - 1) * 8)))) 8 4 sa 1) := fz_trans Z75 ⟨fr_mono (fun _ q => Or.inl q) (fr_putI _ 8 4 sa _), rfl, rfl⟩
          refine g_ald (pc' := 147) cd_St_commit rfl (Or.inr ⟨_, rfl, rfl, rfl⟩) l0 rfl rfl ?_
          refine g_fI (c := 8) (k := 6) (x := 0) (pc' := 150) cd_St_commit rfl rfl rfl rfl rfl (by decide) cl66_0 ck66_0 cf66_3 ?_
          refine g_if1 (t := 157) (pc' := 153) cd_St_commit rfl rfl rfl (fun c150 => ?_) (fun c150 => ?_)
          · have c150 : (0 : Int32) = 0 := c150
            refine g_k1 (v := 2) (pc' := 158) cd_St_commit rfl (by decide) rfl ?_
            have g4 : bm_AI (bm_putI (bm_setI (bm_setI (bm_setI B66 (sa + 4) 1 0) (sa + 5) 1 (nI (min W.length ((min k (((bk W.length) + 1) + (bk P.length))) * 8)))) (sa + 4) 0 (nI (min P.length ((((min k (((bk W.length) + 1) + (bk P.length))) - (bk W.length)) - 1) * 8)))) 8 4 sa 1) (sa + 4) = (upd (upd (bm_AI B (sa + 4)) 1 0) 0 (nI (min P.length ((((min k (((bk W.length) + 1) + (bk P.length))) - (bk W.length)) - 1) * 8)))) := A73
            have g5 : bm_AI (bm_putI (bm_setI (bm_setI (bm_setI B66 (sa + 4) 1 0) (sa + 5) 1 (nI (min W.length ((min k (((bk W.length) + 1) + (bk P.length))) * 8)))) (sa + 4) 0 (nI (min P.length ((((min k (((bk W.length) + 1) + (bk P.length))) - (bk W.length)) - 1) * 8)))) 8 4 sa 1) (sa + 5) = (upd (bm_AI B (sa + 5)) 1 (nI (min W.length ((min k (((bk W.length) + 1) + (bk P.length))) * 8)))) := A74
            have gp : bm_AI (bm_putI (bm_setI (bm_setI (bm_setI B66 (sa + 4) 1 0) (sa + 5) 1 (nI (min W.length ((min k (((bk W.length) + 1) + (bk P.length))) * 8)))) (sa + 4) 0 (nI (min P.length ((((min k (((bk W.length) + 1) + (bk P.length))) - (bk W.length)) - 1) * 8)))) 8 4 sa 1) (sa + 2) = bm_AI B (sa + 2) := fr_AI Z77.1 hS.2.2.2.2.2.1.1 (by omega)
            have go : bm_AI (bm_putI (bm_setI (bm_setI (bm_setI B66 (sa + 4) 1 0) (sa + 5) 1 (nI (min W.length ((min k (((bk W.length) + 1) + (bk P.length))) * 8)))) (sa + 4) 0 (nI (min P.length ((((min k (((bk W.length) + 1) + (bk P.length))) - (bk W.length)) - 1) * 8)))) 8 4 sa 1) (sa + 3) = bm_AI B (sa + 3) := fr_AI Z77.1 hS.2.2.2.2.2.2.1.1 (by omega)
            have hE := st_commit_2 (p := false) (P := P) (W := W) rfl (show (min k (bk W.length + 1 + bk P.length)) = st_made (some k) (bk W.length + 1 + bk P.length) from rfl) (fun q => absurd ((nI_ltI (by omega) (by omega)).mp c102) (by omega)) (fun q => absurd ((nI_leI (by omega) (by omega)).mp c63) (by omega))
            have kk2 := kk
            rw [show st_commit false P (some k) W = _ from hE] at kk2
            exact g_reti cd_St_commit rfl ⟨_, rfl, (kk2 _ ⟨⟨StS_fr hS Z77.1, StA_fr hS hAA Z77.1 (by omega)⟩, ⟨P76, cf66_1, cf66_3, fun _ q => by cases q⟩, ⟨(show bm_AI (bm_putI (bm_setI (bm_setI (bm_setI B66 (sa + 4) 1 0) (sa + 5) 1 (nI (min W.length ((min k (((bk W.length) + 1) + (bk P.length))) * 8)))) (sa + 4) 0 (nI (min P.length ((((min k (((bk W.length) + 1) + (bk P.length))) - (bk W.length)) - 1) * 8)))) 8 4 sa 1) (sa + 4) 1 = _ by rw [g4]; rw [pk_un (by decide)]; rfl), (show bm_AI (bm_putI (bm_setI (bm_setI (bm_setI B66 (sa + 4) 1 0) (sa + 5) 1 (nI (min W.length ((min k (((bk W.length) + 1) + (bk P.length))) * 8)))) (sa + 4) 0 (nI (min P.length ((((min k (((bk W.length) + 1) + (bk P.length))) - (bk W.length)) - 1) * 8)))) 8 4 sa 1) (sa + 5) 1 = _ by rw [g5]; simp only [upd, if_true]; congr 1; have := (nI_ltI (by omega) (by omega)).mp c102; omega), hw, show EN (bm_AI (bm_putI (bm_setI (bm_setI (bm_setI B66 (sa + 4) 1 0) (sa + 5) 1 (nI (min W.length ((min k (((bk W.length) + 1) + (bk P.length))) * 8)))) (sa + 4) 0 (nI (min P.length ((((min k (((bk W.length) + 1) + (bk P.length))) - (bk W.length)) - 1) * 8)))) 8 4 sa 1) (sa + 3)) T W 0 by rw [go]; exact hR.2.2.2⟩, min P.length (8 * ((min k (bk W.length + 1 + bk P.length)) - bk W.length - 1)), (show bm_AI (bm_putI (bm_setI (bm_setI (bm_setI B66 (sa + 4) 1 0) (sa + 5) 1 (nI (min W.length ((min k (((bk W.length) + 1) + (bk P.length))) * 8)))) (sa + 4) 0 (nI (min P.length ((((min k (((bk W.length) + 1) + (bk P.length))) - (bk W.length)) - 1) * 8)))) 8 4 sa 1) (sa + 4) 0 = _ by rw [g4]; simp only [upd, if_true]; congr 1; omega), (show bm_AI (bm_putI (bm_setI (bm_setI (bm_setI B66 (sa + 4) 1 0) (sa + 5) 1 (nI (min W.length ((min k (((bk W.length) + 1) + (bk P.length))) * 8)))) (sa + 4) 0 (nI (min P.length ((((min k (((bk W.length) + 1) + (bk P.length))) - (bk W.length)) - 1) * 8)))) 8 4 sa 1) (sa + 5) 0 = _ by rw [g5]; rw [pk_un (by decide)]; exact hR.1.2.2.1.2.1.trans (congrArg nI (by simp; omega))), (by simp; omega), show EN (bm_AI (bm_putI (bm_setI (bm_setI (bm_setI B66 (sa + 4) 1 0) (sa + 5) 1 (nI (min W.length ((min k (((bk W.length) + 1) + (bk P.length))) * 8)))) (sa + 4) 0 (nI (min P.length ((((min k (((bk W.length) + 1) + (bk P.length))) - (bk W.length)) - 1) * 8)))) 8 4 sa 1) (sa + 2)) T _ _ by rw [gp]; exact EN_drop hR.1.2.2.1.2.2.2⟩ (fz_mono (fun _ q => q.elim Or.inl (fun q => q.elim (fun q => Or.inr (Or.inr (Or.inr (Or.inl q)))) (fun q => Or.inr (Or.inr (Or.inr (Or.inr q)))))) Z77))⟩
          · exact absurd (show ¬ (0 : Int32) = 0 from c150) (by decide)
        · have c102 : ¬ (nI (bk W.length)) < (nI (min k (((bk W.length) + 1) + (bk P.length)))) := c102
          exact absurd ((nI_leI (by omega) (by omega)).mp (Int32.not_lt.mp c102)) (by have := (nI_leI (by omega) (by omega)).mp c63; omega)
      · have c63 : ¬ (nI (((bk W.length) + 1) + (bk P.length))) ≤ (nI (min k (((bk W.length) + 1) + (bk P.length)))) := c63
        refine g_k1 (v := 1) (pc' := 67) cd_St_commit rfl (by decide) rfl ?_
        refine g_pure (pc' := 71) (st' := [.int 1, .ref sa]) cd_St_commit rfl rfl (fun _ _ => rfl) ?_
        refine g_putI (c := 8) (k := 6) (pc' := 74) cd_St_commit rfl rfl rfl rfl (by decide) (Or.inl rfl) rfl (by decide) hS.1.1 hS.1.2 ?_
        have P78 : bm_FI (bm_putI (bm_putI B 8 5 sa (-1)) 8 6 sa 1) 8 6 sa = 1 := if_pos ⟨rfl, rfl, rfl⟩
        have Z79 : fz (fun z => z = sa ∨ z = sa + 4 ∨ z = sa + 5) B (bm_putI (bm_putI B 8 5 sa (-1)) 8 6 sa 1) := fz_trans Z63 ⟨fr_mono (fun _ q => Or.inl q) (fr_putI _ 8 6 sa _), rfl, rfl⟩
        obtain ⟨B80, eB80⟩ : ∃ Bx, Bx = (bm_putI (bm_putI B 8 5 sa (-1)) 8 6 sa 1) := ⟨_, rfl⟩
        have cl80_0 : sa < bm_n B80 := eB80 ▸ (show sa < bm_n (bm_putI (bm_putI B 8 5 sa (-1)) 8 6 sa 1) from hS.1.1)
        have ck80_0 : bm_K B80 sa = 8 := eB80 ▸ (show bm_K (bm_putI (bm_putI B 8 5 sa (-1)) 8 6 sa 1) sa = 8 from hS.1.2)
        have cl80_1 : (sa + 1) < bm_n B80 := eB80 ▸ (show (sa + 1) < bm_n (bm_putI (bm_putI B 8 5 sa (-1)) 8 6 sa 1) from hS.2.2.2.2.1.1)
        have ck80_1 : bm_K B80 (sa + 1) = 21 := eB80 ▸ (show bm_K (bm_putI (bm_putI B 8 5 sa (-1)) 8 6 sa 1) (sa + 1) = 21 from hS.2.2.2.2.1.2.1)
        have cl80_2 : (sa + 2) < bm_n B80 := eB80 ▸ (show (sa + 2) < bm_n (bm_putI (bm_putI B 8 5 sa (-1)) 8 6 sa 1) from hS.2.2.2.2.2.1.1)
        have ck80_2 : bm_K B80 (sa + 2) = 13 := eB80 ▸ (show bm_K (bm_putI (bm_putI B 8 5 sa (-1)) 8 6 sa 1) (sa + 2) = 13 from hS.2.2.2.2.2.1.2.1)
        have cl80_3 : (sa + 3) < bm_n B80 := eB80 ▸ (show (sa + 3) < bm_n (bm_putI (bm_putI B 8 5 sa (-1)) 8 6 sa 1) from hS.2.2.2.2.2.2.1.1)
        have ck80_3 : bm_K B80 (sa + 3) = 13 := eB80 ▸ (show bm_K (bm_putI (bm_putI B 8 5 sa (-1)) 8 6 sa 1) (sa + 3) = 13 from hS.2.2.2.2.2.2.1.2.1)
        have cl80_4 : (sa + 4) < bm_n B80 := eB80 ▸ (show (sa + 4) < bm_n (bm_putI (bm_putI B 8 5 sa (-1)) 8 6 sa 1) from hS.2.2.2.2.2.2.2.1.1)
        have ck80_4 : bm_K B80 (sa + 4) = 13 := eB80 ▸ (show bm_K (bm_putI (bm_putI B 8 5 sa (-1)) 8 6 sa 1) (sa + 4) = 13 from hS.2.2.2.2.2.2.2.1.2.1)
        have cl80_5 : (sa + 5) < bm_n B80 := eB80 ▸ (show (sa + 5) < bm_n (bm_putI (bm_putI B 8 5 sa (-1)) 8 6 sa 1) from hS.2.2.2.2.2.2.2.2.1)
        have ck80_5 : bm_K B80 (sa + 5) = 13 := eB80 ▸ (show bm_K (bm_putI (bm_putI B 8 5 sa (-1)) 8 6 sa 1) (sa + 5) = 13 from hS.2.2.2.2.2.2.2.2.2.1)
        have cf80_0 : bm_FI B80 8 4 sa = 0 := eB80 ▸ (show bm_FI (bm_putI (bm_putI B 8 5 sa (-1)) 8 6 sa 1) 8 4 sa = 0 from hR.1.2.1.1)
        have cf80_1 : bm_FI B80 8 5 sa = (-1) := eB80 ▸ (show bm_FI (bm_putI (bm_putI B 8 5 sa (-1)) 8 6 sa 1) 8 5 sa = (-1) from P62)
        have cf80_2 : bm_FI B80 8 3 sa = nI W.length := eB80 ▸ (show bm_FI (bm_putI (bm_putI B 8 5 sa (-1)) 8 6 sa 1) 8 3 sa = nI W.length from hR.2.1)
        have cf80_3 : bm_FI B80 8 6 sa = 1 := eB80 ▸ (show bm_FI (bm_putI (bm_putI B 8 5 sa (-1)) 8 6 sa 1) 8 6 sa = 1 from P78)
        have cr80_0 : bm_FR B80 8 0 sa = some (sa + 1) := eB80 ▸ (show bm_FR (bm_putI (bm_putI B 8 5 sa (-1)) 8 6 sa 1) 8 0 sa = some (sa + 1) from hS.2.1)
        have cr80_1 : bm_FR B80 8 1 sa = some (sa + 4) := eB80 ▸ (show bm_FR (bm_putI (bm_putI B 8 5 sa (-1)) 8 6 sa 1) 8 1 sa = some (sa + 4) from hS.2.2.1)
        have cr80_2 : bm_FR B80 8 2 sa = some (sa + 5) := eB80 ▸ (show bm_FR (bm_putI (bm_putI B 8 5 sa (-1)) 8 6 sa 1) 8 2 sa = some (sa + 5) from hS.2.2.2.1)
        have ci80_0 : bm_AI B80 (sa + 4) = (bm_AI B (sa + 4)) := eB80 ▸ (show bm_AI (bm_putI (bm_putI B 8 5 sa (-1)) 8 6 sa 1) (sa + 4) = (bm_AI B (sa + 4)) from rfl)
        have ci80_1 : bm_AI B80 (sa + 5) = (bm_AI B (sa + 5)) := eB80 ▸ (show bm_AI (bm_putI (bm_putI B 8 5 sa (-1)) 8 6 sa 1) (sa + 5) = (bm_AI B (sa + 5)) from rfl)
        have ca80_0 : bm_AL B80 (sa + 2) = 1072 := eB80 ▸ (show bm_AL (bm_putI (bm_putI B 8 5 sa (-1)) 8 6 sa 1) (sa + 2) = 1072 from hS.2.2.2.2.2.1.2.2)
        have ca80_1 : bm_AL B80 (sa + 3) = 1072 := eB80 ▸ (show bm_AL (bm_putI (bm_putI B 8 5 sa (-1)) 8 6 sa 1) (sa + 3) = 1072 from hS.2.2.2.2.2.2.1.2.2)
        have ca80_2 : bm_AL B80 (sa + 4) = 2 := eB80 ▸ (show bm_AL (bm_putI (bm_putI B 8 5 sa (-1)) 8 6 sa 1) (sa + 4) = 2 from hS.2.2.2.2.2.2.2.1.2.2)
        have ca80_3 : bm_AL B80 (sa + 5) = 2 := eB80 ▸ (show bm_AL (bm_putI (bm_putI B 8 5 sa (-1)) 8 6 sa 1) (sa + 5) = 2 from hS.2.2.2.2.2.2.2.2.2.2)
        have ca80_4 : bm_AL B80 (sa + 1) = 2 := eB80 ▸ (show bm_AL (bm_putI (bm_putI B 8 5 sa (-1)) 8 6 sa 1) (sa + 1) = 2 from hS.2.2.2.2.1.2.2)
        have cz80 : fz (fun z => z = sa ∨ z = sa + 4 ∨ z = sa + 5) B B80 := eB80 ▸ (show fz (fun z => z = sa ∨ z = sa + 4 ∨ z = sa + 5) B (bm_putI (bm_putI B 8 5 sa (-1)) 8 6 sa 1) from Z79)
        rw [← eB80]
        clear eB80
        refine g_ald (pc' := 75) cd_St_commit rfl (Or.inr ⟨_, rfl, rfl, rfl⟩) l0 rfl rfl ?_
        refine g_fR (c := 8) (k := 1) (x := (sa + 4)) (pc' := 78) cd_St_commit rfl rfl rfl rfl rfl (by decide) cl80_0 ck80_0 cr80_1 ?_
        refine g_ild (pc' := 79) cd_St_commit rfl (Or.inr ⟨_, rfl, rfl, rfl⟩) l1 rfl ?_
        refine g_k1 (v := 0) (pc' := 80) cd_St_commit rfl (by decide) rfl ?_
        refine g_iast (pc' := 81) cd_St_commit rfl rfl cl80_4 ck80_4 (by rw [show bm_AL B80 (sa + 4) = 2 from ca80_2]; exact vp_in_nI (n := 1) (by decide) (by decide)) ?_
        rw [show (1 : Int32).toNatClampNeg = 1 from by decide]
        have A81 : bm_AI (bm_setI B80 (sa + 4) 1 0) (sa + 4) = (upd (bm_AI B (sa + 4)) 1 0) := ((AI_set B80 (sa + 4) 1 0).trans (congrArg (fun f => upd f 1 0) (show bm_AI B80 (sa + 4) = (bm_AI B (sa + 4)) from ci80_0)))
        have A82 : bm_AI (bm_setI B80 (sa + 4) 1 0) (sa + 5) = (bm_AI B (sa + 5)) := ((AI_setn B80 1 0 (sa + 5) (by omega)).trans (show bm_AI B80 (sa + 5) = (bm_AI B (sa + 5)) from ci80_1))
        have Z83 : fz (fun z => z = sa ∨ z = sa + 4 ∨ z = sa + 5) B (bm_setI B80 (sa + 4) 1 0) := fz_trans cz80 ⟨fr_mono (fun _ q => Or.inr (Or.inl q)) (fr_setI _ (sa + 4) _ _), rfl, rfl⟩
        refine g_ald (pc' := 82) cd_St_commit rfl (Or.inr ⟨_, rfl, rfl, rfl⟩) l0 rfl rfl ?_
        refine g_fR (c := 8) (k := 2) (x := (sa + 5)) (pc' := 85) cd_St_commit rfl rfl rfl rfl rfl (by decide) cl80_0 ck80_0 cr80_2 ?_
        refine g_ild (pc' := 86) cd_St_commit rfl (Or.inr ⟨_, rfl, rfl, rfl⟩) l1 rfl ?_
        refine g_ald (pc' := 87) cd_St_commit rfl (Or.inr ⟨_, rfl, rfl, rfl⟩) l0 rfl rfl ?_
        refine g_fI (c := 8) (k := 3) (x := nI W.length) (pc' := 90) cd_St_commit rfl rfl rfl rfl rfl (by decide) cl80_0 ck80_0 cf80_2 ?_
        refine g_ild (pc' := 92) cd_St_commit rfl (Or.inl ⟨rfl, rfl⟩) l4 rfl ?_
        refine g_k2 (v := 8) (pc' := 94) cd_St_commit rfl (by decide) rfl ?_
        refine g_pure (pc' := 95) (st' := [.int ((nI (min k (((bk W.length) + 1) + (bk P.length)))) * 8), .int (nI W.length), .int 1, .ref ((sa + 5))]) cd_St_commit rfl rfl (fun _ _ => rfl) ?_
        rw [show ((nI (min k (((bk W.length) + 1) + (bk P.length)))) * 8 : Int32) = nI ((min k (((bk W.length) + 1) + (bk P.length))) * 8) from pk_mul (min k (((bk W.length) + 1) + (bk P.length))) 8]
        refine g_min (pc' := 98) cd_St_commit rfl rfl rfl rfl ?_
        rw [nI_min (a := W.length) (b := ((min k (((bk W.length) + 1) + (bk P.length))) * 8)) (by omega) (by omega)]
        refine g_iast (pc' := 99) cd_St_commit rfl rfl cl80_5 ck80_5 (by rw [show bm_AL (bm_setI B80 (sa + 4) 1 0) (sa + 5) = 2 from ca80_3]; exact vp_in_nI (n := 1) (by decide) (by decide)) ?_
        rw [show (1 : Int32).toNatClampNeg = 1 from by decide]
        have A84 : bm_AI (bm_setI (bm_setI B80 (sa + 4) 1 0) (sa + 5) 1 (nI (min W.length ((min k (((bk W.length) + 1) + (bk P.length))) * 8)))) (sa + 4) = (upd (bm_AI B (sa + 4)) 1 0) := ((AI_setn (bm_setI B80 (sa + 4) 1 0) 1 (nI (min W.length ((min k (((bk W.length) + 1) + (bk P.length))) * 8))) (sa + 4) (by omega)).trans (show bm_AI (bm_setI B80 (sa + 4) 1 0) (sa + 4) = (upd (bm_AI B (sa + 4)) 1 0) from A81))
        have A85 : bm_AI (bm_setI (bm_setI B80 (sa + 4) 1 0) (sa + 5) 1 (nI (min W.length ((min k (((bk W.length) + 1) + (bk P.length))) * 8)))) (sa + 5) = (upd (bm_AI B (sa + 5)) 1 (nI (min W.length ((min k (((bk W.length) + 1) + (bk P.length))) * 8)))) := ((AI_set (bm_setI B80 (sa + 4) 1 0) (sa + 5) 1 (nI (min W.length ((min k (((bk W.length) + 1) + (bk P.length))) * 8)))).trans (congrArg (fun f => upd f 1 (nI (min W.length ((min k (((bk W.length) + 1) + (bk P.length))) * 8)))) (show bm_AI (bm_setI B80 (sa + 4) 1 0) (sa + 5) = (bm_AI B (sa + 5)) from A82)))
        have Z86 : fz (fun z => z = sa ∨ z = sa + 4 ∨ z = sa + 5) B (bm_setI (bm_setI B80 (sa + 4) 1 0) (sa + 5) 1 (nI (min W.length ((min k (((bk W.length) + 1) + (bk P.length))) * 8)))) := fz_trans Z83 ⟨fr_mono (fun _ q => Or.inr (Or.inr q)) (fr_setI _ (sa + 5) _ _), rfl, rfl⟩
        refine g_ild (pc' := 101) cd_St_commit rfl (Or.inl ⟨rfl, rfl⟩) l4 rfl ?_
        refine g_ild (pc' := 102) cd_St_commit rfl (Or.inr ⟨_, rfl, rfl, rfl⟩) l2 rfl ?_
        refine g_if2 (t := 107) (pc' := 105) cd_St_commit rfl rfl rfl (fun c102 => ?_) (fun c102 => ?_)
        · have c102 : (nI (bk W.length)) < (nI (min k (((bk W.length) + 1) + (bk P.length)))) := c102
          have hgt : bk W.length < (min k (bk W.length + 1 + bk P.length)) := (nI_ltI (by omega) (by omega)).mp c102
          refine g_ild (pc' := 109) cd_St_commit rfl (Or.inl ⟨rfl, rfl⟩) l4 rfl ?_
          refine g_ild (pc' := 110) cd_St_commit rfl (Or.inr ⟨_, rfl, rfl, rfl⟩) l2 rfl ?_
          refine g_pure (pc' := 111) (st' := [.int ((nI (min k (((bk W.length) + 1) + (bk P.length)))) - (nI (bk W.length)))]) cd_St_commit rfl rfl (fun _ _ => rfl) ?_
          rw [show ((nI (min k (((bk W.length) + 1) + (bk P.length)))) - (nI (bk W.length)) : Int32) = nI ((min k (((bk W.length) + 1) + (bk P.length))) - (bk W.length)) from pk_sub (a := (min k (((bk W.length) + 1) + (bk P.length)))) (b := (bk W.length)) (by omega)]
          refine g_k1 (v := 1) (pc' := 112) cd_St_commit rfl (by decide) rfl ?_
          refine g_pure (pc' := 113) (st' := [.int ((nI ((min k (((bk W.length) + 1) + (bk P.length))) - (bk W.length))) - 1)]) cd_St_commit rfl rfl (fun _ _ => rfl) ?_
          rw [show ((nI ((min k (((bk W.length) + 1) + (bk P.length))) - (bk W.length))) - 1 : Int32) = nI (((min k (((bk W.length) + 1) + (bk P.length))) - (bk W.length)) - 1) from pk_sub (a := ((min k (((bk W.length) + 1) + (bk P.length))) - (bk W.length))) (b := 1) (by omega)]
          refine g_ist (pc' := 115) cd_St_commit rfl (Or.inl ⟨rfl, rfl⟩) (by decide) rfl (fun lv el => ?_)
          have l0 := tm_lk el l0 rfl (by decide)
          have l1 := tm_lk el l1 rfl (by decide)
          have l2 := tm_lk el l2 rfl (by decide)
          have l3 := tm_lk el l3 rfl (by decide)
          have l4 := tm_lk el l4 rfl (by decide)
          have l5 : lv.lookup 5 = some (.int (nI (((min k (((bk W.length) + 1) + (bk P.length))) - (bk W.length)) - 1))) := tm_lks el
          clear el
          refine g_ald (pc' := 116) cd_St_commit rfl (Or.inr ⟨_, rfl, rfl, rfl⟩) l0 rfl rfl ?_
          refine g_fR (c := 8) (k := 1) (x := (sa + 4)) (pc' := 119) cd_St_commit rfl rfl rfl rfl rfl (by decide) cl80_0 ck80_0 cr80_1 ?_
          refine g_ald (pc' := 120) cd_St_commit rfl (Or.inr ⟨_, rfl, rfl, rfl⟩) l0 rfl rfl ?_
          refine g_fI (c := 8) (k := 4) (x := 0) (pc' := 123) cd_St_commit rfl rfl rfl rfl rfl (by decide) cl80_0 ck80_0 cf80_0 ?_
          refine g_ald (pc' := 124) cd_St_commit rfl (Or.inr ⟨_, rfl, rfl, rfl⟩) l0 rfl rfl ?_
          refine g_fR (c := 8) (k := 2) (x := (sa + 5)) (pc' := 127) cd_St_commit rfl rfl rfl rfl rfl (by decide) cl80_0 ck80_0 cr80_2 ?_
          refine g_ald (pc' := 128) cd_St_commit rfl (Or.inr ⟨_, rfl, rfl, rfl⟩) l0 rfl rfl ?_
          refine g_fI (c := 8) (k := 4) (x := 0) (pc' := 131) cd_St_commit rfl rfl rfl rfl rfl (by decide) cl80_0 ck80_0 cf80_0 ?_
          refine g_aI (x := nI P.length) (pc' := 132) cd_St_commit rfl rfl cl80_5 ck80_5 (by rw [show bm_AL (bm_setI (bm_setI B80 (sa + 4) 1 0) (sa + 5) 1 (nI (min W.length ((min k (((bk W.length) + 1) + (bk P.length))) * 8)))) (sa + 5) = 2 from ca80_3]; exact vp_in_nI (n := 0) (by decide) (by decide)) (show bm_AI (bm_setI (bm_setI B80 (sa + 4) 1 0) (sa + 5) 1 (nI (min W.length ((min k (((bk W.length) + 1) + (bk P.length))) * 8)))) (sa + 5) 0 = _ by rw [show bm_AI (bm_setI (bm_setI B80 (sa + 4) 1 0) (sa + 5) 1 (nI (min W.length ((min k (((bk W.length) + 1) + (bk P.length))) * 8)))) (sa + 5) = _ from A85, pk_un (by decide)]; exact hR.1.2.2.1.2.1) ?_
          refine g_ild (pc' := 134) cd_St_commit rfl (Or.inl ⟨rfl, rfl⟩) l5 rfl ?_
          refine g_k2 (v := 8) (pc' := 136) cd_St_commit rfl (by decide) rfl ?_
          refine g_pure (pc' := 137) (st' := [.int ((nI (((min k (((bk W.length) + 1) + (bk P.length))) - (bk W.length)) - 1)) * 8), .int (nI P.length), .int 0, .ref ((sa + 4))]) cd_St_commit rfl rfl (fun _ _ => rfl) ?_
          rw [show ((nI (((min k (((bk W.length) + 1) + (bk P.length))) - (bk W.length)) - 1)) * 8 : Int32) = nI ((((min k (((bk W.length) + 1) + (bk P.length))) - (bk W.length)) - 1) * 8) from pk_mul (((min k (((bk W.length) + 1) + (bk P.length))) - (bk W.length)) - 1) 8]
          refine g_min (pc' := 140) cd_St_commit rfl rfl rfl rfl ?_
          rw [nI_min (a := P.length) (b := ((((min k (((bk W.length) + 1) + (bk P.length))) - (bk W.length)) - 1) * 8)) (by omega) (by omega)]
          refine g_iast (pc' := 141) cd_St_commit rfl rfl cl80_4 ck80_4 (by rw [show bm_AL (bm_setI (bm_setI B80 (sa + 4) 1 0) (sa + 5) 1 (nI (min W.length ((min k (((bk W.length) + 1) + (bk P.length))) * 8)))) (sa + 4) = 2 from ca80_2]; exact vp_in_nI (n := 0) (by decide) (by decide)) ?_
          rw [show (0 : Int32).toNatClampNeg = 0 from by decide]
          have A87 : bm_AI (bm_setI (bm_setI (bm_setI B80 (sa + 4) 1 0) (sa + 5) 1 (nI (min W.length ((min k (((bk W.length) + 1) + (bk P.length))) * 8)))) (sa + 4) 0 (nI (min P.length ((((min k (((bk W.length) + 1) + (bk P.length))) - (bk W.length)) - 1) * 8)))) (sa + 4) = (upd (upd (bm_AI B (sa + 4)) 1 0) 0 (nI (min P.length ((((min k (((bk W.length) + 1) + (bk P.length))) - (bk W.length)) - 1) * 8)))) := ((AI_set (bm_setI (bm_setI B80 (sa + 4) 1 0) (sa + 5) 1 (nI (min W.length ((min k (((bk W.length) + 1) + (bk P.length))) * 8)))) (sa + 4) 0 (nI (min P.length ((((min k (((bk W.length) + 1) + (bk P.length))) - (bk W.length)) - 1) * 8)))).trans (congrArg (fun f => upd f 0 (nI (min P.length ((((min k (((bk W.length) + 1) + (bk P.length))) - (bk W.length)) - 1) * 8)))) (show bm_AI (bm_setI (bm_setI B80 (sa + 4) 1 0) (sa + 5) 1 (nI (min W.length ((min k (((bk W.length) + 1) + (bk P.length))) * 8)))) (sa + 4) = (upd (bm_AI B (sa + 4)) 1 0) from A84)))
          have A88 : bm_AI (bm_setI (bm_setI (bm_setI B80 (sa + 4) 1 0) (sa + 5) 1 (nI (min W.length ((min k (((bk W.length) + 1) + (bk P.length))) * 8)))) (sa + 4) 0 (nI (min P.length ((((min k (((bk W.length) + 1) + (bk P.length))) - (bk W.length)) - 1) * 8)))) (sa + 5) = (upd (bm_AI B (sa + 5)) 1 (nI (min W.length ((min k (((bk W.length) + 1) + (bk P.length))) * 8)))) := ((AI_setn (bm_setI (bm_setI B80 (sa + 4) 1 0) (sa + 5) 1 (nI (min W.length ((min k (((bk W.length) + 1) + (bk P.length))) * 8)))) 0 (nI (min P.length ((((min k (((bk W.length) + 1) + (bk P.length))) - (bk W.length)) - 1) * 8))) (sa + 5) (by omega)).trans (show bm_AI (bm_setI (bm_setI B80 (sa + 4) 1 0) (sa + 5) 1 (nI (min W.length ((min k (((bk W.length) + 1) + (bk P.length))) * 8)))) (sa + 5) = (upd (bm_AI B (sa + 5)) 1 (nI (min W.length ((min k (((bk W.length) + 1) + (bk P.length))) * 8)))) from A85))
          have Z89 : fz (fun z => z = sa ∨ z = sa + 4 ∨ z = sa + 5) B (bm_setI (bm_setI (bm_setI B80 (sa + 4) 1 0) (sa + 5) 1 (nI (min W.length ((min k (((bk W.length) + 1) + (bk P.length))) * 8)))) (sa + 4) 0 (nI (min P.length ((((min k (((bk W.length) + 1) + (bk P.length))) - (bk W.length)) - 1) * 8)))) := fz_trans Z86 ⟨fr_mono (fun _ q => Or.inr (Or.inl q)) (fr_setI _ (sa + 4) _ _), rfl, rfl⟩
          refine g_ald (pc' := 142) cd_St_commit rfl (Or.inr ⟨_, rfl, rfl, rfl⟩) l0 rfl rfl ?_
          refine g_ild (pc' := 143) cd_St_commit rfl (Or.inr ⟨_, rfl, rfl, rfl⟩) l1 rfl ?_
          refine g_putI (c := 8) (k := 4) (pc' := 146) cd_St_commit rfl rfl rfl rfl (by simp [tm_okV, narrow, fits]) (Or.inl rfl) rfl (by decide) cl80_0 ck80_0 ?_
          have P90 : bm_FI (bm_putI (bm_setI (bm_setI (bm_setI B80 (sa + 4) 1 0) (sa + 5) 1 (nI (min W.length ((min k (((bk W.length) + 1) + (bk P.length))) * 8)))) (sa + 4) 0 (nI (min P.length ((((min k (((bk W.length) + 1) + (bk P.length))) - (bk W.length)) - 1) * 8)))) 8 4 sa 1) 8 4 sa = 1 := if_pos ⟨rfl, rfl, rfl⟩
          have Z91 : fz (fun z => z = sa ∨ z = sa + 4 ∨ z = sa + 5) B (bm_putI (bm_setI (bm_setI (bm_setI B80 (sa + 4) 1 0) (sa + 5) 1 (nI (min W.length ((min k (((bk W.length) + 1) + (bk P.length))) * 8)))) (sa + 4) 0 (nI (min P.length ((((min k (((bk W.length) + 1) + (bk P.length))) - (bk W.length)) - 1) * 8)))) 8 4 sa 1) := fz_trans Z89 ⟨fr_mono (fun _ q => Or.inl q) (fr_putI _ 8 4 sa _), rfl, rfl⟩
          refine g_ald (pc' := 147) cd_St_commit rfl (Or.inr ⟨_, rfl, rfl, rfl⟩) l0 rfl rfl ?_
          refine g_fI (c := 8) (k := 6) (x := 1) (pc' := 150) cd_St_commit rfl rfl rfl rfl rfl (by decide) cl80_0 ck80_0 cf80_3 ?_
          refine g_if1 (t := 157) (pc' := 153) cd_St_commit rfl rfl rfl (fun c150 => ?_) (fun c150 => ?_)
          · exact absurd (show (1 : Int32) = 0 from c150) (by decide)
          · have c150 : ¬ (1 : Int32) = 0 := c150
            refine g_k1 (v := 1) (pc' := 154) cd_St_commit rfl (by decide) rfl ?_
            refine g_pure (pc' := 158) (st' := [.int 1]) cd_St_commit rfl rfl (fun _ _ => rfl) ?_
            have g4 : bm_AI (bm_putI (bm_setI (bm_setI (bm_setI B80 (sa + 4) 1 0) (sa + 5) 1 (nI (min W.length ((min k (((bk W.length) + 1) + (bk P.length))) * 8)))) (sa + 4) 0 (nI (min P.length ((((min k (((bk W.length) + 1) + (bk P.length))) - (bk W.length)) - 1) * 8)))) 8 4 sa 1) (sa + 4) = (upd (upd (bm_AI B (sa + 4)) 1 0) 0 (nI (min P.length ((((min k (((bk W.length) + 1) + (bk P.length))) - (bk W.length)) - 1) * 8)))) := A87
            have g5 : bm_AI (bm_putI (bm_setI (bm_setI (bm_setI B80 (sa + 4) 1 0) (sa + 5) 1 (nI (min W.length ((min k (((bk W.length) + 1) + (bk P.length))) * 8)))) (sa + 4) 0 (nI (min P.length ((((min k (((bk W.length) + 1) + (bk P.length))) - (bk W.length)) - 1) * 8)))) 8 4 sa 1) (sa + 5) = (upd (bm_AI B (sa + 5)) 1 (nI (min W.length ((min k (((bk W.length) + 1) + (bk P.length))) * 8)))) := A88
            have gp : bm_AI (bm_putI (bm_setI (bm_setI (bm_setI B80 (sa + 4) 1 0) (sa + 5) 1 (nI (min W.length ((min k (((bk W.length) + 1) + (bk P.length))) * 8)))) (sa + 4) 0 (nI (min P.length ((((min k (((bk W.length) + 1) + (bk P.length))) - (bk W.length)) - 1) * 8)))) 8 4 sa 1) (sa + 2) = bm_AI B (sa + 2) := fr_AI Z91.1 hS.2.2.2.2.2.1.1 (by omega)
            have go : bm_AI (bm_putI (bm_setI (bm_setI (bm_setI B80 (sa + 4) 1 0) (sa + 5) 1 (nI (min W.length ((min k (((bk W.length) + 1) + (bk P.length))) * 8)))) (sa + 4) 0 (nI (min P.length ((((min k (((bk W.length) + 1) + (bk P.length))) - (bk W.length)) - 1) * 8)))) 8 4 sa 1) (sa + 3) = bm_AI B (sa + 3) := fr_AI Z91.1 hS.2.2.2.2.2.2.1.1 (by omega)
            have hE := st_commit_1 (p := false) (P := P) (W := W) rfl (show (min k (bk W.length + 1 + bk P.length)) = st_made (some k) (bk W.length + 1 + bk P.length) from rfl) (fun q => absurd ((nI_ltI (by omega) (by omega)).mp c102) (by omega)) ((nI_ltI (by omega) (by omega)).mp (Int32.not_le.mp c63))
            have kk2 := kk
            rw [show st_commit false P (some k) W = _ from hE] at kk2
            exact g_reti cd_St_commit rfl ⟨_, rfl, (kk2 _ ⟨⟨StS_fr hS Z91.1, StA_fr hS hAA Z91.1 (by omega)⟩, ⟨P90, cf80_1, cf80_3, fun _ q => by cases q⟩, ⟨(show bm_AI (bm_putI (bm_setI (bm_setI (bm_setI B80 (sa + 4) 1 0) (sa + 5) 1 (nI (min W.length ((min k (((bk W.length) + 1) + (bk P.length))) * 8)))) (sa + 4) 0 (nI (min P.length ((((min k (((bk W.length) + 1) + (bk P.length))) - (bk W.length)) - 1) * 8)))) 8 4 sa 1) (sa + 4) 1 = _ by rw [g4]; rw [pk_un (by decide)]; rfl), (show bm_AI (bm_putI (bm_setI (bm_setI (bm_setI B80 (sa + 4) 1 0) (sa + 5) 1 (nI (min W.length ((min k (((bk W.length) + 1) + (bk P.length))) * 8)))) (sa + 4) 0 (nI (min P.length ((((min k (((bk W.length) + 1) + (bk P.length))) - (bk W.length)) - 1) * 8)))) 8 4 sa 1) (sa + 5) 1 = _ by rw [g5]; simp only [upd, if_true]; congr 1; have := (nI_ltI (by omega) (by omega)).mp c102; omega), hw, show EN (bm_AI (bm_putI (bm_setI (bm_setI (bm_setI B80 (sa + 4) 1 0) (sa + 5) 1 (nI (min W.length ((min k (((bk W.length) + 1) + (bk P.length))) * 8)))) (sa + 4) 0 (nI (min P.length ((((min k (((bk W.length) + 1) + (bk P.length))) - (bk W.length)) - 1) * 8)))) 8 4 sa 1) (sa + 3)) T W 0 by rw [go]; exact hR.2.2.2⟩, min P.length (8 * ((min k (bk W.length + 1 + bk P.length)) - bk W.length - 1)), (show bm_AI (bm_putI (bm_setI (bm_setI (bm_setI B80 (sa + 4) 1 0) (sa + 5) 1 (nI (min W.length ((min k (((bk W.length) + 1) + (bk P.length))) * 8)))) (sa + 4) 0 (nI (min P.length ((((min k (((bk W.length) + 1) + (bk P.length))) - (bk W.length)) - 1) * 8)))) 8 4 sa 1) (sa + 4) 0 = _ by rw [g4]; simp only [upd, if_true]; congr 1; omega), (show bm_AI (bm_putI (bm_setI (bm_setI (bm_setI B80 (sa + 4) 1 0) (sa + 5) 1 (nI (min W.length ((min k (((bk W.length) + 1) + (bk P.length))) * 8)))) (sa + 4) 0 (nI (min P.length ((((min k (((bk W.length) + 1) + (bk P.length))) - (bk W.length)) - 1) * 8)))) 8 4 sa 1) (sa + 5) 0 = _ by rw [g5]; rw [pk_un (by decide)]; exact hR.1.2.2.1.2.1.trans (congrArg nI (by simp; omega))), (by simp; omega), show EN (bm_AI (bm_putI (bm_setI (bm_setI (bm_setI B80 (sa + 4) 1 0) (sa + 5) 1 (nI (min W.length ((min k (((bk W.length) + 1) + (bk P.length))) * 8)))) (sa + 4) 0 (nI (min P.length ((((min k (((bk W.length) + 1) + (bk P.length))) - (bk W.length)) - 1) * 8)))) 8 4 sa 1) (sa + 2)) T _ _ by rw [gp]; exact EN_drop hR.1.2.2.1.2.2.2⟩ (fz_mono (fun _ q => q.elim Or.inl (fun q => q.elim (fun q => Or.inr (Or.inr (Or.inr (Or.inl q)))) (fun q => Or.inr (Or.inr (Or.inr (Or.inr q)))))) Z91))⟩
        · have c102 : ¬ (nI (bk W.length)) < (nI (min k (((bk W.length) + 1) + (bk P.length)))) := c102
          refine g_k1 (v := 0) (pc' := 106) cd_St_commit rfl (by decide) rfl ?_
          have g4 : bm_AI (bm_setI (bm_setI B80 (sa + 4) 1 0) (sa + 5) 1 (nI (min W.length ((min k (((bk W.length) + 1) + (bk P.length))) * 8)))) (sa + 4) = (upd (bm_AI B (sa + 4)) 1 0) := A84
          have g5 : bm_AI (bm_setI (bm_setI B80 (sa + 4) 1 0) (sa + 5) 1 (nI (min W.length ((min k (((bk W.length) + 1) + (bk P.length))) * 8)))) (sa + 5) = (upd (bm_AI B (sa + 5)) 1 (nI (min W.length ((min k (((bk W.length) + 1) + (bk P.length))) * 8)))) := A85
          have gp : bm_AI (bm_setI (bm_setI B80 (sa + 4) 1 0) (sa + 5) 1 (nI (min W.length ((min k (((bk W.length) + 1) + (bk P.length))) * 8)))) (sa + 2) = bm_AI B (sa + 2) := fr_AI Z86.1 hS.2.2.2.2.2.1.1 (by omega)
          have go : bm_AI (bm_setI (bm_setI B80 (sa + 4) 1 0) (sa + 5) 1 (nI (min W.length ((min k (((bk W.length) + 1) + (bk P.length))) * 8)))) (sa + 3) = bm_AI B (sa + 3) := fr_AI Z86.1 hS.2.2.2.2.2.2.1.1 (by omega)
          have hE := st_commit_0 (p := false) (P := P) (W := W) rfl (show (min k (bk W.length + 1 + bk P.length)) = st_made (some k) (bk W.length + 1 + bk P.length) from rfl) ((nI_leI (by omega) (by omega)).mp (Int32.not_lt.mp c102))
          have kk2 := kk
          rw [show st_commit false P (some k) W = _ from hE] at kk2
          exact g_reti cd_St_commit rfl ⟨_, rfl, (kk2 _ ⟨⟨StS_fr hS Z86.1, StA_fr hS hAA Z86.1 (by omega)⟩, ⟨cf80_0, cf80_1, cf80_3, fun _ q => by cases q⟩, ⟨(show bm_AI (bm_setI (bm_setI B80 (sa + 4) 1 0) (sa + 5) 1 (nI (min W.length ((min k (((bk W.length) + 1) + (bk P.length))) * 8)))) (sa + 4) 0 = _ by rw [g4]; rw [pk_un (by decide)]; exact hR.1.2.2.1.1), (show bm_AI (bm_setI (bm_setI B80 (sa + 4) 1 0) (sa + 5) 1 (nI (min W.length ((min k (((bk W.length) + 1) + (bk P.length))) * 8)))) (sa + 5) 0 = _ by rw [g5]; rw [pk_un (by decide)]; exact hR.1.2.2.1.2.1), hp, show EN (bm_AI (bm_setI (bm_setI B80 (sa + 4) 1 0) (sa + 5) 1 (nI (min W.length ((min k (((bk W.length) + 1) + (bk P.length))) * 8)))) (sa + 2)) T P 0 by rw [gp]; exact hR.1.2.2.1.2.2.2⟩, 0, (show bm_AI (bm_setI (bm_setI B80 (sa + 4) 1 0) (sa + 5) 1 (nI (min W.length ((min k (((bk W.length) + 1) + (bk P.length))) * 8)))) (sa + 4) 1 = _ by rw [g4]; rfl), (show bm_AI (bm_setI (bm_setI B80 (sa + 4) 1 0) (sa + 5) 1 (nI (min W.length ((min k (((bk W.length) + 1) + (bk P.length))) * 8)))) (sa + 5) 1 = _ by rw [g5]; simp only [upd, if_true]; congr 1; simp; omega), (by simp; omega), show EN (bm_AI (bm_setI (bm_setI B80 (sa + 4) 1 0) (sa + 5) 1 (nI (min W.length ((min k (((bk W.length) + 1) + (bk P.length))) * 8)))) (sa + 3)) T _ 0 by rw [go]; exact EN_take hR.2.2.2⟩ (fz_mono (fun _ q => q.elim Or.inl (fun q => q.elim (fun q => Or.inr (Or.inr (Or.inr (Or.inl q)))) (fun q => Or.inr (Or.inr (Or.inr (Or.inr q)))))) Z86))⟩
    · have c37 : (nI k) = (-1) := Classical.not_not.mp c37
      exact absurd (congrArg Int32.toInt c37) (by rw [nI_toInt (by omega)]; show (k : Int) ≠ -1; omega)
  · show bm_G sc (d + 1) 56 0 [(0, .ref sa)] [] B _
    generalize elv : ([(0, .ref sa)] : tm_L) = lv
    have l0 : lv.lookup 0 = some (.ref sa) := by rw [← elv]; rfl
    clear elv
    refine g_k1 (v := 1) (pc' := 1) cd_St_commit rfl (by decide) rfl ?_
    refine g_ald (pc' := 2) cd_St_commit rfl (Or.inr ⟨_, rfl, rfl, rfl⟩) l0 rfl rfl ?_
    refine g_fI (c := 8) (k := 4) (x := 1) (pc' := 5) cd_St_commit rfl rfl rfl rfl rfl (by decide) hS.1.1 hS.1.2 hR.1.2.1.1 ?_
    refine g_pure (pc' := 6) (st' := [.int (1 - 1)]) cd_St_commit rfl rfl (fun _ _ => rfl) ?_
    rw [show (1 - 1 : Int32) = 0 from by decide]
    refine g_ist (pc' := 7) cd_St_commit rfl (Or.inr ⟨_, rfl, rfl, rfl⟩) (by decide) rfl (fun lv el => ?_)
    have l0 := tm_lk el l0 rfl (by decide)
    have l1 : lv.lookup 1 = some (.int 0) := tm_lks el
    clear el
    refine g_ald (pc' := 8) cd_St_commit rfl (Or.inr ⟨_, rfl, rfl, rfl⟩) l0 rfl rfl ?_
    refine g_fI (c := 8) (k := 3) (x := nI W.length) (pc' := 11) cd_St_commit rfl rfl rfl rfl rfl (by decide) hS.1.1 hS.1.2 hR.2.1 ?_
    refine g_calli (pc' := 14) cd_St_commit rfl rfl rfl rfl rfl (tm_invS rfl rfl cd_St_blocks rfl (Nat.le_of_ble_eq_true rfl)) (t_blocks (by omega) ?_)
    show bm_G _ _ _ 14 _ [.int (nI (bk W.length))] B _
    refine g_ist (pc' := 15) cd_St_commit rfl (Or.inr ⟨_, rfl, rfl, rfl⟩) (by decide) rfl (fun lv el => ?_)
    have l0 := tm_lk el l0 rfl (by decide)
    have l1 := tm_lk el l1 rfl (by decide)
    have l2 : lv.lookup 2 = some (.int (nI (bk W.length))) := tm_lks el
    clear el
    refine g_ild (pc' := 16) cd_St_commit rfl (Or.inr ⟨_, rfl, rfl, rfl⟩) l2 rfl ?_
    refine g_k1 (v := 1) (pc' := 17) cd_St_commit rfl (by decide) rfl ?_
    refine g_pure (pc' := 18) (st' := [.int ((nI (bk W.length)) + 1)]) cd_St_commit rfl rfl (fun _ _ => rfl) ?_
    rw [show ((nI (bk W.length)) + 1 : Int32) = nI ((bk W.length) + 1) from nI_add (bk W.length) 1]
    refine g_ald (pc' := 19) cd_St_commit rfl (Or.inr ⟨_, rfl, rfl, rfl⟩) l0 rfl rfl ?_
    refine g_fR (c := 8) (k := 2) (x := (sa + 5)) (pc' := 22) cd_St_commit rfl rfl rfl rfl rfl (by decide) hS.1.1 hS.1.2 hS.2.2.2.1 ?_
    refine g_ald (pc' := 23) cd_St_commit rfl (Or.inr ⟨_, rfl, rfl, rfl⟩) l0 rfl rfl ?_
    refine g_fI (c := 8) (k := 4) (x := 1) (pc' := 26) cd_St_commit rfl rfl rfl rfl rfl (by decide) hS.1.1 hS.1.2 hR.1.2.1.1 ?_
    refine g_aI (x := nI P.length) (pc' := 27) cd_St_commit rfl rfl hS.2.2.2.2.2.2.2.2.1 hS.2.2.2.2.2.2.2.2.2.1 (by rw [show bm_AL B (sa + 5) = 2 from hS.2.2.2.2.2.2.2.2.2.2]; exact vp_in_nI (n := 1) (by decide) (by decide)) (show bm_AI B (sa + 5) 1 = _ from hR.1.2.2.1.2.1) ?_
    refine g_calli (pc' := 30) cd_St_commit rfl rfl rfl rfl rfl (tm_invS rfl rfl cd_St_blocks rfl (Nat.le_of_ble_eq_true rfl)) (t_blocks (by omega) ?_)
    show bm_G _ _ _ 30 _ [.int (nI (bk P.length)), .int (nI ((bk W.length) + 1))] B _
    refine g_pure (pc' := 31) (st' := [.int ((nI ((bk W.length) + 1)) + (nI (bk P.length)))]) cd_St_commit rfl rfl (fun _ _ => rfl) ?_
    rw [show ((nI ((bk W.length) + 1)) + (nI (bk P.length)) : Int32) = nI (((bk W.length) + 1) + (bk P.length)) from nI_add ((bk W.length) + 1) (bk P.length)]
    refine g_ist (pc' := 32) cd_St_commit rfl (Or.inr ⟨_, rfl, rfl, rfl⟩) (by decide) rfl (fun lv el => ?_)
    have l0 := tm_lk el l0 rfl (by decide)
    have l1 := tm_lk el l1 rfl (by decide)
    have l2 := tm_lk el l2 rfl (by decide)
    have l3 : lv.lookup 3 = some (.int (nI (((bk W.length) + 1) + (bk P.length)))) := tm_lks el
    clear el
    refine g_ald (pc' := 33) cd_St_commit rfl (Or.inr ⟨_, rfl, rfl, rfl⟩) l0 rfl rfl ?_
    refine g_fI (c := 8) (k := 5) (x := nI k) (pc' := 36) cd_St_commit rfl rfl rfl rfl rfl (by decide) hS.1.1 hS.1.2 hR.1.2.1.2.1 ?_
    refine g_k1 (v := (-1)) (pc' := 37) cd_St_commit rfl (by decide) rfl ?_
    refine g_if2 (t := 44) (pc' := 40) cd_St_commit rfl rfl rfl (fun c37 => ?_) (fun c37 => ?_)
    · have c37 : ¬ (nI k) = (-1) := c37
      refine g_ald (pc' := 45) cd_St_commit rfl (Or.inr ⟨_, rfl, rfl, rfl⟩) l0 rfl rfl ?_
      refine g_fI (c := 8) (k := 5) (x := nI k) (pc' := 48) cd_St_commit rfl rfl rfl rfl rfl (by decide) hS.1.1 hS.1.2 hR.1.2.1.2.1 ?_
      refine g_ild (pc' := 49) cd_St_commit rfl (Or.inr ⟨_, rfl, rfl, rfl⟩) l3 rfl ?_
      refine g_min (pc' := 52) cd_St_commit rfl rfl rfl rfl ?_
      rw [nI_min (a := k) (b := (((bk W.length) + 1) + (bk P.length))) (by omega) (by omega)]
      refine g_ist (pc' := 54) cd_St_commit rfl (Or.inl ⟨rfl, rfl⟩) (by decide) rfl (fun lv el => ?_)
      have l0 := tm_lk el l0 rfl (by decide)
      have l1 := tm_lk el l1 rfl (by decide)
      have l2 := tm_lk el l2 rfl (by decide)
      have l3 := tm_lk el l3 rfl (by decide)
      have l4 : lv.lookup 4 = some (.int (nI (min k (((bk W.length) + 1) + (bk P.length))))) := tm_lks el
      clear el
      refine g_ald (pc' := 55) cd_St_commit rfl (Or.inr ⟨_, rfl, rfl, rfl⟩) l0 rfl rfl ?_
      refine g_k1 (v := (-1)) (pc' := 56) cd_St_commit rfl (by decide) rfl ?_
      refine g_putI (c := 8) (k := 5) (pc' := 59) cd_St_commit rfl rfl rfl rfl (by simp [tm_okV, narrow, fits]) (Or.inl rfl) rfl (by decide) hS.1.1 hS.1.2 ?_
      have P92 : bm_FI (bm_putI B 8 5 sa (-1)) 8 5 sa = (-1) := if_pos ⟨rfl, rfl, rfl⟩
      have Z93 : fz (fun z => z = sa ∨ z = sa + 4 ∨ z = sa + 5) B (bm_putI B 8 5 sa (-1)) := fz_trans (fz_rfl _ B) ⟨fr_mono (fun _ q => Or.inl q) (fr_putI _ 8 5 sa _), rfl, rfl⟩
      refine g_ald (pc' := 60) cd_St_commit rfl (Or.inr ⟨_, rfl, rfl, rfl⟩) l0 rfl rfl ?_
      refine g_ild (pc' := 62) cd_St_commit rfl (Or.inl ⟨rfl, rfl⟩) l4 rfl ?_
      refine g_ild (pc' := 63) cd_St_commit rfl (Or.inr ⟨_, rfl, rfl, rfl⟩) l3 rfl ?_
      refine g_if2 (t := 70) (pc' := 66) cd_St_commit rfl rfl rfl (fun c63 => ?_) (fun c63 => ?_)
      · have c63 : (nI (((bk W.length) + 1) + (bk P.length))) ≤ (nI (min k (((bk W.length) + 1) + (bk P.length)))) := c63
        refine g_k1 (v := 0) (pc' := 71) cd_St_commit rfl (by decide) rfl ?_
        refine g_putI (c := 8) (k := 6) (pc' := 74) cd_St_commit rfl rfl rfl rfl (by decide) (Or.inl rfl) rfl (by decide) hS.1.1 hS.1.2 ?_
        have P94 : bm_FI (bm_putI (bm_putI B 8 5 sa (-1)) 8 6 sa 0) 8 6 sa = 0 := if_pos ⟨rfl, rfl, rfl⟩
        have Z95 : fz (fun z => z = sa ∨ z = sa + 4 ∨ z = sa + 5) B (bm_putI (bm_putI B 8 5 sa (-1)) 8 6 sa 0) := fz_trans Z93 ⟨fr_mono (fun _ q => Or.inl q) (fr_putI _ 8 6 sa _), rfl, rfl⟩
        obtain ⟨B96, eB96⟩ : ∃ Bx, Bx = (bm_putI (bm_putI B 8 5 sa (-1)) 8 6 sa 0) := ⟨_, rfl⟩
        have cl96_0 : sa < bm_n B96 := eB96 ▸ (show sa < bm_n (bm_putI (bm_putI B 8 5 sa (-1)) 8 6 sa 0) from hS.1.1)
        have ck96_0 : bm_K B96 sa = 8 := eB96 ▸ (show bm_K (bm_putI (bm_putI B 8 5 sa (-1)) 8 6 sa 0) sa = 8 from hS.1.2)
        have cl96_1 : (sa + 1) < bm_n B96 := eB96 ▸ (show (sa + 1) < bm_n (bm_putI (bm_putI B 8 5 sa (-1)) 8 6 sa 0) from hS.2.2.2.2.1.1)
        have ck96_1 : bm_K B96 (sa + 1) = 21 := eB96 ▸ (show bm_K (bm_putI (bm_putI B 8 5 sa (-1)) 8 6 sa 0) (sa + 1) = 21 from hS.2.2.2.2.1.2.1)
        have cl96_2 : (sa + 2) < bm_n B96 := eB96 ▸ (show (sa + 2) < bm_n (bm_putI (bm_putI B 8 5 sa (-1)) 8 6 sa 0) from hS.2.2.2.2.2.1.1)
        have ck96_2 : bm_K B96 (sa + 2) = 13 := eB96 ▸ (show bm_K (bm_putI (bm_putI B 8 5 sa (-1)) 8 6 sa 0) (sa + 2) = 13 from hS.2.2.2.2.2.1.2.1)
        have cl96_3 : (sa + 3) < bm_n B96 := eB96 ▸ (show (sa + 3) < bm_n (bm_putI (bm_putI B 8 5 sa (-1)) 8 6 sa 0) from hS.2.2.2.2.2.2.1.1)
        have ck96_3 : bm_K B96 (sa + 3) = 13 := eB96 ▸ (show bm_K (bm_putI (bm_putI B 8 5 sa (-1)) 8 6 sa 0) (sa + 3) = 13 from hS.2.2.2.2.2.2.1.2.1)
        have cl96_4 : (sa + 4) < bm_n B96 := eB96 ▸ (show (sa + 4) < bm_n (bm_putI (bm_putI B 8 5 sa (-1)) 8 6 sa 0) from hS.2.2.2.2.2.2.2.1.1)
        have ck96_4 : bm_K B96 (sa + 4) = 13 := eB96 ▸ (show bm_K (bm_putI (bm_putI B 8 5 sa (-1)) 8 6 sa 0) (sa + 4) = 13 from hS.2.2.2.2.2.2.2.1.2.1)
        have cl96_5 : (sa + 5) < bm_n B96 := eB96 ▸ (show (sa + 5) < bm_n (bm_putI (bm_putI B 8 5 sa (-1)) 8 6 sa 0) from hS.2.2.2.2.2.2.2.2.1)
        have ck96_5 : bm_K B96 (sa + 5) = 13 := eB96 ▸ (show bm_K (bm_putI (bm_putI B 8 5 sa (-1)) 8 6 sa 0) (sa + 5) = 13 from hS.2.2.2.2.2.2.2.2.2.1)
        have cf96_0 : bm_FI B96 8 4 sa = 1 := eB96 ▸ (show bm_FI (bm_putI (bm_putI B 8 5 sa (-1)) 8 6 sa 0) 8 4 sa = 1 from hR.1.2.1.1)
        have cf96_1 : bm_FI B96 8 5 sa = (-1) := eB96 ▸ (show bm_FI (bm_putI (bm_putI B 8 5 sa (-1)) 8 6 sa 0) 8 5 sa = (-1) from P92)
        have cf96_2 : bm_FI B96 8 3 sa = nI W.length := eB96 ▸ (show bm_FI (bm_putI (bm_putI B 8 5 sa (-1)) 8 6 sa 0) 8 3 sa = nI W.length from hR.2.1)
        have cf96_3 : bm_FI B96 8 6 sa = 0 := eB96 ▸ (show bm_FI (bm_putI (bm_putI B 8 5 sa (-1)) 8 6 sa 0) 8 6 sa = 0 from P94)
        have cr96_0 : bm_FR B96 8 0 sa = some (sa + 1) := eB96 ▸ (show bm_FR (bm_putI (bm_putI B 8 5 sa (-1)) 8 6 sa 0) 8 0 sa = some (sa + 1) from hS.2.1)
        have cr96_1 : bm_FR B96 8 1 sa = some (sa + 4) := eB96 ▸ (show bm_FR (bm_putI (bm_putI B 8 5 sa (-1)) 8 6 sa 0) 8 1 sa = some (sa + 4) from hS.2.2.1)
        have cr96_2 : bm_FR B96 8 2 sa = some (sa + 5) := eB96 ▸ (show bm_FR (bm_putI (bm_putI B 8 5 sa (-1)) 8 6 sa 0) 8 2 sa = some (sa + 5) from hS.2.2.2.1)
        have ci96_0 : bm_AI B96 (sa + 4) = (bm_AI B (sa + 4)) := eB96 ▸ (show bm_AI (bm_putI (bm_putI B 8 5 sa (-1)) 8 6 sa 0) (sa + 4) = (bm_AI B (sa + 4)) from rfl)
        have ci96_1 : bm_AI B96 (sa + 5) = (bm_AI B (sa + 5)) := eB96 ▸ (show bm_AI (bm_putI (bm_putI B 8 5 sa (-1)) 8 6 sa 0) (sa + 5) = (bm_AI B (sa + 5)) from rfl)
        have ca96_0 : bm_AL B96 (sa + 2) = 1072 := eB96 ▸ (show bm_AL (bm_putI (bm_putI B 8 5 sa (-1)) 8 6 sa 0) (sa + 2) = 1072 from hS.2.2.2.2.2.1.2.2)
        have ca96_1 : bm_AL B96 (sa + 3) = 1072 := eB96 ▸ (show bm_AL (bm_putI (bm_putI B 8 5 sa (-1)) 8 6 sa 0) (sa + 3) = 1072 from hS.2.2.2.2.2.2.1.2.2)
        have ca96_2 : bm_AL B96 (sa + 4) = 2 := eB96 ▸ (show bm_AL (bm_putI (bm_putI B 8 5 sa (-1)) 8 6 sa 0) (sa + 4) = 2 from hS.2.2.2.2.2.2.2.1.2.2)
        have ca96_3 : bm_AL B96 (sa + 5) = 2 := eB96 ▸ (show bm_AL (bm_putI (bm_putI B 8 5 sa (-1)) 8 6 sa 0) (sa + 5) = 2 from hS.2.2.2.2.2.2.2.2.2.2)
        have ca96_4 : bm_AL B96 (sa + 1) = 2 := eB96 ▸ (show bm_AL (bm_putI (bm_putI B 8 5 sa (-1)) 8 6 sa 0) (sa + 1) = 2 from hS.2.2.2.2.1.2.2)
        have cz96 : fz (fun z => z = sa ∨ z = sa + 4 ∨ z = sa + 5) B B96 := eB96 ▸ (show fz (fun z => z = sa ∨ z = sa + 4 ∨ z = sa + 5) B (bm_putI (bm_putI B 8 5 sa (-1)) 8 6 sa 0) from Z95)
        rw [← eB96]
        clear eB96
        refine g_ald (pc' := 75) cd_St_commit rfl (Or.inr ⟨_, rfl, rfl, rfl⟩) l0 rfl rfl ?_
        refine g_fR (c := 8) (k := 1) (x := (sa + 4)) (pc' := 78) cd_St_commit rfl rfl rfl rfl rfl (by decide) cl96_0 ck96_0 cr96_1 ?_
        refine g_ild (pc' := 79) cd_St_commit rfl (Or.inr ⟨_, rfl, rfl, rfl⟩) l1 rfl ?_
        refine g_k1 (v := 0) (pc' := 80) cd_St_commit rfl (by decide) rfl ?_
        refine g_iast (pc' := 81) cd_St_commit rfl rfl cl96_4 ck96_4 (by rw [show bm_AL B96 (sa + 4) = 2 from ca96_2]; exact vp_in_nI (n := 0) (by decide) (by decide)) ?_
        rw [show (0 : Int32).toNatClampNeg = 0 from by decide]
        have A97 : bm_AI (bm_setI B96 (sa + 4) 0 0) (sa + 4) = (upd (bm_AI B (sa + 4)) 0 0) := ((AI_set B96 (sa + 4) 0 0).trans (congrArg (fun f => upd f 0 0) (show bm_AI B96 (sa + 4) = (bm_AI B (sa + 4)) from ci96_0)))
        have A98 : bm_AI (bm_setI B96 (sa + 4) 0 0) (sa + 5) = (bm_AI B (sa + 5)) := ((AI_setn B96 0 0 (sa + 5) (by omega)).trans (show bm_AI B96 (sa + 5) = (bm_AI B (sa + 5)) from ci96_1))
        have Z99 : fz (fun z => z = sa ∨ z = sa + 4 ∨ z = sa + 5) B (bm_setI B96 (sa + 4) 0 0) := fz_trans cz96 ⟨fr_mono (fun _ q => Or.inr (Or.inl q)) (fr_setI _ (sa + 4) _ _), rfl, rfl⟩
        refine g_ald (pc' := 82) cd_St_commit rfl (Or.inr ⟨_, rfl, rfl, rfl⟩) l0 rfl rfl ?_
        refine g_fR (c := 8) (k := 2) (x := (sa + 5)) (pc' := 85) cd_St_commit rfl rfl rfl rfl rfl (by decide) cl96_0 ck96_0 cr96_2 ?_
        refine g_ild (pc' := 86) cd_St_commit rfl (Or.inr ⟨_, rfl, rfl, rfl⟩) l1 rfl ?_
        refine g_ald (pc' := 87) cd_St_commit rfl (Or.inr ⟨_, rfl, rfl, rfl⟩) l0 rfl rfl ?_
        refine g_fI (c := 8) (k := 3) (x := nI W.length) (pc' := 90) cd_St_commit rfl rfl rfl rfl rfl (by decide) cl96_0 ck96_0 cf96_2 ?_
        refine g_ild (pc' := 92) cd_St_commit rfl (Or.inl ⟨rfl, rfl⟩) l4 rfl ?_
        refine g_k2 (v := 8) (pc' := 94) cd_St_commit rfl (by decide) rfl ?_
        refine g_pure (pc' := 95) (st' := [.int ((nI (min k (((bk W.length) + 1) + (bk P.length)))) * 8), .int (nI W.length), .int 0, .ref ((sa + 5))]) cd_St_commit rfl rfl (fun _ _ => rfl) ?_
        rw [show ((nI (min k (((bk W.length) + 1) + (bk P.length)))) * 8 : Int32) = nI ((min k (((bk W.length) + 1) + (bk P.length))) * 8) from pk_mul (min k (((bk W.length) + 1) + (bk P.length))) 8]
        refine g_min (pc' := 98) cd_St_commit rfl rfl rfl rfl ?_
        rw [nI_min (a := W.length) (b := ((min k (((bk W.length) + 1) + (bk P.length))) * 8)) (by omega) (by omega)]
        refine g_iast (pc' := 99) cd_St_commit rfl rfl cl96_5 ck96_5 (by rw [show bm_AL (bm_setI B96 (sa + 4) 0 0) (sa + 5) = 2 from ca96_3]; exact vp_in_nI (n := 0) (by decide) (by decide)) ?_
        rw [show (0 : Int32).toNatClampNeg = 0 from by decide]
        have A100 : bm_AI (bm_setI (bm_setI B96 (sa + 4) 0 0) (sa + 5) 0 (nI (min W.length ((min k (((bk W.length) + 1) + (bk P.length))) * 8)))) (sa + 4) = (upd (bm_AI B (sa + 4)) 0 0) := ((AI_setn (bm_setI B96 (sa + 4) 0 0) 0 (nI (min W.length ((min k (((bk W.length) + 1) + (bk P.length))) * 8))) (sa + 4) (by omega)).trans (show bm_AI (bm_setI B96 (sa + 4) 0 0) (sa + 4) = (upd (bm_AI B (sa + 4)) 0 0) from A97))
        have A101 : bm_AI (bm_setI (bm_setI B96 (sa + 4) 0 0) (sa + 5) 0 (nI (min W.length ((min k (((bk W.length) + 1) + (bk P.length))) * 8)))) (sa + 5) = (upd (bm_AI B (sa + 5)) 0 (nI (min W.length ((min k (((bk W.length) + 1) + (bk P.length))) * 8)))) := ((AI_set (bm_setI B96 (sa + 4) 0 0) (sa + 5) 0 (nI (min W.length ((min k (((bk W.length) + 1) + (bk P.length))) * 8)))).trans (congrArg (fun f => upd f 0 (nI (min W.length ((min k (((bk W.length) + 1) + (bk P.length))) * 8)))) (show bm_AI (bm_setI B96 (sa + 4) 0 0) (sa + 5) = (bm_AI B (sa + 5)) from A98)))
        have Z102 : fz (fun z => z = sa ∨ z = sa + 4 ∨ z = sa + 5) B (bm_setI (bm_setI B96 (sa + 4) 0 0) (sa + 5) 0 (nI (min W.length ((min k (((bk W.length) + 1) + (bk P.length))) * 8)))) := fz_trans Z99 ⟨fr_mono (fun _ q => Or.inr (Or.inr q)) (fr_setI _ (sa + 5) _ _), rfl, rfl⟩
        refine g_ild (pc' := 101) cd_St_commit rfl (Or.inl ⟨rfl, rfl⟩) l4 rfl ?_
        refine g_ild (pc' := 102) cd_St_commit rfl (Or.inr ⟨_, rfl, rfl, rfl⟩) l2 rfl ?_
        refine g_if2 (t := 107) (pc' := 105) cd_St_commit rfl rfl rfl (fun c102 => ?_) (fun c102 => ?_)
        · have c102 : (nI (bk W.length)) < (nI (min k (((bk W.length) + 1) + (bk P.length)))) := c102
          have hgt : bk W.length < (min k (bk W.length + 1 + bk P.length)) := (nI_ltI (by omega) (by omega)).mp c102
          refine g_ild (pc' := 109) cd_St_commit rfl (Or.inl ⟨rfl, rfl⟩) l4 rfl ?_
          refine g_ild (pc' := 110) cd_St_commit rfl (Or.inr ⟨_, rfl, rfl, rfl⟩) l2 rfl ?_
          refine g_pure (pc' := 111) (st' := [.int ((nI (min k (((bk W.length) + 1) + (bk P.length)))) - (nI (bk W.length)))]) cd_St_commit rfl rfl (fun _ _ => rfl) ?_
          rw [show ((nI (min k (((bk W.length) + 1) + (bk P.length)))) - (nI (bk W.length)) : Int32) = nI ((min k (((bk W.length) + 1) + (bk P.length))) - (bk W.length)) from pk_sub (a := (min k (((bk W.length) + 1) + (bk P.length)))) (b := (bk W.length)) (by omega)]
          refine g_k1 (v := 1) (pc' := 112) cd_St_commit rfl (by decide) rfl ?_
          refine g_pure (pc' := 113) (st' := [.int ((nI ((min k (((bk W.length) + 1) + (bk P.length))) - (bk W.length))) - 1)]) cd_St_commit rfl rfl (fun _ _ => rfl) ?_
          rw [show ((nI ((min k (((bk W.length) + 1) + (bk P.length))) - (bk W.length))) - 1 : Int32) = nI (((min k (((bk W.length) + 1) + (bk P.length))) - (bk W.length)) - 1) from pk_sub (a := ((min k (((bk W.length) + 1) + (bk P.length))) - (bk W.length))) (b := 1) (by omega)]
          refine g_ist (pc' := 115) cd_St_commit rfl (Or.inl ⟨rfl, rfl⟩) (by decide) rfl (fun lv el => ?_)
          have l0 := tm_lk el l0 rfl (by decide)
          have l1 := tm_lk el l1 rfl (by decide)
          have l2 := tm_lk el l2 rfl (by decide)
          have l3 := tm_lk el l3 rfl (by decide)
          have l4 := tm_lk el l4 rfl (by decide)
          have l5 : lv.lookup 5 = some (.int (nI (((min k (((bk W.length) + 1) + (bk P.length))) - (bk W.length)) - 1))) := tm_lks el
          clear el
          refine g_ald (pc' := 116) cd_St_commit rfl (Or.inr ⟨_, rfl, rfl, rfl⟩) l0 rfl rfl ?_
          refine g_fR (c := 8) (k := 1) (x := (sa + 4)) (pc' := 119) cd_St_commit rfl rfl rfl rfl rfl (by decide) cl96_0 ck96_0 cr96_1 ?_
          refine g_ald (pc' := 120) cd_St_commit rfl (Or.inr ⟨_, rfl, rfl, rfl⟩) l0 rfl rfl ?_
          refine g_fI (c := 8) (k := 4) (x := 1) (pc' := 123) cd_St_commit rfl rfl rfl rfl rfl (by decide) cl96_0 ck96_0 cf96_0 ?_
          refine g_ald (pc' := 124) cd_St_commit rfl (Or.inr ⟨_, rfl, rfl, rfl⟩) l0 rfl rfl ?_
          refine g_fR (c := 8) (k := 2) (x := (sa + 5)) (pc' := 127) cd_St_commit rfl rfl rfl rfl rfl (by decide) cl96_0 ck96_0 cr96_2 ?_
          refine g_ald (pc' := 128) cd_St_commit rfl (Or.inr ⟨_, rfl, rfl, rfl⟩) l0 rfl rfl ?_
          refine g_fI (c := 8) (k := 4) (x := 1) (pc' := 131) cd_St_commit rfl rfl rfl rfl rfl (by decide) cl96_0 ck96_0 cf96_0 ?_
          refine g_aI (x := nI P.length) (pc' := 132) cd_St_commit rfl rfl cl96_5 ck96_5 (by rw [show bm_AL (bm_setI (bm_setI B96 (sa + 4) 0 0) (sa + 5) 0 (nI (min W.length ((min k (((bk W.length) + 1) + (bk P.length))) * 8)))) (sa + 5) = 2 from ca96_3]; exact vp_in_nI (n := 1) (by decide) (by decide)) (show bm_AI (bm_setI (bm_setI B96 (sa + 4) 0 0) (sa + 5) 0 (nI (min W.length ((min k (((bk W.length) + 1) + (bk P.length))) * 8)))) (sa + 5) 1 = _ by rw [show bm_AI (bm_setI (bm_setI B96 (sa + 4) 0 0) (sa + 5) 0 (nI (min W.length ((min k (((bk W.length) + 1) + (bk P.length))) * 8)))) (sa + 5) = _ from A101, pk_un (by decide)]; exact hR.1.2.2.1.2.1) ?_
          refine g_ild (pc' := 134) cd_St_commit rfl (Or.inl ⟨rfl, rfl⟩) l5 rfl ?_
          refine g_k2 (v := 8) (pc' := 136) cd_St_commit rfl (by decide) rfl ?_
          refine g_pure (pc' := 137) (st' := [.int ((nI (((min k (((bk W.length) + 1) + (bk P.length))) - (bk W.length)) - 1)) * 8), .int (nI P.length), .int 1, .ref ((sa + 4))]) cd_St_commit rfl rfl (fun _ _ => rfl) ?_
          rw [show ((nI (((min k (((bk W.length) + 1) + (bk P.length))) - (bk W.length)) - 1)) * 8 : Int32) = nI ((((min k (((bk W.length) + 1) + (bk P.length))) - (bk W.length)) - 1) * 8) from pk_mul (((min k (((bk W.length) + 1) + (bk P.length))) - (bk W.length)) - 1) 8]
          refine g_min (pc' := 140) cd_St_commit rfl rfl rfl rfl ?_
          rw [nI_min (a := P.length) (b := ((((min k (((bk W.length) + 1) + (bk P.length))) - (bk W.length)) - 1) * 8)) (by omega) (by omega)]
          refine g_iast (pc' := 141) cd_St_commit rfl rfl cl96_4 ck96_4 (by rw [show bm_AL (bm_setI (bm_setI B96 (sa + 4) 0 0) (sa + 5) 0 (nI (min W.length ((min k (((bk W.length) + 1) + (bk P.length))) * 8)))) (sa + 4) = 2 from ca96_2]; exact vp_in_nI (n := 1) (by decide) (by decide)) ?_
          rw [show (1 : Int32).toNatClampNeg = 1 from by decide]
          have A103 : bm_AI (bm_setI (bm_setI (bm_setI B96 (sa + 4) 0 0) (sa + 5) 0 (nI (min W.length ((min k (((bk W.length) + 1) + (bk P.length))) * 8)))) (sa + 4) 1 (nI (min P.length ((((min k (((bk W.length) + 1) + (bk P.length))) - (bk W.length)) - 1) * 8)))) (sa + 4) = (upd (upd (bm_AI B (sa + 4)) 0 0) 1 (nI (min P.length ((((min k (((bk W.length) + 1) + (bk P.length))) - (bk W.length)) - 1) * 8)))) := ((AI_set (bm_setI (bm_setI B96 (sa + 4) 0 0) (sa + 5) 0 (nI (min W.length ((min k (((bk W.length) + 1) + (bk P.length))) * 8)))) (sa + 4) 1 (nI (min P.length ((((min k (((bk W.length) + 1) + (bk P.length))) - (bk W.length)) - 1) * 8)))).trans (congrArg (fun f => upd f 1 (nI (min P.length ((((min k (((bk W.length) + 1) + (bk P.length))) - (bk W.length)) - 1) * 8)))) (show bm_AI (bm_setI (bm_setI B96 (sa + 4) 0 0) (sa + 5) 0 (nI (min W.length ((min k (((bk W.length) + 1) + (bk P.length))) * 8)))) (sa + 4) = (upd (bm_AI B (sa + 4)) 0 0) from A100)))
          have A104 : bm_AI (bm_setI (bm_setI (bm_setI B96 (sa + 4) 0 0) (sa + 5) 0 (nI (min W.length ((min k (((bk W.length) + 1) + (bk P.length))) * 8)))) (sa + 4) 1 (nI (min P.length ((((min k (((bk W.length) + 1) + (bk P.length))) - (bk W.length)) - 1) * 8)))) (sa + 5) = (upd (bm_AI B (sa + 5)) 0 (nI (min W.length ((min k (((bk W.length) + 1) + (bk P.length))) * 8)))) := ((AI_setn (bm_setI (bm_setI B96 (sa + 4) 0 0) (sa + 5) 0 (nI (min W.length ((min k (((bk W.length) + 1) + (bk P.length))) * 8)))) 1 (nI (min P.length ((((min k (((bk W.length) + 1) + (bk P.length))) - (bk W.length)) - 1) * 8))) (sa + 5) (by omega)).trans (show bm_AI (bm_setI (bm_setI B96 (sa + 4) 0 0) (sa + 5) 0 (nI (min W.length ((min k (((bk W.length) + 1) + (bk P.length))) * 8)))) (sa + 5) = (upd (bm_AI B (sa + 5)) 0 (nI (min W.length ((min k (((bk W.length) + 1) + (bk P.length))) * 8)))) from A101))
          have Z105 : fz (fun z => z = sa ∨ z = sa + 4 ∨ z = sa + 5) B (bm_setI (bm_setI (bm_setI B96 (sa + 4) 0 0) (sa + 5) 0 (nI (min W.length ((min k (((bk W.length) + 1) + (bk P.length))) * 8)))) (sa + 4) 1 (nI (min P.length ((((min k (((bk W.length) + 1) + (bk P.length))) - (bk W.length)) - 1) * 8)))) := fz_trans Z102 ⟨fr_mono (fun _ q => Or.inr (Or.inl q)) (fr_setI _ (sa + 4) _ _), rfl, rfl⟩
          refine g_ald (pc' := 142) cd_St_commit rfl (Or.inr ⟨_, rfl, rfl, rfl⟩) l0 rfl rfl ?_
          refine g_ild (pc' := 143) cd_St_commit rfl (Or.inr ⟨_, rfl, rfl, rfl⟩) l1 rfl ?_
          refine g_putI (c := 8) (k := 4) (pc' := 146) cd_St_commit rfl rfl rfl rfl (by simp [tm_okV, narrow, fits]) (Or.inl rfl) rfl (by decide) cl96_0 ck96_0 ?_
          have P106 : bm_FI (bm_putI (bm_setI (bm_setI (bm_setI B96 (sa + 4) 0 0) (sa + 5) 0 (nI (min W.length ((min k (((bk W.length) + 1) + (bk P.length))) * 8)))) (sa + 4) 1 (nI (min P.length ((((min k (((bk W.length) + 1) + (bk P.length))) - (bk W.length)) - 1) * 8)))) 8 4 sa 0) 8 4 sa = 0 := if_pos ⟨rfl, rfl, rfl⟩
          have Z107 : fz (fun z => z = sa ∨ z = sa + 4 ∨ z = sa + 5) B (bm_putI (bm_setI (bm_setI (bm_setI B96 (sa + 4) 0 0) (sa + 5) 0 (nI (min W.length ((min k (((bk W.length) + 1) + (bk P.length))) * 8)))) (sa + 4) 1 (nI (min P.length ((((min k (((bk W.length) + 1) + (bk P.length))) - (bk W.length)) - 1) * 8)))) 8 4 sa 0) := fz_trans Z105 ⟨fr_mono (fun _ q => Or.inl q) (fr_putI _ 8 4 sa _), rfl, rfl⟩
          refine g_ald (pc' := 147) cd_St_commit rfl (Or.inr ⟨_, rfl, rfl, rfl⟩) l0 rfl rfl ?_
          refine g_fI (c := 8) (k := 6) (x := 0) (pc' := 150) cd_St_commit rfl rfl rfl rfl rfl (by decide) cl96_0 ck96_0 cf96_3 ?_
          refine g_if1 (t := 157) (pc' := 153) cd_St_commit rfl rfl rfl (fun c150 => ?_) (fun c150 => ?_)
          · have c150 : (0 : Int32) = 0 := c150
            refine g_k1 (v := 2) (pc' := 158) cd_St_commit rfl (by decide) rfl ?_
            have g4 : bm_AI (bm_putI (bm_setI (bm_setI (bm_setI B96 (sa + 4) 0 0) (sa + 5) 0 (nI (min W.length ((min k (((bk W.length) + 1) + (bk P.length))) * 8)))) (sa + 4) 1 (nI (min P.length ((((min k (((bk W.length) + 1) + (bk P.length))) - (bk W.length)) - 1) * 8)))) 8 4 sa 0) (sa + 4) = (upd (upd (bm_AI B (sa + 4)) 0 0) 1 (nI (min P.length ((((min k (((bk W.length) + 1) + (bk P.length))) - (bk W.length)) - 1) * 8)))) := A103
            have g5 : bm_AI (bm_putI (bm_setI (bm_setI (bm_setI B96 (sa + 4) 0 0) (sa + 5) 0 (nI (min W.length ((min k (((bk W.length) + 1) + (bk P.length))) * 8)))) (sa + 4) 1 (nI (min P.length ((((min k (((bk W.length) + 1) + (bk P.length))) - (bk W.length)) - 1) * 8)))) 8 4 sa 0) (sa + 5) = (upd (bm_AI B (sa + 5)) 0 (nI (min W.length ((min k (((bk W.length) + 1) + (bk P.length))) * 8)))) := A104
            have gp : bm_AI (bm_putI (bm_setI (bm_setI (bm_setI B96 (sa + 4) 0 0) (sa + 5) 0 (nI (min W.length ((min k (((bk W.length) + 1) + (bk P.length))) * 8)))) (sa + 4) 1 (nI (min P.length ((((min k (((bk W.length) + 1) + (bk P.length))) - (bk W.length)) - 1) * 8)))) 8 4 sa 0) (sa + 3) = bm_AI B (sa + 3) := fr_AI Z107.1 hS.2.2.2.2.2.2.1.1 (by omega)
            have go : bm_AI (bm_putI (bm_setI (bm_setI (bm_setI B96 (sa + 4) 0 0) (sa + 5) 0 (nI (min W.length ((min k (((bk W.length) + 1) + (bk P.length))) * 8)))) (sa + 4) 1 (nI (min P.length ((((min k (((bk W.length) + 1) + (bk P.length))) - (bk W.length)) - 1) * 8)))) 8 4 sa 0) (sa + 2) = bm_AI B (sa + 2) := fr_AI Z107.1 hS.2.2.2.2.2.1.1 (by omega)
            have hE := st_commit_2 (p := true) (P := P) (W := W) rfl (show (min k (bk W.length + 1 + bk P.length)) = st_made (some k) (bk W.length + 1 + bk P.length) from rfl) (fun q => absurd ((nI_ltI (by omega) (by omega)).mp c102) (by omega)) (fun q => absurd ((nI_leI (by omega) (by omega)).mp c63) (by omega))
            have kk2 := kk
            rw [show st_commit true P (some k) W = _ from hE] at kk2
            exact g_reti cd_St_commit rfl ⟨_, rfl, (kk2 _ ⟨⟨StS_fr hS Z107.1, StA_fr hS hAA Z107.1 (by omega)⟩, ⟨P106, cf96_1, cf96_3, fun _ q => by cases q⟩, ⟨(show bm_AI (bm_putI (bm_setI (bm_setI (bm_setI B96 (sa + 4) 0 0) (sa + 5) 0 (nI (min W.length ((min k (((bk W.length) + 1) + (bk P.length))) * 8)))) (sa + 4) 1 (nI (min P.length ((((min k (((bk W.length) + 1) + (bk P.length))) - (bk W.length)) - 1) * 8)))) 8 4 sa 0) (sa + 4) 0 = _ by rw [g4]; rw [pk_un (by decide)]; rfl), (show bm_AI (bm_putI (bm_setI (bm_setI (bm_setI B96 (sa + 4) 0 0) (sa + 5) 0 (nI (min W.length ((min k (((bk W.length) + 1) + (bk P.length))) * 8)))) (sa + 4) 1 (nI (min P.length ((((min k (((bk W.length) + 1) + (bk P.length))) - (bk W.length)) - 1) * 8)))) 8 4 sa 0) (sa + 5) 0 = _ by rw [g5]; simp only [upd, if_true]; congr 1; have := (nI_ltI (by omega) (by omega)).mp c102; omega), hw, show EN (bm_AI (bm_putI (bm_setI (bm_setI (bm_setI B96 (sa + 4) 0 0) (sa + 5) 0 (nI (min W.length ((min k (((bk W.length) + 1) + (bk P.length))) * 8)))) (sa + 4) 1 (nI (min P.length ((((min k (((bk W.length) + 1) + (bk P.length))) - (bk W.length)) - 1) * 8)))) 8 4 sa 0) (sa + 2)) T W 0 by rw [go]; exact hR.2.2.2⟩, min P.length (8 * ((min k (bk W.length + 1 + bk P.length)) - bk W.length - 1)), (show bm_AI (bm_putI (bm_setI (bm_setI (bm_setI B96 (sa + 4) 0 0) (sa + 5) 0 (nI (min W.length ((min k (((bk W.length) + 1) + (bk P.length))) * 8)))) (sa + 4) 1 (nI (min P.length ((((min k (((bk W.length) + 1) + (bk P.length))) - (bk W.length)) - 1) * 8)))) 8 4 sa 0) (sa + 4) 1 = _ by rw [g4]; simp only [upd, if_true]; congr 1; omega), (show bm_AI (bm_putI (bm_setI (bm_setI (bm_setI B96 (sa + 4) 0 0) (sa + 5) 0 (nI (min W.length ((min k (((bk W.length) + 1) + (bk P.length))) * 8)))) (sa + 4) 1 (nI (min P.length ((((min k (((bk W.length) + 1) + (bk P.length))) - (bk W.length)) - 1) * 8)))) 8 4 sa 0) (sa + 5) 1 = _ by rw [g5]; rw [pk_un (by decide)]; exact hR.1.2.2.1.2.1.trans (congrArg nI (by simp; omega))), (by simp; omega), show EN (bm_AI (bm_putI (bm_setI (bm_setI (bm_setI B96 (sa + 4) 0 0) (sa + 5) 0 (nI (min W.length ((min k (((bk W.length) + 1) + (bk P.length))) * 8)))) (sa + 4) 1 (nI (min P.length ((((min k (((bk W.length) + 1) + (bk P.length))) - (bk W.length)) - 1) * 8)))) 8 4 sa 0) (sa + 3)) T _ _ by rw [gp]; exact EN_drop hR.1.2.2.1.2.2.2⟩ (fz_mono (fun _ q => q.elim Or.inl (fun q => q.elim (fun q => Or.inr (Or.inr (Or.inr (Or.inl q)))) (fun q => Or.inr (Or.inr (Or.inr (Or.inr q)))))) Z107))⟩
          · exact absurd (show ¬ (0 : Int32) = 0 from c150) (by decide)
        · have c102 : ¬ (nI (bk W.length)) < (nI (min k (((bk W.length) + 1) + (bk P.length)))) := c102
          exact absurd ((nI_leI (by omega) (by omega)).mp (Int32.not_lt.mp c102)) (by have := (nI_leI (by omega) (by omega)).mp c63; omega)
      · have c63 : ¬ (nI (((bk W.length) + 1) + (bk P.length))) ≤ (nI (min k (((bk W.length) + 1) + (bk P.length)))) := c63
        refine g_k1 (v := 1) (pc' := 67) cd_St_commit rfl (by decide) rfl ?_
        refine g_pure (pc' := 71) (st' := [.int 1, .ref sa]) cd_St_commit rfl rfl (fun _ _ => rfl) ?_
        refine g_putI (c := 8) (k := 6) (pc' := 74) cd_St_commit rfl rfl rfl rfl (by decide) (Or.inl rfl) rfl (by decide) hS.1.1 hS.1.2 ?_
        have P108 : bm_FI (bm_putI (bm_putI B 8 5 sa (-1)) 8 6 sa 1) 8 6 sa = 1 := if_pos ⟨rfl, rfl, rfl⟩
        have Z109 : fz (fun z => z = sa ∨ z = sa + 4 ∨ z = sa + 5) B (bm_putI (bm_putI B 8 5 sa (-1)) 8 6 sa 1) := fz_trans Z93 ⟨fr_mono (fun _ q => Or.inl q) (fr_putI _ 8 6 sa _), rfl, rfl⟩
        obtain ⟨B110, eB110⟩ : ∃ Bx, Bx = (bm_putI (bm_putI B 8 5 sa (-1)) 8 6 sa 1) := ⟨_, rfl⟩
        have cl110_0 : sa < bm_n B110 := eB110 ▸ (show sa < bm_n (bm_putI (bm_putI B 8 5 sa (-1)) 8 6 sa 1) from hS.1.1)
        have ck110_0 : bm_K B110 sa = 8 := eB110 ▸ (show bm_K (bm_putI (bm_putI B 8 5 sa (-1)) 8 6 sa 1) sa = 8 from hS.1.2)
        have cl110_1 : (sa + 1) < bm_n B110 := eB110 ▸ (show (sa + 1) < bm_n (bm_putI (bm_putI B 8 5 sa (-1)) 8 6 sa 1) from hS.2.2.2.2.1.1)
        have ck110_1 : bm_K B110 (sa + 1) = 21 := eB110 ▸ (show bm_K (bm_putI (bm_putI B 8 5 sa (-1)) 8 6 sa 1) (sa + 1) = 21 from hS.2.2.2.2.1.2.1)
        have cl110_2 : (sa + 2) < bm_n B110 := eB110 ▸ (show (sa + 2) < bm_n (bm_putI (bm_putI B 8 5 sa (-1)) 8 6 sa 1) from hS.2.2.2.2.2.1.1)
        have ck110_2 : bm_K B110 (sa + 2) = 13 := eB110 ▸ (show bm_K (bm_putI (bm_putI B 8 5 sa (-1)) 8 6 sa 1) (sa + 2) = 13 from hS.2.2.2.2.2.1.2.1)
        have cl110_3 : (sa + 3) < bm_n B110 := eB110 ▸ (show (sa + 3) < bm_n (bm_putI (bm_putI B 8 5 sa (-1)) 8 6 sa 1) from hS.2.2.2.2.2.2.1.1)
        have ck110_3 : bm_K B110 (sa + 3) = 13 := eB110 ▸ (show bm_K (bm_putI (bm_putI B 8 5 sa (-1)) 8 6 sa 1) (sa + 3) = 13 from hS.2.2.2.2.2.2.1.2.1)
        have cl110_4 : (sa + 4) < bm_n B110 := eB110 ▸ (show (sa + 4) < bm_n (bm_putI (bm_putI B 8 5 sa (-1)) 8 6 sa 1) from hS.2.2.2.2.2.2.2.1.1)
        have ck110_4 : bm_K B110 (sa + 4) = 13 := eB110 ▸ (show bm_K (bm_putI (bm_putI B 8 5 sa (-1)) 8 6 sa 1) (sa + 4) = 13 from hS.2.2.2.2.2.2.2.1.2.1)
        have cl110_5 : (sa + 5) < bm_n B110 := eB110 ▸ (show (sa + 5) < bm_n (bm_putI (bm_putI B 8 5 sa (-1)) 8 6 sa 1) from hS.2.2.2.2.2.2.2.2.1)
        have ck110_5 : bm_K B110 (sa + 5) = 13 := eB110 ▸ (show bm_K (bm_putI (bm_putI B 8 5 sa (-1)) 8 6 sa 1) (sa + 5) = 13 from hS.2.2.2.2.2.2.2.2.2.1)
        have cf110_0 : bm_FI B110 8 4 sa = 1 := eB110 ▸ (show bm_FI (bm_putI (bm_putI B 8 5 sa (-1)) 8 6 sa 1) 8 4 sa = 1 from hR.1.2.1.1)
        have cf110_1 : bm_FI B110 8 5 sa = (-1) := eB110 ▸ (show bm_FI (bm_putI (bm_putI B 8 5 sa (-1)) 8 6 sa 1) 8 5 sa = (-1) from P92)
        have cf110_2 : bm_FI B110 8 3 sa = nI W.length := eB110 ▸ (show bm_FI (bm_putI (bm_putI B 8 5 sa (-1)) 8 6 sa 1) 8 3 sa = nI W.length from hR.2.1)
        have cf110_3 : bm_FI B110 8 6 sa = 1 := eB110 ▸ (show bm_FI (bm_putI (bm_putI B 8 5 sa (-1)) 8 6 sa 1) 8 6 sa = 1 from P108)
        have cr110_0 : bm_FR B110 8 0 sa = some (sa + 1) := eB110 ▸ (show bm_FR (bm_putI (bm_putI B 8 5 sa (-1)) 8 6 sa 1) 8 0 sa = some (sa + 1) from hS.2.1)
        have cr110_1 : bm_FR B110 8 1 sa = some (sa + 4) := eB110 ▸ (show bm_FR (bm_putI (bm_putI B 8 5 sa (-1)) 8 6 sa 1) 8 1 sa = some (sa + 4) from hS.2.2.1)
        have cr110_2 : bm_FR B110 8 2 sa = some (sa + 5) := eB110 ▸ (show bm_FR (bm_putI (bm_putI B 8 5 sa (-1)) 8 6 sa 1) 8 2 sa = some (sa + 5) from hS.2.2.2.1)
        have ci110_0 : bm_AI B110 (sa + 4) = (bm_AI B (sa + 4)) := eB110 ▸ (show bm_AI (bm_putI (bm_putI B 8 5 sa (-1)) 8 6 sa 1) (sa + 4) = (bm_AI B (sa + 4)) from rfl)
        have ci110_1 : bm_AI B110 (sa + 5) = (bm_AI B (sa + 5)) := eB110 ▸ (show bm_AI (bm_putI (bm_putI B 8 5 sa (-1)) 8 6 sa 1) (sa + 5) = (bm_AI B (sa + 5)) from rfl)
        have ca110_0 : bm_AL B110 (sa + 2) = 1072 := eB110 ▸ (show bm_AL (bm_putI (bm_putI B 8 5 sa (-1)) 8 6 sa 1) (sa + 2) = 1072 from hS.2.2.2.2.2.1.2.2)
        have ca110_1 : bm_AL B110 (sa + 3) = 1072 := eB110 ▸ (show bm_AL (bm_putI (bm_putI B 8 5 sa (-1)) 8 6 sa 1) (sa + 3) = 1072 from hS.2.2.2.2.2.2.1.2.2)
        have ca110_2 : bm_AL B110 (sa + 4) = 2 := eB110 ▸ (show bm_AL (bm_putI (bm_putI B 8 5 sa (-1)) 8 6 sa 1) (sa + 4) = 2 from hS.2.2.2.2.2.2.2.1.2.2)
        have ca110_3 : bm_AL B110 (sa + 5) = 2 := eB110 ▸ (show bm_AL (bm_putI (bm_putI B 8 5 sa (-1)) 8 6 sa 1) (sa + 5) = 2 from hS.2.2.2.2.2.2.2.2.2.2)
        have ca110_4 : bm_AL B110 (sa + 1) = 2 := eB110 ▸ (show bm_AL (bm_putI (bm_putI B 8 5 sa (-1)) 8 6 sa 1) (sa + 1) = 2 from hS.2.2.2.2.1.2.2)
        have cz110 : fz (fun z => z = sa ∨ z = sa + 4 ∨ z = sa + 5) B B110 := eB110 ▸ (show fz (fun z => z = sa ∨ z = sa + 4 ∨ z = sa + 5) B (bm_putI (bm_putI B 8 5 sa (-1)) 8 6 sa 1) from Z109)
        rw [← eB110]
        clear eB110
        refine g_ald (pc' := 75) cd_St_commit rfl (Or.inr ⟨_, rfl, rfl, rfl⟩) l0 rfl rfl ?_
        refine g_fR (c := 8) (k := 1) (x := (sa + 4)) (pc' := 78) cd_St_commit rfl rfl rfl rfl rfl (by decide) cl110_0 ck110_0 cr110_1 ?_
        refine g_ild (pc' := 79) cd_St_commit rfl (Or.inr ⟨_, rfl, rfl, rfl⟩) l1 rfl ?_
        refine g_k1 (v := 0) (pc' := 80) cd_St_commit rfl (by decide) rfl ?_
        refine g_iast (pc' := 81) cd_St_commit rfl rfl cl110_4 ck110_4 (by rw [show bm_AL B110 (sa + 4) = 2 from ca110_2]; exact vp_in_nI (n := 0) (by decide) (by decide)) ?_
        rw [show (0 : Int32).toNatClampNeg = 0 from by decide]
        have A111 : bm_AI (bm_setI B110 (sa + 4) 0 0) (sa + 4) = (upd (bm_AI B (sa + 4)) 0 0) := ((AI_set B110 (sa + 4) 0 0).trans (congrArg (fun f => upd f 0 0) (show bm_AI B110 (sa + 4) = (bm_AI B (sa + 4)) from ci110_0)))
        have A112 : bm_AI (bm_setI B110 (sa + 4) 0 0) (sa + 5) = (bm_AI B (sa + 5)) := ((AI_setn B110 0 0 (sa + 5) (by omega)).trans (show bm_AI B110 (sa + 5) = (bm_AI B (sa + 5)) from ci110_1))
        have Z113 : fz (fun z => z = sa ∨ z = sa + 4 ∨ z = sa + 5) B (bm_setI B110 (sa + 4) 0 0) := fz_trans cz110 ⟨fr_mono (fun _ q => Or.inr (Or.inl q)) (fr_setI _ (sa + 4) _ _), rfl, rfl⟩
        refine g_ald (pc' := 82) cd_St_commit rfl (Or.inr ⟨_, rfl, rfl, rfl⟩) l0 rfl rfl ?_
        refine g_fR (c := 8) (k := 2) (x := (sa + 5)) (pc' := 85) cd_St_commit rfl rfl rfl rfl rfl (by decide) cl110_0 ck110_0 cr110_2 ?_
        refine g_ild (pc' := 86) cd_St_commit rfl (Or.inr ⟨_, rfl, rfl, rfl⟩) l1 rfl ?_
        refine g_ald (pc' := 87) cd_St_commit rfl (Or.inr ⟨_, rfl, rfl, rfl⟩) l0 rfl rfl ?_
        refine g_fI (c := 8) (k := 3) (x := nI W.length) (pc' := 90) cd_St_commit rfl rfl rfl rfl rfl (by decide) cl110_0 ck110_0 cf110_2 ?_
        refine g_ild (pc' := 92) cd_St_commit rfl (Or.inl ⟨rfl, rfl⟩) l4 rfl ?_
        refine g_k2 (v := 8) (pc' := 94) cd_St_commit rfl (by decide) rfl ?_
        refine g_pure (pc' := 95) (st' := [.int ((nI (min k (((bk W.length) + 1) + (bk P.length)))) * 8), .int (nI W.length), .int 0, .ref ((sa + 5))]) cd_St_commit rfl rfl (fun _ _ => rfl) ?_
        rw [show ((nI (min k (((bk W.length) + 1) + (bk P.length)))) * 8 : Int32) = nI ((min k (((bk W.length) + 1) + (bk P.length))) * 8) from pk_mul (min k (((bk W.length) + 1) + (bk P.length))) 8]
        refine g_min (pc' := 98) cd_St_commit rfl rfl rfl rfl ?_
        rw [nI_min (a := W.length) (b := ((min k (((bk W.length) + 1) + (bk P.length))) * 8)) (by omega) (by omega)]
        refine g_iast (pc' := 99) cd_St_commit rfl rfl cl110_5 ck110_5 (by rw [show bm_AL (bm_setI B110 (sa + 4) 0 0) (sa + 5) = 2 from ca110_3]; exact vp_in_nI (n := 0) (by decide) (by decide)) ?_
        rw [show (0 : Int32).toNatClampNeg = 0 from by decide]
        have A114 : bm_AI (bm_setI (bm_setI B110 (sa + 4) 0 0) (sa + 5) 0 (nI (min W.length ((min k (((bk W.length) + 1) + (bk P.length))) * 8)))) (sa + 4) = (upd (bm_AI B (sa + 4)) 0 0) := ((AI_setn (bm_setI B110 (sa + 4) 0 0) 0 (nI (min W.length ((min k (((bk W.length) + 1) + (bk P.length))) * 8))) (sa + 4) (by omega)).trans (show bm_AI (bm_setI B110 (sa + 4) 0 0) (sa + 4) = (upd (bm_AI B (sa + 4)) 0 0) from A111))
        have A115 : bm_AI (bm_setI (bm_setI B110 (sa + 4) 0 0) (sa + 5) 0 (nI (min W.length ((min k (((bk W.length) + 1) + (bk P.length))) * 8)))) (sa + 5) = (upd (bm_AI B (sa + 5)) 0 (nI (min W.length ((min k (((bk W.length) + 1) + (bk P.length))) * 8)))) := ((AI_set (bm_setI B110 (sa + 4) 0 0) (sa + 5) 0 (nI (min W.length ((min k (((bk W.length) + 1) + (bk P.length))) * 8)))).trans (congrArg (fun f => upd f 0 (nI (min W.length ((min k (((bk W.length) + 1) + (bk P.length))) * 8)))) (show bm_AI (bm_setI B110 (sa + 4) 0 0) (sa + 5) = (bm_AI B (sa + 5)) from A112)))
        have Z116 : fz (fun z => z = sa ∨ z = sa + 4 ∨ z = sa + 5) B (bm_setI (bm_setI B110 (sa + 4) 0 0) (sa + 5) 0 (nI (min W.length ((min k (((bk W.length) + 1) + (bk P.length))) * 8)))) := fz_trans Z113 ⟨fr_mono (fun _ q => Or.inr (Or.inr q)) (fr_setI _ (sa + 5) _ _), rfl, rfl⟩
        refine g_ild (pc' := 101) cd_St_commit rfl (Or.inl ⟨rfl, rfl⟩) l4 rfl ?_
        refine g_ild (pc' := 102) cd_St_commit rfl (Or.inr ⟨_, rfl, rfl, rfl⟩) l2 rfl ?_
        refine g_if2 (t := 107) (pc' := 105) cd_St_commit rfl rfl rfl (fun c102 => ?_) (fun c102 => ?_)
        · have c102 : (nI (bk W.length)) < (nI (min k (((bk W.length) + 1) + (bk P.length)))) := c102
          have hgt : bk W.length < (min k (bk W.length + 1 + bk P.length)) := (nI_ltI (by omega) (by omega)).mp c102
          refine g_ild (pc' := 109) cd_St_commit rfl (Or.inl ⟨rfl, rfl⟩) l4 rfl ?_
          refine g_ild (pc' := 110) cd_St_commit rfl (Or.inr ⟨_, rfl, rfl, rfl⟩) l2 rfl ?_
          refine g_pure (pc' := 111) (st' := [.int ((nI (min k (((bk W.length) + 1) + (bk P.length)))) - (nI (bk W.length)))]) cd_St_commit rfl rfl (fun _ _ => rfl) ?_
          rw [show ((nI (min k (((bk W.length) + 1) + (bk P.length)))) - (nI (bk W.length)) : Int32) = nI ((min k (((bk W.length) + 1) + (bk P.length))) - (bk W.length)) from pk_sub (a := (min k (((bk W.length) + 1) + (bk P.length)))) (b := (bk W.length)) (by omega)]
          refine g_k1 (v := 1) (pc' := 112) cd_St_commit rfl (by decide) rfl ?_
          refine g_pure (pc' := 113) (st' := [.int ((nI ((min k (((bk W.length) + 1) + (bk P.length))) - (bk W.length))) - 1)]) cd_St_commit rfl rfl (fun _ _ => rfl) ?_
          rw [show ((nI ((min k (((bk W.length) + 1) + (bk P.length))) - (bk W.length))) - 1 : Int32) = nI (((min k (((bk W.length) + 1) + (bk P.length))) - (bk W.length)) - 1) from pk_sub (a := ((min k (((bk W.length) + 1) + (bk P.length))) - (bk W.length))) (b := 1) (by omega)]
          refine g_ist (pc' := 115) cd_St_commit rfl (Or.inl ⟨rfl, rfl⟩) (by decide) rfl (fun lv el => ?_)
          have l0 := tm_lk el l0 rfl (by decide)
          have l1 := tm_lk el l1 rfl (by decide)
          have l2 := tm_lk el l2 rfl (by decide)
          have l3 := tm_lk el l3 rfl (by decide)
          have l4 := tm_lk el l4 rfl (by decide)
          have l5 : lv.lookup 5 = some (.int (nI (((min k (((bk W.length) + 1) + (bk P.length))) - (bk W.length)) - 1))) := tm_lks el
          clear el
          refine g_ald (pc' := 116) cd_St_commit rfl (Or.inr ⟨_, rfl, rfl, rfl⟩) l0 rfl rfl ?_
          refine g_fR (c := 8) (k := 1) (x := (sa + 4)) (pc' := 119) cd_St_commit rfl rfl rfl rfl rfl (by decide) cl110_0 ck110_0 cr110_1 ?_
          refine g_ald (pc' := 120) cd_St_commit rfl (Or.inr ⟨_, rfl, rfl, rfl⟩) l0 rfl rfl ?_
          refine g_fI (c := 8) (k := 4) (x := 1) (pc' := 123) cd_St_commit rfl rfl rfl rfl rfl (by decide) cl110_0 ck110_0 cf110_0 ?_
          refine g_ald (pc' := 124) cd_St_commit rfl (Or.inr ⟨_, rfl, rfl, rfl⟩) l0 rfl rfl ?_
          refine g_fR (c := 8) (k := 2) (x := (sa + 5)) (pc' := 127) cd_St_commit rfl rfl rfl rfl rfl (by decide) cl110_0 ck110_0 cr110_2 ?_
          refine g_ald (pc' := 128) cd_St_commit rfl (Or.inr ⟨_, rfl, rfl, rfl⟩) l0 rfl rfl ?_
          refine g_fI (c := 8) (k := 4) (x := 1) (pc' := 131) cd_St_commit rfl rfl rfl rfl rfl (by decide) cl110_0 ck110_0 cf110_0 ?_
          refine g_aI (x := nI P.length) (pc' := 132) cd_St_commit rfl rfl cl110_5 ck110_5 (by rw [show bm_AL (bm_setI (bm_setI B110 (sa + 4) 0 0) (sa + 5) 0 (nI (min W.length ((min k (((bk W.length) + 1) + (bk P.length))) * 8)))) (sa + 5) = 2 from ca110_3]; exact vp_in_nI (n := 1) (by decide) (by decide)) (show bm_AI (bm_setI (bm_setI B110 (sa + 4) 0 0) (sa + 5) 0 (nI (min W.length ((min k (((bk W.length) + 1) + (bk P.length))) * 8)))) (sa + 5) 1 = _ by rw [show bm_AI (bm_setI (bm_setI B110 (sa + 4) 0 0) (sa + 5) 0 (nI (min W.length ((min k (((bk W.length) + 1) + (bk P.length))) * 8)))) (sa + 5) = _ from A115, pk_un (by decide)]; exact hR.1.2.2.1.2.1) ?_
          refine g_ild (pc' := 134) cd_St_commit rfl (Or.inl ⟨rfl, rfl⟩) l5 rfl ?_
          refine g_k2 (v := 8) (pc' := 136) cd_St_commit rfl (by decide) rfl ?_
          refine g_pure (pc' := 137) (st' := [.int ((nI (((min k (((bk W.length) + 1) + (bk P.length))) - (bk W.length)) - 1)) * 8), .int (nI P.length), .int 1, .ref ((sa + 4))]) cd_St_commit rfl rfl (fun _ _ => rfl) ?_
          rw [show ((nI (((min k (((bk W.length) + 1) + (bk P.length))) - (bk W.length)) - 1)) * 8 : Int32) = nI ((((min k (((bk W.length) + 1) + (bk P.length))) - (bk W.length)) - 1) * 8) from pk_mul (((min k (((bk W.length) + 1) + (bk P.length))) - (bk W.length)) - 1) 8]
          refine g_min (pc' := 140) cd_St_commit rfl rfl rfl rfl ?_
          rw [nI_min (a := P.length) (b := ((((min k (((bk W.length) + 1) + (bk P.length))) - (bk W.length)) - 1) * 8)) (by omega) (by omega)]
          refine g_iast (pc' := 141) cd_St_commit rfl rfl cl110_4 ck110_4 (by rw [show bm_AL (bm_setI (bm_setI B110 (sa + 4) 0 0) (sa + 5) 0 (nI (min W.length ((min k (((bk W.length) + 1) + (bk P.length))) * 8)))) (sa + 4) = 2 from ca110_2]; exact vp_in_nI (n := 1) (by decide) (by decide)) ?_
          rw [show (1 : Int32).toNatClampNeg = 1 from by decide]
          have A117 : bm_AI (bm_setI (bm_setI (bm_setI B110 (sa + 4) 0 0) (sa + 5) 0 (nI (min W.length ((min k (((bk W.length) + 1) + (bk P.length))) * 8)))) (sa + 4) 1 (nI (min P.length ((((min k (((bk W.length) + 1) + (bk P.length))) - (bk W.length)) - 1) * 8)))) (sa + 4) = (upd (upd (bm_AI B (sa + 4)) 0 0) 1 (nI (min P.length ((((min k (((bk W.length) + 1) + (bk P.length))) - (bk W.length)) - 1) * 8)))) := ((AI_set (bm_setI (bm_setI B110 (sa + 4) 0 0) (sa + 5) 0 (nI (min W.length ((min k (((bk W.length) + 1) + (bk P.length))) * 8)))) (sa + 4) 1 (nI (min P.length ((((min k (((bk W.length) + 1) + (bk P.length))) - (bk W.length)) - 1) * 8)))).trans (congrArg (fun f => upd f 1 (nI (min P.length ((((min k (((bk W.length) + 1) + (bk P.length))) - (bk W.length)) - 1) * 8)))) (show bm_AI (bm_setI (bm_setI B110 (sa + 4) 0 0) (sa + 5) 0 (nI (min W.length ((min k (((bk W.length) + 1) + (bk P.length))) * 8)))) (sa + 4) = (upd (bm_AI B (sa + 4)) 0 0) from A114)))
          have A118 : bm_AI (bm_setI (bm_setI (bm_setI B110 (sa + 4) 0 0) (sa + 5) 0 (nI (min W.length ((min k (((bk W.length) + 1) + (bk P.length))) * 8)))) (sa + 4) 1 (nI (min P.length ((((min k (((bk W.length) + 1) + (bk P.length))) - (bk W.length)) - 1) * 8)))) (sa + 5) = (upd (bm_AI B (sa + 5)) 0 (nI (min W.length ((min k (((bk W.length) + 1) + (bk P.length))) * 8)))) := ((AI_setn (bm_setI (bm_setI B110 (sa + 4) 0 0) (sa + 5) 0 (nI (min W.length ((min k (((bk W.length) + 1) + (bk P.length))) * 8)))) 1 (nI (min P.length ((((min k (((bk W.length) + 1) + (bk P.length))) - (bk W.length)) - 1) * 8))) (sa + 5) (by omega)).trans (show bm_AI (bm_setI (bm_setI B110 (sa + 4) 0 0) (sa + 5) 0 (nI (min W.length ((min k (((bk W.length) + 1) + (bk P.length))) * 8)))) (sa + 5) = (upd (bm_AI B (sa + 5)) 0 (nI (min W.length ((min k (((bk W.length) + 1) + (bk P.length))) * 8)))) from A115))
          have Z119 : fz (fun z => z = sa ∨ z = sa + 4 ∨ z = sa + 5) B (bm_setI (bm_setI (bm_setI B110 (sa + 4) 0 0) (sa + 5) 0 (nI (min W.length ((min k (((bk W.length) + 1) + (bk P.length))) * 8)))) (sa + 4) 1 (nI (min P.length ((((min k (((bk W.length) + 1) + (bk P.length))) - (bk W.length)) - 1) * 8)))) := fz_trans Z116 ⟨fr_mono (fun _ q => Or.inr (Or.inl q)) (fr_setI _ (sa + 4) _ _), rfl, rfl⟩
          refine g_ald (pc' := 142) cd_St_commit rfl (Or.inr ⟨_, rfl, rfl, rfl⟩) l0 rfl rfl ?_
          refine g_ild (pc' := 143) cd_St_commit rfl (Or.inr ⟨_, rfl, rfl, rfl⟩) l1 rfl ?_
          refine g_putI (c := 8) (k := 4) (pc' := 146) cd_St_commit rfl rfl rfl rfl (by simp [tm_okV, narrow, fits]) (Or.inl rfl) rfl (by decide) cl110_0 ck110_0 ?_
          have P120 : bm_FI (bm_putI (bm_setI (bm_setI (bm_setI B110 (sa + 4) 0 0) (sa + 5) 0 (nI (min W.length ((min k (((bk W.length) + 1) + (bk P.length))) * 8)))) (sa + 4) 1 (nI (min P.length ((((min k (((bk W.length) + 1) + (bk P.length))) - (bk W.length)) - 1) * 8)))) 8 4 sa 0) 8 4 sa = 0 := if_pos ⟨rfl, rfl, rfl⟩
          have Z121 : fz (fun z => z = sa ∨ z = sa + 4 ∨ z = sa + 5) B (bm_putI (bm_setI (bm_setI (bm_setI B110 (sa + 4) 0 0) (sa + 5) 0 (nI (min W.length ((min k (((bk W.length) + 1) + (bk P.length))) * 8)))) (sa + 4) 1 (nI (min P.length ((((min k (((bk W.length) + 1) + (bk P.length))) - (bk W.length)) - 1) * 8)))) 8 4 sa 0) := fz_trans Z119 ⟨fr_mono (fun _ q => Or.inl q) (fr_putI _ 8 4 sa _), rfl, rfl⟩
          refine g_ald (pc' := 147) cd_St_commit rfl (Or.inr ⟨_, rfl, rfl, rfl⟩) l0 rfl rfl ?_
          refine g_fI (c := 8) (k := 6) (x := 1) (pc' := 150) cd_St_commit rfl rfl rfl rfl rfl (by decide) cl110_0 ck110_0 cf110_3 ?_
          refine g_if1 (t := 157) (pc' := 153) cd_St_commit rfl rfl rfl (fun c150 => ?_) (fun c150 => ?_)
          · exact absurd (show (1 : Int32) = 0 from c150) (by decide)
          · have c150 : ¬ (1 : Int32) = 0 := c150
            refine g_k1 (v := 1) (pc' := 154) cd_St_commit rfl (by decide) rfl ?_
            refine g_pure (pc' := 158) (st' := [.int 1]) cd_St_commit rfl rfl (fun _ _ => rfl) ?_
            have g4 : bm_AI (bm_putI (bm_setI (bm_setI (bm_setI B110 (sa + 4) 0 0) (sa + 5) 0 (nI (min W.length ((min k (((bk W.length) + 1) + (bk P.length))) * 8)))) (sa + 4) 1 (nI (min P.length ((((min k (((bk W.length) + 1) + (bk P.length))) - (bk W.length)) - 1) * 8)))) 8 4 sa 0) (sa + 4) = (upd (upd (bm_AI B (sa + 4)) 0 0) 1 (nI (min P.length ((((min k (((bk W.length) + 1) + (bk P.length))) - (bk W.length)) - 1) * 8)))) := A117
            have g5 : bm_AI (bm_putI (bm_setI (bm_setI (bm_setI B110 (sa + 4) 0 0) (sa + 5) 0 (nI (min W.length ((min k (((bk W.length) + 1) + (bk P.length))) * 8)))) (sa + 4) 1 (nI (min P.length ((((min k (((bk W.length) + 1) + (bk P.length))) - (bk W.length)) - 1) * 8)))) 8 4 sa 0) (sa + 5) = (upd (bm_AI B (sa + 5)) 0 (nI (min W.length ((min k (((bk W.length) + 1) + (bk P.length))) * 8)))) := A118
            have gp : bm_AI (bm_putI (bm_setI (bm_setI (bm_setI B110 (sa + 4) 0 0) (sa + 5) 0 (nI (min W.length ((min k (((bk W.length) + 1) + (bk P.length))) * 8)))) (sa + 4) 1 (nI (min P.length ((((min k (((bk W.length) + 1) + (bk P.length))) - (bk W.length)) - 1) * 8)))) 8 4 sa 0) (sa + 3) = bm_AI B (sa + 3) := fr_AI Z121.1 hS.2.2.2.2.2.2.1.1 (by omega)
            have go : bm_AI (bm_putI (bm_setI (bm_setI (bm_setI B110 (sa + 4) 0 0) (sa + 5) 0 (nI (min W.length ((min k (((bk W.length) + 1) + (bk P.length))) * 8)))) (sa + 4) 1 (nI (min P.length ((((min k (((bk W.length) + 1) + (bk P.length))) - (bk W.length)) - 1) * 8)))) 8 4 sa 0) (sa + 2) = bm_AI B (sa + 2) := fr_AI Z121.1 hS.2.2.2.2.2.1.1 (by omega)
            have hE := st_commit_1 (p := true) (P := P) (W := W) rfl (show (min k (bk W.length + 1 + bk P.length)) = st_made (some k) (bk W.length + 1 + bk P.length) from rfl) (fun q => absurd ((nI_ltI (by omega) (by omega)).mp c102) (by omega)) ((nI_ltI (by omega) (by omega)).mp (Int32.not_le.mp c63))
            have kk2 := kk
            rw [show st_commit true P (some k) W = _ from hE] at kk2
            exact g_reti cd_St_commit rfl ⟨_, rfl, (kk2 _ ⟨⟨StS_fr hS Z121.1, StA_fr hS hAA Z121.1 (by omega)⟩, ⟨P120, cf110_1, cf110_3, fun _ q => by cases q⟩, ⟨(show bm_AI (bm_putI (bm_setI (bm_setI (bm_setI B110 (sa + 4) 0 0) (sa + 5) 0 (nI (min W.length ((min k (((bk W.length) + 1) + (bk P.length))) * 8)))) (sa + 4) 1 (nI (min P.length ((((min k (((bk W.length) + 1) + (bk P.length))) - (bk W.length)) - 1) * 8)))) 8 4 sa 0) (sa + 4) 0 = _ by rw [g4]; rw [pk_un (by decide)]; rfl), (show bm_AI (bm_putI (bm_setI (bm_setI (bm_setI B110 (sa + 4) 0 0) (sa + 5) 0 (nI (min W.length ((min k (((bk W.length) + 1) + (bk P.length))) * 8)))) (sa + 4) 1 (nI (min P.length ((((min k (((bk W.length) + 1) + (bk P.length))) - (bk W.length)) - 1) * 8)))) 8 4 sa 0) (sa + 5) 0 = _ by rw [g5]; simp only [upd, if_true]; congr 1; have := (nI_ltI (by omega) (by omega)).mp c102; omega), hw, show EN (bm_AI (bm_putI (bm_setI (bm_setI (bm_setI B110 (sa + 4) 0 0) (sa + 5) 0 (nI (min W.length ((min k (((bk W.length) + 1) + (bk P.length))) * 8)))) (sa + 4) 1 (nI (min P.length ((((min k (((bk W.length) + 1) + (bk P.length))) - (bk W.length)) - 1) * 8)))) 8 4 sa 0) (sa + 2)) T W 0 by rw [go]; exact hR.2.2.2⟩, min P.length (8 * ((min k (bk W.length + 1 + bk P.length)) - bk W.length - 1)), (show bm_AI (bm_putI (bm_setI (bm_setI (bm_setI B110 (sa + 4) 0 0) (sa + 5) 0 (nI (min W.length ((min k (((bk W.length) + 1) + (bk P.length))) * 8)))) (sa + 4) 1 (nI (min P.length ((((min k (((bk W.length) + 1) + (bk P.length))) - (bk W.length)) - 1) * 8)))) 8 4 sa 0) (sa + 4) 1 = _ by rw [g4]; simp only [upd, if_true]; congr 1; omega), (show bm_AI (bm_putI (bm_setI (bm_setI (bm_setI B110 (sa + 4) 0 0) (sa + 5) 0 (nI (min W.length ((min k (((bk W.length) + 1) + (bk P.length))) * 8)))) (sa + 4) 1 (nI (min P.length ((((min k (((bk W.length) + 1) + (bk P.length))) - (bk W.length)) - 1) * 8)))) 8 4 sa 0) (sa + 5) 1 = _ by rw [g5]; rw [pk_un (by decide)]; exact hR.1.2.2.1.2.1.trans (congrArg nI (by simp; omega))), (by simp; omega), show EN (bm_AI (bm_putI (bm_setI (bm_setI (bm_setI B110 (sa + 4) 0 0) (sa + 5) 0 (nI (min W.length ((min k (((bk W.length) + 1) + (bk P.length))) * 8)))) (sa + 4) 1 (nI (min P.length ((((min k (((bk W.length) + 1) + (bk P.length))) - (bk W.length)) - 1) * 8)))) 8 4 sa 0) (sa + 3)) T _ _ by rw [gp]; exact EN_drop hR.1.2.2.1.2.2.2⟩ (fz_mono (fun _ q => q.elim Or.inl (fun q => q.elim (fun q => Or.inr (Or.inr (Or.inr (Or.inl q)))) (fun q => Or.inr (Or.inr (Or.inr (Or.inr q)))))) Z121))⟩
        · have c102 : ¬ (nI (bk W.length)) < (nI (min k (((bk W.length) + 1) + (bk P.length)))) := c102
          refine g_k1 (v := 0) (pc' := 106) cd_St_commit rfl (by decide) rfl ?_
          have g4 : bm_AI (bm_setI (bm_setI B110 (sa + 4) 0 0) (sa + 5) 0 (nI (min W.length ((min k (((bk W.length) + 1) + (bk P.length))) * 8)))) (sa + 4) = (upd (bm_AI B (sa + 4)) 0 0) := A114
          have g5 : bm_AI (bm_setI (bm_setI B110 (sa + 4) 0 0) (sa + 5) 0 (nI (min W.length ((min k (((bk W.length) + 1) + (bk P.length))) * 8)))) (sa + 5) = (upd (bm_AI B (sa + 5)) 0 (nI (min W.length ((min k (((bk W.length) + 1) + (bk P.length))) * 8)))) := A115
          have gp : bm_AI (bm_setI (bm_setI B110 (sa + 4) 0 0) (sa + 5) 0 (nI (min W.length ((min k (((bk W.length) + 1) + (bk P.length))) * 8)))) (sa + 3) = bm_AI B (sa + 3) := fr_AI Z116.1 hS.2.2.2.2.2.2.1.1 (by omega)
          have go : bm_AI (bm_setI (bm_setI B110 (sa + 4) 0 0) (sa + 5) 0 (nI (min W.length ((min k (((bk W.length) + 1) + (bk P.length))) * 8)))) (sa + 2) = bm_AI B (sa + 2) := fr_AI Z116.1 hS.2.2.2.2.2.1.1 (by omega)
          have hE := st_commit_0 (p := true) (P := P) (W := W) rfl (show (min k (bk W.length + 1 + bk P.length)) = st_made (some k) (bk W.length + 1 + bk P.length) from rfl) ((nI_leI (by omega) (by omega)).mp (Int32.not_lt.mp c102))
          have kk2 := kk
          rw [show st_commit true P (some k) W = _ from hE] at kk2
          exact g_reti cd_St_commit rfl ⟨_, rfl, (kk2 _ ⟨⟨StS_fr hS Z116.1, StA_fr hS hAA Z116.1 (by omega)⟩, ⟨cf110_0, cf110_1, cf110_3, fun _ q => by cases q⟩, ⟨(show bm_AI (bm_setI (bm_setI B110 (sa + 4) 0 0) (sa + 5) 0 (nI (min W.length ((min k (((bk W.length) + 1) + (bk P.length))) * 8)))) (sa + 4) 1 = _ by rw [g4]; rw [pk_un (by decide)]; exact hR.1.2.2.1.1), (show bm_AI (bm_setI (bm_setI B110 (sa + 4) 0 0) (sa + 5) 0 (nI (min W.length ((min k (((bk W.length) + 1) + (bk P.length))) * 8)))) (sa + 5) 1 = _ by rw [g5]; rw [pk_un (by decide)]; exact hR.1.2.2.1.2.1), hp, show EN (bm_AI (bm_setI (bm_setI B110 (sa + 4) 0 0) (sa + 5) 0 (nI (min W.length ((min k (((bk W.length) + 1) + (bk P.length))) * 8)))) (sa + 3)) T P 0 by rw [gp]; exact hR.1.2.2.1.2.2.2⟩, 0, (show bm_AI (bm_setI (bm_setI B110 (sa + 4) 0 0) (sa + 5) 0 (nI (min W.length ((min k (((bk W.length) + 1) + (bk P.length))) * 8)))) (sa + 4) 0 = _ by rw [g4]; rfl), (show bm_AI (bm_setI (bm_setI B110 (sa + 4) 0 0) (sa + 5) 0 (nI (min W.length ((min k (((bk W.length) + 1) + (bk P.length))) * 8)))) (sa + 5) 0 = _ by rw [g5]; simp only [upd, if_true]; congr 1; simp; omega), (by simp; omega), show EN (bm_AI (bm_setI (bm_setI B110 (sa + 4) 0 0) (sa + 5) 0 (nI (min W.length ((min k (((bk W.length) + 1) + (bk P.length))) * 8)))) (sa + 2)) T _ 0 by rw [go]; exact EN_take hR.2.2.2⟩ (fz_mono (fun _ q => q.elim Or.inl (fun q => q.elim (fun q => Or.inr (Or.inr (Or.inr (Or.inl q)))) (fun q => Or.inr (Or.inr (Or.inr (Or.inr q)))))) Z116))⟩
    · have c37 : (nI k) = (-1) := Classical.not_not.mp c37
      exact absurd (congrArg Int32.toInt c37) (by rw [nI_toInt (by omega)]; show (k : Int) ≠ -1; omega)
theorem t_commit {sc : tm_X} {d : Nat} {sa : Nat} {B : bm_H} {T : List Tm} {p : Bool} {P : EN2} {c : Option Nat} {dn : Bool} {W : EN2} {Q : Int32 → bm_H → Prop} (hR : RSw B T sa p P c dn W) (kk : ∀ B', RSt B' T sa (st_commit p P c W).2 → fz (stx sa) B B' → Q (nI (st_commit p P c W).1) B') : bm_Gi sc (d + 1) 56 [.ref sa] B Q := by
  cases c
  · exact t_commit_n hR kk
  · exact t_commit_s hR kk
