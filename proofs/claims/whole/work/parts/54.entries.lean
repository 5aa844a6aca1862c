/-! What a device writes into its store -/
abbrev GV : Type := IB × Int32 × Bool
abbrev PK : Type := Tm × Int32 × List Tm
def se_en (S : SS) : EN2 := match S with
  | (I, ba, ro, mi, se, _, _, br, bp, bo, _) => [(ba, tz), (ro, tz), (mi, tz)] ++ en_any I.1 ++ en_any se ++ en_any I.2.1 ++ (if br = true then [(bp, bo)] else []) ++ I.2.2.2.map fun e => (e.2.2, e.1)
def gv_en (G : GV) : EN2 := (G.1.2.1, G.1.1) :: G.1.2.2.2.map fun e => (e.2.2, tz)
def pk_en (K : PK) : EN2 := if K.2.1 = 0 then [] else (K.1, tz) :: K.2.2.map fun A => (A, tz)
def RGv (B : bm_H) (T : List Tm) (y : Nat) (G : GV) : Prop := ((y < bm_n B ∧ bm_K B y = 1) ∧ bm_FR B 1 0 y = some (y + 1)) ∧ RIn B T (y + 1) G.1 ∧ bm_FI B 1 1 y = G.2.1 ∧ bm_FI B 1 2 y = bz G.2.2
def GvS (B : bm_H) (y : Nat) : Prop := (y < bm_n B ∧ bm_K B y = 1) ∧ bm_FR B 1 0 y = some (y + 1) ∧ InS B (y + 1)
def PkS (B : bm_H) (y : Nat) : Prop := (y < bm_n B ∧ bm_K B y = 6) ∧ bm_FR B 6 0 y = some (y + 1) ∧ (y + 1 < bm_n B ∧ bm_K B (y + 1) = 13 ∧ bm_AL B (y + 1) = 4)
def RPk (B : bm_H) (T : List Tm) (y : Nat) (K : PK) : Prop := PkS B y ∧ (tv T (bm_FI B 6 2 y) K.1 ∧ bm_FI B 6 3 y = K.2.1 ∧ bm_FI B 6 1 y = nI K.2.2.length ∧ K.2.2.length ≤ 4) ∧ ∀ (i : Nat) (A : Tm), K.2.2[i]? = some A → tv T (bm_AI B (y + 1) i) A
theorem RGv_fr {X : Nat → Prop} {B B' : bm_H} {T T' : List Tm} {y : Nat} {G : GV} (h : RGv B T y G) (hf : fr X B B') (n1 : ¬ X y) (n2 : ¬ X (y + 1)) (n3 : ¬ X (y + 1 + 1)) (hT : T <+: T') : RGv B' T' y G := by
  obtain ⟨⟨⟨h1, h2⟩, h3⟩, h4, h5, h6⟩ := h
  exact ⟨⟨⟨fr_lt hf h1, (fr_K hf h1).trans h2⟩, (fr_FS hf h1 1 0 rfl).trans h3⟩, RIn_fr h4 hf n2 n3 hT, (fr_FI hf h1 n1 1 1).trans h5, (fr_FI hf h1 n1 1 2).trans h6⟩
theorem GvS_fr {X : Nat → Prop} {B B' : bm_H} {y : Nat} (h : GvS B y) (hf : fr X B B') : GvS B' y := ⟨⟨fr_lt hf h.1.1, (fr_K hf h.1.1).trans h.1.2⟩, (fr_FS hf h.1.1 1 0 rfl).trans h.2.1, InS_fr h.2.2 hf⟩
theorem PkS_fr {X : Nat → Prop} {B B' : bm_H} {y : Nat} (h : PkS B y) (hf : fr X B B') : PkS B' y := ⟨⟨fr_lt hf h.1.1, (fr_K hf h.1.1).trans h.1.2⟩, (fr_FS hf h.1.1 6 0 rfl).trans h.2.1, fr_lt hf h.2.2.1, (fr_K hf h.2.2.1).trans h.2.2.2.1, (fr_AL hf h.2.2.1).trans h.2.2.2.2⟩
theorem RPk_fr {X : Nat → Prop} {B B' : bm_H} {T T' : List Tm} {y : Nat} {K : PK} (h : RPk B T y K) (hf : fr X B B') (n1 : ¬ X y) (n2 : ¬ X (y + 1)) (hT : T <+: T') : RPk B' T' y K := by
  obtain ⟨h1, ⟨h2, h3, h4, h5⟩, h6⟩ := h
  have e := fun k => fr_FI hf h1.1.1 n1 6 k
  exact ⟨PkS_fr h1 hf, ⟨tvq (e 2) (tv_mono hT h2), (e 3).trans h3, (e 1).trans h4, h5⟩, fun i A hA => by rw [fr_AI hf h1.2.2.1 n2]; exact tv_mono hT (h6 i A hA)⟩
theorem lf_get {B : bm_H} {T : List Tm} {x : Nat} {I : IB} (h : RIn B T x I) {i : Nat} {e : Tm × Int32 × Tm} (he : I.2.2.2[i]? = some e) : tv T (in_get B (x + 1) I.2.2.2.length (nI i) 2) e.2.2 ∧ tv T (in_get B (x + 1) I.2.2.2.length (nI i) 0) e.1 := by
  have hi := (List.getElem?_eq_some_iff.mp he).1
  have h8 := h.2.1.2
  rw [in_get_n (nI_pos (by omega)) (nI_ge hi (by omega)), in_get_n (nI_pos (by omega)) (nI_ge hi (by omega)), nI_clamp (by omega)]
  exact ⟨(h.2.2.2 i e he).2.2, (h.2.2.2 i e he).1⟩
theorem drop_cons {α : Type} {l r : List α} {i : Nat} {e : α} (h : l.drop i = e :: r) : l[i]? = some e ∧ l.drop (i + 1) = r := by
  have h1 : (l.drop i)[0]? = some e := by rw [h]; rfl
  rw [List.getElem?_drop] at h1
  refine ⟨h1, ?_⟩
  have : (l.drop i).drop 1 = r := by rw [h]; rfl
  rwa [List.drop_drop] at this
theorem drop_nil {α : Type} {l : List α} {i : Nat} (h : l.drop i = []) : l.length ≤ i := by
  have := congrArg List.length h
  simp at this
  omega
theorem l_Sw {sc : tm_X} {d : Nat} {sa s : Nat} {T : List Tm} {p : Bool} {P : EN2} {c : Option Nat} {dn : Bool} {I : IB} {xb xr xm xs : Tm} {n b : Int32} {br : Bool} {bp bo : Tm} {on : Bool} {Q : bm_H → Prop} (h0 : T0 T) (hd : s + 2 < sa ∨ sa + 5 < s) : ∀ (R : List (Tm × Int32 × Tm)) (i : Nat) (B : bm_H) (W : EN2), RSe B T s (I, xb, xr, xm, xs, n, b, br, bp, bo, on) → RSw B T sa p P c dn W → I.2.2.2.drop i = R → i ≤ 8 → W.length + R.length ≤ 536 → (∀ B', RSw B' T sa p P c dn (W ++ R.map (fun e => (e.2.2, e.1))) → fz (stx sa) B B' → Q B') → ∀ lv : tm_L, lv.lookup 0 = some (.ref s) → lv.lookup 1 = some (.ref sa) → lv.lookup 2 = some (.int (nI i)) → bm_G sc (d + 1) 50 78 lv [] B (fun r B' => r = none ∧ Q B') := by
  intro R
  induction R with
  | nil =>
    intro i B W hR hw hdr hi8 hW kk lv l0 l1 l2
    have hl := drop_nil hdr
    have hc8 := hR.2.1.2.1.2
    refine g_ild (pc' := 79) cd_Se_writeEntries rfl (Or.inr ⟨_, rfl, rfl, rfl⟩) l2 rfl ?_
    refine g_ald (pc' := 80) cd_Se_writeEntries rfl (Or.inr ⟨_, rfl, rfl, rfl⟩) l0 rfl rfl ?_
    refine g_fR (c := 7) (k := 0) (x := (s + 1)) (pc' := 83) cd_Se_writeEntries rfl rfl rfl rfl rfl (by decide) hR.1.1.1 hR.1.1.2 hR.1.2 ?_
    refine g_fI (c := 2) (k := 1) (x := (nI I.2.2.2.length)) (pc' := 86) cd_Se_writeEntries rfl rfl rfl rfl rfl (by decide) hR.2.1.1.1.1 hR.2.1.1.1.2 hR.2.1.2.1.1 ?_
    refine g_if2 (t := 115) (pc' := 89) cd_Se_writeEntries rfl rfl rfl (fun c86 => ?_) (fun c86 => ?_)
    · have c86 : (nI I.2.2.2.length) ≤ (nI i) := c86
      exact g_retv cd_Se_writeEntries rfl ⟨rfl, (kk _ (by simpa using hw) (fz_rfl _ _))⟩
    · have c86 : ¬ (nI I.2.2.2.length) ≤ (nI i) := c86
      exact absurd (nI_le hl (by omega)) c86
  | cons e R ih =>
    intro i B W hR hw hdr hi8 hW kk lv l0 l1 l2
    obtain ⟨he, hdr2⟩ := drop_cons hdr
    have hl := (List.getElem?_eq_some_iff.mp he).1
    have hc8 := hR.2.1.2.1.2
    refine g_ild (pc' := 79) cd_Se_writeEntries rfl (Or.inr ⟨_, rfl, rfl, rfl⟩) l2 rfl ?_
    refine g_ald (pc' := 80) cd_Se_writeEntries rfl (Or.inr ⟨_, rfl, rfl, rfl⟩) l0 rfl rfl ?_
    refine g_fR (c := 7) (k := 0) (x := (s + 1)) (pc' := 83) cd_Se_writeEntries rfl rfl rfl rfl rfl (by decide) hR.1.1.1 hR.1.1.2 hR.1.2 ?_
    refine g_fI (c := 2) (k := 1) (x := (nI I.2.2.2.length)) (pc' := 86) cd_Se_writeEntries rfl rfl rfl rfl rfl (by decide) hR.2.1.1.1.1 hR.2.1.1.1.2 hR.2.1.2.1.1 ?_
    refine g_if2 (t := 115) (pc' := 89) cd_Se_writeEntries rfl rfl rfl (fun c86 => ?_) (fun c86 => ?_)
    · have c86 : (nI I.2.2.2.length) ≤ (nI i) := c86
      exact absurd c86 (nI_ge hl (by omega))
    · have c86 : ¬ (nI I.2.2.2.length) ≤ (nI i) := c86
      refine g_ald (pc' := 90) cd_Se_writeEntries rfl (Or.inr ⟨_, rfl, rfl, rfl⟩) l1 rfl rfl ?_
      refine g_ald (pc' := 91) cd_Se_writeEntries rfl (Or.inr ⟨_, rfl, rfl, rfl⟩) l0 rfl rfl ?_
      refine g_fR (c := 7) (k := 0) (x := (s + 1)) (pc' := 94) cd_Se_writeEntries rfl rfl rfl rfl rfl (by decide) hR.1.1.1 hR.1.1.2 hR.1.2 ?_
      refine g_ild (pc' := 95) cd_Se_writeEntries rfl (Or.inr ⟨_, rfl, rfl, rfl⟩) l2 rfl ?_
      refine g_calli (pc' := 98) cd_Se_writeEntries rfl rfl rfl rfl rfl (tm_invV rfl rfl cd_In_leftKey rfl (Nat.le_of_ble_eq_true rfl) (by decide) hR.2.1.1.1.1 hR.2.1.1.1.2) (k_In_leftKey (RIn_ok hR.2.1) ?_)
      show bm_G _ _ _ 98 _ [.int (in_get B ((s + 1) + 1) I.2.2.2.length (nI i) 2), .ref sa] B _
      refine g_ald (pc' := 99) cd_Se_writeEntries rfl (Or.inr ⟨_, rfl, rfl, rfl⟩) l0 rfl rfl ?_
      refine g_fR (c := 7) (k := 0) (x := (s + 1)) (pc' := 102) cd_Se_writeEntries rfl rfl rfl rfl rfl (by decide) hR.1.1.1 hR.1.1.2 hR.1.2 ?_
      refine g_ild (pc' := 103) cd_Se_writeEntries rfl (Or.inr ⟨_, rfl, rfl, rfl⟩) l2 rfl ?_
      refine g_calli (pc' := 106) cd_Se_writeEntries rfl rfl rfl rfl rfl (tm_invV rfl rfl cd_In_leftPublic rfl (Nat.le_of_ble_eq_true rfl) (by decide) hR.2.1.1.1.1 hR.2.1.1.1.2) (k_In_leftPublic (RIn_ok hR.2.1) ?_)
      show bm_G _ _ _ 106 _ [.int (in_get B ((s + 1) + 1) I.2.2.2.length (nI i) 0), .int (in_get B ((s + 1) + 1) I.2.2.2.length (nI i) 2), .ref sa] B _
      refine g_callv (pc' := 109) cd_Se_writeEntries rfl rfl rfl rfl rfl (tm_invV rfl rfl cd_St_put rfl (Nat.le_of_ble_eq_true rfl) (by decide) hw.1.1.1.1.1 hw.1.1.1.1.2) (t_put hw (by simp at hW; omega) (lf_get hR.2.1 he).1 (lf_get hR.2.1 he).2 (fun B1 hw1 hz1 => ?_))
      show bm_G _ _ _ 109 _ [] B1 _
      refine g_inc (y := nI (i + 1)) (pc' := 112) cd_Se_writeEntries rfl l2 (by decide) (nI_add i 1) rfl (fun lv el => ?_)
      have l0 := tm_lk el l0 rfl (by decide)
      have l1 := tm_lk el l1 rfl (by decide)
      have l2 : lv.lookup 2 = some (.int (nI (i + 1))) := tm_lks el
      clear el
      refine g_pure (pc' := 78) (st' := []) cd_Se_writeEntries rfl rfl (fun _ _ => rfl) ?_
      exact ih (i + 1) B1 _ (RSe_fr hR hz1.1 (fun q => by unfold stx at q; omega) (fun q => by unfold stx at q; omega) (fun q => by unfold stx at q; omega) (List.prefix_refl T)) hw1 hdr2 (by omega) (by simp at hW ⊢; omega) (fun B2 hw2 hz2 => kk B2 (by simpa using hw2) (fz_trans hz1 hz2)) lv l0 l1 l2
set_option maxRecDepth 100000 in
theorem t_Sw {sc : tm_X} {d : Nat} {sa s : Nat} {B : bm_H} {T : List Tm} {p : Bool} {P : EN2} {c : Option Nat} {dn : Bool} {S : SS} {W : EN2} {Q : bm_H → Prop} (h0 : T0 T) (hd : s + 2 < sa ∨ sa + 5 < s) (hR0 : RSe B T s S) (hw0 : RSw B T sa p P c dn W) (hW : W.length + (se_en S).length ≤ 536) (kk : ∀ B', RSw B' T sa p P c dn (W ++ se_en S) → fz (stx sa) B B' → Q B') : bm_Gv sc (d + 2) 50 [.ref s, .ref sa] B Q := by
  obtain ⟨I, xb, xr, xm, xs, n, b, br, bp, bo, on⟩ := S
  have hR := hR0
  have hw := hw0
  simp only [se_en, List.length_append, List.length_cons, List.length_nil, List.length_map] at hW
  show bm_G sc (d + 2) 50 0 [(0, .ref s), (1, .ref sa)] [] B _
  generalize elv : ([(0, .ref s), (1, .ref sa)] : tm_L) = lv
  have l0 : lv.lookup 0 = some (.ref s) := by rw [← elv]; rfl
  have l1 : lv.lookup 1 = some (.ref sa) := by rw [← elv]; rfl
  clear elv
  refine g_ald (pc' := 1) cd_Se_writeEntries rfl (Or.inr ⟨_, rfl, rfl, rfl⟩) l1 rfl rfl ?_
  refine g_ald (pc' := 2) cd_Se_writeEntries rfl (Or.inr ⟨_, rfl, rfl, rfl⟩) l0 rfl rfl ?_
  refine g_fI (c := 7) (k := 1) (x := (bm_FI B 7 1 s)) (pc' := 5) cd_Se_writeEntries rfl rfl rfl rfl rfl (by decide) hR.1.1.1 hR.1.1.2 rfl ?_
  refine g_k1 (v := 0) (pc' := 6) cd_Se_writeEntries rfl (by decide) rfl ?_
  refine g_callv (pc' := 9) cd_Se_writeEntries rfl rfl rfl rfl rfl (tm_invV rfl rfl cd_St_put rfl (Nat.le_of_ble_eq_true rfl) (by decide) hw.1.1.1.1.1 hw.1.1.1.1.2) (t_put hw (by  first | omega | (simp only [List.length_append, List.length_cons, List.length_nil]; omega)) hR.2.2.1.1 h0.1 (fun B1 hw1 hz1 => ?_))
  have hR1 := RSe_fr hR hz1.1 (fun q => by unfold stx at q; omega) (fun q => by unfold stx at q; omega) (fun q => by unfold stx at q; omega) (List.prefix_refl T)
  show bm_G _ _ _ 9 _ [] B1 _
  refine g_ald (pc' := 10) cd_Se_writeEntries rfl (Or.inr ⟨_, rfl, rfl, rfl⟩) l1 rfl rfl ?_
  refine g_ald (pc' := 11) cd_Se_writeEntries rfl (Or.inr ⟨_, rfl, rfl, rfl⟩) l0 rfl rfl ?_
  refine g_fI (c := 7) (k := 2) (x := (bm_FI B1 7 2 s)) (pc' := 14) cd_Se_writeEntries rfl rfl rfl rfl rfl (by decide) hR1.1.1.1 hR1.1.1.2 rfl ?_
  refine g_k1 (v := 0) (pc' := 15) cd_Se_writeEntries rfl (by decide) rfl ?_
  refine g_callv (pc' := 18) cd_Se_writeEntries rfl rfl rfl rfl rfl (tm_invV rfl rfl cd_St_put rfl (Nat.le_of_ble_eq_true rfl) (by decide) hw1.1.1.1.1.1 hw1.1.1.1.1.2) (t_put hw1 (by  first | omega | (simp only [List.length_append, List.length_cons, List.length_nil]; omega)) hR1.2.2.1.2.1 h0.1 (fun B2 hw2 hz2 => ?_))
  have hR2 := RSe_fr hR1 hz2.1 (fun q => by unfold stx at q; omega) (fun q => by unfold stx at q; omega) (fun q => by unfold stx at q; omega) (List.prefix_refl T)
  show bm_G _ _ _ 18 _ [] B2 _
  refine g_ald (pc' := 19) cd_Se_writeEntries rfl (Or.inr ⟨_, rfl, rfl, rfl⟩) l1 rfl rfl ?_
  refine g_ald (pc' := 20) cd_Se_writeEntries rfl (Or.inr ⟨_, rfl, rfl, rfl⟩) l0 rfl rfl ?_
  refine g_fI (c := 7) (k := 3) (x := (bm_FI B2 7 3 s)) (pc' := 23) cd_Se_writeEntries rfl rfl rfl rfl rfl (by decide) hR2.1.1.1 hR2.1.1.2 rfl ?_
  refine g_k1 (v := 0) (pc' := 24) cd_Se_writeEntries rfl (by decide) rfl ?_
  refine g_callv (pc' := 27) cd_Se_writeEntries rfl rfl rfl rfl rfl (tm_invV rfl rfl cd_St_put rfl (Nat.le_of_ble_eq_true rfl) (by decide) hw2.1.1.1.1.1 hw2.1.1.1.1.2) (t_put hw2 (by  first | omega | (simp only [List.length_append, List.length_cons, List.length_nil]; omega)) hR2.2.2.1.2.2.1 h0.1 (fun B3 hw3 hz3 => ?_))
  have hR3 := RSe_fr hR2 hz3.1 (fun q => by unfold stx at q; omega) (fun q => by unfold stx at q; omega) (fun q => by unfold stx at q; omega) (List.prefix_refl T)
  show bm_G _ _ _ 27 _ [] B3 _
  refine g_ald (pc' := 28) cd_Se_writeEntries rfl (Or.inr ⟨_, rfl, rfl, rfl⟩) l1 rfl rfl ?_
  refine g_ald (pc' := 29) cd_Se_writeEntries rfl (Or.inr ⟨_, rfl, rfl, rfl⟩) l0 rfl rfl ?_
  refine g_fR (c := 7) (k := 0) (x := (s + 1)) (pc' := 32) cd_Se_writeEntries rfl rfl rfl rfl rfl (by decide) hR3.1.1.1 hR3.1.1.2 hR3.1.2 ?_
  refine g_fI (c := 2) (k := 2) (x := (bm_FI B3 2 2 (s + 1))) (pc' := 35) cd_Se_writeEntries rfl rfl rfl rfl rfl (by decide) hR3.2.1.1.1.1 hR3.2.1.1.1.2 rfl ?_
  refine g_callv (pc' := 38) cd_Se_writeEntries rfl rfl rfl rfl rfl (tm_invV rfl rfl cd_St_putIfAny rfl (Nat.le_of_ble_eq_true rfl) (by decide) hw3.1.1.1.1.1 hw3.1.1.1.1.2) (t_putIfAny h0 hw3 (by  first | omega | (simp only [List.length_append, List.length_cons, List.length_nil]; omega)) hR3.2.1.2.2.1.1 (fun B4 hw4 hz4 => ?_))
  have hR4 := RSe_fr hR3 hz4.1 (fun q => by unfold stx at q; omega) (fun q => by unfold stx at q; omega) (fun q => by unfold stx at q; omega) (List.prefix_refl T)
  show bm_G _ _ _ 38 _ [] B4 _
  refine g_ald (pc' := 39) cd_Se_writeEntries rfl (Or.inr ⟨_, rfl, rfl, rfl⟩) l1 rfl rfl ?_
  refine g_ald (pc' := 40) cd_Se_writeEntries rfl (Or.inr ⟨_, rfl, rfl, rfl⟩) l0 rfl rfl ?_
  refine g_fI (c := 7) (k := 4) (x := (bm_FI B4 7 4 s)) (pc' := 43) cd_Se_writeEntries rfl rfl rfl rfl rfl (by decide) hR4.1.1.1 hR4.1.1.2 rfl ?_
  refine g_callv (pc' := 46) cd_Se_writeEntries rfl rfl rfl rfl rfl (tm_invV rfl rfl cd_St_putIfAny rfl (Nat.le_of_ble_eq_true rfl) (by decide) hw4.1.1.1.1.1 hw4.1.1.1.1.2) (t_putIfAny h0 hw4 (by  first | omega | (simp only [List.length_append, List.length_cons, List.length_nil]; omega)) hR4.2.2.1.2.2.2 (fun B5 hw5 hz5 => ?_))
  have hR5 := RSe_fr hR4 hz5.1 (fun q => by unfold stx at q; omega) (fun q => by unfold stx at q; omega) (fun q => by unfold stx at q; omega) (List.prefix_refl T)
  show bm_G _ _ _ 46 _ [] B5 _
  refine g_ald (pc' := 47) cd_Se_writeEntries rfl (Or.inr ⟨_, rfl, rfl, rfl⟩) l1 rfl rfl ?_
  refine g_ald (pc' := 48) cd_Se_writeEntries rfl (Or.inr ⟨_, rfl, rfl, rfl⟩) l0 rfl rfl ?_
  refine g_fR (c := 7) (k := 0) (x := (s + 1)) (pc' := 51) cd_Se_writeEntries rfl rfl rfl rfl rfl (by decide) hR5.1.1.1 hR5.1.1.2 hR5.1.2 ?_
  refine g_fI (c := 2) (k := 3) (x := (bm_FI B5 2 3 (s + 1))) (pc' := 54) cd_Se_writeEntries rfl rfl rfl rfl rfl (by decide) hR5.2.1.1.1.1 hR5.2.1.1.1.2 rfl ?_
  refine g_callv (pc' := 57) cd_Se_writeEntries rfl rfl rfl rfl rfl (tm_invV rfl rfl cd_St_putIfAny rfl (Nat.le_of_ble_eq_true rfl) (by decide) hw5.1.1.1.1.1 hw5.1.1.1.1.2) (t_putIfAny h0 hw5 (by  first | omega | (simp only [List.length_append, List.length_cons, List.length_nil]; omega)) hR5.2.1.2.2.1.2.1 (fun B6 hw6 hz6 => ?_))
  have hR6 := RSe_fr hR5 hz6.1 (fun q => by unfold stx at q; omega) (fun q => by unfold stx at q; omega) (fun q => by unfold stx at q; omega) (List.prefix_refl T)
  show bm_G _ _ _ 57 _ [] B6 _
  refine g_ald (pc' := 58) cd_Se_writeEntries rfl (Or.inr ⟨_, rfl, rfl, rfl⟩) l0 rfl rfl ?_
  refine g_fI (c := 7) (k := 7) (x := bz br) (pc' := 61) cd_Se_writeEntries rfl rfl rfl rfl rfl (by decide) hR6.1.1.1 hR6.1.1.2 hR6.2.2.2.2.1.1 ?_
  refine g_if1 (t := 76) (pc' := 64) cd_Se_writeEntries rfl rfl rfl (fun c61 => ?_) (fun c61 => ?_)
  · have c61 : br = false := bz_f c61
    have hbr : br = false := c61
    refine g_k1 (v := 0) (pc' := 77) cd_Se_writeEntries rfl (by decide) rfl ?_
    refine g_ist (pc' := 78) cd_Se_writeEntries rfl (Or.inr ⟨_, rfl, rfl, rfl⟩) (by decide) rfl (fun lv el => ?_)
    have l0 := tm_lk el l0 rfl (by decide)
    have l1 := tm_lk el l1 rfl (by decide)
    have l2 : lv.lookup 2 = some (.int 0) := tm_lks el
    clear el
    exact l_Sw h0 hd I.2.2.2 0 _ _ hR6 hw6 rfl (by omega) (by simp only [List.length_append, List.length_cons, List.length_nil]; rw [hbr] at hW; simp at hW; omega) (fun Bq hwq hzq => kk Bq (by simpa [se_en, hbr, List.append_assoc] using hwq) (fz_trans (fz_trans (fz_trans (fz_trans (fz_trans (fz_trans hz1 hz2) hz3) hz4) hz5) hz6) hzq)) lv l0 l1 l2
  · have c61 : br = true := bz_t c61
    have hbr : br = true := c61
    refine g_ald (pc' := 65) cd_Se_writeEntries rfl (Or.inr ⟨_, rfl, rfl, rfl⟩) l1 rfl rfl ?_
    refine g_ald (pc' := 66) cd_Se_writeEntries rfl (Or.inr ⟨_, rfl, rfl, rfl⟩) l0 rfl rfl ?_
    refine g_fI (c := 7) (k := 8) (x := (bm_FI B6 7 8 s)) (pc' := 69) cd_Se_writeEntries rfl rfl rfl rfl rfl (by decide) hR6.1.1.1 hR6.1.1.2 rfl ?_
    refine g_ald (pc' := 70) cd_Se_writeEntries rfl (Or.inr ⟨_, rfl, rfl, rfl⟩) l0 rfl rfl ?_
    refine g_fI (c := 7) (k := 9) (x := (bm_FI B6 7 9 s)) (pc' := 73) cd_Se_writeEntries rfl rfl rfl rfl rfl (by decide) hR6.1.1.1 hR6.1.1.2 rfl ?_
    refine g_callv (pc' := 76) cd_Se_writeEntries rfl rfl rfl rfl rfl (tm_invV rfl rfl cd_St_put rfl (Nat.le_of_ble_eq_true rfl) (by decide) hw6.1.1.1.1.1 hw6.1.1.1.1.2) (t_put hw6 (by rw [if_pos hbr] at hW; simp only [List.length_cons, List.length_nil] at hW;  first | omega | (simp only [List.length_append, List.length_cons, List.length_nil]; omega)) (hR6.2.2.2.2.1.2 hbr).1 (hR6.2.2.2.2.1.2 hbr).2 (fun B7 hw7 hz7 => ?_))
    have hR7 := RSe_fr hR6 hz7.1 (fun q => by unfold stx at q; omega) (fun q => by unfold stx at q; omega) (fun q => by unfold stx at q; omega) (List.prefix_refl T)
    show bm_G _ _ _ 76 _ [] B7 _
    refine g_k1 (v := 0) (pc' := 77) cd_Se_writeEntries rfl (by decide) rfl ?_
    refine g_ist (pc' := 78) cd_Se_writeEntries rfl (Or.inr ⟨_, rfl, rfl, rfl⟩) (by decide) rfl (fun lv el => ?_)
    have l0 := tm_lk el l0 rfl (by decide)
    have l1 := tm_lk el l1 rfl (by decide)
    have l2 : lv.lookup 2 = some (.int 0) := tm_lks el
    clear el
    exact l_Sw h0 hd I.2.2.2 0 _ _ hR7 hw7 rfl (by omega) (by simp only [List.length_append, List.length_cons, List.length_nil]; rw [hbr] at hW; simp at hW; omega) (fun Bq hwq hzq => kk Bq (by simpa [se_en, hbr, List.append_assoc] using hwq) (fz_trans (fz_trans (fz_trans (fz_trans (fz_trans (fz_trans (fz_trans hz1 hz2) hz3) hz4) hz5) hz6) hz7) hzq)) lv l0 l1 l2
theorem l_Gw {sc : tm_X} {d : Nat} {sa y : Nat} {T : List Tm} {p : Bool} {P : EN2} {c : Option Nat} {dn : Bool} {G : GV} {Q : bm_H → Prop} (h0 : T0 T) (hd : y + 2 < sa ∨ sa + 5 < y) : ∀ (R : List (Tm × Int32 × Tm)) (i : Nat) (B : bm_H) (W : EN2), RGv B T y G → RSw B T sa p P c dn W → G.1.2.2.2.drop i = R → i ≤ 8 → W.length + R.length ≤ 536 → (∀ B', RSw B' T sa p P c dn (W ++ R.map (fun e => (e.2.2, tz))) → fz (stx sa) B B' → Q B') → ∀ lv : tm_L, lv.lookup 0 = some (.ref y) → lv.lookup 1 = some (.ref sa) → lv.lookup 2 = some (.int (nI i)) → bm_G sc (d + 1) 55 20 lv [] B (fun r B' => r = none ∧ Q B') := by
  intro R
  induction R with
  | nil =>
    intro i B W hR hw hdr hi8 hW kk lv l0 l1 l2
    have hl := drop_nil hdr
    have hc8 := hR.2.1.2.1.2
    refine g_ild (pc' := 21) cd_Gi_writeEntries rfl (Or.inr ⟨_, rfl, rfl, rfl⟩) l2 rfl ?_
    refine g_ald (pc' := 22) cd_Gi_writeEntries rfl (Or.inr ⟨_, rfl, rfl, rfl⟩) l0 rfl rfl ?_
    refine g_fR (c := 1) (k := 0) (x := (y + 1)) (pc' := 25) cd_Gi_writeEntries rfl rfl rfl rfl rfl (by decide) hR.1.1.1 hR.1.1.2 hR.1.2 ?_
    refine g_fI (c := 2) (k := 1) (x := (nI G.1.2.2.2.length)) (pc' := 28) cd_Gi_writeEntries rfl rfl rfl rfl rfl (by decide) hR.2.1.1.1.1 hR.2.1.1.1.2 hR.2.1.2.1.1 ?_
    refine g_if2 (t := 50) (pc' := 31) cd_Gi_writeEntries rfl rfl rfl (fun c28 => ?_) (fun c28 => ?_)
    · have c28 : (nI G.1.2.2.2.length) ≤ (nI i) := c28
      exact g_retv cd_Gi_writeEntries rfl ⟨rfl, (kk _ (by simpa using hw) (fz_rfl _ _))⟩
    · have c28 : ¬ (nI G.1.2.2.2.length) ≤ (nI i) := c28
      exact absurd (nI_le hl (by omega)) c28
  | cons e R ih =>
    intro i B W hR hw hdr hi8 hW kk lv l0 l1 l2
    obtain ⟨he, hdr2⟩ := drop_cons hdr
    have hl := (List.getElem?_eq_some_iff.mp he).1
    have hc8 := hR.2.1.2.1.2
    refine g_ild (pc' := 21) cd_Gi_writeEntries rfl (Or.inr ⟨_, rfl, rfl, rfl⟩) l2 rfl ?_
    refine g_ald (pc' := 22) cd_Gi_writeEntries rfl (Or.inr ⟨_, rfl, rfl, rfl⟩) l0 rfl rfl ?_
    refine g_fR (c := 1) (k := 0) (x := (y + 1)) (pc' := 25) cd_Gi_writeEntries rfl rfl rfl rfl rfl (by decide) hR.1.1.1 hR.1.1.2 hR.1.2 ?_
    refine g_fI (c := 2) (k := 1) (x := (nI G.1.2.2.2.length)) (pc' := 28) cd_Gi_writeEntries rfl rfl rfl rfl rfl (by decide) hR.2.1.1.1.1 hR.2.1.1.1.2 hR.2.1.2.1.1 ?_
    refine g_if2 (t := 50) (pc' := 31) cd_Gi_writeEntries rfl rfl rfl (fun c28 => ?_) (fun c28 => ?_)
    · have c28 : (nI G.1.2.2.2.length) ≤ (nI i) := c28
      exact absurd c28 (nI_ge hl (by omega))
    · have c28 : ¬ (nI G.1.2.2.2.length) ≤ (nI i) := c28
      refine g_ald (pc' := 32) cd_Gi_writeEntries rfl (Or.inr ⟨_, rfl, rfl, rfl⟩) l1 rfl rfl ?_
      refine g_ald (pc' := 33) cd_Gi_writeEntries rfl (Or.inr ⟨_, rfl, rfl, rfl⟩) l0 rfl rfl ?_
      refine g_fR (c := 1) (k := 0) (x := (y + 1)) (pc' := 36) cd_Gi_writeEntries rfl rfl rfl rfl rfl (by decide) hR.1.1.1 hR.1.1.2 hR.1.2 ?_
      refine g_ild (pc' := 37) cd_Gi_writeEntries rfl (Or.inr ⟨_, rfl, rfl, rfl⟩) l2 rfl ?_
      refine g_calli (pc' := 40) cd_Gi_writeEntries rfl rfl rfl rfl rfl (tm_invV rfl rfl cd_In_leftKey rfl (Nat.le_of_ble_eq_true rfl) (by decide) hR.2.1.1.1.1 hR.2.1.1.1.2) (k_In_leftKey (RIn_ok hR.2.1) ?_)
      show bm_G _ _ _ 40 _ [.int (in_get B ((y + 1) + 1) G.1.2.2.2.length (nI i) 2), .ref sa] B _
      refine g_k1 (v := 0) (pc' := 41) cd_Gi_writeEntries rfl (by decide) rfl ?_
      refine g_callv (pc' := 44) cd_Gi_writeEntries rfl rfl rfl rfl rfl (tm_invV rfl rfl cd_St_put rfl (Nat.le_of_ble_eq_true rfl) (by decide) hw.1.1.1.1.1 hw.1.1.1.1.2) (t_put hw (by simp at hW; omega) (lf_get hR.2.1 he).1 h0.1 (fun B1 hw1 hz1 => ?_))
      show bm_G _ _ _ 44 _ [] B1 _
      refine g_inc (y := nI (i + 1)) (pc' := 47) cd_Gi_writeEntries rfl l2 (by decide) (nI_add i 1) rfl (fun lv el => ?_)
      have l0 := tm_lk el l0 rfl (by decide)
      have l1 := tm_lk el l1 rfl (by decide)
      have l2 : lv.lookup 2 = some (.int (nI (i + 1))) := tm_lks el
      clear el
      refine g_pure (pc' := 20) (st' := []) cd_Gi_writeEntries rfl rfl (fun _ _ => rfl) ?_
      exact ih (i + 1) B1 _ (RGv_fr hR hz1.1 (fun q => by unfold stx at q; omega) (fun q => by unfold stx at q; omega) (fun q => by unfold stx at q; omega) (List.prefix_refl T)) hw1 hdr2 (by omega) (by simp at hW ⊢; omega) (fun B2 hw2 hz2 => kk B2 (by simpa using hw2) (fz_trans hz1 hz2)) lv l0 l1 l2
theorem t_Gw {sc : tm_X} {d : Nat} {sa y : Nat} {B : bm_H} {T : List Tm} {p : Bool} {P : EN2} {c : Option Nat} {dn : Bool} {G : GV} {W : EN2} {Q : bm_H → Prop} (h0 : T0 T) (hd : y + 2 < sa ∨ sa + 5 < y) (hR : RGv B T y G) (hw : RSw B T sa p P c dn W) (hW : W.length + (gv_en G).length ≤ 536) (kk : ∀ B', RSw B' T sa p P c dn (W ++ gv_en G) → fz (stx sa) B B' → Q B') : bm_Gv sc (d + 1) 55 [.ref y, .ref sa] B Q := by
  simp only [gv_en, List.length_cons, List.length_map] at hW
  show bm_G sc (d + 1) 55 0 [(0, .ref y), (1, .ref sa)] [] B _
  generalize elv : ([(0, .ref y), (1, .ref sa)] : tm_L) = lv
  have l0 : lv.lookup 0 = some (.ref y) := by rw [← elv]; rfl
  have l1 : lv.lookup 1 = some (.ref sa) := by rw [← elv]; rfl
  clear elv
  refine g_ald (pc' := 1) cd_Gi_writeEntries rfl (Or.inr ⟨_, rfl, rfl, rfl⟩) l1 rfl rfl ?_
  refine g_ald (pc' := 2) cd_Gi_writeEntries rfl (Or.inr ⟨_, rfl, rfl, rfl⟩) l0 rfl rfl ?_
  refine g_fR (c := 1) (k := 0) (x := (y + 1)) (pc' := 5) cd_Gi_writeEntries rfl rfl rfl rfl rfl (by decide) hR.1.1.1 hR.1.1.2 hR.1.2 ?_
  refine g_fI (c := 2) (k := 3) (x := (bm_FI B 2 3 (y + 1))) (pc' := 8) cd_Gi_writeEntries rfl rfl rfl rfl rfl (by decide) hR.2.1.1.1.1 hR.2.1.1.1.2 rfl ?_
  refine g_ald (pc' := 9) cd_Gi_writeEntries rfl (Or.inr ⟨_, rfl, rfl, rfl⟩) l0 rfl rfl ?_
  refine g_fR (c := 1) (k := 0) (x := (y + 1)) (pc' := 12) cd_Gi_writeEntries rfl rfl rfl rfl rfl (by decide) hR.1.1.1 hR.1.1.2 hR.1.2 ?_
  refine g_fI (c := 2) (k := 2) (x := (bm_FI B 2 2 (y + 1))) (pc' := 15) cd_Gi_writeEntries rfl rfl rfl rfl rfl (by decide) hR.2.1.1.1.1 hR.2.1.1.1.2 rfl ?_
  refine g_callv (pc' := 18) cd_Gi_writeEntries rfl rfl rfl rfl rfl (tm_invV rfl rfl cd_St_put rfl (Nat.le_of_ble_eq_true rfl) (by decide) hw.1.1.1.1.1 hw.1.1.1.1.2) (t_put hw (by omega) hR.2.1.2.2.1.2.1 hR.2.1.2.2.1.1 (fun B1 hw1 hz1 => ?_))
  have hR1 := RGv_fr hR hz1.1 (fun q => by unfold stx at q; omega) (fun q => by unfold stx at q; omega) (fun q => by unfold stx at q; omega) (List.prefix_refl T)
  show bm_G _ _ _ 18 _ [] B1 _
  refine g_k1 (v := 0) (pc' := 19) cd_Gi_writeEntries rfl (by decide) rfl ?_
  refine g_ist (pc' := 20) cd_Gi_writeEntries rfl (Or.inr ⟨_, rfl, rfl, rfl⟩) (by decide) rfl (fun lv el => ?_)
  have l0 := tm_lk el l0 rfl (by decide)
  have l1 := tm_lk el l1 rfl (by decide)
  have l2 : lv.lookup 2 = some (.int 0) := tm_lks el
  clear el
  exact l_Gw h0 hd G.1.2.2.2 0 _ _ hR1 hw1 rfl (by omega) (by simp only [List.length_append, List.length_cons, List.length_nil]; omega) (fun B2 hw2 hz2 => kk B2 (by simpa [gv_en] using hw2) (fz_trans hz1 hz2)) lv l0 l1 l2
theorem l_Pw {sc : tm_X} {d : Nat} {sa y : Nat} {T : List Tm} {p : Bool} {P : EN2} {c : Option Nat} {dn : Bool} {K : PK} {Q : bm_H → Prop} (h0 : T0 T) (hd : y + 1 < sa ∨ sa + 5 < y) : ∀ (R : List Tm) (i : Nat) (B : bm_H) (W : EN2), RPk B T y K → RSw B T sa p P c dn W → K.2.2.drop i = R → i ≤ 4 → W.length + R.length ≤ 536 → (∀ B', RSw B' T sa p P c dn (W ++ R.map (fun A => (A, tz))) → fz (stx sa) B B' → Q B') → ∀ lv : tm_L, lv.lookup 0 = some (.ref y) → lv.lookup 1 = some (.ref sa) → lv.lookup 2 = some (.int (nI i)) → bm_G sc (d + 1) 49 19 lv [] B (fun r B' => r = none ∧ Q B') := by
  intro R
  induction R with
  | nil =>
    intro i B W hR hw hdr hi4 hW kk lv l0 l1 l2
    have hl := drop_nil hdr
    have hc4 := hR.2.1.2.2.2
    refine g_ild (pc' := 20) cd_Pk_writeEntries rfl (Or.inr ⟨_, rfl, rfl, rfl⟩) l2 rfl ?_
    refine g_ald (pc' := 21) cd_Pk_writeEntries rfl (Or.inr ⟨_, rfl, rfl, rfl⟩) l0 rfl rfl ?_
    refine g_fI (c := 6) (k := 1) (x := (nI K.2.2.length)) (pc' := 24) cd_Pk_writeEntries rfl rfl rfl rfl rfl (by decide) hR.1.1.1 hR.1.1.2 hR.2.1.2.2.1 ?_
    refine g_if2 (t := 44) (pc' := 27) cd_Pk_writeEntries rfl rfl rfl (fun c24 => ?_) (fun c24 => ?_)
    · have c24 : (nI K.2.2.length) ≤ (nI i) := c24
      exact g_retv cd_Pk_writeEntries rfl ⟨rfl, (kk _ (by simpa using hw) (fz_rfl _ _))⟩
    · have c24 : ¬ (nI K.2.2.length) ≤ (nI i) := c24
      exact absurd (nI_le hl (by omega)) c24
  | cons e R ih =>
    intro i B W hR hw hdr hi4 hW kk lv l0 l1 l2
    obtain ⟨he, hdr2⟩ := drop_cons hdr
    have hl := (List.getElem?_eq_some_iff.mp he).1
    have hc4 := hR.2.1.2.2.2
    refine g_ild (pc' := 20) cd_Pk_writeEntries rfl (Or.inr ⟨_, rfl, rfl, rfl⟩) l2 rfl ?_
    refine g_ald (pc' := 21) cd_Pk_writeEntries rfl (Or.inr ⟨_, rfl, rfl, rfl⟩) l0 rfl rfl ?_
    refine g_fI (c := 6) (k := 1) (x := (nI K.2.2.length)) (pc' := 24) cd_Pk_writeEntries rfl rfl rfl rfl rfl (by decide) hR.1.1.1 hR.1.1.2 hR.2.1.2.2.1 ?_
    refine g_if2 (t := 44) (pc' := 27) cd_Pk_writeEntries rfl rfl rfl (fun c24 => ?_) (fun c24 => ?_)
    · have c24 : (nI K.2.2.length) ≤ (nI i) := c24
      exact absurd c24 (nI_ge hl (by omega))
    · have c24 : ¬ (nI K.2.2.length) ≤ (nI i) := c24
      refine g_ald (pc' := 28) cd_Pk_writeEntries rfl (Or.inr ⟨_, rfl, rfl, rfl⟩) l1 rfl rfl ?_
      refine g_ald (pc' := 29) cd_Pk_writeEntries rfl (Or.inr ⟨_, rfl, rfl, rfl⟩) l0 rfl rfl ?_
      refine g_fR (c := 6) (k := 0) (x := (y + 1)) (pc' := 32) cd_Pk_writeEntries rfl rfl rfl rfl rfl (by decide) hR.1.1.1 hR.1.1.2 hR.1.2.1 ?_
      refine g_ild (pc' := 33) cd_Pk_writeEntries rfl (Or.inr ⟨_, rfl, rfl, rfl⟩) l2 rfl ?_
      refine g_aI (x := ((bm_AI B (y + 1)) i)) (pc' := 34) cd_Pk_writeEntries rfl rfl hR.1.2.2.1 hR.1.2.2.2.1 (by rw [show bm_AL B (y + 1) = 4 from hR.1.2.2.2.2]; exact vp_in_nI (by omega) (by decide)) (by rw [show bm_AI B (y + 1) = (bm_AI B (y + 1)) from rfl]; exact congrArg (bm_AI B (y + 1)) (nI_clamp (n := i) (show (i : Nat) < 2 ^ 31 by omega))) ?_
      refine g_k1 (v := 0) (pc' := 35) cd_Pk_writeEntries rfl (by decide) rfl ?_
      refine g_callv (pc' := 38) cd_Pk_writeEntries rfl rfl rfl rfl rfl (tm_invV rfl rfl cd_St_put rfl (Nat.le_of_ble_eq_true rfl) (by decide) hw.1.1.1.1.1 hw.1.1.1.1.2) (t_put hw (by simp at hW; omega) (hR.2.2 i e he) h0.1 (fun B1 hw1 hz1 => ?_))
      show bm_G _ _ _ 38 _ [] B1 _
      refine g_inc (y := nI (i + 1)) (pc' := 41) cd_Pk_writeEntries rfl l2 (by decide) (nI_add i 1) rfl (fun lv el => ?_)
      have l0 := tm_lk el l0 rfl (by decide)
      have l1 := tm_lk el l1 rfl (by decide)
      have l2 : lv.lookup 2 = some (.int (nI (i + 1))) := tm_lks el
      clear el
      refine g_pure (pc' := 19) (st' := []) cd_Pk_writeEntries rfl rfl (fun _ _ => rfl) ?_
      exact ih (i + 1) B1 _ (RPk_fr hR hz1.1 (fun q => by unfold stx at q; omega) (fun q => by unfold stx at q; omega) (List.prefix_refl T)) hw1 hdr2 (by omega) (by simp at hW ⊢; omega) (fun B2 hw2 hz2 => kk B2 (by simpa using hw2) (fz_trans hz1 hz2)) lv l0 l1 l2
theorem t_Pw {sc : tm_X} {d : Nat} {sa y : Nat} {B : bm_H} {T : List Tm} {p : Bool} {P : EN2} {c : Option Nat} {dn : Bool} {K : PK} {W : EN2} {Q : bm_H → Prop} (h0 : T0 T) (hd : y + 1 < sa ∨ sa + 5 < y) (hR : RPk B T y K) (hw : RSw B T sa p P c dn W) (hW : W.length + (pk_en K).length ≤ 536) (kk : ∀ B', RSw B' T sa p P c dn (W ++ pk_en K) → fz (stx sa) B B' → Q B') : bm_Gv sc (d + 1) 49 [.ref y, .ref sa] B Q := by
  show bm_G sc (d + 1) 49 0 [(0, .ref y), (1, .ref sa)] [] B _
  generalize elv : ([(0, .ref y), (1, .ref sa)] : tm_L) = lv
  have l0 : lv.lookup 0 = some (.ref y) := by rw [← elv]; rfl
  have l1 : lv.lookup 1 = some (.ref sa) := by rw [← elv]; rfl
  clear elv
  refine g_ald (pc' := 1) cd_Pk_writeEntries rfl (Or.inr ⟨_, rfl, rfl, rfl⟩) l0 rfl rfl ?_
  refine g_fI (c := 6) (k := 3) (x := K.2.1) (pc' := 4) cd_Pk_writeEntries rfl rfl rfl rfl rfl (by decide) hR.1.1.1 hR.1.1.2 hR.2.1.2.1 ?_
  refine g_if1 (t := 8) (pc' := 7) cd_Pk_writeEntries rfl rfl rfl (fun c4 => ?_) (fun c4 => ?_)
  · have c4 : ¬ K.2.1 = 0 := c4
    refine g_ald (pc' := 9) cd_Pk_writeEntries rfl (Or.inr ⟨_, rfl, rfl, rfl⟩) l1 rfl rfl ?_
    refine g_ald (pc' := 10) cd_Pk_writeEntries rfl (Or.inr ⟨_, rfl, rfl, rfl⟩) l0 rfl rfl ?_
    refine g_fI (c := 6) (k := 2) (x := (bm_FI B 6 2 y)) (pc' := 13) cd_Pk_writeEntries rfl rfl rfl rfl rfl (by decide) hR.1.1.1 hR.1.1.2 rfl ?_
    refine g_k1 (v := 0) (pc' := 14) cd_Pk_writeEntries rfl (by decide) rfl ?_
    rw [show pk_en K = _ from if_neg c4] at hW
    simp only [List.length_cons, List.length_map] at hW
    refine g_callv (pc' := 17) cd_Pk_writeEntries rfl rfl rfl rfl rfl (tm_invV rfl rfl cd_St_put rfl (Nat.le_of_ble_eq_true rfl) (by decide) hw.1.1.1.1.1 hw.1.1.1.1.2) (t_put hw (by omega) hR.2.1.1 h0.1 (fun B1 hw1 hz1 => ?_))
    have hR1 := RPk_fr hR hz1.1 (fun q => by unfold stx at q; omega) (fun q => by unfold stx at q; omega) (List.prefix_refl T)
    show bm_G _ _ _ 17 _ [] B1 _
    refine g_k1 (v := 0) (pc' := 18) cd_Pk_writeEntries rfl (by decide) rfl ?_
    refine g_ist (pc' := 19) cd_Pk_writeEntries rfl (Or.inr ⟨_, rfl, rfl, rfl⟩) (by decide) rfl (fun lv el => ?_)
    have l0 := tm_lk el l0 rfl (by decide)
    have l1 := tm_lk el l1 rfl (by decide)
    have l2 : lv.lookup 2 = some (.int 0) := tm_lks el
    clear el
    exact l_Pw h0 hd K.2.2 0 _ _ hR1 hw1 rfl (by omega) (by simp only [List.length_append, List.length_cons, List.length_nil]; omega) (fun B2 hw2 hz2 => kk B2 (by rw [show pk_en K = _ from if_neg c4]; simpa using hw2) (fz_trans hz1 hz2)) lv l0 l1 l2
  · have c4 : K.2.1 = 0 := Classical.not_not.mp c4
    exact g_retv cd_Pk_writeEntries rfl ⟨rfl, (kk _ (by rw [show pk_en K = [] from if_pos c4, List.append_nil]; exact hw) (fz_rfl _ _))⟩
