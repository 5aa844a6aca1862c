/-! Copies -/
theorem AI_cp4 (B : bm_H) {a0 a1 i : Nat} (h : i < 4) : bm_AI (bm_allI B a1 (va_cpy (bm_AI B a0) (bm_AI B a1) 0 0 4)) a1 i = bm_AI B a0 i := by
  show (if a1 = a1 then va_cpy (bm_AI B a0) (bm_AI B a1) 0 0 4 i else _) = _
  rw [if_pos rfl, pk_cpy_in (by omega) (by omega)]
  congr 1
  omega
theorem len2 {α : Type} {l : List α} (h : l.length ≤ 2) : l = [] ∨ (∃ a, l = [a]) ∨ ∃ a b, l = [a, b] := by
  rcases l with _ | ⟨a, _ | ⟨b, l⟩⟩
  · exact Or.inl rfl
  · exact Or.inr (Or.inl ⟨a, rfl⟩)
  · have : l = [] := by simp at h; exact h
    subst this
    exact Or.inr (Or.inr ⟨a, b, rfl⟩)
theorem t_Pcopy {sc : tm_X} {d y z : Nat} {B : bm_H} {T : List Tm} {K K0 : PK} {Q : bm_H → Prop} (h0 : RPk B T y K0) (hR : RPk B T z K) (hd : y + 1 < z ∨ z + 1 < y) (kk : ∀ B', RPk B' T y K → fz (fun v => v = y ∨ v = y + 1) B B' → Q B') : bm_Gv sc (d + 1) 37 [.ref y, .ref z] B Q := by
  show bm_G sc (d + 1) 37 0 [(0, .ref y), (1, .ref z)] [] B _
  generalize elv : ([(0, .ref y), (1, .ref z)] : tm_L) = lv
  have l0 : lv.lookup 0 = some (.ref y) := by rw [← elv]; rfl
  have l1 : lv.lookup 1 = some (.ref z) := by rw [← elv]; rfl
  clear elv
  refine g_ald (pc' := 1) cd_Pk_copyFrom rfl (Or.inr ⟨_, rfl, rfl, rfl⟩) l0 rfl rfl ?_
  refine g_ald (pc' := 2) cd_Pk_copyFrom rfl (Or.inr ⟨_, rfl, rfl, rfl⟩) l1 rfl rfl ?_
  refine g_fI (c := 6) (k := 2) (x := (bm_FI B 6 2 z)) (pc' := 5) cd_Pk_copyFrom rfl rfl rfl rfl rfl (by decide) hR.1.1.1 hR.1.1.2 rfl ?_
  refine g_putI (c := 6) (k := 2) (pc' := 8) cd_Pk_copyFrom rfl rfl rfl rfl (by simp [tm_okV, narrow, fits]) (Or.inl rfl) rfl (by decide) h0.1.1.1 h0.1.1.2 ?_
  have P1 : bm_FI (bm_putI B 6 2 y (bm_FI B 6 2 z)) 6 2 y = (bm_FI B 6 2 z) := if_pos ⟨rfl, rfl, rfl⟩
  have Z2 : fz (fun v => v = y ∨ v = y + 1) B (bm_putI B 6 2 y (bm_FI B 6 2 z)) := fz_trans (fz_rfl _ B) ⟨fr_mono (fun _ q => Or.inl q) (fr_putI _ 6 2 y _), rfl, rfl⟩
  refine g_ald (pc' := 9) cd_Pk_copyFrom rfl (Or.inr ⟨_, rfl, rfl, rfl⟩) l0 rfl rfl ?_
  refine g_ald (pc' := 10) cd_Pk_copyFrom rfl (Or.inr ⟨_, rfl, rfl, rfl⟩) l1 rfl rfl ?_
  refine g_fI (c := 6) (k := 3) (x := (bm_FI B 6 3 z)) (pc' := 13) cd_Pk_copyFrom rfl rfl rfl rfl rfl (by decide) hR.1.1.1 hR.1.1.2 rfl ?_
  refine g_putI (c := 6) (k := 3) (pc' := 16) cd_Pk_copyFrom rfl rfl rfl rfl (by simp [tm_okV, narrow, fits]) (Or.inl rfl) rfl (by decide) h0.1.1.1 h0.1.1.2 ?_
  have P3 : bm_FI (bm_putI (bm_putI B 6 2 y (bm_FI B 6 2 z)) 6 3 y (bm_FI B 6 3 z)) 6 3 y = (bm_FI B 6 3 z) := if_pos ⟨rfl, rfl, rfl⟩
  have Z4 : fz (fun v => v = y ∨ v = y + 1) B (bm_putI (bm_putI B 6 2 y (bm_FI B 6 2 z)) 6 3 y (bm_FI B 6 3 z)) := fz_trans Z2 ⟨fr_mono (fun _ q => Or.inl q) (fr_putI _ 6 3 y _), rfl, rfl⟩
  refine g_ald (pc' := 17) cd_Pk_copyFrom rfl (Or.inr ⟨_, rfl, rfl, rfl⟩) l0 rfl rfl ?_
  refine g_ald (pc' := 18) cd_Pk_copyFrom rfl (Or.inr ⟨_, rfl, rfl, rfl⟩) l1 rfl rfl ?_
  refine g_fI (c := 6) (k := 1) (x := (bm_FI B 6 1 z)) (pc' := 21) cd_Pk_copyFrom rfl rfl rfl rfl rfl (by decide) hR.1.1.1 hR.1.1.2 rfl ?_
  refine g_putI (c := 6) (k := 1) (pc' := 24) cd_Pk_copyFrom rfl rfl rfl rfl (by simp [tm_okV, narrow, fits]) (Or.inl rfl) rfl (by decide) h0.1.1.1 h0.1.1.2 ?_
  have P5 : bm_FI (bm_putI (bm_putI (bm_putI B 6 2 y (bm_FI B 6 2 z)) 6 3 y (bm_FI B 6 3 z)) 6 1 y (bm_FI B 6 1 z)) 6 1 y = (bm_FI B 6 1 z) := if_pos ⟨rfl, rfl, rfl⟩
  have Z6 : fz (fun v => v = y ∨ v = y + 1) B (bm_putI (bm_putI (bm_putI B 6 2 y (bm_FI B 6 2 z)) 6 3 y (bm_FI B 6 3 z)) 6 1 y (bm_FI B 6 1 z)) := fz_trans Z4 ⟨fr_mono (fun _ q => Or.inl q) (fr_putI _ 6 1 y _), rfl, rfl⟩
  refine g_ald (pc' := 25) cd_Pk_copyFrom rfl (Or.inr ⟨_, rfl, rfl, rfl⟩) l1 rfl rfl ?_
  refine g_fR (c := 6) (k := 0) (x := (z + 1)) (pc' := 28) cd_Pk_copyFrom rfl rfl rfl rfl rfl (by decide) hR.1.1.1 hR.1.1.2 hR.1.2.1 ?_
  refine g_k1 (v := 0) (pc' := 29) cd_Pk_copyFrom rfl (by decide) rfl ?_
  refine g_ald (pc' := 30) cd_Pk_copyFrom rfl (Or.inr ⟨_, rfl, rfl, rfl⟩) l0 rfl rfl ?_
  refine g_fR (c := 6) (k := 0) (x := (y + 1)) (pc' := 33) cd_Pk_copyFrom rfl rfl rfl rfl rfl (by decide) h0.1.1.1 h0.1.1.2 h0.1.2.1 ?_
  refine g_k1 (v := 0) (pc' := 34) cd_Pk_copyFrom rfl (by decide) rfl ?_
  refine g_k1 (v := 4) (pc' := 35) cd_Pk_copyFrom rfl (by decide) rfl ?_
  refine g_copy (pc' := 38) cd_Pk_copyFrom rfl rfl rfl hR.1.2.2.1 hR.1.2.2.2.1 h0.1.2.2.1 h0.1.2.2.2.1 (by decide) (by decide) (by decide) (by rw [show bm_AL (bm_putI (bm_putI (bm_putI B 6 2 y (bm_FI B 6 2 z)) 6 3 y (bm_FI B 6 3 z)) 6 1 y (bm_FI B 6 1 z)) (z + 1) = 4 from hR.1.2.2.2.2]; decide) (by rw [show bm_AL (bm_putI (bm_putI (bm_putI B 6 2 y (bm_FI B 6 2 z)) 6 3 y (bm_FI B 6 3 z)) 6 1 y (bm_FI B 6 1 z)) (y + 1) = 4 from h0.1.2.2.2.2]; decide) rfl ?_
  show bm_G _ _ _ 38 _ _ (bm_allI (bm_putI (bm_putI (bm_putI B 6 2 y (bm_FI B 6 2 z)) 6 3 y (bm_FI B 6 3 z)) 6 1 y (bm_FI B 6 1 z)) (y + 1) (va_cpy (bm_AI (bm_putI (bm_putI (bm_putI B 6 2 y (bm_FI B 6 2 z)) 6 3 y (bm_FI B 6 3 z)) 6 1 y (bm_FI B 6 1 z)) (z + 1)) (bm_AI (bm_putI (bm_putI (bm_putI B 6 2 y (bm_FI B 6 2 z)) 6 3 y (bm_FI B 6 3 z)) 6 1 y (bm_FI B 6 1 z)) (y + 1)) 0 0 4)) _
  exact g_retv cd_Pk_copyFrom rfl ⟨rfl, (kk _ ⟨h0.1, ⟨tvq P1 hR.2.1.1, P3.trans hR.2.1.2.1, P5.trans hR.2.1.2.2.1, hR.2.1.2.2.2⟩, fun i A hA => by rw [AI_cp4 _ (by have := (List.getElem?_eq_some_iff.mp hA).1; have := hR.2.1.2.2.2; omega)]; exact hR.2.2 i A hA⟩ (fz_trans Z6 ⟨fr_mono (fun _ q => Or.inr q) (fr_allI _ (y + 1) _), rfl, rfl⟩))⟩
theorem t_Gcopy {sc : tm_X} {d s t : Nat} {B : bm_H} {T : List Tm} {G G0 : GV} {Q : bm_H → Prop} (h0 : RGv B T s G0) (hR : RGv B T t G) (hd : s + 2 < t ∨ t + 2 < s) (kk : ∀ B', RGv B' T s G → fz (fun y => y = s ∨ y = s + 1 ∨ y = s + 1 + 1) B B' → Q B') : bm_Gv sc (d + 2) 41 [.ref s, .ref t] B Q := by
  show bm_G sc (d + 2) 41 0 [(0, .ref s), (1, .ref t)] [] B _
  generalize elv : ([(0, .ref s), (1, .ref t)] : tm_L) = lv
  have l0 : lv.lookup 0 = some (.ref s) := by rw [← elv]; rfl
  have l1 : lv.lookup 1 = some (.ref t) := by rw [← elv]; rfl
  clear elv
  refine g_ald (pc' := 1) cd_Gi_copyFrom rfl (Or.inr ⟨_, rfl, rfl, rfl⟩) l0 rfl rfl ?_
  refine g_fR (c := 1) (k := 0) (x := (s + 1)) (pc' := 4) cd_Gi_copyFrom rfl rfl rfl rfl rfl (by decide) h0.1.1.1 h0.1.1.2 h0.1.2 ?_
  refine g_ald (pc' := 5) cd_Gi_copyFrom rfl (Or.inr ⟨_, rfl, rfl, rfl⟩) l1 rfl rfl ?_
  refine g_fR (c := 1) (k := 0) (x := (t + 1)) (pc' := 8) cd_Gi_copyFrom rfl rfl rfl rfl rfl (by decide) hR.1.1.1 hR.1.1.2 hR.1.2 ?_
  refine g_callv (pc' := 11) cd_Gi_copyFrom rfl rfl rfl rfl rfl (tm_invV rfl rfl cd_In_copyFrom rfl (Nat.le_of_ble_eq_true rfl) (by decide) h0.2.1.1.1.1 h0.2.1.1.1.2) (t_Icopy (RIn_ok h0.2.1) hR.2.1 (by omega) (fun B1 hR1 hz1 => ?_))
  have Z0 : fz (fun y => y = s ∨ y = s + 1 ∨ y = s + 1 + 1) B B1 := fz_mono (fun _ q => Or.inr q) hz1
  have f7_0 := fr_lt hz1.1 h0.1.1.1
  have g7_0 := (fr_K hz1.1 h0.1.1.1).trans h0.1.1.2
  have f7_1 := fr_lt hz1.1 hR.1.1.1
  have g7_1 := (fr_K hz1.1 hR.1.1.1).trans hR.1.1.2
  have f7_2 := fr_lt hz1.1 h0.2.1.1.1.1
  have g7_2 := (fr_K hz1.1 h0.2.1.1.1.1).trans h0.2.1.1.1.2
  have f7_3 := fr_lt hz1.1 hR.2.1.1.1.1
  have g7_3 := (fr_K hz1.1 hR.2.1.1.1.1).trans hR.2.1.1.1.2
  have q7_0 : bm_FI B1 1 1 t = G.2.1 := (fr_FI hz1.1 hR.1.1.1 (by omega) 1 1).trans hR.2.2.1
  have q7_1 : bm_FI B1 1 2 t = bz G.2.2 := (fr_FI hz1.1 hR.1.1.1 (by omega) 1 2).trans hR.2.2.2
  have r7_0 : bm_FR B1 1 0 s = some (s + 1) := (fr_FR hz1.1 h0.1.1.1 (by omega) 1 0).trans h0.1.2
  have r7_1 : bm_FR B1 1 0 t = some (t + 1) := (fr_FR hz1.1 hR.1.1.1 (by omega) 1 0).trans hR.1.2
  show bm_G _ _ _ 11 _ [] B1 _
  refine g_ald (pc' := 12) cd_Gi_copyFrom rfl (Or.inr ⟨_, rfl, rfl, rfl⟩) l0 rfl rfl ?_
  refine g_ald (pc' := 13) cd_Gi_copyFrom rfl (Or.inr ⟨_, rfl, rfl, rfl⟩) l1 rfl rfl ?_
  refine g_fI (c := 1) (k := 1) (x := G.2.1) (pc' := 16) cd_Gi_copyFrom rfl rfl rfl rfl rfl (by decide) f7_1 g7_1 q7_0 ?_
  refine g_putI (c := 1) (k := 1) (pc' := 19) cd_Gi_copyFrom rfl rfl rfl rfl (by simp [tm_okV, narrow, fits]) (Or.inl rfl) rfl (by decide) f7_0 g7_0 ?_
  have P8 : bm_FI (bm_putI B1 1 1 s G.2.1) 1 1 s = G.2.1 := if_pos ⟨rfl, rfl, rfl⟩
  have Z9 : fz (fun y => y = s) B1 (bm_putI B1 1 1 s G.2.1) := fz_trans (fz_rfl _ B1) ⟨fr_mono (fun _ q => q) (fr_putI _ 1 1 s _), rfl, rfl⟩
  refine g_ald (pc' := 20) cd_Gi_copyFrom rfl (Or.inr ⟨_, rfl, rfl, rfl⟩) l0 rfl rfl ?_
  refine g_ald (pc' := 21) cd_Gi_copyFrom rfl (Or.inr ⟨_, rfl, rfl, rfl⟩) l1 rfl rfl ?_
  refine g_fI (c := 1) (k := 2) (x := bz G.2.2) (pc' := 24) cd_Gi_copyFrom rfl rfl rfl rfl rfl (by decide) f7_1 g7_1 q7_1 ?_
  refine g_putI (c := 1) (k := 2) (pc' := 27) cd_Gi_copyFrom rfl rfl rfl rfl (by cases G.2.2 <;> decide) (Or.inl rfl) rfl (by decide) f7_0 g7_0 ?_
  have P10 : bm_FI (bm_putI (bm_putI B1 1 1 s G.2.1) 1 2 s (bz G.2.2)) 1 2 s = bz G.2.2 := if_pos ⟨rfl, rfl, rfl⟩
  have Z11 : fz (fun y => y = s) B1 (bm_putI (bm_putI B1 1 1 s G.2.1) 1 2 s (bz G.2.2)) := fz_trans Z9 ⟨fr_mono (fun _ q => q) (fr_putI _ 1 2 s _), rfl, rfl⟩
  exact g_retv cd_Gi_copyFrom rfl ⟨rfl, (kk _ ⟨⟨⟨f7_0, g7_0⟩, r7_0⟩, (RIn_fr hR1 Z11.1 (by omega) (by omega) (List.prefix_refl T)), P8, P10⟩ (fz_trans Z0 (fz_mono (fun _ q => Or.inl q) Z11)))⟩
theorem RGs_cp {B B' : bm_H} {T T' : List Tm} {m p : Nat} {w : Nat → Bool} {f : Nat → List GV} {l : List GV} {G0 G1 : GV} (hS : MeS B m) (hp : p < 6) (hf : ∀ q, q < 6 → RGs B T m w q (f q)) (h : fr (fun y => y = m + 1 ∨ (gA m w p 0 ≤ y ∧ y < gA m w p 0 + 3) ∨ (gA m w p 1 ≤ y ∧ y < gA m w p 1 + 3)) B B') (hA : bm_AI B' (m + 1) = upd (bm_AI B (m + 1)) p (nI l.length)) (h0 : RGv B' T' (gA m w p 0) G0) (h1 : RGv B' T' (gA m w p 1) G1) (hl : l = [G0, G1].take l.length) (hl2 : l.length ≤ 2) (hT : T <+: T') : ∀ q, q < 6 → RGs B' T' m w q (fset f p l q) := by
  intro q hq
  have i0 := gA_in m w hp (k := 0) (by decide)
  have i1 := gA_in m w hp (k := 1) (by decide)
  have j0 := gA_in m w hq (k := 0) (by decide)
  have j1 := gA_in m w hq (k := 1) (by decide)
  have e2 := fr_AR h hS.2.2.2.1 (by omega)
  by_cases c : q = p
  · subst c
    rw [fset_same]
    exact ⟨⟨by rw [hA]; simp [upd], hl2⟩, ⟨by rw [e2]; exact (hf q hq).2.1.1, by rw [e2]; exact (hf q hq).2.1.2⟩, G0, G1, h0, h1, hl⟩
  · rw [fset_ne c]
    obtain ⟨⟨a1, a2⟩, ⟨a3, a4⟩, X0, X1, b0, b1, b2⟩ := hf q hq
    have p00 := gA_pp m w w (p := p) (p' := q) (k := 0) (k' := 0) (fun e => c e.symm) (by decide) (by decide)
    have p01 := gA_pp m w w (p := p) (p' := q) (k := 0) (k' := 1) (fun e => c e.symm) (by decide) (by decide)
    have p10 := gA_pp m w w (p := p) (p' := q) (k := 1) (k' := 0) (fun e => c e.symm) (by decide) (by decide)
    have p11 := gA_pp m w w (p := p) (p' := q) (k := 1) (k' := 1) (fun e => c e.symm) (by decide) (by decide)
    exact ⟨⟨by rw [hA, pk_un c]; exact a1, a2⟩, ⟨by rw [e2]; exact a3, by rw [e2]; exact a4⟩, X0, X1, RGv_fr b0 h (by omega) (by omega) (by omega) hT, RGv_fr b1 h (by omega) (by omega) (by omega) hT, b2⟩
theorem l_Mc {sc : tm_X} {d m n p : Nat} {w w' : Nat → Bool} {f : Nat → List GV} {l : List GV} {B : bm_H} {T : List Tm} {Q : Option Value → bm_H → Prop} (hS : MeS B m) (hS' : MeS B n) (hp : p < 6) (hf : ∀ q, q < 6 → RGs B T m w q (f q)) (hl : RGs B T n w' p l) (hd : m + 38 < n ∨ n + 38 < m) (kk : ∀ B' (lv2 : tm_L), (∀ q, q < 6 → RGs B' T m w q (fset f p l q)) → fz (fun y => y = m + 1 ∨ (gA m w p 0 ≤ y ∧ y < gA m w p 0 + 3) ∨ (gA m w p 1 ≤ y ∧ y < gA m w p 1 + 3)) B B' → lv2.lookup 0 = some (.ref m) → lv2.lookup 1 = some (.ref n) → lv2.lookup 2 = some (.int (nI p)) → bm_G sc (d + 3) 40 133 lv2 [] B' Q) : ∀ lv : tm_L, lv.lookup 0 = some (.ref m) → lv.lookup 1 = some (.ref n) → lv.lookup 2 = some (.int (nI p)) → bm_G sc (d + 3) 40 80 lv [] B Q := by
  intro lv l0 l1 l2
  have im0 := gA_in m w hp (k := 0) (by decide)
  have im1 := gA_in m w hp (k := 1) (by decide)
  have in0 := gA_in n w' hp (k := 0) (by decide)
  have in1 := gA_in n w' hp (k := 1) (by decide)
  have i01 := gA_01 m w p
  obtain ⟨⟨a1, a2⟩, ⟨a3, a4⟩, X0, X1, b0, b1, b2⟩ := hf p hp
  obtain ⟨⟨c1, c2⟩, ⟨c3, c4⟩, Y0, Y1, e0, e1, e2⟩ := hl
  rcases len2 c2 with rfl | ⟨G0, rfl⟩ | ⟨G0, G1, rfl⟩
  · skip
    refine g_ald (pc' := 81) cd_Me_copyFrom rfl (Or.inr ⟨_, rfl, rfl, rfl⟩) l0 rfl rfl ?_
    refine g_fR (c := 5) (k := 0) (x := (m + 1)) (pc' := 84) cd_Me_copyFrom rfl rfl rfl rfl rfl (by decide) hS.1.1 hS.1.2 hS.2.1.1 ?_
    refine g_ild (pc' := 85) cd_Me_copyFrom rfl (Or.inr ⟨_, rfl, rfl, rfl⟩) l2 rfl ?_
    refine g_ald (pc' := 86) cd_Me_copyFrom rfl (Or.inr ⟨_, rfl, rfl, rfl⟩) l1 rfl rfl ?_
    refine g_fR (c := 5) (k := 0) (x := (n + 1)) (pc' := 89) cd_Me_copyFrom rfl rfl rfl rfl rfl (by decide) hS'.1.1 hS'.1.2 hS'.2.1.1 ?_
    refine g_ild (pc' := 90) cd_Me_copyFrom rfl (Or.inr ⟨_, rfl, rfl, rfl⟩) l2 rfl ?_
    refine g_aI (x := 0) (pc' := 91) cd_Me_copyFrom rfl rfl hS'.2.2.1.1 hS'.2.2.1.2.1 (by rw [show bm_AL B (n + 1) = 6 from hS'.2.2.1.2.2]; exact vp_in_nI (by omega) (by decide)) (by rw [nI_clamp (by omega)]; exact c1) ?_
    refine g_iast (pc' := 92) cd_Me_copyFrom rfl rfl hS.2.2.1.1 hS.2.2.1.2.1 (by rw [show bm_AL B (m + 1) = 6 from hS.2.2.1.2.2]; exact vp_in_nI (by omega) (by decide)) ?_
    rw [show (nI p : Int32).toNatClampNeg = p from nI_clamp (by omega)]
    have A12 : bm_AI (bm_setI B (m + 1) p 0) (m + 1) = (upd (bm_AI B (m + 1)) p 0) := ((AI_set B (m + 1) p 0).trans (congrArg (fun f => upd f p 0) (show bm_AI B (m + 1) = (bm_AI B (m + 1)) from rfl)))
    have A13 : bm_AI (bm_setI B (m + 1) p 0) (n + 1) = (bm_AI B (n + 1)) := ((AI_setn B p 0 (n + 1) (by omega)).trans (show bm_AI B (n + 1) = (bm_AI B (n + 1)) from rfl))
    have Z14 : fz (fun y => y = m + 1 ∨ (gA m w p 0 ≤ y ∧ y < gA m w p 0 + 3) ∨ (gA m w p 1 ≤ y ∧ y < gA m w p 1 + 3)) B (bm_setI B (m + 1) p 0) := fz_trans (fz_rfl _ B) ⟨fr_mono (fun _ q => Or.inl q) (fr_setI _ (m + 1) _ _), rfl, rfl⟩
    have hm0_15 : RGv (bm_setI B (m + 1) p 0) T _ _ := RGv_fr b0 (fr_setI B (m + 1) p _) (by omega) (by omega) (by omega) (List.prefix_refl T)
    have hm1_15 : RGv (bm_setI B (m + 1) p 0) T _ _ := RGv_fr b1 (fr_setI B (m + 1) p _) (by omega) (by omega) (by omega) (List.prefix_refl T)
    have hn0_15 : RGv (bm_setI B (m + 1) p 0) T _ _ := RGv_fr e0 (fr_setI B (m + 1) p _) (by omega) (by omega) (by omega) (List.prefix_refl T)
    have hn1_15 : RGv (bm_setI B (m + 1) p 0) T _ _ := RGv_fr e1 (fr_setI B (m + 1) p _) (by omega) (by omega) (by omega) (List.prefix_refl T)
    refine g_k1 (v := 0) (pc' := 93) cd_Me_copyFrom rfl (by decide) rfl ?_
    refine g_ist (pc' := 94) cd_Me_copyFrom rfl (Or.inr ⟨_, rfl, rfl, rfl⟩) (by decide) rfl (fun lv el => ?_)
    have l0 := tm_lk el l0 rfl (by decide)
    have l1 := tm_lk el l1 rfl (by decide)
    have l2 := tm_lk el l2 rfl (by decide)
    have l3 : lv.lookup 3 = some (.int 0) := tm_lks el
    clear el
    refine g_ild (pc' := 95) cd_Me_copyFrom rfl (Or.inr ⟨_, rfl, rfl, rfl⟩) l3 rfl ?_
    refine g_ald (pc' := 96) cd_Me_copyFrom rfl (Or.inr ⟨_, rfl, rfl, rfl⟩) l0 rfl rfl ?_
    refine g_fR (c := 5) (k := 0) (x := (m + 1)) (pc' := 99) cd_Me_copyFrom rfl rfl rfl rfl rfl (by decide) hS.1.1 hS.1.2 hS.2.1.1 ?_
    refine g_ild (pc' := 100) cd_Me_copyFrom rfl (Or.inr ⟨_, rfl, rfl, rfl⟩) l2 rfl ?_
    refine g_aI (x := 0) (pc' := 101) cd_Me_copyFrom rfl rfl hS.2.2.1.1 hS.2.2.1.2.1 (by rw [show bm_AL (bm_setI B (m + 1) p 0) (m + 1) = 6 from hS.2.2.1.2.2]; exact vp_in_nI (by omega) (by decide)) (by rw [show bm_AI (bm_setI B (m + 1) p 0) (m + 1) = (upd (bm_AI B (m + 1)) p 0) from A12, nI_clamp (by omega)]; exact if_pos rfl) ?_
    refine g_if2 (t := 133) (pc' := 104) cd_Me_copyFrom rfl rfl rfl (fun c101 => ?_) (fun c101 => ?_)
    · have c101 : (0 : Int32) ≤ 0 := c101
      exact kk _ lv (RGs_cp hS hp hf Z14.1 (show bm_AI _ (m + 1) = _ from A12) hm0_15 hm1_15 rfl (by simp) (List.prefix_refl T)) Z14 l0 l1 l2
    · exact absurd (show ¬ (0 : Int32) ≤ 0 from c101) (by decide)
  · skip
    have hG0 : Y0 = G0 := by simp at e2; exact e2.symm
    subst hG0
    refine g_ald (pc' := 81) cd_Me_copyFrom rfl (Or.inr ⟨_, rfl, rfl, rfl⟩) l0 rfl rfl ?_
    refine g_fR (c := 5) (k := 0) (x := (m + 1)) (pc' := 84) cd_Me_copyFrom rfl rfl rfl rfl rfl (by decide) hS.1.1 hS.1.2 hS.2.1.1 ?_
    refine g_ild (pc' := 85) cd_Me_copyFrom rfl (Or.inr ⟨_, rfl, rfl, rfl⟩) l2 rfl ?_
    refine g_ald (pc' := 86) cd_Me_copyFrom rfl (Or.inr ⟨_, rfl, rfl, rfl⟩) l1 rfl rfl ?_
    refine g_fR (c := 5) (k := 0) (x := (n + 1)) (pc' := 89) cd_Me_copyFrom rfl rfl rfl rfl rfl (by decide) hS'.1.1 hS'.1.2 hS'.2.1.1 ?_
    refine g_ild (pc' := 90) cd_Me_copyFrom rfl (Or.inr ⟨_, rfl, rfl, rfl⟩) l2 rfl ?_
    refine g_aI (x := 1) (pc' := 91) cd_Me_copyFrom rfl rfl hS'.2.2.1.1 hS'.2.2.1.2.1 (by rw [show bm_AL B (n + 1) = 6 from hS'.2.2.1.2.2]; exact vp_in_nI (by omega) (by decide)) (by rw [nI_clamp (by omega)]; exact c1) ?_
    refine g_iast (pc' := 92) cd_Me_copyFrom rfl rfl hS.2.2.1.1 hS.2.2.1.2.1 (by rw [show bm_AL B (m + 1) = 6 from hS.2.2.1.2.2]; exact vp_in_nI (by omega) (by decide)) ?_
    rw [show (nI p : Int32).toNatClampNeg = p from nI_clamp (by omega)]
    have A16 : bm_AI (bm_setI B (m + 1) p 1) (m + 1) = (upd (bm_AI B (m + 1)) p 1) := ((AI_set B (m + 1) p 1).trans (congrArg (fun f => upd f p 1) (show bm_AI B (m + 1) = (bm_AI B (m + 1)) from rfl)))
    have A17 : bm_AI (bm_setI B (m + 1) p 1) (n + 1) = (bm_AI B (n + 1)) := ((AI_setn B p 1 (n + 1) (by omega)).trans (show bm_AI B (n + 1) = (bm_AI B (n + 1)) from rfl))
    have Z18 : fz (fun y => y = m + 1 ∨ (gA m w p 0 ≤ y ∧ y < gA m w p 0 + 3) ∨ (gA m w p 1 ≤ y ∧ y < gA m w p 1 + 3)) B (bm_setI B (m + 1) p 1) := fz_trans (fz_rfl _ B) ⟨fr_mono (fun _ q => Or.inl q) (fr_setI _ (m + 1) _ _), rfl, rfl⟩
    have hm0_19 : RGv (bm_setI B (m + 1) p 1) T _ _ := RGv_fr b0 (fr_setI B (m + 1) p _) (by omega) (by omega) (by omega) (List.prefix_refl T)
    have hm1_19 : RGv (bm_setI B (m + 1) p 1) T _ _ := RGv_fr b1 (fr_setI B (m + 1) p _) (by omega) (by omega) (by omega) (List.prefix_refl T)
    have hn0_19 : RGv (bm_setI B (m + 1) p 1) T _ _ := RGv_fr e0 (fr_setI B (m + 1) p _) (by omega) (by omega) (by omega) (List.prefix_refl T)
    have hn1_19 : RGv (bm_setI B (m + 1) p 1) T _ _ := RGv_fr e1 (fr_setI B (m + 1) p _) (by omega) (by omega) (by omega) (List.prefix_refl T)
    refine g_k1 (v := 0) (pc' := 93) cd_Me_copyFrom rfl (by decide) rfl ?_
    refine g_ist (pc' := 94) cd_Me_copyFrom rfl (Or.inr ⟨_, rfl, rfl, rfl⟩) (by decide) rfl (fun lv el => ?_)
    have l0 := tm_lk el l0 rfl (by decide)
    have l1 := tm_lk el l1 rfl (by decide)
    have l2 := tm_lk el l2 rfl (by decide)
    have l3 : lv.lookup 3 = some (.int 0) := tm_lks el
    clear el
    refine g_ild (pc' := 95) cd_Me_copyFrom rfl (Or.inr ⟨_, rfl, rfl, rfl⟩) l3 rfl ?_
    refine g_ald (pc' := 96) cd_Me_copyFrom rfl (Or.inr ⟨_, rfl, rfl, rfl⟩) l0 rfl rfl ?_
    refine g_fR (c := 5) (k := 0) (x := (m + 1)) (pc' := 99) cd_Me_copyFrom rfl rfl rfl rfl rfl (by decide) hS.1.1 hS.1.2 hS.2.1.1 ?_
    refine g_ild (pc' := 100) cd_Me_copyFrom rfl (Or.inr ⟨_, rfl, rfl, rfl⟩) l2 rfl ?_
    refine g_aI (x := 1) (pc' := 101) cd_Me_copyFrom rfl rfl hS.2.2.1.1 hS.2.2.1.2.1 (by rw [show bm_AL (bm_setI B (m + 1) p 1) (m + 1) = 6 from hS.2.2.1.2.2]; exact vp_in_nI (by omega) (by decide)) (by rw [show bm_AI (bm_setI B (m + 1) p 1) (m + 1) = (upd (bm_AI B (m + 1)) p 1) from A16, nI_clamp (by omega)]; exact if_pos rfl) ?_
    refine g_if2 (t := 133) (pc' := 104) cd_Me_copyFrom rfl rfl rfl (fun c101 => ?_) (fun c101 => ?_)
    · exact absurd (show (1 : Int32) ≤ 0 from c101) (by decide)
    · have c101 : ¬ (1 : Int32) ≤ 0 := c101
      refine g_ald (pc' := 105) cd_Me_copyFrom rfl (Or.inr ⟨_, rfl, rfl, rfl⟩) l0 rfl rfl ?_
      refine g_fR (c := 5) (k := 1) (x := (m + 2)) (pc' := 108) cd_Me_copyFrom rfl rfl rfl rfl rfl (by decide) hS.1.1 hS.1.2 hS.2.1.2 ?_
      refine g_ild (pc' := 109) cd_Me_copyFrom rfl (Or.inr ⟨_, rfl, rfl, rfl⟩) l2 rfl ?_
      refine g_k1 (v := 2) (pc' := 110) cd_Me_copyFrom rfl (by decide) rfl ?_
      refine g_pure (pc' := 111) (st' := [.int ((nI p) * 2), .ref ((m + 2))]) cd_Me_copyFrom rfl rfl (fun _ _ => rfl) ?_
      rw [show ((nI p) * 2 : Int32) = nI (p * 2) from pk_mul p 2]
      refine g_ild (pc' := 112) cd_Me_copyFrom rfl (Or.inr ⟨_, rfl, rfl, rfl⟩) l3 rfl ?_
      refine g_pure (pc' := 113) (st' := [.int ((nI (p * 2)) + 0), .ref ((m + 2))]) cd_Me_copyFrom rfl rfl (fun _ _ => rfl) ?_
      rw [show ((nI (p * 2)) + 0 : Int32) = nI ((p * 2) + 0) from nI_add (p * 2) 0]
      refine g_aR (t := 7) (x := (gA m w p 0)) (pc' := 114) cd_Me_copyFrom rfl rfl hS.2.2.2.1 hS.2.2.2.2.1 (by decide) rfl rfl (by rw [show bm_AL (bm_setI B (m + 1) p 1) (m + 2) = 12 from hS.2.2.2.2.2]; exact vp_in_nI (by omega) (by decide)) (by rw [show bm_AR (bm_setI B (m + 1) p 1) (m + 2) = (bm_AR B (m + 2)) from rfl, nI_clamp (by omega), show p * 2 + 0 = 2 * p + 0 by omega]; exact a3) ?_
      refine g_ald (pc' := 115) cd_Me_copyFrom rfl (Or.inr ⟨_, rfl, rfl, rfl⟩) l1 rfl rfl ?_
      refine g_fR (c := 5) (k := 1) (x := (n + 2)) (pc' := 118) cd_Me_copyFrom rfl rfl rfl rfl rfl (by decide) hS'.1.1 hS'.1.2 hS'.2.1.2 ?_
      refine g_ild (pc' := 119) cd_Me_copyFrom rfl (Or.inr ⟨_, rfl, rfl, rfl⟩) l2 rfl ?_
      refine g_k1 (v := 2) (pc' := 120) cd_Me_copyFrom rfl (by decide) rfl ?_
      refine g_pure (pc' := 121) (st' := [.int ((nI p) * 2), .ref ((n + 2)), .ref ((gA m w p 0))]) cd_Me_copyFrom rfl rfl (fun _ _ => rfl) ?_
      rw [show ((nI p) * 2 : Int32) = nI (p * 2) from pk_mul p 2]
      refine g_ild (pc' := 122) cd_Me_copyFrom rfl (Or.inr ⟨_, rfl, rfl, rfl⟩) l3 rfl ?_
      refine g_pure (pc' := 123) (st' := [.int ((nI (p * 2)) + 0), .ref ((n + 2)), .ref ((gA m w p 0))]) cd_Me_copyFrom rfl rfl (fun _ _ => rfl) ?_
      rw [show ((nI (p * 2)) + 0 : Int32) = nI ((p * 2) + 0) from nI_add (p * 2) 0]
      refine g_aR (t := 7) (x := (gA n w' p 0)) (pc' := 124) cd_Me_copyFrom rfl rfl hS'.2.2.2.1 hS'.2.2.2.2.1 (by decide) rfl rfl (by rw [show bm_AL (bm_setI B (m + 1) p 1) (n + 2) = 12 from hS'.2.2.2.2.2]; exact vp_in_nI (by omega) (by decide)) (by rw [show bm_AR (bm_setI B (m + 1) p 1) (n + 2) = (bm_AR B (n + 2)) from rfl, nI_clamp (by omega), show p * 2 + 0 = 2 * p + 0 by omega]; exact c3) ?_
      refine g_callv (pc' := 127) cd_Me_copyFrom rfl rfl rfl rfl rfl (tm_invV rfl rfl cd_Gi_copyFrom rfl (Nat.le_of_ble_eq_true rfl) (by decide) hm0_19.1.1.1 hm0_19.1.1.2) (t_Gcopy hm0_19 hn0_19 (by omega) (fun B20 hG20 hz20 => ?_))
      have f21_0 := fr_lt hz20.1 hS.1.1
      have g21_0 := (fr_K hz20.1 hS.1.1).trans hS.1.2
      have f21_1 := fr_lt hz20.1 hS.2.2.1.1
      have g21_1 := (fr_K hz20.1 hS.2.2.1.1).trans hS.2.2.1.2.1
      have f21_2 := fr_lt hz20.1 hS.2.2.2.1
      have g21_2 := (fr_K hz20.1 hS.2.2.2.1).trans hS.2.2.2.2.1
      have f21_3 := fr_lt hz20.1 hS'.1.1
      have g21_3 := (fr_K hz20.1 hS'.1.1).trans hS'.1.2
      have f21_4 := fr_lt hz20.1 hS'.2.2.1.1
      have g21_4 := (fr_K hz20.1 hS'.2.2.1.1).trans hS'.2.2.1.2.1
      have f21_5 := fr_lt hz20.1 hS'.2.2.2.1
      have g21_5 := (fr_K hz20.1 hS'.2.2.2.1).trans hS'.2.2.2.2.1
      have r21_0 : bm_FR B20 5 0 m = some (m + 1) := (fr_FR hz20.1 hS.1.1 (by omega) 5 0).trans hS.2.1.1
      have r21_1 : bm_FR B20 5 1 m = some (m + 2) := (fr_FR hz20.1 hS.1.1 (by omega) 5 1).trans hS.2.1.2
      have r21_2 : bm_FR B20 5 0 n = some (n + 1) := (fr_FR hz20.1 hS'.1.1 (by omega) 5 0).trans hS'.2.1.1
      have r21_3 : bm_FR B20 5 1 n = some (n + 2) := (fr_FR hz20.1 hS'.1.1 (by omega) 5 1).trans hS'.2.1.2
      have u21_0 : bm_AI B20 (m + 1) = (upd (bm_AI B (m + 1)) p 1) := (fr_AI hz20.1 hS.2.2.1.1 (by omega)).trans A16
      have u21_1 : bm_AI B20 (n + 1) = (bm_AI B (n + 1)) := (fr_AI hz20.1 hS'.2.2.1.1 (by omega)).trans A17
      have v21_0 : bm_AR B20 (m + 2) = (bm_AR B (m + 2)) := (fr_AR hz20.1 hS.2.2.2.1 (by omega)).trans rfl
      have v21_1 : bm_AR B20 (n + 2) = (bm_AR B (n + 2)) := (fr_AR hz20.1 hS'.2.2.2.1 (by omega)).trans rfl
      have w21_0 : bm_AL B20 (m + 1) = 6 := (fr_AL hz20.1 hS.2.2.1.1).trans hS.2.2.1.2.2
      have w21_1 : bm_AL B20 (m + 2) = 12 := (fr_AL hz20.1 hS.2.2.2.1).trans hS.2.2.2.2.2
      have w21_2 : bm_AL B20 (n + 1) = 6 := (fr_AL hz20.1 hS'.2.2.1.1).trans hS'.2.2.1.2.2
      have w21_3 : bm_AL B20 (n + 2) = 12 := (fr_AL hz20.1 hS'.2.2.2.1).trans hS'.2.2.2.2.2
      have Z22 : fz (fun y => y = m + 1 ∨ (gA m w p 0 ≤ y ∧ y < gA m w p 0 + 3) ∨ (gA m w p 1 ≤ y ∧ y < gA m w p 1 + 3)) B B20 := fz_trans Z18 (fz_mono (fun _ q => by omega) hz20)
      have hm1_20 := RGv_fr hm1_19 hz20.1 (by omega) (by omega) (by omega) (List.prefix_refl T)
      have hn0_20 := RGv_fr hn0_19 hz20.1 (by omega) (by omega) (by omega) (List.prefix_refl T)
      have hn1_20 := RGv_fr hn1_19 hz20.1 (by omega) (by omega) (by omega) (List.prefix_refl T)
      show bm_G _ _ _ 127 _ [] B20 _
      refine g_inc (y := 1) (pc' := 130) cd_Me_copyFrom rfl l3 (by decide) (by decide) rfl (fun lv el => ?_)
      have l0 := tm_lk el l0 rfl (by decide)
      have l1 := tm_lk el l1 rfl (by decide)
      have l2 := tm_lk el l2 rfl (by decide)
      have l3 : lv.lookup 3 = some (.int 1) := tm_lks el
      clear el
      refine g_pure (pc' := 94) (st' := []) cd_Me_copyFrom rfl rfl (fun _ _ => rfl) ?_
      refine g_ild (pc' := 95) cd_Me_copyFrom rfl (Or.inr ⟨_, rfl, rfl, rfl⟩) l3 rfl ?_
      refine g_ald (pc' := 96) cd_Me_copyFrom rfl (Or.inr ⟨_, rfl, rfl, rfl⟩) l0 rfl rfl ?_
      refine g_fR (c := 5) (k := 0) (x := (m + 1)) (pc' := 99) cd_Me_copyFrom rfl rfl rfl rfl rfl (by decide) f21_0 g21_0 r21_0 ?_
      refine g_ild (pc' := 100) cd_Me_copyFrom rfl (Or.inr ⟨_, rfl, rfl, rfl⟩) l2 rfl ?_
      refine g_aI (x := 1) (pc' := 101) cd_Me_copyFrom rfl rfl f21_1 g21_1 (by rw [show bm_AL B20 (m + 1) = 6 from w21_0]; exact vp_in_nI (by omega) (by decide)) (by rw [show bm_AI B20 (m + 1) = (upd (bm_AI B (m + 1)) p 1) from u21_0, nI_clamp (by omega)]; exact if_pos rfl) ?_
      refine g_if2 (t := 133) (pc' := 104) cd_Me_copyFrom rfl rfl rfl (fun c101 => ?_) (fun c101 => ?_)
      · have c101 : (1 : Int32) ≤ 1 := c101
        exact kk _ lv (RGs_cp hS hp hf Z22.1 (show bm_AI _ (m + 1) = _ from u21_0) hG20 hm1_20 (by simp at e2 ⊢) (by simp) (List.prefix_refl T)) Z22 l0 l1 l2
      · exact absurd (show ¬ (1 : Int32) ≤ 1 from c101) (by decide)
  · skip
    have hG0 : Y0 = G0 := by simp at e2; exact e2.1.symm
    have hG1 : Y1 = G1 := by simp at e2; exact e2.2.symm
    subst hG0
    subst hG1
    refine g_ald (pc' := 81) cd_Me_copyFrom rfl (Or.inr ⟨_, rfl, rfl, rfl⟩) l0 rfl rfl ?_
    refine g_fR (c := 5) (k := 0) (x := (m + 1)) (pc' := 84) cd_Me_copyFrom rfl rfl rfl rfl rfl (by decide) hS.1.1 hS.1.2 hS.2.1.1 ?_
    refine g_ild (pc' := 85) cd_Me_copyFrom rfl (Or.inr ⟨_, rfl, rfl, rfl⟩) l2 rfl ?_
    refine g_ald (pc' := 86) cd_Me_copyFrom rfl (Or.inr ⟨_, rfl, rfl, rfl⟩) l1 rfl rfl ?_
    refine g_fR (c := 5) (k := 0) (x := (n + 1)) (pc' := 89) cd_Me_copyFrom rfl rfl rfl rfl rfl (by decide) hS'.1.1 hS'.1.2 hS'.2.1.1 ?_
    refine g_ild (pc' := 90) cd_Me_copyFrom rfl (Or.inr ⟨_, rfl, rfl, rfl⟩) l2 rfl ?_
    refine g_aI (x := 2) (pc' := 91) cd_Me_copyFrom rfl rfl hS'.2.2.1.1 hS'.2.2.1.2.1 (by rw [show bm_AL B (n + 1) = 6 from hS'.2.2.1.2.2]; exact vp_in_nI (by omega) (by decide)) (by rw [nI_clamp (by omega)]; exact c1) ?_
    refine g_iast (pc' := 92) cd_Me_copyFrom rfl rfl hS.2.2.1.1 hS.2.2.1.2.1 (by rw [show bm_AL B (m + 1) = 6 from hS.2.2.1.2.2]; exact vp_in_nI (by omega) (by decide)) ?_
    rw [show (nI p : Int32).toNatClampNeg = p from nI_clamp (by omega)]
    have A23 : bm_AI (bm_setI B (m + 1) p 2) (m + 1) = (upd (bm_AI B (m + 1)) p 2) := ((AI_set B (m + 1) p 2).trans (congrArg (fun f => upd f p 2) (show bm_AI B (m + 1) = (bm_AI B (m + 1)) from rfl)))
    have A24 : bm_AI (bm_setI B (m + 1) p 2) (n + 1) = (bm_AI B (n + 1)) := ((AI_setn B p 2 (n + 1) (by omega)).trans (show bm_AI B (n + 1) = (bm_AI B (n + 1)) from rfl))
    have Z25 : fz (fun y => y = m + 1 ∨ (gA m w p 0 ≤ y ∧ y < gA m w p 0 + 3) ∨ (gA m w p 1 ≤ y ∧ y < gA m w p 1 + 3)) B (bm_setI B (m + 1) p 2) := fz_trans (fz_rfl _ B) ⟨fr_mono (fun _ q => Or.inl q) (fr_setI _ (m + 1) _ _), rfl, rfl⟩
    have hm0_26 : RGv (bm_setI B (m + 1) p 2) T _ _ := RGv_fr b0 (fr_setI B (m + 1) p _) (by omega) (by omega) (by omega) (List.prefix_refl T)
    have hm1_26 : RGv (bm_setI B (m + 1) p 2) T _ _ := RGv_fr b1 (fr_setI B (m + 1) p _) (by omega) (by omega) (by omega) (List.prefix_refl T)
    have hn0_26 : RGv (bm_setI B (m + 1) p 2) T _ _ := RGv_fr e0 (fr_setI B (m + 1) p _) (by omega) (by omega) (by omega) (List.prefix_refl T)
    have hn1_26 : RGv (bm_setI B (m + 1) p 2) T _ _ := RGv_fr e1 (fr_setI B (m + 1) p _) (by omega) (by omega) (by omega) (List.prefix_refl T)
    refine g_k1 (v := 0) (pc' := 93) cd_Me_copyFrom rfl (by decide) rfl ?_
    refine g_ist (pc' := 94) cd_Me_copyFrom rfl (Or.inr ⟨_, rfl, rfl, rfl⟩) (by decide) rfl (fun lv el => ?_)
    have l0 := tm_lk el l0 rfl (by decide)
    have l1 := tm_lk el l1 rfl (by decide)
    have l2 := tm_lk el l2 rfl (by decide)
    have l3 : lv.lookup 3 = some (.int 0) := tm_lks el
    clear el
    refine g_ild (pc' := 95) cd_Me_copyFrom rfl (Or.inr ⟨_, rfl, rfl, rfl⟩) l3 rfl ?_
    refine g_ald (pc' := 96) cd_Me_copyFrom rfl (Or.inr ⟨_, rfl, rfl, rfl⟩) l0 rfl rfl ?_
    refine g_fR (c := 5) (k := 0) (x := (m + 1)) (pc' := 99) cd_Me_copyFrom rfl rfl rfl rfl rfl (by decide) hS.1.1 hS.1.2 hS.2.1.1 ?_
    refine g_ild (pc' := 100) cd_Me_copyFrom rfl (Or.inr ⟨_, rfl, rfl, rfl⟩) l2 rfl ?_
    refine g_aI (x := 2) (pc' := 101) cd_Me_copyFrom rfl rfl hS.2.2.1.1 hS.2.2.1.2.1 (by rw [show bm_AL (bm_setI B (m + 1) p 2) (m + 1) = 6 from hS.2.2.1.2.2]; exact vp_in_nI (by omega) (by decide)) (by rw [show bm_AI (bm_setI B (m + 1) p 2) (m + 1) = (upd (bm_AI B (m + 1)) p 2) from A23, nI_clamp (by omega)]; exact if_pos rfl) ?_
    refine g_if2 (t := 133) (pc' := 104) cd_Me_copyFrom rfl rfl rfl (fun c101 => ?_) (fun c101 => ?_)
    · exact absurd (show (2 : Int32) ≤ 0 from c101) (by decide)
    · have c101 : ¬ (2 : Int32) ≤ 0 := c101
      refine g_ald (pc' := 105) cd_Me_copyFrom rfl (Or.inr ⟨_, rfl, rfl, rfl⟩) l0 rfl rfl ?_
      refine g_fR (c := 5) (k := 1) (x := (m + 2)) (pc' := 108) cd_Me_copyFrom rfl rfl rfl rfl rfl (by decide) hS.1.1 hS.1.2 hS.2.1.2 ?_
      refine g_ild (pc' := 109) cd_Me_copyFrom rfl (Or.inr ⟨_, rfl, rfl, rfl⟩) l2 rfl ?_
      refine g_k1 (v := 2) (pc' := 110) cd_Me_copyFrom rfl (by decide) rfl ?_
      refine g_pure (pc' := 111) (st' := [.int ((nI p) * 2), .ref ((m + 2))]) cd_Me_copyFrom rfl rfl (fun _ _ => rfl) ?_
      rw [show ((nI p) * 2 : Int32) = nI (p * 2) from pk_mul p 2]
      refine g_ild (pc' := 112) cd_Me_copyFrom rfl (Or.inr ⟨_, rfl, rfl, rfl⟩) l3 rfl ?_
      refine g_pure (pc' := 113) (st' := [.int ((nI (p * 2)) + 0), .ref ((m + 2))]) cd_Me_copyFrom rfl rfl (fun _ _ => rfl) ?_
      rw [show ((nI (p * 2)) + 0 : Int32) = nI ((p * 2) + 0) from nI_add (p * 2) 0]
      refine g_aR (t := 7) (x := (gA m w p 0)) (pc' := 114) cd_Me_copyFrom rfl rfl hS.2.2.2.1 hS.2.2.2.2.1 (by decide) rfl rfl (by rw [show bm_AL (bm_setI B (m + 1) p 2) (m + 2) = 12 from hS.2.2.2.2.2]; exact vp_in_nI (by omega) (by decide)) (by rw [show bm_AR (bm_setI B (m + 1) p 2) (m + 2) = (bm_AR B (m + 2)) from rfl, nI_clamp (by omega), show p * 2 + 0 = 2 * p + 0 by omega]; exact a3) ?_
      refine g_ald (pc' := 115) cd_Me_copyFrom rfl (Or.inr ⟨_, rfl, rfl, rfl⟩) l1 rfl rfl ?_
      refine g_fR (c := 5) (k := 1) (x := (n + 2)) (pc' := 118) cd_Me_copyFrom rfl rfl rfl rfl rfl (by decide) hS'.1.1 hS'.1.2 hS'.2.1.2 ?_
      refine g_ild (pc' := 119) cd_Me_copyFrom rfl (Or.inr ⟨_, rfl, rfl, rfl⟩) l2 rfl ?_
      refine g_k1 (v := 2) (pc' := 120) cd_Me_copyFrom rfl (by decide) rfl ?_
      refine g_pure (pc' := 121) (st' := [.int ((nI p) * 2), .ref ((n + 2)), .ref ((gA m w p 0))]) cd_Me_copyFrom rfl rfl (fun _ _ => rfl) ?_
      rw [show ((nI p) * 2 : Int32) = nI (p * 2) from pk_mul p 2]
      refine g_ild (pc' := 122) cd_Me_copyFrom rfl (Or.inr ⟨_, rfl, rfl, rfl⟩) l3 rfl ?_
      refine g_pure (pc' := 123) (st' := [.int ((nI (p * 2)) + 0), .ref ((n + 2)), .ref ((gA m w p 0))]) cd_Me_copyFrom rfl rfl (fun _ _ => rfl) ?_
      rw [show ((nI (p * 2)) + 0 : Int32) = nI ((p * 2) + 0) from nI_add (p * 2) 0]
      refine g_aR (t := 7) (x := (gA n w' p 0)) (pc' := 124) cd_Me_copyFrom rfl rfl hS'.2.2.2.1 hS'.2.2.2.2.1 (by decide) rfl rfl (by rw [show bm_AL (bm_setI B (m + 1) p 2) (n + 2) = 12 from hS'.2.2.2.2.2]; exact vp_in_nI (by omega) (by decide)) (by rw [show bm_AR (bm_setI B (m + 1) p 2) (n + 2) = (bm_AR B (n + 2)) from rfl, nI_clamp (by omega), show p * 2 + 0 = 2 * p + 0 by omega]; exact c3) ?_
      refine g_callv (pc' := 127) cd_Me_copyFrom rfl rfl rfl rfl rfl (tm_invV rfl rfl cd_Gi_copyFrom rfl (Nat.le_of_ble_eq_true rfl) (by decide) hm0_26.1.1.1 hm0_26.1.1.2) (t_Gcopy hm0_26 hn0_26 (by omega) (fun B27 hG27 hz27 => ?_))
      have f28_0 := fr_lt hz27.1 hS.1.1
      have g28_0 := (fr_K hz27.1 hS.1.1).trans hS.1.2
      have f28_1 := fr_lt hz27.1 hS.2.2.1.1
      have g28_1 := (fr_K hz27.1 hS.2.2.1.1).trans hS.2.2.1.2.1
      have f28_2 := fr_lt hz27.1 hS.2.2.2.1
      have g28_2 := (fr_K hz27.1 hS.2.2.2.1).trans hS.2.2.2.2.1
      have f28_3 := fr_lt hz27.1 hS'.1.1
      have g28_3 := (fr_K hz27.1 hS'.1.1).trans hS'.1.2
      have f28_4 := fr_lt hz27.1 hS'.2.2.1.1
      have g28_4 := (fr_K hz27.1 hS'.2.2.1.1).trans hS'.2.2.1.2.1
      have f28_5 := fr_lt hz27.1 hS'.2.2.2.1
      have g28_5 := (fr_K hz27.1 hS'.2.2.2.1).trans hS'.2.2.2.2.1
      have r28_0 : bm_FR B27 5 0 m = some (m + 1) := (fr_FR hz27.1 hS.1.1 (by omega) 5 0).trans hS.2.1.1
      have r28_1 : bm_FR B27 5 1 m = some (m + 2) := (fr_FR hz27.1 hS.1.1 (by omega) 5 1).trans hS.2.1.2
      have r28_2 : bm_FR B27 5 0 n = some (n + 1) := (fr_FR hz27.1 hS'.1.1 (by omega) 5 0).trans hS'.2.1.1
      have r28_3 : bm_FR B27 5 1 n = some (n + 2) := (fr_FR hz27.1 hS'.1.1 (by omega) 5 1).trans hS'.2.1.2
      have u28_0 : bm_AI B27 (m + 1) = (upd (bm_AI B (m + 1)) p 2) := (fr_AI hz27.1 hS.2.2.1.1 (by omega)).trans A23
      have u28_1 : bm_AI B27 (n + 1) = (bm_AI B (n + 1)) := (fr_AI hz27.1 hS'.2.2.1.1 (by omega)).trans A24
      have v28_0 : bm_AR B27 (m + 2) = (bm_AR B (m + 2)) := (fr_AR hz27.1 hS.2.2.2.1 (by omega)).trans rfl
      have v28_1 : bm_AR B27 (n + 2) = (bm_AR B (n + 2)) := (fr_AR hz27.1 hS'.2.2.2.1 (by omega)).trans rfl
      have w28_0 : bm_AL B27 (m + 1) = 6 := (fr_AL hz27.1 hS.2.2.1.1).trans hS.2.2.1.2.2
      have w28_1 : bm_AL B27 (m + 2) = 12 := (fr_AL hz27.1 hS.2.2.2.1).trans hS.2.2.2.2.2
      have w28_2 : bm_AL B27 (n + 1) = 6 := (fr_AL hz27.1 hS'.2.2.1.1).trans hS'.2.2.1.2.2
      have w28_3 : bm_AL B27 (n + 2) = 12 := (fr_AL hz27.1 hS'.2.2.2.1).trans hS'.2.2.2.2.2
      have Z29 : fz (fun y => y = m + 1 ∨ (gA m w p 0 ≤ y ∧ y < gA m w p 0 + 3) ∨ (gA m w p 1 ≤ y ∧ y < gA m w p 1 + 3)) B B27 := fz_trans Z25 (fz_mono (fun _ q => by omega) hz27)
      have hm1_27 := RGv_fr hm1_26 hz27.1 (by omega) (by omega) (by omega) (List.prefix_refl T)
      have hn0_27 := RGv_fr hn0_26 hz27.1 (by omega) (by omega) (by omega) (List.prefix_refl T)
      have hn1_27 := RGv_fr hn1_26 hz27.1 (by omega) (by omega) (by omega) (List.prefix_refl T)
      show bm_G _ _ _ 127 _ [] B27 _
      refine g_inc (y := 1) (pc' := 130) cd_Me_copyFrom rfl l3 (by decide) (by decide) rfl (fun lv el => ?_)
      have l0 := tm_lk el l0 rfl (by decide)
      have l1 := tm_lk el l1 rfl (by decide)
      have l2 := tm_lk el l2 rfl (by decide)
      have l3 : lv.lookup 3 = some (.int 1) := tm_lks el
      clear el
      refine g_pure (pc' := 94) (st' := []) cd_Me_copyFrom rfl rfl (fun _ _ => rfl) ?_
      refine g_ild (pc' := 95) cd_Me_copyFrom rfl (Or.inr ⟨_, rfl, rfl, rfl⟩) l3 rfl ?_
      refine g_ald (pc' := 96) cd_Me_copyFrom rfl (Or.inr ⟨_, rfl, rfl, rfl⟩) l0 rfl rfl ?_
      refine g_fR (c := 5) (k := 0) (x := (m + 1)) (pc' := 99) cd_Me_copyFrom rfl rfl rfl rfl rfl (by decide) f28_0 g28_0 r28_0 ?_
      refine g_ild (pc' := 100) cd_Me_copyFrom rfl (Or.inr ⟨_, rfl, rfl, rfl⟩) l2 rfl ?_
      refine g_aI (x := 2) (pc' := 101) cd_Me_copyFrom rfl rfl f28_1 g28_1 (by rw [show bm_AL B27 (m + 1) = 6 from w28_0]; exact vp_in_nI (by omega) (by decide)) (by rw [show bm_AI B27 (m + 1) = (upd (bm_AI B (m + 1)) p 2) from u28_0, nI_clamp (by omega)]; exact if_pos rfl) ?_
      refine g_if2 (t := 133) (pc' := 104) cd_Me_copyFrom rfl rfl rfl (fun c101 => ?_) (fun c101 => ?_)
      · exact absurd (show (2 : Int32) ≤ 1 from c101) (by decide)
      · have c101 : ¬ (2 : Int32) ≤ 1 := c101
        refine g_ald (pc' := 105) cd_Me_copyFrom rfl (Or.inr ⟨_, rfl, rfl, rfl⟩) l0 rfl rfl ?_
        refine g_fR (c := 5) (k := 1) (x := (m + 2)) (pc' := 108) cd_Me_copyFrom rfl rfl rfl rfl rfl (by decide) f28_0 g28_0 r28_1 ?_
        refine g_ild (pc' := 109) cd_Me_copyFrom rfl (Or.inr ⟨_, rfl, rfl, rfl⟩) l2 rfl ?_
        refine g_k1 (v := 2) (pc' := 110) cd_Me_copyFrom rfl (by decide) rfl ?_
        refine g_pure (pc' := 111) (st' := [.int ((nI p) * 2), .ref ((m + 2))]) cd_Me_copyFrom rfl rfl (fun _ _ => rfl) ?_
        rw [show ((nI p) * 2 : Int32) = nI (p * 2) from pk_mul p 2]
        refine g_ild (pc' := 112) cd_Me_copyFrom rfl (Or.inr ⟨_, rfl, rfl, rfl⟩) l3 rfl ?_
        refine g_pure (pc' := 113) (st' := [.int ((nI (p * 2)) + 1), .ref ((m + 2))]) cd_Me_copyFrom rfl rfl (fun _ _ => rfl) ?_
        rw [show ((nI (p * 2)) + 1 : Int32) = nI ((p * 2) + 1) from nI_add (p * 2) 1]
        refine g_aR (t := 7) (x := (gA m w p 1)) (pc' := 114) cd_Me_copyFrom rfl rfl f28_2 g28_2 (by decide) rfl rfl (by rw [show bm_AL B27 (m + 2) = 12 from w28_1]; exact vp_in_nI (by omega) (by decide)) (by rw [show bm_AR B27 (m + 2) = (bm_AR B (m + 2)) from v28_0, nI_clamp (by omega), show p * 2 + 1 = 2 * p + 1 by omega]; exact a4) ?_
        refine g_ald (pc' := 115) cd_Me_copyFrom rfl (Or.inr ⟨_, rfl, rfl, rfl⟩) l1 rfl rfl ?_
        refine g_fR (c := 5) (k := 1) (x := (n + 2)) (pc' := 118) cd_Me_copyFrom rfl rfl rfl rfl rfl (by decide) f28_3 g28_3 r28_3 ?_
        refine g_ild (pc' := 119) cd_Me_copyFrom rfl (Or.inr ⟨_, rfl, rfl, rfl⟩) l2 rfl ?_
        refine g_k1 (v := 2) (pc' := 120) cd_Me_copyFrom rfl (by decide) rfl ?_
        refine g_pure (pc' := 121) (st' := [.int ((nI p) * 2), .ref ((n + 2)), .ref ((gA m w p 1))]) cd_Me_copyFrom rfl rfl (fun _ _ => rfl) ?_
        rw [show ((nI p) * 2 : Int32) = nI (p * 2) from pk_mul p 2]
        refine g_ild (pc' := 122) cd_Me_copyFrom rfl (Or.inr ⟨_, rfl, rfl, rfl⟩) l3 rfl ?_
        refine g_pure (pc' := 123) (st' := [.int ((nI (p * 2)) + 1), .ref ((n + 2)), .ref ((gA m w p 1))]) cd_Me_copyFrom rfl rfl (fun _ _ => rfl) ?_
        rw [show ((nI (p * 2)) + 1 : Int32) = nI ((p * 2) + 1) from nI_add (p * 2) 1]
        refine g_aR (t := 7) (x := (gA n w' p 1)) (pc' := 124) cd_Me_copyFrom rfl rfl f28_5 g28_5 (by decide) rfl rfl (by rw [show bm_AL B27 (n + 2) = 12 from w28_3]; exact vp_in_nI (by omega) (by decide)) (by rw [show bm_AR B27 (n + 2) = (bm_AR B (n + 2)) from v28_1, nI_clamp (by omega), show p * 2 + 1 = 2 * p + 1 by omega]; exact c4) ?_
        refine g_callv (pc' := 127) cd_Me_copyFrom rfl rfl rfl rfl rfl (tm_invV rfl rfl cd_Gi_copyFrom rfl (Nat.le_of_ble_eq_true rfl) (by decide) hm1_27.1.1.1 hm1_27.1.1.2) (t_Gcopy hm1_27 hn1_27 (by omega) (fun B30 hG30 hz30 => ?_))
        have f31_0 := fr_lt hz30.1 f28_0
        have g31_0 := (fr_K hz30.1 f28_0).trans g28_0
        have f31_1 := fr_lt hz30.1 f28_1
        have g31_1 := (fr_K hz30.1 f28_1).trans g28_1
        have f31_2 := fr_lt hz30.1 f28_2
        have g31_2 := (fr_K hz30.1 f28_2).trans g28_2
        have f31_3 := fr_lt hz30.1 f28_3
        have g31_3 := (fr_K hz30.1 f28_3).trans g28_3
        have f31_4 := fr_lt hz30.1 f28_4
        have g31_4 := (fr_K hz30.1 f28_4).trans g28_4
        have f31_5 := fr_lt hz30.1 f28_5
        have g31_5 := (fr_K hz30.1 f28_5).trans g28_5
        have r31_0 : bm_FR B30 5 0 m = some (m + 1) := (fr_FR hz30.1 f28_0 (by omega) 5 0).trans r28_0
        have r31_1 : bm_FR B30 5 1 m = some (m + 2) := (fr_FR hz30.1 f28_0 (by omega) 5 1).trans r28_1
        have r31_2 : bm_FR B30 5 0 n = some (n + 1) := (fr_FR hz30.1 f28_3 (by omega) 5 0).trans r28_2
        have r31_3 : bm_FR B30 5 1 n = some (n + 2) := (fr_FR hz30.1 f28_3 (by omega) 5 1).trans r28_3
        have u31_0 : bm_AI B30 (m + 1) = (upd (bm_AI B (m + 1)) p 2) := (fr_AI hz30.1 f28_1 (by omega)).trans u28_0
        have u31_1 : bm_AI B30 (n + 1) = (bm_AI B (n + 1)) := (fr_AI hz30.1 f28_4 (by omega)).trans u28_1
        have v31_0 : bm_AR B30 (m + 2) = (bm_AR B (m + 2)) := (fr_AR hz30.1 f28_2 (by omega)).trans v28_0
        have v31_1 : bm_AR B30 (n + 2) = (bm_AR B (n + 2)) := (fr_AR hz30.1 f28_5 (by omega)).trans v28_1
        have w31_0 : bm_AL B30 (m + 1) = 6 := (fr_AL hz30.1 f28_1).trans w28_0
        have w31_1 : bm_AL B30 (m + 2) = 12 := (fr_AL hz30.1 f28_2).trans w28_1
        have w31_2 : bm_AL B30 (n + 1) = 6 := (fr_AL hz30.1 f28_4).trans w28_2
        have w31_3 : bm_AL B30 (n + 2) = 12 := (fr_AL hz30.1 f28_5).trans w28_3
        have Z32 : fz (fun y => y = m + 1 ∨ (gA m w p 0 ≤ y ∧ y < gA m w p 0 + 3) ∨ (gA m w p 1 ≤ y ∧ y < gA m w p 1 + 3)) B B30 := fz_trans Z29 (fz_mono (fun _ q => by omega) hz30)
        have hm0_30 := RGv_fr hG27 hz30.1 (by omega) (by omega) (by omega) (List.prefix_refl T)
        have hn0_30 := RGv_fr hn0_27 hz30.1 (by omega) (by omega) (by omega) (List.prefix_refl T)
        have hn1_30 := RGv_fr hn1_27 hz30.1 (by omega) (by omega) (by omega) (List.prefix_refl T)
        show bm_G _ _ _ 127 _ [] B30 _
        refine g_inc (y := 2) (pc' := 130) cd_Me_copyFrom rfl l3 (by decide) (by decide) rfl (fun lv el => ?_)
        have l0 := tm_lk el l0 rfl (by decide)
        have l1 := tm_lk el l1 rfl (by decide)
        have l2 := tm_lk el l2 rfl (by decide)
        have l3 : lv.lookup 3 = some (.int 2) := tm_lks el
        clear el
        refine g_pure (pc' := 94) (st' := []) cd_Me_copyFrom rfl rfl (fun _ _ => rfl) ?_
        refine g_ild (pc' := 95) cd_Me_copyFrom rfl (Or.inr ⟨_, rfl, rfl, rfl⟩) l3 rfl ?_
        refine g_ald (pc' := 96) cd_Me_copyFrom rfl (Or.inr ⟨_, rfl, rfl, rfl⟩) l0 rfl rfl ?_
        refine g_fR (c := 5) (k := 0) (x := (m + 1)) (pc' := 99) cd_Me_copyFrom rfl rfl rfl rfl rfl (by decide) f31_0 g31_0 r31_0 ?_
        refine g_ild (pc' := 100) cd_Me_copyFrom rfl (Or.inr ⟨_, rfl, rfl, rfl⟩) l2 rfl ?_
        refine g_aI (x := 2) (pc' := 101) cd_Me_copyFrom rfl rfl f31_1 g31_1 (by rw [show bm_AL B30 (m + 1) = 6 from w31_0]; exact vp_in_nI (by omega) (by decide)) (by rw [show bm_AI B30 (m + 1) = (upd (bm_AI B (m + 1)) p 2) from u31_0, nI_clamp (by omega)]; exact if_pos rfl) ?_
        refine g_if2 (t := 133) (pc' := 104) cd_Me_copyFrom rfl rfl rfl (fun c101 => ?_) (fun c101 => ?_)
        · have c101 : (2 : Int32) ≤ 2 := c101
          exact kk _ lv (RGs_cp hS hp hf Z32.1 (show bm_AI _ (m + 1) = _ from u31_0) hm0_30 hG30 (by simp at e2 ⊢) (by simp) (List.prefix_refl T)) Z32 l0 l1 l2
        · exact absurd (show ¬ (2 : Int32) ≤ 2 from c101) (by decide)
theorem RSe_c {B : bm_H} {T : List Tm} {s : Nat} {S : SS} (h : RSe B T s S) : bm_FI B 2 1 (s + 1) = nI S.1.2.2.2.length ∧ S.1.2.2.2.length ≤ 8 := by
  obtain ⟨I, ba, ro, mi, se, n, b, br, bp, bo, on⟩ := S
  exact h.2.1.2.1
theorem RSs_cp {B B' : bm_H} {T T' : List Tm} {m p : Nat} {w : Nat → Bool} {f : Nat → List SS} {l : List SS} {S0 S1 : SS} (hS : DeS B m) (hp : p < 6) (hf : ∀ q, q < 6 → RSs B T m w q (f q)) (h : fr (fun y => y = m + 8 ∨ (sA m w p 0 ≤ y ∧ y < sA m w p 0 + 3) ∨ (sA m w p 1 ≤ y ∧ y < sA m w p 1 + 3)) B B') (hA : bm_AI B' (m + 8) = upd (bm_AI B (m + 8)) p (nI l.length)) (h0 : RSe B' T' (sA m w p 0) S0) (h1 : RSe B' T' (sA m w p 1) S1) (hl : l = [S0, S1].take l.length) (hl2 : l.length ≤ 2) (hT : T <+: T') : ∀ q, q < 6 → RSs B' T' m w q (fset f p l q) := by
  intro q hq
  have i0 := sA_in m w hp (k := 0) (by decide)
  have i1 := sA_in m w hp (k := 1) (by decide)
  have j0 := sA_in m w hq (k := 0) (by decide)
  have j1 := sA_in m w hq (k := 1) (by decide)
  have e2 := fr_AR h hS.2.2.2.2.2.2.1.1 (by omega)
  by_cases c : q = p
  · subst c
    rw [fset_same]
    exact ⟨⟨by rw [hA]; simp [upd], hl2⟩, ⟨by rw [e2]; exact (hf q hq).2.1.1, by rw [e2]; exact (hf q hq).2.1.2⟩, S0, S1, h0, h1, hl⟩
  · rw [fset_ne c]
    obtain ⟨⟨a1, a2⟩, ⟨a3, a4⟩, X0, X1, b0, b1, b2⟩ := hf q hq
    have p00 := sA_pp m w w (p := p) (p' := q) (k := 0) (k' := 0) (fun e => c e.symm) (by decide) (by decide)
    have p01 := sA_pp m w w (p := p) (p' := q) (k := 0) (k' := 1) (fun e => c e.symm) (by decide) (by decide)
    have p10 := sA_pp m w w (p := p) (p' := q) (k := 1) (k' := 0) (fun e => c e.symm) (by decide) (by decide)
    have p11 := sA_pp m w w (p := p) (p' := q) (k := 1) (k' := 1) (fun e => c e.symm) (by decide) (by decide)
    exact ⟨⟨by rw [hA, pk_un c]; exact a1, a2⟩, ⟨by rw [e2]; exact a3, by rw [e2]; exact a4⟩, X0, X1, RSe_fr b0 h (by omega) (by omega) (by omega) hT, RSe_fr b1 h (by omega) (by omega) (by omega) hT, b2⟩
theorem l_Dc {sc : tm_X} {d m n p : Nat} {w w' : Nat → Bool} {f : Nat → List SS} {l : List SS} {B : bm_H} {T : List Tm} {Q : Option Value → bm_H → Prop} (hS : DeS B m) (hS' : DeS B n) (hp : p < 6) (hf : ∀ q, q < 6 → RSs B T m w q (f q)) (hl : RSs B T n w' p l) (hd : m + 202 < n ∨ n + 202 < m) (kk : ∀ B' (lv2 : tm_L), (∀ q, q < 6 → RSs B' T m w q (fset f p l q)) → fz (fun y => y = m + 8 ∨ (sA m w p 0 ≤ y ∧ y < sA m w p 0 + 3) ∨ (sA m w p 1 ≤ y ∧ y < sA m w p 1 + 3)) B B' → lv2.lookup 0 = some (.ref m) → lv2.lookup 1 = some (.ref n) → lv2.lookup 2 = some (.int (nI p)) → bm_G sc (d + 4) 36 144 lv2 [] B' Q) : ∀ lv : tm_L, lv.lookup 0 = some (.ref m) → lv.lookup 1 = some (.ref n) → lv.lookup 2 = some (.int (nI p)) → bm_G sc (d + 4) 36 90 lv [] B Q := by
  intro lv l0 l1 l2
  have im0 := sA_in m w hp (k := 0) (by decide)
  have im1 := sA_in m w hp (k := 1) (by decide)
  have in0 := sA_in n w' hp (k := 0) (by decide)
  have in1 := sA_in n w' hp (k := 1) (by decide)
  have i01 := sA_01 m w p
  obtain ⟨⟨a1, a2⟩, ⟨a3, a4⟩, X0, X1, b0, b1, b2⟩ := hf p hp
  obtain ⟨⟨c1, c2⟩, ⟨c3, c4⟩, Y0, Y1, e0, e1, e2⟩ := hl
  rcases len2 c2 with rfl | ⟨G0, rfl⟩ | ⟨G0, G1, rfl⟩
  · skip
    refine g_ald (pc' := 91) cd_De_copyFrom rfl (Or.inr ⟨_, rfl, rfl, rfl⟩) l0 rfl rfl ?_
    refine g_fR (c := 0) (k := 3) (x := (m + 8)) (pc' := 94) cd_De_copyFrom rfl rfl rfl rfl rfl (by decide) hS.1.1 hS.1.2 hS.2.1.2.2.2.1 ?_
    refine g_ild (pc' := 95) cd_De_copyFrom rfl (Or.inr ⟨_, rfl, rfl, rfl⟩) l2 rfl ?_
    refine g_ald (pc' := 96) cd_De_copyFrom rfl (Or.inr ⟨_, rfl, rfl, rfl⟩) l1 rfl rfl ?_
    refine g_fR (c := 0) (k := 3) (x := (n + 8)) (pc' := 99) cd_De_copyFrom rfl rfl rfl rfl rfl (by decide) hS'.1.1 hS'.1.2 hS'.2.1.2.2.2.1 ?_
    refine g_ild (pc' := 100) cd_De_copyFrom rfl (Or.inr ⟨_, rfl, rfl, rfl⟩) l2 rfl ?_
    refine g_aI (x := 0) (pc' := 101) cd_De_copyFrom rfl rfl hS'.2.2.2.2.2.1.1 hS'.2.2.2.2.2.1.2.1 (by rw [show bm_AL B (n + 8) = 6 from hS'.2.2.2.2.2.1.2.2]; exact vp_in_nI (by omega) (by decide)) (by rw [nI_clamp (by omega)]; exact c1) ?_
    refine g_iast (pc' := 102) cd_De_copyFrom rfl rfl hS.2.2.2.2.2.1.1 hS.2.2.2.2.2.1.2.1 (by rw [show bm_AL B (m + 8) = 6 from hS.2.2.2.2.2.1.2.2]; exact vp_in_nI (by omega) (by decide)) ?_
    rw [show (nI p : Int32).toNatClampNeg = p from nI_clamp (by omega)]
    have A33 : bm_AI (bm_setI B (m + 8) p 0) (m + 8) = (upd (bm_AI B (m + 8)) p 0) := ((AI_set B (m + 8) p 0).trans (congrArg (fun f => upd f p 0) (show bm_AI B (m + 8) = (bm_AI B (m + 8)) from rfl)))
    have A34 : bm_AI (bm_setI B (m + 8) p 0) (n + 8) = (bm_AI B (n + 8)) := ((AI_setn B p 0 (n + 8) (by omega)).trans (show bm_AI B (n + 8) = (bm_AI B (n + 8)) from rfl))
    have Z35 : fz (fun y => y = m + 8 ∨ (sA m w p 0 ≤ y ∧ y < sA m w p 0 + 3) ∨ (sA m w p 1 ≤ y ∧ y < sA m w p 1 + 3)) B (bm_setI B (m + 8) p 0) := fz_trans (fz_rfl _ B) ⟨fr_mono (fun _ q => Or.inl q) (fr_setI _ (m + 8) _ _), rfl, rfl⟩
    have hm0_36 : RSe (bm_setI B (m + 8) p 0) T _ _ := RSe_fr b0 (fr_setI B (m + 8) p _) (by omega) (by omega) (by omega) (List.prefix_refl T)
    have hm1_36 : RSe (bm_setI B (m + 8) p 0) T _ _ := RSe_fr b1 (fr_setI B (m + 8) p _) (by omega) (by omega) (by omega) (List.prefix_refl T)
    have hn0_36 : RSe (bm_setI B (m + 8) p 0) T _ _ := RSe_fr e0 (fr_setI B (m + 8) p _) (by omega) (by omega) (by omega) (List.prefix_refl T)
    have hn1_36 : RSe (bm_setI B (m + 8) p 0) T _ _ := RSe_fr e1 (fr_setI B (m + 8) p _) (by omega) (by omega) (by omega) (List.prefix_refl T)
    refine g_k1 (v := 0) (pc' := 103) cd_De_copyFrom rfl (by decide) rfl ?_
    refine g_ist (pc' := 104) cd_De_copyFrom rfl (Or.inr ⟨_, rfl, rfl, rfl⟩) (by decide) rfl (fun lv el => ?_)
    have l0 := tm_lk el l0 rfl (by decide)
    have l1 := tm_lk el l1 rfl (by decide)
    have l2 := tm_lk el l2 rfl (by decide)
    have l3 : lv.lookup 3 = some (.int 0) := tm_lks el
    clear el
    refine g_ild (pc' := 105) cd_De_copyFrom rfl (Or.inr ⟨_, rfl, rfl, rfl⟩) l3 rfl ?_
    refine g_ald (pc' := 106) cd_De_copyFrom rfl (Or.inr ⟨_, rfl, rfl, rfl⟩) l0 rfl rfl ?_
    refine g_fR (c := 0) (k := 3) (x := (m + 8)) (pc' := 109) cd_De_copyFrom rfl rfl rfl rfl rfl (by decide) hS.1.1 hS.1.2 hS.2.1.2.2.2.1 ?_
    refine g_ild (pc' := 110) cd_De_copyFrom rfl (Or.inr ⟨_, rfl, rfl, rfl⟩) l2 rfl ?_
    refine g_aI (x := 0) (pc' := 111) cd_De_copyFrom rfl rfl hS.2.2.2.2.2.1.1 hS.2.2.2.2.2.1.2.1 (by rw [show bm_AL (bm_setI B (m + 8) p 0) (m + 8) = 6 from hS.2.2.2.2.2.1.2.2]; exact vp_in_nI (by omega) (by decide)) (by rw [show bm_AI (bm_setI B (m + 8) p 0) (m + 8) = (upd (bm_AI B (m + 8)) p 0) from A33, nI_clamp (by omega)]; exact if_pos rfl) ?_
    refine g_if2 (t := 144) (pc' := 114) cd_De_copyFrom rfl rfl rfl (fun c111 => ?_) (fun c111 => ?_)
    · have c111 : (0 : Int32) ≤ 0 := c111
      exact kk _ lv (RSs_cp hS hp hf Z35.1 (show bm_AI _ (m + 8) = _ from A33) hm0_36 hm1_36 rfl (by simp) (List.prefix_refl T)) Z35 l0 l1 l2
    · exact absurd (show ¬ (0 : Int32) ≤ 0 from c111) (by decide)
  · skip
    have hG0 : Y0 = G0 := by simp at e2; exact e2.symm
    subst hG0
    refine g_ald (pc' := 91) cd_De_copyFrom rfl (Or.inr ⟨_, rfl, rfl, rfl⟩) l0 rfl rfl ?_
    refine g_fR (c := 0) (k := 3) (x := (m + 8)) (pc' := 94) cd_De_copyFrom rfl rfl rfl rfl rfl (by decide) hS.1.1 hS.1.2 hS.2.1.2.2.2.1 ?_
    refine g_ild (pc' := 95) cd_De_copyFrom rfl (Or.inr ⟨_, rfl, rfl, rfl⟩) l2 rfl ?_
    refine g_ald (pc' := 96) cd_De_copyFrom rfl (Or.inr ⟨_, rfl, rfl, rfl⟩) l1 rfl rfl ?_
    refine g_fR (c := 0) (k := 3) (x := (n + 8)) (pc' := 99) cd_De_copyFrom rfl rfl rfl rfl rfl (by decide) hS'.1.1 hS'.1.2 hS'.2.1.2.2.2.1 ?_
    refine g_ild (pc' := 100) cd_De_copyFrom rfl (Or.inr ⟨_, rfl, rfl, rfl⟩) l2 rfl ?_
    refine g_aI (x := 1) (pc' := 101) cd_De_copyFrom rfl rfl hS'.2.2.2.2.2.1.1 hS'.2.2.2.2.2.1.2.1 (by rw [show bm_AL B (n + 8) = 6 from hS'.2.2.2.2.2.1.2.2]; exact vp_in_nI (by omega) (by decide)) (by rw [nI_clamp (by omega)]; exact c1) ?_
    refine g_iast (pc' := 102) cd_De_copyFrom rfl rfl hS.2.2.2.2.2.1.1 hS.2.2.2.2.2.1.2.1 (by rw [show bm_AL B (m + 8) = 6 from hS.2.2.2.2.2.1.2.2]; exact vp_in_nI (by omega) (by decide)) ?_
    rw [show (nI p : Int32).toNatClampNeg = p from nI_clamp (by omega)]
    have A37 : bm_AI (bm_setI B (m + 8) p 1) (m + 8) = (upd (bm_AI B (m + 8)) p 1) := ((AI_set B (m + 8) p 1).trans (congrArg (fun f => upd f p 1) (show bm_AI B (m + 8) = (bm_AI B (m + 8)) from rfl)))
    have A38 : bm_AI (bm_setI B (m + 8) p 1) (n + 8) = (bm_AI B (n + 8)) := ((AI_setn B p 1 (n + 8) (by omega)).trans (show bm_AI B (n + 8) = (bm_AI B (n + 8)) from rfl))
    have Z39 : fz (fun y => y = m + 8 ∨ (sA m w p 0 ≤ y ∧ y < sA m w p 0 + 3) ∨ (sA m w p 1 ≤ y ∧ y < sA m w p 1 + 3)) B (bm_setI B (m + 8) p 1) := fz_trans (fz_rfl _ B) ⟨fr_mono (fun _ q => Or.inl q) (fr_setI _ (m + 8) _ _), rfl, rfl⟩
    have hm0_40 : RSe (bm_setI B (m + 8) p 1) T _ _ := RSe_fr b0 (fr_setI B (m + 8) p _) (by omega) (by omega) (by omega) (List.prefix_refl T)
    have hm1_40 : RSe (bm_setI B (m + 8) p 1) T _ _ := RSe_fr b1 (fr_setI B (m + 8) p _) (by omega) (by omega) (by omega) (List.prefix_refl T)
    have hn0_40 : RSe (bm_setI B (m + 8) p 1) T _ _ := RSe_fr e0 (fr_setI B (m + 8) p _) (by omega) (by omega) (by omega) (List.prefix_refl T)
    have hn1_40 : RSe (bm_setI B (m + 8) p 1) T _ _ := RSe_fr e1 (fr_setI B (m + 8) p _) (by omega) (by omega) (by omega) (List.prefix_refl T)
    refine g_k1 (v := 0) (pc' := 103) cd_De_copyFrom rfl (by decide) rfl ?_
    refine g_ist (pc' := 104) cd_De_copyFrom rfl (Or.inr ⟨_, rfl, rfl, rfl⟩) (by decide) rfl (fun lv el => ?_)
    have l0 := tm_lk el l0 rfl (by decide)
    have l1 := tm_lk el l1 rfl (by decide)
    have l2 := tm_lk el l2 rfl (by decide)
    have l3 : lv.lookup 3 = some (.int 0) := tm_lks el
    clear el
    refine g_ild (pc' := 105) cd_De_copyFrom rfl (Or.inr ⟨_, rfl, rfl, rfl⟩) l3 rfl ?_
    refine g_ald (pc' := 106) cd_De_copyFrom rfl (Or.inr ⟨_, rfl, rfl, rfl⟩) l0 rfl rfl ?_
    refine g_fR (c := 0) (k := 3) (x := (m + 8)) (pc' := 109) cd_De_copyFrom rfl rfl rfl rfl rfl (by decide) hS.1.1 hS.1.2 hS.2.1.2.2.2.1 ?_
    refine g_ild (pc' := 110) cd_De_copyFrom rfl (Or.inr ⟨_, rfl, rfl, rfl⟩) l2 rfl ?_
    refine g_aI (x := 1) (pc' := 111) cd_De_copyFrom rfl rfl hS.2.2.2.2.2.1.1 hS.2.2.2.2.2.1.2.1 (by rw [show bm_AL (bm_setI B (m + 8) p 1) (m + 8) = 6 from hS.2.2.2.2.2.1.2.2]; exact vp_in_nI (by omega) (by decide)) (by rw [show bm_AI (bm_setI B (m + 8) p 1) (m + 8) = (upd (bm_AI B (m + 8)) p 1) from A37, nI_clamp (by omega)]; exact if_pos rfl) ?_
    refine g_if2 (t := 144) (pc' := 114) cd_De_copyFrom rfl rfl rfl (fun c111 => ?_) (fun c111 => ?_)
    · exact absurd (show (1 : Int32) ≤ 0 from c111) (by decide)
    · have c111 : ¬ (1 : Int32) ≤ 0 := c111
      refine g_ild (pc' := 115) cd_De_copyFrom rfl (Or.inr ⟨_, rfl, rfl, rfl⟩) l2 rfl ?_
      refine g_k1 (v := 2) (pc' := 116) cd_De_copyFrom rfl (by decide) rfl ?_
      refine g_pure (pc' := 117) (st' := [.int ((nI p) * 2)]) cd_De_copyFrom rfl rfl (fun _ _ => rfl) ?_
      rw [show ((nI p) * 2 : Int32) = nI (p * 2) from pk_mul p 2]
      refine g_ild (pc' := 118) cd_De_copyFrom rfl (Or.inr ⟨_, rfl, rfl, rfl⟩) l3 rfl ?_
      refine g_pure (pc' := 119) (st' := [.int ((nI (p * 2)) + 0)]) cd_De_copyFrom rfl rfl (fun _ _ => rfl) ?_
      rw [show ((nI (p * 2)) + 0 : Int32) = nI ((p * 2) + 0) from nI_add (p * 2) 0]
      refine g_ist (pc' := 121) cd_De_copyFrom rfl (Or.inl ⟨rfl, rfl⟩) (by decide) rfl (fun lv el => ?_)
      have l0 := tm_lk el l0 rfl (by decide)
      have l1 := tm_lk el l1 rfl (by decide)
      have l2 := tm_lk el l2 rfl (by decide)
      have l3 := tm_lk el l3 rfl (by decide)
      have l4 : lv.lookup 4 = some (.int (nI ((p * 2) + 0))) := tm_lks el
      clear el
      refine g_ald (pc' := 122) cd_De_copyFrom rfl (Or.inr ⟨_, rfl, rfl, rfl⟩) l0 rfl rfl ?_
      refine g_fR (c := 0) (k := 4) (x := (m + 9)) (pc' := 125) cd_De_copyFrom rfl rfl rfl rfl rfl (by decide) hS.1.1 hS.1.2 hS.2.1.2.2.2.2.1 ?_
      refine g_ild (pc' := 127) cd_De_copyFrom rfl (Or.inl ⟨rfl, rfl⟩) l4 rfl ?_
      refine g_aR (t := 5) (x := (sA m w p 0)) (pc' := 128) cd_De_copyFrom rfl rfl hS.2.2.2.2.2.2.1.1 hS.2.2.2.2.2.2.1.2.1 (by decide) rfl rfl (by rw [show bm_AL (bm_setI B (m + 8) p 1) (m + 9) = 12 from hS.2.2.2.2.2.2.1.2.2]; exact vp_in_nI (by omega) (by decide)) (by rw [show bm_AR (bm_setI B (m + 8) p 1) (m + 9) = (bm_AR B (m + 9)) from rfl, nI_clamp (by omega), show p * 2 + 0 = 2 * p + 0 by omega]; exact a3) ?_
      refine g_ald (pc' := 129) cd_De_copyFrom rfl (Or.inr ⟨_, rfl, rfl, rfl⟩) l1 rfl rfl ?_
      refine g_fR (c := 0) (k := 4) (x := (n + 9)) (pc' := 132) cd_De_copyFrom rfl rfl rfl rfl rfl (by decide) hS'.1.1 hS'.1.2 hS'.2.1.2.2.2.2.1 ?_
      refine g_ild (pc' := 134) cd_De_copyFrom rfl (Or.inl ⟨rfl, rfl⟩) l4 rfl ?_
      refine g_aR (t := 5) (x := (sA n w' p 0)) (pc' := 135) cd_De_copyFrom rfl rfl hS'.2.2.2.2.2.2.1.1 hS'.2.2.2.2.2.2.1.2.1 (by decide) rfl rfl (by rw [show bm_AL (bm_setI B (m + 8) p 1) (n + 9) = 12 from hS'.2.2.2.2.2.2.1.2.2]; exact vp_in_nI (by omega) (by decide)) (by rw [show bm_AR (bm_setI B (m + 8) p 1) (n + 9) = (bm_AR B (n + 9)) from rfl, nI_clamp (by omega), show p * 2 + 0 = 2 * p + 0 by omega]; exact c3) ?_
      refine g_callv (pc' := 138) cd_De_copyFrom rfl rfl rfl rfl rfl (tm_invV rfl rfl cd_Se_copyFrom rfl (Nat.le_of_ble_eq_true rfl) (by decide) (RSe_S hm0_40).1.1 (RSe_S hm0_40).1.2) (t_Scopy (RSe_S hm0_40) (RSe_c hm0_40) hn0_40 (by omega) (by omega) (by omega) (fun B41 hG41 hz41 => ?_))
      have f42_0 := fr_lt hz41.1 hS.1.1
      have g42_0 := (fr_K hz41.1 hS.1.1).trans hS.1.2
      have f42_1 := fr_lt hz41.1 hS.2.2.2.2.2.1.1
      have g42_1 := (fr_K hz41.1 hS.2.2.2.2.2.1.1).trans hS.2.2.2.2.2.1.2.1
      have f42_2 := fr_lt hz41.1 hS.2.2.2.2.2.2.1.1
      have g42_2 := (fr_K hz41.1 hS.2.2.2.2.2.2.1.1).trans hS.2.2.2.2.2.2.1.2.1
      have f42_3 := fr_lt hz41.1 hS'.1.1
      have g42_3 := (fr_K hz41.1 hS'.1.1).trans hS'.1.2
      have f42_4 := fr_lt hz41.1 hS'.2.2.2.2.2.1.1
      have g42_4 := (fr_K hz41.1 hS'.2.2.2.2.2.1.1).trans hS'.2.2.2.2.2.1.2.1
      have f42_5 := fr_lt hz41.1 hS'.2.2.2.2.2.2.1.1
      have g42_5 := (fr_K hz41.1 hS'.2.2.2.2.2.2.1.1).trans hS'.2.2.2.2.2.2.1.2.1
      have r42_0 : bm_FR B41 0 3 m = some (m + 8) := (fr_FR hz41.1 hS.1.1 (by omega) 0 3).trans hS.2.1.2.2.2.1
      have r42_1 : bm_FR B41 0 4 m = some (m + 9) := (fr_FR hz41.1 hS.1.1 (by omega) 0 4).trans hS.2.1.2.2.2.2.1
      have r42_2 : bm_FR B41 0 3 n = some (n + 8) := (fr_FR hz41.1 hS'.1.1 (by omega) 0 3).trans hS'.2.1.2.2.2.1
      have r42_3 : bm_FR B41 0 4 n = some (n + 9) := (fr_FR hz41.1 hS'.1.1 (by omega) 0 4).trans hS'.2.1.2.2.2.2.1
      have u42_0 : bm_AI B41 (m + 8) = (upd (bm_AI B (m + 8)) p 1) := (fr_AI hz41.1 hS.2.2.2.2.2.1.1 (by omega)).trans A37
      have u42_1 : bm_AI B41 (n + 8) = (bm_AI B (n + 8)) := (fr_AI hz41.1 hS'.2.2.2.2.2.1.1 (by omega)).trans A38
      have v42_0 : bm_AR B41 (m + 9) = (bm_AR B (m + 9)) := (fr_AR hz41.1 hS.2.2.2.2.2.2.1.1 (by omega)).trans rfl
      have v42_1 : bm_AR B41 (n + 9) = (bm_AR B (n + 9)) := (fr_AR hz41.1 hS'.2.2.2.2.2.2.1.1 (by omega)).trans rfl
      have w42_0 : bm_AL B41 (m + 8) = 6 := (fr_AL hz41.1 hS.2.2.2.2.2.1.1).trans hS.2.2.2.2.2.1.2.2
      have w42_1 : bm_AL B41 (m + 9) = 12 := (fr_AL hz41.1 hS.2.2.2.2.2.2.1.1).trans hS.2.2.2.2.2.2.1.2.2
      have w42_2 : bm_AL B41 (n + 8) = 6 := (fr_AL hz41.1 hS'.2.2.2.2.2.1.1).trans hS'.2.2.2.2.2.1.2.2
      have w42_3 : bm_AL B41 (n + 9) = 12 := (fr_AL hz41.1 hS'.2.2.2.2.2.2.1.1).trans hS'.2.2.2.2.2.2.1.2.2
      have Z43 : fz (fun y => y = m + 8 ∨ (sA m w p 0 ≤ y ∧ y < sA m w p 0 + 3) ∨ (sA m w p 1 ≤ y ∧ y < sA m w p 1 + 3)) B B41 := fz_trans Z39 (fz_mono (fun _ q => by omega) hz41)
      have hm1_41 := RSe_fr hm1_40 hz41.1 (by omega) (by omega) (by omega) (List.prefix_refl T)
      have hn0_41 := RSe_fr hn0_40 hz41.1 (by omega) (by omega) (by omega) (List.prefix_refl T)
      have hn1_41 := RSe_fr hn1_40 hz41.1 (by omega) (by omega) (by omega) (List.prefix_refl T)
      show bm_G _ _ _ 138 _ [] B41 _
      refine g_inc (y := 1) (pc' := 141) cd_De_copyFrom rfl l3 (by decide) (by decide) rfl (fun lv el => ?_)
      have l0 := tm_lk el l0 rfl (by decide)
      have l1 := tm_lk el l1 rfl (by decide)
      have l2 := tm_lk el l2 rfl (by decide)
      have l4 := tm_lk el l4 rfl (by decide)
      have l3 : lv.lookup 3 = some (.int 1) := tm_lks el
      clear el
      refine g_pure (pc' := 104) (st' := []) cd_De_copyFrom rfl rfl (fun _ _ => rfl) ?_
      refine g_ild (pc' := 105) cd_De_copyFrom rfl (Or.inr ⟨_, rfl, rfl, rfl⟩) l3 rfl ?_
      refine g_ald (pc' := 106) cd_De_copyFrom rfl (Or.inr ⟨_, rfl, rfl, rfl⟩) l0 rfl rfl ?_
      refine g_fR (c := 0) (k := 3) (x := (m + 8)) (pc' := 109) cd_De_copyFrom rfl rfl rfl rfl rfl (by decide) f42_0 g42_0 r42_0 ?_
      refine g_ild (pc' := 110) cd_De_copyFrom rfl (Or.inr ⟨_, rfl, rfl, rfl⟩) l2 rfl ?_
      refine g_aI (x := 1) (pc' := 111) cd_De_copyFrom rfl rfl f42_1 g42_1 (by rw [show bm_AL B41 (m + 8) = 6 from w42_0]; exact vp_in_nI (by omega) (by decide)) (by rw [show bm_AI B41 (m + 8) = (upd (bm_AI B (m + 8)) p 1) from u42_0, nI_clamp (by omega)]; exact if_pos rfl) ?_
      refine g_if2 (t := 144) (pc' := 114) cd_De_copyFrom rfl rfl rfl (fun c111 => ?_) (fun c111 => ?_)
      · have c111 : (1 : Int32) ≤ 1 := c111
        exact kk _ lv (RSs_cp hS hp hf Z43.1 (show bm_AI _ (m + 8) = _ from u42_0) hG41 hm1_41 (by simp at e2 ⊢) (by simp) (List.prefix_refl T)) Z43 l0 l1 l2
      · exact absurd (show ¬ (1 : Int32) ≤ 1 from c111) (by decide)
  · skip
    have hG0 : Y0 = G0 := by simp at e2; exact e2.1.symm
    have hG1 : Y1 = G1 := by simp at e2; exact e2.2.symm
    subst hG0
    subst hG1
    refine g_ald (pc' := 91) cd_De_copyFrom rfl (Or.inr ⟨_, rfl, rfl, rfl⟩) l0 rfl rfl ?_
    refine g_fR (c := 0) (k := 3) (x := (m + 8)) (pc' := 94) cd_De_copyFrom rfl rfl rfl rfl rfl (by decide) hS.1.1 hS.1.2 hS.2.1.2.2.2.1 ?_
    refine g_ild (pc' := 95) cd_De_copyFrom rfl (Or.inr ⟨_, rfl, rfl, rfl⟩) l2 rfl ?_
    refine g_ald (pc' := 96) cd_De_copyFrom rfl (Or.inr ⟨_, rfl, rfl, rfl⟩) l1 rfl rfl ?_
    refine g_fR (c := 0) (k := 3) (x := (n + 8)) (pc' := 99) cd_De_copyFrom rfl rfl rfl rfl rfl (by decide) hS'.1.1 hS'.1.2 hS'.2.1.2.2.2.1 ?_
    refine g_ild (pc' := 100) cd_De_copyFrom rfl (Or.inr ⟨_, rfl, rfl, rfl⟩) l2 rfl ?_
    refine g_aI (x := 2) (pc' := 101) cd_De_copyFrom rfl rfl hS'.2.2.2.2.2.1.1 hS'.2.2.2.2.2.1.2.1 (by rw [show bm_AL B (n + 8) = 6 from hS'.2.2.2.2.2.1.2.2]; exact vp_in_nI (by omega) (by decide)) (by rw [nI_clamp (by omega)]; exact c1) ?_
    refine g_iast (pc' := 102) cd_De_copyFrom rfl rfl hS.2.2.2.2.2.1.1 hS.2.2.2.2.2.1.2.1 (by rw [show bm_AL B (m + 8) = 6 from hS.2.2.2.2.2.1.2.2]; exact vp_in_nI (by omega) (by decide)) ?_
    rw [show (nI p : Int32).toNatClampNeg = p from nI_clamp (by omega)]
    have A44 : bm_AI (bm_setI B (m + 8) p 2) (m + 8) = (upd (bm_AI B (m + 8)) p 2) := ((AI_set B (m + 8) p 2).trans (congrArg (fun f => upd f p 2) (show bm_AI B (m + 8) = (bm_AI B (m + 8)) from rfl)))
    have A45 : bm_AI (bm_setI B (m + 8) p 2) (n + 8) = (bm_AI B (n + 8)) := ((AI_setn B p 2 (n + 8) (by omega)).trans (show bm_AI B (n + 8) = (bm_AI B (n + 8)) from rfl))
    have Z46 : fz (fun y => y = m + 8 ∨ (sA m w p 0 ≤ y ∧ y < sA m w p 0 + 3) ∨ (sA m w p 1 ≤ y ∧ y < sA m w p 1 + 3)) B (bm_setI B (m + 8) p 2) := fz_trans (fz_rfl _ B) ⟨fr_mono (fun _ q => Or.inl q) (fr_setI _ (m + 8) _ _), rfl, rfl⟩
    have hm0_47 : RSe (bm_setI B (m + 8) p 2) T _ _ := RSe_fr b0 (fr_setI B (m + 8) p _) (by omega) (by omega) (by omega) (List.prefix_refl T)
    have hm1_47 : RSe (bm_setI B (m + 8) p 2) T _ _ := RSe_fr b1 (fr_setI B (m + 8) p _) (by omega) (by omega) (by omega) (List.prefix_refl T)
    have hn0_47 : RSe (bm_setI B (m + 8) p 2) T _ _ := RSe_fr e0 (fr_setI B (m + 8) p _) (by omega) (by omega) (by omega) (List.prefix_refl T)
    have hn1_47 : RSe (bm_setI B (m + 8) p 2) T _ _ := RSe_fr e1 (fr_setI B (m + 8) p _) (by omega) (by omega) (by omega) (List.prefix_refl T)
    refine g_k1 (v := 0) (pc' := 103) cd_De_copyFrom rfl (by decide) rfl ?_
    refine g_ist (pc' := 104) cd_De_copyFrom rfl (Or.inr ⟨_, rfl, rfl, rfl⟩) (by decide) rfl (fun lv el => ?_)
    have l0 := tm_lk el l0 rfl (by decide)
    have l1 := tm_lk el l1 rfl (by decide)
    have l2 := tm_lk el l2 rfl (by decide)
    have l3 : lv.lookup 3 = some (.int 0) := tm_lks el
    clear el
    refine g_ild (pc' := 105) cd_De_copyFrom rfl (Or.inr ⟨_, rfl, rfl, rfl⟩) l3 rfl ?_
    refine g_ald (pc' := 106) cd_De_copyFrom rfl (Or.inr ⟨_, rfl, rfl, rfl⟩) l0 rfl rfl ?_
    refine g_fR (c := 0) (k := 3) (x := (m + 8)) (pc' := 109) cd_De_copyFrom rfl rfl rfl rfl rfl (by decide) hS.1.1 hS.1.2 hS.2.1.2.2.2.1 ?_
    refine g_ild (pc' := 110) cd_De_copyFrom rfl (Or.inr ⟨_, rfl, rfl, rfl⟩) l2 rfl ?_
    refine g_aI (x := 2) (pc' := 111) cd_De_copyFrom rfl rfl hS.2.2.2.2.2.1.1 hS.2.2.2.2.2.1.2.1 (by rw [show bm_AL (bm_setI B (m + 8) p 2) (m + 8) = 6 from hS.2.2.2.2.2.1.2.2]; exact vp_in_nI (by omega) (by decide)) (by rw [show bm_AI (bm_setI B (m + 8) p 2) (m + 8) = (upd (bm_AI B (m + 8)) p 2) from A44, nI_clamp (by omega)]; exact if_pos rfl) ?_
    refine g_if2 (t := 144) (pc' := 114) cd_De_copyFrom rfl rfl rfl (fun c111 => ?_) (fun c111 => ?_)
    · exact absurd (show (2 : Int32) ≤ 0 from c111) (by decide)
    · have c111 : ¬ (2 : Int32) ≤ 0 := c111
      refine g_ild (pc' := 115) cd_De_copyFrom rfl (Or.inr ⟨_, rfl, rfl, rfl⟩) l2 rfl ?_
      refine g_k1 (v := 2) (pc' := 116) cd_De_copyFrom rfl (by decide) rfl ?_
      refine g_pure (pc' := 117) (st' := [.int ((nI p) * 2)]) cd_De_copyFrom rfl rfl (fun _ _ => rfl) ?_
      rw [show ((nI p) * 2 : Int32) = nI (p * 2) from pk_mul p 2]
      refine g_ild (pc' := 118) cd_De_copyFrom rfl (Or.inr ⟨_, rfl, rfl, rfl⟩) l3 rfl ?_
      refine g_pure (pc' := 119) (st' := [.int ((nI (p * 2)) + 0)]) cd_De_copyFrom rfl rfl (fun _ _ => rfl) ?_
      rw [show ((nI (p * 2)) + 0 : Int32) = nI ((p * 2) + 0) from nI_add (p * 2) 0]
      refine g_ist (pc' := 121) cd_De_copyFrom rfl (Or.inl ⟨rfl, rfl⟩) (by decide) rfl (fun lv el => ?_)
      have l0 := tm_lk el l0 rfl (by decide)
      have l1 := tm_lk el l1 rfl (by decide)
      have l2 := tm_lk el l2 rfl (by decide)
      have l3 := tm_lk el l3 rfl (by decide)
      have l4 : lv.lookup 4 = some (.int (nI ((p * 2) + 0))) := tm_lks el
      clear el
      refine g_ald (pc' := 122) cd_De_copyFrom rfl (Or.inr ⟨_, rfl, rfl, rfl⟩) l0 rfl rfl ?_
      refine g_fR (c := 0) (k := 4) (x := (m + 9)) (pc' := 125) cd_De_copyFrom rfl rfl rfl rfl rfl (by decide) hS.1.1 hS.1.2 hS.2.1.2.2.2.2.1 ?_
      refine g_ild (pc' := 127) cd_De_copyFrom rfl (Or.inl ⟨rfl, rfl⟩) l4 rfl ?_
      refine g_aR (t := 5) (x := (sA m w p 0)) (pc' := 128) cd_De_copyFrom rfl rfl hS.2.2.2.2.2.2.1.1 hS.2.2.2.2.2.2.1.2.1 (by decide) rfl rfl (by rw [show bm_AL (bm_setI B (m + 8) p 2) (m + 9) = 12 from hS.2.2.2.2.2.2.1.2.2]; exact vp_in_nI (by omega) (by decide)) (by rw [show bm_AR (bm_setI B (m + 8) p 2) (m + 9) = (bm_AR B (m + 9)) from rfl, nI_clamp (by omega), show p * 2 + 0 = 2 * p + 0 by omega]; exact a3) ?_
      refine g_ald (pc' := 129) cd_De_copyFrom rfl (Or.inr ⟨_, rfl, rfl, rfl⟩) l1 rfl rfl ?_
      refine g_fR (c := 0) (k := 4) (x := (n + 9)) (pc' := 132) cd_De_copyFrom rfl rfl rfl rfl rfl (by decide) hS'.1.1 hS'.1.2 hS'.2.1.2.2.2.2.1 ?_
      refine g_ild (pc' := 134) cd_De_copyFrom rfl (Or.inl ⟨rfl, rfl⟩) l4 rfl ?_
      refine g_aR (t := 5) (x := (sA n w' p 0)) (pc' := 135) cd_De_copyFrom rfl rfl hS'.2.2.2.2.2.2.1.1 hS'.2.2.2.2.2.2.1.2.1 (by decide) rfl rfl (by rw [show bm_AL (bm_setI B (m + 8) p 2) (n + 9) = 12 from hS'.2.2.2.2.2.2.1.2.2]; exact vp_in_nI (by omega) (by decide)) (by rw [show bm_AR (bm_setI B (m + 8) p 2) (n + 9) = (bm_AR B (n + 9)) from rfl, nI_clamp (by omega), show p * 2 + 0 = 2 * p + 0 by omega]; exact c3) ?_
      refine g_callv (pc' := 138) cd_De_copyFrom rfl rfl rfl rfl rfl (tm_invV rfl rfl cd_Se_copyFrom rfl (Nat.le_of_ble_eq_true rfl) (by decide) (RSe_S hm0_47).1.1 (RSe_S hm0_47).1.2) (t_Scopy (RSe_S hm0_47) (RSe_c hm0_47) hn0_47 (by omega) (by omega) (by omega) (fun B48 hG48 hz48 => ?_))
      have f49_0 := fr_lt hz48.1 hS.1.1
      have g49_0 := (fr_K hz48.1 hS.1.1).trans hS.1.2
      have f49_1 := fr_lt hz48.1 hS.2.2.2.2.2.1.1
      have g49_1 := (fr_K hz48.1 hS.2.2.2.2.2.1.1).trans hS.2.2.2.2.2.1.2.1
      have f49_2 := fr_lt hz48.1 hS.2.2.2.2.2.2.1.1
      have g49_2 := (fr_K hz48.1 hS.2.2.2.2.2.2.1.1).trans hS.2.2.2.2.2.2.1.2.1
      have f49_3 := fr_lt hz48.1 hS'.1.1
      have g49_3 := (fr_K hz48.1 hS'.1.1).trans hS'.1.2
      have f49_4 := fr_lt hz48.1 hS'.2.2.2.2.2.1.1
      have g49_4 := (fr_K hz48.1 hS'.2.2.2.2.2.1.1).trans hS'.2.2.2.2.2.1.2.1
      have f49_5 := fr_lt hz48.1 hS'.2.2.2.2.2.2.1.1
      have g49_5 := (fr_K hz48.1 hS'.2.2.2.2.2.2.1.1).trans hS'.2.2.2.2.2.2.1.2.1
      have r49_0 : bm_FR B48 0 3 m = some (m + 8) := (fr_FR hz48.1 hS.1.1 (by omega) 0 3).trans hS.2.1.2.2.2.1
      have r49_1 : bm_FR B48 0 4 m = some (m + 9) := (fr_FR hz48.1 hS.1.1 (by omega) 0 4).trans hS.2.1.2.2.2.2.1
      have r49_2 : bm_FR B48 0 3 n = some (n + 8) := (fr_FR hz48.1 hS'.1.1 (by omega) 0 3).trans hS'.2.1.2.2.2.1
      have r49_3 : bm_FR B48 0 4 n = some (n + 9) := (fr_FR hz48.1 hS'.1.1 (by omega) 0 4).trans hS'.2.1.2.2.2.2.1
      have u49_0 : bm_AI B48 (m + 8) = (upd (bm_AI B (m + 8)) p 2) := (fr_AI hz48.1 hS.2.2.2.2.2.1.1 (by omega)).trans A44
      have u49_1 : bm_AI B48 (n + 8) = (bm_AI B (n + 8)) := (fr_AI hz48.1 hS'.2.2.2.2.2.1.1 (by omega)).trans A45
      have v49_0 : bm_AR B48 (m + 9) = (bm_AR B (m + 9)) := (fr_AR hz48.1 hS.2.2.2.2.2.2.1.1 (by omega)).trans rfl
      have v49_1 : bm_AR B48 (n + 9) = (bm_AR B (n + 9)) := (fr_AR hz48.1 hS'.2.2.2.2.2.2.1.1 (by omega)).trans rfl
      have w49_0 : bm_AL B48 (m + 8) = 6 := (fr_AL hz48.1 hS.2.2.2.2.2.1.1).trans hS.2.2.2.2.2.1.2.2
      have w49_1 : bm_AL B48 (m + 9) = 12 := (fr_AL hz48.1 hS.2.2.2.2.2.2.1.1).trans hS.2.2.2.2.2.2.1.2.2
      have w49_2 : bm_AL B48 (n + 8) = 6 := (fr_AL hz48.1 hS'.2.2.2.2.2.1.1).trans hS'.2.2.2.2.2.1.2.2
      have w49_3 : bm_AL B48 (n + 9) = 12 := (fr_AL hz48.1 hS'.2.2.2.2.2.2.1.1).trans hS'.2.2.2.2.2.2.1.2.2
      have Z50 : fz (fun y => y = m + 8 ∨ (sA m w p 0 ≤ y ∧ y < sA m w p 0 + 3) ∨ (sA m w p 1 ≤ y ∧ y < sA m w p 1 + 3)) B B48 := fz_trans Z46 (fz_mono (fun _ q => by omega) hz48)
      have hm1_48 := RSe_fr hm1_47 hz48.1 (by omega) (by omega) (by omega) (List.prefix_refl T)
      have hn0_48 := RSe_fr hn0_47 hz48.1 (by omega) (by omega) (by omega) (List.prefix_refl T)
      have hn1_48 := RSe_fr hn1_47 hz48.1 (by omega) (by omega) (by omega) (List.prefix_refl T)
      show bm_G _ _ _ 138 _ [] B48 _
      refine g_inc (y := 1) (pc' := 141) cd_De_copyFrom rfl l3 (by decide) (by decide) rfl (fun lv el => ?_)
      have l0 := tm_lk el l0 rfl (by decide)
      have l1 := tm_lk el l1 rfl (by decide)
      have l2 := tm_lk el l2 rfl (by decide)
      have l4 := tm_lk el l4 rfl (by decide)
      have l3 : lv.lookup 3 = some (.int 1) := tm_lks el
      clear el
      refine g_pure (pc' := 104) (st' := []) cd_De_copyFrom rfl rfl (fun _ _ => rfl) ?_
      refine g_ild (pc' := 105) cd_De_copyFrom rfl (Or.inr ⟨_, rfl, rfl, rfl⟩) l3 rfl ?_
      refine g_ald (pc' := 106) cd_De_copyFrom rfl (Or.inr ⟨_, rfl, rfl, rfl⟩) l0 rfl rfl ?_
      refine g_fR (c := 0) (k := 3) (x := (m + 8)) (pc' := 109) cd_De_copyFrom rfl rfl rfl rfl rfl (by decide) f49_0 g49_0 r49_0 ?_
      refine g_ild (pc' := 110) cd_De_copyFrom rfl (Or.inr ⟨_, rfl, rfl, rfl⟩) l2 rfl ?_
      refine g_aI (x := 2) (pc' := 111) cd_De_copyFrom rfl rfl f49_1 g49_1 (by rw [show bm_AL B48 (m + 8) = 6 from w49_0]; exact vp_in_nI (by omega) (by decide)) (by rw [show bm_AI B48 (m + 8) = (upd (bm_AI B (m + 8)) p 2) from u49_0, nI_clamp (by omega)]; exact if_pos rfl) ?_
      refine g_if2 (t := 144) (pc' := 114) cd_De_copyFrom rfl rfl rfl (fun c111 => ?_) (fun c111 => ?_)
      · exact absurd (show (2 : Int32) ≤ 1 from c111) (by decide)
      · have c111 : ¬ (2 : Int32) ≤ 1 := c111
        refine g_ild (pc' := 115) cd_De_copyFrom rfl (Or.inr ⟨_, rfl, rfl, rfl⟩) l2 rfl ?_
        refine g_k1 (v := 2) (pc' := 116) cd_De_copyFrom rfl (by decide) rfl ?_
        refine g_pure (pc' := 117) (st' := [.int ((nI p) * 2)]) cd_De_copyFrom rfl rfl (fun _ _ => rfl) ?_
        rw [show ((nI p) * 2 : Int32) = nI (p * 2) from pk_mul p 2]
        refine g_ild (pc' := 118) cd_De_copyFrom rfl (Or.inr ⟨_, rfl, rfl, rfl⟩) l3 rfl ?_
        refine g_pure (pc' := 119) (st' := [.int ((nI (p * 2)) + 1)]) cd_De_copyFrom rfl rfl (fun _ _ => rfl) ?_
        rw [show ((nI (p * 2)) + 1 : Int32) = nI ((p * 2) + 1) from nI_add (p * 2) 1]
        refine g_ist (pc' := 121) cd_De_copyFrom rfl (Or.inl ⟨rfl, rfl⟩) (by decide) rfl (fun lv el => ?_)
        have l0 := tm_lk el l0 rfl (by decide)
        have l1 := tm_lk el l1 rfl (by decide)
        have l2 := tm_lk el l2 rfl (by decide)
        have l3 := tm_lk el l3 rfl (by decide)
        have l4 : lv.lookup 4 = some (.int (nI ((p * 2) + 1))) := tm_lks el
        clear el
        refine g_ald (pc' := 122) cd_De_copyFrom rfl (Or.inr ⟨_, rfl, rfl, rfl⟩) l0 rfl rfl ?_
        refine g_fR (c := 0) (k := 4) (x := (m + 9)) (pc' := 125) cd_De_copyFrom rfl rfl rfl rfl rfl (by decide) f49_0 g49_0 r49_1 ?_
        refine g_ild (pc' := 127) cd_De_copyFrom rfl (Or.inl ⟨rfl, rfl⟩) l4 rfl ?_
        refine g_aR (t := 5) (x := (sA m w p 1)) (pc' := 128) cd_De_copyFrom rfl rfl f49_2 g49_2 (by decide) rfl rfl (by rw [show bm_AL B48 (m + 9) = 12 from w49_1]; exact vp_in_nI (by omega) (by decide)) (by rw [show bm_AR B48 (m + 9) = (bm_AR B (m + 9)) from v49_0, nI_clamp (by omega), show p * 2 + 1 = 2 * p + 1 by omega]; exact a4) ?_
        refine g_ald (pc' := 129) cd_De_copyFrom rfl (Or.inr ⟨_, rfl, rfl, rfl⟩) l1 rfl rfl ?_
        refine g_fR (c := 0) (k := 4) (x := (n + 9)) (pc' := 132) cd_De_copyFrom rfl rfl rfl rfl rfl (by decide) f49_3 g49_3 r49_3 ?_
        refine g_ild (pc' := 134) cd_De_copyFrom rfl (Or.inl ⟨rfl, rfl⟩) l4 rfl ?_
        refine g_aR (t := 5) (x := (sA n w' p 1)) (pc' := 135) cd_De_copyFrom rfl rfl f49_5 g49_5 (by decide) rfl rfl (by rw [show bm_AL B48 (n + 9) = 12 from w49_3]; exact vp_in_nI (by omega) (by decide)) (by rw [show bm_AR B48 (n + 9) = (bm_AR B (n + 9)) from v49_1, nI_clamp (by omega), show p * 2 + 1 = 2 * p + 1 by omega]; exact c4) ?_
        refine g_callv (pc' := 138) cd_De_copyFrom rfl rfl rfl rfl rfl (tm_invV rfl rfl cd_Se_copyFrom rfl (Nat.le_of_ble_eq_true rfl) (by decide) (RSe_S hm1_48).1.1 (RSe_S hm1_48).1.2) (t_Scopy (RSe_S hm1_48) (RSe_c hm1_48) hn1_48 (by omega) (by omega) (by omega) (fun B51 hG51 hz51 => ?_))
        have f52_0 := fr_lt hz51.1 f49_0
        have g52_0 := (fr_K hz51.1 f49_0).trans g49_0
        have f52_1 := fr_lt hz51.1 f49_1
        have g52_1 := (fr_K hz51.1 f49_1).trans g49_1
        have f52_2 := fr_lt hz51.1 f49_2
        have g52_2 := (fr_K hz51.1 f49_2).trans g49_2
        have f52_3 := fr_lt hz51.1 f49_3
        have g52_3 := (fr_K hz51.1 f49_3).trans g49_3
        have f52_4 := fr_lt hz51.1 f49_4
        have g52_4 := (fr_K hz51.1 f49_4).trans g49_4
        have f52_5 := fr_lt hz51.1 f49_5
        have g52_5 := (fr_K hz51.1 f49_5).trans g49_5
        have r52_0 : bm_FR B51 0 3 m = some (m + 8) := (fr_FR hz51.1 f49_0 (by omega) 0 3).trans r49_0
        have r52_1 : bm_FR B51 0 4 m = some (m + 9) := (fr_FR hz51.1 f49_0 (by omega) 0 4).trans r49_1
        have r52_2 : bm_FR B51 0 3 n = some (n + 8) := (fr_FR hz51.1 f49_3 (by omega) 0 3).trans r49_2
        have r52_3 : bm_FR B51 0 4 n = some (n + 9) := (fr_FR hz51.1 f49_3 (by omega) 0 4).trans r49_3
        have u52_0 : bm_AI B51 (m + 8) = (upd (bm_AI B (m + 8)) p 2) := (fr_AI hz51.1 f49_1 (by omega)).trans u49_0
        have u52_1 : bm_AI B51 (n + 8) = (bm_AI B (n + 8)) := (fr_AI hz51.1 f49_4 (by omega)).trans u49_1
        have v52_0 : bm_AR B51 (m + 9) = (bm_AR B (m + 9)) := (fr_AR hz51.1 f49_2 (by omega)).trans v49_0
        have v52_1 : bm_AR B51 (n + 9) = (bm_AR B (n + 9)) := (fr_AR hz51.1 f49_5 (by omega)).trans v49_1
        have w52_0 : bm_AL B51 (m + 8) = 6 := (fr_AL hz51.1 f49_1).trans w49_0
        have w52_1 : bm_AL B51 (m + 9) = 12 := (fr_AL hz51.1 f49_2).trans w49_1
        have w52_2 : bm_AL B51 (n + 8) = 6 := (fr_AL hz51.1 f49_4).trans w49_2
        have w52_3 : bm_AL B51 (n + 9) = 12 := (fr_AL hz51.1 f49_5).trans w49_3
        have Z53 : fz (fun y => y = m + 8 ∨ (sA m w p 0 ≤ y ∧ y < sA m w p 0 + 3) ∨ (sA m w p 1 ≤ y ∧ y < sA m w p 1 + 3)) B B51 := fz_trans Z50 (fz_mono (fun _ q => by omega) hz51)
        have hm0_51 := RSe_fr hG48 hz51.1 (by omega) (by omega) (by omega) (List.prefix_refl T)
        have hn0_51 := RSe_fr hn0_48 hz51.1 (by omega) (by omega) (by omega) (List.prefix_refl T)
        have hn1_51 := RSe_fr hn1_48 hz51.1 (by omega) (by omega) (by omega) (List.prefix_refl T)
        show bm_G _ _ _ 138 _ [] B51 _
        refine g_inc (y := 2) (pc' := 141) cd_De_copyFrom rfl l3 (by decide) (by decide) rfl (fun lv el => ?_)
        have l0 := tm_lk el l0 rfl (by decide)
        have l1 := tm_lk el l1 rfl (by decide)
        have l2 := tm_lk el l2 rfl (by decide)
        have l4 := tm_lk el l4 rfl (by decide)
        have l3 : lv.lookup 3 = some (.int 2) := tm_lks el
        clear el
        refine g_pure (pc' := 104) (st' := []) cd_De_copyFrom rfl rfl (fun _ _ => rfl) ?_
        refine g_ild (pc' := 105) cd_De_copyFrom rfl (Or.inr ⟨_, rfl, rfl, rfl⟩) l3 rfl ?_
        refine g_ald (pc' := 106) cd_De_copyFrom rfl (Or.inr ⟨_, rfl, rfl, rfl⟩) l0 rfl rfl ?_
        refine g_fR (c := 0) (k := 3) (x := (m + 8)) (pc' := 109) cd_De_copyFrom rfl rfl rfl rfl rfl (by decide) f52_0 g52_0 r52_0 ?_
        refine g_ild (pc' := 110) cd_De_copyFrom rfl (Or.inr ⟨_, rfl, rfl, rfl⟩) l2 rfl ?_
        refine g_aI (x := 2) (pc' := 111) cd_De_copyFrom rfl rfl f52_1 g52_1 (by rw [show bm_AL B51 (m + 8) = 6 from w52_0]; exact vp_in_nI (by omega) (by decide)) (by rw [show bm_AI B51 (m + 8) = (upd (bm_AI B (m + 8)) p 2) from u52_0, nI_clamp (by omega)]; exact if_pos rfl) ?_
        refine g_if2 (t := 144) (pc' := 114) cd_De_copyFrom rfl rfl rfl (fun c111 => ?_) (fun c111 => ?_)
        · have c111 : (2 : Int32) ≤ 2 := c111
          exact kk _ lv (RSs_cp hS hp hf Z53.1 (show bm_AI _ (m + 8) = _ from u52_0) hm0_51 hG51 (by simp at e2 ⊢) (by simp) (List.prefix_refl T)) Z53 l0 l1 l2
        · exact absurd (show ¬ (2 : Int32) ≤ 2 from c111) (by decide)
