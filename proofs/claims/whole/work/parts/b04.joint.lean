/-! Class and reference side by side -/
def KG (K G : Tm → Prop) : Prop := ∀ X, Kn K X ↔ Kn G X
theorem KG_add {K G S S' : Tm → Prop} (h : KG K G) (h1 : ∀ y, S y → y = tz ∨ S' y) (h2 : ∀ y, S' y → S y) : KG (fun y => K y ∨ S y) (fun y => G y ∨ S' y) := by
  intro X
  refine ⟨fun q => Kn_of (fun y hy => ?_) q, fun q => Kn_of (fun y hy => ?_) q⟩
  · rcases hy with hy | hy
    · exact Kn_mono (fun z hz => Or.inl hz) ((h y).mp (Kn_G hy))
    · rcases h1 y hy with e | e
      · rw [e]; exact (Kn_clo _).1
      · exact Kn_G (Or.inr e)
  · rcases hy with hy | hy
    · exact Kn_mono (fun z hz => Or.inl hz) ((h y).mpr (Kn_G hy))
    · exact Kn_G (Or.inr (h2 y hy))
theorem KG_iff {K G K' G' : Tm → Prop} (h : KG K G) (h1 : ∀ y, K y ↔ K' y) (h2 : ∀ y, G y ↔ G' y) : KG K' G' := by
  intro X
  refine ⟨fun q => Kn_mono (fun y hy => (h2 y).mp hy) ((h X).mp (Kn_mono (fun y hy => (h1 y).mpr hy) q)), fun q => Kn_mono (fun y hy => (h1 y).mp hy) ((h X).mpr (Kn_mono (fun y hy => (h2 y).mpr hy) q))⟩
/-- pairs without a session; cuts that wait -/
def ez (s p : Nat) (se : Nat → List SS) : Nat := if p ≠ s ∧ (se p).length = 0 then 1 else 0
def ec (s : Nat) (se : Nat → List SS) : Nat := ez s 0 se + ez s 1 se + ez s 2 se + ez s 3 se + ez s 4 se + ez s 5 se
def dse (D : DV) : Nat → List SS := D.2.2.2.2.2.1
def emp (dev : Nat → DV) : Nat := ec 0 (dse (dev 0)) + ec 1 (dse (dev 1)) + ec 2 (dse (dev 2)) + ec 3 (dse (dev 3)) + ec 4 (dse (dev 4)) + ec 5 (dse (dev 5))
def cz1 (S : ST) : Nat := match S.2.2.2.1 with
  | none => 0
  | some _ => 1
def cuts (sto : Nat → ST) : Nat := cz1 (sto 0) + cz1 (sto 1) + cz1 (sto 2) + cz1 (sto 3) + cz1 (sto 4) + cz1 (sto 5)
theorem six {s : Nat} (hs : s < 6) : s = 0 ∨ s = 1 ∨ s = 2 ∨ s = 3 ∨ s = 4 ∨ s = 5 := by omega
theorem emp_set {dev : Nat → DV} {s : Nat} {D : DV} (hs : s < 6) : emp (fset dev s D) + ec s (dse (dev s)) = emp dev + ec s (dse D) := by
  unfold emp
  rcases six hs with rfl | rfl | rfl | rfl | rfl | rfl <;> simp [fset] <;> omega
theorem cuts_set {sto : Nat → ST} {s : Nat} {S : ST} (hs : s < 6) : cuts (fset sto s S) + cz1 (sto s) = cuts sto + cz1 S := by
  unfold cuts
  rcases six hs with rfl | rfl | rfl | rfl | rfl | rfl <;> simp [fset] <;> omega
theorem emp_congr {dev dev' : Nat → DV} (h : ∀ q, q < 6 → dev' q = dev q) : emp dev' = emp dev := by
  unfold emp
  rw [h 0 (by decide), h 1 (by decide), h 2 (by decide), h 3 (by decide), h 4 (by decide), h 5 (by decide)]
theorem ec_le {s : Nat} {se se' : Nat → List SS} (h : ∀ p, p < 6 → (se' p).length = 0 → (se p).length = 0) : ec s se' ≤ ec s se := by
  have e : ∀ p, p < 6 → ez s p se' ≤ ez s p se := fun p hp => by
    unfold ez
    by_cases c : p ≠ s ∧ (se' p).length = 0
    · rw [if_pos c, if_pos ⟨c.1, h p hp c.2⟩]; exact Nat.le_refl _
    · rw [if_neg c]; exact Nat.zero_le _
  have e0 := e 0 (by decide)
  have e1 := e 1 (by decide)
  have e2 := e 2 (by decide)
  have e3 := e 3 (by decide)
  have e4 := e 4 (by decide)
  have e5 := e 5 (by decide)
  unfold ec
  omega
/-- the sessions begun are no longer wanting -/
theorem ec_bgn {s : Nat} {se se' : Nat → List SS} (hs : (se' s).length = 0) (h : ∀ p, p < 6 → (se' p).length = 0 → (se p).length = 0) : ec s se' + bgn se se' 6 0 ≤ ec s se := by
  have e : ∀ p, p < 6 → ez s p se' + (if (se p).length = 0 ∧ (se' p).length ≠ 0 then 1 else 0) ≤ ez s p se := fun p hp => by
    unfold ez
    by_cases c : (se' p).length = 0
    · have := h p hp c
      have e2 : (if (se p).length = 0 ∧ (se' p).length ≠ 0 then 1 else 0) = 0 := if_neg (fun q => q.2 c)
      rw [e2]
      by_cases c2 : p ≠ s
      · rw [if_pos ⟨c2, c⟩, if_pos ⟨c2, this⟩]; exact Nat.le_refl _
      · rw [if_neg (fun q : p ≠ s ∧ _ => c2 q.1)]; exact Nat.zero_le _
    · have c2 : p ≠ s := fun q => c (by rw [q]; exact hs)
      rw [if_neg (fun q => c q.2)]
      by_cases c3 : (se p).length = 0
      · rw [if_pos ⟨c3, c⟩, if_pos ⟨c2, c3⟩]; exact Nat.le_refl _
      · rw [if_neg (fun q => c3 q.1)]; exact Nat.zero_le _
  have e0 := e 0 (by decide)
  have e1 := e 1 (by decide)
  have e2 := e 2 (by decide)
  have e3 := e 3 (by decide)
  have e4 := e 4 (by decide)
  have e5 := e 5 (by decide)
  have eb : bgn se se' 6 0 = (if (se 0).length = 0 ∧ (se' 0).length ≠ 0 then 1 else 0) + ((if (se 1).length = 0 ∧ (se' 1).length ≠ 0 then 1 else 0) + ((if (se 2).length = 0 ∧ (se' 2).length ≠ 0 then 1 else 0) + ((if (se 3).length = 0 ∧ (se' 3).length ≠ 0 then 1 else 0) + ((if (se 4).length = 0 ∧ (se' 4).length ≠ 0 then 1 else 0) + ((if (se 5).length = 0 ∧ (se' 5).length ≠ 0 then 1 else 0) + 0))))) := rfl
  rw [eb]
  unfold ec
  omega
theorem cut_none {p0 : Bool} {P W : EN2} {c : Option Nat} : (st_commit p0 P c W).2.2.2.2.1 = none := by
  unfold st_commit
  split <;> rfl
theorem cut_some {p0 : Bool} {P W : EN2} {c : Option Nat} (h : (st_commit p0 P c W).1 ≠ 2) : c ≠ none := by
  intro e
  subst e
  apply h
  unfold st_commit
  have e : st_made none (bk W.length + 1 + bk P.length) = bk W.length + 1 + bk P.length := rfl
  rw [e, if_neg (by omega), if_neg (by omega)]
theorem cz1_commit {p0 : Bool} {P W : EN2} {c : Option Nat} : cz1 (st_commit p0 P c W).2 = 0 := by
  unfold cz1
  rw [cut_none]
theorem cz1_was {p0 dn : Bool} {P O : EN2} {c : Option Nat} (h : c ≠ none) : cz1 (p0, P, O, c, dn) = 1 := by
  unfold cz1
  cases c with
  | none => exact absurd rfl h
  | some k => rfl
/-- both objects tell one state -/
def J (N S n : Nat) (B : bm_H) (DL : List (Int32 × Int32)) (dev : Nat → DV) (sto : Nat → ST) (ws : List (Tm × Int32)) (dir reg : Nat → Tm) (seen : List Tm) (G : Tm → Prop) (L : LG) (ls : List RL) (lo : Nat → Int32) (R : RR) : Prop := ∃ (f : Nat → Int32) (A : Nat → Nat → Int32) (T T' : List Tm) (K Kw : Tm → Prop) (ca rm kc kl rk M ln : Nat) (wt : List Tm) (π : Nat → Nat) (w : Nat → SW) (dv : Nat → DV) (ids : Nat → Tm), (CK B mX N S M ln T DL.length K ca rm kc kl rk ∧ RH B T ws wt L ids dir reg seen π w dv sto ∧ (∀ q, q < 6 → dv q = dev q) ∧ ∀ q, q < 6 → ids q = (dev q).1) ∧ (MoS B ∧ mS B = (f, A) ∧ MT f A T' DL G Kw ∧ RS f A T' DL dev sto ws dir reg seen ls lo R) ∧ (KG K G ∧ (∀ y, Kw y → Kn G y) ∧ (f 16 = 0 → ∀ e, e ∈ ls → Kn G e.1 → Kw e.1) ∧ ∀ (i : Nat) (e : LT), L.1[i]? = some e → ∃ u, u < ln ∧ T[u]? = some e.1) ∧ T.length ≤ 100 + 300 * n ∧ T'.length + 10 * emp dev + 50 * cuts sto ≤ 313 + 56 * n ∧ rc (A 1) T'.length ≤ 14 * n
theorem mX_fr {B B' : bm_H} (h : fr (fun y => ¬ mX y) B B') (hM : MoS B) : MoS B' ∧ (mS B').1 = (mS B).1 ∧ ∀ j, 1 ≤ j → j ≤ 46 → (mS B').2 j = (mS B).2 j := by
  have hr : ∀ y, mX y → y < bm_n B → (∀ c k, bm_FI B' c k y = bm_FI B c k y) ∧ (∀ c k, bm_FR B' c k y = bm_FR B c k y) ∧ bm_AI B' y = bm_AI B y ∧ bm_AR B' y = bm_AR B y := fun y h1 h2 => (h.2 y h2).2.2.2 (fun q => q h1)
  have h0 := hr 1482 ⟨by omega, by omega⟩ hM.1.1
  refine ⟨⟨⟨Nat.lt_of_lt_of_le hM.1.1 h.1, (h.2 1482 hM.1.1).1.trans hM.1.2⟩, fun i k a t n hi => ?_⟩, funext fun k => h0.1 12 k, fun j h1 h2 => ?_⟩
  · obtain ⟨a1, a2, a3, a4⟩ := hM.2 i k a t n hi
    exact ⟨(h0.2.1 12 k).trans a1, Nat.lt_of_lt_of_le a2 h.1, (h.2 _ a2).1.trans a3, (h.2 _ a2).2.1.trans a4⟩
  · have hb : ∃ (i k t n : Nat), mTab[i]? = some (k, j, t, n) := by
      have key : ∀ j : Fin 46, (mTab[j.val]?.map fun q => q.2.1) = some (j.val + 1) := by decide
      have h3 := key ⟨j - 1, by omega⟩
      obtain ⟨⟨k, a, t, n⟩, e1, e2⟩ := Option.map_eq_some_iff.mp h3
      have e2 : a = j - 1 + 1 := e2
      have e2 : a = j := by omega
      subst e2
      exact ⟨_, k, t, n, e1⟩
    obtain ⟨i, k, t, n, hi⟩ := hb
    exact (hr (1482 + j) ⟨by omega, by omega⟩ (hM.2 i k j t n hi).2.1).2.2.1
theorem MT_same {f : Nat → Int32} {A A' : Nat → Nat → Int32} {T : List Tm} {DL : List (Int32 × Int32)} {G W : Tm → Prop} (h : MT f A T DL G W) (e : ∀ j, 1 ≤ j → j ≤ 46 → A' j = A j) : MT f A' T DL G W := MT_i h rfl rfl (e 1 (by decide) (by decide)) (e 2 (by decide) (by decide)) (e 3 (by decide) (by decide)) (e 4 (by decide) (by decide)) (e 5 (by decide) (by decide)) (e 6 (by decide) (by decide)) (e 7 (by decide) (by decide)) (e 8 (by decide) (by decide))
theorem RS_same {f : Nat → Int32} {A A' : Nat → Nat → Int32} {T : List Tm} {DL : List (Int32 × Int32)} {dev : Nat → DV} {sto : Nat → ST} {ws : List (Tm × Int32)} {dir reg : Nat → Tm} {seen : List Tm} {ls : List RL} {lo : Nat → Int32} {R : RR} (hS : RS f A T DL dev sto ws dir reg seen ls lo R) (e : ∀ j, 1 ≤ j → j ≤ 46 → A' j = A j) : RS f A' T DL dev sto ws dir reg seen ls lo R := by
  obtain ⟨dt, db, rt, fl, ll, tl, tf, tg, tm, ck, fo, du⟩ := R
  obtain ⟨⟨q1, q2, q3⟩, ⟨q4, q5, q6, q7, q8, q9⟩, ⟨q10, q12⟩, q13, ⟨q17, q17b, q17c⟩, ⟨q18, q19⟩, q20, q21, q22, q23⟩ := hS
  have E : ∀ {j : Nat}, 1 ≤ j → j ≤ 46 → A' j = A j := fun {j} a b => e j a b
  exact ⟨⟨fun p hp => by rw [E (j := 16) (by decide) (by decide)]; exact q1 p hp, fun p hp => by rw [E (j := 14) (by decide) (by decide)]; exact q2 p hp, fun p hp => qSt_c (List.prefix_refl T) (by rw [E (j := 21) (by decide) (by decide)]) (by rw [E (j := 22) (by decide) (by decide)]) (by rw [E (j := 23) (by decide) (by decide)]) (fun _ _ => by rw [E (j := 20) (by decide) (by decide)]) (fun _ _ _ _ => by rw [E (j := 19) (by decide) (by decide)]) (fun _ _ _ _ => by rw [E (j := 18) (by decide) (by decide)]) (q3 p hp)⟩, ⟨qWi_m (List.prefix_refl T) rfl (E (by decide) (by decide)) (E (by decide) (by decide)) q4, fun i hi => by rw [E (j := 17) (by decide) (by decide)]; exact q5 i hi, fun i hi => by rw [E (j := 45) (by decide) (by decide)]; exact q6 i hi, q7, q8, fun i X hX => by rw [E (j := 46) (by decide) (by decide)]; exact q9 i X hX⟩, ⟨qLs_m (List.prefix_refl T) rfl (fun j j1 j2 => E (by omega) (by omega)) q10, (E (by decide) (by decide)).trans q12⟩, q13, ⟨(E (by decide) (by decide)).trans q17, (E (by decide) (by decide)).trans q17b, (E (by decide) (by decide)).trans q17c⟩, ⟨(E (by decide) (by decide)).trans q18, (E (by decide) (by decide)).trans q19⟩, (E (by decide) (by decide)).trans q20, (E (by decide) (by decide)).trans q21, (E (by decide) (by decide)).trans q22, (E (by decide) (by decide)).trans q23⟩
theorem RS_dev {f : Nat → Int32} {A : Nat → Nat → Int32} {T : List Tm} {DL : List (Int32 × Int32)} {dev dev' : Nat → DV} {sto : Nat → ST} {ws : List (Tm × Int32)} {dir reg : Nat → Tm} {seen : List Tm} {ls : List RL} {lo : Nat → Int32} {R : RR} (hS : RS f A T DL dev sto ws dir reg seen ls lo R) (e : ∀ q, q < 6 → dev' q = dev q) : RS f A T DL dev' sto ws dir reg seen ls lo R := ⟨⟨fun p hp => by rw [e p hp]; exact hS.1.1 p hp, fun p hp => by rw [e p hp]; exact hS.1.2.1 p hp, hS.1.2.2⟩, hS.2⟩
theorem CK_mo {B B' : bm_H} {N S M ln : Nat} {T : List Tm} {dr : Nat} {K : Tm → Prop} {ca rm kc kl rk : Nat} (h : CK B mX N S M ln T dr K ca rm kc kl rk) (hf : fz mX B B') : CK B' mX N S M ln T dr K ca rm kc kl rk := by
  obtain ⟨h1, h2, h3, h4, h5, h6, h7, h8, h9, h10⟩ := h
  have hT := TI_fr h1 hf.1 (fun q => by unfold mX at q; omega) h8.1 (fun q => by unfold mX at q; omega)
  exact ⟨hT, KI_mono h2 hT (List.prefix_refl T) hf.1 (fun q => by unfold mX at q; omega) h8.2.1 h8.2.2, h3, h4, h5, h6, h7, h8, by rw [hf.2.1, hf.2.2]; exact h9, by rw [hf.2.1]; exact h10⟩
theorem RH_mo {B B' : bm_H} {T : List Tm} {ws : List (Tm × Int32)} {wt : List Tm} {G : LG} {ids dir reg : Nat → Tm} {seen : List Tm} {π : Nat → Nat} {w : Nat → SW} {dev : Nat → DV} {sto : Nat → ST} (h : RH B T ws wt G ids dir reg seen π w dev sto) (hf : fz mX B B') : RH B' T ws wt G ids dir reg seen π w dev sto := RH_fr h hf.1 (fun y q z => by unfold mX at z; omega) (List.prefix_refl T)
/-- the class's answer, then the reference's -/
def PR (sc : tm_X) (d jc jm : Nat) (as : List Value) (B : bm_H) (Q : Int32 → Int32 → bm_H → Prop) : Prop := bm_Gi sc d jc (.ref 0 :: as) B (fun x B1 => (1482 < bm_n B1 ∧ bm_K B1 1482 = 12) ∧ bm_Gi sc d jm (.ref 1482 :: as) B1 (fun y B2 => Q x y B2))
theorem m_run {sc : tm_X} {d j : Nat} {as : List Value} {B : bm_H} {f : Nat → Int32} {A : Nat → Nat → Int32} {Q : Int32 → bm_H → Prop} (hM : MoS B) (hs : mS B = (f, A)) (h : mGi sc d j as (f, A) (fun y s => ∀ B2, mF B B2 → mS B2 = s → Q y B2)) : (1482 < bm_n B ∧ bm_K B 1482 = 12) ∧ bm_Gi sc d j as B Q := by
  refine ⟨hM.1, g_mono (fun r B' q => ?_) (h B hM hs)⟩
  obtain ⟨q1, x, q2, q3⟩ := q
  exact ⟨x, q2, q3 B' q1 rfl⟩
/-- the joint state, put together again -/
theorem J_mk {N S n : Nat} {B1 B2 : bm_H} {DL : List (Int32 × Int32)} {dev dv : Nat → DV} {sto : Nat → ST} {ws : List (Tm × Int32)} {wt : List Tm} {ids dir reg : Nat → Tm} {seen : List Tm} {G K Kw : Tm → Prop} {L : LG} {ls : List RL} {lo : Nat → Int32} {R : RR} {f : Nat → Int32} {A : Nat → Nat → Int32} {T T' : List Tm} {ca rm kc kl rk M ln : Nat} {π : Nat → Nat} {w : Nat → SW} (hF : mF B1 B2) (hs : mS B2 = (f, A)) (hC : CK B1 mX N S M ln T DL.length K ca rm kc kl rk) (hH : RH B1 T ws wt L ids dir reg seen π w dv sto) (hdv : ∀ q, q < 6 → dv q = dev q) (hid : ∀ q, q < 6 → ids q = (dev q).1) (hM : MT f A T' DL G Kw) (hS : RS f A T' DL dev sto ws dir reg seen ls lo R) (hKG : KG K G) (hKs : ∀ y, Kw y → Kn G y) (h16 : f 16 = 0 → ∀ e, e ∈ ls → Kn G e.1 → Kw e.1) (hlk : ∀ (i : Nat) (e : LT), L.1[i]? = some e → ∃ u, u < ln ∧ T[u]? = some e.1) (hTl : T.length ≤ 100 + 300 * n) (hPh : T'.length + 10 * emp dev + 50 * cuts sto ≤ 313 + 56 * n) (hrc : rc (A 1) T'.length ≤ 14 * n) : J N S n B2 DL dev sto ws dir reg seen G L ls lo R := ⟨f, A, T, T', K, Kw, ca, rm, kc, kl, rk, M, ln, wt, π, w, dv, ids, ⟨CK_mo hC hF.1, RH_mo hH hF.1, hdv, hid⟩, ⟨hF.2, hs, hM, hS⟩, ⟨hKG, hKs, h16, hlk⟩, hTl, hPh, hrc⟩
theorem lk_mono {L : List LT} {T T' : List Tm} {ln ln' : Nat} (h : ∀ (i : Nat) (e : LT), L[i]? = some e → ∃ u, u < ln ∧ T[u]? = some e.1) (hT : T <+: T') (hl : ln ≤ ln') : ∀ (i : Nat) (e : LT), L[i]? = some e → ∃ u, u < ln' ∧ T'[u]? = some e.1 := fun i e he => by
  obtain ⟨u, h1, h2⟩ := h i e he
  exact ⟨u, by omega, (pre_get hT (tv_lt h2)).trans h2⟩
/-- what is known stays right when nothing new was given -/
theorem st_keep {f f1 : Nat → Int32} {G Kw : Tm → Prop} {ls : List RL} (h : f 16 = 0 → ∀ e, e ∈ ls → Kn G e.1 → Kw e.1) (e : f1 16 = 1 ∨ f1 16 = f 16) : f1 16 = 0 → ∀ e, e ∈ ls → Kn G e.1 → Kw e.1 := fun q => h (by
  rcases e with e | e
  · rw [e] at q; exact absurd q (by decide)
  · rw [← e]; exact q)
theorem st_give {f f1 : Nat → Int32} {G G' Kw : Tm → Prop} {ls : List RL} (h : f 16 = 0 → ∀ e, e ∈ ls → Kn G e.1 → Kw e.1) (e : f1 16 = 1 ∨ (f1 16 = f 16 ∧ ∀ y, G' y → Kn G y)) : f1 16 = 0 → ∀ e, e ∈ ls → Kn G' e.1 → Kw e.1 := fun q x hx hk => by
  rcases e with e | e
  · rw [e] at q; exact absurd q (by decide)
  · exact h (by rw [← e.1]; exact q) x hx (Kn_of e.2 hk)
