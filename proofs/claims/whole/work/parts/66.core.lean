/-! Knowledge kept while terms are made; the class's core (Terms, Knowledge) told by values -/
theorem KK_fr {X : Nat → Prop} {B B' : bm_H} {k a kc kl rk sp ln e0 N : Nat} {L : List Nat} {fp : Nat → Nat} (h : KK B k a kc kl rk L sp ln e0 N fp) (hf : fr X B B') (n1 : ¬ X k) (n2 : ¬ X kc) (n3 : ¬ X kl) : KK B' k a kc kl rk L sp ln e0 N fp := by
  obtain ⟨⟨⟨h1, h2⟩, ⟨r0, r1, r2⟩, ⟨⟨c1, c2, c3⟩, c4, c5, c6⟩, ⟨i3, i4, i5⟩, h7, h8⟩, g1, g2, g3, g4, g5, g6⟩ := h
  have e := fun j => fr_FI hf h1 n1 3 j
  have er := fun j => fr_FR hf h1 n1 3 j
  have ec := fr_AI hf c1 n2
  have el := fr_AI hf c4 n3
  exact ⟨⟨⟨fr_lt hf h1, (fr_K hf h1).trans h2⟩, ⟨(er 0).trans r0, (er 1).trans r1, (er 2).trans r2⟩, ⟨⟨fr_lt hf c1, (fr_K hf c1).trans c2, (fr_AL hf c1).trans c3⟩, fr_lt hf c4, (fr_K hf c4).trans c5, (fr_AL hf c4).trans c6⟩, ⟨(e 3).trans i3, (e 4).trans i4, (e 5).trans i5⟩, h7, h8⟩, by rw [el]; exact g1, g2, by rw [ec]; exact g3, by rw [ec]; exact g4, by rw [ec]; exact g5, g6⟩
theorem pre_get {α : Type} {T T' : List α} (h : T <+: T') {v : Nat} (hv : v < T.length) : T'[v]? = T[v]? := by
  obtain ⟨t, rfl⟩ := h
  exact List.getElem?_append_left hv
theorem KI_mono {X : Nat → Prop} {B B' : bm_H} {k a kc kl rk ln ca ba da rm dr : Nat} {T T' : List Tm} {G : Tm → Prop} (h : KI B k a kc kl rk ln T G) (hT' : TI B' a ca ba da rm dr T') (hp : T <+: T') (hf : fr X B B') (n1 : ¬ X k) (n2 : ¬ X kc) (n3 : ¬ X kl) : KI B' k a kc kl rk ln T' G := by
  obtain ⟨L, fp, h1, h2, h3, h4, h5, h6⟩ := h
  obtain ⟨gp, hg⟩ := pp_ex hT'
  have hL : ∀ v, v ∈ L → v < T.length := fun v hv => Nat.lt_of_lt_of_le (h2.2.2.1.2 v hv).2 h3
  have hKL : KL T' L = KL T L := by
    funext x
    refine propext ⟨fun q => q.elim Or.inl (fun ⟨v, hv, e⟩ => Or.inr ⟨v, hv, (pre_get hp (hL v hv)) ▸ e⟩), fun q => q.elim Or.inl (fun ⟨v, hv, e⟩ => Or.inr ⟨v, hv, (pre_get hp (hL v hv)).trans e⟩)⟩
  have hlt := TI_lt hT'
  refine ⟨L, gp, hg, KK_fp (KK_fr h2 hf n1 n2 n3) (fun e e4 eN => ?_), Nat.le_trans h3 hp.length_le, fun v hv x hx => h4 v hv x ((pre_get hp (hL v hv)) ▸ hx), ?_, fun x hx => by rw [hKL]; exact h6 x hx⟩
  · have hu : e / 4 < T.length := by omega
    obtain ⟨A, hA⟩ : ∃ A, T[e / 4]? = some A := ⟨_, List.getElem?_eq_getElem hu⟩
    have a1 := h1 (e / 4) A (e % 4) (by omega) hA (by omega)
    have a2 := hg (e / 4) A (e % 4) (by omega) ((pre_get hp hu).trans hA) (by omega)
    rw [show e / 4 * 4 + e % 4 = e by omega] at a1 a2
    have t1 : tv T' (nI (fp e)) (pt A (e % 4)) := ⟨_, rfl, (pre_get hp (by omega)).trans a1.2⟩
    have := TI_inj hT' t1 ⟨_, rfl, a2.2⟩
    have hl := hp.length_le
    exact (nI_eq (by omega) (by omega)).mp this
  · unfold clP at h5 ⊢
    rw [hKL]
    obtain ⟨q1, q2, q3, q4, q5⟩ := h5
    exact ⟨fun u A u0 uN hA => q1 u A u0 uN ((pre_get hp (Nat.lt_of_lt_of_le uN h3)) ▸ hA), fun u A hu hA => q2 u A hu ((pre_get hp (hL u hu)) ▸ hA), fun u A hu hA => q3 u A hu ((pre_get hp (hL u hu)) ▸ hA), fun u A hu hA => q4 u A hu ((pre_get hp (hL u hu)) ▸ hA), fun u A hu hA => q5 u A hu ((pre_get hp (hL u hu)) ▸ hA)⟩
/-- room for 256 more terms -/
theorem t_room {sc : tm_X} {d : Nat} {B : bm_H} {a ca ba da rm dr : Nat} {T : List Tm} {Q : Int32 → bm_H → Prop} (h : TI B a ca ba da rm dr T) (h1 : 1024 ≤ rm) (hT : T.length ≤ 30000) (kk : ∀ B' ca' rm', TI B' a ca' ba da rm' dr T → T.length + 256 ≤ rm' → 1024 ≤ rm' → fr (fun x => x = a) B B' → (ca' = ca ∨ bm_n B ≤ ca') → bm_FI B' 9 4 a = bm_FI B 9 4 a → (bm_sl B' + 22 * (65536 - rm') ≤ bm_sl B + 22 * (65536 - rm) ∧ bm_n B' + (65536 - rm') ≤ bm_n B + (65536 - rm)) → (rm' = rm ∨ rm' = rm * 2) → Q 1 B') : bm_Gi sc (d + 2) 34 [.ref a] B Q := by
  have hl := TI_len h
  refine k_Te_hasRoom h.1 (fun w => kk B ca rm h w h1 (fr_rfl _ _) (Or.inl rfl) rfl ⟨Nat.le_refl _, Nat.le_refl _⟩ (Or.inl rfl)) (fun w1 w2 => ?_) (fun w1 w2 => by omega)
  obtain ⟨⟨⟨a1, a2⟩, ⟨a3, a4, a5⟩, ⟨⟨b1, b2, b3⟩, ⟨b4, b5, b6⟩, b7, b8, b9⟩, ⟨e1, e2, e3⟩, ⟨e4, e5, e6⟩, e7, e8, e9⟩, t2, t3, t4, t5, t6⟩ := h
  have hnew : ∀ x, x < bm_n B → x ≠ bm_n B := fun x hx => Nat.ne_of_lt hx
  have hAI : ∀ x, x < bm_n B → bm_AI (te_grow B a ca rm) x = bm_AI B x := fun x hx => by
    funext q
    show (if x = bm_n B then _ else (if x = bm_n B then _ else bm_AI B x q)) = _
    rw [if_neg (hnew x hx), if_neg (hnew x hx)]
  have hK : ∀ x, x < bm_n B → bm_K (te_grow B a ca rm) x = bm_K B x := fun x hx => va_up_ne _ _ (hnew x hx)
  have hAL : ∀ x, x < bm_n B → bm_AL (te_grow B a ca rm) x = bm_AL B x := fun x hx => va_up_ne _ _ (hnew x hx)
  have hnc : ∀ q, q < rm * 11 → bm_AI (te_grow B a ca rm) (bm_n B) q = bm_AI B ca q := fun q hq => by
    show (if bm_n B = bm_n B then (if q < rm * 11 then bm_AI B ca q else 0) else _) = _
    rw [if_pos rfl, if_pos hq]
  have hFR : ∀ c k x, ¬ (c = 9 ∧ k = 0 ∧ x = a) → bm_FR (te_grow B a ca rm) c k x = bm_FR B c k x := fun c k x q => if_neg q
  have hrow : ∀ i k, i < T.length → k < 11 → bm_AI (te_grow B a ca rm) (bm_n B) (i * 11 + k) = bm_AI B ca (i * 11 + k) := fun i k hi hk => hnc _ (by omega)
  refine kk _ (bm_n B) (rm * 2) ⟨⟨⟨Nat.lt_succ_of_lt a1, (hK a a1).trans a2⟩, ⟨if_pos ⟨rfl, rfl, rfl⟩, (hFR 9 1 a (by simp)).trans a4, (hFR 9 2 a (by simp)).trans a5⟩, ⟨⟨Nat.lt_succ_self _, va_up_self _ _ _, va_up_self _ _ _⟩, ⟨Nat.lt_succ_of_lt b4, (hK ba b4).trans b5, (hAL ba b4).trans b6⟩, Nat.lt_succ_of_lt b7, (hK da b7).trans b8, (hAL da b7).trans b9⟩, ⟨if_pos ⟨rfl, rfl, rfl⟩, e2, e3⟩, ⟨e4, by omega, by omega⟩, (hnew ba b4).symm, (hnew da b7).symm, e9⟩, ?_, ⟨t3.1, fun i A i0 hA => ?_⟩, t4, t5, t6⟩ (by omega) (by omega) ⟨Nat.le_succ _, fun x hx => ⟨hK x hx, hAL x hx, fun c k q => hFR c k x (fun w => by rw [w.1, w.2.1] at q; exact absurd q (by decide)), fun q => ⟨fun c k => if_neg (fun w => q w.2.2), fun c k => hFR c k x (fun w => q w.2.2), hAI x hx, ?_⟩⟩⟩ (Or.inr (Nat.le_refl _)) rfl ⟨?_, ?_⟩ (Or.inr rfl)
  · rw [hAI ba b4]
    have hl2 : ∀ s n, n ≤ T.length → te_last (bm_AI (te_grow B a ca rm) (bm_n B)) s n = te_last (bm_AI B ca) s n := fun s n hn => te_last_congr (fun t ht k hk => hrow t k (by omega) (by omega))
    refine ⟨fun s hs => by rw [hl2 s _ (Nat.le_refl _)]; exact t2.1 s hs, fun t t0 t1 => ?_, fun t u t0 t1 u0 u1 heq => t2.2.2 t u t0 t1 u0 u1 (fun k hk => ?_)⟩
    · rw [hrow t 10 t1 (by decide), te_sn_congr (f := te_row (bm_AI (te_grow B a ca rm) (bm_n B)) t) (g := te_row (bm_AI B ca) t) (fun k hk => hrow t k t1 (by omega)), hl2 _ t (by omega)]
      exact t2.2.1 t t0 t1
    · have := heq k hk
      unfold te_row at this ⊢
      rwa [hrow t k t1 (by omega), hrow u k u1 (by omega)] at this
  · have hi := tv_lt hA
    have g0 : bm_AI (te_grow B a ca rm) (bm_n B) (i * 11) = bm_AI B ca (i * 11) := hrow i 0 hi (by decide)
    rw [g0, hrow i 1 hi (by decide), hrow i 2 hi (by decide), hrow i 3 hi (by decide), hrow i 4 hi (by decide), hrow i 5 hi (by decide), hrow i 6 hi (by decide), hrow i 7 hi (by decide), hrow i 8 hi (by decide), hrow i 9 hi (by decide)]
    exact t3.2 i A i0 hA
  · funext i
    show (if x = bm_n B then _ else bm_AR B x i) = _
    rw [if_neg (hnew x hx)]
  · show bm_sl B + rm * 2 * 11 + _ ≤ _
    omega
  · show bm_n B + 1 + _ ≤ _
    omega
/-- Terms at 1 .. 4, Knowledge at 5 .. 7; F: what isn't the class's; N, S: cells and slots; M: so many terms have room -/
def CK (B : bm_H) (F : Nat → Prop) (N S M ln : Nat) (T : List Tm) (dr : Nat) (G : Tm → Prop) (ca rm kc kl rk : Nat) : Prop := TI B 1 ca 3 4 rm dr T ∧ KI B 5 1 kc kl rk ln T G ∧ kt_ap kc kl ca 3 4 ∧ (2 * rk ≤ rm ∨ rk = rm) ∧ (1024 ≤ rm ∧ M ≤ rm) ∧ (ca = 2 ∨ 1482 ≤ ca) ∧ ((kc = 6 ∧ kl = 7) ∨ (1482 ≤ kc ∧ 1482 ≤ kl)) ∧ (¬ F ca ∧ ¬ F kc ∧ ¬ F kl) ∧ (bm_sl B + 22 * (65536 - rm) + 14 * (65536 - rk) ≤ S ∧ bm_n B + (65536 - rm) + 2 * (65536 - rk) ≤ N) ∧ (1482 ≤ bm_n B ∧ ∀ y, F y → 1482 ≤ y ∧ y < bm_n B)
/-- what may change when Terms and Knowledge work -/
def xc (F : Nat → Prop) (y : Nat) : Prop := (0 < y ∧ y < 8) ∨ (1482 ≤ y ∧ ¬ F y)
theorem CK_tcs {B : bm_H} {F : Nat → Prop} {N S M ln : Nat} {T : List Tm} {dr : Nat} {G : Tm → Prop} {ca rm kc kl rk : Nat} (h : CK B F N S M ln T dr G ca rm kc kl rk) {y : Nat} (h8 : 8 ≤ y) (h9 : y < 1482) : ¬ tcs 1 ca 3 4 y := by
  have := h.2.2.2.2.2.1
  unfold tcs
  omega
theorem CK_xc {B : bm_H} {F : Nat → Prop} {N S M ln : Nat} {T : List Tm} {dr : Nat} {G : Tm → Prop} {ca rm kc kl rk : Nat} (h : CK B F N S M ln T dr G ca rm kc kl rk) (y : Nat) (q : tcs 1 ca 3 4 y) : xc F y := by
  have h1 := h.2.2.2.2.2.1
  have h2 := h.2.2.2.2.2.2.2.1.1
  unfold tcs at q
  unfold xc
  rcases q with q | q | q | q
  · exact Or.inl (by omega)
  · rcases h1 with h1 | h1
    · exact Or.inl (by omega)
    · exact Or.inr ⟨by omega, q ▸ h2⟩
  · exact Or.inl (by omega)
  · exact Or.inl (by omega)
/-- terms were made, cells of the class (8 .. 1481) may have changed -/
theorem CK_made {X : Nat → Prop} {B B' : bm_H} {F : Nat → Prop} {N S M ln : Nat} {T T' : List Tm} {dr dr' : Nat} {G : Tm → Prop} {ca rm kc kl rk : Nat} (h : CK B F N S M ln T dr G ca rm kc kl rk) (hT : TI B' 1 ca 3 4 rm dr' T') (hp : T <+: T') (hf : fz X B B') (hX : ∀ y, X y → tcs 1 ca 3 4 y ∨ (8 ≤ y ∧ y < 1482)) : CK B' F N S M ln T' dr' G ca rm kc kl rk := by
  obtain ⟨h1, h2, h3, h4, h5, h6, h7, h8, h9, h10⟩ := h
  have hk : ∀ y, (y = 5 ∨ y = kc ∨ y = kl) → ¬ X y := fun y hy q => by
    obtain ⟨⟨a1, a2, a3⟩, b1, b2, b3⟩ := h3
    rcases hX y q with q | q
    · unfold tcs at q; omega
    · omega
  exact ⟨hT, KI_mono h2 hT hp hf.1 (hk 5 (by omega)) (hk kc (by omega)) (hk kl (by omega)), h3, h4, h5, h6, h7, h8, by rw [hf.2.1, hf.2.2]; exact h9, by rw [hf.2.1]; exact h10⟩
/-- a term is given to the attacker -/
theorem t_giveC {sc : tm_X} {d : Nat} {B : bm_H} {F : Nat → Prop} {N S M ln : Nat} {T : List Tm} {dr : Nat} {G : Tm → Prop} {ca rm kc kl rk : Nat} {x : Int32} {A : Tm} {Q : bm_H → Prop} (h : CK B F N S M ln T dr G ca rm kc kl rk) (hx : tv T x A) (kk : ∀ B' kc' kl' rk', CK B' F N S M T.length T dr (fun y => G y ∨ y = A) ca rm kc' kl' rk' → fr (xc F) B B' → Q B') : bm_Gv sc (d + 3) 18 [.ref 5, .int x] B Q := by
  obtain ⟨h1, h2, h3, h4, h5, h6, h7, h8, ⟨h9, h9'⟩, h10⟩ := h
  refine t_give h1 h2 h3 h4 hx (fun B' kc' kl' rk' q1 q2 q3 q4 q5 q6 => ?_)
  have hn : kc' < bm_n B' ∧ kl' < bm_n B' := by
    obtain ⟨L, fp, -, hK, -⟩ := q2
    exact ⟨hK.1.2.2.1.1.1, hK.1.2.2.1.2.1⟩
  refine kk B' kc' kl' rk' ⟨q1, q2, q3, Or.inr q6.1, h5, h6, ?_, ⟨h8.1, ?_, ?_⟩, ⟨by omega, by omega⟩, Nat.le_trans h10.1 q4.1, fun y hy => ⟨(h10.2 y hy).1, Nat.lt_of_lt_of_le (h10.2 y hy).2 q4.1⟩⟩ (fr_mono (fun y q => ?_) q4)
  · rcases q5 with ⟨rfl, rfl⟩ | q5
    · exact h7
    · exact Or.inr (by omega)
  · rcases q5 with ⟨rfl, rfl⟩ | q5
    · exact h8.2.1
    · exact fun q => by have := h10.2 _ q; omega
  · rcases q5 with ⟨rfl, rfl⟩ | q5
    · exact h8.2.2
    · exact fun q => by have := h10.2 _ q; omega
  · unfold kx at q
    unfold xc
    rcases q with q | q | q
    · exact Or.inl (by omega)
    · rcases h7 with h7 | h7
      · exact Or.inl (by omega)
      · exact Or.inr ⟨by omega, q ▸ h8.2.1⟩
    · rcases h7 with h7 | h7
      · exact Or.inl (by omega)
      · exact Or.inr ⟨by omega, q ▸ h8.2.2⟩
theorem t_roomC {sc : tm_X} {d : Nat} {B : bm_H} {F : Nat → Prop} {N S M ln : Nat} {T : List Tm} {dr : Nat} {G : Tm → Prop} {ca rm kc kl rk : Nat} {Q : Int32 → bm_H → Prop} (h : CK B F N S M ln T dr G ca rm kc kl rk) (hT : T.length ≤ 30000) (kk : ∀ B' ca' rm', CK B' F N S (T.length + 256) ln T dr G ca' rm' kc kl rk → fr (fun y => y = 1) B B' → Q 1 B') : bm_Gi sc (d + 2) 34 [.ref 1] B Q := by
  obtain ⟨h1, h2, h3, h4, h5, h6, h7, h8, ⟨h9, h9'⟩, h10⟩ := h
  have hn : kc < bm_n B ∧ kl < bm_n B := by
    obtain ⟨L, fp, -, hK, -⟩ := h2
    exact ⟨hK.1.2.2.1.1.1, hK.1.2.2.1.2.1⟩
  refine t_room h1 h5.1 hT (fun B' ca' rm' q1 q2 q3 q4 q5 _ q6 q7 => ?_)
  have hk1 : ¬ kc = 1 ∧ ¬ kl = 1 := by omega
  obtain ⟨⟨a1, a2, a3⟩, a4, a5, a6⟩ := h3
  refine kk B' ca' rm' ⟨q1, KI_mono h2 q1 (List.prefix_refl T) q4 (by decide) hk1.1 hk1.2, ⟨⟨?_, a2, a3⟩, ?_, a5, a6⟩, by omega, ⟨q3, q2⟩, ?_, h7, ⟨?_, h8.2.1, h8.2.2⟩, ⟨by omega, by omega⟩, Nat.le_trans h10.1 q4.1, fun y hy => ⟨(h10.2 y hy).1, Nat.lt_of_lt_of_le (h10.2 y hy).2 q4.1⟩⟩ q4
  · rcases q5 with rfl | q5
    · exact a1
    · omega
  · rcases q5 with rfl | q5
    · exact a4
    · omega
  · rcases q5 with rfl | q5
    · exact h6
    · exact Or.inr (by omega)
  · rcases q5 with rfl | q5
    · exact h8.1
    · exact fun q => by have := h10.2 _ q; omega
/-! Wires -/
def WiS (B : bm_H) (q : Nat) : Prop := (q < bm_n B ∧ bm_K B q = 10) ∧ (bm_FR B 10 0 q = some (q + 1) ∧ bm_FR B 10 1 q = some (q + 2)) ∧ (q + 1 < bm_n B ∧ bm_K B (q + 1) = 13 ∧ bm_AL B (q + 1) = 700) ∧ (q + 2 < bm_n B ∧ bm_K B (q + 2) = 13 ∧ bm_AL B (q + 2) = 700)
/-- wires (term, letter), and those that wait -/
def RWi (B : bm_H) (T : List Tm) (q : Nat) (ws : List (Tm × Int32)) (wt : List Tm) : Prop := WiS B q ∧ (bm_FI B 10 2 q = nI ws.length ∧ bm_FI B 10 3 q = nI wt.length ∧ ws.length + wt.length ≤ 700) ∧ (∀ (i : Nat) (e : Tm × Int32), ws[i]? = some e → tv T (bm_AI B (q + 1) i) e.1 ∧ bm_AI B (q + 2) i = e.2) ∧ ∀ (i : Nat) (A : Tm), wt[i]? = some A → tv T (bm_AI B (q + 1) (ws.length + i)) A ∧ bm_AI B (q + 2) (ws.length + i) = -1
theorem WiS_fr {X : Nat → Prop} {B B' : bm_H} {q : Nat} (h : WiS B q) (hf : fr X B B') : WiS B' q := by
  obtain ⟨⟨a1, a2⟩, ⟨a3, a4⟩, ⟨b1, b2, b3⟩, c1, c2, c3⟩ := h
  exact ⟨⟨fr_lt hf a1, (fr_K hf a1).trans a2⟩, ⟨(fr_FS hf a1 10 0 rfl).trans a3, (fr_FS hf a1 10 1 rfl).trans a4⟩, ⟨fr_lt hf b1, (fr_K hf b1).trans b2, (fr_AL hf b1).trans b3⟩, fr_lt hf c1, (fr_K hf c1).trans c2, (fr_AL hf c1).trans c3⟩
theorem RWi_fr {X : Nat → Prop} {B B' : bm_H} {T T' : List Tm} {q : Nat} {ws : List (Tm × Int32)} {wt : List Tm} (h : RWi B T q ws wt) (hf : fr X B B') (n0 : ¬ X q) (n1 : ¬ X (q + 1)) (n2 : ¬ X (q + 2)) (hT : T <+: T') : RWi B' T' q ws wt := by
  obtain ⟨h1, ⟨h2, h3, h4⟩, h5, h6⟩ := h
  have e1 := fr_AI hf h1.2.2.1.1 n1
  have e2 := fr_AI hf h1.2.2.2.1 n2
  exact ⟨WiS_fr h1 hf, ⟨(fr_FI hf h1.1.1 n0 10 2).trans h2, (fr_FI hf h1.1.1 n0 10 3).trans h3, h4⟩, fun i e he => by rw [e1, e2]; exact ⟨tv_mono hT (h5 i e he).1, (h5 i e he).2⟩, fun i A hA => by rw [e1, e2]; exact ⟨tv_mono hT (h6 i A hA).1, (h6 i A hA).2⟩⟩
theorem t_startCall {sc : tm_X} {d q : Nat} {B : bm_H} {T : List Tm} {ws : List (Tm × Int32)} {wt : List Tm} {Q : bm_H → Prop} (hR : RWi B T q ws wt) (kk : ∀ B', RWi B' T q ws [] → fz (fun y => y = q ∨ y = q + 1 ∨ y = q + 2) B B' → Q B') : bm_Gv sc d 42 [.ref q] B Q := by
  show bm_G sc d 42 0 [(0, .ref q)] [] B _
  generalize elv : ([(0, .ref q)] : tm_L) = lv
  have l0 : lv.lookup 0 = some (.ref q) := by rw [← elv]; rfl
  clear elv
  refine g_ald (pc' := 1) cd_Wi_startCall rfl (Or.inr ⟨_, rfl, rfl, rfl⟩) l0 rfl rfl ?_
  refine g_k1 (v := 0) (pc' := 2) cd_Wi_startCall rfl (by decide) rfl ?_
  refine g_putI (c := 10) (k := 3) (pc' := 5) cd_Wi_startCall rfl rfl rfl rfl (by simp [tm_okV, narrow, fits]) (Or.inl rfl) rfl (by decide) hR.1.1.1 hR.1.1.2 ?_
  have P1 : bm_FI (bm_putI B 10 3 q 0) 10 3 q = 0 := if_pos ⟨rfl, rfl, rfl⟩
  have Z2 : fz (fun y => y = q ∨ y = q + 1 ∨ y = q + 2) B (bm_putI B 10 3 q 0) := fz_trans (fz_rfl _ B) ⟨fr_mono (fun _ q => Or.inl q) (fr_putI _ 10 3 q _), rfl, rfl⟩
  exact g_retv cd_Wi_startCall rfl ⟨rfl, (kk _ ⟨hR.1, ⟨hR.2.1.1, P1, by have := hR.2.1.2.2; simp; omega⟩, hR.2.2.1, fun i A h => by simp at h⟩ Z2)⟩
theorem t_Whas {sc : tm_X} {d q : Nat} {B : bm_H} {T : List Tm} {ws : List (Tm × Int32)} {wt : List Tm} {x : Int32} {Q : Int32 → bm_H → Prop} (hR : RWi B T q ws wt) (kk : Q (bz (inR x (nI ws.length))) B) : bm_Gi sc d 104 [.ref q, .int x] B Q := by
  show bm_G sc d 104 0 [(0, .ref q), (1, .int x)] [] B _
  generalize elv : ([(0, .ref q), (1, .int x)] : tm_L) = lv
  have l0 : lv.lookup 0 = some (.ref q) := by rw [← elv]; rfl
  have l1 : lv.lookup 1 = some (.int x) := by rw [← elv]; rfl
  clear elv
  refine g_ild (pc' := 1) cd_Wi_has rfl (Or.inr ⟨_, rfl, rfl, rfl⟩) l1 rfl ?_
  refine g_if1 (t := 16) (pc' := 4) cd_Wi_has rfl rfl rfl (fun c1 => ?_) (fun c1 => ?_)
  · have c1 : x < 0 := c1
    refine g_k1 (v := 0) (pc' := 17) cd_Wi_has rfl (by decide) rfl ?_
    exact g_retz cd_Wi_has rfl (Or.inl rfl) ⟨_, rfl, (bm_eq kk (by rw [inR_lo c1]; rfl))⟩
  · have c1 : ¬ x < 0 := c1
    refine g_ild (pc' := 5) cd_Wi_has rfl (Or.inr ⟨_, rfl, rfl, rfl⟩) l1 rfl ?_
    refine g_ald (pc' := 6) cd_Wi_has rfl (Or.inr ⟨_, rfl, rfl, rfl⟩) l0 rfl rfl ?_
    refine g_fI (c := 10) (k := 2) (x := nI (ws.length)) (pc' := 9) cd_Wi_has rfl rfl rfl rfl rfl (by decide) hR.1.1.1 hR.1.1.2 hR.2.1.1 ?_
    refine g_if2 (t := 16) (pc' := 12) cd_Wi_has rfl rfl rfl (fun c9 => ?_) (fun c9 => ?_)
    · have c9 : (nI (ws.length)) ≤ x := c9
      refine g_k1 (v := 0) (pc' := 17) cd_Wi_has rfl (by decide) rfl ?_
      exact g_retz cd_Wi_has rfl (Or.inl rfl) ⟨_, rfl, (bm_eq kk (by rw [inR_hi c9]; rfl))⟩
    · have c9 : ¬ (nI (ws.length)) ≤ x := c9
      refine g_k1 (v := 1) (pc' := 13) cd_Wi_has rfl (by decide) rfl ?_
      refine g_pure (pc' := 17) (st' := [.int 1]) cd_Wi_has rfl rfl (fun _ _ => rfl) ?_
      exact g_retz cd_Wi_has rfl (Or.inr rfl) ⟨_, rfl, (bm_eq kk (by rw [inR_t c1 c9]; rfl))⟩
theorem t_Wadd {sc : tm_X} {d q : Nat} {B : bm_H} {T : List Tm} {ws : List (Tm × Int32)} {wt : List Tm} {x : Int32} {A : Tm} {Q : bm_H → Prop} (hR : RWi B T q ws wt) (hl : ws.length + wt.length < 700) (hx : tv T x A) (kk : ∀ B', RWi B' T q ws (wt ++ [A]) → fz (fun y => y = q ∨ y = q + 1 ∨ y = q + 2) B B' → Q B') : bm_Gv sc d 90 [.ref q, .int x] B Q := by
  show bm_G sc d 90 0 [(0, .ref q), (1, .int x)] [] B _
  generalize elv : ([(0, .ref q), (1, .int x)] : tm_L) = lv
  have l0 : lv.lookup 0 = some (.ref q) := by rw [← elv]; rfl
  have l1 : lv.lookup 1 = some (.int x) := by rw [← elv]; rfl
  clear elv
  refine g_ald (pc' := 1) cd_Wi_add rfl (Or.inr ⟨_, rfl, rfl, rfl⟩) l0 rfl rfl ?_
  refine g_fI (c := 10) (k := 2) (x := nI (ws.length)) (pc' := 4) cd_Wi_add rfl rfl rfl rfl rfl (by decide) hR.1.1.1 hR.1.1.2 hR.2.1.1 ?_
  refine g_ald (pc' := 5) cd_Wi_add rfl (Or.inr ⟨_, rfl, rfl, rfl⟩) l0 rfl rfl ?_
  refine g_fI (c := 10) (k := 3) (x := nI (wt.length)) (pc' := 8) cd_Wi_add rfl rfl rfl rfl rfl (by decide) hR.1.1.1 hR.1.1.2 hR.2.1.2.1 ?_
  refine g_pure (pc' := 9) (st' := [.int ((nI (ws.length)) + (nI (wt.length)))]) cd_Wi_add rfl rfl (fun _ _ => rfl) ?_
  rw [show ((nI (ws.length)) + (nI (wt.length)) : Int32) = nI ((ws.length) + (wt.length)) from nI_add (ws.length) (wt.length)]
  refine g_k3 (v := 700) (pc' := 12) cd_Wi_add rfl (by decide) rfl ?_
  refine g_if2 (t := 55) (pc' := 15) cd_Wi_add rfl rfl rfl (fun c12 => ?_) (fun c12 => ?_)
  · have c12 : (700 : Int32) ≤ (nI ((ws.length) + (wt.length))) := c12
    exact absurd c12 (nI_ge (b := 700) (by omega) (by decide))
  · have c12 : ¬ (700 : Int32) ≤ (nI ((ws.length) + (wt.length))) := c12
    refine g_ald (pc' := 16) cd_Wi_add rfl (Or.inr ⟨_, rfl, rfl, rfl⟩) l0 rfl rfl ?_
    refine g_fR (c := 10) (k := 0) (x := (q + 1)) (pc' := 19) cd_Wi_add rfl rfl rfl rfl rfl (by decide) hR.1.1.1 hR.1.1.2 hR.1.2.1.1 ?_
    refine g_ald (pc' := 20) cd_Wi_add rfl (Or.inr ⟨_, rfl, rfl, rfl⟩) l0 rfl rfl ?_
    refine g_fI (c := 10) (k := 2) (x := nI (ws.length)) (pc' := 23) cd_Wi_add rfl rfl rfl rfl rfl (by decide) hR.1.1.1 hR.1.1.2 hR.2.1.1 ?_
    refine g_ald (pc' := 24) cd_Wi_add rfl (Or.inr ⟨_, rfl, rfl, rfl⟩) l0 rfl rfl ?_
    refine g_fI (c := 10) (k := 3) (x := nI (wt.length)) (pc' := 27) cd_Wi_add rfl rfl rfl rfl rfl (by decide) hR.1.1.1 hR.1.1.2 hR.2.1.2.1 ?_
    refine g_pure (pc' := 28) (st' := [.int ((nI (ws.length)) + (nI (wt.length))), .ref ((q + 1))]) cd_Wi_add rfl rfl (fun _ _ => rfl) ?_
    rw [show ((nI (ws.length)) + (nI (wt.length)) : Int32) = nI ((ws.length) + (wt.length)) from nI_add (ws.length) (wt.length)]
    refine g_ild (pc' := 29) cd_Wi_add rfl (Or.inr ⟨_, rfl, rfl, rfl⟩) l1 rfl ?_
    refine g_iast (pc' := 30) cd_Wi_add rfl rfl hR.1.2.2.1.1 hR.1.2.2.1.2.1 (by rw [show bm_AL B (q + 1) = 700 from hR.1.2.2.1.2.2]; exact vp_in_nI (by omega) (by decide)) ?_
    rw [show (nI ((ws.length) + (wt.length)) : Int32).toNatClampNeg = ((ws.length) + (wt.length)) from nI_clamp (by omega)]
    have A3 : bm_AI (bm_setI B (q + 1) ((ws.length) + (wt.length)) x) (q + 1) = (upd (bm_AI B (q + 1)) ((ws.length) + (wt.length)) x) := ((AI_set B (q + 1) ((ws.length) + (wt.length)) x).trans (congrArg (fun f => upd f ((ws.length) + (wt.length)) x) (show bm_AI B (q + 1) = (bm_AI B (q + 1)) from rfl)))
    have A4 : bm_AI (bm_setI B (q + 1) ((ws.length) + (wt.length)) x) (q + 2) = (bm_AI B (q + 2)) := ((AI_setn B ((ws.length) + (wt.length)) x (q + 2) (by omega)).trans (show bm_AI B (q + 2) = (bm_AI B (q + 2)) from rfl))
    have Z5 : fz (fun y => y = q ∨ y = q + 1 ∨ y = q + 2) B (bm_setI B (q + 1) ((ws.length) + (wt.length)) x) := fz_trans (fz_rfl _ B) ⟨fr_mono (fun _ q => Or.inr (Or.inl q)) (fr_setI _ (q + 1) _ _), rfl, rfl⟩
    refine g_ald (pc' := 31) cd_Wi_add rfl (Or.inr ⟨_, rfl, rfl, rfl⟩) l0 rfl rfl ?_
    refine g_fR (c := 10) (k := 1) (x := (q + 2)) (pc' := 34) cd_Wi_add rfl rfl rfl rfl rfl (by decide) hR.1.1.1 hR.1.1.2 hR.1.2.1.2 ?_
    refine g_ald (pc' := 35) cd_Wi_add rfl (Or.inr ⟨_, rfl, rfl, rfl⟩) l0 rfl rfl ?_
    refine g_fI (c := 10) (k := 2) (x := nI (ws.length)) (pc' := 38) cd_Wi_add rfl rfl rfl rfl rfl (by decide) hR.1.1.1 hR.1.1.2 hR.2.1.1 ?_
    refine g_ald (pc' := 39) cd_Wi_add rfl (Or.inr ⟨_, rfl, rfl, rfl⟩) l0 rfl rfl ?_
    refine g_fI (c := 10) (k := 3) (x := nI (wt.length)) (pc' := 42) cd_Wi_add rfl rfl rfl rfl rfl (by decide) hR.1.1.1 hR.1.1.2 hR.2.1.2.1 ?_
    refine g_pure (pc' := 43) (st' := [.int ((nI (ws.length)) + (nI (wt.length))), .ref ((q + 2))]) cd_Wi_add rfl rfl (fun _ _ => rfl) ?_
    rw [show ((nI (ws.length)) + (nI (wt.length)) : Int32) = nI ((ws.length) + (wt.length)) from nI_add (ws.length) (wt.length)]
    refine g_k1 (v := (-1)) (pc' := 44) cd_Wi_add rfl (by decide) rfl ?_
    refine g_iast (pc' := 45) cd_Wi_add rfl rfl hR.1.2.2.2.1 hR.1.2.2.2.2.1 (by rw [show bm_AL (bm_setI B (q + 1) ((ws.length) + (wt.length)) x) (q + 2) = 700 from hR.1.2.2.2.2.2]; exact vp_in_nI (by omega) (by decide)) ?_
    rw [show (nI ((ws.length) + (wt.length)) : Int32).toNatClampNeg = ((ws.length) + (wt.length)) from nI_clamp (by omega)]
    have A6 : bm_AI (bm_setI (bm_setI B (q + 1) ((ws.length) + (wt.length)) x) (q + 2) ((ws.length) + (wt.length)) (-1)) (q + 1) = (upd (bm_AI B (q + 1)) ((ws.length) + (wt.length)) x) := ((AI_setn (bm_setI B (q + 1) ((ws.length) + (wt.length)) x) ((ws.length) + (wt.length)) (-1) (q + 1) (by omega)).trans (show bm_AI (bm_setI B (q + 1) ((ws.length) + (wt.length)) x) (q + 1) = (upd (bm_AI B (q + 1)) ((ws.length) + (wt.length)) x) from A3))
    have A7 : bm_AI (bm_setI (bm_setI B (q + 1) ((ws.length) + (wt.length)) x) (q + 2) ((ws.length) + (wt.length)) (-1)) (q + 2) = (upd (bm_AI B (q + 2)) ((ws.length) + (wt.length)) (-1)) := ((AI_set (bm_setI B (q + 1) ((ws.length) + (wt.length)) x) (q + 2) ((ws.length) + (wt.length)) (-1)).trans (congrArg (fun f => upd f ((ws.length) + (wt.length)) (-1)) (show bm_AI (bm_setI B (q + 1) ((ws.length) + (wt.length)) x) (q + 2) = (bm_AI B (q + 2)) from A4)))
    have Z8 : fz (fun y => y = q ∨ y = q + 1 ∨ y = q + 2) B (bm_setI (bm_setI B (q + 1) ((ws.length) + (wt.length)) x) (q + 2) ((ws.length) + (wt.length)) (-1)) := fz_trans Z5 ⟨fr_mono (fun _ q => Or.inr (Or.inr q)) (fr_setI _ (q + 2) _ _), rfl, rfl⟩
    refine g_ald (pc' := 46) cd_Wi_add rfl (Or.inr ⟨_, rfl, rfl, rfl⟩) l0 rfl rfl ?_
    refine g_pure (pc' := 47) (st' := [.ref q, .ref q]) cd_Wi_add rfl rfl (fun _ _ => rfl) ?_
    refine g_fI (c := 10) (k := 3) (x := nI (wt.length)) (pc' := 50) cd_Wi_add rfl rfl rfl rfl rfl (by decide) hR.1.1.1 hR.1.1.2 hR.2.1.2.1 ?_
    refine g_k1 (v := 1) (pc' := 51) cd_Wi_add rfl (by decide) rfl ?_
    refine g_pure (pc' := 52) (st' := [.int ((nI (wt.length)) + 1), .ref q]) cd_Wi_add rfl rfl (fun _ _ => rfl) ?_
    rw [show ((nI (wt.length)) + 1 : Int32) = nI ((wt.length) + 1) from nI_add (wt.length) 1]
    refine g_putI (c := 10) (k := 3) (pc' := 55) cd_Wi_add rfl rfl rfl rfl (by simp [tm_okV, narrow, fits]) (Or.inl rfl) rfl (by decide) hR.1.1.1 hR.1.1.2 ?_
    have P9 : bm_FI (bm_putI (bm_setI (bm_setI B (q + 1) ((ws.length) + (wt.length)) x) (q + 2) ((ws.length) + (wt.length)) (-1)) 10 3 q (nI ((wt.length) + 1))) 10 3 q = nI ((wt.length) + 1) := if_pos ⟨rfl, rfl, rfl⟩
    have Z10 : fz (fun y => y = q ∨ y = q + 1 ∨ y = q + 2) B (bm_putI (bm_setI (bm_setI B (q + 1) ((ws.length) + (wt.length)) x) (q + 2) ((ws.length) + (wt.length)) (-1)) 10 3 q (nI ((wt.length) + 1))) := fz_trans Z8 ⟨fr_mono (fun _ q => Or.inl q) (fr_putI _ 10 3 q _), rfl, rfl⟩
    have a1 : bm_AI (bm_putI (bm_setI (bm_setI B (q + 1) ((ws.length) + (wt.length)) x) (q + 2) ((ws.length) + (wt.length)) (-1)) 10 3 q (nI ((wt.length) + 1))) (q + 1) = upd (bm_AI B (q + 1)) (ws.length + wt.length) x := A6
    have a2 : bm_AI (bm_putI (bm_setI (bm_setI B (q + 1) ((ws.length) + (wt.length)) x) (q + 2) ((ws.length) + (wt.length)) (-1)) 10 3 q (nI ((wt.length) + 1))) (q + 2) = upd (bm_AI B (q + 2)) (ws.length + wt.length) (-1) := A7
    have g1 : ∀ (i : Nat) (e : Tm × Int32), ws[i]? = some e → tv T (bm_AI (bm_putI (bm_setI (bm_setI B (q + 1) ((ws.length) + (wt.length)) x) (q + 2) ((ws.length) + (wt.length)) (-1)) 10 3 q (nI ((wt.length) + 1))) (q + 1) i) e.1 ∧ bm_AI (bm_putI (bm_setI (bm_setI B (q + 1) ((ws.length) + (wt.length)) x) (q + 2) ((ws.length) + (wt.length)) (-1)) 10 3 q (nI ((wt.length) + 1))) (q + 2) i = e.2 := fun i e he => by
      have := (List.getElem?_eq_some_iff.mp he).1
      rw [a1, a2, pk_un (by omega), pk_un (by omega)]; exact hR.2.2.1 i e he
    have g2 : ∀ (i : Nat) (C : Tm), (wt ++ [A])[i]? = some C → tv T (bm_AI (bm_putI (bm_setI (bm_setI B (q + 1) ((ws.length) + (wt.length)) x) (q + 2) ((ws.length) + (wt.length)) (-1)) 10 3 q (nI ((wt.length) + 1))) (q + 1) (ws.length + i)) C ∧ bm_AI (bm_putI (bm_setI (bm_setI B (q + 1) ((ws.length) + (wt.length)) x) (q + 2) ((ws.length) + (wt.length)) (-1)) 10 3 q (nI ((wt.length) + 1))) (q + 2) (ws.length + i) = -1 := fun i C hC => by
      have hi := (List.getElem?_eq_some_iff.mp hC).1
      simp at hi
      rw [a1, a2]
      by_cases cc : i = wt.length
      · subst cc; simp at hC; subst hC; exact ⟨by simp [upd]; exact hx, by simp [upd]⟩
      · rw [List.getElem?_append_left (by omega)] at hC; rw [pk_un (by omega), pk_un (by omega)]; exact hR.2.2.2 i C hC
    exact g_retv cd_Wi_add rfl ⟨rfl, (kk _ ⟨hR.1, ⟨hR.2.1.1, P9.trans (by simp), by simp; omega⟩, g1, g2⟩ Z10)⟩
