/-! Both are made: what holds at the beginning. -/
set_option maxRecDepth 100000 in
theorem l_Mo2 {sc : tm_X} {d : Nat} : ∀ (r k : Nat) (s : MS) (lv : tm_L), r + k = 6 → MI k s → lv.lookup 0 = some (.ref 1482) → lv.lookup 1 = some (.int (nI k)) → mg sc (d + 8) 178 413 lv [] s (fun r s' => r = none ∧ MI 6 s') := by
  intro r
  induction r with
  | zero =>
    intro k s lv e h l0 l1
    have hk : k = 6 := by omega
    subst hk
    refine m_ild (pc' := 414) cd_Mo_init rfl (Or.inr ⟨_, rfl, rfl, rfl⟩) l1 rfl ?_
    refine m_k2 (v := 6) (pc' := 416) cd_Mo_init rfl (by decide) rfl ?_
    refine m_if2 (t := 564) (pc' := 419) cd_Mo_init rfl rfl rfl (fun c => ?_) (fun c => ?_)
    · exact m_retv cd_Mo_init rfl ⟨rfl, h⟩
    · exact absurd (show (6 : Int32) ≤ nI 6 by decide) c
  | succ r ih =>
    intro k s lv e h l0 l1
    obtain ⟨f, A⟩ := s
    refine m_ild (pc' := 414) cd_Mo_init rfl (Or.inr ⟨_, rfl, rfl, rfl⟩) l1 rfl ?_
    refine m_k2 (v := 6) (pc' := 416) cd_Mo_init rfl (by decide) rfl ?_
    refine m_if2 (t := 564) (pc' := 419) cd_Mo_init rfl rfl rfl (fun c => ?_) (fun c => ?_)
    · exact absurd c (n6 (by omega))
    · exact l_Mo (by omega) h l0 l1 (fun s' lv h' a b => ih (k + 1) s' lv (by omega) h' a b)
theorem i_Mo {sc : tm_X} {d : Nat} {B0 B1 : bm_H} {Q : bm_H → Prop} (hm : bm_n B0 = 1482) (h : NwO B0 B1 1482 12 65) (kk : ∀ B, fr mX B0 B → MoS B → MI 6 (mS B) → bm_n B = 1529 → bm_sl B = bm_sl B0 + 95069 → Q B) : bm_Gv sc (d + 8) 178 [.ref 1482] B1 Q := by
  refine i_Mo1 hm h (fun B lv hN l0 l1 => ?_)
  obtain ⟨s1, s2, s3⟩ := MoN_S hN
  have hI : MI 0 (mS B) := MI_0 (f := (mS B).1) (A := (mS B).2) s2 s3
  refine g_mono (fun r B' q => ?_) (l_Mo2 6 0 (mS B) lv rfl hI l0 l1 B s1 rfl)
  obtain ⟨⟨⟨q1, q2, q3⟩, q4⟩, q5, q6⟩ := q
  refine ⟨q5, kk B' (fr_trans (fr0_fr hN.1) q1) q4 q6 (by rw [q2, hN.2.1.1]) (by rw [q3, hN.2.1.2])⟩
theorem eDL_get : ∀ {k m : Nat} {x : Int32 × Int32}, (eDL k)[m]? = some x → m < k ∧ x = (nI m, 0)
  | 0, m, x, h => by simp [eDL] at h
  | k + 1, m, x, h => by
    have hl := eDL_len k
    by_cases c : m < k
    · rw [eDL, List.getElem?_append_left (by omega)] at h
      have := eDL_get h
      exact ⟨by omega, this.2⟩
    · rw [eDL, List.getElem?_append_right (by omega)] at h
      have h2 := (List.getElem?_eq_some_iff.mp h).1
      simp at h2
      have e : m = k := by omega
      subst e
      rw [hl, Nat.sub_self] at h
      simp at h
      exact ⟨by omega, h.symm⟩
theorem bt_z (i : Nat) : bt 0 i = false := by
  show (0 : Int32).toBitVec.getLsbD i = false
  simp
theorem hbit_0z {p : Nat} (h : p < 6) : hbit 0 (nI p) = false := by
  rcases six h with rfl | rfl | rfl | rfl | rfl | rfl <;> decide
theorem nI6_inj {a b : Nat} (ha : a < 6) (hb : b < 6) (h : nI a = nI b) : a = b := (nI_eq (by omega) (by omega)).mp h
/-- nobody's secret is told -/
theorem SIV_0 {V : Nat → Prop} (hV : ∀ p, V p → p < 6) : SIV V (eDL 6) (fun q => eDe (Id q)) eSt (eG 6) [] := by
  have hd := eDL_len 6
  refine ⟨fun t => ∃ v n p, V v ∧ upc (Tsec n (nI v) p) t, fun _ _ _ _ _ => False, fun _ _ _ => False, ⟨⟨⟨?_, ?_, ?_⟩, ?_, ?_⟩, ⟨fun X e c q => q.elim, fun X e c e' c' q => q.elim, fun s d g e o o' q => q.elim⟩, ?_, ?_⟩, fun s d g e o q => q.elim, fun r hr => by simp at hr⟩
  · rintro a ⟨v, n, p, hv, h⟩
    exact ⟨v, n, p, hv, upc_pred rfl h⟩
  · rintro t ⟨p, hp, rfl | ⟨m, rfl⟩⟩
    · exact ⟨p, _, _, hp, 0, rfl⟩
    · exact ⟨p, _, _, hp, 0, rfl⟩
  · rintro n d p ⟨v, n', p', hv, h⟩
    have e := upc_sec (k := 0) (x := Tsec n' (nI v) p') (y := Tsec n d p) rfl rfl h
    obtain ⟨e1, -⟩ := tn_inj e
    injection e1 with _ e1
    injection e1 with _ e1
    injection e1 with e1 _
    exact ⟨v, hv, e1.symm⟩
  · intro m _ _ v hv j p
    exact ⟨v, nI m, p, hv, j, rfl⟩
  · intro r hr; simp at hr
  · rintro y ⟨i, _, rfl⟩
    exact Pub_pub
  · intro s hs
    refine ⟨fun _ => ⟨fun q _ S hS => by simp at hS, fun g _ => ⟨fun q => absurd q.1 (by show ¬ mm_fresh eMe = true; decide), fun d e o q => q.elim, fun p _ G0 hG => by simp [eMe, mgv] at hG⟩⟩, fun hn => ⟨⟨(Pub_1 rfl).mpr ?_, ⟨⟨Pub_tz, fun x hx => by simp [ePk] at hx⟩, ⟨Pub_tz, fun x hx => by simp [ePk] at hx⟩⟩, fun e he => by simp at he, fun q S hS => by simp at hS, fun g _ => ⟨Pub_tz, Pub_tz, fun p G0 hG => by simp [eMe, mgv] at hG⟩⟩, fun e he => by simp [eSt] at he⟩⟩
    rintro ⟨v, n, p, hv, h⟩
    have e := upc_sec (k := 0) (x := Tsec n (nI v) p) (y := Id s) rfl rfl h
    obtain ⟨e1, -⟩ := tn_inj e
    injection e1 with _ e1
    injection e1 with _ e1
    injection e1 with e1 _
    have := nI6_inj (hV v hv) hs e1
    exact hn (this ▸ hv)
theorem emp_e : emp (fun q => eDe (Id q)) = 30 := rfl
theorem cuts_e : cuts eSt = 0 := rfl
theorem DVI_e (s : Nat) : DVI s 0 (eDe (Id s)) := by
  refine ⟨rfl, ⟨⟨Iff.intro (fun _ => rfl) (fun _ => rfl), Iff.intro (fun q => absurd q (by decide)) (fun q => absurd rfl q), fun q => absurd rfl q, by decide⟩, ⟨Iff.intro (fun _ => rfl) (fun _ => rfl), Iff.intro (fun q => absurd q (by decide)) (fun q => absurd rfl q), fun q => absurd rfl q, by decide⟩⟩, ⟨fun e he => by simp at he, by decide⟩, ⟨0, by omega, rfl⟩, ⟨rfl, fun p => ⟨Nat.zero_le _, fun S hS => by simp at hS⟩⟩, fun g => ⟨fun _ => rfl, fun q => absurd q (by show ¬ mm_fresh eMe = true; decide), rfl, fun p => ⟨Nat.zero_le _, fun G hG => by simp [eMe, mgv] at hG⟩⟩, 0, by omega, rfl⟩
theorem IVd_e {s : Nat} : IVd s 0 (eDL 6) [] (eDe (Id s)) := by
  refine ⟨rfl, ⟨Or.inl rfl, Or.inl rfl⟩, fun q S hS => by simp at hS, fun g _ => ⟨⟨fun i _ _ => bt_z i, fun q => absurd rfl q⟩, ⟨0, Nat.le_refl _, rfl⟩, fun q => absurd rfl q⟩, fun g g' _ _ _ x _ q => absurd rfl q⟩
def eDv (k : Nat) : DV := if k = 6 then eDe tz else eDe (Id k)
theorem eDv_6 {k : Nat} (h : k < 6) : eDv k = eDe (Id k) := if_neg (by omega)
theorem JI_0 {B0 B : bm_H} (h : HI 6 B0) (hf : fr mX B0 B) (hM : MoS B) (hI : MI 6 (mS B)) (hn : bm_n B = 1529) (hs : bm_sl B = bm_sl B0 + 95069) : JI 195065 2482001 0 B := by
  obtain ⟨hW0, hA0, hR0, hT0, hK0, hn0, hs0⟩ := h
  have nx : ∀ y, y < 1482 → ¬ mX y := fun y hy q => by have := q.1; omega
  have hW := HW_fr hW0 hf (fun y hy => nx y (by omega)) (List.prefix_refl _)
  have hT : TI B 1 2 3 4 1024 6 (eT 6) := TI_fr hT0 hf (nx _ (by omega)) (nx _ (by omega)) (nx _ (by omega))
  have hK := KI_mono hK0 hT (List.prefix_refl _) hf (nx _ (by omega)) (nx _ (by omega)) (nx _ (by omega))
  have hS0 := hW0.1
  have a19 : bm_AR B 19 = bm_AR B0 19 := fr_AR hf hS0.2.2.1.1 (nx _ (by omega))
  have a20 : bm_AR B 20 = bm_AR B0 20 := fr_AR hf hS0.2.2.2.1.1 (nx _ (by omega))
  have a21 := RA_fr hS0.2.2.2.2.1.1 hR0 hf (nx _ (by omega)) (List.prefix_refl _)
  have hlen := eT_len 6
  have hdl := eDL_len 6
  obtain ⟨T, ⟨⟨hMT, hTl, hrc⟩, f16, f11, f21, f40, f43, f53, f54, f63⟩, ⟨⟨b10, b11, b12, b13⟩, b14, b16, b17, b45⟩, ⟨b18, b19, b20, b21, b22, b23⟩, b24, b25, b39, b40, b41, b42⟩ := hI
  obtain ⟨f, hf0⟩ : ∃ f, f = (mS B).1 := ⟨_, rfl⟩
  obtain ⟨A, hA⟩ : ∃ A, A = (mS B).2 := ⟨_, rfl⟩
  rw [← hf0, ← hA] at hMT
  rw [← hf0] at f16 f11 f21 f40 f43 f53 f54 f63
  rw [← hA] at hrc b10 b11 b12 b13 b14 b16 b17 b45 b18 b19 b20 b21 b22 b23 b24 b25 b39 b40 b41 b42
  have hz : tv T 0 tz := ⟨0, rfl, hMT.1.2.2.1.1⟩
  have hC : CK B mX 195065 2482001 0 (eT 6).length (eT 6) (eDL 6).length (eG 6) 2 1024 6 7 1024 := by
    refine ⟨by rw [hdl]; exact hT, hK, ⟨by decide, by decide⟩, Or.inr rfl, by decide, Or.inl rfl, Or.inl ⟨rfl, rfl⟩, ⟨nx _ (by omega), nx _ (by omega), nx _ (by omega)⟩, ⟨?_, ?_⟩, ?_, fun y hy => ⟨hy.1, ?_⟩⟩
    · omega
    · omega
    · omega
    · have := hy.2; omega
  have hH : RH B (eT 6) [] [] eLG (eIds 6) (fun _ => tz) (fun _ => tz) [] (fun k => k) (fun _ => eSw) eDv eSt := by
    refine ⟨hW.1, hW.2.1, hW.2.2.1, ⟨a21, hW.2.2.2.1⟩, ⟨fun d hd => ?_, hW.2.2.2.2.1.1, fun k hk => hk, fun j k _ _ e => e, fun k hk => ?_⟩, fun d hd => ?_, fun d hd => hW.2.2.2.2.2.2 d hd⟩
    · rw [a19, hA0.1 d hd]
      show _ = some (rb d)
      rw [show rb d = 228 + 209 * d from if_neg (by omega)]
    · by_cases c : k = 6
      · subst c; exact hW.2.2.2.2.1.2
      · rw [eDv_6 (by omega)]
        show RDe B (eT 6) (rb k) eSw (eDe (Id k))
        rw [rb, if_neg c]
        exact hW.2.2.2.2.2.1 k (by omega)
    · rw [a20]; exact hA0.2 d hd
  have hRS : RS f A T (eDL 6) (fun q => eDe (Id q)) eSt [] (fun _ => tz) (fun _ => tz) [] [] (A 13) (A 10, A 11, A 12, A 24, A 25, A 39, A 40, A 41, A 42, 0, 0, 0) := by
    refine ⟨⟨b16, fun p hp => qDv_e hz (fun j => b14 _), fun p hp => ?_⟩, ⟨⟨⟨f40, by decide⟩, fun i e he => by simp at he⟩, fun i _ => tvq (b17 i) hz, fun i _ => tvq (b45 i) hz, f63, by decide, fun i X hX => by simp at hX⟩, ⟨⟨⟨f43, by decide⟩, fun i e he => by simp at he⟩, rfl⟩, ⟨by rw [hdl]; exact f11, f21, f53, f54⟩, ⟨rfl, rfl, rfl⟩, ⟨rfl, rfl⟩, rfl, rfl, rfl, rfl⟩
    refine ⟨⟨b21 p, b23 p hp, b22 p, fun k q => by simp at q⟩, ⟨⟨?_, by show 1 ≤ 536; decide, Nat.le_refl _⟩, fun b hb => ?_, fun i e he _ => ?_⟩, [], 0, 0, ⟨⟨?_, by decide, Nat.zero_le _⟩, fun b hb => ?_, fun i e he => by simp at he⟩, rfl, fun _ => ⟨rfl, rfl⟩⟩
    · show A 20 (2 * p + 0) = nI 1
      rw [b20, if_pos (by omega)]; rfl
    · have e1 : bk [(Id p, tz)].length = 1 := by show bk 1 = 1; decide
      rw [e1]
      show A 19 (75 * (2 * p + 0) + b) = bz (decide (0 ≤ b ∧ b < 1))
      rw [b19]
      by_cases c : b = 0
      · subst c; rw [if_pos (by omega)]; rfl
      · rw [if_neg (by omega), show decide (0 ≤ b ∧ b < 1) = false from decide_eq_false (by omega)]; rfl
    · rcases i with _ | i
      · simp at he
        subst he
        have q := b18 p hp
        show tv T (A 18 (1200 * (2 * p + 0) + 2 * 0)) _ ∧ tv T (A 18 (1200 * (2 * p + 0) + 2 * 0 + 1)) _
        rw [show 1200 * (2 * p + 0) + 2 * 0 = 2400 * p by omega]
        exact q
      · simp at he
    · show A 20 (2 * p + 1) = nI 0
      rw [b20, if_neg (by omega)]; rfl
    · show A 19 (75 * (2 * p + 1) + b) = bz (decide (0 ≤ b ∧ b < 0))
      rw [b19, if_neg (by omega), show decide (0 ≤ b ∧ b < 0) = false from decide_eq_false (by omega)]; rfl
  have hJ : J 195065 2482001 0 B (eDL 6) (fun q => eDe (Id q)) eSt [] (fun _ => tz) (fun _ => tz) [] (eG 6) eLG [] (A 13) (A 10, A 11, A 12, A 24, A 25, A 39, A 40, A 41, A 42, 0, 0, 0) := by
    refine ⟨f, A, eT 6, T, eG 6, fun _ => False, 2, 1024, 6, 7, 1024, 0, (eT 6).length, [], fun k => k, fun _ => eSw, eDv, eIds 6, ⟨hC, hH, fun q hq => eDv_6 hq, fun q hq => if_pos hq⟩, ⟨hM, by rw [hf0, hA], hMT, hRS⟩, ⟨fun X => Iff.rfl, fun y q => q.elim, fun _ e he => by simp at he, fun i e he => by simp [eLG] at he⟩, by omega, ?_, by omega⟩
    rw [emp_e, cuts_e]; omega
  refine ⟨eDL 6, fun q => eDe (Id q), eSt, [], fun _ => tz, fun _ => tz, [], eG 6, eLG, [], A 13, (A 10, A 11, A 12, A 24, A 25, A 39, A 40, A 41, A 42, 0, 0, 0), hJ, ⟨fun q _ => ⟨DVI_e q, rfl⟩, by omega, by decide, by decide⟩, ⟨0, Nat.le_refl _, rfl, ?_⟩, ⟨fun q hq => Kn_G ⟨q, hq, rfl⟩, fun e he => by simp at he, ⟨fun _ => Kn_z, fun _ _ => rfl⟩, fun _ => Kn_z, fun y hy => by simp at hy⟩, ⟨⟨by omega, fun r hr => by simp at hr⟩, fun s _ => IVd_e⟩, fun V hV => SIV_0 (fun p hp => (hV p hp).1), fun i e r he => by simp [eLG] at he⟩
  refine ⟨⟨⟨rfl, fun i e r he => by simp at he⟩, fun m hm => ?_, fun m h1 h2 => if_pos h2, fun i r hr => by simp at hr⟩, fun p hp => ⟨⟨0, Nat.le_refl _, rfl⟩, b42 p, fun _ => ⟨b39 p hp, b40 p hp, b41 p hp⟩, fun q => absurd rfl q⟩, ⟨fun p hp => ⟨?_, Or.inl (b24 p hp), ?_, 0, Nat.zero_le _, rfl⟩, fun i _ _ => bt_z i⟩, fun m d p hm => ?_, rfl, rfl⟩
  · rw [hdl] at hm
    have e := b13 m hm
    exact ⟨(show eBd m = -1 from if_pos (by omega)).trans e.symm, Or.inl e⟩
  · rw [hbit_0z hp, b24 p hp]; rfl
  · rw [b25 p hp]; decide
  · obtain ⟨h1, h2⟩ := eDL_get hm
    simp only [Prod.mk.injEq] at h2
    obtain ⟨rfl, rfl⟩ := h2
    refine ⟨⟨0, Nat.le_refl _, b10 m⟩, (b12 m).trans rfl, fun q => absurd q (by decide), fun q hq => ?_⟩
    rw [b25 q hq, b10 m]
    refine ⟨fun _ => by decide, fun _ => ?_⟩
    show (0 : Int32) ≤ nI m
    rcases six h1 with rfl | rfl | rfl | rfl | rfl | rfl <;> decide
