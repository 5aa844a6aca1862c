/-! The reference: a device as a flat row of 1602 numbers -/
def qPk (g : Nat → Int32) (T : List Tm) (a : Nat) (K : PK) : Prop := (tv T (g a) K.1 ∧ g (a + 1) = K.2.1 ∧ g (a + 2) = nI K.2.2.length ∧ K.2.2.length ≤ 4) ∧ ∀ (i : Nat) (X : Tm), K.2.2[i]? = some X → tv T (g (a + 3 + i)) X
def qOn (g : Nat → Int32) (T : List Tm) (on : List (Tm × Int32)) : Prop := (g 14 = nI on.length ∧ on.length ≤ 4) ∧ ∀ (i : Nat) (e : Tm × Int32), on[i]? = some e → tv T (g (15 + i)) e.1 ∧ g (19 + i) = e.2
def qLf (g : Nat → Int32) (T : List Tm) (a : Nat) (l : List (Tm × Int32 × Tm)) : Prop := ∀ (i : Nat) (e : Tm × Int32 × Tm), l[i]? = some e → tv T (g (a + 13 + 3 * i)) e.1 ∧ g (a + 14 + 3 * i) = e.2.1 ∧ tv T (g (a + 15 + 3 * i)) e.2.2
def qSe (g : Nat → Int32) (T : List Tm) (a : Nat) : SS → Prop
  | ((th, ch, nx, le), ba, ro, mi, sd, n, b, br, bp, bo, on) => (tv T (g (a + 0)) ba ∧ tv T (g (a + 1)) ro ∧ tv T (g (a + 2)) mi ∧ tv T (g (a + 3)) th ∧ tv T (g (a + 4)) sd ∧ tv T (g (a + 7)) ch) ∧ (g (a + 5) = n ∧ g (a + 6) = b ∧ g (a + 8) = nx) ∧ (g (a + 9) = bz br ∧ (br = true → tv T (g (a + 10)) bp ∧ tv T (g (a + 11)) bo)) ∧ (g (a + 12) = nI le.length ∧ le.length ≤ 8) ∧ qLf g T a le ∧ g (a + 37) = bz on
def qGl (g : Nat → Int32) (T : List Tm) (a : Nat) (l : List (Tm × Int32 × Tm)) : Prop := ∀ (i : Nat) (e : Tm × Int32 × Tm), l[i]? = some e → g (a + 5 + 2 * i) = e.2.1 ∧ tv T (g (a + 6 + 2 * i)) e.2.2
def qGv (g : Nat → Int32) (T : List Tm) (a : Nat) (G : GV) : Prop := (g (a + 0) = G.2.1 ∧ tv T (g (a + 1)) G.1.2.1 ∧ tv T (g (a + 2)) G.1.1 ∧ g (a + 3) = G.1.2.2.1) ∧ (g (a + 4) = nI G.1.2.2.2.length ∧ G.1.2.2.2.length ≤ 8) ∧ qGl g T a G.1.2.2.2 ∧ g (a + 21) = bz G.2.2
def qGs (g : Nat → Int32) (T : List Tm) (a p : Nat) (l : List GV) : Prop := (g (a + 9 + p) = nI l.length ∧ l.length ≤ 2) ∧ ∀ (k : Nat) (G : GV), l[k]? = some G → qGv g T (a + 15 + (2 * p + k) * 22) G
def qMm (g : Nat → Int32) (T : List Tm) (a : Nat) : MM → Prop
  | (ve, ma, go, ge, ch, si, ix, ga, sl, gv) => (g (a + 0) = ve ∧ g (a + 1) = ma ∧ g (a + 2) = go ∧ g (a + 3) = ge) ∧ (tv T (g (a + 4)) ch ∧ tv T (g (a + 5)) si) ∧ (g (a + 6) = ix ∧ g (a + 7) = ga ∧ g (a + 8) = bz sl) ∧ ∀ p, p < 6 → qGs g T a p (gv p)
def qSs (g : Nat → Int32) (T : List Tm) (p : Nat) (l : List SS) : Prop := (g (24 + p) = nI l.length ∧ l.length ≤ 2) ∧ ∀ (k : Nat) (S : SS), l[k]? = some S → qSe g T (30 + (2 * p + k) * 38) S
/-- all but the identity -/
def qDv (g : Nat → Int32) (T : List Tm) : DV → Prop
  | (_, K0, K1, on, lnu, se, me) => (qPk g T 0 K0 ∧ qPk g T 7 K1) ∧ (qOn g T on ∧ g 23 = lnu) ∧ (∀ p, p < 6 → qSs g T p (se p)) ∧ ∀ q, q < 4 → qMm g T (486 + q * 279) (me q)
section QC
variable {g h : Nat → Int32} {T T' : List Tm}
theorem tv_c {x y : Int32} {X : Tm} (hT : T <+: T') (e : y = x) (q : tv T x X) : tv T' y X := e ▸ tv_mono hT q
theorem qPk_c {a : Nat} {K : PK} (hT : T <+: T') (e : ∀ k, a ≤ k → k < a + 7 → h k = g k) (q : qPk g T a K) : qPk h T' a K := by
  obtain ⟨⟨h1, h2, h3, h4⟩, h5⟩ := q
  exact ⟨⟨tv_c hT (e _ (by omega) (by omega)) h1, (e _ (by omega) (by omega)).trans h2, (e _ (by omega) (by omega)).trans h3, h4⟩, fun i X hX => tv_c hT (e _ (by omega) (by have := (List.getElem?_eq_some_iff.mp hX).1; omega)) (h5 i X hX)⟩
theorem qOn_c {on : List (Tm × Int32)} (hT : T <+: T') (e : ∀ k, 14 ≤ k → k < 23 → h k = g k) (q : qOn g T on) : qOn h T' on := by
  obtain ⟨⟨h1, h2⟩, h3⟩ := q
  exact ⟨⟨(e _ (by omega) (by omega)).trans h1, h2⟩, fun i X hX => by
    have hi := (List.getElem?_eq_some_iff.mp hX).1
    exact ⟨tv_c hT (e _ (by omega) (by omega)) (h3 i X hX).1, (e _ (by omega) (by omega)).trans (h3 i X hX).2⟩⟩
theorem qSe_c {a a' : Nat} {S : SS} (hT : T <+: T') (e : ∀ k, k < 38 → h (a' + k) = g (a + k)) (q : qSe g T a S) : qSe h T' a' S := by
  obtain ⟨⟨th, ch, nx, le⟩, ba, ro, mi, sd, n, b, br, bp, bo, on⟩ := S
  obtain ⟨⟨h1, h2, h3, h4, h5, h6⟩, ⟨h7, h8, h9⟩, ⟨h10, h11⟩, ⟨h12, h13⟩, h14, h15⟩ := q
  refine ⟨⟨tv_c hT (e 0 (by omega)) h1, tv_c hT (e 1 (by omega)) h2, tv_c hT (e 2 (by omega)) h3, tv_c hT (e 3 (by omega)) h4, tv_c hT (e 4 (by omega)) h5, tv_c hT (e 7 (by omega)) h6⟩, ⟨(e 5 (by omega)).trans h7, (e 6 (by omega)).trans h8, (e 8 (by omega)).trans h9⟩, ⟨(e 9 (by omega)).trans h10, fun z => ⟨tv_c hT (e 10 (by omega)) (h11 z).1, tv_c hT (e 11 (by omega)) (h11 z).2⟩⟩, ⟨(e 12 (by omega)).trans h12, h13⟩, fun i X hX => ?_, (e 37 (by omega)).trans h15⟩
  have hi := (List.getElem?_eq_some_iff.mp hX).1
  obtain ⟨q1, q2, q3⟩ := h14 i X hX
  have e1 := e (13 + 3 * i) (by omega)
  have e2 := e (14 + 3 * i) (by omega)
  have e3 := e (15 + 3 * i) (by omega)
  rw [← Nat.add_assoc, ← Nat.add_assoc] at e1 e2 e3
  exact ⟨tv_c hT e1 q1, e2.trans q2, tv_c hT e3 q3⟩
theorem qGv_c {a a' : Nat} {G : GV} (hT : T <+: T') (e : ∀ k, k < 22 → h (a' + k) = g (a + k)) (q : qGv g T a G) : qGv h T' a' G := by
  obtain ⟨⟨h1, h2, h3, h4⟩, ⟨h5, h6⟩, h7, h8⟩ := q
  refine ⟨⟨(e 0 (by omega)).trans h1, tv_c hT (e 1 (by omega)) h2, tv_c hT (e 2 (by omega)) h3, (e 3 (by omega)).trans h4⟩, ⟨(e 4 (by omega)).trans h5, h6⟩, fun i X hX => ?_, (e 21 (by omega)).trans h8⟩
  have hi := (List.getElem?_eq_some_iff.mp hX).1
  obtain ⟨q1, q2⟩ := h7 i X hX
  have e1 := e (5 + 2 * i) (by omega)
  have e2 := e (6 + 2 * i) (by omega)
  rw [← Nat.add_assoc, ← Nat.add_assoc] at e1 e2
  exact ⟨e1.trans q1, tv_c hT e2 q2⟩
theorem qGs_c {a p : Nat} {l : List GV} (hp : p < 6) (hT : T <+: T') (e : ∀ k, a ≤ k → k < a + 279 → h k = g k) (q : qGs g T a p l) : qGs h T' a p l := by
  obtain ⟨⟨h1, h2⟩, h3⟩ := q
  exact ⟨⟨(e _ (by omega) (by omega)).trans h1, h2⟩, fun k G hG => qGv_c hT (fun j hj => e _ (by omega) (by have := (List.getElem?_eq_some_iff.mp hG).1; omega)) (h3 k G hG)⟩
theorem qMm_c {a : Nat} {M : MM} (hT : T <+: T') (e : ∀ k, a ≤ k → k < a + 279 → h k = g k) (q : qMm g T a M) : qMm h T' a M := by
  obtain ⟨ve, ma, go, ge, ch, si, ix, ga, sl, gv⟩ := M
  obtain ⟨⟨h1, h2, h3, h4⟩, ⟨h5, h6⟩, ⟨h7, h8, h9⟩, h10⟩ := q
  exact ⟨⟨(e _ (by omega) (by omega)).trans h1, (e _ (by omega) (by omega)).trans h2, (e _ (by omega) (by omega)).trans h3, (e _ (by omega) (by omega)).trans h4⟩, ⟨tv_c hT (e _ (by omega) (by omega)) h5, tv_c hT (e _ (by omega) (by omega)) h6⟩, ⟨(e _ (by omega) (by omega)).trans h7, (e _ (by omega) (by omega)).trans h8, (e _ (by omega) (by omega)).trans h9⟩, fun p hp => qGs_c hp hT e (h10 p hp)⟩
theorem qSs_c {p : Nat} {l : List SS} (hp : p < 6) (hT : T <+: T') (e : ∀ k, (k = 24 + p ∨ (30 + 2 * p * 38 ≤ k ∧ k < 30 + (2 * p + 2) * 38)) → h k = g k) (q : qSs g T p l) : qSs h T' p l := by
  obtain ⟨⟨h1, h2⟩, h3⟩ := q
  refine ⟨⟨(e _ (Or.inl rfl)).trans h1, h2⟩, fun k S hS => qSe_c hT (fun j hj => e _ (Or.inr ?_)) (h3 k S hS)⟩
  have := (List.getElem?_eq_some_iff.mp hS).1
  omega
theorem qDv_c {D : DV} (hT : T <+: T') (e : ∀ k, k < 1602 → h k = g k) (q : qDv g T D) : qDv h T' D := by
  obtain ⟨id, K0, K1, on, lnu, se, me⟩ := D
  obtain ⟨⟨h1, h2⟩, ⟨h3, h4⟩, h5, h6⟩ := q
  exact ⟨⟨qPk_c hT (fun k _ _ => e k (by omega)) h1, qPk_c hT (fun k _ _ => e k (by omega)) h2⟩, ⟨qOn_c hT (fun k _ _ => e k (by omega)) h3, (e _ (by omega)).trans h4⟩, fun p hp => qSs_c hp hT (fun k _ => e k (by omega)) (h5 p hp), fun q hq => qMm_c hT (fun k _ _ => e k (by omega)) (h6 q hq)⟩
end QC
set_option maxRecDepth 100000 in
theorem m_sessionAt {sc : tm_X} {d : Nat} {f : Nat → Int32} {A : Nat → Nat → Int32} {p k : Nat} {Q : Int32 → MS → Prop} (kk : Q (nI (30 + (2 * p + k) * 38)) (f, A)) : mGi sc (d + 0) 194 [.int (nI p), .int (nI k)] (f, A) Q := by
  show mg sc (d + 0) 194 0 [(0, .int (nI p)), (1, .int (nI k))] [] (f, A) _
  generalize elv : ([(0, .int (nI p)), (1, .int (nI k))] : tm_L) = lv
  have l0 : lv.lookup 0 = some (.int (nI p)) := by rw [← elv]; rfl
  have l1 : lv.lookup 1 = some (.int (nI k)) := by rw [← elv]; rfl
  clear elv
  refine m_k2 (v := 30) (pc' := 2) cd_Mo_sessionAt rfl (by decide) rfl ?_
  refine m_k1 (v := 2) (pc' := 3) cd_Mo_sessionAt rfl (by decide) rfl ?_
  refine m_ild (pc' := 4) cd_Mo_sessionAt rfl (Or.inr ⟨_, rfl, rfl, rfl⟩) l0 rfl ?_
  refine m_pure (pc' := 5) (st' := [.int ((2 : Int32) * (nI p)), .int 30]) cd_Mo_sessionAt rfl rfl (fun _ _ => rfl) ?_
  refine m_eq (show ((2 : Int32) * (nI p) : Int32) = nI (2 * p) from pk_mul 2 p) ?_
  refine m_ild (pc' := 6) cd_Mo_sessionAt rfl (Or.inr ⟨_, rfl, rfl, rfl⟩) l1 rfl ?_
  refine m_pure (pc' := 7) (st' := [.int ((nI (2 * p)) + (nI k)), .int 30]) cd_Mo_sessionAt rfl rfl (fun _ _ => rfl) ?_
  refine m_eq (show ((nI (2 * p)) + (nI k) : Int32) = nI ((2 * p) + k) from nI_add (2 * p) k) ?_
  refine m_k2 (v := 38) (pc' := 9) cd_Mo_sessionAt rfl (by decide) rfl ?_
  refine m_pure (pc' := 10) (st' := [.int ((nI ((2 * p) + k)) * 38), .int 30]) cd_Mo_sessionAt rfl rfl (fun _ _ => rfl) ?_
  refine m_eq (show ((nI ((2 * p) + k)) * 38 : Int32) = nI (((2 * p) + k) * 38) from pk_mul ((2 * p) + k) 38) ?_
  refine m_pure (pc' := 11) (st' := [.int ((30 : Int32) + (nI (((2 * p) + k) * 38)))]) cd_Mo_sessionAt rfl rfl (fun _ _ => rfl) ?_
  refine m_eq (show ((30 : Int32) + (nI (((2 * p) + k) * 38)) : Int32) = nI (30 + (((2 * p) + k) * 38)) from nI_add 30 (((2 * p) + k) * 38)) ?_
  exact m_reti cd_Mo_sessionAt rfl ⟨_, rfl, kk⟩
set_option maxRecDepth 100000 in
theorem m_groupAt {sc : tm_X} {d : Nat} {f : Nat → Int32} {A : Nat → Nat → Int32} {q : Nat} {Q : Int32 → MS → Prop} (kk : Q (nI (486 + q * 279)) (f, A)) : mGi sc (d + 0) 197 [.int (nI q)] (f, A) Q := by
  show mg sc (d + 0) 197 0 [(0, .int (nI q))] [] (f, A) _
  generalize elv : ([(0, .int (nI q))] : tm_L) = lv
  have l0 : lv.lookup 0 = some (.int (nI q)) := by rw [← elv]; rfl
  clear elv
  refine m_k3 (v := 486) (pc' := 3) cd_Mo_groupAt rfl (by decide) rfl ?_
  refine m_ild (pc' := 4) cd_Mo_groupAt rfl (Or.inr ⟨_, rfl, rfl, rfl⟩) l0 rfl ?_
  refine m_k3 (v := 279) (pc' := 7) cd_Mo_groupAt rfl (by decide) rfl ?_
  refine m_pure (pc' := 8) (st' := [.int ((nI q) * 279), .int 486]) cd_Mo_groupAt rfl rfl (fun _ _ => rfl) ?_
  refine m_eq (show ((nI q) * 279 : Int32) = nI (q * 279) from pk_mul q 279) ?_
  refine m_pure (pc' := 9) (st' := [.int ((486 : Int32) + (nI (q * 279)))]) cd_Mo_groupAt rfl rfl (fun _ _ => rfl) ?_
  refine m_eq (show ((486 : Int32) + (nI (q * 279)) : Int32) = nI (486 + (q * 279)) from nI_add 486 (q * 279)) ?_
  exact m_reti cd_Mo_groupAt rfl ⟨_, rfl, kk⟩
set_option maxRecDepth 100000 in
theorem m_givenAt {sc : tm_X} {d : Nat} {f : Nat → Int32} {A : Nat → Nat → Int32} {q p k : Nat} {Q : Int32 → MS → Prop} (kk : Q (nI (486 + q * 279 + 15 + (2 * p + k) * 22)) (f, A)) : mGi sc (d + 1) 198 [.int (nI q), .int (nI p), .int (nI k)] (f, A) Q := by
  show mg sc (d + 1) 198 0 [(0, .int (nI q)), (1, .int (nI p)), (2, .int (nI k))] [] (f, A) _
  generalize elv : ([(0, .int (nI q)), (1, .int (nI p)), (2, .int (nI k))] : tm_L) = lv
  have l0 : lv.lookup 0 = some (.int (nI q)) := by rw [← elv]; rfl
  have l1 : lv.lookup 1 = some (.int (nI p)) := by rw [← elv]; rfl
  have l2 : lv.lookup 2 = some (.int (nI k)) := by rw [← elv]; rfl
  clear elv
  refine m_ild (pc' := 1) cd_Mo_givenAt rfl (Or.inr ⟨_, rfl, rfl, rfl⟩) l0 rfl ?_
  refine m_si (pc' := 4) cd_Mo_givenAt rfl rfl rfl rfl rfl cd_Mo_groupAt rfl (Nat.le_of_ble_eq_true rfl) (m_groupAt ?_)
  show mg _ _ _ 4 _ [.int (nI (486 + q * 279))] _ _
  refine m_k2 (v := 15) (pc' := 6) cd_Mo_givenAt rfl (by decide) rfl ?_
  refine m_pure (pc' := 7) (st' := [.int ((nI (486 + q * 279)) + 15)]) cd_Mo_givenAt rfl rfl (fun _ _ => rfl) ?_
  refine m_eq (show ((nI (486 + q * 279)) + 15 : Int32) = nI ((486 + q * 279) + 15) from nI_add (486 + q * 279) 15) ?_
  refine m_k1 (v := 2) (pc' := 8) cd_Mo_givenAt rfl (by decide) rfl ?_
  refine m_ild (pc' := 9) cd_Mo_givenAt rfl (Or.inr ⟨_, rfl, rfl, rfl⟩) l1 rfl ?_
  refine m_pure (pc' := 10) (st' := [.int ((2 : Int32) * (nI p)), .int (nI ((486 + q * 279) + 15))]) cd_Mo_givenAt rfl rfl (fun _ _ => rfl) ?_
  refine m_eq (show ((2 : Int32) * (nI p) : Int32) = nI (2 * p) from pk_mul 2 p) ?_
  refine m_ild (pc' := 11) cd_Mo_givenAt rfl (Or.inr ⟨_, rfl, rfl, rfl⟩) l2 rfl ?_
  refine m_pure (pc' := 12) (st' := [.int ((nI (2 * p)) + (nI k)), .int (nI ((486 + q * 279) + 15))]) cd_Mo_givenAt rfl rfl (fun _ _ => rfl) ?_
  refine m_eq (show ((nI (2 * p)) + (nI k) : Int32) = nI ((2 * p) + k) from nI_add (2 * p) k) ?_
  refine m_k2 (v := 22) (pc' := 14) cd_Mo_givenAt rfl (by decide) rfl ?_
  refine m_pure (pc' := 15) (st' := [.int ((nI ((2 * p) + k)) * 22), .int (nI ((486 + q * 279) + 15))]) cd_Mo_givenAt rfl rfl (fun _ _ => rfl) ?_
  refine m_eq (show ((nI ((2 * p) + k)) * 22 : Int32) = nI (((2 * p) + k) * 22) from pk_mul ((2 * p) + k) 22) ?_
  refine m_pure (pc' := 16) (st' := [.int ((nI ((486 + q * 279) + 15)) + (nI (((2 * p) + k) * 22)))]) cd_Mo_givenAt rfl rfl (fun _ _ => rfl) ?_
  refine m_eq (show ((nI ((486 + q * 279) + 15)) + (nI (((2 * p) + k) * 22)) : Int32) = nI (((486 + q * 279) + 15) + (((2 * p) + k) * 22)) from nI_add ((486 + q * 279) + 15) (((2 * p) + k) * 22)) ?_
  exact m_reti cd_Mo_givenAt rfl ⟨_, rfl, kk⟩
set_option maxRecDepth 100000 in
theorem m_blocksOf {sc : tm_X} {d : Nat} {f : Nat → Int32} {A : Nat → Nat → Int32} {n : Nat} {Q : Int32 → MS → Prop} (hn : n < 100000) (kk : Q (nI (bk n)) (f, A)) : mGi sc (d + 0) 204 [.int (nI n)] (f, A) Q := by
  show mg sc (d + 0) 204 0 [(0, .int (nI n))] [] (f, A) _
  generalize elv : ([(0, .int (nI n))] : tm_L) = lv
  have l0 : lv.lookup 0 = some (.int (nI n)) := by rw [← elv]; rfl
  clear elv
  refine m_ild (pc' := 1) cd_Mo_blocksOf rfl (Or.inr ⟨_, rfl, rfl, rfl⟩) l0 rfl ?_
  refine m_k2 (v := 7) (pc' := 3) cd_Mo_blocksOf rfl (by decide) rfl ?_
  refine m_pure (pc' := 4) (st' := [.int ((nI n) + 7)]) cd_Mo_blocksOf rfl rfl (fun _ _ => rfl) ?_
  refine m_eq (show ((nI n) + 7 : Int32) = nI (n + 7) from nI_add n 7) ?_
  refine m_k2 (v := 8) (pc' := 6) cd_Mo_blocksOf rfl (by decide) rfl ?_
  refine m_div (z := nI (bk n)) (pc' := 7) cd_Mo_blocksOf rfl rfl (by decide) (nI_div (n + 7) 8 (by omega) (by decide) (by decide)) ?_
  exact m_reti cd_Mo_blocksOf rfl ⟨_, rfl, kk⟩
set_option maxRecDepth 100000 in
theorem m_isDevice {sc : tm_X} {d : Nat} {f : Nat → Int32} {A : Nat → Nat → Int32} {x : Int32} {Q : Int32 → MS → Prop} (kk : Q (bz (inR x 6)) (f, A)) : mGi sc (d + 0) 200 [.int x] (f, A) Q := by
  show mg sc (d + 0) 200 0 [(0, .int x)] [] (f, A) _
  generalize elv : ([(0, .int x)] : tm_L) = lv
  have l0 : lv.lookup 0 = some (.int x) := by rw [← elv]; rfl
  clear elv
  refine m_ild (pc' := 1) cd_Mo_isDevice rfl (Or.inr ⟨_, rfl, rfl, rfl⟩) l0 rfl ?_
  refine m_if1 (t := 14) (pc' := 4) cd_Mo_isDevice rfl rfl rfl (fun c1 => ?_) (fun c1 => ?_)
  · have c1 : x < 0 := c1
    refine m_k1 (v := 0) (pc' := 15) cd_Mo_isDevice rfl (by decide) rfl ?_
    exact m_retz cd_Mo_isDevice rfl (Or.inl rfl) ⟨_, rfl, (by rw [inR_lo c1] at kk; exact kk)⟩
  · have c1 : ¬ x < 0 := c1
    refine m_ild (pc' := 5) cd_Mo_isDevice rfl (Or.inr ⟨_, rfl, rfl, rfl⟩) l0 rfl ?_
    refine m_k2 (v := 6) (pc' := 7) cd_Mo_isDevice rfl (by decide) rfl ?_
    refine m_if2 (t := 14) (pc' := 10) cd_Mo_isDevice rfl rfl rfl (fun c7 => ?_) (fun c7 => ?_)
    · have c7 : (6 : Int32) ≤ x := c7
      refine m_k1 (v := 0) (pc' := 15) cd_Mo_isDevice rfl (by decide) rfl ?_
      exact m_retz cd_Mo_isDevice rfl (Or.inl rfl) ⟨_, rfl, (by rw [inR_hi c7] at kk; exact kk)⟩
    · have c7 : ¬ (6 : Int32) ≤ x := c7
      refine m_k1 (v := 1) (pc' := 11) cd_Mo_isDevice rfl (by decide) rfl ?_
      refine m_pure (pc' := 15) (st' := [.int 1]) cd_Mo_isDevice rfl rfl (fun _ _ => rfl) ?_
      exact m_retz cd_Mo_isDevice rfl (Or.inr rfl) ⟨_, rfl, (by rw [inR_t c1 c7] at kk; exact kk)⟩
set_option maxRecDepth 100000 in
theorem m_isRegister {sc : tm_X} {d : Nat} {f : Nat → Int32} {A : Nat → Nat → Int32} {x : Int32} {Q : Int32 → MS → Prop} (kk : Q (bz (inR x 32)) (f, A)) : mGi sc (d + 0) 250 [.int x] (f, A) Q := by
  show mg sc (d + 0) 250 0 [(0, .int x)] [] (f, A) _
  generalize elv : ([(0, .int x)] : tm_L) = lv
  have l0 : lv.lookup 0 = some (.int x) := by rw [← elv]; rfl
  clear elv
  refine m_ild (pc' := 1) cd_Mo_isRegister rfl (Or.inr ⟨_, rfl, rfl, rfl⟩) l0 rfl ?_
  refine m_if1 (t := 14) (pc' := 4) cd_Mo_isRegister rfl rfl rfl (fun c1 => ?_) (fun c1 => ?_)
  · have c1 : x < 0 := c1
    refine m_k1 (v := 0) (pc' := 15) cd_Mo_isRegister rfl (by decide) rfl ?_
    exact m_retz cd_Mo_isRegister rfl (Or.inl rfl) ⟨_, rfl, (by rw [inR_lo c1] at kk; exact kk)⟩
  · have c1 : ¬ x < 0 := c1
    refine m_ild (pc' := 5) cd_Mo_isRegister rfl (Or.inr ⟨_, rfl, rfl, rfl⟩) l0 rfl ?_
    refine m_k2 (v := 32) (pc' := 7) cd_Mo_isRegister rfl (by decide) rfl ?_
    refine m_if2 (t := 14) (pc' := 10) cd_Mo_isRegister rfl rfl rfl (fun c7 => ?_) (fun c7 => ?_)
    · have c7 : (32 : Int32) ≤ x := c7
      refine m_k1 (v := 0) (pc' := 15) cd_Mo_isRegister rfl (by decide) rfl ?_
      exact m_retz cd_Mo_isRegister rfl (Or.inl rfl) ⟨_, rfl, (by rw [inR_hi c7] at kk; exact kk)⟩
    · have c7 : ¬ (32 : Int32) ≤ x := c7
      refine m_k1 (v := 1) (pc' := 11) cd_Mo_isRegister rfl (by decide) rfl ?_
      refine m_pure (pc' := 15) (st' := [.int 1]) cd_Mo_isRegister rfl rfl (fun _ _ => rfl) ?_
      exact m_retz cd_Mo_isRegister rfl (Or.inr rfl) ⟨_, rfl, (by rw [inR_t c1 c7] at kk; exact kk)⟩
set_option maxRecDepth 100000 in
theorem m_isFull {sc : tm_X} {d : Nat} {f : Nat → Int32} {A : Nat → Nat → Int32} {n m : Nat} {Q : Int32 → MS → Prop} (h1 : f 11 = nI n) (hn : n ≤ 2960) (h2 : f 40 = nI m) (hm : m ≤ 692) (kk : Q 0 (f, A)) : mGi sc (d + 0) 202 [.ref 1482] (f, A) Q := by
  show mg sc (d + 0) 202 0 [(0, .ref 1482)] [] (f, A) _
  generalize elv : ([(0, .ref 1482)] : tm_L) = lv
  have l0 : lv.lookup 0 = some (.ref 1482) := by rw [← elv]; rfl
  clear elv
  refine m_k3 (v := 3000) (pc' := 3) cd_Mo_isFull rfl (by decide) rfl ?_
  refine m_ald (pc' := 4) cd_Mo_isFull rfl (Or.inr ⟨_, rfl, rfl, rfl⟩) l0 rfl rfl ?_
  refine m_fI (k := 11) (x := (nI n)) (pc' := 7) cd_Mo_isFull rfl rfl rfl rfl rfl h1 ?_
  refine m_pure (pc' := 8) (st' := [.int ((3000 : Int32) - (nI n))]) cd_Mo_isFull rfl rfl (fun _ _ => rfl) ?_
  refine m_eq (show ((3000 : Int32) - (nI n) : Int32) = nI (3000 - n) from pk_sub (a := 3000) (b := n) (by omega)) ?_
  refine m_k2 (v := 40) (pc' := 10) cd_Mo_isFull rfl (by decide) rfl ?_
  refine m_if2 (t := 26) (pc' := 13) cd_Mo_isFull rfl rfl rfl (fun c10 => ?_) (fun c10 => ?_)
  · have c10 : (nI (3000 - n)) < 40 := c10
    exact absurd c10 (nI_nlt (a := 3000 - n) (b := 40) (by omega) (by omega))
  · have c10 : ¬ (nI (3000 - n)) < 40 := c10
    refine m_k3 (v := 700) (pc' := 16) cd_Mo_isFull rfl (by decide) rfl ?_
    refine m_ald (pc' := 17) cd_Mo_isFull rfl (Or.inr ⟨_, rfl, rfl, rfl⟩) l0 rfl rfl ?_
    refine m_fI (k := 40) (x := (nI m)) (pc' := 20) cd_Mo_isFull rfl rfl rfl rfl rfl h2 ?_
    refine m_pure (pc' := 21) (st' := [.int ((700 : Int32) - (nI m))]) cd_Mo_isFull rfl rfl (fun _ _ => rfl) ?_
    refine m_eq (show ((700 : Int32) - (nI m) : Int32) = nI (700 - m) from pk_sub (a := 700) (b := m) (by omega)) ?_
    refine m_k2 (v := 8) (pc' := 23) cd_Mo_isFull rfl (by decide) rfl ?_
    refine m_if2 (t := 30) (pc' := 26) cd_Mo_isFull rfl rfl rfl (fun c23 => ?_) (fun c23 => ?_)
    · have c23 : (8 : Int32) ≤ (nI (700 - m)) := c23
      refine m_k1 (v := 0) (pc' := 31) cd_Mo_isFull rfl (by decide) rfl ?_
      exact m_retz cd_Mo_isFull rfl (Or.inl rfl) ⟨_, rfl, kk⟩
    · have c23 : ¬ (8 : Int32) ≤ (nI (700 - m)) := c23
      exact absurd (nI_le (a := 8) (b := 700 - m) (by omega) (by omega)) c23
set_option maxRecDepth 100000 in
theorem m_refused {sc : tm_X} {d : Nat} {f : Nat → Int32} {A : Nat → Nat → Int32} {b mk dn : Bool} {p n m : Nat} {Q : Int32 → MS → Prop} (h1 : f 11 = nI n) (hn : n ≤ 2960) (h2 : f 40 = nI m) (hm : m ≤ 692) (hp : p < 6) (hdn : A 22 p = bz dn) (k1 : b = false → Q (-1) (fset f 21 (f 21 + 1), A)) (k3 : b = true → dn = true → Q (-3) (fset f 21 (f 21 + 1), A)) (k0 : b = true → dn = false → Q 0 (fset f 21 (f 21 + 1), A)) : mGi sc (d + 1) 201 [.ref 1482, .int (bz b), .int (bz mk), .int (nI p)] (f, A) Q := by
  show mg sc (d + 1) 201 0 [(0, .ref 1482), (1, .int (bz b)), (2, .int (bz mk)), (3, .int (nI p))] [] (f, A) _
  generalize elv : ([(0, .ref 1482), (1, .int (bz b)), (2, .int (bz mk)), (3, .int (nI p))] : tm_L) = lv
  have l0 : lv.lookup 0 = some (.ref 1482) := by rw [← elv]; rfl
  have l1 : lv.lookup 1 = some (.int (bz b)) := by rw [← elv]; rfl
  have l2 : lv.lookup 2 = some (.int (bz mk)) := by rw [← elv]; rfl
  have l3 : lv.lookup 3 = some (.int (nI p)) := by rw [← elv]; rfl
  clear elv
  refine m_ald (pc' := 1) cd_Mo_refused rfl (Or.inr ⟨_, rfl, rfl, rfl⟩) l0 rfl rfl ?_
  refine m_pure (pc' := 2) (st' := [.ref 1482, .ref 1482]) cd_Mo_refused rfl rfl (fun _ _ => rfl) ?_
  refine m_fI (k := 21) (x := (f 21)) (pc' := 5) cd_Mo_refused rfl rfl rfl rfl rfl rfl ?_
  refine m_k1 (v := 1) (pc' := 6) cd_Mo_refused rfl (by decide) rfl ?_
  refine m_pure (pc' := 7) (st' := [.int ((f 21) + 1), .ref 1482]) cd_Mo_refused rfl rfl (fun _ _ => rfl) ?_
  refine m_pI (k := 21) (pc' := 10) cd_Mo_refused rfl rfl rfl rfl (by simp [tm_okV, narrow, fits]) rfl rfl ?_
  refine m_ild (pc' := 11) cd_Mo_refused rfl (Or.inr ⟨_, rfl, rfl, rfl⟩) l1 rfl ?_
  refine m_if1 (t := 18) (pc' := 14) cd_Mo_refused rfl rfl rfl (fun c11 => ?_) (fun c11 => ?_)
  · have c11 : b = true := bz_t c11
    refine m_ild (pc' := 19) cd_Mo_refused rfl (Or.inr ⟨_, rfl, rfl, rfl⟩) l2 rfl ?_
    refine m_if1 (t := 34) (pc' := 22) cd_Mo_refused rfl rfl rfl (fun c19 => ?_) (fun c19 => ?_)
    · have c19 : mk = false := bz_f c19
      refine m_ald (pc' := 35) cd_Mo_refused rfl (Or.inr ⟨_, rfl, rfl, rfl⟩) l0 rfl rfl ?_
      refine m_fR (r := 21) (a := 22) (ad := 1504) (pc' := 38) rfl rfl cd_Mo_refused rfl rfl rfl rfl rfl ?_
      refine m_ild (pc' := 39) cd_Mo_refused rfl (Or.inr ⟨_, rfl, rfl, rfl⟩) l3 rfl ?_
      refine m_bI (r := 21) (a := 22) (g := (A 22)) (x := bz dn) (pc' := 40) rfl rfl cd_Mo_refused rfl rfl rfl (vp_in_nI (by omega) (by decide)) (by rw [(nI_clamp (by omega))]; exact hdn) ?_
      refine m_if1 (t := 48) (pc' := 43) cd_Mo_refused rfl rfl rfl (fun c40 => ?_) (fun c40 => ?_)
      · have c40 : dn = false := bz_f c40
        refine m_k1 (v := 0) (pc' := 49) cd_Mo_refused rfl (by decide) rfl ?_
        exact m_reti cd_Mo_refused rfl ⟨_, rfl, (k0 c11 c40)⟩
      · have c40 : dn = true := bz_t c40
        refine m_k2 (v := (-3)) (pc' := 45) cd_Mo_refused rfl (by decide) rfl ?_
        refine m_pure (pc' := 49) (st' := [.int (-3)]) cd_Mo_refused rfl rfl (fun _ _ => rfl) ?_
        exact m_reti cd_Mo_refused rfl ⟨_, rfl, (k3 c11 c40)⟩
    · have c19 : mk = true := bz_t c19
      refine m_ald (pc' := 23) cd_Mo_refused rfl (Or.inr ⟨_, rfl, rfl, rfl⟩) l0 rfl rfl ?_
      refine m_ci (pc' := 26) cd_Mo_refused rfl rfl rfl rfl rfl cd_Mo_isFull rfl (Nat.le_of_ble_eq_true rfl) (m_isFull h1 hn h2 hm ?_)
      show mg _ _ _ 26 _ [.int 0] _ _
      refine m_if1 (t := 34) (pc' := 29) cd_Mo_refused rfl rfl rfl (fun c26 => ?_) (fun c26 => ?_)
      · have c26 : (0 : Int32) = 0 := c26
        refine m_ald (pc' := 35) cd_Mo_refused rfl (Or.inr ⟨_, rfl, rfl, rfl⟩) l0 rfl rfl ?_
        refine m_fR (r := 21) (a := 22) (ad := 1504) (pc' := 38) rfl rfl cd_Mo_refused rfl rfl rfl rfl rfl ?_
        refine m_ild (pc' := 39) cd_Mo_refused rfl (Or.inr ⟨_, rfl, rfl, rfl⟩) l3 rfl ?_
        refine m_bI (r := 21) (a := 22) (g := (A 22)) (x := bz dn) (pc' := 40) rfl rfl cd_Mo_refused rfl rfl rfl (vp_in_nI (by omega) (by decide)) (by rw [(nI_clamp (by omega))]; exact hdn) ?_
        refine m_if1 (t := 48) (pc' := 43) cd_Mo_refused rfl rfl rfl (fun c40 => ?_) (fun c40 => ?_)
        · have c40 : dn = false := bz_f c40
          refine m_k1 (v := 0) (pc' := 49) cd_Mo_refused rfl (by decide) rfl ?_
          exact m_reti cd_Mo_refused rfl ⟨_, rfl, (k0 c11 c40)⟩
        · have c40 : dn = true := bz_t c40
          refine m_k2 (v := (-3)) (pc' := 45) cd_Mo_refused rfl (by decide) rfl ?_
          refine m_pure (pc' := 49) (st' := [.int (-3)]) cd_Mo_refused rfl rfl (fun _ _ => rfl) ?_
          exact m_reti cd_Mo_refused rfl ⟨_, rfl, (k3 c11 c40)⟩
      · exact absurd (show ¬ (0 : Int32) = 0 from c26) (by decide)
  · have c11 : b = false := bz_f (Classical.not_not.mp c11)
    refine m_k1 (v := (-1)) (pc' := 15) cd_Mo_refused rfl (by decide) rfl ?_
    refine m_pure (pc' := 49) (st' := [.int (-1)]) cd_Mo_refused rfl rfl (fun _ _ => rfl) ?_
    exact m_reti cd_Mo_refused rfl ⟨_, rfl, (k1 c11)⟩
set_option maxRecDepth 100000 in
theorem l_load {sc : tm_X} {d : Nat} {f : Nat → Int32} {A : Nat → Nat → Int32} {p : Nat} {Q : MS → Prop} (hp : p < 6) (kk : ∀ g, (∀ j, j < 1602 → g j = A 14 (1602 * p + j)) → Q (fset (fset f 30 0) 32 0, fset A 15 g)) : ∀ (m k : Nat) (g : Nat → Int32), k + m = 1602 → (∀ j, j < k → g j = A 14 (1602 * p + j)) → ∀ lv : tm_L, lv.lookup 0 = some (.ref 1482) → lv.lookup 1 = some (.int (nI p)) → lv.lookup 2 = some (.int (nI k)) → mg sc d 190 2 lv [] (f, fset A 15 g) (fun r s' => r = none ∧ Q s') := by
  intro m
  induction m with
  | zero =>
    intro k g hke hg lv l0 l1 l2
    have hk2 : k = 1602 := by omega
    subst hk2
    refine m_ild (pc' := 3) cd_Mo_load rfl (Or.inr ⟨_, rfl, rfl, rfl⟩) l2 rfl ?_
    refine m_k3 (v := 1602) (pc' := 6) cd_Mo_load rfl (by decide) rfl ?_
    refine m_if2 (t := 33) (pc' := 9) cd_Mo_load rfl rfl rfl (fun c6 => ?_) (fun c6 => ?_)
    · have c6 : (1602 : Int32) ≤ (nI 1602) := c6
      refine m_ald (pc' := 34) cd_Mo_load rfl (Or.inr ⟨_, rfl, rfl, rfl⟩) l0 rfl rfl ?_
      refine m_k1 (v := 0) (pc' := 35) cd_Mo_load rfl (by decide) rfl ?_
      refine m_pI (k := 30) (pc' := 38) cd_Mo_load rfl rfl rfl rfl (by simp [tm_okV, narrow, fits]) rfl rfl ?_
      refine m_ald (pc' := 39) cd_Mo_load rfl (Or.inr ⟨_, rfl, rfl, rfl⟩) l0 rfl rfl ?_
      refine m_k1 (v := 0) (pc' := 40) cd_Mo_load rfl (by decide) rfl ?_
      refine m_pI (k := 32) (pc' := 43) cd_Mo_load rfl rfl rfl rfl (by simp [tm_okV, narrow, fits]) rfl rfl ?_
      exact m_retv cd_Mo_load rfl ⟨rfl, (kk g hg)⟩
    · have c6 : ¬ (1602 : Int32) ≤ (nI 1602) := c6
      exact absurd (show (1602 : Int32) ≤ nI 1602 from Int32.le_refl _) c6
  | succ m ih =>
    intro k g hke hg lv l0 l1 l2
    refine m_ild (pc' := 3) cd_Mo_load rfl (Or.inr ⟨_, rfl, rfl, rfl⟩) l2 rfl ?_
    refine m_k3 (v := 1602) (pc' := 6) cd_Mo_load rfl (by decide) rfl ?_
    refine m_if2 (t := 33) (pc' := 9) cd_Mo_load rfl rfl rfl (fun c6 => ?_) (fun c6 => ?_)
    · have c6 : (1602 : Int32) ≤ (nI k) := c6
      exact absurd c6 (nI_ge (b := 1602) (by omega) (by decide))
    · have c6 : ¬ (1602 : Int32) ≤ (nI k) := c6
      refine m_ald (pc' := 10) cd_Mo_load rfl (Or.inr ⟨_, rfl, rfl, rfl⟩) l0 rfl rfl ?_
      refine m_fR (r := 14) (a := 15) (ad := 1497) (pc' := 13) rfl rfl cd_Mo_load rfl rfl rfl rfl rfl ?_
      refine m_ild (pc' := 14) cd_Mo_load rfl (Or.inr ⟨_, rfl, rfl, rfl⟩) l2 rfl ?_
      refine m_ald (pc' := 15) cd_Mo_load rfl (Or.inr ⟨_, rfl, rfl, rfl⟩) l0 rfl rfl ?_
      refine m_fR (r := 13) (a := 14) (ad := 1496) (pc' := 18) rfl rfl cd_Mo_load rfl rfl rfl rfl rfl ?_
      refine m_k3 (v := 1602) (pc' := 21) cd_Mo_load rfl (by decide) rfl ?_
      refine m_ild (pc' := 22) cd_Mo_load rfl (Or.inr ⟨_, rfl, rfl, rfl⟩) l1 rfl ?_
      refine m_pure (pc' := 23) (st' := [.int ((1602 : Int32) * (nI p)), .ref 1496, .int (nI k), .ref 1497]) cd_Mo_load rfl rfl (fun _ _ => rfl) ?_
      refine m_eq (show ((1602 : Int32) * (nI p) : Int32) = nI (1602 * p) from pk_mul 1602 p) ?_
      refine m_ild (pc' := 24) cd_Mo_load rfl (Or.inr ⟨_, rfl, rfl, rfl⟩) l2 rfl ?_
      refine m_pure (pc' := 25) (st' := [.int ((nI (1602 * p)) + (nI k)), .ref 1496, .int (nI k), .ref 1497]) cd_Mo_load rfl rfl (fun _ _ => rfl) ?_
      refine m_eq (show ((nI (1602 * p)) + (nI k) : Int32) = nI ((1602 * p) + k) from nI_add (1602 * p) k) ?_
      refine m_aI (r := 13) (a := 14) (g := (A 14)) (x := ((A 14) ((1602 * p) + k))) (pc' := 26) rfl rfl cd_Mo_load rfl rfl rfl (vp_in_nI (by omega) (by decide)) (congrArg (A 14) (nI_clamp (by omega))) ?_
      refine m_aS (r := 14) (a := 15) (g := g) (p := k) (pc' := 27) rfl rfl cd_Mo_load rfl rfl rfl (vp_in_nI (by omega) (by decide)) (nI_clamp (by omega)) ?_
      refine m_inc (y := nI (k + 1)) (pc' := 30) cd_Mo_load rfl l2 (by decide) (nI_add k 1) rfl (fun lv el => ?_)
      have l0 := tm_lk el l0 rfl (by decide)
      have l1 := tm_lk el l1 rfl (by decide)
      have l2 : lv.lookup 2 = some (.int (nI (k + 1))) := tm_lks el
      clear el
      refine m_pure (pc' := 2) (st' := []) cd_Mo_load rfl rfl (fun _ _ => rfl) ?_
      rw [fset_fset]
      exact ih (k + 1) _ (by omega) (fun j hj => if c : j = k then (by subst c; exact upd_same) else (upd_ne c).trans (hg j (by omega))) lv l0 l1 l2
set_option maxRecDepth 100000 in
theorem m_load {sc : tm_X} {d : Nat} {f : Nat → Int32} {A : Nat → Nat → Int32} {p : Nat} {Q : MS → Prop} (hp : p < 6) (kk : ∀ g, (∀ j, j < 1602 → g j = A 14 (1602 * p + j)) → Q (fset (fset f 30 0) 32 0, fset A 15 g)) : mGv sc (d + 0) 190 [.ref 1482, .int (nI p)] (f, A) Q := by
  show mg sc (d + 0) 190 0 [(0, .ref 1482), (1, .int (nI p))] [] (f, A) _
  generalize elv : ([(0, .ref 1482), (1, .int (nI p))] : tm_L) = lv
  have l0 : lv.lookup 0 = some (.ref 1482) := by rw [← elv]; rfl
  have l1 : lv.lookup 1 = some (.int (nI p)) := by rw [← elv]; rfl
  clear elv
  refine m_k1 (v := 0) (pc' := 1) cd_Mo_load rfl (by decide) rfl ?_
  refine m_ist (pc' := 2) cd_Mo_load rfl (Or.inr ⟨_, rfl, rfl, rfl⟩) (by decide) rfl (fun lv el => ?_)
  have l0 := tm_lk el l0 rfl (by decide)
  have l1 := tm_lk el l1 rfl (by decide)
  have l2 : lv.lookup 2 = some (.int 0) := tm_lks el
  clear el
  have e : (f, A) = (f, fset A 15 (A 15)) := by rw [fset_eta]
  rw [e]
  exact l_load hp kk 1602 0 (A 15) (by omega) (fun j hj => absurd hj (by omega)) lv l0 l1 l2
set_option maxRecDepth 100000 in
theorem l_keep {sc : tm_X} {d : Nat} {f : Nat → Int32} {A : Nat → Nat → Int32} {p : Nat} {Q : MS → Prop} (hp : p < 6) (kk : ∀ g, ((∀ j, j < 1602 → g (1602 * p + j) = A 15 j) ∧ (∀ j, (j < 1602 * p ∨ 1602 * p + 1602 ≤ j) → g j = A 14 j)) → Q (f, fset A 14 g)) : ∀ (m k : Nat) (g : Nat → Int32), k + m = 1602 → ((∀ j, j < k → g (1602 * p + j) = A 15 j) ∧ (∀ j, (j < 1602 * p ∨ 1602 * p + k ≤ j) → g j = A 14 j)) → ∀ lv : tm_L, lv.lookup 0 = some (.ref 1482) → lv.lookup 1 = some (.int (nI p)) → lv.lookup 2 = some (.int (nI k)) → mg sc d 206 2 lv [] (f, fset A 14 g) (fun r s' => r = none ∧ Q s') := by
  intro m
  induction m with
  | zero =>
    intro k g hke hg lv l0 l1 l2
    have hk2 : k = 1602 := by omega
    subst hk2
    refine m_ild (pc' := 3) cd_Mo_keep rfl (Or.inr ⟨_, rfl, rfl, rfl⟩) l2 rfl ?_
    refine m_k3 (v := 1602) (pc' := 6) cd_Mo_keep rfl (by decide) rfl ?_
    refine m_if2 (t := 33) (pc' := 9) cd_Mo_keep rfl rfl rfl (fun c6 => ?_) (fun c6 => ?_)
    · have c6 : (1602 : Int32) ≤ (nI 1602) := c6
      exact m_retv cd_Mo_keep rfl ⟨rfl, (kk g hg)⟩
    · have c6 : ¬ (1602 : Int32) ≤ (nI 1602) := c6
      exact absurd (show (1602 : Int32) ≤ nI 1602 from Int32.le_refl _) c6
  | succ m ih =>
    intro k g hke hg lv l0 l1 l2
    refine m_ild (pc' := 3) cd_Mo_keep rfl (Or.inr ⟨_, rfl, rfl, rfl⟩) l2 rfl ?_
    refine m_k3 (v := 1602) (pc' := 6) cd_Mo_keep rfl (by decide) rfl ?_
    refine m_if2 (t := 33) (pc' := 9) cd_Mo_keep rfl rfl rfl (fun c6 => ?_) (fun c6 => ?_)
    · have c6 : (1602 : Int32) ≤ (nI k) := c6
      exact absurd c6 (nI_ge (b := 1602) (by omega) (by decide))
    · have c6 : ¬ (1602 : Int32) ≤ (nI k) := c6
      refine m_ald (pc' := 10) cd_Mo_keep rfl (Or.inr ⟨_, rfl, rfl, rfl⟩) l0 rfl rfl ?_
      refine m_fR (r := 13) (a := 14) (ad := 1496) (pc' := 13) rfl rfl cd_Mo_keep rfl rfl rfl rfl rfl ?_
      refine m_k3 (v := 1602) (pc' := 16) cd_Mo_keep rfl (by decide) rfl ?_
      refine m_ild (pc' := 17) cd_Mo_keep rfl (Or.inr ⟨_, rfl, rfl, rfl⟩) l1 rfl ?_
      refine m_pure (pc' := 18) (st' := [.int ((1602 : Int32) * (nI p)), .ref 1496]) cd_Mo_keep rfl rfl (fun _ _ => rfl) ?_
      refine m_eq (show ((1602 : Int32) * (nI p) : Int32) = nI (1602 * p) from pk_mul 1602 p) ?_
      refine m_ild (pc' := 19) cd_Mo_keep rfl (Or.inr ⟨_, rfl, rfl, rfl⟩) l2 rfl ?_
      refine m_pure (pc' := 20) (st' := [.int ((nI (1602 * p)) + (nI k)), .ref 1496]) cd_Mo_keep rfl rfl (fun _ _ => rfl) ?_
      refine m_eq (show ((nI (1602 * p)) + (nI k) : Int32) = nI ((1602 * p) + k) from nI_add (1602 * p) k) ?_
      refine m_ald (pc' := 21) cd_Mo_keep rfl (Or.inr ⟨_, rfl, rfl, rfl⟩) l0 rfl rfl ?_
      refine m_fR (r := 14) (a := 15) (ad := 1497) (pc' := 24) rfl rfl cd_Mo_keep rfl rfl rfl rfl rfl ?_
      refine m_ild (pc' := 25) cd_Mo_keep rfl (Or.inr ⟨_, rfl, rfl, rfl⟩) l2 rfl ?_
      refine m_aI (r := 14) (a := 15) (g := (A 15)) (x := ((A 15) k)) (pc' := 26) rfl rfl cd_Mo_keep rfl rfl rfl (vp_in_nI (by omega) (by decide)) (congrArg (A 15) (nI_clamp (by omega))) ?_
      refine m_aS (r := 13) (a := 14) (g := g) (p := ((1602 * p) + k)) (pc' := 27) rfl rfl cd_Mo_keep rfl rfl rfl (vp_in_nI (by omega) (by decide)) (nI_clamp (by omega)) ?_
      refine m_inc (y := nI (k + 1)) (pc' := 30) cd_Mo_keep rfl l2 (by decide) (nI_add k 1) rfl (fun lv el => ?_)
      have l0 := tm_lk el l0 rfl (by decide)
      have l1 := tm_lk el l1 rfl (by decide)
      have l2 : lv.lookup 2 = some (.int (nI (k + 1))) := tm_lks el
      clear el
      refine m_pure (pc' := 2) (st' := []) cd_Mo_keep rfl rfl (fun _ _ => rfl) ?_
      rw [fset_fset]
      exact ih (k + 1) _ (by omega) ⟨fun j hj => if c : j = k then (by subst c; exact upd_same) else (upd_ne (by omega)).trans (hg.1 j (by omega)), fun j hj => (upd_ne (by omega)).trans (hg.2 j (by omega))⟩ lv l0 l1 l2
set_option maxRecDepth 100000 in
theorem m_keep {sc : tm_X} {d : Nat} {f : Nat → Int32} {A : Nat → Nat → Int32} {p : Nat} {Q : MS → Prop} (hp : p < 6) (kk : ∀ g, ((∀ j, j < 1602 → g (1602 * p + j) = A 15 j) ∧ (∀ j, (j < 1602 * p ∨ 1602 * p + 1602 ≤ j) → g j = A 14 j)) → Q (f, fset A 14 g)) : mGv sc (d + 0) 206 [.ref 1482, .int (nI p)] (f, A) Q := by
  show mg sc (d + 0) 206 0 [(0, .ref 1482), (1, .int (nI p))] [] (f, A) _
  generalize elv : ([(0, .ref 1482), (1, .int (nI p))] : tm_L) = lv
  have l0 : lv.lookup 0 = some (.ref 1482) := by rw [← elv]; rfl
  have l1 : lv.lookup 1 = some (.int (nI p)) := by rw [← elv]; rfl
  clear elv
  refine m_k1 (v := 0) (pc' := 1) cd_Mo_keep rfl (by decide) rfl ?_
  refine m_ist (pc' := 2) cd_Mo_keep rfl (Or.inr ⟨_, rfl, rfl, rfl⟩) (by decide) rfl (fun lv el => ?_)
  have l0 := tm_lk el l0 rfl (by decide)
  have l1 := tm_lk el l1 rfl (by decide)
  have l2 : lv.lookup 2 = some (.int 0) := tm_lks el
  clear el
  have e : (f, A) = (f, fset A 14 (A 14)) := by rw [fset_eta]
  rw [e]
  exact l_keep hp kk 1602 0 (A 14) (by omega) ⟨fun j hj => absurd hj (by omega), fun _ _ => rfl⟩ lv l0 l1 l2
