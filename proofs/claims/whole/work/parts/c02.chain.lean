/-! Sessions, by a property of their chains: Pr of what is kept, Q of what is mixed in, R of what is PUBLIC -/
def hcl (Pr Q : Tm → Prop) : Prop := Q tz ∧ ∀ (n : Int32) (a b : Tm), n ≠ 2 → n ≠ 3 → Pr a → Q b → Pr (Tmx n a b)
def GI (Pr R : Tm → Prop) (I : IB) : Prop := Pr I.2.1 ∧ R I.1 ∧ ∀ e, e ∈ I.2.2.2 → Pr e.2.2 ∧ R e.1
def GS (Pr Q R : Tm → Prop) : SS → Prop
  | ((th, ch, _, le), ba, ro, mi, sd, _, _, _, bp, bo', _) => Pr ro ∧ (sd = tz ∨ Pr sd) ∧ (ch = tz ∨ Pr ch) ∧ (∀ e, e ∈ le → Pr e.2.2 ∧ R e.1) ∧ (∀ x, Q (Tsh mi x)) ∧ R th ∧ R ba ∧ R bp ∧ R bo'
section GP
variable {Pr Q R : Tm → Prop}
theorem GI_step (hc : hcl Pr Q) {I : IB} (h : GI Pr R I) : GI Pr R (ib_step I) := by
  refine ⟨hc.2 7 _ _ (by decide) (by decide) h.1 hc.1, h.2.1, fun e he => ?_⟩
  rcases List.mem_append.mp he with he | he
  · refine h.2.2 e ?_
    split at he
    · exact List.mem_of_mem_drop he
    · exact he
  · rw [List.mem_singleton.mp he]
    exact ⟨hc.2 6 _ _ (by decide) (by decide) h.1 hc.1, h.2.1⟩
theorem GI_skipN (hc : hcl Pr Q) {ix : Int32} : ∀ (n : Nat) {I : IB}, GI Pr R I → GI Pr R (ib_skipN ix n I)
  | 0, _, h => h
  | n + 1, I, h => by
    unfold ib_skipN
    split
    · exact h
    · exact GI_skipN hc n (GI_step hc h)
theorem GI_skip (hc : hcl Pr Q) {ix : Int32} {I I' : IB} (h : GI Pr R I) (e : ib_skipTo I ix = some I') : GI Pr R I' := by
  unfold ib_skipTo at e
  split at e
  · cases e; exact GI_skipN hc 5 h
  · cases e
theorem GI_next (hc : hcl Pr Q) {ix : Int32} {I I' : IB} {K : Tm} (h : GI Pr R I) (e : ib_next I ix = some (K, I')) : GI Pr R I' ∧ Pr K := by
  unfold ib_next at e
  split at e
  · cases e
  · cases hs : ib_skipTo I ix with
    | none => rw [hs] at e; cases e
    | some J =>
      rw [hs] at e
      have hJ := GI_skip hc h hs
      cases e
      exact ⟨⟨hc.2 7 _ _ (by decide) (by decide) hJ.1 hc.1, hJ.2⟩, hc.2 6 _ _ (by decide) (by decide) hJ.1 hc.1⟩
theorem lf_take_su2 {p : Tm} {ix : Int32} {k : Tm} {r : List (Tm × Int32 × Tm)} : ∀ {l : List (Tm × Int32 × Tm)}, lf_take p ix l = some (k, r) → (∃ e, e ∈ l ∧ e.2.2 = k) ∧ ∀ e, e ∈ r → e ∈ l
  | [], h => by cases h
  | e :: l, h => by
    unfold lf_take at h
    by_cases c : e.1 = p ∧ e.2.1 = ix
    · rw [cif_t c] at h
      cases h
      exact ⟨⟨e, List.mem_cons_self, rfl⟩, fun e' he => List.mem_cons_of_mem _ he⟩
    · rw [cif_f c] at h
      cases hl : lf_take p ix l with
      | none => rw [hl] at h; cases h
      | some q =>
        rw [hl] at h
        cases h
        obtain ⟨⟨e', a1, a2⟩, a3⟩ := lf_take_su2 (l := l) hl
        refine ⟨⟨e', List.mem_cons_of_mem _ a1, a2⟩, fun x hx => ?_⟩
        rcases List.mem_cons.mp hx with rfl | hx
        · exact List.mem_cons_self
        · exact List.mem_cons_of_mem _ (a3 x hx)
theorem GI_gkey (hc : hcl Pr Q) {ix : Int32} {I I' : IB} {K : Tm} (h : GI Pr R I) (e : gv_key I ix = some (K, I')) : GI Pr R I' ∧ Pr K := by
  unfold gv_key at e
  cases hl : lf_take I.1 ix I.2.2.2 with
  | some q =>
    obtain ⟨k, l⟩ := q
    rw [hl] at e
    cases e
    obtain ⟨⟨e', a1, a2⟩, a3⟩ := lf_take_su2 hl
    exact ⟨⟨h.1, h.2.1, fun e he => h.2.2 e (a3 e he)⟩, a2 ▸ (h.2.2 e' a1).1⟩
  | none =>
    rw [hl] at e
    exact GI_next hc h e
theorem GS_recv (hc : hcl Pr Q) {S : SS} {p : Tm} (hp : R p) (h : GS Pr Q R S) : GS Pr Q R (ss_recv S p) ∧ GI Pr R (ss_recv S p).1 := by
  obtain ⟨⟨th, ch, nx, le⟩, ba, ro, mi, sd, n, b, br, bp, bo', on⟩ := S
  obtain ⟨h1, h2, h3, h4, h5, h6, h7⟩ := h
  have h9 : Pr (Tmx 5 ro (Tsh mi (pt p 0))) := hc.2 5 _ _ (by decide) (by decide) h1 (h5 _)
  exact ⟨⟨hc.2 4 _ _ (by decide) (by decide) h1 (h5 _), Or.inl rfl, Or.inr h9, h4, h5, hp, h7⟩, h9, hp, h4⟩
theorem GS_in {S : SS} {I : IB} (h : GS Pr Q R S) (hI : GI Pr R I) : GS Pr Q R (I, S.2) := by
  obtain ⟨⟨th, ch, nx, le⟩, ba, ro, mi, sd, n, b, br, bp, bo', on⟩ := S
  obtain ⟨h1, h2, h3, h4, h5, h6, h7⟩ := h
  obtain ⟨th', ch', nx', le'⟩ := I
  exact ⟨h1, h2, Or.inr hI.1, hI.2.2, h5, hI.2.1, h7⟩
theorem GS_gi {S : SS} (h : GS Pr Q R S) (hc : S.1.2.1 ≠ tz) : GI Pr R S.1 := by
  obtain ⟨⟨th, ch, nx, le⟩, ba, ro, mi, sd, n, b, br, bp, bo', on⟩ := S
  obtain ⟨h1, h2, h3, h4, h5, h6, h7⟩ := h
  exact ⟨h3.resolve_left hc, h6, h4⟩
theorem GS_follow (hc : hcl Pr Q) {S S1 : SS} {p : Tm} {en : Int32} (hp : R p) (h : GS Pr Q R S) (e : ss_follow S p en = some S1) : GS Pr Q R S1 ∧ GI Pr R S1.1 ∧ S1.2.2.2.2.2.2.2.2.2.2 = S.2.2.2.2.2.2.2.2.2.2 := by
  unfold ss_follow at e
  by_cases c : p = S.1.1 ∧ S.1.2.1 ≠ tz
  · rw [cif_t c] at e
    cases e
    exact ⟨h, GS_gi h c.2, rfl⟩
  · rw [cif_f c] at e
    by_cases c2 : S.1.2.1 ≠ tz ∧ S.1.2.2.1 < en
    · rw [cif_t c2] at e
      cases hs : ib_skipTo S.1 en with
      | none => rw [hs] at e; cases e
      | some I =>
        rw [hs] at e
        cases e
        have hI := GI_skip hc (GS_gi h c2.1) hs
        obtain ⟨q1, q2⟩ := GS_recv (p := p) hc hp (GS_in h hI)
        refine ⟨q1, q2, ?_⟩
        obtain ⟨I0, ba, ro, mi, sd, n, b, br, bp, bo', on⟩ := S
        rfl
    · rw [cif_f c2] at e
      cases e
      obtain ⟨q1, q2⟩ := GS_recv (p := p) hc hp h
      refine ⟨q1, q2, ?_⟩
      obtain ⟨I0, ba, ro, mi, sd, n, b, br, bp, bo', on⟩ := S
      rfl
theorem GS_key (hc : hcl Pr Q) {S S1 : SS} {H K : Tm} (hp : R (pt H 1)) (h : GS Pr Q R S) (e : ss_key S H = some (K, S1)) : GS Pr Q R S1 ∧ Pr K ∧ S1.2.2.2.2.2.2.2.2.2.2 = S.2.2.2.2.2.2.2.2.2.2 := by
  unfold ss_key at e
  cases hl : lf_take (pt H 1) (nu H 2) S.1.2.2.2 with
  | some q =>
    obtain ⟨k, l⟩ := q
    rw [hl] at e
    cases e
    obtain ⟨⟨e', a1, a2⟩, a3⟩ := lf_take_su2 hl
    obtain ⟨⟨th, ch, nx, le⟩, ba, ro, mi, sd, n, b, br, bp, bo', on⟩ := S
    obtain ⟨h1, h2, h3, h4, h5, h6, h7⟩ := h
    exact ⟨⟨h1, h2, h3, fun e he => h4 e (a3 e he), h5, h6, h7⟩, a2 ▸ (h4 e' a1).1, rfl⟩
  | none =>
    rw [hl] at e
    cases hf : ss_follow S (pt H 1) (nu H 3) with
    | none => rw [hf] at e; cases e
    | some S2 =>
      rw [hf] at e
      dsimp only at e
      obtain ⟨q1, q2, q3⟩ := GS_follow hc hp h hf
      cases hn : ib_next S2.1 (nu H 2) with
      | none => rw [hn] at e; cases e
      | some r =>
        obtain ⟨K', I'⟩ := r
        rw [hn] at e
        cases e
        obtain ⟨a1, a2⟩ := GI_next hc q2 hn
        exact ⟨GS_in q1 a1, a2, q3⟩
theorem GS_nb {S : SS} (h : GS Pr Q R S) : GS Pr Q R (ss_nb S) := by
  obtain ⟨⟨th, ch, nx, le⟩, ba, ro, mi, sd, n, b, br, bp, bo', on⟩ := S
  exact h
theorem GS_turn (hc : hcl Pr Q) {S : SS} {x : Tm} (h : GS Pr Q R S) (hx : ∀ y, Q (Tsh x y)) : GS Pr Q R (ss_turn S x) ∧ Pr (ss_turn S x).2.2.2.2.1 ∧ (ss_turn S x).2.2.2.2.2.2.2.2.2.2 = S.2.2.2.2.2.2.2.2.2.2 := by
  obtain ⟨⟨th, ch, nx, le⟩, ba, ro, mi, sd, n, b, br, bp, bo', on⟩ := S
  obtain ⟨h1, h2, h3, h4, h5, h6, h7⟩ := h
  by_cases c : sd = tz
  · rw [ss_turn_t c]
    have h9 : Pr (Tmx 5 ro (Tsh x (pt th 0))) := hc.2 5 _ _ (by decide) (by decide) h1 (hx _)
    exact ⟨⟨hc.2 4 _ _ (by decide) (by decide) h1 (hx _), Or.inr h9, h3, h4, hx, h6, h7⟩, h9, rfl⟩
  · rw [ss_turn_f c]
    exact ⟨⟨h1, h2, h3, h4, h5, h6, h7⟩, h2.resolve_left c, rfl⟩
theorem GS_sent (hc : hcl Pr Q) {S : SS} (h : GS Pr Q R S) (hs : Pr S.2.2.2.2.1) : GS Pr Q R (ss_sent S) ∧ (ss_sent S).2.2.2.2.2.2.2.2.2.2 = S.2.2.2.2.2.2.2.2.2.2 := by
  obtain ⟨⟨th, ch, nx, le⟩, ba, ro, mi, sd, n, b, br, bp, bo', on⟩ := S
  obtain ⟨h1, h2, h3, h4, h5, h6, h7⟩ := h
  exact ⟨⟨h1, Or.inr (hc.2 7 _ _ (by decide) (by decide) hs hc.1), h3, h4, h5, h6, h7⟩, rfl⟩
theorem GS_open (hc : hcl Pr Q) {id e r idd P O : Tm} (h : Pr (op_root id e r idd P O)) (hr : ∀ y, Q (Tsh r y)) (h1 : R (Tpub e)) (h2 : R P) (h3 : R O) : GS Pr Q R (op_ses id e r idd P O) ∧ Pr (op_ses id e r idd P O).2.2.2.2.1 := by
  have h6 : Pr (Tmx 5 (op_root id e r idd P O) (Tsh r (pt P 0))) := hc.2 5 _ _ (by decide) (by decide) h (hr _)
  exact ⟨⟨hc.2 4 _ _ (by decide) (by decide) h (hr _), Or.inr h6, Or.inl rfl, (fun e he => absurd he List.not_mem_nil), hr, h2, h1, h2, h3⟩, h6⟩
theorem GS_start {base mine root : Tm} {o : Bool} (h : Pr root) (hr : ∀ y, Q (Tsh mine y)) (hz : R tz) (hb : R base) : GS Pr Q R (ss_start base mine root o) := ⟨h, Or.inl rfl, Or.inl rfl, (fun e he => absurd he List.not_mem_nil), hr, hz, hb, hz, hz⟩
end GP
/-- the three that are wanted: by a one-time key or not; known to none; known to all -/
def TT1 (_ : Tm) : Prop := True
theorem hcl_bo (o : Bool) : hcl (fun t => bo t = o) TT1 := ⟨trivial, fun n a b h2 h3 ha _ => (bo_up h2 h3).trans ha⟩
theorem hcl_NS (C : Tm → Prop) : hcl (NS C) TT1 := ⟨trivial, fun n a b _ _ ha _ => NS_mx ha⟩
theorem hcl_U {Z : Tm → Prop} {H : Tm → Tm → Tm → Prop} {Sg : Tm → Tm → Prop} : hcl (Pub Z H Sg) (Pub Z H Sg) := ⟨Pub_tz, fun n a b _ _ ha hb => Pub_mx ha hb⟩
theorem bo_op (id e r idd P O : Tm) : bo (op_root id e r idd P O) = !tnil O := by
  unfold op_root
  cases h : tnil O
  · rw [if_neg (by decide)]; rfl
  · rw [if_pos rfl]; rfl
theorem NS_op {C : Tm → Prop} {id e r idd P O : Tm} (k1 : kd id = 1) (k2 : kd (pt P 0) = 1) (h1 : C id) (h2 : C (pt P 0)) : NS C (op_root id e r idd P O) := by
  unfold op_root
  split
  · exact NS_mx (NS_mx (NS_mx (NS_sh k1 k2 h1 h2)))
  · exact NS_mx (NS_mx (NS_mx (NS_sh k1 k2 h1 h2)))
theorem U_op {Z : Tm → Prop} {H : Tm → Tm → Tm → Prop} {Sg : Tm → Tm → Prop} {id e r idd P O : Tm} (h1 : Pub Z H Sg id) (h2 : Pub Z H Sg e) : Pub Z H Sg (op_root id e r idd P O) := by
  unfold op_root
  split
  · exact Pub_mx (Pub_mx (Pub_mx (Pub_sh (Or.inl h1)) (Pub_sh (Or.inl h2))) (Pub_sh (Or.inl h2))) Pub_tz
  · exact Pub_mx (Pub_mx (Pub_mx (Pub_sh (Or.inl h1)) (Pub_sh (Or.inl h2))) (Pub_sh (Or.inl h2))) (Pub_sh (Or.inl h2))
theorem bo_as (id ss pi base : Tm) (o : Option Tm) : bo (as_root id ss pi base o) = o.isSome := by cases o <;> rfl
theorem NS_as {C : Tm → Prop} {id ss pi base : Tm} {o : Option Tm} (k1 : kd ss = 1) (k2 : kd pi = 1) (h1 : C ss) (h2 : C pi) : NS C (as_root id ss pi base o) := by
  cases o
  · exact NS_mx (NS_mx (NS_mx (NS_sh k1 k2 h1 h2)))
  · exact NS_mx (NS_mx (NS_mx (NS_sh k1 k2 h1 h2)))
theorem U_as {Z : Tm → Prop} {H : Tm → Tm → Tm → Prop} {Sg : Tm → Tm → Prop} {id ss pi base : Tm} {o : Option Tm} (h1 : Pub Z H Sg id) (h2 : Pub Z H Sg ss) (ho : ∀ x, o = some x → Pub Z H Sg x) : Pub Z H Sg (as_root id ss pi base o) := by
  cases o with
  | none => exact Pub_mx (Pub_mx (Pub_mx (Pub_sh (Or.inl h2)) (Pub_sh (Or.inl h1))) (Pub_sh (Or.inl h2))) Pub_tz
  | some x => exact Pub_mx (Pub_mx (Pub_mx (Pub_sh (Or.inl h2)) (Pub_sh (Or.inl h1))) (Pub_sh (Or.inl h2))) (Pub_sh (Or.inl (ho x rfl)))
