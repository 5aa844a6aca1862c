/-! Secrets: a letter is sent -/
section SI
variable {V : Nat → Prop} {DL : List (Int32 × Int32)} {dev : Nat → DV} {sto : Nat → ST} {G : Tm → Prop} {ls : List RL} {n : Nat}
theorem TK_app {GF : Nat → Nat → Nat → Int32 → Bool → Prop} {PF : Tm → Int32 → Tm → Prop} {r : RL} (h : TK V GF PF ls) (hr : ∀ q, r.2.2.2.2.2.2.2.2 q = 2147483647) : TK V GF PF (ls ++ [r]) := ⟨h.1, fun x hx hi hn q hq hne ht => by
  rcases List.mem_append.mp hx with z | z
  · exact h.2 x z hi hn q hq hne ht
  · rw [List.mem_singleton.mp z] at ht
    exact absurd (hr q) ht⟩
/-- a SECRET that was just drawn is given away -/
theorem SI_pubX {Z : Tm → Prop} {GF : Nat → Nat → Nat → Int32 → Bool → Prop} {PF : Tm → Int32 → Tm → Prop} {DL0 : List (Int32 × Int32)} {m s : Nat} (h : SI V Z GF PF DL dev sto G ls) (hV : ∀ p, V p → p < 6) (h6 : 6 ≤ m) (hm : m < DL.length) (hd : DL.length ≤ 2960) (hP : ∀ X e c, PF X e c → ∃ m' v, m' < m ∧ upc (Tsec (nI m') (nI v) 0) c) (hl : ∀ r, r ∈ ls → ∃ m' d p, m' < m ∧ r.1 = Tsec (nI m') d p) (hc : ∀ q, V q → ∀ g, g < 4 → insV V (dme (dev q) g) → ∃ m', m' < m ∧ upc (Tsec (nI m') (nI q) 0) (dme (dev q) g).2.2.2.2.1) : SI V (fun t => Z t ∧ ¬ upc (Tsec (nI m) (nI s) 0) t) GF PF DL dev sto G ls := by
  have far : ∀ m' v k t, m' < m → upc (Tsec (nI m') (nI v) 0) t → ¬ upc (Tsec (nI m) (nI s) 0) (c7 k t) := fun m' v k t h1 h2 h3 => by
    obtain ⟨j, rfl⟩ := h2
    rw [c7_add] at h3
    have := upc_sec rfl rfl h3
    have := (Tsec_inj (by omega) (by omega) this).1
    omega
  refine SI_pub (j0 := 0) h hV rfl h6 hm hd (fun X e c q => ?_) (fun r hr => ?_) (fun r hr _ q => ?_) (fun q hq g hg hi j => ?_)
  · obtain ⟨m', v, a1, a2⟩ := hP X e c q
    exact far m' v 0 c a1 a2
  · obtain ⟨m', d, p, -, e⟩ := hl r hr
    rw [e]; rfl
  · obtain ⟨m', d, p, a1, e⟩ := hl r hr
    rw [e] at q
    have := (Tsec_inj (by omega) (by omega) q).1
    omega
  · obtain ⟨m', a1, a2⟩ := hc q hq g hg hi
    exact far m' q j _ a1 a2
theorem U_self {Z : Tm → Prop} {H : Tm → Tm → Tm → Prop} {S : Tm → Tm → Prop} {X : Tm} (k : kd X = 1) : Pub (fun t => Z t ∧ ¬ upc X t) H S X := (Pub_1 k).mpr (fun q => q.2 ⟨0, rfl⟩)
/-- the third end of a sending: S the session as it sends, s to p, m the letter's draw -/
theorem SIV_send {E : List (Int32 × Int32)} {s p m : Nat} {S1 : SS} {mi th : Tm} {D' : DV} {S' : ST} {on : Bool} {r : RL} (h : SIV V DL dev sto G ls) (hV : ∀ p, V p → p < 6) (hs : s < 6) (hp : p < 6) (hm : m + 1 = DL.length + E.length) (hm0 : DL.length ≤ m) (h6 : 6 ≤ DL.length) (hd : m ≤ 2900) (hl : ∀ r, r ∈ ls → ∃ m' d p, m' < DL.length ∧ r.1 = Tsec (nI m') d p) (hch : ∀ q, V q → ∀ g, g < 4 → insV V (dme (fset dev s D' q) g) → ∃ m', m' < m ∧ upc (Tsec (nI m') (nI q) 0) (dme (fset dev s D' q) g).2.2.2.2.1) (hBS : BOS S1) (hon : on = S1.2.2.2.2.2.2.2.2.2.2) (hNS : V s → V p → NS (core V) S1.2.2.2.2.1) (er : r = (Tsec (nI m) (nI s) 0, nI s, nI p, on, mi, th, 0, 0, fun _ => 2147483647)) (hcom : ∀ Z GF PF, SI V Z GF PF (DL ++ E) dev sto G ls → SI V Z GF PF (DL ++ E) (fset dev s D') (fset sto s S') G ls) : SIV V (DL ++ E) (fset dev s D') (fset sto s S') (fun y => G y ∨ y = ss_wire S1 (nI s) (nI p) (Trw 4 0 0 0 0 (Tsec (nI m) (nI s) 0) tz tz tz)) (ls ++ [r]) := by
  obtain ⟨Z, GF, PF, h1, h2⟩ := h
  have h3 := hcom Z GF PF (SI_draw E h1)
  have hlen : (DL ++ E).length = m + 1 := by rw [List.length_append]; omega
  have ht : ∀ q, r.2.2.2.2.2.2.2.2 q = 2147483647 := fun q => by rw [er]
  have h16 : nI p < 16 := Int32.lt_iff_toInt_lt.mpr (by rw [nI_toInt (by omega)]; show (p : Int) < 16; omega)
  have body : ∀ (U : Tm → Prop), UC U → U (Tsec (nI m) (nI s) 0) → U (Trw 4 0 0 0 0 (Tsec (nI m) (nI s) 0) tz tz tz) := fun U hU hx => UC_rw hU hx (UC_tz hU) (UC_tz hU) (UC_tz hU)
  by_cases hv : V s
  · by_cases hw : V p
    · have hi : inV V r := by rw [er]; exact ⟨⟨s, hv, rfl⟩, fun _ => ⟨p, hw, rfl⟩, fun q => absurd h16 q⟩
      have hz : Z r.1 := by rw [er]; exact h1.1.2.1 m hm0 (by omega) s hv 0 0
      have h4 := SI_let (r := r) h3 (fun _ => hz)
      refine ⟨Z, GF, PF, SI_give h4 (fun y hy => hy.imp (fun z => z) (fun z => ?_)), TK_app h2 ht⟩
      rw [z]
      obtain ⟨k, n0, b0, x, y', z', e1, e2, e3⟩ := U_hdr (s := nI s) (d := nI p) (body := Trw 4 0 0 0 0 (Tsec (nI m) (nI s) 0) tz tz tz) (SI_UC h4) hBS
      rw [e1]
      have hk := hNS hv hw
      refine Pub_sl e3 (Or.inr (Or.inl ⟨NS_mx (by rw [e2]; exact hk), r, List.mem_append_right _ (List.mem_singleton.mpr rfl), hi, ?_⟩))
      rw [er]
      refine ⟨h16, rfl, rfl, rfl, rfl, rfl, ?_⟩
      rw [bo_up (by decide) (by decide), e2, hon]
      have := hBS
      obtain ⟨⟨th', ch, nx, le⟩, ba, ro, mi', sd, n', b', br, bp, bo', on'⟩ := S1
      exact this.2.1.resolve_left (NS_nz hk)
    · have hX := SI_pubX (DL0 := DL) (m := m) (s := s) h3 hV (by omega) (by omega) (by omega) (fun X e c q => by
        obtain ⟨-, -, ⟨m', v, a1, a2⟩, -⟩ := h1.2.1.1 X e c q
        exact ⟨m', v, by omega, a2⟩) (fun r hr => by
        obtain ⟨m', d, p, a1, a2⟩ := hl r hr
        exact ⟨m', d, p, by omega, a2⟩) hch
      have hi : ¬ inV V r := fun q => by
        rw [er] at q
        obtain ⟨d, q1, q2⟩ := q.2.1 h16
        have := hV d q1
        have := nI_cxl (by omega) (by omega) (show nI p = nI d from q2)
        subst this
        exact hw q1
      have h4 := SI_let (r := r) hX (fun q => absurd q hi)
      refine ⟨_, GF, PF, SI_give h4 (fun y hy => hy.imp (fun z => z) (fun z => ?_)), TK_app h2 ht⟩
      rw [z]
      obtain ⟨k, n0, b0, x, y', z', e1, e2, e3⟩ := U_hdr (s := nI s) (d := nI p) (body := Trw 4 0 0 0 0 (Tsec (nI m) (nI s) 0) tz tz tz) (SI_UC h4) hBS
      rw [e1]
      exact Pub_sl e3 (Or.inl (body _ (SI_UC h4) (U_self rfl)))
  · have hi : ¬ inV V r := fun q => by
      rw [er] at q
      obtain ⟨d, q1, q2⟩ := q.1
      have := hV d q1
      have := nI_cxl (by omega) (by omega) (show nI s = nI d from q2)
      subst this
      exact hv q1
    have h4 := SI_let (r := r) h3 (fun q => absurd q hi)
    refine ⟨Z, GF, PF, SI_give h4 (fun y hy => hy.imp (fun z => z) (fun z => ?_)), TK_app h2 ht⟩
    rw [z]
    obtain ⟨k, n0, b0, x, y', z', e1, e2, e3⟩ := U_hdr (s := nI s) (d := nI p) (body := Trw 4 0 0 0 0 (Tsec (nI m) (nI s) 0) tz tz tz) (SI_UC h4) hBS
    rw [e1]
    exact Pub_sl e3 (Or.inl (body _ (SI_UC h4) (SI_out h4 hV (by omega) hv)))
end SI
