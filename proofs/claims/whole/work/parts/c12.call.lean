/-! Secrets: the calls -/
/-- whom a post has reached: by which gift -/
def TK (V : Nat → Prop) (GF : Nat → Nat → Nat → Int32 → Bool → Prop) (PF : Tm → Int32 → Tm → Prop) (ls : List RL) : Prop := (∀ s d g e o, GF s d g e o → V d) ∧ ∀ r, r ∈ ls → inV V r → ¬ r.2.2.1 < 16 → ∀ q, V q → r.2.1 ≠ nI q → r.2.2.2.2.2.2.2.2 q ≠ 2147483647 → ∃ s g e c, r.2.1 = nI s ∧ V s ∧ g < 4 ∧ r.2.2.1 = nI (16 + g) ∧ PF r.1 e c ∧ GF s q g e (hbit r.2.2.2.2.2.2.2.1 (nI q))
def SIV (V : Nat → Prop) (DL : List (Int32 × Int32)) (dev : Nat → DV) (sto : Nat → ST) (G : Tm → Prop) (ls : List RL) : Prop := ∃ Z GF PF, SI V Z GF PF DL dev sto G ls ∧ TK V GF PF ls
/-- what is known of the devices and letters, for whoever keeps secrets -/
def IV (n : Nat) (DL : List (Int32 × Int32)) (dev : Nat → DV) (ls : List RL) : Prop := (6 ≤ DL.length ∧ ∀ r, r ∈ ls → ∃ m d p, 6 ≤ m ∧ m < DL.length ∧ r.1 = Tsec (nI m) d p) ∧ ∀ s, s < 6 → IVd s n DL ls (dev s)
section SI
variable {V : Nat → Prop} {DL E : List (Int32 × Int32)} {dev : Nat → DV} {sto : Nat → ST} {G : Tm → Prop} {ls : List RL} {n : Nat}
theorem IVd_bos {s : Nat} {D : DV} (h : IVd s n DL ls D) : ∀ q S, S ∈ D.2.2.2.2.2.1 q → BOS S := by
  obtain ⟨id, K0, K1, on, lnu, se, me⟩ := D
  exact h.2.2.1
theorem IVd_id {s : Nat} {D : DV} (h : IVd s n DL ls D) : D.1 = Tsec (nI s) (nI s) 0 := by
  obtain ⟨id, K0, K1, on, lnu, se, me⟩ := D
  exact h.1
theorem IVd_me {s : Nat} {D : DV} (h : IVd s n DL ls D) : GME s n DL ls (dme D) := by
  obtain ⟨id, K0, K1, on, lnu, se, me⟩ := D
  exact h.2.2.2
theorem SIV_sto {s : Nat} {S : ST} (h : SIV V DL dev sto G ls) (hs : s < 6) (hO : ∀ e, e ∈ S.2.2.1 → e ∈ (sto s).2.2.1) : SIV V DL dev (fset sto s S) G ls := by
  obtain ⟨Z, GF, PF, h1, h2⟩ := h
  exact ⟨Z, GF, PF, SI_sto h1 hs (fun hv e he => ((h1.2.2.2 s hs).2 hv).2 e (hO e he)), h2⟩
theorem SIV_draw (E : List (Int32 × Int32)) (h : SIV V DL dev sto G ls) : SIV V (DL ++ E) dev sto G ls := by
  obtain ⟨Z, GF, PF, h1, h2⟩ := h
  exact ⟨Z, GF, PF, SI_draw E h1, h2⟩
theorem SIV_know {G' : Tm → Prop} (h : SIV V DL dev sto G ls) (hG : ∀ y, G' y → G y ∨ Kn G y) : SIV V DL dev sto G' ls := by
  obtain ⟨Z, GF, PF, h1, h2⟩ := h
  exact ⟨Z, GF, PF, SI_give h1 (fun y hy => (hG y hy).imp (fun z => z) (fun z => SI_Kn h1 z)), h2⟩
theorem SIV_out {G' : Tm → Prop} {m p : Int32} {s : Nat} (h : SIV V DL dev sto G ls) (hV : ∀ p, V p → p < 6) (hs : s < 100) (hv : ¬ V s) (hG : ∀ y, G' y → G y ∨ y = Tsec m (nI s) p) : SIV V DL dev sto G' ls := by
  obtain ⟨Z, GF, PF, h1, h2⟩ := h
  exact ⟨Z, GF, PF, SI_give h1 (fun y hy => (hG y hy).imp (fun z => z) (fun z => by rw [z]; exact SI_out h1 hV hs hv)), h2⟩
theorem st_terms_mem {S : ST} {y : Tm} (h : y ∈ st_terms S) : ∃ e, (e ∈ S.2.1 ∨ e ∈ S.2.2.1) ∧ (y = e.1 ∨ y = e.2) := by
  have key : ∀ (l : EN2), y ∈ nz (fl l) → ∃ e, e ∈ l ∧ (y = e.1 ∨ y = e.2) := fun l hl => by
    unfold nz fl at hl
    obtain ⟨e, he, hy⟩ := List.mem_flatMap.mp ((List.mem_filter.mp hl).1)
    rcases List.mem_cons.mp hy with z | z
    · exact ⟨e, he, Or.inl z⟩
    · exact ⟨e, he, Or.inr (List.mem_singleton.mp z)⟩
  unfold st_terms at h
  rcases List.mem_append.mp h with z | z
  · obtain ⟨e, he, hy⟩ := key _ z
    unfold st_l0 at he
    split at he
    · exact ⟨e, Or.inr he, hy⟩
    · exact ⟨e, Or.inl he, hy⟩
  · obtain ⟨e, he, hy⟩ := key _ z
    unfold st_l1 at he
    split at he
    · exact ⟨e, Or.inl he, hy⟩
    · exact ⟨e, Or.inr he, hy⟩
theorem SIV_look {s : Nat} (h : SIV V DL dev sto G ls) (hI : IV n DL dev ls) (hs : s < 6) (hv : ¬ V s) (hP : (sto s).2.1 = dv_en (dev s)) : SIV V DL dev sto (fun y => G y ∨ y ∈ st_terms (sto s)) ls := by
  obtain ⟨Z, GF, PF, h1, h2⟩ := h
  refine ⟨Z, GF, PF, SI_give h1 (fun y hy => hy.imp (fun z => z) (fun z => ?_)), h2⟩
  obtain ⟨e, he, hy⟩ := st_terms_mem z
  obtain ⟨q1, q2⟩ := (h1.2.2.2 s hs).2 hv
  have : UU V Z GF PF ls e.1 ∧ UU V Z GF PF ls e.2 := by
    rcases he with he | he
    · rw [hP] at he
      exact DPU_en (SI_UC h1) (IVd_bos (hI.2 s hs)) q1 e he
    · exact q2 e he
  rcases hy with rfl | rfl
  · exact this.1
  · exact this.2
/-- what a commit needs of the new device -/
def dok (V : Nat → Prop) (Z : Tm → Prop) (GF : Nat → Nat → Nat → Int32 → Bool → Prop) (PF : Tm → Int32 → Tm → Prop) (ls : List RL) (s : Nat) (D' : DV) : Prop := (V s → DVS V Z GF (UU V Z GF PF ls) s D') ∧ (¬ V s → DPU (UU V Z GF PF ls) D') ∧ (V s → ∀ X e c, PF X e c → ∀ g, g < 4 → (dme D' g).2.2.2.1 ≠ 0 → ¬ upc (dme D' g).2.2.2.2.1 c)
theorem SIV_com {s : Nat} {D' : DV} {p0 : Bool} {P : EN2} {c : Option Nat} (h : SIV V DL dev sto G ls) (E : List (Int32 × Int32)) (hs : s < 6) (hP : P = dv_en (dev s)) (hB : ∀ q S, S ∈ (dev s).2.2.2.2.2.1 q → BOS S) (hB' : ∀ q S, S ∈ D'.2.2.2.2.2.1 q → BOS S) (hd : ∀ Z GF PF, SI V Z GF PF (DL ++ E) dev sto G ls → dok V Z GF PF ls s D') : SIV V (DL ++ E) dev (fset sto s (st_commit p0 P c (dv_en D')).2) G ls ∧ SIV V (DL ++ E) (fset dev s D') (fset sto s (st_commit p0 P c (dv_en D')).2) G ls := by
  obtain ⟨Z, GF, PF, h1, h2⟩ := h
  have h3 := SI_draw E h1
  obtain ⟨d1, d2, d3⟩ := hd Z GF PF h3
  obtain ⟨c0, c1⟩ := SI_commit (p0 := p0) (c := c) h3 hs hP hB hB' d1 d2 d3
  exact ⟨⟨Z, GF, PF, c0, h2⟩, Z, GF, PF, c1, h2⟩
theorem SIV_give {G' : Tm → Prop} (h : SIV V DL dev sto G ls) (hG : ∀ Z GF PF, SI V Z GF PF DL dev sto G ls → ∀ y, G' y → G y ∨ UU V Z GF PF ls y) : SIV V DL dev sto G' ls := by
  obtain ⟨Z, GF, PF, h1, h2⟩ := h
  exact ⟨Z, GF, PF, SI_give h1 (hG Z GF PF h1), h2⟩
theorem dok_se {Z : Tm → Prop} {GF : Nat → Nat → Nat → Int32 → Bool → Prop} {PF : Tm → Int32 → Tm → Prop} {s : Nat} {id : Tm} {K0 K1 : PK} {on : List (Tm × Int32)} {lnu : Int32} {se se' : Nat → List SS} {me : Nat → MM} (h : SI V Z GF PF DL dev sto G ls) (hs : s < 6) (eD : dev s = (id, K0, K1, on, lnu, se, me)) (h1 : V s → ∀ q, V q → ∀ S, S ∈ se' q → NSS V S) (h2 : ¬ V s → ∀ q S, S ∈ se' q → SPU (UU V Z GF PF ls) S) : dok V Z GF PF ls s (id, K0, K1, on, lnu, se', me) := by
  have hq := h.2.2.2 s hs
  rw [eD] at hq
  refine ⟨fun hv => DVS_se (hq.1 hv) (h1 hv), fun hv => DPU_se (hq.2 hv).1 (h2 hv), SI_chs h (fun g _ => ?_)⟩
  rw [eD]
  exact ⟨rfl, rfl⟩
theorem dok_me {Z : Tm → Prop} {GF : Nat → Nat → Nat → Int32 → Bool → Prop} {PF : Tm → Int32 → Tm → Prop} {s g : Nat} {id : Tm} {K0 K1 : PK} {on : List (Tm × Int32)} {lnu : Int32} {se : Nat → List SS} {me : Nat → MM} {v k : Int32} (h : SI V Z GF PF DL dev sto G ls) (hs : s < 6) (hI : IVd s n DL ls (dev s)) (eD : dev s = (id, K0, K1, on, lnu, se, me)) : dok V Z GF PF ls s (id, K0, K1, on, lnu, se, fset me g (mm_adopt (me g) v k)) := by
  have hq := h.2.2.2 s hs
  rw [eD] at hq hI
  refine ⟨fun hv => DVS_me (hq.1 hv) (fun hg => GVS_adopt ((hq.1 hv).2 g hg) (hI.2.2.2.1 g hg).1.1), fun hv => ?_, SI_chs h (fun g' _ => ?_)⟩
  · obtain ⟨q1, q2, q3, q4, q5⟩ := (hq.2 hv).1
    exact ⟨q1, q2, q3, q4, MP_set q5 (fun hg => MPU_adopt (q5 g hg))⟩
  · rw [eD]
    show (fset me g (mm_adopt (me g) v k) g').2.2.2.1 = (me g').2.2.2.1 ∧ (fset me g (mm_adopt (me g) v k) g').2.2.2.2.1 = (me g').2.2.2.2.1
    by_cases c : g' = g
    · subst c
      rw [fset_same]
      generalize me g' = M
      obtain ⟨ve, ma, go, ge, ch, si, ix, ga, sl, gv⟩ := M
      exact ⟨rfl, rfl⟩
    · rw [fset_ne c]; exact ⟨rfl, rfl⟩
theorem dok_renew {Z : Tm → Prop} {GF : Nat → Nat → Nat → Int32 → Bool → Prop} {PF : Tm → Int32 → Tm → Prop} {s dr : Nat} (h : SI V Z GF PF DL dev sto G ls) (hV : ∀ p, V p → p < 6) (hs : s < 6) : dok V Z GF PF ls s (dv_renew (dev s) dr s) := by
  have hq := h.2.2.2 s hs
  refine ⟨fun hv => ?_, fun hv => DPU_renew (SI_UC h) (fun n p => SI_out h hV (by omega) hv) (hq.2 hv).1, SI_chs h (fun g _ => ?_)⟩
  · have := hq.1 hv
    generalize dev s = D at this
    obtain ⟨id, K0, K1, on, lnu, se, me⟩ := D
    exact this
  · generalize dev s = D
    obtain ⟨id, K0, K1, on, lnu, se, me⟩ := D
    exact ⟨rfl, rfl⟩
end SI
