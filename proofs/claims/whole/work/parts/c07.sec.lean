/-! Who keeps secrets: V. What is secret, Z; gifts GF; posts PF -/
def core (V : Nat → Prop) (t : Tm) : Prop := ∃ p, V p ∧ (t = Tsec (nI p) (nI p) 0 ∨ ∃ m, t = Tsec m (nI p) 1)
/-- a letter within V -/
def inV (V : Nat → Prop) (r : RL) : Prop := (∃ s, V s ∧ r.2.1 = nI s) ∧ (r.2.2.1 < 16 → ∃ d, V d ∧ r.2.2.1 = nI d) ∧ (¬ r.2.2.1 < 16 → ∀ p, p < 6 → hbit r.2.2.2.2.2.2.1 (nI p) = true → V p)
def HL (V : Nat → Prop) (ls : List RL) (k h b : Tm) : Prop := NS (core V) k ∧ ∃ r, r ∈ ls ∧ inV V r ∧ r.2.2.1 < 16 ∧ mk h = 3 ∧ nu h 0 = r.2.1 ∧ nu h 1 = r.2.2.1 ∧ mk b = 4 ∧ pt b 0 = r.1 ∧ bo k = r.2.2.2.1
def HG (V : Nat → Prop) (GF : Nat → Nat → Nat → Int32 → Bool → Prop) (k h b : Tm) : Prop := NS (core V) k ∧ ∃ s d g, V s ∧ V d ∧ g < 4 ∧ mk h = 3 ∧ nu h 0 = nI s ∧ nu h 1 = nI d ∧ mk b = 5 ∧ nu b 0 = nI g ∧ GF s d g (nu b 1) (bo k)
def HP (V : Nat → Prop) (PF : Tm → Int32 → Tm → Prop) (ls : List RL) (k h b : Tm) : Prop := ∃ r c, r ∈ ls ∧ inV V r ∧ ¬ r.2.2.1 < 16 ∧ k = Tmx 6 c tz ∧ mk h = 7 ∧ 16 + nu h 0 = r.2.2.1 ∧ nu h 1 = r.2.1 ∧ mk b = 4 ∧ pt b 0 = r.1 ∧ PF r.1 (nu h 2) c
def Hn (V : Nat → Prop) (GF : Nat → Nat → Nat → Int32 → Bool → Prop) (PF : Tm → Int32 → Tm → Prop) (ls : List RL) (k h b : Tm) : Prop := HL V ls k h b ∨ HG V GF k h b ∨ HP V PF ls k h b
def Sg (V : Nat → Prop) (a t : Tm) : Prop := ∀ p, V p → a = Tsec (nI p) (nI p) 0 → Tgood 1 t = true → ∃ m, pt t 0 = Tpub (Tsec m (nI p) 1)
def UU (V : Nat → Prop) (Z : Tm → Prop) (GF : Nat → Nat → Nat → Int32 → Bool → Prop) (PF : Tm → Int32 → Tm → Prop) (ls : List RL) : Tm → Prop := Pub Z (Hn V GF PF ls) (Sg V)
/-- all of a device may be known -/
def SPU (U : Tm → Prop) (S : SS) : Prop := GS U U TT1 S ∧ U S.2.2.2.1
def MPU (U : Tm → Prop) (M : MM) : Prop := U M.2.2.2.2.1 ∧ U M.2.2.2.2.2.1 ∧ ∀ p G0, G0 ∈ mgv M p → U G0.1.1 ∧ GI U TT1 G0.1
def DPU (U : Tm → Prop) : DV → Prop
  | (id, K0, K1, on, _, se, me) => U id ∧ ((U K0.1 ∧ ∀ x, x ∈ K0.2.2 → U x) ∧ (U K1.1 ∧ ∀ x, x ∈ K1.2.2 → U x)) ∧ (∀ e, e ∈ on → U e.1) ∧ (∀ q S, S ∈ se q → SPU U S) ∧ ∀ g, g < 4 → MPU U (me g)
def NSS (V : Nat → Prop) (S : SS) : Prop := GS (NS (core V)) TT1 TT1 S
def insV (V : Nat → Prop) (M : MM) : Prop := mm_fresh M = true ∧ ∀ p, p < 6 → hbit M.2.1 (nI p) = true → V p
def GVS (V : Nat → Prop) (Z : Tm → Prop) (GF : Nat → Nat → Nat → Int32 → Bool → Prop) (U : Tm → Prop) (s g : Nat) (M : MM) : Prop := (insV V M → ∀ j, Z (c7 j M.2.2.2.2.1)) ∧ (∀ d e o, GF s d g e o → ∃ k k', e = nI k ∧ M.2.2.2.1 = nI k' ∧ k ≤ k' ∧ k' ≤ 100 ∧ (k = k' → hbit M.2.2.2.2.2.2.2.1 (nI d) = true)) ∧ ∀ p, V p → ∀ G0, G0 ∈ mgv M p → GI U TT1 G0.1 ∨ GF p s g G0.2.1 G0.2.2
/-- one who keeps secrets -/
def DVS (V : Nat → Prop) (Z : Tm → Prop) (GF : Nat → Nat → Nat → Int32 → Bool → Prop) (U : Tm → Prop) (s : Nat) : DV → Prop
  | (_, _, _, _, _, se, me) => (∀ q, V q → ∀ S, S ∈ se q → NSS V S) ∧ ∀ g, g < 4 → GVS V Z GF U s g (me g)
def dme (D : DV) : Nat → MM := D.2.2.2.2.2.2
def ZI (V : Nat → Prop) (Z : Tm → Prop) (DL : List (Int32 × Int32)) (ls : List RL) : Prop := (zok Z ∧ (∀ t, core V t → Z t) ∧ ∀ n d p, Z (Tsec n d p) → ∃ v, V v ∧ d = nI v) ∧ (∀ m, DL.length ≤ m → m < 3000 → ∀ v, V v → ∀ j p, Z (c7 j (Tsec (nI m) (nI v) p))) ∧ ∀ r, r ∈ ls → inV V r → Z r.1
def FI (V : Nat → Prop) (Z : Tm → Prop) (GF : Nat → Nat → Nat → Int32 → Bool → Prop) (PF : Tm → Int32 → Tm → Prop) (DL : List (Int32 × Int32)) (dev : Nat → DV) : Prop := (∀ X e c, PF X e c → (∃ m d p, m < DL.length ∧ X = Tsec (nI m) d p) ∧ Z c ∧ (∃ m v, m < DL.length ∧ upc (Tsec (nI m) (nI v) 0) c) ∧ ∀ s, V s → ∀ g, g < 4 → (dme (dev s) g).2.2.2.1 ≠ 0 → ¬ upc (dme (dev s) g).2.2.2.2.1 c) ∧ (∀ X e c e' c', PF X e c → PF X e' c' → e = e') ∧ ∀ s d g e o o', GF s d g e o → GF s d g e o' → o = o'
def SI (V : Nat → Prop) (Z : Tm → Prop) (GF : Nat → Nat → Nat → Int32 → Bool → Prop) (PF : Tm → Int32 → Tm → Prop) (DL : List (Int32 × Int32)) (dev : Nat → DV) (sto : Nat → ST) (G : Tm → Prop) (ls : List RL) : Prop := ZI V Z DL ls ∧ FI V Z GF PF DL dev ∧ (∀ y, G y → UU V Z GF PF ls y) ∧ ∀ s, s < 6 → (V s → DVS V Z GF (UU V Z GF PF ls) s (dev s)) ∧ (¬ V s → DPU (UU V Z GF PF ls) (dev s) ∧ ∀ e, e ∈ (sto s).2.2.1 → UU V Z GF PF ls e.1 ∧ UU V Z GF PF ls e.2)
/-! More may be known -/
theorem GI_imp {P P' : Tm → Prop} (h : ∀ t, P t → P' t) {I : IB} (q : GI P TT1 I) : GI P' TT1 I := ⟨h _ q.1, trivial, fun e he => ⟨h _ (q.2.2 e he).1, trivial⟩⟩
theorem GS_imp {P P' : Tm → Prop} (h : ∀ t, P t → P' t) {S : SS} (q : GS P P TT1 S) : GS P' P' TT1 S := by
  obtain ⟨⟨th, ch, nx, le⟩, ba, ro, mi, sd, n, b, br, bp, bo', on⟩ := S
  obtain ⟨h1, h2, h3, h4, h5, h6⟩ := q
  exact ⟨h _ h1, h2.imp (fun z => z) (h _), h3.imp (fun z => z) (h _), fun e he => ⟨h _ (h4 e he).1, trivial⟩, fun x => h _ (h5 x), h6⟩
theorem MPU_imp {P P' : Tm → Prop} (h : ∀ t, P t → P' t) {M : MM} (q : MPU P M) : MPU P' M := ⟨h _ q.1, h _ q.2.1, fun p G0 hG => ⟨h _ (q.2.2 p G0 hG).1, GI_imp h (q.2.2 p G0 hG).2⟩⟩
theorem DPU_imp {P P' : Tm → Prop} (h : ∀ t, P t → P' t) {D : DV} (q : DPU P D) : DPU P' D := by
  obtain ⟨id, K0, K1, on, lnu, se, me⟩ := D
  obtain ⟨h1, ⟨⟨h2, h3⟩, h4, h5⟩, h6, h7, h8⟩ := q
  exact ⟨h _ h1, ⟨⟨h _ h2, fun x hx => h _ (h3 x hx)⟩, h _ h4, fun x hx => h _ (h5 x hx)⟩, fun e he => h _ (h6 e he), fun q S hS => ⟨GS_imp h (h7 q S hS).1, h _ (h7 q S hS).2⟩, fun g hg => MPU_imp h (h8 g hg)⟩
section SI
variable {V : Nat → Prop} {Z Z' : Tm → Prop} {GF GF' : Nat → Nat → Nat → Int32 → Bool → Prop} {PF PF' : Tm → Int32 → Tm → Prop} {DL : List (Int32 × Int32)} {dev : Nat → DV} {sto : Nat → ST} {G : Tm → Prop} {ls ls' : List RL}
/-- the letters stand in the other list too -/
def lsy (ls ls' : List RL) : Prop := ∀ r, r ∈ ls → ∃ r', r' ∈ ls' ∧ r'.1 = r.1 ∧ r'.2.1 = r.2.1 ∧ r'.2.2.1 = r.2.2.1 ∧ r'.2.2.2.1 = r.2.2.2.1 ∧ r'.2.2.2.2.2.2.1 = r.2.2.2.2.2.2.1
theorem inV_c {r r' : RL} (h1 : r'.2.1 = r.2.1) (h2 : r'.2.2.1 = r.2.2.1) (h3 : r'.2.2.2.2.2.2.1 = r.2.2.2.2.2.2.1) (h : inV V r) : inV V r' := by
  unfold inV at h ⊢
  rw [h1, h2, h3]
  exact h
theorem Hn_mono (hG : ∀ s d g e o, GF s d g e o → GF' s d g e o) (hP : ∀ X e c, PF X e c → PF' X e c) (hl : lsy ls ls') {k h b : Tm} (q : Hn V GF PF ls k h b) : Hn V GF' PF' ls' k h b := by
  rcases q with ⟨q1, r, a1, a2, a3, a4, a5, a6, a7, a8, a9⟩ | ⟨q1, s, d, g, a1, a2, a3, a4, a5, a6, a7, a8, a9⟩ | ⟨r, c, a1, a2, a3, a4, a5, a6, a7, a8, a9, a10⟩
  · obtain ⟨r', b1, b2, b3, b4, b5, b6⟩ := hl r a1
    exact Or.inl ⟨q1, r', b1, inV_c b3 b4 b6 a2, by rw [b4]; exact a3, a4, by rw [b3]; exact a5, by rw [b4]; exact a6, a7, by rw [b2]; exact a8, by rw [b5]; exact a9⟩
  · exact Or.inr (Or.inl ⟨q1, s, d, g, a1, a2, a3, a4, a5, a6, a7, a8, hG _ _ _ _ _ a9⟩)
  · obtain ⟨r', b1, b2, b3, b4, b5, b6⟩ := hl r a1
    exact Or.inr (Or.inr ⟨r', c, b1, inV_c b3 b4 b6 a2, by rw [b4]; exact a3, a4, a5, by rw [b4]; exact a6, by rw [b3]; exact a7, a8, by rw [b2]; exact a9, by rw [b2]; exact hP _ _ _ a10⟩)
theorem UU_more (hZ : ∀ t, Z' t → Z t) (hG : ∀ s d g e o, GF s d g e o → GF' s d g e o) (hP : ∀ X e c, PF X e c → PF' X e c) (hl : lsy ls ls') {t : Tm} (q : UU V Z GF PF ls t) : UU V Z' GF' PF' ls' t := Pub_more hZ (fun _ _ _ h => Hn_mono hG hP hl h) (fun _ _ h => h) q
theorem lsy_rfl (ls : List RL) : lsy ls ls := fun r hr => ⟨r, hr, rfl, rfl, rfl, rfl, rfl⟩
theorem lsy_app (ls : List RL) (r : RL) : lsy ls (ls ++ [r]) := fun x hx => ⟨x, List.mem_append_left _ hx, rfl, rfl, rfl, rfl, rfl⟩
/-- a device that is not touched -/
theorem DVS_more {s : Nat} {D : DV} (hU : ∀ t, UU V Z GF PF ls t → UU V Z' GF' PF' ls' t) (hG : ∀ s d g e o, GF s d g e o → GF' s d g e o) (hZ : ∀ g, g < 4 → insV V (dme D g) → (∀ j, Z (c7 j (dme D g).2.2.2.2.1)) → ∀ j, Z' (c7 j (dme D g).2.2.2.2.1)) (hF : ∀ g, g < 4 → ∀ d e o, GF' s d g e o → GF s d g e o ∨ ∃ k k', e = nI k ∧ (dme D g).2.2.2.1 = nI k' ∧ k ≤ k' ∧ k' ≤ 100 ∧ (k = k' → hbit (dme D g).2.2.2.2.2.2.2.1 (nI d) = true)) (h : DVS V Z GF (UU V Z GF PF ls) s D) : DVS V Z' GF' (UU V Z' GF' PF' ls') s D := by
  obtain ⟨id, K0, K1, on, lnu, se, me⟩ := D
  obtain ⟨h1, h2⟩ := h
  refine ⟨h1, fun g hg => ?_⟩
  obtain ⟨a1, a2, a3⟩ := h2 g hg
  refine ⟨fun hi => hZ g hg hi (a1 hi), fun d e o q => ?_, fun p hp G0 hG0 => (a3 p hp G0 hG0).imp (GI_imp hU) (hG _ _ _ _ _)⟩
  rcases hF g hg d e o q with z | z
  · exact a2 d e o z
  · exact z
/-- what is sealed by them stays sealed -/
theorem SI_seal (h : SI V Z GF PF DL dev sto G ls) : ∀ k x b, Hn V GF PF ls k x b → ¬ UU V Z GF PF ls k := fun k x b q z => by
  obtain ⟨⟨⟨hz, hc, -⟩, -, -⟩, ⟨hP, -, -⟩, -⟩ := h
  rcases q with ⟨q, -⟩ | ⟨q, -⟩ | ⟨r, c, -, -, -, rfl, -, -, -, -, -, q⟩
  · exact NS_not hc q z
  · exact NS_not hc q z
  · obtain ⟨-, q1, ⟨m, v, -, j, q2⟩, -⟩ := hP _ _ _ q
    rcases (Pub_4 rfl).mp z with ⟨z, -⟩ | ⟨z, -⟩
    · have hg : gch c := ⟨j, _, rfl, q2⟩
      exact (gch_pub hz hg).mp z q1
    · exact absurd (gch_mx z).1 (by decide)
theorem SI_Kn (h : SI V Z GF PF DL dev sto G ls) {A : Tm} (hA : Kn G A) : UU V Z GF PF ls A := Pub_Kn h.1.1.1 (SI_seal h) h.2.2.1 hA
theorem SI_clo (h : SI V Z GF PF DL dev sto G ls) : clo (UU V Z GF PF ls) := Pub_clo h.1.1.1 (SI_seal h)
/-- what others draw may be known -/
theorem SI_out (h : SI V Z GF PF DL dev sto G ls) (hV : ∀ p, V p → p < 6) {n p : Int32} {s : Nat} (hs : s < 100) (hn : ¬ V s) : UU V Z GF PF ls (Tsec n (nI s) p) := (Pub_1 rfl).mpr (fun q => by
  obtain ⟨v, hv, e⟩ := h.1.1.2.2 _ _ _ q
  have := hV v hv
  have := nI_cxl (by omega) (by omega) e
  subst this
  exact hn hv)
end SI
