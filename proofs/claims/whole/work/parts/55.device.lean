/-! Membership and Device in the heap. Slots are swapped, never moved: sJ tells which. Slots beyond the count hold something, too. -/
def sJ (b : Bool) (k : Nat) : Nat := if b = true then 1 - k else k
theorem sJ_le (b : Bool) {k : Nat} (h : k < 2) : sJ b k < 2 := by unfold sJ; split <;> omega
theorem sJ_ne (b : Bool) : sJ b 0 ≠ sJ b 1 := by cases b <;> decide
theorem sJ_not (b : Bool) {k : Nat} (h : k < 2) : sJ (!b) k = sJ b (1 - k) := by cases b <;> simp [sJ] <;> omega
/-- version, mask, gone, generation, chain, signer, index, gave, stale, given -/
abbrev MM : Type := Int32 × Int32 × Int32 × Int32 × Tm × Tm × Int32 × Int32 × Bool × (Nat → List GV)
def gA (m : Nat) (w : Nat → Bool) (p k : Nat) : Nat := m + 3 + 3 * (2 * p + sJ (w p) k)
def MeS (B : bm_H) (m : Nat) : Prop := (m < bm_n B ∧ bm_K B m = 5) ∧ (bm_FR B 5 0 m = some (m + 1) ∧ bm_FR B 5 1 m = some (m + 2)) ∧ (m + 1 < bm_n B ∧ bm_K B (m + 1) = 13 ∧ bm_AL B (m + 1) = 6) ∧ (m + 2 < bm_n B ∧ bm_K B (m + 2) = 20 ∧ bm_AL B (m + 2) = 12)
def RGs (B : bm_H) (T : List Tm) (m : Nat) (w : Nat → Bool) (p : Nat) (l : List GV) : Prop := (bm_AI B (m + 1) p = nI l.length ∧ l.length ≤ 2) ∧ (bm_AR B (m + 2) (2 * p) = some (gA m w p 0) ∧ bm_AR B (m + 2) (2 * p + 1) = some (gA m w p 1)) ∧ ∃ G0 G1, RGv B T (gA m w p 0) G0 ∧ RGv B T (gA m w p 1) G1 ∧ l = [G0, G1].take l.length
def RMs (B : bm_H) (T : List Tm) (m : Nat) : MM → Prop
  | (ve, ma, go, ge, ch, si, ix, ga, sl, _) => (bm_FI B 5 2 m = ve ∧ bm_FI B 5 3 m = ma ∧ bm_FI B 5 4 m = go ∧ bm_FI B 5 5 m = ge) ∧ (tv T (bm_FI B 5 6 m) ch ∧ tv T (bm_FI B 5 7 m) si) ∧ bm_FI B 5 8 m = ix ∧ bm_FI B 5 9 m = ga ∧ bm_FI B 5 10 m = bz sl
def mgv (M : MM) : Nat → List GV := M.2.2.2.2.2.2.2.2.2
def RMe (B : bm_H) (T : List Tm) (m : Nat) (w : Nat → Bool) (M : MM) : Prop := MeS B m ∧ RMs B T m M ∧ ∀ p, p < 6 → RGs B T m w p (mgv M p)
theorem gA_in (m : Nat) (w : Nat → Bool) {p k : Nat} (hp : p < 6) (hk : k < 2) : m + 3 ≤ gA m w p k ∧ gA m w p k + 2 < m + 39 := by
  have := sJ_le (w p) hk
  unfold gA; omega
theorem gA_01 (m : Nat) (w : Nat → Bool) (p : Nat) : gA m w p 0 + 3 ≤ gA m w p 1 ∨ gA m w p 1 + 3 ≤ gA m w p 0 := by
  unfold gA; cases w p <;> simp [sJ] <;> omega
theorem gA_pp (m : Nat) (w w' : Nat → Bool) {p p' k k' : Nat} (h : p ≠ p') (hk : k < 2) (hk' : k' < 2) : gA m w p k + 3 ≤ gA m w' p' k' ∨ gA m w' p' k' + 3 ≤ gA m w p k := by
  have := sJ_le (w p) hk
  have := sJ_le (w' p') hk'
  unfold gA; omega
theorem MeS_fr {X : Nat → Prop} {B B' : bm_H} {m : Nat} (h : MeS B m) (hf : fr X B B') : MeS B' m := by
  obtain ⟨⟨a1, a2⟩, ⟨a3, a4⟩, ⟨b1, b2, b3⟩, c1, c2, c3⟩ := h
  exact ⟨⟨fr_lt hf a1, (fr_K hf a1).trans a2⟩, ⟨(fr_FS hf a1 5 0 rfl).trans a3, (fr_FS hf a1 5 1 rfl).trans a4⟩, ⟨fr_lt hf b1, (fr_K hf b1).trans b2, (fr_AL hf b1).trans b3⟩, fr_lt hf c1, (fr_K hf c1).trans c2, (fr_AL hf c1).trans c3⟩
theorem RMs_fr {X : Nat → Prop} {B B' : bm_H} {T T' : List Tm} {m : Nat} {M : MM} (hS : MeS B m) (h : RMs B T m M) (hf : fr X B B') (n0 : ¬ X m) (hT : T <+: T') : RMs B' T' m M := by
  obtain ⟨ve, ma, go, ge, ch, si, ix, ga, sl, gv⟩ := M
  obtain ⟨⟨h1, h2, h3, h4⟩, ⟨h5, h6⟩, h7, h8, h9⟩ := h
  have e := fun k => fr_FI hf hS.1.1 n0 5 k
  exact ⟨⟨(e 2).trans h1, (e 3).trans h2, (e 4).trans h3, (e 5).trans h4⟩, ⟨tvq (e 6) (tv_mono hT h5), tvq (e 7) (tv_mono hT h6)⟩, (e 8).trans h7, (e 9).trans h8, (e 10).trans h9⟩
theorem RGs_fr {X : Nat → Prop} {B B' : bm_H} {T T' : List Tm} {m p : Nat} {w : Nat → Bool} {l : List GV} (hS : MeS B m) (hp : p < 6) (h : RGs B T m w p l) (hf : fr X B B') (n1 : ¬ X (m + 1)) (n2 : ¬ X (m + 2)) (n0 : ∀ k y, k < 2 → gA m w p k ≤ y → y < gA m w p k + 3 → ¬ X y) (hT : T <+: T') : RGs B' T' m w p l := by
  obtain ⟨⟨h1, h2⟩, ⟨h3, h4⟩, G0, G1, h5, h6, h7⟩ := h
  have e1 := fr_AI hf hS.2.2.1.1 n1
  have e2 := fr_AR hf hS.2.2.2.1 n2
  refine ⟨⟨by rw [e1]; exact h1, h2⟩, ⟨by rw [e2]; exact h3, by rw [e2]; exact h4⟩, G0, G1, RGv_fr h5 hf (n0 0 _ (by omega) (by omega) (by omega)) (n0 0 _ (by omega) (by omega) (by omega)) (n0 0 _ (by omega) (by omega) (by omega)) hT, RGv_fr h6 hf (n0 1 _ (by omega) (by omega) (by omega)) (n0 1 _ (by omega) (by omega) (by omega)) (n0 1 _ (by omega) (by omega) (by omega)) hT, h7⟩
theorem RMe_fr {X : Nat → Prop} {B B' : bm_H} {T T' : List Tm} {m : Nat} {w : Nat → Bool} {M : MM} (h : RMe B T m w M) (hf : fr X B B') (n0 : ∀ y, m ≤ y → y < m + 39 → ¬ X y) (hT : T <+: T') : RMe B' T' m w M :=
  ⟨MeS_fr h.1 hf, RMs_fr h.1 h.2.1 hf (n0 m (by omega) (by omega)) hT, fun p hp => RGs_fr h.1 hp (h.2.2 p hp) hf (n0 _ (by omega) (by omega)) (n0 _ (by omega) (by omega)) (fun k y hk h1 h2 => n0 y (by have := gA_in m w hp hk; omega) (by have := gA_in m w hp hk; omega)) hT⟩
/-- a given key changed -/
theorem RGs_set {X : Nat → Prop} {B B' : bm_H} {T T' : List Tm} {m p k : Nat} {w : Nat → Bool} {l : List GV} {G : GV} (hS : MeS B m) (hp : p < 6) (h : RGs B T m w p l) (hf : fr X B B') (n1 : ¬ X (m + 1)) (n2 : ¬ X (m + 2)) (hk : k < l.length) (n0 : ∀ y, gA m w p (1 - k) ≤ y → y < gA m w p (1 - k) + 3 → ¬ X y) (hT : T <+: T') (hG : RGv B' T' (gA m w p k) G) : RGs B' T' m w p (l.set k G) := by
  obtain ⟨⟨h1, h2⟩, ⟨h3, h4⟩, G0, G1, h5, h6, h7⟩ := h
  have e1 := fr_AI hf hS.2.2.1.1 n1
  have e2 := fr_AR hf hS.2.2.2.1 n2
  refine ⟨⟨by rw [e1, h1]; simp, by simp; exact h2⟩, ⟨by rw [e2]; exact h3, by rw [e2]; exact h4⟩, ?_⟩
  have hk2 : k = 0 ∨ k = 1 := by omega
  rcases hk2 with rfl | rfl
  · have n0 : ∀ y, gA m w p 1 ≤ y → y < gA m w p 1 + 3 → ¬ X y := n0
    refine ⟨G, G1, hG, RGv_fr h6 hf (n0 _ (by omega) (by omega)) (n0 _ (by omega) (by omega)) (n0 _ (by omega) (by omega)) hT, ?_⟩
    rw [List.length_set]
    rcases l with _ | ⟨a, _ | ⟨b, l⟩⟩
    · simp at hk
    · simp at h7 ⊢
    · have : l = [] := by simp at h2; exact h2
      subst this
      simp at h7 ⊢
      exact h7.2
  · have n0 : ∀ y, gA m w p 0 ≤ y → y < gA m w p 0 + 3 → ¬ X y := n0
    refine ⟨G0, G, RGv_fr h5 hf (n0 _ (by omega) (by omega)) (n0 _ (by omega) (by omega)) (n0 _ (by omega) (by omega)) hT, hG, ?_⟩
    rw [List.length_set]
    rcases l with _ | ⟨a, _ | ⟨b, l⟩⟩
    · simp at hk
    · simp at hk
    · have : l = [] := by simp at h2; exact h2
      subst this
      simp at h7 ⊢
      exact h7.1
theorem RGs_get {B : bm_H} {T : List Tm} {m p k : Nat} {w : Nat → Bool} {l : List GV} {G : GV} (h : RGs B T m w p l) (hk : l[k]? = some G) : k < 2 ∧ RGv B T (gA m w p k) G ∧ bm_AR B (m + 2) (2 * p + k) = some (gA m w p k) := by
  obtain ⟨⟨h1, h2⟩, ⟨h3, h4⟩, G0, G1, h5, h6, h7⟩ := h
  have hl := (List.getElem?_eq_some_iff.mp hk).1
  have hk2 : k = 0 ∨ k = 1 := by omega
  rw [h7, List.getElem?_take, if_pos hl] at hk
  rcases hk2 with rfl | rfl
  · simp at hk; subst hk; exact ⟨by omega, h5, h3⟩
  · simp at hk; subst hk; exact ⟨by omega, h6, h4⟩
/-! Device -/
/-- identity, the newest prekey, the one before, one-time keys, the last number, sessions, groups -/
abbrev DV : Type := Tm × PK × PK × List (Tm × Int32) × Int32 × (Nat → List SS) × (Nat → MM)
abbrev SW : Type := Bool × (Nat → Bool) × (Nat → Nat → Bool)
def pA (x : Nat) (b : Bool) (k : Nat) : Nat := x + 2 + 2 * sJ b k
def sA (x : Nat) (w : Nat → Bool) (p k : Nat) : Nat := x + 11 + 3 * (2 * p + sJ (w p) k)
def DeS (B : bm_H) (x : Nat) : Prop := (x < bm_n B ∧ bm_K B x = 0) ∧ (bm_FR B 0 0 x = some (x + 1) ∧ bm_FR B 0 1 x = some (x + 6) ∧ bm_FR B 0 2 x = some (x + 7) ∧ bm_FR B 0 3 x = some (x + 8) ∧ bm_FR B 0 4 x = some (x + 9) ∧ bm_FR B 0 5 x = some (x + 10)) ∧ (x + 1 < bm_n B ∧ bm_K B (x + 1) = 17 ∧ bm_AL B (x + 1) = 2) ∧ (x + 6 < bm_n B ∧ bm_K B (x + 6) = 13 ∧ bm_AL B (x + 6) = 4) ∧ (x + 7 < bm_n B ∧ bm_K B (x + 7) = 13 ∧ bm_AL B (x + 7) = 4) ∧ (x + 8 < bm_n B ∧ bm_K B (x + 8) = 13 ∧ bm_AL B (x + 8) = 6) ∧ (x + 9 < bm_n B ∧ bm_K B (x + 9) = 18 ∧ bm_AL B (x + 9) = 12) ∧ (x + 10 < bm_n B ∧ bm_K B (x + 10) = 19 ∧ bm_AL B (x + 10) = 4)
def RSs (B : bm_H) (T : List Tm) (x : Nat) (w : Nat → Bool) (p : Nat) (l : List SS) : Prop := (bm_AI B (x + 8) p = nI l.length ∧ l.length ≤ 2) ∧ (bm_AR B (x + 9) (2 * p) = some (sA x w p 0) ∧ bm_AR B (x + 9) (2 * p + 1) = some (sA x w p 1)) ∧ ∃ S0 S1, RSe B T (sA x w p 0) S0 ∧ RSe B T (sA x w p 1) S1 ∧ l = [S0, S1].take l.length
def ROn (B : bm_H) (T : List Tm) (x : Nat) (l : List (Tm × Int32)) : Prop := (bm_FI B 0 7 x = nI l.length ∧ l.length ≤ 4) ∧ ∀ (i : Nat) (e : Tm × Int32), l[i]? = some e → tv T (bm_AI B (x + 6) i) e.1 ∧ bm_AI B (x + 7) i = e.2
def RDs (B : bm_H) (T : List Tm) (x : Nat) (id : Tm) (ln : Int32) : Prop := tv T (bm_FI B 0 6 x) id ∧ bm_FI B 0 8 x = ln
def RPs (B : bm_H) (T : List Tm) (x : Nat) (b : Bool) (K0 K1 : PK) : Prop := (bm_AR B (x + 1) 0 = some (pA x b 0) ∧ bm_AR B (x + 1) 1 = some (pA x b 1)) ∧ RPk B T (pA x b 0) K0 ∧ RPk B T (pA x b 1) K1
def RDe (B : bm_H) (T : List Tm) (x : Nat) (w : SW) : DV → Prop
  | (id, K0, K1, on, ln, se, me) => DeS B x ∧ RDs B T x id ln ∧ RPs B T x w.1 K0 K1 ∧ ROn B T x on ∧ (∀ p, p < 6 → RSs B T x w.2.1 p (se p)) ∧ (∀ g, g < 4 → bm_AR B (x + 10) g = some (x + 47 + 39 * g)) ∧ ∀ g, g < 4 → RMe B T (x + 47 + 39 * g) (w.2.2 g) (me g)
theorem sA_in (x : Nat) (w : Nat → Bool) {p k : Nat} (hp : p < 6) (hk : k < 2) : x + 11 ≤ sA x w p k ∧ sA x w p k + 2 < x + 47 := by
  have := sJ_le (w p) hk
  unfold sA; omega
theorem sA_01 (x : Nat) (w : Nat → Bool) (p : Nat) : sA x w p 0 + 3 ≤ sA x w p 1 ∨ sA x w p 1 + 3 ≤ sA x w p 0 := by
  unfold sA; cases w p <;> simp [sJ] <;> omega
theorem sA_pp (x : Nat) (w w' : Nat → Bool) {p p' k k' : Nat} (h : p ≠ p') (hk : k < 2) (hk' : k' < 2) : sA x w p k + 3 ≤ sA x w' p' k' ∨ sA x w' p' k' + 3 ≤ sA x w p k := by
  have := sJ_le (w p) hk
  have := sJ_le (w' p') hk'
  unfold sA; omega
theorem pA_in (x : Nat) (b : Bool) {k : Nat} (hk : k < 2) : x + 2 ≤ pA x b k ∧ pA x b k + 1 < x + 6 := by
  have := sJ_le b hk
  unfold pA; omega
theorem pA_01 (x : Nat) (b : Bool) : pA x b 0 + 2 ≤ pA x b 1 ∨ pA x b 1 + 2 ≤ pA x b 0 := by
  unfold pA; cases b <;> simp [sJ]
theorem DeS_fr {X : Nat → Prop} {B B' : bm_H} {x : Nat} (h : DeS B x) (hf : fr X B B') : DeS B' x := by
  obtain ⟨⟨a1, a2⟩, ⟨f0, f1, f2, f3, f4, f5⟩, ⟨b1, b2, b3⟩, ⟨c1, c2, c3⟩, ⟨d1, d2, d3⟩, ⟨e1, e2, e3⟩, ⟨g1, g2, g3⟩, k1, k2, k3⟩ := h
  exact ⟨⟨fr_lt hf a1, (fr_K hf a1).trans a2⟩, ⟨(fr_FS hf a1 0 0 rfl).trans f0, (fr_FS hf a1 0 1 rfl).trans f1, (fr_FS hf a1 0 2 rfl).trans f2, (fr_FS hf a1 0 3 rfl).trans f3, (fr_FS hf a1 0 4 rfl).trans f4, (fr_FS hf a1 0 5 rfl).trans f5⟩, ⟨fr_lt hf b1, (fr_K hf b1).trans b2, (fr_AL hf b1).trans b3⟩, ⟨fr_lt hf c1, (fr_K hf c1).trans c2, (fr_AL hf c1).trans c3⟩, ⟨fr_lt hf d1, (fr_K hf d1).trans d2, (fr_AL hf d1).trans d3⟩, ⟨fr_lt hf e1, (fr_K hf e1).trans e2, (fr_AL hf e1).trans e3⟩, ⟨fr_lt hf g1, (fr_K hf g1).trans g2, (fr_AL hf g1).trans g3⟩, fr_lt hf k1, (fr_K hf k1).trans k2, (fr_AL hf k1).trans k3⟩
theorem RSs_fr {X : Nat → Prop} {B B' : bm_H} {T T' : List Tm} {x p : Nat} {w : Nat → Bool} {l : List SS} (hS : DeS B x) (h : RSs B T x w p l) (hf : fr X B B') (n1 : ¬ X (x + 8)) (n2 : ¬ X (x + 9)) (n0 : ∀ k y, k < 2 → sA x w p k ≤ y → y < sA x w p k + 3 → ¬ X y) (hT : T <+: T') : RSs B' T' x w p l := by
  obtain ⟨⟨h1, h2⟩, ⟨h3, h4⟩, S0, S1, h5, h6, h7⟩ := h
  have e1 := fr_AI hf hS.2.2.2.2.2.1.1 n1
  have e2 := fr_AR hf hS.2.2.2.2.2.2.1.1 n2
  exact ⟨⟨by rw [e1]; exact h1, h2⟩, ⟨by rw [e2]; exact h3, by rw [e2]; exact h4⟩, S0, S1, RSe_fr h5 hf (n0 0 _ (by omega) (by omega) (by omega)) (n0 0 _ (by omega) (by omega) (by omega)) (n0 0 _ (by omega) (by omega) (by omega)) hT, RSe_fr h6 hf (n0 1 _ (by omega) (by omega) (by omega)) (n0 1 _ (by omega) (by omega) (by omega)) (n0 1 _ (by omega) (by omega) (by omega)) hT, h7⟩
theorem RSs_set {X : Nat → Prop} {B B' : bm_H} {T T' : List Tm} {x p k : Nat} {w : Nat → Bool} {l : List SS} {S : SS} (hS : DeS B x) (h : RSs B T x w p l) (hf : fr X B B') (n1 : ¬ X (x + 8)) (n2 : ¬ X (x + 9)) (hk : k < l.length) (n0 : ∀ y, sA x w p (1 - k) ≤ y → y < sA x w p (1 - k) + 3 → ¬ X y) (hT : T <+: T') (hG : RSe B' T' (sA x w p k) S) : RSs B' T' x w p (l.set k S) := by
  obtain ⟨⟨h1, h2⟩, ⟨h3, h4⟩, S0, S1, h5, h6, h7⟩ := h
  have e1 := fr_AI hf hS.2.2.2.2.2.1.1 n1
  have e2 := fr_AR hf hS.2.2.2.2.2.2.1.1 n2
  refine ⟨⟨by rw [e1, h1]; simp, by simp; exact h2⟩, ⟨by rw [e2]; exact h3, by rw [e2]; exact h4⟩, ?_⟩
  have hk2 : k = 0 ∨ k = 1 := by omega
  rcases hk2 with rfl | rfl
  · have n0 : ∀ y, sA x w p 1 ≤ y → y < sA x w p 1 + 3 → ¬ X y := n0
    refine ⟨S, S1, hG, RSe_fr h6 hf (n0 _ (by omega) (by omega)) (n0 _ (by omega) (by omega)) (n0 _ (by omega) (by omega)) hT, ?_⟩
    rw [List.length_set]
    rcases l with _ | ⟨a, _ | ⟨b, l⟩⟩
    · simp at hk
    · simp at h7 ⊢
    · have : l = [] := by simp at h2; exact h2
      subst this
      simp only [List.length_cons, List.length_nil, List.take, List.set, List.cons.injEq, and_true, true_and] at h7 ⊢
      exact h7.2
  · have n0 : ∀ y, sA x w p 0 ≤ y → y < sA x w p 0 + 3 → ¬ X y := n0
    refine ⟨S0, S, RSe_fr h5 hf (n0 _ (by omega) (by omega)) (n0 _ (by omega) (by omega)) (n0 _ (by omega) (by omega)) hT, hG, ?_⟩
    rw [List.length_set]
    rcases l with _ | ⟨a, _ | ⟨b, l⟩⟩
    · simp at hk
    · simp at hk
    · have : l = [] := by simp at h2; exact h2
      subst this
      simp only [List.length_cons, List.length_nil, List.take, List.set, List.cons.injEq, and_true, true_and] at h7 ⊢
      exact h7.1
theorem RSs_get {B : bm_H} {T : List Tm} {x p k : Nat} {w : Nat → Bool} {l : List SS} {S : SS} (h : RSs B T x w p l) (hk : l[k]? = some S) : k < 2 ∧ RSe B T (sA x w p k) S ∧ bm_AR B (x + 9) (2 * p + k) = some (sA x w p k) := by
  obtain ⟨⟨h1, h2⟩, ⟨h3, h4⟩, S0, S1, h5, h6, h7⟩ := h
  have hl := (List.getElem?_eq_some_iff.mp hk).1
  have hk2 : k = 0 ∨ k = 1 := by omega
  rw [h7, List.getElem?_take, if_pos hl] at hk
  rcases hk2 with rfl | rfl
  · rw [List.getElem?_cons_zero] at hk; cases hk; exact ⟨by omega, h5, h3⟩
  · rw [List.getElem?_cons_succ, List.getElem?_cons_zero] at hk; cases hk; exact ⟨by omega, h6, h4⟩
theorem ROn_fr {X : Nat → Prop} {B B' : bm_H} {T T' : List Tm} {x : Nat} {l : List (Tm × Int32)} (hS : DeS B x) (h : ROn B T x l) (hf : fr X B B') (n0 : ¬ X x) (n1 : ¬ X (x + 6)) (n2 : ¬ X (x + 7)) (hT : T <+: T') : ROn B' T' x l := by
  obtain ⟨⟨h1, h2⟩, h3⟩ := h
  refine ⟨⟨(fr_FI hf hS.1.1 n0 0 7).trans h1, h2⟩, fun i e he => ?_⟩
  rw [fr_AI hf hS.2.2.2.1.1 n1, fr_AI hf hS.2.2.2.2.1.1 n2]
  exact ⟨tv_mono hT (h3 i e he).1, (h3 i e he).2⟩
theorem RDs_fr {X : Nat → Prop} {B B' : bm_H} {T T' : List Tm} {x : Nat} {id : Tm} {ln : Int32} (hS : DeS B x) (h : RDs B T x id ln) (hf : fr X B B') (n0 : ¬ X x) (hT : T <+: T') : RDs B' T' x id ln := ⟨tvq (fr_FI hf hS.1.1 n0 0 6) (tv_mono hT h.1), (fr_FI hf hS.1.1 n0 0 8).trans h.2⟩
theorem RPs_fr {X : Nat → Prop} {B B' : bm_H} {T T' : List Tm} {x : Nat} {b : Bool} {K0 K1 : PK} (hS : DeS B x) (h : RPs B T x b K0 K1) (hf : fr X B B') (n0 : ∀ y, x + 1 ≤ y → y < x + 6 → ¬ X y) (hT : T <+: T') : RPs B' T' x b K0 K1 := by
  obtain ⟨⟨h1, h2⟩, h3, h4⟩ := h
  have e := fr_AR hf hS.2.2.1.1 (n0 _ (by omega) (by omega))
  have i0 := pA_in x b (k := 0) (by omega)
  have i1 := pA_in x b (k := 1) (by omega)
  exact ⟨⟨by rw [e]; exact h1, by rw [e]; exact h2⟩, RPk_fr h3 hf (n0 _ (by omega) (by omega)) (n0 _ (by omega) (by omega)) hT, RPk_fr h4 hf (n0 _ (by omega) (by omega)) (n0 _ (by omega) (by omega)) hT⟩
theorem RDe_fr {X : Nat → Prop} {B B' : bm_H} {T T' : List Tm} {x : Nat} {w : SW} {D : DV} (h : RDe B T x w D) (hf : fr X B B') (n0 : ∀ y, x ≤ y → y < x + 203 → ¬ X y) (hT : T <+: T') : RDe B' T' x w D := by
  obtain ⟨id, K0, K1, on, ln, se, me⟩ := D
  obtain ⟨h1, h2, h3, h4, h5, h6, h7⟩ := h
  have e := fr_AR hf h1.2.2.2.2.2.2.2.1 (n0 _ (by omega) (by omega))
  exact ⟨DeS_fr h1 hf, RDs_fr h1 h2 hf (n0 _ (by omega) (by omega)) hT, RPs_fr h1 h3 hf (fun y a b => n0 y (by omega) (by omega)) hT, ROn_fr h1 h4 hf (n0 _ (by omega) (by omega)) (n0 _ (by omega) (by omega)) (n0 _ (by omega) (by omega)) hT, fun p hp => RSs_fr h1 (h5 p hp) hf (n0 _ (by omega) (by omega)) (n0 _ (by omega) (by omega)) (fun k y hk a b => n0 y (by have := sA_in x w.2.1 hp hk; omega) (by have := sA_in x w.2.1 hp hk; omega)) hT, fun g hg => by rw [e]; exact h6 g hg, fun g hg => RMe_fr (h7 g hg) hf (fun y a b => n0 y (by omega) (by omega)) hT⟩
def fset {α : Type} (f : Nat → α) (k : Nat) (v : α) : Nat → α := fun j => if j = k then v else f j
theorem fset_same {α : Type} (f : Nat → α) (k : Nat) (v : α) : fset f k v k = v := if_pos rfl
theorem fset_ne {α : Type} {f : Nat → α} {k j : Nat} {v : α} (h : j ≠ k) : fset f k v j = f j := if_neg h
/-- a session changed -/
theorem RDe_ses {X : Nat → Prop} {B B' : bm_H} {T T' : List Tm} {x : Nat} {w : SW} {id : Tm} {K0 K1 : PK} {on : List (Tm × Int32)} {ln : Int32} {se : Nat → List SS} {me : Nat → MM} {p k : Nat} {S : SS} (h : RDe B T x w (id, K0, K1, on, ln, se, me)) (hp : p < 6) (hk : k < (se p).length) (hf : fr X B B') (n0 : ∀ y, x ≤ y → y < x + 203 → (y < sA x w.2.1 p k ∨ sA x w.2.1 p k + 2 < y) → ¬ X y) (hT : T <+: T') (hS : RSe B' T' (sA x w.2.1 p k) S) : RDe B' T' x w (id, K0, K1, on, ln, fset se p ((se p).set k S), me) := by
  obtain ⟨h1, h2, h3, h4, h5, h6, h7⟩ := h
  have hk2 : k < 2 := by have := (h5 p hp).1.2; omega
  have i0 := sA_in x w.2.1 hp hk2
  have e := fr_AR hf h1.2.2.2.2.2.2.2.1 (n0 _ (by omega) (by omega) (by omega))
  refine ⟨DeS_fr h1 hf, RDs_fr h1 h2 hf (n0 _ (by omega) (by omega) (by omega)) hT, RPs_fr h1 h3 hf (fun y a b => n0 y (by omega) (by omega) (by omega)) hT, ROn_fr h1 h4 hf (n0 _ (by omega) (by omega) (by omega)) (n0 _ (by omega) (by omega) (by omega)) (n0 _ (by omega) (by omega) (by omega)) hT, fun q hq => ?_, fun g hg => by rw [e]; exact h6 g hg, fun g hg => RMe_fr (h7 g hg) hf (fun y a b => n0 y (by omega) (by omega) (by omega)) hT⟩
  by_cases c : q = p
  · subst c
    rw [fset_same]
    refine RSs_set h1 (h5 q hq) hf (n0 _ (by omega) (by omega) (by omega)) (n0 _ (by omega) (by omega) (by omega)) hk (fun y a b => ?_) hT hS
    have j1 := sA_in x w.2.1 hq (k := 1 - k) (by omega)
    have j2 := sA_01 x w.2.1 q
    refine n0 y (by omega) (by omega) ?_
    have hk3 : k = 0 ∨ k = 1 := by omega
    rcases hk3 with rfl | rfl
    · simp at a b; omega
    · simp at a b; omega
  · rw [fset_ne c]
    refine RSs_fr h1 (h5 q hq) hf (n0 _ (by omega) (by omega) (by omega)) (n0 _ (by omega) (by omega) (by omega)) (fun k' y hk' a b => ?_) hT
    have j1 := sA_in x w.2.1 hq hk'
    have j2 := sA_pp x w.2.1 w.2.1 c hk' hk2
    exact n0 y (by omega) (by omega) (by omega)
/-- a group changed -/
theorem RDe_mem {X : Nat → Prop} {B B' : bm_H} {T T' : List Tm} {x : Nat} {w : SW} {wg : Nat → Bool} {id : Tm} {K0 K1 : PK} {on : List (Tm × Int32)} {ln : Int32} {se : Nat → List SS} {me : Nat → MM} {g : Nat} {M : MM} (h : RDe B T x w (id, K0, K1, on, ln, se, me)) (hg : g < 4) (hf : fr X B B') (n0 : ∀ y, x ≤ y → y < x + 203 → (y < x + 47 + 39 * g ∨ x + 47 + 39 * g + 38 < y) → ¬ X y) (hT : T <+: T') (hS : RMe B' T' (x + 47 + 39 * g) wg M) : RDe B' T' x (w.1, w.2.1, fset w.2.2 g wg) (id, K0, K1, on, ln, se, fset me g M) := by
  obtain ⟨h1, h2, h3, h4, h5, h6, h7⟩ := h
  have e := fr_AR hf h1.2.2.2.2.2.2.2.1 (n0 _ (by omega) (by omega) (by omega))
  refine ⟨DeS_fr h1 hf, RDs_fr h1 h2 hf (n0 _ (by omega) (by omega) (by omega)) hT, RPs_fr h1 h3 hf (fun y a b => n0 y (by omega) (by omega) (by omega)) hT, ROn_fr h1 h4 hf (n0 _ (by omega) (by omega) (by omega)) (n0 _ (by omega) (by omega) (by omega)) (n0 _ (by omega) (by omega) (by omega)) hT, fun p hp => (show RSs B' T' x w.2.1 p (se p) from RSs_fr h1 (h5 p hp) hf (n0 _ (by omega) (by omega) (by omega)) (n0 _ (by omega) (by omega) (by omega)) (fun k y hk a b => n0 y (by have := sA_in x w.2.1 hp hk; omega) (by have := sA_in x w.2.1 hp hk; omega) (by have := sA_in x w.2.1 hp hk; omega)) hT), fun g hg => by rw [e]; exact h6 g hg, fun q hq => ?_⟩
  by_cases c : q = g
  · subst c
    show RMe B' T' (x + 47 + 39 * q) (fset w.2.2 q wg q) (fset me q M q)
    rw [fset_same, fset_same]
    exact hS
  · show RMe B' T' (x + 47 + 39 * q) (fset w.2.2 g wg q) (fset me g M q)
    rw [fset_ne c, fset_ne c]
    exact RMe_fr (h7 q hq) hf (fun y a b => n0 y (by omega) (by omega) (by omega)) hT
