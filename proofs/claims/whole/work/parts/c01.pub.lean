/-! Secrets: what may be known to all -/
def tsz : Tm → Nat
  | .leaf => 0
  | .inner _ _ _ a b => tsz a + tsz b + 1
def c7 : Nat → Tm → Tm
  | 0, x => x
  | k + 1, x => Tmx 7 (c7 k x) tz
/-- a group's chain: 7 upon 7 upon a SECRET -/
def gch (t : Tm) : Prop := ∃ k x, kd x = 1 ∧ t = c7 k x
/-- t lies above y -/
def upc (y t : Tm) : Prop := ∃ k, t = c7 k y
theorem c7_add (x : Tm) (j : Nat) : ∀ k, c7 k (c7 j x) = c7 (k + j) x
  | 0 => by rw [Nat.zero_add]; rfl
  | k + 1 => by
    rw [show k + 1 + j = (k + j) + 1 by omega]
    show Tmx 7 (c7 k (c7 j x)) tz = Tmx 7 (c7 (k + j) x) tz
    rw [c7_add x j k]
theorem Tmx_inj {n n' : Int32} {a b a' b' : Tm} (h : Tmx n a b = Tmx n' a' b') : n = n' ∧ a = a' ∧ b = b' := by
  obtain ⟨h1, h2, h3, -⟩ := tn_inj h
  exact ⟨by injection h1 with _ h1; injection h1, h2, h3⟩
theorem c7_kd {k : Nat} {x : Tm} : kd (c7 (k + 1) x) = 4 := rfl
/-- the bottom and the height of a chain are its own -/
theorem c7_inj {x y : Tm} (hx : kd x = 1) (hy : kd y = 1) : ∀ {j k : Nat}, c7 j x = c7 k y → j = k ∧ x = y
  | 0, 0, h => ⟨rfl, h⟩
  | 0, k + 1, h => by
    have : kd x = 4 := by rw [show x = c7 (k + 1) y from h]; rfl
    rw [hx] at this; exact absurd this (by decide)
  | j + 1, 0, h => by
    have : kd y = 4 := by rw [← show c7 (j + 1) x = y from h]; rfl
    rw [hy] at this; exact absurd this (by decide)
  | j + 1, k + 1, h => by
    obtain ⟨-, h2, -⟩ := Tmx_inj h
    obtain ⟨h3, h4⟩ := c7_inj hx hy h2
    exact ⟨by omega, h4⟩
theorem gch_mx {n : Int32} {a b : Tm} (h : gch (Tmx n a b)) : n = 7 ∧ b = tz ∧ gch a := by
  obtain ⟨k, x, hx, e⟩ := h
  cases k with
  | zero =>
    have : kd x = 4 := by rw [← show Tmx n a b = x from e]; rfl
    rw [hx] at this; exact absurd this (by decide)
  | succ k =>
    obtain ⟨h1, h2, h3⟩ := Tmx_inj e
    exact ⟨h1, h3, k, x, hx, h2⟩
theorem gch_sec {x : Tm} (h : kd x = 1) : gch x := ⟨0, x, h, rfl⟩
theorem gch_7 {a : Tm} (h : gch a) : gch (Tmx 7 a tz) := by
  obtain ⟨k, x, hx, e⟩ := h
  exact ⟨k + 1, x, hx, by rw [e]; rfl⟩
def pubF (Z : Tm → Prop) (H : Tm → Tm → Tm → Prop) (Sg : Tm → Tm → Prop) (k : Int32) (A : Tm) (p0 p1 p2 p3 : Prop) : Prop := if k = 1 then ¬ Z A else if k = 2 then True else if k = 3 then p0 ∨ p1 else if k = 4 then (p0 ∧ p1) ∨ (gch A ∧ ¬ Z A) else if k = 5 then p1 ∧ (p2 ∨ H (pt A 0) (pt A 1) (pt A 2)) else if k = 6 then p1 ∧ (p0 ∨ Sg (pt A 0) (pt A 1)) else if k = 7 then p0 ∧ p1 ∧ p2 ∧ p3 else True
/-- what may be known, where Z is secret, H was sealed and Sg signed by those who keep secrets -/
def Pub (Z : Tm → Prop) (H : Tm → Tm → Tm → Prop) (Sg : Tm → Tm → Prop) : Tm → Prop
  | .leaf => True
  | .inner s l u (.inner s1 l1 u1 a b) (.inner s2 l2 u2 c d) => pubF Z H Sg (l.getD 0 0) (.inner s l u (.inner s1 l1 u1 a b) (.inner s2 l2 u2 c d)) (Pub Z H Sg a) (Pub Z H Sg b) (Pub Z H Sg c) (Pub Z H Sg d)
  | .inner s l u .leaf x => pubF Z H Sg (l.getD 0 0) (.inner s l u .leaf x) True True True True
  | .inner s l u (.inner s1 l1 u1 a b) .leaf => pubF Z H Sg (l.getD 0 0) (.inner s l u (.inner s1 l1 u1 a b) .leaf) True True True True
section Pub
variable {Z Z' : Tm → Prop} {H H' : Tm → Tm → Tm → Prop} {Sg Sg' : Tm → Tm → Prop}
theorem Pub_tz : Pub Z H Sg tz := trivial
theorem Pub_eq (A : Tm) : Pub Z H Sg A ↔ pubF Z H Sg (kd A) A (Pub Z H Sg (pt A 0)) (Pub Z H Sg (pt A 1)) (Pub Z H Sg (pt A 2)) (Pub Z H Sg (pt A 3)) := by
  match A with
  | .leaf => exact ⟨fun _ => trivial, fun _ => trivial⟩
  | .inner s l u (.inner s1 l1 u1 a b) (.inner s2 l2 u2 c d) => exact Iff.rfl
  | .inner s l u .leaf x =>
    have e : ∀ i, pt (.inner s l u .leaf x) i = tz := fun i => by unfold pt; rfl
    have q : Pub Z H Sg tz ↔ True := ⟨fun _ => trivial, fun _ => trivial⟩
    rw [e, e, e, e, propext q]
    exact Iff.rfl
  | .inner s l u (.inner s1 l1 u1 a b) .leaf =>
    have e : ∀ i, pt (.inner s l u (.inner s1 l1 u1 a b) .leaf) i = tz := fun i => by unfold pt; rfl
    have q : Pub Z H Sg tz ↔ True := ⟨fun _ => trivial, fun _ => trivial⟩
    rw [e, e, e, e, propext q]
    exact Iff.rfl
theorem Pub_1 {A : Tm} (k : kd A = 1) : Pub Z H Sg A ↔ ¬ Z A := by rw [Pub_eq, k]; exact Iff.rfl
theorem Pub_2 {A : Tm} (k : kd A = 2) : Pub Z H Sg A := by rw [Pub_eq, k]; trivial
theorem Pub_3 {A : Tm} (k : kd A = 3) : Pub Z H Sg A ↔ Pub Z H Sg (pt A 0) ∨ Pub Z H Sg (pt A 1) := by rw [Pub_eq, k]; exact Iff.rfl
theorem Pub_4 {A : Tm} (k : kd A = 4) : Pub Z H Sg A ↔ (Pub Z H Sg (pt A 0) ∧ Pub Z H Sg (pt A 1)) ∨ (gch A ∧ ¬ Z A) := by rw [Pub_eq, k]; exact Iff.rfl
theorem Pub_5 {A : Tm} (k : kd A = 5) : Pub Z H Sg A ↔ Pub Z H Sg (pt A 1) ∧ (Pub Z H Sg (pt A 2) ∨ H (pt A 0) (pt A 1) (pt A 2)) := by rw [Pub_eq, k]; exact Iff.rfl
theorem Pub_6 {A : Tm} (k : kd A = 6) : Pub Z H Sg A ↔ Pub Z H Sg (pt A 1) ∧ (Pub Z H Sg (pt A 0) ∨ Sg (pt A 0) (pt A 1)) := by rw [Pub_eq, k]; exact Iff.rfl
theorem Pub_7 {A : Tm} (k : kd A = 7) : Pub Z H Sg A ↔ Pub Z H Sg (pt A 0) ∧ Pub Z H Sg (pt A 1) ∧ Pub Z H Sg (pt A 2) ∧ Pub Z H Sg (pt A 3) := by rw [Pub_eq, k]; exact Iff.rfl
theorem Pub_0 {A : Tm} (h1 : kd A ≠ 1) (h2 : kd A ≠ 2) (h3 : kd A ≠ 3) (h4 : kd A ≠ 4) (h5 : kd A ≠ 5) (h6 : kd A ≠ 6) (h7 : kd A ≠ 7) : Pub Z H Sg A := by
  rw [Pub_eq]
  unfold pubF
  rw [if_neg h1, if_neg h2, if_neg h3, if_neg h4, if_neg h5, if_neg h6, if_neg h7]
  trivial
theorem kd_cases (A : Tm) : kd A = 1 ∨ kd A = 2 ∨ kd A = 3 ∨ kd A = 4 ∨ kd A = 5 ∨ kd A = 6 ∨ kd A = 7 ∨ (kd A ≠ 1 ∧ kd A ≠ 2 ∧ kd A ≠ 3 ∧ kd A ≠ 4 ∧ kd A ≠ 5 ∧ kd A ≠ 6 ∧ kd A ≠ 7) := by
  by_cases h1 : kd A = 1
  · exact Or.inl h1
  by_cases h2 : kd A = 2
  · exact Or.inr (Or.inl h2)
  by_cases h3 : kd A = 3
  · exact Or.inr (Or.inr (Or.inl h3))
  by_cases h4 : kd A = 4
  · exact Or.inr (Or.inr (Or.inr (Or.inl h4)))
  by_cases h5 : kd A = 5
  · exact Or.inr (Or.inr (Or.inr (Or.inr (Or.inl h5))))
  by_cases h6 : kd A = 6
  · exact Or.inr (Or.inr (Or.inr (Or.inr (Or.inr (Or.inl h6)))))
  by_cases h7 : kd A = 7
  · exact Or.inr (Or.inr (Or.inr (Or.inr (Or.inr (Or.inr (Or.inl h7))))))
  exact Or.inr (Or.inr (Or.inr (Or.inr (Or.inr (Or.inr (Or.inr ⟨h1, h2, h3, h4, h5, h6, h7⟩))))))
theorem tsz_pt (A : Tm) (i : Nat) (h : A ≠ tz) : tsz (pt A i) < tsz A := by
  match A with
  | .leaf => exact absurd rfl h
  | .inner s l u (.inner s1 l1 u1 a b) (.inner s2 l2 u2 c d) =>
    have e : tsz (.inner s l u (.inner s1 l1 u1 a b) (.inner s2 l2 u2 c d) : Tm) = (tsz a + tsz b + 1) + (tsz c + tsz d + 1) + 1 := rfl
    rw [e]
    rcases i with _ | _ | _ | _ | i
    · show tsz a < _; omega
    · show tsz b < _; omega
    · show tsz c < _; omega
    · show tsz d < _; omega
    · show 0 < _; omega
  | .inner s l u .leaf x =>
    have e : pt (.inner s l u .leaf x) i = tz := by unfold pt; rfl
    rw [e]
    show 0 < 0 + tsz x + 1
    omega
  | .inner s l u (.inner s1 l1 u1 a b) .leaf =>
    have e : pt (.inner s l u (.inner s1 l1 u1 a b) .leaf) i = tz := by unfold pt; rfl
    rw [e]
    show 0 < (tsz a + tsz b + 1) + 0 + 1
    omega
/-- less secret, more sealed and signed: more may be known -/
theorem Pub_mono (hZ : ∀ t, Z' t → Z t) (hH : ∀ k h b, H k h b → H' k h b) (hS : ∀ a t, Sg a t → Sg' a t) : ∀ (n : Nat) (A : Tm), tsz A < n → Pub Z H Sg A → Pub Z' H' Sg' A
  | 0, _, h, _ => by omega
  | n + 1, A, hn, hA => by
    by_cases hz : A = tz
    · rw [hz]; exact Pub_tz
    have ih : ∀ i, Pub Z H Sg (pt A i) → Pub Z' H' Sg' (pt A i) := fun i => Pub_mono hZ hH hS n (pt A i) (by have := tsz_pt A i hz; omega)
    rcases kd_cases A with k | k | k | k | k | k | k | ⟨h1, h2, h3, h4, h5, h6, h7⟩
    · exact (Pub_1 k).mpr (fun q => (Pub_1 k).mp hA (hZ _ q))
    · exact Pub_2 k
    · exact (Pub_3 k).mpr (((Pub_3 k).mp hA).imp (ih 0) (ih 1))
    · exact (Pub_4 k).mpr (((Pub_4 k).mp hA).imp (fun q => ⟨ih 0 q.1, ih 1 q.2⟩) (fun q => ⟨q.1, fun z => q.2 (hZ _ z)⟩))
    · obtain ⟨q1, q2⟩ := (Pub_5 k).mp hA
      exact (Pub_5 k).mpr ⟨ih 1 q1, q2.imp (ih 2) (hH _ _ _)⟩
    · obtain ⟨q1, q2⟩ := (Pub_6 k).mp hA
      exact (Pub_6 k).mpr ⟨ih 1 q1, q2.imp (ih 0) (hS _ _)⟩
    · obtain ⟨q1, q2, q3, q4⟩ := (Pub_7 k).mp hA
      exact (Pub_7 k).mpr ⟨ih 0 q1, ih 1 q2, ih 2 q3, ih 3 q4⟩
    · exact Pub_0 h1 h2 h3 h4 h5 h6 h7
theorem Pub_more {A : Tm} (hZ : ∀ t, Z' t → Z t) (hH : ∀ k h b, H k h b → H' k h b) (hS : ∀ a t, Sg a t → Sg' a t) (h : Pub Z H Sg A) : Pub Z' H' Sg' A := Pub_mono hZ hH hS (tsz A + 1) A (by omega) h
/-- downward closed -/
def zok (Z : Tm → Prop) : Prop := ∀ a, Z (Tmx 7 a tz) → Z a
theorem gch_pub (hz : zok Z) {A : Tm} (h : gch A) : Pub Z H Sg A ↔ ¬ Z A := by
  obtain ⟨k, x, hx, rfl⟩ := h
  induction k with
  | zero => exact Pub_1 hx
  | succ k ih =>
    refine ⟨fun q => ?_, fun q => (Pub_4 rfl).mpr (Or.inr ⟨⟨k + 1, x, hx, rfl⟩, q⟩)⟩
    rcases (Pub_4 rfl).mp q with ⟨q1, -⟩ | q
    · exact fun z => (ih.mp q1) (hz _ z)
    · exact q.2
/-- what may be known is closed -/
theorem Pub_clo (hz : zok Z) (hH : ∀ k h b, H k h b → ¬ Pub Z H Sg k) : clo (Pub Z H Sg) := by
  refine ⟨Pub_tz, fun A c => ?_, fun A h k i hi => ?_, fun A h k => ((Pub_6 k).mp h).1, fun A h k => ⟨((Pub_5 k).mp h).1, fun h0 => ?_⟩⟩
  · rcases c with ⟨k, c⟩ | ⟨k3, k1, c0, c1, c2, c3⟩
    · exact (Pub_3 k).mpr (c.imp (fun q => q.1) (fun q => q.1))
    · rcases kd_cases A with k | k | k | k | k | k | k | ⟨h1, h2, h3, h4, h5, h6, h7⟩
      · exact absurd k k1
      · exact Pub_2 k
      · exact absurd k k3
      · exact (Pub_4 k).mpr (Or.inl ⟨c0, c1⟩)
      · exact (Pub_5 k).mpr ⟨c1, Or.inl c2⟩
      · exact (Pub_6 k).mpr ⟨c1, Or.inl c0⟩
      · exact (Pub_7 k).mpr ⟨c0, c1, c2, c3⟩
      · exact Pub_0 h1 h2 h3 h4 h5 h6 h7
  · obtain ⟨q0, q1, q2, q3⟩ := (Pub_7 k).mp h
    rcases (show i = 0 ∨ i = 1 ∨ i = 2 ∨ i = 3 by omega) with rfl | rfl | rfl | rfl
    · exact q0
    · exact q1
    · exact q2
    · exact q3
  · rcases ((Pub_5 k).mp h).2 with q | q
    · exact q
    · exact absurd h0 (hH _ _ _ q)
theorem Pub_Kn {G : Tm → Prop} (hz : zok Z) (hH : ∀ k h b, H k h b → ¬ Pub Z H Sg k) (hG : ∀ y, G y → Pub Z H Sg y) {A : Tm} (h : Kn G A) : Pub Z H Sg A := h _ (Pub_clo hz hH) hG
/-! makers -/
theorem Pub_mx {n : Int32} {a b : Tm} (ha : Pub Z H Sg a) (hb : Pub Z H Sg b) : Pub Z H Sg (Tmx n a b) := (Pub_4 rfl).mpr (Or.inl ⟨ha, hb⟩)
theorem Pub_sh {a b : Tm} (ha : Pub Z H Sg a ∨ Pub Z H Sg b) : Pub Z H Sg (Tsh a b) := by
  unfold Tsh
  split
  · exact (Pub_3 rfl).mpr ha.symm
  · exact (Pub_3 rfl).mpr ha
theorem Pub_pub {a : Tm} : Pub Z H Sg (Tpub a) := Pub_2 rfl
theorem Pub_rw {k n0 n1 n2 n3 : Int32} {a b c d : Tm} (ha : Pub Z H Sg a) (hb : Pub Z H Sg b) (hc : Pub Z H Sg c) (hd : Pub Z H Sg d) : Pub Z H Sg (Trw k n0 n1 n2 n3 a b c d) := (Pub_7 rfl).mpr ⟨ha, hb, hc, hd⟩
theorem Pub_sl {k h b : Tm} (hh : Pub Z H Sg h) (hb : Pub Z H Sg b ∨ H k h b) : Pub Z H Sg (Tsl k h b) := (Pub_5 rfl).mpr ⟨hh, hb⟩
theorem Pub_sg {a t : Tm} (ht : Pub Z H Sg t) (ha : Pub Z H Sg a ∨ Sg a t) : Pub Z H Sg (Tsg a t) := (Pub_6 rfl).mpr ⟨ht, ha⟩
end Pub
/-- known to none but two who keep secrets, whatever else is given away: C are the keys that stay -/
def PubC (C : Tm → Prop) : Tm → Prop := Pub C (fun _ _ _ => True) (fun _ _ => True)
def NS (C : Tm → Prop) (t : Tm) : Prop := ¬ PubC C t ∧ ¬ gch t
theorem NS_mx {C : Tm → Prop} {n : Int32} {a b : Tm} (h : NS C a) : NS C (Tmx n a b) := by
  have hg : ¬ gch (Tmx n a b) := fun q => h.2 (gch_mx q).2.2
  exact ⟨fun q => ((Pub_4 rfl).mp q).elim (fun z => h.1 z.1) (fun z => hg z.1), hg⟩
theorem NS_sh {C : Tm → Prop} {a b : Tm} (ka : kd a = 1) (kb : kd b = 1) (ha : C a) (hb : C b) : NS C (Tsh a b) := by
  have k : kd (Tsh a b) = 3 := by unfold Tsh; split <;> rfl
  have pa : ¬ PubC C a := fun q => (Pub_1 ka).mp q ha
  have pb : ¬ PubC C b := fun q => (Pub_1 kb).mp q hb
  refine ⟨fun q => ?_, fun q => ?_⟩
  · unfold Tsh at q
    split at q
    · rcases (Pub_3 rfl).mp q with z | z
      · exact pb z
      · exact pa z
    · rcases (Pub_3 rfl).mp q with z | z
      · exact pa z
      · exact pb z
  · obtain ⟨j, x, hx, e⟩ := q
    rw [e] at k
    cases j with
    | zero => exact absurd (hx.symm.trans k) (by decide)
    | succ j => exact absurd (show (4 : Int32) = 3 from k) (by decide)
theorem NS_not {C Z : Tm → Prop} {H : Tm → Tm → Tm → Prop} {Sg : Tm → Tm → Prop} (hC : ∀ t, C t → Z t) {t : Tm} (h : NS C t) : ¬ Pub Z H Sg t := fun q => h.1 (Pub_more hC (fun _ _ _ _ => trivial) (fun _ _ _ => trivial) q)
theorem NS_nz {C : Tm → Prop} {t : Tm} (h : NS C t) : t ≠ tz := fun e => h.1 (by rw [e]; exact Pub_tz)
/-- by a one-time key: what lies at the bottom -/
def bo : Tm → Bool
  | .inner _ l _ (.inner _ _ _ a _) _ => if l.getD 1 0 = 2 then true else if l.getD 1 0 = 3 then false else bo a
  | _ => false
theorem bo_mx {n : Int32} {a b : Tm} : bo (Tmx n a b) = if n = 2 then true else if n = 3 then false else bo a := rfl
theorem bo_up {n : Int32} {a b : Tm} (h : n ≠ 2) (h' : n ≠ 3) : bo (Tmx n a b) = bo a := by rw [bo_mx, if_neg h, if_neg h']
