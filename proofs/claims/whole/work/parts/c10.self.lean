/-! Secrets: what a device does by itself -/
theorem cm_O {p0 : Bool} {P W : EN2} {c : Option Nat} : ∀ e, e ∈ (st_commit p0 P c W).2.2.2.1 → e ∈ P ∨ e ∈ W := fun e he => by
  unfold st_commit at he
  split at he
  · exact Or.inr (List.mem_of_mem_take he)
  · split at he
    · exact Or.inl (List.mem_of_mem_drop he)
    · exact Or.inl (List.mem_of_mem_drop he)
section SI
variable {V : Nat → Prop} {Z : Tm → Prop} {GF : Nat → Nat → Nat → Int32 → Bool → Prop} {PF : Tm → Int32 → Tm → Prop} {DL : List (Int32 × Int32)} {dev : Nat → DV} {sto : Nat → ST} {G : Tm → Prop} {ls : List RL}
theorem SI_UC (h : SI V Z GF PF DL dev sto G ls) : UC (UU V Z GF PF ls) := ⟨SI_clo h, fun a b q => Pub_sh q, fun t k => Pub_2 k⟩
/-- the chains are as they were -/
def chs (D D' : DV) : Prop := ∀ g, g < 4 → (dme D' g).2.2.2.1 = (dme D g).2.2.2.1 ∧ (dme D' g).2.2.2.2.1 = (dme D g).2.2.2.2.1
theorem SI_chs {s : Nat} {D' : DV} (h : SI V Z GF PF DL dev sto G ls) (hc : chs (dev s) D') : V s → ∀ X e c, PF X e c → ∀ g, g < 4 → (dme D' g).2.2.2.1 ≠ 0 → ¬ upc (dme D' g).2.2.2.2.1 c := fun hv X e c q g hg hz => by
  rw [(hc g hg).1] at hz
  rw [(hc g hg).2]
  exact (h.2.1.1 X e c q).2.2.2 s hv g hg hz
theorem SI_commit {s : Nat} {D' : DV} {p0 : Bool} {P : EN2} {c : Option Nat} (h : SI V Z GF PF DL dev sto G ls) (hs : s < 6) (hP : P = dv_en (dev s)) (hB : ∀ q S, S ∈ (dev s).2.2.2.2.2.1 q → BOS S) (hB' : ∀ q S, S ∈ D'.2.2.2.2.2.1 q → BOS S) (h1 : V s → DVS V Z GF (UU V Z GF PF ls) s D') (h2 : ¬ V s → DPU (UU V Z GF PF ls) D') (h3 : V s → ∀ X e c, PF X e c → ∀ g, g < 4 → (dme D' g).2.2.2.1 ≠ 0 → ¬ upc (dme D' g).2.2.2.2.1 c) : SI V Z GF PF DL dev (fset sto s (st_commit p0 P c (dv_en D')).2) G ls ∧ SI V Z GF PF DL (fset dev s D') (fset sto s (st_commit p0 P c (dv_en D')).2) G ls := by
  have hO : ¬ V s → ∀ e, e ∈ (st_commit p0 P c (dv_en D')).2.2.2.1 → UU V Z GF PF ls e.1 ∧ UU V Z GF PF ls e.2 := fun hv e he => by
    rcases cm_O e he with z | z
    · rw [hP] at z; exact DPU_en (SI_UC h) hB ((h.2.2.2 s hs).2 hv).1 e z
    · exact DPU_en (SI_UC h) hB' (h2 hv) e z
  exact ⟨SI_sto h hs hO, SI_dev h hs h1 (fun hv => ⟨h2 hv, hO hv⟩) h3⟩
/-- a prekey that is announced is theirs -/
theorem SI_pre {dir ids : Nat → Tm} {p : Nat} (h : SI V Z GF PF DL dev sto G ls) (hd : ∀ i, Kn G (dir i)) (hp : V p) (hi : ids p = Tsec (nI p) (nI p) 0) (hz : an_pre dir ids p ≠ tz) : ∃ m, pt (an_pre dir ids p) 0 = Tsec m (nI p) 1 := by
  obtain ⟨e, k6, k0, kg, -⟩ := an_pre_at hz
  have hU := SI_Kn h (hd (p * 5))
  rcases ((Pub_6 k6).mp hU).2 with q | q
  · rw [k0, hi] at q
    exact absurd (h.1.1.2.1 _ ⟨p, hp, Or.inl rfl⟩) ((Pub_1 rfl).mp q)
  · obtain ⟨m, q⟩ := q p hp (k0.trans hi) kg
    exact ⟨m, by rw [e, q]; rfl⟩
theorem NSS_open {s p : Nat} {e r idd P O : Tm} (hs : V s) (hp : V p) (hP : ∃ m, pt P 0 = Tsec m (nI p) 1) : NSS V (op_ses (Tsec (nI s) (nI s) 0) e r idd P O) ∧ NS (core V) (op_ses (Tsec (nI s) (nI s) 0) e r idd P O).2.2.2.2.1 := by
  obtain ⟨m, hP⟩ := hP
  exact GS_open (hcl_NS _) (NS_op rfl (by rw [hP]; rfl) ⟨s, hs, Or.inl rfl⟩ (by rw [hP]; exact ⟨p, hp, Or.inr ⟨m, rfl⟩⟩)) (fun _ => trivial) trivial trivial trivial
theorem NSS_turn {S : SS} {x : Tm} (h : NSS V S) : NSS V (ss_sent (ss_turn S x)) ∧ NS (core V) (ss_turn S x).2.2.2.2.1 := by
  obtain ⟨h1, h2, -⟩ := GS_turn (x := x) (hcl_NS _) h (fun _ => trivial)
  exact ⟨(GS_sent (hcl_NS _) h1 h2).1, h2⟩
theorem DVS_se {s : Nat} {U : Tm → Prop} {id id' : Tm} {K0 K1 K0' K1' : PK} {on on' : List (Tm × Int32)} {lnu lnu' : Int32} {se se' : Nat → List SS} {me : Nat → MM} (h : DVS V Z GF U s (id, K0, K1, on, lnu, se, me)) (h' : ∀ q, V q → ∀ S, S ∈ se' q → NSS V S) : DVS V Z GF U s (id', K0', K1', on', lnu', se', me) := ⟨h', h.2⟩
/-- a list is taken up -/
theorem GVS_adopt {s g : Nat} {U : Tm → Prop} {M : MM} {v k : Int32} (h : GVS V Z GF U s g M) (hb : ∀ i, 6 ≤ i → i < 32 → bt M.2.1 i = false) : GVS V Z GF U s g (mm_adopt M v k) := by
  obtain ⟨ve, ma, go, ge, ch, si, ix, ga, sl, gv⟩ := M
  obtain ⟨h1, h2, h3⟩ := h
  refine ⟨fun hi => ?_, h2, fun p hp G0 hG0 => ?_⟩
  · obtain ⟨i1, i2⟩ := hi
    have i1 : (!decide (ge = 0) && !(if ma &&& (k ^^^ (-1)) = 0 then sl else true)) = true := i1
    have i2 : ∀ p, p < 6 → hbit k (nI p) = true → V p := i2
    by_cases c : ma &&& (k ^^^ (-1)) = 0
    · rw [if_pos c] at i1
      refine h1 ⟨i1, fun p hp hm => i2 p hp ?_⟩
      rw [hbit_bt _ (by omega)] at hm ⊢
      have hm : bt ma p = true := hm
      have z : bt (ma &&& (k ^^^ (-1))) p = bt 0 p := by rw [c]
      rw [b_and, b_xor, b_m1 p (by omega), b_0, hm, Bool.true_and, Bool.xor_true] at z
      simpa using z
    · rw [if_neg c] at i1
      rw [Bool.not_true, Bool.and_false] at i1
      cases i1
  · have hG0 : G0 ∈ (if hbit (ma &&& (k ^^^ (-1))) (nI p) = true then [] else gv p) := hG0
    split at hG0
    · cases hG0
    · exact h3 p hp G0 hG0
theorem MPU_adopt {U : Tm → Prop} {M : MM} {v k : Int32} (h : MPU U M) : MPU U (mm_adopt M v k) := by
  obtain ⟨ve, ma, go, ge, ch, si, ix, ga, sl, gv⟩ := M
  refine ⟨h.1, h.2.1, fun p G0 hG0 => ?_⟩
  have hG0 : G0 ∈ (if hbit (ma &&& (k ^^^ (-1))) (nI p) = true then [] else gv p) := hG0
  split at hG0
  · cases hG0
  · exact h.2.2 p G0 hG0
theorem DVS_me {s g : Nat} {U : Tm → Prop} {id id' : Tm} {K0 K1 K0' K1' : PK} {on on' : List (Tm × Int32)} {lnu lnu' : Int32} {se : Nat → List SS} {me : Nat → MM} {M : MM} (h : DVS V Z GF U s (id, K0, K1, on, lnu, se, me)) (hM : g < 4 → GVS V Z GF U s g M) : DVS V Z GF U s (id', K0', K1', on', lnu', se, fset me g M) := ⟨h.1, fun q hq => by
  by_cases c : q = g
  · subst c; rw [fset_same]; exact hM hq
  · rw [fset_ne c]; exact h.2 q hq⟩
theorem MP_set {U : Tm → Prop} {g : Nat} {me : Nat → MM} {M : MM} (h : ∀ g, g < 4 → MPU U (me g)) (hM : g < 4 → MPU U M) : ∀ q, q < 4 → MPU U (fset me g M q) := fun q hq => by
  by_cases c : q = g
  · subst c; rw [fset_same]; exact hM hq
  · rw [fset_ne c]; exact h q hq
theorem on_fill_mem {v : Int32} : ∀ (k dr : Nat) (ln : Int32) (on : List (Tm × Int32)), ∀ e, e ∈ (on_fill v k dr ln on).1 → e ∈ on ∨ ∃ m, e.1 = Tsec m v 0
  | 0, _, _, _, e, he => Or.inl he
  | k + 1, dr, ln, on, e, he => by
    unfold on_fill at he
    rcases on_fill_mem k (dr + 1) (ln + 1) _ e he with z | z
    · rcases List.mem_append.mp z with z | z
      · exact Or.inl z
      · rw [List.mem_singleton.mp z]; exact Or.inr ⟨_, rfl⟩
    · exact Or.inr z
theorem DPU_renew {U : Tm → Prop} {s : Nat} {D : DV} {dr : Nat} (hU : UC U) (ho : ∀ n p, U (Tsec n (nI s) p)) (h : DPU U D) : DPU U (dv_renew D dr s) := by
  obtain ⟨id, K0, K1, on, lnu, se, me⟩ := D
  obtain ⟨h1, ⟨h2, h3⟩, h4, h5, h6⟩ := h
  refine ⟨h1, ⟨⟨ho _ _, fun x hx => absurd hx List.not_mem_nil⟩, h2⟩, fun e he => ?_, h5, h6⟩
  rcases on_fill_mem _ _ _ _ e he with z | ⟨m, z⟩
  · exact h4 e z
  · rw [z]; exact ho _ _
theorem DPU_se {U : Tm → Prop} {id : Tm} {K0 K1 : PK} {on : List (Tm × Int32)} {lnu : Int32} {se se' : Nat → List SS} {me : Nat → MM} (h : DPU U (id, K0, K1, on, lnu, se, me)) (h' : ∀ q S, S ∈ se' q → SPU U S) : DPU U (id, K0, K1, on, lnu, se', me) := ⟨h.1, h.2.1, h.2.2.1, h', h.2.2.2.2⟩
/-- a signature of their own may be known -/
theorem Sg_pre {s : Nat} {m n n1 n2 n3 : Int32} (hV : ∀ p, V p → p < 6) (hs : s < 6) : Sg V (Tsec (nI s) (nI s) 0) (Trw 1 n n1 n2 n3 (Tpub (Tsec m (nI s) 1)) tz tz tz) := fun p hp e _ => by
  have := hV p hp
  have := (Tsec_inj (by omega) (by omega) e).1
  subst this
  exact ⟨m, rfl⟩
theorem Sg_not {a t : Tm} (h : mk t ≠ 1 ∨ kd t ≠ 7) : Sg V a t := fun p _ _ hg => by
  rcases h with h | h
  · exact absurd (good_mk hg) h
  · have : kd t = 7 := by unfold Tgood at hg; simp only [Bool.and_eq_true, decide_eq_true_eq] at hg; exact hg.1.1.1
    exact absurd this h
end SI
