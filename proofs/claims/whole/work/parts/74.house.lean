/-! The house in the heap: itself at 0, devices' arrays at 19, stores' at 20, the four int arrays at 21 .. 24; a device at 25, then six of device and store -/
def rb (k : Nat) : Nat := if k = 6 then 25 else 228 + 209 * k
theorem rb_in {k : Nat} (h : k < 7) : 25 ≤ rb k ∧ rb k + 203 ≤ 1482 := by unfold rb; split <;> omega
theorem rb_ne {j k : Nat} (hj : j < 7) (hk : k < 7) (h : j ≠ k) : rb j + 203 ≤ rb k ∨ rb k + 203 ≤ rb j := by unfold rb; split <;> split <;> omega
theorem rb_st {k d : Nat} (hk : k < 7) (hd : d < 6) : rb k + 202 < 431 + 209 * d ∨ 431 + 209 * d + 5 < rb k := by unfold rb; split <;> omega
def HoS (B : bm_H) : Prop := (0 < bm_n B ∧ bm_K B 0 = 11) ∧ (bm_FR B 11 0 0 = some 1 ∧ bm_FR B 11 1 0 = some 5 ∧ bm_FR B 11 2 0 = some 8 ∧ bm_FR B 11 3 0 = some 11 ∧ bm_FR B 11 4 0 = some 19 ∧ bm_FR B 11 5 0 = some 20 ∧ bm_FR B 11 6 0 = some 21 ∧ bm_FR B 11 7 0 = some 22 ∧ bm_FR B 11 8 0 = some 23 ∧ bm_FR B 11 9 0 = some 24) ∧ (19 < bm_n B ∧ bm_K B 19 = 15 ∧ bm_AL B 19 = 6) ∧ (20 < bm_n B ∧ bm_K B 20 = 16 ∧ bm_AL B 20 = 6) ∧ (21 < bm_n B ∧ bm_K B 21 = 13 ∧ bm_AL B 21 = 6) ∧ (22 < bm_n B ∧ bm_K B 22 = 13 ∧ bm_AL B 22 = 30) ∧ (23 < bm_n B ∧ bm_K B 23 = 13 ∧ bm_AL B 23 = 32) ∧ (24 < bm_n B ∧ bm_K B 24 = 13 ∧ bm_AL B 24 = 2144)
theorem HoS_fr {B B' : bm_H} {X : Nat → Prop} (h : HoS B) (hf : fr X B B') : HoS B' := by
  obtain ⟨⟨a1, a2⟩, ⟨f0, f1, f2, f3, f4, f5, f6, f7, f8, f9⟩, ⟨b1, b2, b3⟩, ⟨c1, c2, c3⟩, ⟨d1, d2, d3⟩, ⟨e1, e2, e3⟩, ⟨g1, g2, g3⟩, k1, k2, k3⟩ := h
  have e := fun k hk => fr_FS hf a1 11 k hk
  exact ⟨⟨fr_lt hf a1, (fr_K hf a1).trans a2⟩, ⟨(e 0 rfl).trans f0, (e 1 rfl).trans f1, (e 2 rfl).trans f2, (e 3 rfl).trans f3, (e 4 rfl).trans f4, (e 5 rfl).trans f5, (e 6 rfl).trans f6, (e 7 rfl).trans f7, (e 8 rfl).trans f8, (e 9 rfl).trans f9⟩, ⟨fr_lt hf b1, (fr_K hf b1).trans b2, (fr_AL hf b1).trans b3⟩, ⟨fr_lt hf c1, (fr_K hf c1).trans c2, (fr_AL hf c1).trans c3⟩, ⟨fr_lt hf d1, (fr_K hf d1).trans d2, (fr_AL hf d1).trans d3⟩, ⟨fr_lt hf e1, (fr_K hf e1).trans e2, (fr_AL hf e1).trans e3⟩, ⟨fr_lt hf g1, (fr_K hf g1).trans g2, (fr_AL hf g1).trans g3⟩, fr_lt hf k1, (fr_K hf k1).trans k2, (fr_AL hf k1).trans k3⟩
def RA (B : bm_H) (T : List Tm) (a n : Nat) (f : Nat → Tm) : Prop := ∀ i, i < n → tv T (bm_AI B a i) (f i)
theorem RA_fr {B B' : bm_H} {T T' : List Tm} {X : Nat → Prop} {a n : Nat} {f : Nat → Tm} (ha : a < bm_n B) (h : RA B T a n f) (hf : fr X B B') (n0 : ¬ X a) (hT : T <+: T') : RA B' T' a n f := fun i hi => by rw [fr_AI hf ha n0]; exact tv_mono hT (h i hi)
theorem RA_set {B B' : bm_H} {T : List Tm} {a n k : Nat} {f : Nat → Tm} {x : Int32} {A : Tm} (h : RA B T a n f) (e : bm_AI B' a = upd (bm_AI B a) k x) (hx : tv T x A) : RA B' T a n (fset f k A) := fun i hi => by
  rw [e]
  by_cases c : i = k
  · subst c
    rw [fset_same, show upd (bm_AI B a) i x i = x from if_pos rfl]
    exact hx
  · rw [fset_ne c, pk_un c]
    exact h i hi
def RSn (B : bm_H) (T : List Tm) (seen : List Tm) : Prop := (bm_FI B 11 10 0 = nI seen.length ∧ seen.length ≤ 2144) ∧ FLg (bm_AI B 24) T seen 0
theorem RSn_fr {B B' : bm_H} {T T' : List Tm} {X : Nat → Prop} {seen : List Tm} (hS : HoS B) (h : RSn B T seen) (hf : fr X B B') (n0 : ¬ X 0) (n1 : ¬ X 24) (hT : T <+: T') : RSn B' T' seen := ⟨⟨(fr_FI hf hS.1.1 n0 11 10).trans h.1.1, h.1.2⟩, by rw [fr_AI hf hS.2.2.2.2.2.2.2.1 n1]; exact fun j A hA => tv_mono hT (h.2 j A hA)⟩
/-- devices; the seventh is the one that is worked on -/
def RDv (B : bm_H) (T : List Tm) (π : Nat → Nat) (w : Nat → SW) (dev : Nat → DV) : Prop := (∀ d, d < 6 → bm_AR B 19 d = some (rb (π d))) ∧ bm_FR B 11 11 0 = some (rb (π 6)) ∧ (∀ k, k < 7 → π k < 7) ∧ (∀ j k, j < 7 → k < 7 → π j = π k → j = k) ∧ ∀ k, k < 7 → RDe B T (rb (π k)) (w k) (dev k)
theorem RDv_fr {B B' : bm_H} {T T' : List Tm} {X : Nat → Prop} {π : Nat → Nat} {w : Nat → SW} {dev : Nat → DV} (hS : HoS B) (h : RDv B T π w dev) (hf : fr X B B') (n0 : ¬ X 0) (n1 : ¬ X 19) (n2 : ∀ k y, k < 7 → rb (π k) ≤ y → y < rb (π k) + 203 → ¬ X y) (hT : T <+: T') : RDv B' T' π w dev := ⟨by rw [fr_AR hf hS.2.2.1.1 n1]; exact h.1, (fr_FR hf hS.1.1 n0 11 11).trans h.2.1, h.2.2.1, h.2.2.2.1, fun k hk => RDe_fr (h.2.2.2.2 k hk) hf (fun y a b => n2 k y hk a b) hT⟩
theorem RDv_set {B B' : bm_H} {T T' : List Tm} {X : Nat → Prop} {π : Nat → Nat} {w : Nat → SW} {dev : Nat → DV} {k : Nat} {w' : SW} {D : DV} (hS : HoS B) (h : RDv B T π w dev) (hk : k < 7) (hf : fr X B B') (n0 : ¬ X 0) (n1 : ¬ X 19) (n2 : ∀ j y, j < 7 → j ≠ k → rb (π j) ≤ y → y < rb (π j) + 203 → ¬ X y) (hT : T <+: T') (hD : RDe B' T' (rb (π k)) w' D) : RDv B' T' π (fset w k w') (fset dev k D) := ⟨by rw [fr_AR hf hS.2.2.1.1 n1]; exact h.1, (fr_FR hf hS.1.1 n0 11 11).trans h.2.1, h.2.2.1, h.2.2.2.1, fun j hj => by
  by_cases c : j = k
  · subst c
    rw [fset_same, fset_same]
    exact hD
  · rw [fset_ne c, fset_ne c]
    exact RDe_fr (h.2.2.2.2 j hj) hf (fun y a b => n2 j y hj c a b) hT⟩
def RSo (B : bm_H) (T : List Tm) (sto : Nat → ST) : Prop := (∀ d, d < 6 → bm_AR B 20 d = some (431 + 209 * d)) ∧ ∀ d, d < 6 → RSt B T (431 + 209 * d) (sto d)
theorem RSo_fr {B B' : bm_H} {T T' : List Tm} {X : Nat → Prop} {sto : Nat → ST} (hS : HoS B) (h : RSo B T sto) (hf : fr X B B') (n1 : ¬ X 20) (n2 : ∀ d y, d < 6 → 431 + 209 * d ≤ y → y < 431 + 209 * d + 6 → ¬ X y) (hT : T <+: T') : RSo B' T' sto := ⟨by rw [fr_AR hf hS.2.2.2.1.1 n1]; exact h.1, fun d hd => RSt_fr (h.2 d hd) hf (fun y a b => n2 d y hd a b) hT⟩
theorem RSo_set {B B' : bm_H} {T T' : List Tm} {X : Nat → Prop} {sto : Nat → ST} {k : Nat} {S : ST} (hS : HoS B) (h : RSo B T sto) (hf : fr X B B') (n1 : ¬ X 20) (n2 : ∀ d y, d < 6 → d ≠ k → 431 + 209 * d ≤ y → y < 431 + 209 * d + 6 → ¬ X y) (hT : T <+: T') (hR : RSt B' T' (431 + 209 * k) S) : RSo B' T' (fset sto k S) := ⟨by rw [fr_AR hf hS.2.2.2.1.1 n1]; exact h.1, fun d hd => by
  by_cases c : d = k
  · subst c
    rw [fset_same]
    exact hR
  · rw [fset_ne c]
    exact RSt_fr (h.2 d hd) hf (fun y a b => n2 d y hd c a b) hT⟩
def RH (B : bm_H) (T : List Tm) (ws : List (Tm × Int32)) (wt : List Tm) (G : LG) (ids dir reg : Nat → Tm) (seen : List Tm) (π : Nat → Nat) (w : Nat → SW) (dev : Nat → DV) (sto : Nat → ST) : Prop := HoS B ∧ RWi B T 8 ws wt ∧ RLe B T G ∧ (RA B T 21 6 ids ∧ RA B T 22 30 dir ∧ RA B T 23 32 reg ∧ RSn B T seen) ∧ RDv B T π w dev ∧ RSo B T sto
theorem RH_fr {B B' : bm_H} {T T' : List Tm} {X : Nat → Prop} {ws : List (Tm × Int32)} {wt : List Tm} {G : LG} {ids dir reg : Nat → Tm} {seen : List Tm} {π : Nat → Nat} {w : Nat → SW} {dev : Nat → DV} {sto : Nat → ST}  (h : RH B T ws wt G ids dir reg seen π w dev sto) (hf : fr X B B') (n0 : ∀ y, (y = 0 ∨ (8 ≤ y ∧ y < 1482)) → ¬ X y) (hT : T <+: T') : RH B' T' ws wt G ids dir reg seen π w dev sto := by
  obtain ⟨h1, h2, h3, h4, h5, h6⟩ := h
  exact ⟨HoS_fr h1 hf, RWi_fr h2 hf (n0 8 (by omega)) (n0 9 (by omega)) (n0 10 (by omega)) hT, RLe_fr h3 hf (fun y a b => n0 y (by omega)) hT, ⟨RA_fr h1.2.2.2.2.1.1 h4.1 hf (n0 21 (by omega)) hT, RA_fr h1.2.2.2.2.2.1.1 h4.2.1 hf (n0 22 (by omega)) hT, RA_fr h1.2.2.2.2.2.2.1.1 h4.2.2.1 hf (n0 23 (by omega)) hT, RSn_fr h1 h4.2.2.2 hf (n0 0 (by omega)) (n0 24 (by omega)) hT⟩, RDv_fr h1 h5 hf (n0 0 (by omega)) (n0 19 (by omega)) (fun k y hk a b => n0 y (by have := rb_in (h5.2.2.1 k hk); omega)) hT, RSo_fr h1 h6 hf (n0 20 (by omega)) (fun d y hd a b => n0 y (by omega)) hT⟩
theorem RH_wi {B B' : bm_H} {T T' : List Tm} {X : Nat → Prop} {ws : List (Tm × Int32)} {wt : List Tm} {G : LG} {ids dir reg : Nat → Tm} {seen : List Tm} {π : Nat → Nat} {w : Nat → SW} {dev : Nat → DV} {sto : Nat → ST} {ws' : List (Tm × Int32)} {wt' : List Tm} (h : RH B T ws wt G ids dir reg seen π w dev sto) (hf : fr X B B') (n0 : ∀ y, (y = 0 ∨ (8 ≤ y ∧ y < 1482)) ∧ ¬ (8 ≤ y ∧ y ≤ 10) → ¬ X y) (hT : T <+: T') (hn : RWi B' T' 8 ws' wt') : RH B' T' ws' wt' G ids dir reg seen π w dev sto := by
  obtain ⟨h1, h2, h3, h4, h5, h6⟩ := h
  exact ⟨HoS_fr h1 hf, hn, RLe_fr h3 hf (fun y a b => n0 y (by omega)) hT, ⟨RA_fr h1.2.2.2.2.1.1 h4.1 hf (n0 21 (by omega)) hT, RA_fr h1.2.2.2.2.2.1.1 h4.2.1 hf (n0 22 (by omega)) hT, RA_fr h1.2.2.2.2.2.2.1.1 h4.2.2.1 hf (n0 23 (by omega)) hT, RSn_fr h1 h4.2.2.2 hf (n0 0 (by omega)) (n0 24 (by omega)) hT⟩, RDv_fr h1 h5 hf (n0 0 (by omega)) (n0 19 (by omega)) (fun k y hk a b => n0 y (by have := rb_in (h5.2.2.1 k hk); omega)) hT, RSo_fr h1 h6 hf (n0 20 (by omega)) (fun d y hd a b => n0 y (by omega)) hT⟩
theorem RH_le {B B' : bm_H} {T T' : List Tm} {X : Nat → Prop} {ws : List (Tm × Int32)} {wt : List Tm} {G : LG} {ids dir reg : Nat → Tm} {seen : List Tm} {π : Nat → Nat} {w : Nat → SW} {dev : Nat → DV} {sto : Nat → ST} {G' : LG} (h : RH B T ws wt G ids dir reg seen π w dev sto) (hf : fr X B B') (n0 : ∀ y, (y = 0 ∨ (8 ≤ y ∧ y < 1482)) ∧ ¬ (11 ≤ y ∧ y ≤ 18) → ¬ X y) (hT : T <+: T') (hn : RLe B' T' G') : RH B' T' ws wt G' ids dir reg seen π w dev sto := by
  obtain ⟨h1, h2, h3, h4, h5, h6⟩ := h
  exact ⟨HoS_fr h1 hf, RWi_fr h2 hf (n0 8 (by omega)) (n0 9 (by omega)) (n0 10 (by omega)) hT, hn, ⟨RA_fr h1.2.2.2.2.1.1 h4.1 hf (n0 21 (by omega)) hT, RA_fr h1.2.2.2.2.2.1.1 h4.2.1 hf (n0 22 (by omega)) hT, RA_fr h1.2.2.2.2.2.2.1.1 h4.2.2.1 hf (n0 23 (by omega)) hT, RSn_fr h1 h4.2.2.2 hf (n0 0 (by omega)) (n0 24 (by omega)) hT⟩, RDv_fr h1 h5 hf (n0 0 (by omega)) (n0 19 (by omega)) (fun k y hk a b => n0 y (by have := rb_in (h5.2.2.1 k hk); omega)) hT, RSo_fr h1 h6 hf (n0 20 (by omega)) (fun d y hd a b => n0 y (by omega)) hT⟩
theorem RH_dir {B B' : bm_H} {T T' : List Tm} {X : Nat → Prop} {ws : List (Tm × Int32)} {wt : List Tm} {G : LG} {ids dir reg : Nat → Tm} {seen : List Tm} {π : Nat → Nat} {w : Nat → SW} {dev : Nat → DV} {sto : Nat → ST} {dir' : Nat → Tm} (h : RH B T ws wt G ids dir reg seen π w dev sto) (hf : fr X B B') (n0 : ∀ y, (y = 0 ∨ (8 ≤ y ∧ y < 1482)) ∧ ¬ (y = 22) → ¬ X y) (hT : T <+: T') (hn : RA B' T' 22 30 dir') : RH B' T' ws wt G ids dir' reg seen π w dev sto := by
  obtain ⟨h1, h2, h3, h4, h5, h6⟩ := h
  exact ⟨HoS_fr h1 hf, RWi_fr h2 hf (n0 8 (by omega)) (n0 9 (by omega)) (n0 10 (by omega)) hT, RLe_fr h3 hf (fun y a b => n0 y (by omega)) hT, ⟨RA_fr h1.2.2.2.2.1.1 h4.1 hf (n0 21 (by omega)) hT, hn, RA_fr h1.2.2.2.2.2.2.1.1 h4.2.2.1 hf (n0 23 (by omega)) hT, RSn_fr h1 h4.2.2.2 hf (n0 0 (by omega)) (n0 24 (by omega)) hT⟩, RDv_fr h1 h5 hf (n0 0 (by omega)) (n0 19 (by omega)) (fun k y hk a b => n0 y (by have := rb_in (h5.2.2.1 k hk); omega)) hT, RSo_fr h1 h6 hf (n0 20 (by omega)) (fun d y hd a b => n0 y (by omega)) hT⟩
theorem RH_reg {B B' : bm_H} {T T' : List Tm} {X : Nat → Prop} {ws : List (Tm × Int32)} {wt : List Tm} {G : LG} {ids dir reg : Nat → Tm} {seen : List Tm} {π : Nat → Nat} {w : Nat → SW} {dev : Nat → DV} {sto : Nat → ST} {reg' : Nat → Tm} (h : RH B T ws wt G ids dir reg seen π w dev sto) (hf : fr X B B') (n0 : ∀ y, (y = 0 ∨ (8 ≤ y ∧ y < 1482)) ∧ ¬ (y = 23) → ¬ X y) (hT : T <+: T') (hn : RA B' T' 23 32 reg') : RH B' T' ws wt G ids dir reg' seen π w dev sto := by
  obtain ⟨h1, h2, h3, h4, h5, h6⟩ := h
  exact ⟨HoS_fr h1 hf, RWi_fr h2 hf (n0 8 (by omega)) (n0 9 (by omega)) (n0 10 (by omega)) hT, RLe_fr h3 hf (fun y a b => n0 y (by omega)) hT, ⟨RA_fr h1.2.2.2.2.1.1 h4.1 hf (n0 21 (by omega)) hT, RA_fr h1.2.2.2.2.2.1.1 h4.2.1 hf (n0 22 (by omega)) hT, hn, RSn_fr h1 h4.2.2.2 hf (n0 0 (by omega)) (n0 24 (by omega)) hT⟩, RDv_fr h1 h5 hf (n0 0 (by omega)) (n0 19 (by omega)) (fun k y hk a b => n0 y (by have := rb_in (h5.2.2.1 k hk); omega)) hT, RSo_fr h1 h6 hf (n0 20 (by omega)) (fun d y hd a b => n0 y (by omega)) hT⟩
theorem RH_seen {B B' : bm_H} {T T' : List Tm} {X : Nat → Prop} {ws : List (Tm × Int32)} {wt : List Tm} {G : LG} {ids dir reg : Nat → Tm} {seen : List Tm} {π : Nat → Nat} {w : Nat → SW} {dev : Nat → DV} {sto : Nat → ST} {seen' : List Tm} (h : RH B T ws wt G ids dir reg seen π w dev sto) (hf : fr X B B') (n0 : ∀ y, (y = 0 ∨ (8 ≤ y ∧ y < 1482)) ∧ ¬ (y = 0 ∨ y = 24) → ¬ X y) (hT : T <+: T') (hn : RSn B' T' seen') (hw : bm_FR B' 11 11 0 = bm_FR B 11 11 0) : RH B' T' ws wt G ids dir reg seen' π w dev sto := by
  obtain ⟨h1, h2, h3, h4, h5, h6⟩ := h
  exact ⟨HoS_fr h1 hf, RWi_fr h2 hf (n0 8 (by omega)) (n0 9 (by omega)) (n0 10 (by omega)) hT, RLe_fr h3 hf (fun y a b => n0 y (by omega)) hT, ⟨RA_fr h1.2.2.2.2.1.1 h4.1 hf (n0 21 (by omega)) hT, RA_fr h1.2.2.2.2.2.1.1 h4.2.1 hf (n0 22 (by omega)) hT, RA_fr h1.2.2.2.2.2.2.1.1 h4.2.2.1 hf (n0 23 (by omega)) hT, hn⟩, ⟨by rw [fr_AR hf h1.2.2.1.1 (n0 19 (by omega))]; exact h5.1, hw.trans h5.2.1, h5.2.2.1, h5.2.2.2.1, fun k hk => RDe_fr (h5.2.2.2.2 k hk) hf (fun y a b => n0 y (by have := rb_in (h5.2.2.1 k hk); omega)) hT⟩, RSo_fr h1 h6 hf (n0 20 (by omega)) (fun d y hd a b => n0 y (by omega)) hT⟩
theorem RH_dv {B B' : bm_H} {T T' : List Tm} {X : Nat → Prop} {ws : List (Tm × Int32)} {wt : List Tm} {G : LG} {ids dir reg : Nat → Tm} {seen : List Tm} {π : Nat → Nat} {w : Nat → SW} {dev : Nat → DV} {sto : Nat → ST} {k : Nat} {w' : SW} {D : DV} (h : RH B T ws wt G ids dir reg seen π w dev sto) (hf : fr X B B') (n0 : ∀ y, (y = 0 ∨ (8 ≤ y ∧ y < 1482)) ∧ ¬ (rb (π k) ≤ y ∧ y < rb (π k) + 203) → ¬ X y) (hT : T <+: T') (hk : k < 7) (hn : RDe B' T' (rb (π k)) w' D) : RH B' T' ws wt G ids dir reg seen π (fset w k w') (fset dev k D) sto := by
  obtain ⟨h1, h2, h3, h4, h5, h6⟩ := h
  have hrb := rb_in (h5.2.2.1 k hk)
  exact ⟨HoS_fr h1 hf, RWi_fr h2 hf (n0 8 (by omega)) (n0 9 (by omega)) (n0 10 (by omega)) hT, RLe_fr h3 hf (fun y a b => n0 y (by omega)) hT, ⟨RA_fr h1.2.2.2.2.1.1 h4.1 hf (n0 21 (by omega)) hT, RA_fr h1.2.2.2.2.2.1.1 h4.2.1 hf (n0 22 (by omega)) hT, RA_fr h1.2.2.2.2.2.2.1.1 h4.2.2.1 hf (n0 23 (by omega)) hT, RSn_fr h1 h4.2.2.2 hf (n0 0 (by omega)) (n0 24 (by omega)) hT⟩, RDv_set h1 h5 hk hf (n0 0 (by have := rb_in (h5.2.2.1 k hk); omega)) (n0 19 (by have := rb_in (h5.2.2.1 k hk); omega)) (fun j y hj c a b => n0 y (by have := rb_in (h5.2.2.1 k hk); have := rb_in (h5.2.2.1 j hj); have := rb_ne (h5.2.2.1 j hj) (h5.2.2.1 k hk) (fun e => c (h5.2.2.2.1 j k hj hk e)); omega)) hT hn, RSo_fr h1 h6 hf (n0 20 (by omega)) (fun d y hd a b => n0 y (by have := rb_st (h5.2.2.1 k hk) hd; omega)) hT⟩
theorem RH_st {B B' : bm_H} {T T' : List Tm} {X : Nat → Prop} {ws : List (Tm × Int32)} {wt : List Tm} {G : LG} {ids dir reg : Nat → Tm} {seen : List Tm} {π : Nat → Nat} {w : Nat → SW} {dev : Nat → DV} {sto : Nat → ST} {k : Nat} {S : ST} (h : RH B T ws wt G ids dir reg seen π w dev sto) (hf : fr X B B') (n0 : ∀ y, (y = 0 ∨ (8 ≤ y ∧ y < 1482)) ∧ ¬ (431 + 209 * k ≤ y ∧ y < 431 + 209 * k + 6) → ¬ X y) (hT : T <+: T') (hk : k < 6) (hn : RSt B' T' (431 + 209 * k) S) : RH B' T' ws wt G ids dir reg seen π w dev (fset sto k S) := by
  obtain ⟨h1, h2, h3, h4, h5, h6⟩ := h
  exact ⟨HoS_fr h1 hf, RWi_fr h2 hf (n0 8 (by omega)) (n0 9 (by omega)) (n0 10 (by omega)) hT, RLe_fr h3 hf (fun y a b => n0 y (by omega)) hT, ⟨RA_fr h1.2.2.2.2.1.1 h4.1 hf (n0 21 (by omega)) hT, RA_fr h1.2.2.2.2.2.1.1 h4.2.1 hf (n0 22 (by omega)) hT, RA_fr h1.2.2.2.2.2.2.1.1 h4.2.2.1 hf (n0 23 (by omega)) hT, RSn_fr h1 h4.2.2.2 hf (n0 0 (by omega)) (n0 24 (by omega)) hT⟩, RDv_fr h1 h5 hf (n0 0 (by omega)) (n0 19 (by omega)) (fun k1 y hk1 a b => n0 y (by have := rb_in (h5.2.2.1 k1 hk1); have := rb_st (h5.2.2.1 k1 hk1) hk; omega)) hT, RSo_set h1 h6 hf (n0 20 (by omega)) (fun d y hd c a b => n0 y (by omega)) hT hn⟩
/-- the device that was worked on takes the place of device d -/
def sw6 {α : Type} (f : Nat → α) (d : Nat) : Nat → α := fset (fset f d (f 6)) 6 (f d)
theorem RH_swap {B B' : bm_H} {T : List Tm} {ws : List (Tm × Int32)} {wt : List Tm} {G : LG} {ids dir reg : Nat → Tm} {seen : List Tm} {π : Nat → Nat} {w : Nat → SW} {dev : Nat → DV} {sto : Nat → ST} {d : Nat} (hd : d < 6) (h : RH B T ws wt G ids dir reg seen π w dev sto) (hf : fr (fun y => y = 0 ∨ y = 19) B B') (e : ∀ j, bm_AR B' 19 j = if j = d then some (rb (π 6)) else bm_AR B 19 j) (e2 : bm_FR B' 11 11 0 = some (rb (π d))) (e3 : bm_FI B' 11 10 0 = bm_FI B 11 10 0) : RH B' T ws wt G ids dir reg seen (sw6 π d) (sw6 w d) (sw6 dev d) sto := by
  obtain ⟨h1, h2, h3, h4, h5, h6⟩ := h
  have hT := List.prefix_refl T
  refine ⟨HoS_fr h1 hf, RWi_fr h2 hf (by omega) (by omega) (by omega) hT, RLe_fr h3 hf (fun y a b => by omega) hT, ⟨RA_fr h1.2.2.2.2.1.1 h4.1 hf (by omega) hT, RA_fr h1.2.2.2.2.2.1.1 h4.2.1 hf (by omega) hT, RA_fr h1.2.2.2.2.2.2.1.1 h4.2.2.1 hf (by omega) hT, ⟨e3.trans h4.2.2.2.1.1, h4.2.2.2.1.2⟩, by rw [fr_AI hf h1.2.2.2.2.2.2.2.1 (by omega)]; exact h4.2.2.2.2⟩, ⟨fun j hj => ?_, ?_, fun k hk => ?_, fun j k hj hk q => ?_, fun k hk => ?_⟩, RSo_fr h1 h6 hf (by omega) (fun d y hd a b => by omega) hT⟩
  · rw [e j]
    unfold sw6
    rw [fset_ne (by omega)]
    by_cases c : j = d
    · subst c; rw [if_pos rfl, fset_same]
    · rw [if_neg c, fset_ne c]; exact h5.1 j hj
  · rw [e2]; unfold sw6; rw [fset_same]
  · unfold sw6 fset
    split
    · exact h5.2.2.1 d (by omega)
    · split
      · exact h5.2.2.1 6 (by omega)
      · exact h5.2.2.1 k hk
  · have i := h5.2.2.2.1
    unfold sw6 fset at q
    by_cases a1 : j = 6
    · by_cases b1 : k = 6
      · omega
      · rw [if_pos a1, if_neg b1] at q
        by_cases b2 : k = d
        · rw [if_pos b2] at q; have := i d 6 (by omega) (by omega) q; omega
        · rw [if_neg b2] at q; have := i d k (by omega) hk q; omega
    · rw [if_neg a1] at q
      by_cases b1 : k = 6
      · rw [if_pos b1] at q
        by_cases a2 : j = d
        · rw [if_pos a2] at q; have := i 6 d (by omega) (by omega) q; omega
        · rw [if_neg a2] at q; have := i j d hj (by omega) q; omega
      · rw [if_neg b1] at q
        by_cases a2 : j = d
        · rw [if_pos a2] at q
          by_cases b2 : k = d
          · omega
          · rw [if_neg b2] at q; have := i 6 k (by omega) hk q; omega
        · rw [if_neg a2] at q
          by_cases b2 : k = d
          · rw [if_pos b2] at q; have := i j 6 hj (by omega) q; omega
          · rw [if_neg b2] at q; exact i j k hj hk q
  · have hfr : ∀ k, k < 7 → RDe B' T (rb (π k)) (w k) (dev k) := fun k hk => RDe_fr (h5.2.2.2.2 k hk) hf (fun y a b => by have := rb_in (h5.2.2.1 k hk); omega) hT
    unfold sw6
    by_cases a1 : k = 6
    · subst a1; rw [fset_same, fset_same, fset_same]; exact hfr d (by omega)
    · rw [fset_ne a1, fset_ne a1, fset_ne a1]
      by_cases a2 : k = d
      · subst a2; rw [fset_same, fset_same, fset_same]; exact hfr 6 (by omega)
      · rw [fset_ne a2, fset_ne a2, fset_ne a2]; exact hfr k hk
