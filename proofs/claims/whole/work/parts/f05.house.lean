/-! The house is made: the loop over its devices. -/
def Id (k : Nat) : Tm := Tsec (nI k) (nI k) 0
def eT : Nat → List Tm
  | 0 => [tz]
  | k + 1 => eT k ++ [Id k, Tpub (Id k)]
theorem eT_len : ∀ k, (eT k).length = 1 + 2 * k
  | 0 => rfl
  | k + 1 => by rw [eT, List.length_append, eT_len k]; simp; omega
def eG (k : Nat) (y : Tm) : Prop := ∃ i, i < k ∧ y = Tpub (Id i)
theorem eG_s (k : Nat) : (fun y => eG k y ∨ y = Tpub (Id k)) = eG (k + 1) := by
  funext y
  refine propext ⟨?_, ?_⟩
  · rintro (⟨i, hi, rfl⟩ | rfl)
    · exact ⟨i, by omega, rfl⟩
    · exact ⟨k, by omega, rfl⟩
  · rintro ⟨i, hi, rfl⟩
    rcases Nat.lt_or_eq_of_le (Nat.le_of_lt_succ hi) with q | q
    · exact Or.inl ⟨i, q, rfl⟩
    · exact Or.inr (by rw [q])
def eIds (k i : Nat) : Tm := if i < k then Id i else tz
theorem eIds_s {k i : Nat} (c : ¬ i = k) : eIds (k + 1) i = eIds k i := by
  unfold eIds
  by_cases q : i < k
  · rw [if_pos q, if_pos (by omega)]
  · rw [if_neg q, if_neg (by omega)]
def eSt (k : Nat) : ST := (false, [(Id k, tz)], [], none, false)
def HW (k : Nat) (B : bm_H) (T : List Tm) : Prop := HoS B ∧ RWi B T 8 [] [] ∧ RLe B T eLG ∧ (RA B T 22 30 (fun _ => tz) ∧ RA B T 23 32 (fun _ => tz) ∧ RSn B T []) ∧ (bm_FR B 11 11 0 = some 25 ∧ RDe B T 25 eSw (eDe tz)) ∧ (∀ i, i < k → RDe B T (228 + 209 * i) eSw (eDe (Id i))) ∧ ∀ i, i < k → RSt B T (431 + 209 * i) (eSt i)
def HA (k : Nat) (B : bm_H) : Prop := (∀ i, i < k → bm_AR B 19 i = some (228 + 209 * i)) ∧ ∀ i, i < k → bm_AR B 20 i = some (431 + 209 * i)
def HI (k : Nat) (B : bm_H) : Prop := HW k B (eT k) ∧ HA k B ∧ RA B (eT k) 21 6 (eIds k) ∧ TI B 1 2 3 4 1024 k (eT k) ∧ KI B 5 1 6 7 1024 (eT k).length (eT k) (eG k) ∧ bm_n B = 228 + 209 * k ∧ bm_sl B ≤ 38424 + 4346 * k
theorem HW_fr {k : Nat} {B B' : bm_H} {T T' : List Tm} {X : Nat → Prop} (h : HW k B T) (hf : fr X B B') (n0 : ∀ y, (y = 0 ∨ (8 ≤ y ∧ y < 19) ∨ (22 ≤ y ∧ y < 228 + 209 * k)) → ¬ X y) (hT : T <+: T') : HW k B' T' := by
  obtain ⟨h1, h2, h3, ⟨h4, h5, h6⟩, ⟨h7, h8⟩, h9, h10⟩ := h
  exact ⟨HoS_fr h1 hf, RWi_fr h2 hf (n0 8 (by omega)) (n0 9 (by omega)) (n0 10 (by omega)) hT, RLe_fr h3 hf (fun y a b => n0 y (by omega)) hT, ⟨RA_fr h1.2.2.2.2.2.1.1 h4 hf (n0 22 (by omega)) hT, RA_fr h1.2.2.2.2.2.2.1.1 h5 hf (n0 23 (by omega)) hT, RSn_fr h1 h6 hf (n0 0 (by omega)) (n0 24 (by omega)) hT⟩, ⟨(fr_FR hf h1.1.1 (n0 0 (by omega)) 11 11).trans h7, RDe_fr h8 hf (fun y a b => n0 y (by omega)) hT⟩, fun i hi => RDe_fr (h9 i hi) hf (fun y a b => n0 y (by omega)) hT, fun i hi => RSt_fr (h10 i hi) hf (fun y a b => n0 y (by omega)) hT⟩
theorem n6 {k : Nat} (h : k < 6) : ¬ (6 : Int32) ≤ nI k := by
  rcases k with _ | _ | _ | _ | _ | _ | k <;> first | decide | omega
/-- identity of a device put -/
theorem RDe_id {B : bm_H} {T : List Tm} {x : Nat} {r : Int32} {A : Tm} (h : RDe B T x eSw (eDe tz)) (hr : tv T r A) : RDe (bm_putI B 0 6 x r) T x eSw (eDe A) := by
  obtain ⟨h1, h2, h3, h4, h5, h6, h7⟩ := h
  exact ⟨h1, ⟨tvq (if_pos ⟨rfl, rfl, rfl⟩) hr, h2.2⟩, h3, h4, h5, h6, h7⟩
def HX (k y : Nat) : Prop := (1 ≤ y ∧ y ≤ 7) ∨ y = 19 ∨ y = 20 ∨ y = 21 ∨ 228 + 209 * k ≤ y
theorem HX_no {k : Nat} : ∀ y, (y = 0 ∨ (8 ≤ y ∧ y < 19) ∨ (22 ≤ y ∧ y < 228 + 209 * k)) → ¬ HX k y := fun y h q => by unfold HX at q; omega
/-- one device more: the heaps on the way -/
theorem HI_next {k : Nat} {B B1 B3 B4 B7 : bm_H} {r : Int32} (hk : k < 6) (h : HI k B) (hx : tx B B1 1 2 3 4 1024 (k + 1) (eT k) (eT (k + 1)) 2) (ht : tv (eT (k + 1)) r (Id k)) (h3 : TI B3 1 2 3 4 1024 (k + 1) (eT (k + 1)) ∧ KI B3 5 1 6 7 1024 (eT (k + 1)).length (eT (k + 1)) (eG (k + 1)) ∧ fr (kx 5 6 7) (bm_setI B1 21 k r) B3 ∧ bm_n B3 = bm_n B1 ∧ bm_sl B3 ≤ bm_sl B1) (h4 : Mk (PDe (228 + 209 * k)) 203 2189 0 B3 B4 (228 + 209 * k)) (h7 : Mk (PSt r (431 + 209 * k)) 6 2157 8 (bm_putI (bm_setR B4 19 k (some (228 + 209 * k))) 0 6 (228 + 209 * k) r) B7 (431 + 209 * k)) : HI (k + 1) (bm_setR B7 20 k (some (431 + 209 * k))) := by
  obtain ⟨hW, hA, hR, hT, hK, hn, hs⟩ := h
  obtain ⟨hp, -, hT1, hte⟩ := hx
  obtain ⟨hT3, hK3, f23, n3, s3⟩ := h3
  have z := fz_te hte
  have m := fun (Y : Nat → Prop) (B B' : bm_H) (q : fr Y B B') (w : ∀ y, Y y → HX k y) => fr_mono w q
  have fa : fr (HX k) B B1 := m _ _ _ z.1 (fun y q => by unfold HX; omega)
  have fb : fr (HX k) B1 (bm_setI B1 21 k r) := m _ _ _ (fr_setI _ _ _ _) (fun y q => by unfold HX; omega)
  have fc : fr (HX k) (bm_setI B1 21 k r) B3 := m _ _ _ f23 (fun y q => by unfold HX; unfold kx at q; omega)
  have fd : fr (HX k) B3 B4 := fr0_fr h4.1
  have fe : fr (HX k) B4 (bm_setR B4 19 k (some (228 + 209 * k))) := m _ _ _ (fr_setR _ _ _ _) (fun y q => by unfold HX; omega)
  have ff : fr (HX k) (bm_setR B4 19 k (some (228 + 209 * k))) (bm_putI (bm_setR B4 19 k (some (228 + 209 * k))) 0 6 (228 + 209 * k) r) := m _ _ _ (fr_putI _ _ _ _ _) (fun y q => by unfold HX; omega)
  have fg : fr (HX k) (bm_putI (bm_setR B4 19 k (some (228 + 209 * k))) 0 6 (228 + 209 * k) r) B7 := fr0_fr h7.1
  have fh : fr (HX k) B7 (bm_setR B7 20 k (some (431 + 209 * k))) := m _ _ _ (fr_setR _ _ _ _) (fun y q => by unfold HX; omega)
  have fA := fr_trans (fr_trans (fr_trans (fr_trans (fr_trans (fr_trans (fr_trans fa fb) fc) fd) fe) ff) fg) fh
  have hS := hW.1
  have c1 : 19 < bm_n B := hS.2.2.1.1
  have c2 : 20 < bm_n B := hS.2.2.2.1.1
  have c3 : 21 < bm_n B := hS.2.2.2.2.1.1
  have hz : tv (eT (k + 1)) 0 tz := TI_z hT3
  have n4 := h4.2.1.1
  have n7 := h7.2.1.1
  have n7' : bm_n (bm_setR B7 20 k (some (431 + 209 * k))) = 431 + 209 * k + 6 := n7
  have n1 : bm_n B1 = bm_n B := z.2.1
  have s1 : bm_sl B1 = bm_sl B := z.2.2
  have s7 : bm_sl B7 = bm_sl B4 + 2157 := h7.2.1.2
  have s4 := h4.2.1.2
  -- the new device
  have D4 : RDe B4 (eT (k + 1)) (228 + 209 * k) eSw (eDe tz) := stb_on h4.2.2.1 (by omega) _ hz
  have D5 : RDe (bm_setR B4 19 k (some (228 + 209 * k))) (eT (k + 1)) (228 + 209 * k) eSw (eDe tz) := RDe_fr D4 (fr_setR _ _ _ _) (fun y a b => by omega) (List.prefix_refl _)
  have D6 := RDe_id D5 ht
  have D8 := RDe_fr D6 (fr_trans (X := fun y => y = 20) (fr0_fr h7.1) (fr_setR B7 20 k (some (431 + 209 * k)))) (fun y a b => by omega) (List.prefix_refl _)
  have S7 : RSt B7 (eT (k + 1)) (431 + 209 * k) (eSt k) := stb_on h7.2.2.1 (by omega) _ _ hz ht
  have S8 := RSt_fr S7 (fr_setR B7 20 k (some (431 + 209 * k))) (fun y a b => by omega) (List.prefix_refl _)
  -- arrays
  have a4 : bm_AR B4 19 = bm_AR B 19 := (fr_AR (X := fun y => (1 ≤ y ∧ y ≤ 7) ∨ y = 21) (fr_trans (fr_trans (fr_trans (fr_mono (fun y q => by omega) z.1) (fr_mono (fun y q => by omega) (fr_setI B1 21 k r))) (fr_mono (fun y q => by unfold kx at q; omega) f23)) (fr0_fr h4.1)) c1 (by omega))
  have A5 := ars_step (B := B4) (a := 19) (k := k) (f := fun i => 228 + 209 * i) (fun i hi => (congrFun a4 i).trans (hA.1 i hi))
  have a8 : bm_AR (bm_setR B7 20 k (some (431 + 209 * k))) 19 = bm_AR (bm_setR B4 19 k (some (228 + 209 * k))) 19 := by
    have q := fr_trans (X := fun y => y = 20 ∨ y = 228 + 209 * k) (fr_trans (fr_mono (fun y q => by omega) (fr_putI (bm_setR B4 19 k (some (228 + 209 * k))) 0 6 (228 + 209 * k) r)) (fr0_fr h7.1)) (fr_mono (fun y q => by omega) (fr_setR B7 20 k (some (431 + 209 * k))))
    exact fr_AR q (by show 19 < bm_n B4; omega) (by omega)
  have b7 : bm_AR B7 20 = bm_AR B 20 := by
    have q := fr_trans (X := fun y => (1 ≤ y ∧ y ≤ 7) ∨ y = 21 ∨ y = 19 ∨ y = 228 + 209 * k) (fr_trans (fr_trans (fr_trans (fr_trans (fr_trans (fr_mono (fun y q => by omega) z.1) (fr_mono (fun y q => by omega) (fr_setI B1 21 k r))) (fr_mono (fun y q => by unfold kx at q; omega) f23)) (fr0_fr h4.1)) (fr_mono (fun y q => by omega) (fr_setR B4 19 k (some (228 + 209 * k))))) (fr_mono (fun y q => by omega) (fr_putI _ 0 6 (228 + 209 * k) r))) (fr0_fr h7.1)
    exact fr_AR q c2 (by omega)
  have A8 := ars_step (B := B7) (a := 20) (k := k) (f := fun i => 431 + 209 * i) (fun i hi => (congrFun b7 i).trans (hA.2 i hi))
  -- identities
  have i8 : bm_AI (bm_setR B7 20 k (some (431 + 209 * k))) 21 = upd (bm_AI B 21) k r := by
    have q := fr_trans (X := fun y => y = 5 ∨ y = 6 ∨ y = 7 ∨ y = 20 ∨ y = 19 ∨ y = 228 + 209 * k) (fr_trans (fr_trans (fr_trans (fr_trans (fr_mono (fun y q => by unfold kx at q; omega) f23) (fr0_fr h4.1)) (fr_mono (fun y q => by omega) (fr_setR B4 19 k (some (228 + 209 * k))))) (fr_mono (fun y q => by omega) (fr_putI _ 0 6 (228 + 209 * k) r))) (fr0_fr h7.1)) (fr_mono (fun y q => by omega) (fr_setR B7 20 k (some (431 + 209 * k))))
    rw [fr_AI q (by show 21 < bm_n B1; omega) (by omega), AI_set, fr_AI z.1 c3 (by omega)]
  have hW8 := HW_fr hW fA HX_no hp
  refine ⟨⟨hW8.1, hW8.2.1, hW8.2.2.1, hW8.2.2.2.1, hW8.2.2.2.2.1, al_step hW8.2.2.2.2.2.1 D8, al_step hW8.2.2.2.2.2.2 S8⟩, ⟨fun i hi => (congrFun a8 i).trans (A5 i hi), A8⟩, ?_, ?_, ?_, ?_, ?_⟩
  · intro i hi
    rw [i8]
    by_cases c : i = k
    · subst c
      rw [show upd (bm_AI B 21) i r i = r from if_pos rfl, show eIds (i + 1) i = Id i from if_pos (by omega)]
      exact ht
    · rw [pk_un c, show eIds (k + 1) i = eIds k i from eIds_s c]
      exact tv_mono hp (hR i hi)
  · have q := fr_trans (X := fun y => y = 20 ∨ y = 19 ∨ y = 228 + 209 * k) (fr_trans (fr_trans (fr_trans (fr0_fr h4.1) (fr_mono (fun y q => by omega) (fr_setR B4 19 k (some (228 + 209 * k))))) (fr_mono (fun y q => by omega) (fr_putI _ 0 6 (228 + 209 * k) r))) (fr0_fr h7.1)) (fr_mono (fun y q => by omega) (fr_setR B7 20 k (some (431 + 209 * k))))
    exact TI_fr hT3 q (by omega) (by omega) (by omega)
  · have q := fr_trans (X := fun y => y = 20 ∨ y = 19 ∨ y = 228 + 209 * k) (fr_trans (fr_trans (fr_trans (fr0_fr h4.1) (fr_mono (fun y q => by omega) (fr_setR B4 19 k (some (228 + 209 * k))))) (fr_mono (fun y q => by omega) (fr_putI _ 0 6 (228 + 209 * k) r))) (fr0_fr h7.1)) (fr_mono (fun y q => by omega) (fr_setR B7 20 k (some (431 + 209 * k))))
    exact KI_mono hK3 (TI_fr hT3 q (by omega) (by omega) (by omega)) (List.prefix_refl _) q (by omega) (by omega) (by omega)
  · rw [n7']; omega
  · have e1 : bm_sl (bm_setR B7 20 k (some (431 + 209 * k))) = bm_sl B7 := rfl
    have e2 : bm_sl (bm_putI (bm_setR B4 19 k (some (228 + 209 * k))) 0 6 (228 + 209 * k) r) = bm_sl B4 := rfl
    rw [e1]; omega
