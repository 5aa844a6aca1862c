/-! Constructors: wires, ledger, terms, knowledge, store. -/
theorem bm_cell_newF {B : bm_H} {t N : Nat} {f : Nat → Option Nat} (ht : 2 ≤ t) : tm_add (bm_enc B) N (.inr (.inl (t, N, f))) = bm_enc (bm_n B + 1, bm_sl B + N, va_up (bm_K B) (bm_n B) (13 + t), bm_FI B, bm_FR B, va_up (bm_AL B) (bm_n B) N, bm_row (bm_AI B) (bm_n B) (fun _ => 0), bm_row (bm_AR B) (bm_n B) f) := by
  refine bm_enc_add rfl rfl ?_ (fun a' ha' => bm_cell_eq ?_ (fun _ _ => rfl) (fun _ _ => rfl) ?_ (fun _ => ?_) (fun _ => ?_))
  · unfold bm_cell
    have hK' : bm_K (bm_n B + 1, bm_sl B + N, va_up (bm_K B) (bm_n B) (13 + t), bm_FI B, bm_FR B, va_up (bm_AL B) (bm_n B) N, bm_row (bm_AI B) (bm_n B) (fun _ => 0), bm_row (bm_AR B) (bm_n B) f) (bm_n B) = 13 + t := va_up_self _ _ _
    have hL' : bm_AL (bm_n B + 1, bm_sl B + N, va_up (bm_K B) (bm_n B) (13 + t), bm_FI B, bm_FR B, va_up (bm_AL B) (bm_n B) N, bm_row (bm_AI B) (bm_n B) (fun _ => 0), bm_row (bm_AR B) (bm_n B) f) (bm_n B) = N := va_up_self _ _ _
    rw [hK', if_neg (by omega), if_neg (by omega), hL', Nat.add_sub_cancel_left]
    congr 4
    funext q
    exact if_pos rfl
  · exact va_up_ne _ _ ha'
  · exact va_up_ne _ _ ha'
  · exact if_neg ha'
  · exact if_neg ha'
theorem n_mul {sc : tm_X} {d nL pc pc' m : Nat} {ini : Bool} {ret : Option FieldType} {code : List (Nat × Instr × Nat)} {lv : tm_L} {st : List Value} {B : bm_H} {Q : Option Value → bm_H → Prop} {j : Nat} (hm : bm_n B = m) (hc : tm_cd j 8 nL ini ret code) (hl : code.lookup pc = some (.multianewarray 9 2, 4)) (hp : pc + 4 = pc') (kk : ∀ B', fr0 B B' → bm_n B' = m + 3 → bm_sl B' = bm_sl B + 2146 → (m < bm_n B' ∧ bm_K B' m = 21 ∧ bm_AL B' m = 2) → (m + 1 < bm_n B' ∧ bm_K B' (m + 1) = 13 ∧ bm_AL B' (m + 1) = 1072) → (m + 2 < bm_n B' ∧ bm_K B' (m + 2) = 13 ∧ bm_AL B' (m + 2) = 1072) → (bm_AR B' m 0 = some (m + 1) ∧ bm_AR B' m 1 = some (m + 2)) → bm_AI B' (m + 1) = (fun _ => 0) → bm_AI B' (m + 2) = (fun _ => 0) → bm_G sc d j pc' lv (.ref m :: st) B' Q) : bm_G sc d j pc lv (.int 1072 :: .int 2 :: st) B Q := by
  subst hp; subst hm
  obtain ⟨B1, e1⟩ : ∃ B1 : bm_H, B1 = (bm_n B + 1, bm_sl B + 2, va_up (bm_K B) (bm_n B) (13 + 8), bm_FI B, bm_FR B, va_up (bm_AL B) (bm_n B) 2, bm_row (bm_AI B) (bm_n B) (fun _ => 0), bm_row (bm_AR B) (bm_n B) (fun j => if j < 2 then some (bm_n B + 1 + j) else none)) := ⟨_, rfl⟩
  have hn1 : bm_n B1 = bm_n B + 1 := by rw [e1]
  have N2 := NwA_mk hn1 13 1072
  have N3 := NwA_mk (B := bm_newA B1 13 1072) (m := bm_n B + 2) (by rw [N2.2.1.1]) 13 1072
  have f1 : fr0 B B1 := by
    rw [e1]
    exact ⟨Nat.le_succ _, fun y hy => ⟨Nat.lt_succ_of_lt hy, va_up_ne _ _ (by omega), va_up_ne _ _ (by omega), fun _ _ => rfl, fun _ _ => rfl, funext fun _ => if_neg (by omega), funext fun _ => if_neg (by omega)⟩⟩
  have c1 : bm_K B1 (bm_n B) = 21 ∧ bm_AL B1 (bm_n B) = 2 ∧ bm_AR B1 (bm_n B) 0 = some (bm_n B + 1) ∧ bm_AR B1 (bm_n B) 1 = some (bm_n B + 2) := by
    rw [e1]
    exact ⟨va_up_self _ _ _, va_up_self _ _ _, if_pos rfl, if_pos rfl⟩
  have s1 : bm_sl B1 = bm_sl B + 2 := by rw [e1]
  have f23 := fr0_trans N2.1 N3.1
  have h0 := f23.2 (bm_n B) (by omega)
  have h2 := N3.1.2 (bm_n B + 1) (by have := N2.2.1.1; omega)
  have k := kk _ (fr0_trans f1 f23) N3.2.1.1 (by rw [N3.2.1.2, N2.2.1.2, s1]) ⟨h0.1, ce_K h0 c1.1, ce_AL h0 c1.2.1⟩ ⟨h2.1, ce_K h2 N2.2.2.1.2.1, ce_AL h2 N2.2.2.1.2.2⟩ N3.2.2.1 ⟨ce_AR h0 c1.2.2.1, ce_AR h0 c1.2.2.2⟩ (ce_AI h2 N2.2.2.2.1) N3.2.2.2.1
  refine g_step hc hl rfl ?_ k
  have e : tm_mnew 8 9 2 pc lv (.int 1072 :: .int 2 :: st) (bm_enc B) = some (pc + 4, lv, .ref (bm_n B) :: st, tm_rows 1072 2 (tm_add (bm_enc B) 2 (.inr (.inl (8, 2, fun j => if j < 2 then some (bm_n B + 1 + j) else none))))) := rfl
  simp only [tm_step, if_true, e]
  rw [bm_cell_newF (by decide), ← e1]
  show some (pc + 4, lv, .ref (bm_n B) :: st, tm_add (tm_add (bm_enc B1) 1072 (.inl (0, 1072, fun _ => 0))) 1072 (.inl (0, 1072, fun _ => 0))) = _
  rw [bm_cell_newA (t := 0) (by decide), bm_cell_newA (t := 0) (by decide)]
def zf : Nat → Int32 := fun _ => 0
def eBd : Nat → Int32 := fun q => if q < 3000 then -1 else 0
def eLG : LG := ([], eBd, zf, zf, zf, zf, zf, 0, 0, tz, false, 0, 0, 0)
def PWi (m : Nat) (B : bm_H) : Prop := ∀ T, tv T 0 tz → RWi B T m [] []
def PLe (m : Nat) (B : bm_H) : Prop := m = 11 → ∀ T, tv T 0 tz → RLe B T eLG
def PTe (m : Nat) (B : bm_H) : Prop := m = 1 → TI B 1 2 3 4 1024 0 [tz]
def PKn (m : Nat) (B : bm_H) : Prop := m = 5 → KI B 5 1 6 7 1024 1 [tz] (fun _ => False)
def PSt (x : Int32) (m : Nat) (B : bm_H) : Prop := ∀ T id, tv T 0 tz → tv T x id → RSt B T m (false, [(id, tz)], [], none, false)
theorem TI_00 {fc fb : Nat → Int32} (hb : fb = fun _ => 0) : te_tab fc fb 1 ∧ tt_rows fc [tz] ∧ tt_secs [tz] 0 ∧ (∀ A, A ∈ [tz] → Tsp A) ∧ 0 ≤ 100000 := by
  refine ⟨⟨fun s _ => ?_, fun t h1 h2 => absurd h1 (by omega), fun t u h1 h2 => absurd h1 (by omega)⟩, ⟨rfl, fun i A hi hA => ?_⟩, ⟨fun i A hA hk => ?_, fun i j A C hij hA hC => ?_⟩, fun A hA => ?_, by decide⟩
  · rw [hb]
    show (0 : Int32) = nI (if 0 ≠ 0 ∧ te_sn (te_row fc 0) = s then 0 else 0)
    rw [if_neg (by simp)]
    rfl
  · have := (List.getElem?_eq_some_iff.mp hA).1
    simp at this; omega
  · have := (List.getElem?_eq_some_iff.mp hA).1
    have h0 : i = 0 := by simp at this; omega
    subst h0
    simp at hA
    subst hA
    exact absurd hk (by decide)
  · have h1 := (List.getElem?_eq_some_iff.mp hA).1
    have h2 := (List.getElem?_eq_some_iff.mp hC).1
    simp at h1 h2; omega
  · simp at hA
    exact Or.inl hA
theorem KI_0 {B : bm_H} (h : kn_ok B 5 1 6 7 1024 0 0 1) (h6 : bm_AI B 6 = fun _ => 0) : KI B 5 1 6 7 1024 1 [tz] (fun _ => False) := by
  have no : ∀ (u : Nat) (A : Tm), 0 < u → [tz][u]? = some A → False := fun u A hu hA => by
    have := (List.getElem?_eq_some_iff.mp hA).1
    simp at this; omega
  refine ⟨[], fun _ => 0, fun u A i hu hA _ => absurd hA (fun q => no u A hu q), ⟨h, fun i u q => by simp at q, ⟨List.nodup_nil, fun u q => by simp at q⟩, fun u _ => ?_, fun v _ _ => ?_, fun e h1 h2 => absurd h1 (by omega), by decide⟩, by decide, fun v q => by simp at q, ⟨fun u A h1 h2 => absurd h1 (by omega), fun u A q => by simp at q, fun u A q => by simp at q, fun u A q => by simp at q, fun u A q => by simp at q⟩, fun x q => q.elim⟩
  · rw [h6]; simp
  · rw [h6]
    simp [ul]
    rfl
theorem or_0 {m n : Nat} (h0 : n = m + 1 + 1) : n = m + 2 := by omega
theorem or_1 {m n : Nat} (h0 : n = m) : n ≤ m := by omega
theorem or_2 {m n : Nat} (h0 : n = m + 2 + 1) : n = m + 3 := by omega
theorem or_3 {m : Nat} : m ≤ m + 0 := by omega
theorem or_4 {m : Nat} : m + 0 < m + 3 := by omega
theorem or_5 {m : Nat} : m ≤ m + 1 := by omega
theorem or_6 {m : Nat} : m + 1 < m + 3 := by omega
theorem or_7 {m : Nat} : m ≤ m + 2 := by omega
theorem or_8 {m : Nat} : m + 2 < m + 3 := by omega
theorem or_9 {m n : Nat} (h0 : n = m + 3) : n = m + 3 := by omega
theorem or_10 {m n : Nat} (h0 : n = m + 3 + 1) : n = m + 4 := by omega
theorem or_11 {m n : Nat} (h0 : n = m + 4 + 1) : n = m + 5 := by omega
theorem or_12 {m n : Nat} (h0 : n = m + 5 + 1) : n = m + 6 := by omega
theorem or_13 {m n : Nat} (h0 : n = m + 6 + 1) : n = m + 7 := by omega
theorem or_14 {m n : Nat} (h0 : n = m + 7 + 1) : n = m + 8 := by omega
theorem or_15 {m : Nat} : ¬ m + 1 = m + 2 := by omega
theorem or_16 {m : Nat} : ¬ m + 3 = m + 2 := by omega
theorem or_17 {m : Nat} : ¬ m + 4 = m + 2 := by omega
theorem or_18 {m : Nat} : ¬ m + 5 = m + 2 := by omega
theorem or_19 {m : Nat} : ¬ m + 6 = m + 2 := by omega
theorem or_20 {m : Nat} : ¬ m + 7 = m + 2 := by omega
theorem or_21 {m n : Nat} (h0 : n = m) : n ≤ m + 2 := by omega
theorem or_22 {m : Nat} : m + 0 < m + 8 := by omega
theorem or_23 {m : Nat} : m + 1 < m + 8 := by omega
theorem or_24 {m : Nat} : m + 2 < m + 8 := by omega
theorem or_25 {m : Nat} : m ≤ m + 3 := by omega
theorem or_26 {m : Nat} : m + 3 < m + 8 := by omega
theorem or_27 {m : Nat} : m ≤ m + 4 := by omega
theorem or_28 {m : Nat} : m + 4 < m + 8 := by omega
theorem or_29 {m : Nat} : m ≤ m + 5 := by omega
theorem or_30 {m : Nat} : m + 5 < m + 8 := by omega
theorem or_31 {m : Nat} : m ≤ m + 6 := by omega
theorem or_32 {m : Nat} : m + 6 < m + 8 := by omega
theorem or_33 {m : Nat} : m ≤ m + 7 := by omega
theorem or_34 {m : Nat} : m + 7 < m + 8 := by omega
theorem or_35 {m n : Nat} (h0 : n = m + 8) : n = m + 8 := by omega
theorem or_36 {m : Nat} : m + 0 < m + 4 := by omega
theorem or_37 {m : Nat} : m + 1 < m + 4 := by omega
theorem or_38 {m : Nat} : m + 2 < m + 4 := by omega
theorem or_39 {m : Nat} : m + 3 < m + 4 := by omega
theorem or_40 {m n : Nat} (h0 : n = m + 4) : n = m + 4 := by omega
theorem or_41 {m : Nat} : m + 3 ≠ m + 2 := by omega
theorem or_42 {m : Nat} : m + 4 ≠ m + 2 := by omega
theorem or_43 {m : Nat} : m + 5 ≠ m + 2 := by omega
theorem or_44 {m : Nat} : m + 2 ≠ m + 5 := by omega
theorem or_45 {m : Nat} : m + 3 ≠ m + 5 := by omega
theorem or_46 {m : Nat} : m + 4 ≠ m + 5 := by omega
theorem or_47 {m n : Nat} (h0 : n = m) : n ≤ m + 5 := by omega
theorem or_48 {m : Nat} : m + 0 < m + 6 := by omega
theorem or_49 {m : Nat} : m + 1 < m + 6 := by omega
theorem or_50 {m : Nat} : m + 2 < m + 6 := by omega
theorem or_51 {m : Nat} : m + 3 < m + 6 := by omega
theorem or_52 {m : Nat} : m + 4 < m + 6 := by omega
theorem or_53 {m : Nat} : m + 5 < m + 6 := by omega
theorem or_54 {m n : Nat} (h0 : n = m + 6) : n = m + 6 := by omega
set_option maxRecDepth 100000 in
theorem i_Wi {sc : tm_X} {d m : Nat} {B0 B1 : bm_H} {Q : bm_H → Prop} (hm : bm_n B0 = m) (h : NwO B0 B1 m 10 4) (kk : ∀ B, Mk (PWi m) 3 1404 10 B0 B m → Q B) : bm_Gv sc (d + 1) 4 [.ref m] B1 Q := by
  have h1 := h.2.1.1
  show bm_G _ _ _ 0 [(0, .ref m)] [] B1 _
  generalize elv : ([(0, .ref m)] : tm_L) = lv
  have l0 : lv.lookup 0 = some (.ref m) := by rw [← elv]; rfl
  clear elv
  refine g_ald (pc' := 1) cd_Wi_init rfl (Or.inr ⟨_, rfl, rfl, rfl⟩) l0 rfl rfl ?_
  refine n_super (pc' := 4) cd_Wi_init rfl rfl rfl rfl ?_
  refine g_ald (pc' := 5) cd_Wi_init rfl (Or.inr ⟨_, rfl, rfl, rfl⟩) l0 rfl rfl ?_
  refine g_k3 (v := 700) (pc' := 8) cd_Wi_init rfl (by decide) rfl ?_
  refine n_int 700 h1 cd_Wi_init rfl rfl (by decide) (by decide) (by decide) (fun B655 h655 => ?_)
  have hf656 := fr0_f h655.1
  have f657_0 := fr_lt hf656 h.2.2.1.1
  have g657_0 := (fr_K hf656 h.2.2.1.1).trans h.2.2.1.2
  have q657_0 : bm_FI B655 10 2 m = 0 := (fr_FI hf656 h.2.2.1.1 (fun q => q) 10 2).trans (h.2.2.2.1 10 2)
  have q657_1 : bm_FI B655 10 3 m = 0 := (fr_FI hf656 h.2.2.1.1 (fun q => q) 10 3).trans (h.2.2.2.1 10 3)
  have hn659 : bm_n B655 = (m + 2) := (or_0 h655.2.1.1)
  have sl660 : bm_sl B655 = bm_sl B0 + 704 := by rw [h655.2.1.2, h.2.1.2]
  have f0661 : fr0 B0 B655 := fr0_trans h.1 h655.1
  refine g_putR (v := some (m + 1)) (c := 10) (k := 0) (pc' := 13) rfl cd_Wi_init rfl rfl rfl rfl (by simp [tm_okV, narrow, fits]) (Or.inr ⟨rfl, rfl, rfl, rfl⟩) rfl (by decide) f657_0 g657_0 ?_
  have z662 : bm_FR (bm_putR B655 10 0 m (some (m + 1))) 10 0 m = some (m + 1) := (by simp [bm_putR, bm_up3, bm_FR])
  have hn664 : bm_n (bm_putR B655 10 0 m (some (m + 1))) = (m + 2) := hn659
  have sl665 : bm_sl (bm_putR B655 10 0 m (some (m + 1))) = bm_sl B0 + 704 := sl660
  have f0666 : fr0 B0 (bm_putR B655 10 0 m (some (m + 1))) := fr0_putR f0661 (or_1 hm)
  refine g_ald (pc' := 14) cd_Wi_init rfl (Or.inr ⟨_, rfl, rfl, rfl⟩) l0 rfl rfl ?_
  refine g_k3 (v := 700) (pc' := 17) cd_Wi_init rfl (by decide) rfl ?_
  refine n_int 700 hn664 cd_Wi_init rfl rfl (by decide) (by decide) (by decide) (fun B667 h667 => ?_)
  have hf668 := fr0_f h667.1
  have f669_0 := fr_lt hf668 f657_0
  have g669_0 := (fr_K hf668 f657_0).trans g657_0
  have f669_1 := fr_lt hf668 h655.2.2.1.1
  have g669_1 := (fr_K hf668 h655.2.2.1.1).trans h655.2.2.1.2.1
  have q669_0 : bm_FI B667 10 2 m = 0 := (fr_FI hf668 f657_0 (fun q => q) 10 2).trans q657_0
  have q669_1 : bm_FI B667 10 3 m = 0 := (fr_FI hf668 f657_0 (fun q => q) 10 3).trans q657_1
  have r669_0 : bm_FR B667 10 0 m = some (m + 1) := (fr_FR hf668 f657_0 (fun q => q) 10 0).trans z662
  have u669_0 : bm_AI B667 (m + 1) = (fun _ => 0) := (fr_AI hf668 h655.2.2.1.1 (fun q => q)).trans h655.2.2.2.1
  have w669_0 : bm_AL B667 (m + 1) = 700 := (fr_AL hf668 h655.2.2.1.1).trans h655.2.2.1.2.2
  have hn671 : bm_n B667 = (m + 3) := (or_2 h667.2.1.1)
  have sl672 : bm_sl B667 = bm_sl B0 + 1404 := by rw [h667.2.1.2, sl665]
  have f0673 : fr0 B0 B667 := fr0_trans f0666 h667.1
  refine g_putR (v := some (m + 2)) (c := 10) (k := 1) (pc' := 22) rfl cd_Wi_init rfl rfl rfl rfl (by simp [tm_okV, narrow, fits]) (Or.inr ⟨rfl, rfl, rfl, rfl⟩) rfl (by decide) f669_0 g669_0 ?_
  have z674 : bm_FR (bm_putR B667 10 1 m (some (m + 2))) 10 1 m = some (m + 2) := (by simp [bm_putR, bm_up3, bm_FR])
  have hn676 : bm_n (bm_putR B667 10 1 m (some (m + 2))) = (m + 3) := hn671
  have sl677 : bm_sl (bm_putR B667 10 1 m (some (m + 2))) = bm_sl B0 + 1404 := sl672
  have f0678 : fr0 B0 (bm_putR B667 10 1 m (some (m + 2))) := fr0_putR f0673 (or_1 hm)
  have z679 : bm_FR (bm_putR B667 10 1 m (some (m + 2))) 10 0 m = some (m + 1) := r669_0
  have z680 : bm_FR (bm_putR B667 10 1 m (some (m + 2))) 10 1 m = some (m + 2) := z674
  have hS : stb (PWi m) m (m + 3) (bm_putR B667 10 1 m (some (m + 2))) := by
    intro B2 g
    have e0 := g (m + 0) or_3 or_4
    have e1 := g (m + 1) or_5 or_6
    have e2 := g (m + 2) or_7 or_8
    intro T hz
    exact ⟨⟨⟨e0.1, ce_K e0 g669_0⟩, ⟨(ce_FR e0 z679), (ce_FR e0 z680)⟩, ⟨e1.1, ce_K e1 g669_1, ce_AL e1 w669_0⟩, ⟨e2.1, ce_K e2 h667.2.2.1.2.1, ce_AL e2 h667.2.2.1.2.2⟩⟩, ⟨(ce_FI e0 q669_0), (ce_FI e0 q669_1), by decide⟩, fun i e he => by simp at he, fun i e he => by simp at he⟩
  exact g_retv cd_Wi_init rfl ⟨rfl, kk _ ⟨f0678, ⟨(or_9 hn676), sl677⟩, hS, f669_0, g669_0⟩⟩
set_option maxRecDepth 100000 in
theorem i_Le {sc : tm_X} {d m : Nat} {B0 B1 : bm_H} {Q : bm_H → Prop} (hm : bm_n B0 = m) (h : NwO B0 B1 m 4 15) (kk : ∀ B, Mk (PLe m) 8 10045 4 B0 B m → Q B) : bm_Gv sc (d + 2) 5 [.ref m] B1 Q := by
  have h1 := h.2.1.1
  show bm_G _ _ _ 0 [(0, .ref m)] [] B1 _
  generalize elv : ([(0, .ref m)] : tm_L) = lv
  have l0 : lv.lookup 0 = some (.ref m) := by rw [← elv]; rfl
  clear elv
  refine g_ald (pc' := 1) cd_Le_init rfl (Or.inr ⟨_, rfl, rfl, rfl⟩) l0 rfl rfl ?_
  refine n_super (pc' := 4) cd_Le_init rfl rfl rfl rfl ?_
  refine g_ald (pc' := 5) cd_Le_init rfl (Or.inr ⟨_, rfl, rfl, rfl⟩) l0 rfl rfl ?_
  refine g_k3 (v := 7000) (pc' := 8) cd_Le_init rfl (by decide) rfl ?_
  refine n_int 7000 h1 cd_Le_init rfl rfl (by decide) (by decide) (by decide) (fun B681 h681 => ?_)
  have hf682 := fr0_f h681.1
  have f683_0 := fr_lt hf682 h.2.2.1.1
  have g683_0 := (fr_K hf682 h.2.2.1.1).trans h.2.2.1.2
  have q683_0 : bm_FI B681 4 7 m = 0 := (fr_FI hf682 h.2.2.1.1 (fun q => q) 4 7).trans (h.2.2.2.1 4 7)
  have q683_1 : bm_FI B681 4 8 m = 0 := (fr_FI hf682 h.2.2.1.1 (fun q => q) 4 8).trans (h.2.2.2.1 4 8)
  have q683_2 : bm_FI B681 4 9 m = 0 := (fr_FI hf682 h.2.2.1.1 (fun q => q) 4 9).trans (h.2.2.2.1 4 9)
  have q683_3 : bm_FI B681 4 10 m = 0 := (fr_FI hf682 h.2.2.1.1 (fun q => q) 4 10).trans (h.2.2.2.1 4 10)
  have q683_4 : bm_FI B681 4 11 m = 0 := (fr_FI hf682 h.2.2.1.1 (fun q => q) 4 11).trans (h.2.2.2.1 4 11)
  have q683_5 : bm_FI B681 4 12 m = 0 := (fr_FI hf682 h.2.2.1.1 (fun q => q) 4 12).trans (h.2.2.2.1 4 12)
  have q683_6 : bm_FI B681 4 13 m = 0 := (fr_FI hf682 h.2.2.1.1 (fun q => q) 4 13).trans (h.2.2.2.1 4 13)
  have q683_7 : bm_FI B681 4 14 m = 0 := (fr_FI hf682 h.2.2.1.1 (fun q => q) 4 14).trans (h.2.2.2.1 4 14)
  have hn685 : bm_n B681 = (m + 2) := (or_0 h681.2.1.1)
  have sl686 : bm_sl B681 = bm_sl B0 + 7015 := by rw [h681.2.1.2, h.2.1.2]
  have f0687 : fr0 B0 B681 := fr0_trans h.1 h681.1
  refine g_putR (v := some (m + 1)) (c := 4) (k := 0) (pc' := 13) rfl cd_Le_init rfl rfl rfl rfl (by simp [tm_okV, narrow, fits]) (Or.inr ⟨rfl, rfl, rfl, rfl⟩) rfl (by decide) f683_0 g683_0 ?_
  have z688 : bm_FR (bm_putR B681 4 0 m (some (m + 1))) 4 0 m = some (m + 1) := (by simp [bm_putR, bm_up3, bm_FR])
  have hn690 : bm_n (bm_putR B681 4 0 m (some (m + 1))) = (m + 2) := hn685
  have sl691 : bm_sl (bm_putR B681 4 0 m (some (m + 1))) = bm_sl B0 + 7015 := sl686
  have f0692 : fr0 B0 (bm_putR B681 4 0 m (some (m + 1))) := fr0_putR f0687 (or_1 hm)
  refine g_ald (pc' := 14) cd_Le_init rfl (Or.inr ⟨_, rfl, rfl, rfl⟩) l0 rfl rfl ?_
  refine g_k3 (v := 3000) (pc' := 17) cd_Le_init rfl (by decide) rfl ?_
  refine n_int 3000 hn690 cd_Le_init rfl rfl (by decide) (by decide) (by decide) (fun B693 h693 => ?_)
  have hf694 := fr0_f h693.1
  have f695_0 := fr_lt hf694 f683_0
  have g695_0 := (fr_K hf694 f683_0).trans g683_0
  have f695_1 := fr_lt hf694 h681.2.2.1.1
  have g695_1 := (fr_K hf694 h681.2.2.1.1).trans h681.2.2.1.2.1
  have q695_0 : bm_FI B693 4 7 m = 0 := (fr_FI hf694 f683_0 (fun q => q) 4 7).trans q683_0
  have q695_1 : bm_FI B693 4 8 m = 0 := (fr_FI hf694 f683_0 (fun q => q) 4 8).trans q683_1
  have q695_2 : bm_FI B693 4 9 m = 0 := (fr_FI hf694 f683_0 (fun q => q) 4 9).trans q683_2
  have q695_3 : bm_FI B693 4 10 m = 0 := (fr_FI hf694 f683_0 (fun q => q) 4 10).trans q683_3
  have q695_4 : bm_FI B693 4 11 m = 0 := (fr_FI hf694 f683_0 (fun q => q) 4 11).trans q683_4
  have q695_5 : bm_FI B693 4 12 m = 0 := (fr_FI hf694 f683_0 (fun q => q) 4 12).trans q683_5
  have q695_6 : bm_FI B693 4 13 m = 0 := (fr_FI hf694 f683_0 (fun q => q) 4 13).trans q683_6
  have q695_7 : bm_FI B693 4 14 m = 0 := (fr_FI hf694 f683_0 (fun q => q) 4 14).trans q683_7
  have r695_0 : bm_FR B693 4 0 m = some (m + 1) := (fr_FR hf694 f683_0 (fun q => q) 4 0).trans z688
  have u695_0 : bm_AI B693 (m + 1) = (fun _ => 0) := (fr_AI hf694 h681.2.2.1.1 (fun q => q)).trans h681.2.2.2.1
  have w695_0 : bm_AL B693 (m + 1) = 7000 := (fr_AL hf694 h681.2.2.1.1).trans h681.2.2.1.2.2
  have hn697 : bm_n B693 = (m + 3) := (or_2 h693.2.1.1)
  have sl698 : bm_sl B693 = bm_sl B0 + 10015 := by rw [h693.2.1.2, sl691]
  have f0699 : fr0 B0 B693 := fr0_trans f0692 h693.1
  refine g_putR (v := some (m + 2)) (c := 4) (k := 1) (pc' := 22) rfl cd_Le_init rfl rfl rfl rfl (by simp [tm_okV, narrow, fits]) (Or.inr ⟨rfl, rfl, rfl, rfl⟩) rfl (by decide) f695_0 g695_0 ?_
  have z700 : bm_FR (bm_putR B693 4 1 m (some (m + 2))) 4 1 m = some (m + 2) := (by simp [bm_putR, bm_up3, bm_FR])
  have hn702 : bm_n (bm_putR B693 4 1 m (some (m + 2))) = (m + 3) := hn697
  have sl703 : bm_sl (bm_putR B693 4 1 m (some (m + 2))) = bm_sl B0 + 10015 := sl698
  have f0704 : fr0 B0 (bm_putR B693 4 1 m (some (m + 2))) := fr0_putR f0699 (or_1 hm)
  refine g_ald (pc' := 23) cd_Le_init rfl (Or.inr ⟨_, rfl, rfl, rfl⟩) l0 rfl rfl ?_
  refine g_k2 (v := 6) (pc' := 25) cd_Le_init rfl (by decide) rfl ?_
  refine n_int 6 hn702 cd_Le_init rfl rfl (by decide) (by decide) (by decide) (fun B705 h705 => ?_)
  have hf706 := fr0_f h705.1
  have f707_0 := fr_lt hf706 f695_0
  have g707_0 := (fr_K hf706 f695_0).trans g695_0
  have f707_1 := fr_lt hf706 f695_1
  have g707_1 := (fr_K hf706 f695_1).trans g695_1
  have f707_2 := fr_lt hf706 h693.2.2.1.1
  have g707_2 := (fr_K hf706 h693.2.2.1.1).trans h693.2.2.1.2.1
  have q707_0 : bm_FI B705 4 7 m = 0 := (fr_FI hf706 f695_0 (fun q => q) 4 7).trans q695_0
  have q707_1 : bm_FI B705 4 8 m = 0 := (fr_FI hf706 f695_0 (fun q => q) 4 8).trans q695_1
  have q707_2 : bm_FI B705 4 9 m = 0 := (fr_FI hf706 f695_0 (fun q => q) 4 9).trans q695_2
  have q707_3 : bm_FI B705 4 10 m = 0 := (fr_FI hf706 f695_0 (fun q => q) 4 10).trans q695_3
  have q707_4 : bm_FI B705 4 11 m = 0 := (fr_FI hf706 f695_0 (fun q => q) 4 11).trans q695_4
  have q707_5 : bm_FI B705 4 12 m = 0 := (fr_FI hf706 f695_0 (fun q => q) 4 12).trans q695_5
  have q707_6 : bm_FI B705 4 13 m = 0 := (fr_FI hf706 f695_0 (fun q => q) 4 13).trans q695_6
  have q707_7 : bm_FI B705 4 14 m = 0 := (fr_FI hf706 f695_0 (fun q => q) 4 14).trans q695_7
  have r707_0 : bm_FR B705 4 0 m = some (m + 1) := (fr_FR hf706 f695_0 (fun q => q) 4 0).trans r695_0
  have r707_1 : bm_FR B705 4 1 m = some (m + 2) := (fr_FR hf706 f695_0 (fun q => q) 4 1).trans z700
  have u707_0 : bm_AI B705 (m + 1) = (fun _ => 0) := (fr_AI hf706 f695_1 (fun q => q)).trans u695_0
  have u707_1 : bm_AI B705 (m + 2) = (fun _ => 0) := (fr_AI hf706 h693.2.2.1.1 (fun q => q)).trans h693.2.2.2.1
  have w707_0 : bm_AL B705 (m + 1) = 7000 := (fr_AL hf706 f695_1).trans w695_0
  have w707_1 : bm_AL B705 (m + 2) = 3000 := (fr_AL hf706 h693.2.2.1.1).trans h693.2.2.1.2.2
  have hn709 : bm_n B705 = (m + 4) := (or_10 h705.2.1.1)
  have sl710 : bm_sl B705 = bm_sl B0 + 10021 := by rw [h705.2.1.2, sl703]
  have f0711 : fr0 B0 B705 := fr0_trans f0704 h705.1
  refine g_putR (v := some (m + 3)) (c := 4) (k := 2) (pc' := 30) rfl cd_Le_init rfl rfl rfl rfl (by simp [tm_okV, narrow, fits]) (Or.inr ⟨rfl, rfl, rfl, rfl⟩) rfl (by decide) f707_0 g707_0 ?_
  have z712 : bm_FR (bm_putR B705 4 2 m (some (m + 3))) 4 2 m = some (m + 3) := (by simp [bm_putR, bm_up3, bm_FR])
  have hn714 : bm_n (bm_putR B705 4 2 m (some (m + 3))) = (m + 4) := hn709
  have sl715 : bm_sl (bm_putR B705 4 2 m (some (m + 3))) = bm_sl B0 + 10021 := sl710
  have f0716 : fr0 B0 (bm_putR B705 4 2 m (some (m + 3))) := fr0_putR f0711 (or_1 hm)
  refine g_ald (pc' := 31) cd_Le_init rfl (Or.inr ⟨_, rfl, rfl, rfl⟩) l0 rfl rfl ?_
  refine g_k2 (v := 6) (pc' := 33) cd_Le_init rfl (by decide) rfl ?_
  refine n_int 6 hn714 cd_Le_init rfl rfl (by decide) (by decide) (by decide) (fun B717 h717 => ?_)
  have hf718 := fr0_f h717.1
  have f719_0 := fr_lt hf718 f707_0
  have g719_0 := (fr_K hf718 f707_0).trans g707_0
  have f719_1 := fr_lt hf718 f707_1
  have g719_1 := (fr_K hf718 f707_1).trans g707_1
  have f719_2 := fr_lt hf718 f707_2
  have g719_2 := (fr_K hf718 f707_2).trans g707_2
  have f719_3 := fr_lt hf718 h705.2.2.1.1
  have g719_3 := (fr_K hf718 h705.2.2.1.1).trans h705.2.2.1.2.1
  have q719_0 : bm_FI B717 4 7 m = 0 := (fr_FI hf718 f707_0 (fun q => q) 4 7).trans q707_0
  have q719_1 : bm_FI B717 4 8 m = 0 := (fr_FI hf718 f707_0 (fun q => q) 4 8).trans q707_1
  have q719_2 : bm_FI B717 4 9 m = 0 := (fr_FI hf718 f707_0 (fun q => q) 4 9).trans q707_2
  have q719_3 : bm_FI B717 4 10 m = 0 := (fr_FI hf718 f707_0 (fun q => q) 4 10).trans q707_3
  have q719_4 : bm_FI B717 4 11 m = 0 := (fr_FI hf718 f707_0 (fun q => q) 4 11).trans q707_4
  have q719_5 : bm_FI B717 4 12 m = 0 := (fr_FI hf718 f707_0 (fun q => q) 4 12).trans q707_5
  have q719_6 : bm_FI B717 4 13 m = 0 := (fr_FI hf718 f707_0 (fun q => q) 4 13).trans q707_6
  have q719_7 : bm_FI B717 4 14 m = 0 := (fr_FI hf718 f707_0 (fun q => q) 4 14).trans q707_7
  have r719_0 : bm_FR B717 4 0 m = some (m + 1) := (fr_FR hf718 f707_0 (fun q => q) 4 0).trans r707_0
  have r719_1 : bm_FR B717 4 1 m = some (m + 2) := (fr_FR hf718 f707_0 (fun q => q) 4 1).trans r707_1
  have r719_2 : bm_FR B717 4 2 m = some (m + 3) := (fr_FR hf718 f707_0 (fun q => q) 4 2).trans z712
  have u719_0 : bm_AI B717 (m + 1) = (fun _ => 0) := (fr_AI hf718 f707_1 (fun q => q)).trans u707_0
  have u719_1 : bm_AI B717 (m + 2) = (fun _ => 0) := (fr_AI hf718 f707_2 (fun q => q)).trans u707_1
  have u719_2 : bm_AI B717 (m + 3) = (fun _ => 0) := (fr_AI hf718 h705.2.2.1.1 (fun q => q)).trans h705.2.2.2.1
  have w719_0 : bm_AL B717 (m + 1) = 7000 := (fr_AL hf718 f707_1).trans w707_0
  have w719_1 : bm_AL B717 (m + 2) = 3000 := (fr_AL hf718 f707_2).trans w707_1
  have w719_2 : bm_AL B717 (m + 3) = 6 := (fr_AL hf718 h705.2.2.1.1).trans h705.2.2.1.2.2
  have hn721 : bm_n B717 = (m + 5) := (or_11 h717.2.1.1)
  have sl722 : bm_sl B717 = bm_sl B0 + 10027 := by rw [h717.2.1.2, sl715]
  have f0723 : fr0 B0 B717 := fr0_trans f0716 h717.1
  refine g_putR (v := some (m + 4)) (c := 4) (k := 3) (pc' := 38) rfl cd_Le_init rfl rfl rfl rfl (by simp [tm_okV, narrow, fits]) (Or.inr ⟨rfl, rfl, rfl, rfl⟩) rfl (by decide) f719_0 g719_0 ?_
  have z724 : bm_FR (bm_putR B717 4 3 m (some (m + 4))) 4 3 m = some (m + 4) := (by simp [bm_putR, bm_up3, bm_FR])
  have hn726 : bm_n (bm_putR B717 4 3 m (some (m + 4))) = (m + 5) := hn721
  have sl727 : bm_sl (bm_putR B717 4 3 m (some (m + 4))) = bm_sl B0 + 10027 := sl722
  have f0728 : fr0 B0 (bm_putR B717 4 3 m (some (m + 4))) := fr0_putR f0723 (or_1 hm)
  refine g_ald (pc' := 39) cd_Le_init rfl (Or.inr ⟨_, rfl, rfl, rfl⟩) l0 rfl rfl ?_
  refine g_k2 (v := 6) (pc' := 41) cd_Le_init rfl (by decide) rfl ?_
  refine n_int 6 hn726 cd_Le_init rfl rfl (by decide) (by decide) (by decide) (fun B729 h729 => ?_)
  have hf730 := fr0_f h729.1
  have f731_0 := fr_lt hf730 f719_0
  have g731_0 := (fr_K hf730 f719_0).trans g719_0
  have f731_1 := fr_lt hf730 f719_1
  have g731_1 := (fr_K hf730 f719_1).trans g719_1
  have f731_2 := fr_lt hf730 f719_2
  have g731_2 := (fr_K hf730 f719_2).trans g719_2
  have f731_3 := fr_lt hf730 f719_3
  have g731_3 := (fr_K hf730 f719_3).trans g719_3
  have f731_4 := fr_lt hf730 h717.2.2.1.1
  have g731_4 := (fr_K hf730 h717.2.2.1.1).trans h717.2.2.1.2.1
  have q731_0 : bm_FI B729 4 7 m = 0 := (fr_FI hf730 f719_0 (fun q => q) 4 7).trans q719_0
  have q731_1 : bm_FI B729 4 8 m = 0 := (fr_FI hf730 f719_0 (fun q => q) 4 8).trans q719_1
  have q731_2 : bm_FI B729 4 9 m = 0 := (fr_FI hf730 f719_0 (fun q => q) 4 9).trans q719_2
  have q731_3 : bm_FI B729 4 10 m = 0 := (fr_FI hf730 f719_0 (fun q => q) 4 10).trans q719_3
  have q731_4 : bm_FI B729 4 11 m = 0 := (fr_FI hf730 f719_0 (fun q => q) 4 11).trans q719_4
  have q731_5 : bm_FI B729 4 12 m = 0 := (fr_FI hf730 f719_0 (fun q => q) 4 12).trans q719_5
  have q731_6 : bm_FI B729 4 13 m = 0 := (fr_FI hf730 f719_0 (fun q => q) 4 13).trans q719_6
  have q731_7 : bm_FI B729 4 14 m = 0 := (fr_FI hf730 f719_0 (fun q => q) 4 14).trans q719_7
  have r731_0 : bm_FR B729 4 0 m = some (m + 1) := (fr_FR hf730 f719_0 (fun q => q) 4 0).trans r719_0
  have r731_1 : bm_FR B729 4 1 m = some (m + 2) := (fr_FR hf730 f719_0 (fun q => q) 4 1).trans r719_1
  have r731_2 : bm_FR B729 4 2 m = some (m + 3) := (fr_FR hf730 f719_0 (fun q => q) 4 2).trans r719_2
  have r731_3 : bm_FR B729 4 3 m = some (m + 4) := (fr_FR hf730 f719_0 (fun q => q) 4 3).trans z724
  have u731_0 : bm_AI B729 (m + 1) = (fun _ => 0) := (fr_AI hf730 f719_1 (fun q => q)).trans u719_0
  have u731_1 : bm_AI B729 (m + 2) = (fun _ => 0) := (fr_AI hf730 f719_2 (fun q => q)).trans u719_1
  have u731_2 : bm_AI B729 (m + 3) = (fun _ => 0) := (fr_AI hf730 f719_3 (fun q => q)).trans u719_2
  have u731_3 : bm_AI B729 (m + 4) = (fun _ => 0) := (fr_AI hf730 h717.2.2.1.1 (fun q => q)).trans h717.2.2.2.1
  have w731_0 : bm_AL B729 (m + 1) = 7000 := (fr_AL hf730 f719_1).trans w719_0
  have w731_1 : bm_AL B729 (m + 2) = 3000 := (fr_AL hf730 f719_2).trans w719_1
  have w731_2 : bm_AL B729 (m + 3) = 6 := (fr_AL hf730 f719_3).trans w719_2
  have w731_3 : bm_AL B729 (m + 4) = 6 := (fr_AL hf730 h717.2.2.1.1).trans h717.2.2.1.2.2
  have hn733 : bm_n B729 = (m + 6) := (or_12 h729.2.1.1)
  have sl734 : bm_sl B729 = bm_sl B0 + 10033 := by rw [h729.2.1.2, sl727]
  have f0735 : fr0 B0 B729 := fr0_trans f0728 h729.1
  refine g_putR (v := some (m + 5)) (c := 4) (k := 4) (pc' := 46) rfl cd_Le_init rfl rfl rfl rfl (by simp [tm_okV, narrow, fits]) (Or.inr ⟨rfl, rfl, rfl, rfl⟩) rfl (by decide) f731_0 g731_0 ?_
  have z736 : bm_FR (bm_putR B729 4 4 m (some (m + 5))) 4 4 m = some (m + 5) := (by simp [bm_putR, bm_up3, bm_FR])
  have hn738 : bm_n (bm_putR B729 4 4 m (some (m + 5))) = (m + 6) := hn733
  have sl739 : bm_sl (bm_putR B729 4 4 m (some (m + 5))) = bm_sl B0 + 10033 := sl734
  have f0740 : fr0 B0 (bm_putR B729 4 4 m (some (m + 5))) := fr0_putR f0735 (or_1 hm)
  refine g_ald (pc' := 47) cd_Le_init rfl (Or.inr ⟨_, rfl, rfl, rfl⟩) l0 rfl rfl ?_
  refine g_k2 (v := 6) (pc' := 49) cd_Le_init rfl (by decide) rfl ?_
  refine n_int 6 hn738 cd_Le_init rfl rfl (by decide) (by decide) (by decide) (fun B741 h741 => ?_)
  have hf742 := fr0_f h741.1
  have f743_0 := fr_lt hf742 f731_0
  have g743_0 := (fr_K hf742 f731_0).trans g731_0
  have f743_1 := fr_lt hf742 f731_1
  have g743_1 := (fr_K hf742 f731_1).trans g731_1
  have f743_2 := fr_lt hf742 f731_2
  have g743_2 := (fr_K hf742 f731_2).trans g731_2
  have f743_3 := fr_lt hf742 f731_3
  have g743_3 := (fr_K hf742 f731_3).trans g731_3
  have f743_4 := fr_lt hf742 f731_4
  have g743_4 := (fr_K hf742 f731_4).trans g731_4
  have f743_5 := fr_lt hf742 h729.2.2.1.1
  have g743_5 := (fr_K hf742 h729.2.2.1.1).trans h729.2.2.1.2.1
  have q743_0 : bm_FI B741 4 7 m = 0 := (fr_FI hf742 f731_0 (fun q => q) 4 7).trans q731_0
  have q743_1 : bm_FI B741 4 8 m = 0 := (fr_FI hf742 f731_0 (fun q => q) 4 8).trans q731_1
  have q743_2 : bm_FI B741 4 9 m = 0 := (fr_FI hf742 f731_0 (fun q => q) 4 9).trans q731_2
  have q743_3 : bm_FI B741 4 10 m = 0 := (fr_FI hf742 f731_0 (fun q => q) 4 10).trans q731_3
  have q743_4 : bm_FI B741 4 11 m = 0 := (fr_FI hf742 f731_0 (fun q => q) 4 11).trans q731_4
  have q743_5 : bm_FI B741 4 12 m = 0 := (fr_FI hf742 f731_0 (fun q => q) 4 12).trans q731_5
  have q743_6 : bm_FI B741 4 13 m = 0 := (fr_FI hf742 f731_0 (fun q => q) 4 13).trans q731_6
  have q743_7 : bm_FI B741 4 14 m = 0 := (fr_FI hf742 f731_0 (fun q => q) 4 14).trans q731_7
  have r743_0 : bm_FR B741 4 0 m = some (m + 1) := (fr_FR hf742 f731_0 (fun q => q) 4 0).trans r731_0
  have r743_1 : bm_FR B741 4 1 m = some (m + 2) := (fr_FR hf742 f731_0 (fun q => q) 4 1).trans r731_1
  have r743_2 : bm_FR B741 4 2 m = some (m + 3) := (fr_FR hf742 f731_0 (fun q => q) 4 2).trans r731_2
  have r743_3 : bm_FR B741 4 3 m = some (m + 4) := (fr_FR hf742 f731_0 (fun q => q) 4 3).trans r731_3
  have r743_4 : bm_FR B741 4 4 m = some (m + 5) := (fr_FR hf742 f731_0 (fun q => q) 4 4).trans z736
  have u743_0 : bm_AI B741 (m + 1) = (fun _ => 0) := (fr_AI hf742 f731_1 (fun q => q)).trans u731_0
  have u743_1 : bm_AI B741 (m + 2) = (fun _ => 0) := (fr_AI hf742 f731_2 (fun q => q)).trans u731_1
  have u743_2 : bm_AI B741 (m + 3) = (fun _ => 0) := (fr_AI hf742 f731_3 (fun q => q)).trans u731_2
  have u743_3 : bm_AI B741 (m + 4) = (fun _ => 0) := (fr_AI hf742 f731_4 (fun q => q)).trans u731_3
  have u743_4 : bm_AI B741 (m + 5) = (fun _ => 0) := (fr_AI hf742 h729.2.2.1.1 (fun q => q)).trans h729.2.2.2.1
  have w743_0 : bm_AL B741 (m + 1) = 7000 := (fr_AL hf742 f731_1).trans w731_0
  have w743_1 : bm_AL B741 (m + 2) = 3000 := (fr_AL hf742 f731_2).trans w731_1
  have w743_2 : bm_AL B741 (m + 3) = 6 := (fr_AL hf742 f731_3).trans w731_2
  have w743_3 : bm_AL B741 (m + 4) = 6 := (fr_AL hf742 f731_4).trans w731_3
  have w743_4 : bm_AL B741 (m + 5) = 6 := (fr_AL hf742 h729.2.2.1.1).trans h729.2.2.1.2.2
  have hn745 : bm_n B741 = (m + 7) := (or_13 h741.2.1.1)
  have sl746 : bm_sl B741 = bm_sl B0 + 10039 := by rw [h741.2.1.2, sl739]
  have f0747 : fr0 B0 B741 := fr0_trans f0740 h741.1
  refine g_putR (v := some (m + 6)) (c := 4) (k := 5) (pc' := 54) rfl cd_Le_init rfl rfl rfl rfl (by simp [tm_okV, narrow, fits]) (Or.inr ⟨rfl, rfl, rfl, rfl⟩) rfl (by decide) f743_0 g743_0 ?_
  have z748 : bm_FR (bm_putR B741 4 5 m (some (m + 6))) 4 5 m = some (m + 6) := (by simp [bm_putR, bm_up3, bm_FR])
  have hn750 : bm_n (bm_putR B741 4 5 m (some (m + 6))) = (m + 7) := hn745
  have sl751 : bm_sl (bm_putR B741 4 5 m (some (m + 6))) = bm_sl B0 + 10039 := sl746
  have f0752 : fr0 B0 (bm_putR B741 4 5 m (some (m + 6))) := fr0_putR f0747 (or_1 hm)
  refine g_ald (pc' := 55) cd_Le_init rfl (Or.inr ⟨_, rfl, rfl, rfl⟩) l0 rfl rfl ?_
  refine g_k2 (v := 6) (pc' := 57) cd_Le_init rfl (by decide) rfl ?_
  refine n_int 6 hn750 cd_Le_init rfl rfl (by decide) (by decide) (by decide) (fun B753 h753 => ?_)
  have hf754 := fr0_f h753.1
  have f755_0 := fr_lt hf754 f743_0
  have g755_0 := (fr_K hf754 f743_0).trans g743_0
  have f755_1 := fr_lt hf754 f743_1
  have g755_1 := (fr_K hf754 f743_1).trans g743_1
  have f755_2 := fr_lt hf754 f743_2
  have g755_2 := (fr_K hf754 f743_2).trans g743_2
  have f755_3 := fr_lt hf754 f743_3
  have g755_3 := (fr_K hf754 f743_3).trans g743_3
  have f755_4 := fr_lt hf754 f743_4
  have g755_4 := (fr_K hf754 f743_4).trans g743_4
  have f755_5 := fr_lt hf754 f743_5
  have g755_5 := (fr_K hf754 f743_5).trans g743_5
  have f755_6 := fr_lt hf754 h741.2.2.1.1
  have g755_6 := (fr_K hf754 h741.2.2.1.1).trans h741.2.2.1.2.1
  have q755_0 : bm_FI B753 4 7 m = 0 := (fr_FI hf754 f743_0 (fun q => q) 4 7).trans q743_0
  have q755_1 : bm_FI B753 4 8 m = 0 := (fr_FI hf754 f743_0 (fun q => q) 4 8).trans q743_1
  have q755_2 : bm_FI B753 4 9 m = 0 := (fr_FI hf754 f743_0 (fun q => q) 4 9).trans q743_2
  have q755_3 : bm_FI B753 4 10 m = 0 := (fr_FI hf754 f743_0 (fun q => q) 4 10).trans q743_3
  have q755_4 : bm_FI B753 4 11 m = 0 := (fr_FI hf754 f743_0 (fun q => q) 4 11).trans q743_4
  have q755_5 : bm_FI B753 4 12 m = 0 := (fr_FI hf754 f743_0 (fun q => q) 4 12).trans q743_5
  have q755_6 : bm_FI B753 4 13 m = 0 := (fr_FI hf754 f743_0 (fun q => q) 4 13).trans q743_6
  have q755_7 : bm_FI B753 4 14 m = 0 := (fr_FI hf754 f743_0 (fun q => q) 4 14).trans q743_7
  have r755_0 : bm_FR B753 4 0 m = some (m + 1) := (fr_FR hf754 f743_0 (fun q => q) 4 0).trans r743_0
  have r755_1 : bm_FR B753 4 1 m = some (m + 2) := (fr_FR hf754 f743_0 (fun q => q) 4 1).trans r743_1
  have r755_2 : bm_FR B753 4 2 m = some (m + 3) := (fr_FR hf754 f743_0 (fun q => q) 4 2).trans r743_2
  have r755_3 : bm_FR B753 4 3 m = some (m + 4) := (fr_FR hf754 f743_0 (fun q => q) 4 3).trans r743_3
  have r755_4 : bm_FR B753 4 4 m = some (m + 5) := (fr_FR hf754 f743_0 (fun q => q) 4 4).trans r743_4
  have r755_5 : bm_FR B753 4 5 m = some (m + 6) := (fr_FR hf754 f743_0 (fun q => q) 4 5).trans z748
  have u755_0 : bm_AI B753 (m + 1) = (fun _ => 0) := (fr_AI hf754 f743_1 (fun q => q)).trans u743_0
  have u755_1 : bm_AI B753 (m + 2) = (fun _ => 0) := (fr_AI hf754 f743_2 (fun q => q)).trans u743_1
  have u755_2 : bm_AI B753 (m + 3) = (fun _ => 0) := (fr_AI hf754 f743_3 (fun q => q)).trans u743_2
  have u755_3 : bm_AI B753 (m + 4) = (fun _ => 0) := (fr_AI hf754 f743_4 (fun q => q)).trans u743_3
  have u755_4 : bm_AI B753 (m + 5) = (fun _ => 0) := (fr_AI hf754 f743_5 (fun q => q)).trans u743_4
  have u755_5 : bm_AI B753 (m + 6) = (fun _ => 0) := (fr_AI hf754 h741.2.2.1.1 (fun q => q)).trans h741.2.2.2.1
  have w755_0 : bm_AL B753 (m + 1) = 7000 := (fr_AL hf754 f743_1).trans w743_0
  have w755_1 : bm_AL B753 (m + 2) = 3000 := (fr_AL hf754 f743_2).trans w743_1
  have w755_2 : bm_AL B753 (m + 3) = 6 := (fr_AL hf754 f743_3).trans w743_2
  have w755_3 : bm_AL B753 (m + 4) = 6 := (fr_AL hf754 f743_4).trans w743_3
  have w755_4 : bm_AL B753 (m + 5) = 6 := (fr_AL hf754 f743_5).trans w743_4
  have w755_5 : bm_AL B753 (m + 6) = 6 := (fr_AL hf754 h741.2.2.1.1).trans h741.2.2.1.2.2
  have hn757 : bm_n B753 = (m + 8) := (or_14 h753.2.1.1)
  have sl758 : bm_sl B753 = bm_sl B0 + 10045 := by rw [h753.2.1.2, sl751]
  have f0759 : fr0 B0 B753 := fr0_trans f0752 h753.1
  refine g_putR (v := some (m + 7)) (c := 4) (k := 6) (pc' := 62) rfl cd_Le_init rfl rfl rfl rfl (by simp [tm_okV, narrow, fits]) (Or.inr ⟨rfl, rfl, rfl, rfl⟩) rfl (by decide) f755_0 g755_0 ?_
  have z760 : bm_FR (bm_putR B753 4 6 m (some (m + 7))) 4 6 m = some (m + 7) := (by simp [bm_putR, bm_up3, bm_FR])
  have hn762 : bm_n (bm_putR B753 4 6 m (some (m + 7))) = (m + 8) := hn757
  have sl763 : bm_sl (bm_putR B753 4 6 m (some (m + 7))) = bm_sl B0 + 10045 := sl758
  have f0764 : fr0 B0 (bm_putR B753 4 6 m (some (m + 7))) := fr0_putR f0759 (or_1 hm)
  refine g_ald (pc' := 63) cd_Le_init rfl (Or.inr ⟨_, rfl, rfl, rfl⟩) l0 rfl rfl ?_
  refine g_fR (c := 4) (k := 1) (x := (m + 2)) (pc' := 66) cd_Le_init rfl rfl rfl rfl rfl (by decide) f755_0 g755_0 r755_1 ?_
  refine g_k1 (v := (-1)) (pc' := 67) cd_Le_init rfl (by decide) rfl ?_
  refine g_callv (pc' := 70) cd_Le_init rfl rfl rfl rfl rfl (tm_invS rfl rfl cd_Ar_fill rfl (Nat.le_of_ble_eq_true rfl)) (k_Ar_fill f755_2 g755_2 (by rw [show bm_AL (bm_putR B753 4 6 m (some (m + 7))) (m + 2) = 3000 from w755_1]; decide) ?_)
  have z765 : bm_FR (bm_putR B753 4 6 m (some (m + 7))) 4 0 m = some (m + 1) := r755_0
  have z766 : bm_FR (bm_putR B753 4 6 m (some (m + 7))) 4 1 m = some (m + 2) := r755_1
  have z767 : bm_FR (bm_putR B753 4 6 m (some (m + 7))) 4 2 m = some (m + 3) := r755_2
  have z768 : bm_FR (bm_putR B753 4 6 m (some (m + 7))) 4 3 m = some (m + 4) := r755_3
  have z769 : bm_FR (bm_putR B753 4 6 m (some (m + 7))) 4 4 m = some (m + 5) := r755_4
  have z770 : bm_FR (bm_putR B753 4 6 m (some (m + 7))) 4 5 m = some (m + 6) := r755_5
  have z771 : bm_FR (bm_putR B753 4 6 m (some (m + 7))) 4 6 m = some (m + 7) := z760
  have hb772 : bm_AI (bm_allI (bm_putR B753 4 6 m (some (m + 7))) (m + 2) (fun q => if q < bm_AL (bm_putR B753 4 6 m (some (m + 7))) (m + 2) then (-1) else bm_AI (bm_putR B753 4 6 m (some (m + 7))) (m + 2) q)) (m + 2) = eBd := by
    refine (funext fun q => (if_pos rfl).trans ?_)
    rw [show bm_AL (bm_putR B753 4 6 m (some (m + 7))) (m + 2) = 3000 from w755_1, show bm_AI (bm_putR B753 4 6 m (some (m + 7))) (m + 2) = _ from u755_1]
    rfl
  have hz772_m1 : bm_AI (bm_allI (bm_putR B753 4 6 m (some (m + 7))) (m + 2) (fun q => if q < bm_AL (bm_putR B753 4 6 m (some (m + 7))) (m + 2) then (-1) else bm_AI (bm_putR B753 4 6 m (some (m + 7))) (m + 2) q)) (m + 1) = (fun _ => 0) := (funext fun q => if_neg or_15).trans u755_0
  have hz772_m3 : bm_AI (bm_allI (bm_putR B753 4 6 m (some (m + 7))) (m + 2) (fun q => if q < bm_AL (bm_putR B753 4 6 m (some (m + 7))) (m + 2) then (-1) else bm_AI (bm_putR B753 4 6 m (some (m + 7))) (m + 2) q)) (m + 3) = (fun _ => 0) := (funext fun q => if_neg or_16).trans u755_2
  have hz772_m4 : bm_AI (bm_allI (bm_putR B753 4 6 m (some (m + 7))) (m + 2) (fun q => if q < bm_AL (bm_putR B753 4 6 m (some (m + 7))) (m + 2) then (-1) else bm_AI (bm_putR B753 4 6 m (some (m + 7))) (m + 2) q)) (m + 4) = (fun _ => 0) := (funext fun q => if_neg or_17).trans u755_3
  have hz772_m5 : bm_AI (bm_allI (bm_putR B753 4 6 m (some (m + 7))) (m + 2) (fun q => if q < bm_AL (bm_putR B753 4 6 m (some (m + 7))) (m + 2) then (-1) else bm_AI (bm_putR B753 4 6 m (some (m + 7))) (m + 2) q)) (m + 5) = (fun _ => 0) := (funext fun q => if_neg or_18).trans u755_4
  have hz772_m6 : bm_AI (bm_allI (bm_putR B753 4 6 m (some (m + 7))) (m + 2) (fun q => if q < bm_AL (bm_putR B753 4 6 m (some (m + 7))) (m + 2) then (-1) else bm_AI (bm_putR B753 4 6 m (some (m + 7))) (m + 2) q)) (m + 6) = (fun _ => 0) := (funext fun q => if_neg or_19).trans u755_5
  have hz772_m7 : bm_AI (bm_allI (bm_putR B753 4 6 m (some (m + 7))) (m + 2) (fun q => if q < bm_AL (bm_putR B753 4 6 m (some (m + 7))) (m + 2) then (-1) else bm_AI (bm_putR B753 4 6 m (some (m + 7))) (m + 2) q)) (m + 7) = (fun _ => 0) := (funext fun q => if_neg or_20).trans h753.2.2.2.1
  have hn773 : bm_n (bm_allI (bm_putR B753 4 6 m (some (m + 7))) (m + 2) (fun q => if q < bm_AL (bm_putR B753 4 6 m (some (m + 7))) (m + 2) then (-1) else bm_AI (bm_putR B753 4 6 m (some (m + 7))) (m + 2) q)) = (m + 8) := hn762
  have sl774 : bm_sl (bm_allI (bm_putR B753 4 6 m (some (m + 7))) (m + 2) (fun q => if q < bm_AL (bm_putR B753 4 6 m (some (m + 7))) (m + 2) then (-1) else bm_AI (bm_putR B753 4 6 m (some (m + 7))) (m + 2) q)) = bm_sl B0 + 10045 := sl763
  have f0775 : fr0 B0 (bm_allI (bm_putR B753 4 6 m (some (m + 7))) (m + 2) (fun q => if q < bm_AL (bm_putR B753 4 6 m (some (m + 7))) (m + 2) then (-1) else bm_AI (bm_putR B753 4 6 m (some (m + 7))) (m + 2) q)) := fr0_allI f0764 (or_21 hm)
  show bm_G _ _ _ 70 _ [] (bm_allI (bm_putR B753 4 6 m (some (m + 7))) (m + 2) (fun q => if q < bm_AL (bm_putR B753 4 6 m (some (m + 7))) (m + 2) then (-1) else bm_AI (bm_putR B753 4 6 m (some (m + 7))) (m + 2) q)) _
  have z776 : bm_FR (bm_allI (bm_putR B753 4 6 m (some (m + 7))) (m + 2) (fun q => if q < bm_AL (bm_putR B753 4 6 m (some (m + 7))) (m + 2) then (-1) else bm_AI (bm_putR B753 4 6 m (some (m + 7))) (m + 2) q)) 4 0 m = some (m + 1) := z765
  have z777 : bm_FR (bm_allI (bm_putR B753 4 6 m (some (m + 7))) (m + 2) (fun q => if q < bm_AL (bm_putR B753 4 6 m (some (m + 7))) (m + 2) then (-1) else bm_AI (bm_putR B753 4 6 m (some (m + 7))) (m + 2) q)) 4 1 m = some (m + 2) := z766
  have z778 : bm_FR (bm_allI (bm_putR B753 4 6 m (some (m + 7))) (m + 2) (fun q => if q < bm_AL (bm_putR B753 4 6 m (some (m + 7))) (m + 2) then (-1) else bm_AI (bm_putR B753 4 6 m (some (m + 7))) (m + 2) q)) 4 2 m = some (m + 3) := z767
  have z779 : bm_FR (bm_allI (bm_putR B753 4 6 m (some (m + 7))) (m + 2) (fun q => if q < bm_AL (bm_putR B753 4 6 m (some (m + 7))) (m + 2) then (-1) else bm_AI (bm_putR B753 4 6 m (some (m + 7))) (m + 2) q)) 4 3 m = some (m + 4) := z768
  have z780 : bm_FR (bm_allI (bm_putR B753 4 6 m (some (m + 7))) (m + 2) (fun q => if q < bm_AL (bm_putR B753 4 6 m (some (m + 7))) (m + 2) then (-1) else bm_AI (bm_putR B753 4 6 m (some (m + 7))) (m + 2) q)) 4 4 m = some (m + 5) := z769
  have z781 : bm_FR (bm_allI (bm_putR B753 4 6 m (some (m + 7))) (m + 2) (fun q => if q < bm_AL (bm_putR B753 4 6 m (some (m + 7))) (m + 2) then (-1) else bm_AI (bm_putR B753 4 6 m (some (m + 7))) (m + 2) q)) 4 5 m = some (m + 6) := z770
  have z782 : bm_FR (bm_allI (bm_putR B753 4 6 m (some (m + 7))) (m + 2) (fun q => if q < bm_AL (bm_putR B753 4 6 m (some (m + 7))) (m + 2) then (-1) else bm_AI (bm_putR B753 4 6 m (some (m + 7))) (m + 2) q)) 4 6 m = some (m + 7) := z771
  have hS : stb (PLe m) m (m + 8) (bm_allI (bm_putR B753 4 6 m (some (m + 7))) (m + 2) (fun q => if q < bm_AL (bm_putR B753 4 6 m (some (m + 7))) (m + 2) then (-1) else bm_AI (bm_putR B753 4 6 m (some (m + 7))) (m + 2) q)) := by
    intro B2 g
    have e0 := g (m + 0) or_3 or_22
    have e1 := g (m + 1) or_5 or_23
    have e2 := g (m + 2) or_7 or_24
    have e3 := g (m + 3) or_25 or_26
    have e4 := g (m + 4) or_27 or_28
    have e5 := g (m + 5) or_29 or_30
    have e6 := g (m + 6) or_31 or_32
    have e7 := g (m + 7) or_33 or_34
    intro hm11 T hz
    subst hm11
    refine ⟨⟨⟨e0.1, ce_K e0 g755_0⟩, ⟨(ce_FR e0 z776), (ce_FR e0 z777), (ce_FR e0 z778), (ce_FR e0 z779), (ce_FR e0 z780), (ce_FR e0 z781), (ce_FR e0 z782)⟩, ⟨e1.1, ce_K e1 g755_1, ce_AL e1 w755_0⟩, ⟨e2.1, ce_K e2 g755_2, ce_AL e2 w755_1⟩, ⟨e3.1, ce_K e3 g755_3, ce_AL e3 w755_2⟩, ⟨e4.1, ce_K e4 g755_4, ce_AL e4 w755_3⟩, ⟨e5.1, ce_K e5 g755_5, ce_AL e5 w755_4⟩, ⟨e6.1, ce_K e6 g755_6, ce_AL e6 w755_5⟩, ⟨e7.1, ce_K e7 h753.2.2.1.2.1, ce_AL e7 h753.2.2.1.2.2⟩⟩, ⟨⟨(ce_FI e0 q755_4), by decide⟩, ⟨(ce_AI e2 hb772), (ce_AI e3 hz772_m3), (ce_AI e4 hz772_m4), (ce_AI e5 hz772_m5), (ce_AI e6 hz772_m6), (ce_AI e7 hz772_m7)⟩, ⟨(ce_FI e0 q755_0), (ce_FI e0 q755_1), tvq (ce_FI e0 q755_2) hz, (ce_FI e0 q755_3)⟩, (ce_FI e0 q755_5), (ce_FI e0 q755_6), (ce_FI e0 q755_7)⟩, fun i e he => by simp [eLG] at he, fun j _ => congrFun (ce_AI e1 hz772_m1) j⟩
  exact g_retv cd_Le_init rfl ⟨rfl, kk _ ⟨f0775, ⟨(or_35 hn773), sl774⟩, hS, f755_0, g755_0⟩⟩
set_option maxRecDepth 100000 in
theorem i_Te {sc : tm_X} {d m : Nat} {B0 B1 : bm_H} {Q : bm_H → Prop} (hm : bm_n B0 = m) (h : NwO B0 B1 m 9 6) (kk : ∀ B, Mk (PTe m) 4 15376 9 B0 B m → Q B) : bm_Gv sc (d + 1) 2 [.ref m] B1 Q := by
  have h1 := h.2.1.1
  show bm_G _ _ _ 0 [(0, .ref m)] [] B1 _
  generalize elv : ([(0, .ref m)] : tm_L) = lv
  have l0 : lv.lookup 0 = some (.ref m) := by rw [← elv]; rfl
  clear elv
  refine g_ald (pc' := 1) cd_Te_init rfl (Or.inr ⟨_, rfl, rfl, rfl⟩) l0 rfl rfl ?_
  refine n_super (pc' := 4) cd_Te_init rfl rfl rfl rfl ?_
  refine g_ald (pc' := 5) cd_Te_init rfl (Or.inr ⟨_, rfl, rfl, rfl⟩) l0 rfl rfl ?_
  refine g_k3 (v := 11264) (pc' := 8) cd_Te_init rfl (by decide) rfl ?_
  refine n_int 11264 h1 cd_Te_init rfl rfl (by decide) (by decide) (by decide) (fun B783 h783 => ?_)
  have hf784 := fr0_f h783.1
  have f785_0 := fr_lt hf784 h.2.2.1.1
  have g785_0 := (fr_K hf784 h.2.2.1.1).trans h.2.2.1.2
  have q785_0 : bm_FI B783 9 3 m = 0 := (fr_FI hf784 h.2.2.1.1 (fun q => q) 9 3).trans (h.2.2.2.1 9 3)
  have q785_1 : bm_FI B783 9 4 m = 0 := (fr_FI hf784 h.2.2.1.1 (fun q => q) 9 4).trans (h.2.2.2.1 9 4)
  have q785_2 : bm_FI B783 9 5 m = 0 := (fr_FI hf784 h.2.2.1.1 (fun q => q) 9 5).trans (h.2.2.2.1 9 5)
  have hn787 : bm_n B783 = (m + 2) := (or_0 h783.2.1.1)
  have sl788 : bm_sl B783 = bm_sl B0 + 11270 := by rw [h783.2.1.2, h.2.1.2]
  have f0789 : fr0 B0 B783 := fr0_trans h.1 h783.1
  refine g_putR (v := some (m + 1)) (c := 9) (k := 0) (pc' := 13) rfl cd_Te_init rfl rfl rfl rfl (by simp [tm_okV, narrow, fits]) (Or.inl rfl) rfl (by decide) f785_0 g785_0 ?_
  have z790 : bm_FR (bm_putR B783 9 0 m (some (m + 1))) 9 0 m = some (m + 1) := (by simp [bm_putR, bm_up3, bm_FR])
  have hn792 : bm_n (bm_putR B783 9 0 m (some (m + 1))) = (m + 2) := hn787
  have sl793 : bm_sl (bm_putR B783 9 0 m (some (m + 1))) = bm_sl B0 + 11270 := sl788
  have f0794 : fr0 B0 (bm_putR B783 9 0 m (some (m + 1))) := fr0_putR f0789 (or_1 hm)
  refine g_ald (pc' := 14) cd_Te_init rfl (Or.inr ⟨_, rfl, rfl, rfl⟩) l0 rfl rfl ?_
  refine g_k3 (v := 4096) (pc' := 17) cd_Te_init rfl (by decide) rfl ?_
  refine n_int 4096 hn792 cd_Te_init rfl rfl (by decide) (by decide) (by decide) (fun B795 h795 => ?_)
  have hf796 := fr0_f h795.1
  have f797_0 := fr_lt hf796 f785_0
  have g797_0 := (fr_K hf796 f785_0).trans g785_0
  have f797_1 := fr_lt hf796 h783.2.2.1.1
  have g797_1 := (fr_K hf796 h783.2.2.1.1).trans h783.2.2.1.2.1
  have q797_0 : bm_FI B795 9 3 m = 0 := (fr_FI hf796 f785_0 (fun q => q) 9 3).trans q785_0
  have q797_1 : bm_FI B795 9 4 m = 0 := (fr_FI hf796 f785_0 (fun q => q) 9 4).trans q785_1
  have q797_2 : bm_FI B795 9 5 m = 0 := (fr_FI hf796 f785_0 (fun q => q) 9 5).trans q785_2
  have r797_0 : bm_FR B795 9 0 m = some (m + 1) := (fr_FR hf796 f785_0 (fun q => q) 9 0).trans z790
  have u797_0 : bm_AI B795 (m + 1) = (fun _ => 0) := (fr_AI hf796 h783.2.2.1.1 (fun q => q)).trans h783.2.2.2.1
  have w797_0 : bm_AL B795 (m + 1) = 11264 := (fr_AL hf796 h783.2.2.1.1).trans h783.2.2.1.2.2
  have hn799 : bm_n B795 = (m + 3) := (or_2 h795.2.1.1)
  have sl800 : bm_sl B795 = bm_sl B0 + 15366 := by rw [h795.2.1.2, sl793]
  have f0801 : fr0 B0 B795 := fr0_trans f0794 h795.1
  refine g_putR (v := some (m + 2)) (c := 9) (k := 1) (pc' := 22) rfl cd_Te_init rfl rfl rfl rfl (by simp [tm_okV, narrow, fits]) (Or.inr ⟨rfl, rfl, rfl, rfl⟩) rfl (by decide) f797_0 g797_0 ?_
  have z802 : bm_FR (bm_putR B795 9 1 m (some (m + 2))) 9 1 m = some (m + 2) := (by simp [bm_putR, bm_up3, bm_FR])
  have hn804 : bm_n (bm_putR B795 9 1 m (some (m + 2))) = (m + 3) := hn799
  have sl805 : bm_sl (bm_putR B795 9 1 m (some (m + 2))) = bm_sl B0 + 15366 := sl800
  have f0806 : fr0 B0 (bm_putR B795 9 1 m (some (m + 2))) := fr0_putR f0801 (or_1 hm)
  refine g_ald (pc' := 23) cd_Te_init rfl (Or.inr ⟨_, rfl, rfl, rfl⟩) l0 rfl rfl ?_
  refine g_k2 (v := 10) (pc' := 25) cd_Te_init rfl (by decide) rfl ?_
  refine n_int 10 hn804 cd_Te_init rfl rfl (by decide) (by decide) (by decide) (fun B807 h807 => ?_)
  have hf808 := fr0_f h807.1
  have f809_0 := fr_lt hf808 f797_0
  have g809_0 := (fr_K hf808 f797_0).trans g797_0
  have f809_1 := fr_lt hf808 f797_1
  have g809_1 := (fr_K hf808 f797_1).trans g797_1
  have f809_2 := fr_lt hf808 h795.2.2.1.1
  have g809_2 := (fr_K hf808 h795.2.2.1.1).trans h795.2.2.1.2.1
  have q809_0 : bm_FI B807 9 3 m = 0 := (fr_FI hf808 f797_0 (fun q => q) 9 3).trans q797_0
  have q809_1 : bm_FI B807 9 4 m = 0 := (fr_FI hf808 f797_0 (fun q => q) 9 4).trans q797_1
  have q809_2 : bm_FI B807 9 5 m = 0 := (fr_FI hf808 f797_0 (fun q => q) 9 5).trans q797_2
  have r809_0 : bm_FR B807 9 0 m = some (m + 1) := (fr_FR hf808 f797_0 (fun q => q) 9 0).trans r797_0
  have r809_1 : bm_FR B807 9 1 m = some (m + 2) := (fr_FR hf808 f797_0 (fun q => q) 9 1).trans z802
  have u809_0 : bm_AI B807 (m + 1) = (fun _ => 0) := (fr_AI hf808 f797_1 (fun q => q)).trans u797_0
  have u809_1 : bm_AI B807 (m + 2) = (fun _ => 0) := (fr_AI hf808 h795.2.2.1.1 (fun q => q)).trans h795.2.2.2.1
  have w809_0 : bm_AL B807 (m + 1) = 11264 := (fr_AL hf808 f797_1).trans w797_0
  have w809_1 : bm_AL B807 (m + 2) = 4096 := (fr_AL hf808 h795.2.2.1.1).trans h795.2.2.1.2.2
  have hn811 : bm_n B807 = (m + 4) := (or_10 h807.2.1.1)
  have sl812 : bm_sl B807 = bm_sl B0 + 15376 := by rw [h807.2.1.2, sl805]
  have f0813 : fr0 B0 B807 := fr0_trans f0806 h807.1
  refine g_putR (v := some (m + 3)) (c := 9) (k := 2) (pc' := 30) rfl cd_Te_init rfl rfl rfl rfl (by simp [tm_okV, narrow, fits]) (Or.inr ⟨rfl, rfl, rfl, rfl⟩) rfl (by decide) f809_0 g809_0 ?_
  have z814 : bm_FR (bm_putR B807 9 2 m (some (m + 3))) 9 2 m = some (m + 3) := (by simp [bm_putR, bm_up3, bm_FR])
  have hn816 : bm_n (bm_putR B807 9 2 m (some (m + 3))) = (m + 4) := hn811
  have sl817 : bm_sl (bm_putR B807 9 2 m (some (m + 3))) = bm_sl B0 + 15376 := sl812
  have f0818 : fr0 B0 (bm_putR B807 9 2 m (some (m + 3))) := fr0_putR f0813 (or_1 hm)
  refine g_ald (pc' := 31) cd_Te_init rfl (Or.inr ⟨_, rfl, rfl, rfl⟩) l0 rfl rfl ?_
  refine g_k3 (v := 1024) (pc' := 34) cd_Te_init rfl (by decide) rfl ?_
  refine g_putI (c := 9) (k := 3) (pc' := 37) cd_Te_init rfl rfl rfl rfl (by simp [tm_okV, narrow, fits]) (Or.inl rfl) rfl (by decide) f809_0 g809_0 ?_
  have P819 : bm_FI (bm_putI (bm_putR B807 9 2 m (some (m + 3))) 9 3 m 1024) 9 3 m = 1024 := if_pos ⟨rfl, rfl, rfl⟩
  have hn821 : bm_n (bm_putI (bm_putR B807 9 2 m (some (m + 3))) 9 3 m 1024) = (m + 4) := hn816
  have sl822 : bm_sl (bm_putI (bm_putR B807 9 2 m (some (m + 3))) 9 3 m 1024) = bm_sl B0 + 15376 := sl817
  have f0823 : fr0 B0 (bm_putI (bm_putR B807 9 2 m (some (m + 3))) 9 3 m 1024) := fr0_putI f0818 (or_1 hm)
  refine g_ald (pc' := 38) cd_Te_init rfl (Or.inr ⟨_, rfl, rfl, rfl⟩) l0 rfl rfl ?_
  refine g_k1 (v := 1) (pc' := 39) cd_Te_init rfl (by decide) rfl ?_
  refine g_putI (c := 9) (k := 4) (pc' := 42) cd_Te_init rfl rfl rfl rfl (by simp [tm_okV, narrow, fits]) (Or.inl rfl) rfl (by decide) f809_0 g809_0 ?_
  have P824 : bm_FI (bm_putI (bm_putI (bm_putR B807 9 2 m (some (m + 3))) 9 3 m 1024) 9 4 m 1) 9 4 m = 1 := if_pos ⟨rfl, rfl, rfl⟩
  have hn826 : bm_n (bm_putI (bm_putI (bm_putR B807 9 2 m (some (m + 3))) 9 3 m 1024) 9 4 m 1) = (m + 4) := hn821
  have sl827 : bm_sl (bm_putI (bm_putI (bm_putR B807 9 2 m (some (m + 3))) 9 3 m 1024) 9 4 m 1) = bm_sl B0 + 15376 := sl822
  have f0828 : fr0 B0 (bm_putI (bm_putI (bm_putR B807 9 2 m (some (m + 3))) 9 3 m 1024) 9 4 m 1) := fr0_putI f0823 (or_1 hm)
  have z829 : bm_FR (bm_putI (bm_putI (bm_putR B807 9 2 m (some (m + 3))) 9 3 m 1024) 9 4 m 1) 9 0 m = some (m + 1) := r809_0
  have z830 : bm_FR (bm_putI (bm_putI (bm_putR B807 9 2 m (some (m + 3))) 9 3 m 1024) 9 4 m 1) 9 1 m = some (m + 2) := r809_1
  have z831 : bm_FR (bm_putI (bm_putI (bm_putR B807 9 2 m (some (m + 3))) 9 3 m 1024) 9 4 m 1) 9 2 m = some (m + 3) := z814
  have hS : stb (PTe m) m (m + 4) (bm_putI (bm_putI (bm_putR B807 9 2 m (some (m + 3))) 9 3 m 1024) 9 4 m 1) := by
    intro B2 g
    have e0 := g (m + 0) or_3 or_36
    have e1 := g (m + 1) or_5 or_37
    have e2 := g (m + 2) or_7 or_38
    have e3 := g (m + 3) or_25 or_39
    intro hm1
    subst hm1
    exact ⟨⟨⟨e0.1, ce_K e0 g809_0⟩, ⟨(ce_FR e0 z829), (ce_FR e0 z830), (ce_FR e0 z831)⟩, ⟨⟨e1.1, ce_K e1 g809_1, ce_AL e1 w809_0⟩, ⟨e2.1, ce_K e2 g809_2, ce_AL e2 w809_1⟩, ⟨e3.1, ce_K e3 h807.2.2.1.2.1, ce_AL e3 h807.2.2.1.2.2⟩⟩, ⟨(ce_FI e0 P819), (ce_FI e0 P824), (ce_FI e0 q809_2)⟩, by decide, by decide⟩, TI_00 (ce_AI e2 u809_1)⟩
  exact g_retv cd_Te_init rfl ⟨rfl, kk _ ⟨f0828, ⟨(or_40 hn826), sl827⟩, hS, f809_0, g809_0⟩⟩
set_option maxRecDepth 100000 in
theorem i_Kn {sc : tm_X} {d m : Nat} {B0 B1 : bm_H} {Q : bm_H → Prop} {a : Nat} (ha1 : a = 1) (ha : a < bm_n B1) (hKa : bm_K B1 a = 9) (hrm : bm_FI B1 9 3 a = 1024) (hm : bm_n B0 = m) (h : NwO B0 B1 m 3 6) (kk : ∀ B, Mk (PKn m) 3 7174 3 B0 B m → Q B) : bm_Gv sc (d + 1) 3 [.ref m, .ref a] B1 Q := by
  have h1 := h.2.1.1
  show bm_G _ _ _ 0 [(0, .ref m), (1, .ref a)] [] B1 _
  generalize elv : ([(0, .ref m), (1, .ref a)] : tm_L) = lv
  have l0 : lv.lookup 0 = some (.ref m) := by rw [← elv]; rfl
  have l1 : lv.lookup 1 = some (.ref a) := by rw [← elv]; rfl
  clear elv
  refine g_ald (pc' := 1) cd_Kn_init rfl (Or.inr ⟨_, rfl, rfl, rfl⟩) l0 rfl rfl ?_
  refine n_super (pc' := 4) cd_Kn_init rfl rfl rfl rfl ?_
  refine g_ald (pc' := 5) cd_Kn_init rfl (Or.inr ⟨_, rfl, rfl, rfl⟩) l0 rfl rfl ?_
  refine g_k1 (v := 1) (pc' := 6) cd_Kn_init rfl (by decide) rfl ?_
  refine g_putI (c := 3) (k := 5) (pc' := 9) cd_Kn_init rfl rfl rfl rfl (by simp [tm_okV, narrow, fits]) (Or.inl rfl) rfl (by decide) h.2.2.1.1 h.2.2.1.2 ?_
  have P832 : bm_FI (bm_putI B1 3 5 m 1) 3 5 m = 1 := if_pos ⟨rfl, rfl, rfl⟩
  have hn834 : bm_n (bm_putI B1 3 5 m 1) = (m + 1) := h1
  have sl835 : bm_sl (bm_putI B1 3 5 m 1) = bm_sl B0 + 6 := h.2.1.2
  have f0836 : fr0 B0 (bm_putI B1 3 5 m 1) := fr0_putI h.1 (or_1 hm)
  refine g_ald (pc' := 10) cd_Kn_init rfl (Or.inr ⟨_, rfl, rfl, rfl⟩) l0 rfl rfl ?_
  refine g_ald (pc' := 11) cd_Kn_init rfl (Or.inr ⟨_, rfl, rfl, rfl⟩) l1 rfl rfl ?_
  refine g_putR (v := some a) (c := 3) (k := 0) (pc' := 14) rfl cd_Kn_init rfl rfl rfl rfl (by simp [tm_okV, narrow, fits]) (Or.inr ⟨rfl, rfl, rfl, rfl⟩) rfl (by decide) h.2.2.1.1 h.2.2.1.2 ?_
  have z837 : bm_FR (bm_putR (bm_putI B1 3 5 m 1) 3 0 m (some a)) 3 0 m = some a := (by simp [bm_putR, bm_up3, bm_FR])
  have hn839 : bm_n (bm_putR (bm_putI B1 3 5 m 1) 3 0 m (some a)) = (m + 1) := hn834
  have sl840 : bm_sl (bm_putR (bm_putI B1 3 5 m 1) 3 0 m (some a)) = bm_sl B0 + 6 := sl835
  have f0841 : fr0 B0 (bm_putR (bm_putI B1 3 5 m 1) 3 0 m (some a)) := fr0_putR f0836 (or_1 hm)
  refine g_ald (pc' := 15) cd_Kn_init rfl (Or.inr ⟨_, rfl, rfl, rfl⟩) l0 rfl rfl ?_
  refine g_ald (pc' := 16) cd_Kn_init rfl (Or.inr ⟨_, rfl, rfl, rfl⟩) l1 rfl rfl ?_
  refine g_fI (c := 9) (k := 3) (x := 1024) (pc' := 19) cd_Kn_init rfl rfl rfl rfl rfl (by decide) ha hKa hrm ?_
  refine g_k2 (v := 6) (pc' := 21) cd_Kn_init rfl (by decide) rfl ?_
  refine g_pure (pc' := 22) (st' := [.int (1024 * 6), .ref m]) cd_Kn_init rfl rfl (fun _ _ => rfl) ?_
  rw [show (1024 * 6 : Int32) = 6144 from by decide]
  refine n_int 6144 hn839 cd_Kn_init rfl rfl (by decide) (by decide) (by decide) (fun B842 h842 => ?_)
  have hf843 := fr0_f h842.1
  have f844_0 := fr_lt hf843 h.2.2.1.1
  have g844_0 := (fr_K hf843 h.2.2.1.1).trans h.2.2.1.2
  have f844_1 := fr_lt hf843 ha
  have g844_1 := (fr_K hf843 ha).trans hKa
  have q844_0 : bm_FI B842 3 3 m = 0 := (fr_FI hf843 h.2.2.1.1 (fun q => q) 3 3).trans (h.2.2.2.1 3 3)
  have q844_1 : bm_FI B842 3 4 m = 0 := (fr_FI hf843 h.2.2.1.1 (fun q => q) 3 4).trans (h.2.2.2.1 3 4)
  have q844_2 : bm_FI B842 3 5 m = 1 := (fr_FI hf843 h.2.2.1.1 (fun q => q) 3 5).trans P832
  have q844_3 : bm_FI B842 9 3 a = 1024 := (fr_FI hf843 ha (fun q => q) 9 3).trans hrm
  have r844_0 : bm_FR B842 3 0 m = some a := (fr_FR hf843 h.2.2.1.1 (fun q => q) 3 0).trans z837
  have hn846 : bm_n B842 = (m + 2) := (or_0 h842.2.1.1)
  have sl847 : bm_sl B842 = bm_sl B0 + 6150 := by rw [h842.2.1.2, sl840]
  have f0848 : fr0 B0 B842 := fr0_trans f0841 h842.1
  refine g_putR (v := some (m + 1)) (c := 3) (k := 1) (pc' := 27) rfl cd_Kn_init rfl rfl rfl rfl (by simp [tm_okV, narrow, fits]) (Or.inl rfl) rfl (by decide) f844_0 g844_0 ?_
  have z849 : bm_FR (bm_putR B842 3 1 m (some (m + 1))) 3 1 m = some (m + 1) := (by simp [bm_putR, bm_up3, bm_FR])
  have hn851 : bm_n (bm_putR B842 3 1 m (some (m + 1))) = (m + 2) := hn846
  have sl852 : bm_sl (bm_putR B842 3 1 m (some (m + 1))) = bm_sl B0 + 6150 := sl847
  have f0853 : fr0 B0 (bm_putR B842 3 1 m (some (m + 1))) := fr0_putR f0848 (or_1 hm)
  refine g_ald (pc' := 28) cd_Kn_init rfl (Or.inr ⟨_, rfl, rfl, rfl⟩) l0 rfl rfl ?_
  refine g_ald (pc' := 29) cd_Kn_init rfl (Or.inr ⟨_, rfl, rfl, rfl⟩) l1 rfl rfl ?_
  refine g_fI (c := 9) (k := 3) (x := 1024) (pc' := 32) cd_Kn_init rfl rfl rfl rfl rfl (by decide) f844_1 g844_1 q844_3 ?_
  refine n_int 1024 hn851 cd_Kn_init rfl rfl (by decide) (by decide) (by decide) (fun B854 h854 => ?_)
  have hf855 := fr0_f h854.1
  have f856_0 := fr_lt hf855 f844_0
  have g856_0 := (fr_K hf855 f844_0).trans g844_0
  have f856_1 := fr_lt hf855 f844_1
  have g856_1 := (fr_K hf855 f844_1).trans g844_1
  have f856_2 := fr_lt hf855 h842.2.2.1.1
  have g856_2 := (fr_K hf855 h842.2.2.1.1).trans h842.2.2.1.2.1
  have q856_0 : bm_FI B854 3 3 m = 0 := (fr_FI hf855 f844_0 (fun q => q) 3 3).trans q844_0
  have q856_1 : bm_FI B854 3 4 m = 0 := (fr_FI hf855 f844_0 (fun q => q) 3 4).trans q844_1
  have q856_2 : bm_FI B854 3 5 m = 1 := (fr_FI hf855 f844_0 (fun q => q) 3 5).trans q844_2
  have q856_3 : bm_FI B854 9 3 a = 1024 := (fr_FI hf855 f844_1 (fun q => q) 9 3).trans q844_3
  have r856_0 : bm_FR B854 3 0 m = some a := (fr_FR hf855 f844_0 (fun q => q) 3 0).trans r844_0
  have r856_1 : bm_FR B854 3 1 m = some (m + 1) := (fr_FR hf855 f844_0 (fun q => q) 3 1).trans z849
  have u856_0 : bm_AI B854 (m + 1) = (fun _ => 0) := (fr_AI hf855 h842.2.2.1.1 (fun q => q)).trans h842.2.2.2.1
  have w856_0 : bm_AL B854 (m + 1) = 6144 := (fr_AL hf855 h842.2.2.1.1).trans h842.2.2.1.2.2
  have hn858 : bm_n B854 = (m + 3) := (or_2 h854.2.1.1)
  have sl859 : bm_sl B854 = bm_sl B0 + 7174 := by rw [h854.2.1.2, sl852]
  have f0860 : fr0 B0 B854 := fr0_trans f0853 h854.1
  refine g_putR (v := some (m + 2)) (c := 3) (k := 2) (pc' := 37) rfl cd_Kn_init rfl rfl rfl rfl (by simp [tm_okV, narrow, fits]) (Or.inl rfl) rfl (by decide) f856_0 g856_0 ?_
  have z861 : bm_FR (bm_putR B854 3 2 m (some (m + 2))) 3 2 m = some (m + 2) := (by simp [bm_putR, bm_up3, bm_FR])
  have hn863 : bm_n (bm_putR B854 3 2 m (some (m + 2))) = (m + 3) := hn858
  have sl864 : bm_sl (bm_putR B854 3 2 m (some (m + 2))) = bm_sl B0 + 7174 := sl859
  have f0865 : fr0 B0 (bm_putR B854 3 2 m (some (m + 2))) := fr0_putR f0860 (or_1 hm)
  have z866 : bm_FR (bm_putR B854 3 2 m (some (m + 2))) 3 0 m = some a := r856_0
  have z867 : bm_FR (bm_putR B854 3 2 m (some (m + 2))) 3 1 m = some (m + 1) := r856_1
  have z868 : bm_FR (bm_putR B854 3 2 m (some (m + 2))) 3 2 m = some (m + 2) := z861
  have hS : stb (PKn m) m (m + 3) (bm_putR B854 3 2 m (some (m + 2))) := by
    intro B2 g
    have e0 := g (m + 0) or_3 or_4
    have e1 := g (m + 1) or_5 or_6
    have e2 := g (m + 2) or_7 or_8
    intro hm5
    subst hm5
    exact KI_0 ⟨⟨e0.1, ce_K e0 g856_0⟩, ⟨(ce_FR e0 (z866)).trans (congrArg some ha1), (ce_FR e0 z867), (ce_FR e0 z868)⟩, ⟨⟨e1.1, ce_K e1 g856_2, ce_AL e1 w856_0⟩, ⟨e2.1, ce_K e2 h854.2.2.1.2.1, ce_AL e2 h854.2.2.1.2.2⟩⟩, ⟨(ce_FI e0 q856_0), (ce_FI e0 q856_1), (ce_FI e0 q856_2)⟩, by decide, by decide⟩ (ce_AI e1 u856_0)
  exact g_retv cd_Kn_init rfl ⟨rfl, kk _ ⟨f0865, ⟨(or_9 hn863), sl864⟩, hS, f856_0, g856_0⟩⟩
set_option maxRecDepth 100000 in
theorem i_St {sc : tm_X} {d m : Nat} {B0 B1 : bm_H} {Q : bm_H → Prop} {x : Int32} (hm : bm_n B0 = m) (h : NwO B0 B1 m 8 7) (kk : ∀ B, Mk (PSt x m) 6 2157 8 B0 B m → Q B) : bm_Gv sc (d + 1) 29 [.ref m, .int x] B1 Q := by
  have h1 := h.2.1.1
  show bm_G _ _ _ 0 [(0, .ref m), (1, .int x)] [] B1 _
  generalize elv : ([(0, .ref m), (1, .int x)] : tm_L) = lv
  have l0 : lv.lookup 0 = some (.ref m) := by rw [← elv]; rfl
  have l1 : lv.lookup 1 = some (.int x) := by rw [← elv]; rfl
  clear elv
  refine g_ald (pc' := 1) cd_St_init rfl (Or.inr ⟨_, rfl, rfl, rfl⟩) l0 rfl rfl ?_
  refine n_super (pc' := 4) cd_St_init rfl rfl rfl rfl ?_
  refine g_ald (pc' := 5) cd_St_init rfl (Or.inr ⟨_, rfl, rfl, rfl⟩) l0 rfl rfl ?_
  refine g_k1 (v := 2) (pc' := 6) cd_St_init rfl (by decide) rfl ?_
  refine g_k3 (v := 1072) (pc' := 9) cd_St_init rfl (by decide) rfl ?_
  refine n_mul h1 cd_St_init rfl rfl (fun B869 x869_0 x869_1 x869_2 x869_3 x869_4 x869_5 x869_6 x869_7 x869_8 => ?_)
  have hf870 := fr0_f x869_0
  have f871_0 := fr_lt hf870 h.2.2.1.1
  have g871_0 := (fr_K hf870 h.2.2.1.1).trans h.2.2.1.2
  have q871_0 : bm_FI B869 8 3 m = 0 := (fr_FI hf870 h.2.2.1.1 (fun q => q) 8 3).trans (h.2.2.2.1 8 3)
  have q871_1 : bm_FI B869 8 4 m = 0 := (fr_FI hf870 h.2.2.1.1 (fun q => q) 8 4).trans (h.2.2.2.1 8 4)
  have q871_2 : bm_FI B869 8 5 m = 0 := (fr_FI hf870 h.2.2.1.1 (fun q => q) 8 5).trans (h.2.2.2.1 8 5)
  have q871_3 : bm_FI B869 8 6 m = 0 := (fr_FI hf870 h.2.2.1.1 (fun q => q) 8 6).trans (h.2.2.2.1 8 6)
  have hn873 : bm_n B869 = (m + 4) := x869_1
  have sl874 : bm_sl B869 = bm_sl B0 + 2153 := by rw [x869_2, h.2.1.2]
  have f0875 : fr0 B0 B869 := fr0_trans h.1 x869_0
  refine g_putR (v := some (m + 1)) (c := 8) (k := 0) (pc' := 16) rfl cd_St_init rfl rfl rfl rfl (by simp [tm_okV, narrow, fits]) (Or.inr ⟨rfl, rfl, rfl, rfl⟩) rfl (by decide) f871_0 g871_0 ?_
  have z876 : bm_FR (bm_putR B869 8 0 m (some (m + 1))) 8 0 m = some (m + 1) := (by simp [bm_putR, bm_up3, bm_FR])
  have t877_0 : bm_AR (bm_putR B869 8 0 m (some (m + 1))) (m + 1) 0 = some (m + 2) ∧ bm_AR (bm_putR B869 8 0 m (some (m + 1))) (m + 1) 1 = some (m + 3) := x869_6
  have hn878 : bm_n (bm_putR B869 8 0 m (some (m + 1))) = (m + 4) := hn873
  have sl879 : bm_sl (bm_putR B869 8 0 m (some (m + 1))) = bm_sl B0 + 2153 := sl874
  have f0880 : fr0 B0 (bm_putR B869 8 0 m (some (m + 1))) := fr0_putR f0875 (or_1 hm)
  refine g_ald (pc' := 17) cd_St_init rfl (Or.inr ⟨_, rfl, rfl, rfl⟩) l0 rfl rfl ?_
  refine g_k1 (v := 2) (pc' := 18) cd_St_init rfl (by decide) rfl ?_
  refine n_int 2 hn878 cd_St_init rfl rfl (by decide) (by decide) (by decide) (fun B881 h881 => ?_)
  have hf882 := fr0_f h881.1
  have f883_0 := fr_lt hf882 f871_0
  have g883_0 := (fr_K hf882 f871_0).trans g871_0
  have f883_1 := fr_lt hf882 x869_3.1
  have g883_1 := (fr_K hf882 x869_3.1).trans x869_3.2.1
  have f883_2 := fr_lt hf882 x869_4.1
  have g883_2 := (fr_K hf882 x869_4.1).trans x869_4.2.1
  have f883_3 := fr_lt hf882 x869_5.1
  have g883_3 := (fr_K hf882 x869_5.1).trans x869_5.2.1
  have q883_0 : bm_FI B881 8 3 m = 0 := (fr_FI hf882 f871_0 (fun q => q) 8 3).trans q871_0
  have q883_1 : bm_FI B881 8 4 m = 0 := (fr_FI hf882 f871_0 (fun q => q) 8 4).trans q871_1
  have q883_2 : bm_FI B881 8 5 m = 0 := (fr_FI hf882 f871_0 (fun q => q) 8 5).trans q871_2
  have q883_3 : bm_FI B881 8 6 m = 0 := (fr_FI hf882 f871_0 (fun q => q) 8 6).trans q871_3
  have r883_0 : bm_FR B881 8 0 m = some (m + 1) := (fr_FR hf882 f871_0 (fun q => q) 8 0).trans z876
  have u883_0 : bm_AI B881 (m + 2) = (fun _ => 0) := (fr_AI hf882 x869_4.1 (fun q => q)).trans x869_7
  have u883_1 : bm_AI B881 (m + 3) = (fun _ => 0) := (fr_AI hf882 x869_5.1 (fun q => q)).trans x869_8
  have w883_0 : bm_AL B881 (m + 1) = 2 := (fr_AL hf882 x869_3.1).trans x869_3.2.2
  have w883_1 : bm_AL B881 (m + 2) = 1072 := (fr_AL hf882 x869_4.1).trans x869_4.2.2
  have w883_2 : bm_AL B881 (m + 3) = 1072 := (fr_AL hf882 x869_5.1).trans x869_5.2.2
  have t884_0 : bm_AR B881 (m + 1) 0 = some (m + 2) ∧ bm_AR B881 (m + 1) 1 = some (m + 3) := (fun e => ⟨(congrFun e 0).trans t877_0.1, (congrFun e 1).trans t877_0.2⟩) (fr_AR (fr0_f h881.1) x869_3.1 (fun q => q))
  have hn885 : bm_n B881 = (m + 5) := (or_11 h881.2.1.1)
  have sl886 : bm_sl B881 = bm_sl B0 + 2155 := by rw [h881.2.1.2, sl879]
  have f0887 : fr0 B0 B881 := fr0_trans f0880 h881.1
  refine g_putR (v := some (m + 4)) (c := 8) (k := 1) (pc' := 23) rfl cd_St_init rfl rfl rfl rfl (by simp [tm_okV, narrow, fits]) (Or.inr ⟨rfl, rfl, rfl, rfl⟩) rfl (by decide) f883_0 g883_0 ?_
  have z888 : bm_FR (bm_putR B881 8 1 m (some (m + 4))) 8 1 m = some (m + 4) := (by simp [bm_putR, bm_up3, bm_FR])
  have t889_0 : bm_AR (bm_putR B881 8 1 m (some (m + 4))) (m + 1) 0 = some (m + 2) ∧ bm_AR (bm_putR B881 8 1 m (some (m + 4))) (m + 1) 1 = some (m + 3) := t884_0
  have hn890 : bm_n (bm_putR B881 8 1 m (some (m + 4))) = (m + 5) := hn885
  have sl891 : bm_sl (bm_putR B881 8 1 m (some (m + 4))) = bm_sl B0 + 2155 := sl886
  have f0892 : fr0 B0 (bm_putR B881 8 1 m (some (m + 4))) := fr0_putR f0887 (or_1 hm)
  refine g_ald (pc' := 24) cd_St_init rfl (Or.inr ⟨_, rfl, rfl, rfl⟩) l0 rfl rfl ?_
  refine g_k1 (v := 2) (pc' := 25) cd_St_init rfl (by decide) rfl ?_
  refine n_int 2 hn890 cd_St_init rfl rfl (by decide) (by decide) (by decide) (fun B893 h893 => ?_)
  have hf894 := fr0_f h893.1
  have f895_0 := fr_lt hf894 f883_0
  have g895_0 := (fr_K hf894 f883_0).trans g883_0
  have f895_1 := fr_lt hf894 f883_1
  have g895_1 := (fr_K hf894 f883_1).trans g883_1
  have f895_2 := fr_lt hf894 f883_2
  have g895_2 := (fr_K hf894 f883_2).trans g883_2
  have f895_3 := fr_lt hf894 f883_3
  have g895_3 := (fr_K hf894 f883_3).trans g883_3
  have f895_4 := fr_lt hf894 h881.2.2.1.1
  have g895_4 := (fr_K hf894 h881.2.2.1.1).trans h881.2.2.1.2.1
  have q895_0 : bm_FI B893 8 3 m = 0 := (fr_FI hf894 f883_0 (fun q => q) 8 3).trans q883_0
  have q895_1 : bm_FI B893 8 4 m = 0 := (fr_FI hf894 f883_0 (fun q => q) 8 4).trans q883_1
  have q895_2 : bm_FI B893 8 5 m = 0 := (fr_FI hf894 f883_0 (fun q => q) 8 5).trans q883_2
  have q895_3 : bm_FI B893 8 6 m = 0 := (fr_FI hf894 f883_0 (fun q => q) 8 6).trans q883_3
  have r895_0 : bm_FR B893 8 0 m = some (m + 1) := (fr_FR hf894 f883_0 (fun q => q) 8 0).trans r883_0
  have r895_1 : bm_FR B893 8 1 m = some (m + 4) := (fr_FR hf894 f883_0 (fun q => q) 8 1).trans z888
  have u895_0 : bm_AI B893 (m + 2) = (fun _ => 0) := (fr_AI hf894 f883_2 (fun q => q)).trans u883_0
  have u895_1 : bm_AI B893 (m + 3) = (fun _ => 0) := (fr_AI hf894 f883_3 (fun q => q)).trans u883_1
  have u895_2 : bm_AI B893 (m + 4) = (fun _ => 0) := (fr_AI hf894 h881.2.2.1.1 (fun q => q)).trans h881.2.2.2.1
  have w895_0 : bm_AL B893 (m + 1) = 2 := (fr_AL hf894 f883_1).trans w883_0
  have w895_1 : bm_AL B893 (m + 2) = 1072 := (fr_AL hf894 f883_2).trans w883_1
  have w895_2 : bm_AL B893 (m + 3) = 1072 := (fr_AL hf894 f883_3).trans w883_2
  have w895_3 : bm_AL B893 (m + 4) = 2 := (fr_AL hf894 h881.2.2.1.1).trans h881.2.2.1.2.2
  have t896_0 : bm_AR B893 (m + 1) 0 = some (m + 2) ∧ bm_AR B893 (m + 1) 1 = some (m + 3) := (fun e => ⟨(congrFun e 0).trans t889_0.1, (congrFun e 1).trans t889_0.2⟩) (fr_AR (fr0_f h893.1) f883_1 (fun q => q))
  have hn897 : bm_n B893 = (m + 6) := (or_12 h893.2.1.1)
  have sl898 : bm_sl B893 = bm_sl B0 + 2157 := by rw [h893.2.1.2, sl891]
  have f0899 : fr0 B0 B893 := fr0_trans f0892 h893.1
  refine g_putR (v := some (m + 5)) (c := 8) (k := 2) (pc' := 30) rfl cd_St_init rfl rfl rfl rfl (by simp [tm_okV, narrow, fits]) (Or.inr ⟨rfl, rfl, rfl, rfl⟩) rfl (by decide) f895_0 g895_0 ?_
  have z900 : bm_FR (bm_putR B893 8 2 m (some (m + 5))) 8 2 m = some (m + 5) := (by simp [bm_putR, bm_up3, bm_FR])
  have t901_0 : bm_AR (bm_putR B893 8 2 m (some (m + 5))) (m + 1) 0 = some (m + 2) ∧ bm_AR (bm_putR B893 8 2 m (some (m + 5))) (m + 1) 1 = some (m + 3) := t896_0
  have hn902 : bm_n (bm_putR B893 8 2 m (some (m + 5))) = (m + 6) := hn897
  have sl903 : bm_sl (bm_putR B893 8 2 m (some (m + 5))) = bm_sl B0 + 2157 := sl898
  have f0904 : fr0 B0 (bm_putR B893 8 2 m (some (m + 5))) := fr0_putR f0899 (or_1 hm)
  refine g_ald (pc' := 31) cd_St_init rfl (Or.inr ⟨_, rfl, rfl, rfl⟩) l0 rfl rfl ?_
  refine g_k1 (v := (-1)) (pc' := 32) cd_St_init rfl (by decide) rfl ?_
  refine g_putI (c := 8) (k := 5) (pc' := 35) cd_St_init rfl rfl rfl rfl (by simp [tm_okV, narrow, fits]) (Or.inl rfl) rfl (by decide) f895_0 g895_0 ?_
  have P905 : bm_FI (bm_putI (bm_putR B893 8 2 m (some (m + 5))) 8 5 m (-1)) 8 5 m = (-1) := if_pos ⟨rfl, rfl, rfl⟩
  have t906_0 : bm_AR (bm_putI (bm_putR B893 8 2 m (some (m + 5))) 8 5 m (-1)) (m + 1) 0 = some (m + 2) ∧ bm_AR (bm_putI (bm_putR B893 8 2 m (some (m + 5))) 8 5 m (-1)) (m + 1) 1 = some (m + 3) := t901_0
  have hn907 : bm_n (bm_putI (bm_putR B893 8 2 m (some (m + 5))) 8 5 m (-1)) = (m + 6) := hn902
  have sl908 : bm_sl (bm_putI (bm_putR B893 8 2 m (some (m + 5))) 8 5 m (-1)) = bm_sl B0 + 2157 := sl903
  have f0909 : fr0 B0 (bm_putI (bm_putR B893 8 2 m (some (m + 5))) 8 5 m (-1)) := fr0_putI f0904 (or_1 hm)
  refine g_ald (pc' := 36) cd_St_init rfl (Or.inr ⟨_, rfl, rfl, rfl⟩) l0 rfl rfl ?_
  refine g_fR (c := 8) (k := 0) (x := (m + 1)) (pc' := 39) cd_St_init rfl rfl rfl rfl rfl (by decide) f895_0 g895_0 r895_0 ?_
  refine g_k1 (v := 0) (pc' := 40) cd_St_init rfl (by decide) rfl ?_
  refine g_aR (t := 8) (x := (m + 2)) (pc' := 41) cd_St_init rfl rfl f895_1 g895_1 (by decide) rfl rfl (by rw [show bm_AL (bm_putI (bm_putR B893 8 2 m (some (m + 5))) 8 5 m (-1)) (m + 1) = 2 from w895_0]; exact vp_in_nI (n := 0) (by decide) (by decide)) t906_0.1 ?_
  refine g_k1 (v := 0) (pc' := 42) cd_St_init rfl (by decide) rfl ?_
  refine g_ild (pc' := 43) cd_St_init rfl (Or.inr ⟨_, rfl, rfl, rfl⟩) l1 rfl ?_
  refine g_iast (pc' := 44) cd_St_init rfl rfl f895_2 g895_2 (by rw [show bm_AL (bm_putI (bm_putR B893 8 2 m (some (m + 5))) 8 5 m (-1)) (m + 2) = 1072 from w895_1]; exact vp_in_nI (n := 0) (by decide) (by decide)) ?_
  rw [show (0 : Int32).toNatClampNeg = 0 from by decide]
  have A910 : bm_AI (bm_setI (bm_putI (bm_putR B893 8 2 m (some (m + 5))) 8 5 m (-1)) (m + 2) 0 x) (m + 2) = (upd (fun _ => 0) 0 x) := ((AI_set (bm_putI (bm_putR B893 8 2 m (some (m + 5))) 8 5 m (-1)) (m + 2) 0 x).trans (congrArg (fun f => upd f 0 x) (show bm_AI (bm_putI (bm_putR B893 8 2 m (some (m + 5))) 8 5 m (-1)) (m + 2) = (fun _ => 0) from u895_0)))
  have A911 : bm_AI (bm_setI (bm_putI (bm_putR B893 8 2 m (some (m + 5))) 8 5 m (-1)) (m + 2) 0 x) (m + 3) = (fun _ => 0) := ((AI_setn (bm_putI (bm_putR B893 8 2 m (some (m + 5))) 8 5 m (-1)) 0 x (m + 3) or_41).trans (show bm_AI (bm_putI (bm_putR B893 8 2 m (some (m + 5))) 8 5 m (-1)) (m + 3) = (fun _ => 0) from u895_1))
  have A912 : bm_AI (bm_setI (bm_putI (bm_putR B893 8 2 m (some (m + 5))) 8 5 m (-1)) (m + 2) 0 x) (m + 4) = (fun _ => 0) := ((AI_setn (bm_putI (bm_putR B893 8 2 m (some (m + 5))) 8 5 m (-1)) 0 x (m + 4) or_42).trans (show bm_AI (bm_putI (bm_putR B893 8 2 m (some (m + 5))) 8 5 m (-1)) (m + 4) = (fun _ => 0) from u895_2))
  have A913 : bm_AI (bm_setI (bm_putI (bm_putR B893 8 2 m (some (m + 5))) 8 5 m (-1)) (m + 2) 0 x) (m + 5) = (fun _ => 0) := ((AI_setn (bm_putI (bm_putR B893 8 2 m (some (m + 5))) 8 5 m (-1)) 0 x (m + 5) or_43).trans (show bm_AI (bm_putI (bm_putR B893 8 2 m (some (m + 5))) 8 5 m (-1)) (m + 5) = (fun _ => 0) from h893.2.2.2.1))
  have t914_0 : bm_AR (bm_setI (bm_putI (bm_putR B893 8 2 m (some (m + 5))) 8 5 m (-1)) (m + 2) 0 x) (m + 1) 0 = some (m + 2) ∧ bm_AR (bm_setI (bm_putI (bm_putR B893 8 2 m (some (m + 5))) 8 5 m (-1)) (m + 2) 0 x) (m + 1) 1 = some (m + 3) := t906_0
  have hn915 : bm_n (bm_setI (bm_putI (bm_putR B893 8 2 m (some (m + 5))) 8 5 m (-1)) (m + 2) 0 x) = (m + 6) := hn907
  have sl916 : bm_sl (bm_setI (bm_putI (bm_putR B893 8 2 m (some (m + 5))) 8 5 m (-1)) (m + 2) 0 x) = bm_sl B0 + 2157 := sl908
  have f0917 : fr0 B0 (bm_setI (bm_putI (bm_putR B893 8 2 m (some (m + 5))) 8 5 m (-1)) (m + 2) 0 x) := fr0_setI f0909 (or_21 hm)
  refine g_ald (pc' := 45) cd_St_init rfl (Or.inr ⟨_, rfl, rfl, rfl⟩) l0 rfl rfl ?_
  refine g_fR (c := 8) (k := 2) (x := (m + 5)) (pc' := 48) cd_St_init rfl rfl rfl rfl rfl (by decide) f895_0 g895_0 z900 ?_
  refine g_k1 (v := 0) (pc' := 49) cd_St_init rfl (by decide) rfl ?_
  refine g_k1 (v := 1) (pc' := 50) cd_St_init rfl (by decide) rfl ?_
  refine g_iast (pc' := 51) cd_St_init rfl rfl h893.2.2.1.1 h893.2.2.1.2.1 (by rw [show bm_AL (bm_setI (bm_putI (bm_putR B893 8 2 m (some (m + 5))) 8 5 m (-1)) (m + 2) 0 x) (m + 5) = 2 from h893.2.2.1.2.2]; exact vp_in_nI (n := 0) (by decide) (by decide)) ?_
  rw [show (0 : Int32).toNatClampNeg = 0 from by decide]
  have A918 : bm_AI (bm_setI (bm_setI (bm_putI (bm_putR B893 8 2 m (some (m + 5))) 8 5 m (-1)) (m + 2) 0 x) (m + 5) 0 1) (m + 2) = (upd (fun _ => 0) 0 x) := ((AI_setn (bm_setI (bm_putI (bm_putR B893 8 2 m (some (m + 5))) 8 5 m (-1)) (m + 2) 0 x) 0 1 (m + 2) or_44).trans (show bm_AI (bm_setI (bm_putI (bm_putR B893 8 2 m (some (m + 5))) 8 5 m (-1)) (m + 2) 0 x) (m + 2) = (upd (fun _ => 0) 0 x) from A910))
  have A919 : bm_AI (bm_setI (bm_setI (bm_putI (bm_putR B893 8 2 m (some (m + 5))) 8 5 m (-1)) (m + 2) 0 x) (m + 5) 0 1) (m + 3) = (fun _ => 0) := ((AI_setn (bm_setI (bm_putI (bm_putR B893 8 2 m (some (m + 5))) 8 5 m (-1)) (m + 2) 0 x) 0 1 (m + 3) or_45).trans (show bm_AI (bm_setI (bm_putI (bm_putR B893 8 2 m (some (m + 5))) 8 5 m (-1)) (m + 2) 0 x) (m + 3) = (fun _ => 0) from A911))
  have A920 : bm_AI (bm_setI (bm_setI (bm_putI (bm_putR B893 8 2 m (some (m + 5))) 8 5 m (-1)) (m + 2) 0 x) (m + 5) 0 1) (m + 4) = (fun _ => 0) := ((AI_setn (bm_setI (bm_putI (bm_putR B893 8 2 m (some (m + 5))) 8 5 m (-1)) (m + 2) 0 x) 0 1 (m + 4) or_46).trans (show bm_AI (bm_setI (bm_putI (bm_putR B893 8 2 m (some (m + 5))) 8 5 m (-1)) (m + 2) 0 x) (m + 4) = (fun _ => 0) from A912))
  have A921 : bm_AI (bm_setI (bm_setI (bm_putI (bm_putR B893 8 2 m (some (m + 5))) 8 5 m (-1)) (m + 2) 0 x) (m + 5) 0 1) (m + 5) = (upd (fun _ => 0) 0 1) := ((AI_set (bm_setI (bm_putI (bm_putR B893 8 2 m (some (m + 5))) 8 5 m (-1)) (m + 2) 0 x) (m + 5) 0 1).trans (congrArg (fun f => upd f 0 1) (show bm_AI (bm_setI (bm_putI (bm_putR B893 8 2 m (some (m + 5))) 8 5 m (-1)) (m + 2) 0 x) (m + 5) = (fun _ => 0) from A913)))
  have t922_0 : bm_AR (bm_setI (bm_setI (bm_putI (bm_putR B893 8 2 m (some (m + 5))) 8 5 m (-1)) (m + 2) 0 x) (m + 5) 0 1) (m + 1) 0 = some (m + 2) ∧ bm_AR (bm_setI (bm_setI (bm_putI (bm_putR B893 8 2 m (some (m + 5))) 8 5 m (-1)) (m + 2) 0 x) (m + 5) 0 1) (m + 1) 1 = some (m + 3) := t914_0
  have hn923 : bm_n (bm_setI (bm_setI (bm_putI (bm_putR B893 8 2 m (some (m + 5))) 8 5 m (-1)) (m + 2) 0 x) (m + 5) 0 1) = (m + 6) := hn915
  have sl924 : bm_sl (bm_setI (bm_setI (bm_putI (bm_putR B893 8 2 m (some (m + 5))) 8 5 m (-1)) (m + 2) 0 x) (m + 5) 0 1) = bm_sl B0 + 2157 := sl916
  have f0925 : fr0 B0 (bm_setI (bm_setI (bm_putI (bm_putR B893 8 2 m (some (m + 5))) 8 5 m (-1)) (m + 2) 0 x) (m + 5) 0 1) := fr0_setI f0917 (or_47 hm)
  have z926 : bm_FR (bm_setI (bm_setI (bm_putI (bm_putR B893 8 2 m (some (m + 5))) 8 5 m (-1)) (m + 2) 0 x) (m + 5) 0 1) 8 0 m = some (m + 1) := r895_0
  have z927 : bm_FR (bm_setI (bm_setI (bm_putI (bm_putR B893 8 2 m (some (m + 5))) 8 5 m (-1)) (m + 2) 0 x) (m + 5) 0 1) 8 1 m = some (m + 4) := r895_1
  have z928 : bm_FR (bm_setI (bm_setI (bm_putI (bm_putR B893 8 2 m (some (m + 5))) 8 5 m (-1)) (m + 2) 0 x) (m + 5) 0 1) 8 2 m = some (m + 5) := z900
  have hS : stb (PSt x m) m (m + 6) (bm_setI (bm_setI (bm_putI (bm_putR B893 8 2 m (some (m + 5))) 8 5 m (-1)) (m + 2) 0 x) (m + 5) 0 1) := by
    intro B2 g
    have e0 := g (m + 0) or_3 or_48
    have e1 := g (m + 1) or_5 or_49
    have e2 := g (m + 2) or_7 or_50
    have e3 := g (m + 3) or_25 or_51
    have e4 := g (m + 4) or_27 or_52
    have e5 := g (m + 5) or_29 or_53
    intro T id hz hx
    refine ⟨⟨⟨⟨e0.1, ce_K e0 g895_0⟩, (ce_FR e0 z926), (ce_FR e0 z927), (ce_FR e0 z928), ⟨e1.1, ce_K e1 g895_1, ce_AL e1 w895_0⟩, ⟨e2.1, ce_K e2 g895_2, ce_AL e2 w895_1⟩, ⟨e3.1, ce_K e3 g895_3, ce_AL e3 w895_2⟩, ⟨e4.1, ce_K e4 g895_4, ce_AL e4 w895_3⟩, ⟨e5.1, ce_K e5 h893.2.2.1.2.1, ce_AL e5 h893.2.2.1.2.2⟩⟩, ce_AR e1 t922_0.1, ce_AR e1 t922_0.2⟩, ⟨(ce_FI e0 q895_1), (ce_FI e0 P905), (ce_FI e0 q895_3), fun k q => by simp at q⟩, ⟨congrFun (ce_AI e4 A920) 0, (congrFun (ce_AI e5 A921) 0).trans (by show upd (fun _ => 0) 0 1 0 = nI 1; decide), by show 1 ≤ 536; decide, ?_⟩, 0, congrFun (ce_AI e4 A920) 1, (congrFun (ce_AI e5 A921) 1).trans (by decide), by decide, EN_nil _ _ _⟩
    intro i e he
    rcases i with _ | i
    · simp at he
      subst he
      exact ⟨tvq ((congrFun (ce_AI e2 A918) 0).trans rfl) hx, tvq ((congrFun (ce_AI e2 A918) 1).trans rfl) hz⟩
    · simp at he
  exact g_retv cd_St_init rfl ⟨rfl, kk _ ⟨f0925, ⟨(or_54 hn923), sl924⟩, hS, f895_0, g895_0⟩⟩
