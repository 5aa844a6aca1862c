/-! What keeps the devices as they must be -/
theorem on_fill_I {v : Int32} : ∀ (k dr m : Nat) (on : List (Tm × Int32)), (∀ e, e ∈ on → kd e.1 = 1) → (∀ e, e ∈ (on_fill v k dr (nI m) on).1 → kd e.1 = 1) ∧ (on_fill v k dr (nI m) on).1.length = on.length + k ∧ (on_fill v k dr (nI m) on).2 = nI (m + k)
  | 0, dr, m, on, h => ⟨h, rfl, rfl⟩
  | k + 1, dr, m, on, h => by
    have e : nI m + 1 = nI (m + 1) := nI_add m 1
    have r := on_fill_I (v := v) k (dr + 1) (m + 1) (on ++ [(Tsec (nI dr) v 0, nI m + 1)]) (fun x hx => by
      rcases List.mem_append.mp hx with hx | hx
      · exact h x hx
      · rw [List.mem_singleton.mp hx]; rfl)
    show (∀ e, e ∈ (on_fill v k (dr + 1) (nI m + 1) (on ++ [(Tsec (nI dr) v 0, nI m + 1)])).1 → kd e.1 = 1) ∧ (on_fill v k (dr + 1) (nI m + 1) (on ++ [(Tsec (nI dr) v 0, nI m + 1)])).1.length = _ ∧ (on_fill v k (dr + 1) (nI m + 1) (on ++ [(Tsec (nI dr) v 0, nI m + 1)])).2 = _
    rw [e] at r ⊢
    refine ⟨r.1, r.2.1.trans ?_, r.2.2.trans ?_⟩
    · simp only [List.length_append, List.length_cons, List.length_nil]; omega
    · congr 1; omega
theorem DVI_renew {s n : Nat} {D : DV} (dr : Nat) (hn : n ≤ 64) (h : DVI s n D) : DVI s (n + 1) (dv_renew D dr s) := by
  obtain ⟨id, K0, K1, on, lnu, se, me⟩ := D
  obtain ⟨h1, ⟨h2, -⟩, ⟨h3, h3b⟩, ⟨m, h4, rfl⟩, h6, h7, m', h8, h9⟩ := h
  have e : nI m + 1 = nI (m + 1) := nI_add m 1
  have r := on_fill_I (v := nI s) (4 - on.length) (dr + 1) (m + 1) on h3
  show DVI s (n + 1) (id, (Tsec (nI dr) (nI s) 1, nI m + 1, []), K0, (on_fill (nI s) (4 - on.length) (dr + 1) (nI m + 1) on).1, (on_fill (nI s) (4 - on.length) (dr + 1) (nI m + 1) on).2, se, me)
  rw [e]
  have hz : Tsec (nI dr) (nI s) 1 ≠ tz := fun q => nomatch q
  have hz2 : nI (m + 1) ≠ 0 := nI_ne0 (by omega) (by omega)
  refine ⟨h1, ⟨⟨⟨fun q => absurd q hz, fun q => absurd q hz2⟩, ⟨fun _ => hz, fun _ => nI_lt (a := 0) (by omega) (by omega)⟩, fun _ => rfl, Nat.zero_le _⟩, h2⟩, ⟨r.1, ?_⟩, ⟨m + 1 + (4 - on.length), by omega, r.2.2⟩, h6, h7, m', by omega, h9⟩
  rw [r.2.1]; omega
theorem DVI_ses {s n : Nat} {id : Tm} {K0 K1 : PK} {on : List (Tm × Int32)} {lnu : Int32} {se se' : Nat → List SS} {me : Nat → MM} (h : DVI s n (id, K0, K1, on, lnu, se, me)) (h' : SEI s se') : DVI s n (id, K0, K1, on, lnu, se', me) := ⟨h.1, h.2.1, h.2.2.1, h.2.2.2.1, h', h.2.2.2.2.2⟩
theorem DVI_sei {s n : Nat} {id : Tm} {K0 K1 : PK} {on : List (Tm × Int32)} {lnu : Int32} {se : Nat → List SS} {me : Nat → MM} (h : DVI s n (id, K0, K1, on, lnu, se, me)) : SEI s se := h.2.2.2.2.1
theorem MMI_adopt {s : Nat} {M : MM} {v k : Int32} (hv : v ≠ 0) (h : MMI s M) : MMI s (mm_adopt M v k) := by
  obtain ⟨ve, ma, go, ge, ch, si, ix, ga, sl, gv⟩ := M
  obtain ⟨h1, h2, h3, h4⟩ := h
  refine ⟨fun q => absurd q hv, fun q => h2 ?_, ?_, fun p => ?_⟩
  · unfold mm_fresh at q ⊢
    have q : (!decide (ge = 0) && !(if ma &&& (k ^^^ (-1)) = 0 then sl else true)) = true := q
    show (!decide (ge = 0) && !sl) = true
    by_cases c : ma &&& (k ^^^ (-1)) = 0
    · rw [if_pos c] at q; exact q
    · rw [if_neg c] at q; simp at q
  · show (if hbit (ma &&& (k ^^^ (-1))) (nI s) = true then [] else gv s) = []
    split
    · rfl
    · exact h3
  · show (if hbit (ma &&& (k ^^^ (-1))) (nI p) = true then [] else gv p).length ≤ 2 ∧ ∀ G, G ∈ (if hbit (ma &&& (k ^^^ (-1))) (nI p) = true then [] else gv p) → GVI G
    split
    · exact ⟨Nat.zero_le _, fun G hG => absurd hG List.not_mem_nil⟩
    · exact h4 p
theorem MMI_renew {s : Nat} {M : MM} (dr : Nat) (v : Int32) (h : MMI s M) : MMI s (mm_renew M dr v) := by
  obtain ⟨ve, ma, go, ge, ch, si, ix, ga, sl, gv⟩ := M
  exact ⟨h.1, fun _ => rfl, h.2.2.1, h.2.2.2⟩
theorem MMI_ren {s : Nat} {M : MM} (dr : Nat) (v : Int32) (h : MMI s M) : MMI s (mm_ren M dr v) := by
  unfold mm_ren
  split
  · exact h
  · exact MMI_renew dr v h
theorem MMI_gave {s : Nat} {M : MM} (b : Int32) (h : MMI s M) : MMI s (mm_gave M b) := by
  obtain ⟨ve, ma, go, ge, ch, si, ix, ga, sl, gv⟩ := M
  exact h
theorem MMI_posted {s : Nat} {M : MM} (h : MMI s M) : MMI s (mm_posted M) := by
  obtain ⟨ve, ma, go, ge, ch, si, ix, ga, sl, gv⟩ := M
  exact h
theorem MMI_set {s p : Nat} {M : MM} {l : List GV} (hp : p ≠ s) (h : MMI s M) (h2 : l.length ≤ 2) (hl : ∀ G, G ∈ l → GVI G) : MMI s (mm_set M p l) := by
  obtain ⟨ve, ma, go, ge, ch, si, ix, ga, sl, gv⟩ := M
  refine ⟨h.1, h.2.1, (fset_ne (Ne.symm hp)).trans h.2.2.1, fun q => ?_⟩
  show (fset gv p l q).length ≤ 2 ∧ ∀ G, G ∈ fset gv p l q → GVI G
  by_cases c : q = p
  · rw [c, fset_same]; exact ⟨h2, hl⟩
  · rw [fset_ne c]; exact h.2.2.2 q
theorem mm_1 (M : MM) (v : Int32) (dr : Nat) (b : Int32) : (mm_ren M dr v).1 = M.1 ∧ (mm_gave M b).1 = M.1 ∧ (mm_posted M).1 = M.1 := by
  obtain ⟨ve, ma, go, ge, ch, si, ix, ga, sl, gv⟩ := M
  refine ⟨?_, rfl, rfl⟩
  unfold mm_ren
  split <;> rfl
theorem mm_set_1 (M : MM) (p : Nat) (l : List GV) : (mm_set M p l).1 = M.1 := by
  obtain ⟨ve, ma, go, ge, ch, si, ix, ga, sl, gv⟩ := M
  rfl
/-- groups as they must be -/
def MEI (s n : Nat) (me : Nat → MM) : Prop := (∀ g, MMI s (me g)) ∧ ∃ m, m ≤ n ∧ (me s).1 = nI m
theorem DVI_mei {s n : Nat} {id : Tm} {K0 K1 : PK} {on : List (Tm × Int32)} {lnu : Int32} {se : Nat → List SS} {me : Nat → MM} (h : DVI s n (id, K0, K1, on, lnu, se, me)) : MEI s n me := h.2.2.2.2.2
theorem DVI_grp {s n : Nat} {id : Tm} {K0 K1 : PK} {on : List (Tm × Int32)} {lnu : Int32} {se : Nat → List SS} {me me' : Nat → MM} (h : DVI s n (id, K0, K1, on, lnu, se, me)) (h' : MEI s n me') : DVI s n (id, K0, K1, on, lnu, se, me') := ⟨h.1, h.2.1, h.2.2.1, h.2.2.2.1, h.2.2.2.2.1, h'⟩
theorem MEI_set {s n g : Nat} {me : Nat → MM} {M : MM} (h : MEI s n me) (hM : MMI s M) (h1 : g = s → ∃ m, m ≤ n ∧ M.1 = nI m) : MEI s n (fset me g M) := by
  refine ⟨fun q => ?_, ?_⟩
  · by_cases c : q = g
    · rw [c, fset_same]; exact hM
    · rw [fset_ne c]; exact h.1 q
  · by_cases c : g = s
    · rw [← c, fset_same]; exact h1 c
    · rw [fset_ne (Ne.symm c)]; exact h.2
theorem MEI_set1 {s n g : Nat} {me : Nat → MM} {M : MM} (h : MEI s n me) (hM : MMI s M) (h1 : M.1 = (me g).1) : MEI s n (fset me g M) := MEI_set h hM (fun e => by rw [h1, e]; exact h.2)
theorem DVI_list {s n : Nat} {id : Tm} {K0 K1 : PK} {on : List (Tm × Int32)} {lnu : Int32} {se : Nat → List SS} {me : Nat → MM} (hn : n ≤ 64) (k : Int32) (h : DVI s n (id, K0, K1, on, lnu, se, me)) : DVI s (n + 1) (id, K0, K1, on, lnu, se, fset me s (mm_adopt (me s) ((me s).1 + 1) k)) := by
  have h' := DVI_mono (Nat.le_succ n) h
  obtain ⟨m, hm, em⟩ := (DVI_mei h).2
  have e : (me s).1 + 1 = nI (m + 1) := by rw [em]; exact nI_add m 1
  refine DVI_grp h' (MEI_set (DVI_mei h') (MMI_adopt ?_ ((DVI_mei h).1 s)) (fun _ => ⟨m + 1, by omega, ?_⟩))
  · rw [e]; exact nI_ne0 (by omega) (by omega)
  · generalize me s = M at e ⊢
    obtain ⟨ve, ma, go, ge, ch, si, ix, ga, sl, gv⟩ := M
    exact e
/-- post -/
def HSI (s n : Nat) (H : HS) : Prop := SEI s H.1 ∧ MEI s n H.2.1
theorem HSI_1 {id : Tm} {ids : Nat → Tm} {s n g p : Nat} {Y : Tm} {H : HS} (hpub : ∀ i, kd (pt (pt (H.2.2.1 i) 1) 0) = 2 → kd (pt (pt (pt (H.2.2.1 i) 1) 0) 0) = 1) (h : HSI s n H) : HSI s n (ho1 id ids s g Y p H) := by
  obtain ⟨se, me, dir, dr, wt⟩ := H
  obtain ⟨h1, h2⟩ := h
  by_cases c : p = s ∨ hbit (me g).2.1 (nI p) = false ∨ hbit (me g).2.2.2.2.2.2.2.1 (nI p) = true
  · rw [ho1_skip (H := (se, me, dir, dr, wt)) c]; exact ⟨h1, h2⟩
  · have hps : p ≠ s := fun e => c (Or.inl e)
    have hme : MEI s n (fset me g (mm_gave (me g) (1 <<< (nI p &&& 31)))) := MEI_set1 h2 (MMI_gave _ (h2.1 g)) (mm_1 (me g) 0 0 _).2.1
    cases hs : se p with
    | nil =>
      by_cases hz : an_pre dir ids p = tz
      · rw [ho1_none (H := (se, me, dir, dr, wt)) c hs hz]; exact ⟨h1, h2⟩
      · have hw : ho_way id ids s p se dir dr = some (fset se p [op_ses id (Tsec (nI dr) (nI s) 0) (Tsec (nI (dr + 1)) (nI s) 2) (ids p) (an_pre dir ids p) (an_once dir p 4 (p * 5 + 1)).1], (an_once dir p 4 (p * 5 + 1)).2, dr + 2) := by unfold ho_way; rw [hs]; exact cif_f hz
        rw [ho1_some (H := (se, me, dir, dr, wt)) c hw (fset_same _ _ _)]
        refine ⟨?_, hme⟩
        show SEI s (fset (fset se p _) p _)
        rw [fset_fset]
        have hP := an_pre_kd hz
        have hP1 : kd (pt (an_pre dir ids p) 0) = 1 := by
          unfold an_pre at hz hP ⊢
          by_cases q : kd (dir (p * 5)) = 6 ∧ pt (dir (p * 5)) 0 = ids p ∧ Tgood 1 (pt (dir (p * 5)) 1) = true ∧ nu (pt (dir (p * 5)) 1) 0 = nI p
          · rw [cif_t q] at hP ⊢; exact hpub (p * 5) hP
          · rw [cif_f q] at hz; exact absurd rfl hz
        refine SEI_set hps h1 (by simp) (fun S hS => ?_)
        rw [List.mem_singleton.mp hS]
        exact SSI_sent (SSI_open hP hP1 rfl) rfl
    | cons S0 l =>
      have hw : ho_way id ids s p se dir dr = some (se, dir, dr) := by unfold ho_way; rw [hs]
      rw [ho1_some (H := (se, me, dir, dr, wt)) c hw hs]
      have hl : (se p).length ≤ 2 ∧ ∀ S, S ∈ se p → SSI S := h1.2 p
      rw [hs] at hl
      refine ⟨SEI_set hps h1 hl.1 (fun S hS => ?_), hme⟩
      rcases List.mem_cons.mp hS with rfl | hS
      · exact SSI_sent (hl.2 S0 (List.mem_cons_self ..)) rfl
      · exact hl.2 S (List.mem_cons_of_mem _ hS)
theorem an_once_pub {dir : Nat → Tm} {p : Nat} (h : ∀ i, kd (pt (pt (dir i) 1) 0) = 2 → kd (pt (pt (pt (dir i) 1) 0) 0) = 1) : ∀ (n i : Nat), ∀ j, kd (pt (pt ((an_once dir p n i).2 j) 1) 0) = 2 → kd (pt (pt (pt ((an_once dir p n i).2 j) 1) 0) 0) = 1
  | 0, _, j => h j
  | n + 1, i, j => by
    unfold an_once
    by_cases c : tnil (dir i) = true
    · rw [if_pos c]; exact an_once_pub h n (i + 1) j
    · rw [if_neg c]
      show kd (pt (pt (fset dir i tz j) 1) 0) = 2 → kd (pt (pt (pt (fset dir i tz j) 1) 0) 0) = 1
      by_cases q : j = i
      · rw [q, fset_same]; exact fun z => absurd z (by decide)
      · rw [fset_ne q]; exact h j
theorem ho1_pub {id : Tm} {ids : Nat → Tm} {s g p : Nat} {Y : Tm} {H : HS} (h : ∀ i, kd (pt (pt (H.2.2.1 i) 1) 0) = 2 → kd (pt (pt (pt (H.2.2.1 i) 1) 0) 0) = 1) : ∀ i, kd (pt (pt ((ho1 id ids s g Y p H).2.2.1 i) 1) 0) = 2 → kd (pt (pt (pt ((ho1 id ids s g Y p H).2.2.1 i) 1) 0) 0) = 1 := by
  obtain ⟨se, me, dir, dr, wt⟩ := H
  by_cases c : p = s ∨ hbit (me g).2.1 (nI p) = false ∨ hbit (me g).2.2.2.2.2.2.2.1 (nI p) = true
  · rw [ho1_skip (H := (se, me, dir, dr, wt)) c]; exact h
  · cases hs : se p with
    | nil =>
      by_cases hz : an_pre dir ids p = tz
      · rw [ho1_none (H := (se, me, dir, dr, wt)) c hs hz]; exact h
      · have hw : ho_way id ids s p se dir dr = some (fset se p [op_ses id (Tsec (nI dr) (nI s) 0) (Tsec (nI (dr + 1)) (nI s) 2) (ids p) (an_pre dir ids p) (an_once dir p 4 (p * 5 + 1)).1], (an_once dir p 4 (p * 5 + 1)).2, dr + 2) := by unfold ho_way; rw [hs]; exact cif_f hz
        rw [ho1_some (H := (se, me, dir, dr, wt)) c hw (fset_same _ _ _)]
        exact an_once_pub h 4 (p * 5 + 1)
    | cons S0 l =>
      have hw : ho_way id ids s p se dir dr = some (se, dir, dr) := by unfold ho_way; rw [hs]
      rw [ho1_some (H := (se, me, dir, dr, wt)) c hw hs]
      exact h
theorem HSI_n {id : Tm} {ids : Nat → Tm} {s m g : Nat} {Y : Tm} : ∀ (n p : Nat) (H : HS), (∀ i, kd (pt (pt (H.2.2.1 i) 1) 0) = 2 → kd (pt (pt (pt (H.2.2.1 i) 1) 0) 0) = 1) → HSI s m H → HSI s m (ho id ids s g Y n p H)
  | 0, _, _, _, h => h
  | n + 1, p, H, hd, h => HSI_n n (p + 1) _ (ho1_pub hd) (HSI_1 hd h)
theorem DVI_post {s n g : Nat} {id : Tm} {ids : Nat → Tm} {K0 K1 : PK} {on : List (Tm × Int32)} {lnu : Int32} {se : Nat → List SS} {me : Nat → MM} {dir : Nat → Tm} {dr : Nat} (hd : ∀ i, kd (pt (pt (dir i) 1) 0) = 2 → kd (pt (pt (pt (dir i) 1) 0) 0) = 1) (h : DVI s n (id, K0, K1, on, lnu, se, me)) : DVI s n (id, K0, K1, on, lnu, (po_hand id ids s g se me dir dr).1, fset (po_hand id ids s g se me dir dr).2.1 g (mm_posted ((po_hand id ids s g se me dir dr).2.1 g))) := by
  have hm := DVI_mei h
  have h0 : HSI s n (po_hand id ids s g se me dir dr) := HSI_n 6 0 _ hd ⟨DVI_sei h, MEI_set1 hm (MMI_ren _ _ (hm.1 g)) (mm_1 (me g) _ _ 0).1⟩
  exact DVI_ses (DVI_grp h (MEI_set1 h0.2 (MMI_posted (h0.2.1 g)) (mm_1 _ 0 0 0).2.2)) h0.1
