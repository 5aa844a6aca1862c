/-! Terms: what making a term keeps -/
/-- all is as it was but Terms' own: its size and draws, its cells, buckets and draft -/
def te_fr (B B' : bm_H) (a ca ba da : Nat) : Prop := bm_n B' = bm_n B ∧ bm_sl B' = bm_sl B ∧ bm_K B' = bm_K B ∧ (∀ c k x, ¬ (c = 9 ∧ (k = 4 ∨ k = 5) ∧ x = a) → bm_FI B' c k x = bm_FI B c k x) ∧ bm_FR B' = bm_FR B ∧ bm_AL B' = bm_AL B ∧ (∀ x, x ≠ ca → x ≠ ba → x ≠ da → bm_AI B' x = bm_AI B x) ∧ bm_AR B' = bm_AR B
theorem te_fr_rfl (B : bm_H) (a ca ba da : Nat) : te_fr B B a ca ba da := ⟨rfl, rfl, rfl, fun _ _ _ _ => rfl, rfl, rfl, fun _ _ _ _ => rfl, rfl⟩
theorem te_fr_trans {B B1 B2 : bm_H} {a ca ba da : Nat} (h : te_fr B B1 a ca ba da) (g : te_fr B1 B2 a ca ba da) : te_fr B B2 a ca ba da := by
  obtain ⟨h1, h2, h3, h4, h5, h6, h7, h8⟩ := h
  obtain ⟨g1, g2, g3, g4, g5, g6, g7, g8⟩ := g
  exact ⟨g1.trans h1, g2.trans h2, g3.trans h3, fun c k x q => (g4 c k x q).trans (h4 c k x q), g5.trans h5, g6.trans h6, fun x q1 q2 q3 => (g7 x q1 q2 q3).trans (h7 x q1 q2 q3), g8.trans h8⟩
/-- the same Terms in another heap -/
theorem te_ok_of {B B' : bm_H} {a ca ba da rm sz dr sz' dr' : Nat} (hT : te_ok B a ca ba da rm sz dr) (h : te_fr B B' a ca ba da) (h1 : bm_FI B' 9 4 a = nI sz') (h2 : bm_FI B' 9 5 a = nI dr') (h3 : 1 ≤ sz' ∧ sz' ≤ rm) : te_ok B' a ca ba da rm sz' dr' := by
  obtain ⟨t1, t2, t3, t4, t5, t6⟩ := hT
  obtain ⟨f1, f2, f3, f4, f5, f6, f7, f8⟩ := h
  unfold te_ok
  rw [f1, f3, f5, f6, f4 9 3 a (by simp)]
  exact ⟨t1, t2, t3, ⟨t4.1, h1, h2⟩, ⟨h3.1, h3.2, t5.2.2⟩, t6⟩
theorem te_dset_fr (B : bm_H) (a ca ba da : Nat) (f : Nat → Int32) : te_fr B (te_dset B da f) a ca ba da := ⟨rfl, rfl, rfl, fun _ _ _ _ => rfl, rfl, rfl, fun x _ _ h => by
  funext q
  exact if_neg h, rfl⟩
theorem te_dset_AI {B : bm_H} {da x : Nat} {f : Nat → Int32} (h : x ≠ da) : bm_AI (te_dset B da f) x = bm_AI B x := by
  funext q
  exact if_neg h
theorem te_dset_da {B : bm_H} {da k : Nat} {f : Nat → Int32} (h : k < 10) : bm_AI (te_dset B da f) da k = f k := by
  show (if da = da then (if k < 10 then f k else bm_AI B da k) else bm_AI B da k) = f k
  rw [if_pos rfl, if_pos h]
theorem te_dset_ok {B : bm_H} {a ca ba da rm sz dr : Nat} {f : Nat → Int32} (hT : te_ok B a ca ba da rm sz dr) : te_ok (te_dset B da f) a ca ba da rm sz dr := te_ok_of hT (te_dset_fr B a ca ba da f) hT.2.2.2.1.2.1 hT.2.2.2.1.2.2 ⟨hT.2.2.2.2.1.1, hT.2.2.2.2.1.2.1⟩
theorem te_last_congr {fc fc' : Nat → Int32} {s : Nat} : ∀ {n : Nat}, (∀ t, t < n → ∀ k, k < 10 → te_row fc' t k = te_row fc t k) → te_last fc' s n = te_last fc s n
  | 0, _ => rfl
  | n + 1, h => by
    unfold te_last
    rw [te_last_congr (fun t ht => h t (by omega)), te_sn_congr (h n (by omega))]
section TNW
variable {B : bm_H} {a ca ba da rm sz dr : Nat}
theorem te_new_fr : te_fr B (te_new B a ca ba da sz) a ca ba da := by
  refine ⟨rfl, rfl, rfl, fun c k x h => ?_, rfl, rfl, fun x h1 h2 h3 => ?_, rfl⟩
  · show (if c = 9 ∧ k = 4 ∧ x = a then _ else _) = _
    rw [if_neg (fun q => h ⟨q.1, Or.inl q.2.1, q.2.2⟩)]
    rfl
  · funext q
    show (if x = ba ∧ q = _ then _ else if x = ca ∧ q = _ then _ else if x = ca then _ else bm_AI B x q) = bm_AI B x q
    rw [if_neg (fun w => h2 w.1), if_neg (fun w => h1 w.1), if_neg h1]
theorem te_new_ca (hT : te_ok B a ca ba da rm sz dr) (q : Nat) : bm_AI (te_new B a ca ba da sz) ca q = if q = sz * 11 + 10 then bm_AI B ba (te_sn (bm_AI B da)) else va_cpy (bm_AI B da) (bm_AI B ca) 0 (sz * 11) 10 q := by
  have hne := hT.2.2.2.2.2.1
  show (if ca = ba ∧ q = _ then _ else if ca = ca ∧ q = sz * 11 + 10 then _ else if ca = ca then _ else _) = _
  rw [if_neg (fun w => hne w.1)]
  by_cases h : q = sz * 11 + 10
  · rw [if_pos ⟨rfl, h⟩, if_pos h]
  · rw [if_neg (fun w => h w.2), if_neg h, if_pos rfl]
theorem te_new_ba (hT : te_ok B a ca ba da rm sz dr) (q : Nat) : bm_AI (te_new B a ca ba da sz) ba q = if q = te_sn (bm_AI B da) then nI sz else bm_AI B ba q := by
  have hne := hT.2.2.2.2.2.1
  show (if ba = ba ∧ q = te_sn (bm_AI B da) then _ else if ba = ca ∧ q = sz * 11 + 10 then _ else if ba = ca then _ else _) = _
  by_cases h : q = te_sn (bm_AI B da)
  · rw [if_pos ⟨rfl, h⟩, if_pos h]
  · rw [if_neg (fun w => h w.2), if_neg h, if_neg (fun w => hne w.1.symm), if_neg (Ne.symm hne)]
theorem te_new_old (hT : te_ok B a ca ba da rm sz dr) {t k : Nat} (ht : t < sz) (hk : k < 11) : bm_AI (te_new B a ca ba da sz) ca (t * 11 + k) = bm_AI B ca (t * 11 + k) := by
  rw [te_new_ca hT, if_neg (by omega), pk_cpy_out (by omega)]
theorem te_new_row (hT : te_ok B a ca ba da rm sz dr) {k : Nat} (hk : k < 10) : bm_AI (te_new B a ca ba da sz) ca (sz * 11 + k) = bm_AI B da k := by
  rw [te_new_ca hT, if_neg (by omega), pk_cpy_in (by omega) (by omega)]
  congr 1
  omega
theorem te_new_ok (hT : te_ok B a ca ba da rm sz dr) (hrm : sz < rm) : te_ok (te_new B a ca ba da sz) a ca ba da rm (sz + 1) dr := by
  refine te_ok_of hT te_new_fr ?_ ?_ ⟨by omega, by omega⟩
  · show (if 9 = 9 ∧ 4 = 4 ∧ a = a then _ else _) = _
    rw [if_pos ⟨rfl, rfl, rfl⟩]
  · exact hT.2.2.2.1.2.2
theorem te_new_tab (hT : te_ok B a ca ba da rm sz dr) (hB : te_tab (bm_AI B ca) (bm_AI B ba) sz) (hno : ∀ t, 0 < t → t < sz → ¬ te_alike B ca da t) : te_tab (bm_AI (te_new B a ca ba da sz) ca) (bm_AI (te_new B a ca ba da sz) ba) (sz + 1) := by
  have h1 : 1 ≤ sz := hT.2.2.2.2.1.1
  have hold : ∀ t, t < sz → ∀ k, k < 10 → te_row (bm_AI (te_new B a ca ba da sz) ca) t k = te_row (bm_AI B ca) t k := fun t ht k hk => te_new_old hT ht (by omega)
  have hl : ∀ s n, n ≤ sz → te_last (bm_AI (te_new B a ca ba da sz) ca) s n = te_last (bm_AI B ca) s n := fun s n hn => te_last_congr (fun t ht => hold t (by omega))
  have hs : te_sn (te_row (bm_AI (te_new B a ca ba da sz) ca) sz) = te_sn (bm_AI B da) := te_sn_congr (fun k hk => te_new_row hT hk)
  refine ⟨fun s hs2 => ?_, fun t t0 t1 => ?_, fun t u t0 t1 u0 u1 heq => ?_⟩
  · rw [te_new_ba hT]
    unfold te_last
    rw [hs, hl s sz (Nat.le_refl _)]
    by_cases e : s = te_sn (bm_AI B da)
    · rw [if_pos e, if_pos ⟨by omega, e.symm⟩]
    · rw [if_neg e, if_neg (fun w => e w.2.symm)]
      exact hB.1 s hs2
  · by_cases e : t = sz
    · subst e
      rw [te_new_ca hT, if_pos rfl, hs, hl _ t (Nat.le_refl _)]
      exact hB.1 _ (te_slot_nI (bm_AI B da)).2
    · rw [te_new_old hT (by omega) (by decide), te_sn_congr (hold t (by omega)), hl _ t (by omega)]
      exact hB.2.1 t t0 (by omega)
  · by_cases e1 : t = sz <;> by_cases e2 : u = sz
    · omega
    · subst e1
      exact absurd (fun k hk => ((heq k hk).symm.trans (te_new_row hT hk) |> fun q => (hold u (by omega) k hk).symm.trans q : bm_AI B ca (u * 11 + k) = bm_AI B da k)) (hno u u0 (by omega))
    · subst e2
      exact absurd (fun k hk => ((hold t (by omega) k hk).symm.trans ((heq k hk).trans (te_new_row hT hk)) : bm_AI B ca (t * 11 + k) = bm_AI B da k)) (hno t t0 (by omega))
    · exact hB.2.2 t u t0 (by omega) u0 (by omega) (fun k hk => (hold t (by omega) k hk).symm.trans ((heq k hk).trans (hold u (by omega) k hk)))
end TNW
/-- a term r with the row f is there behind a making; all terms that were there are -/
def te_made (B B' : bm_H) (a ca ba da rm sz dr : Nat) (f : Nat → Int32) (r sz' : Nat) : Prop := te_ok B' a ca ba da rm sz' dr ∧ te_tab (bm_AI B' ca) (bm_AI B' ba) sz' ∧ (0 < r ∧ r < sz') ∧ (∀ k, k < 10 → bm_AI B' ca (r * 11 + k) = f k) ∧ (∀ t k, t < sz → k < 10 → bm_AI B' ca (t * 11 + k) = bm_AI B ca (t * 11 + k)) ∧ (sz' = sz ∨ sz' = sz + 1 ∧ r = sz) ∧ te_fr B B' a ca ba da
theorem te_mk {sc : tm_X} {d : Nat} {B : bm_H} {a ca ba da rm sz dr : Nat} {f : Nat → Int32} {Q : Int32 → bm_H → Prop} (hT : te_ok B a ca ba da rm sz dr) (hB : te_tab (bm_AI B ca) (bm_AI B ba) sz) (hrm : sz < rm) (kk : ∀ B' r sz', te_made B B' a ca ba da rm sz dr f r sz' → Q (nI r) B') : bm_Gi sc (d + 1) 15 [.ref a] (te_dset B da f) Q := by
  have hcd : ca ≠ da := hT.2.2.2.2.2.2.1
  have hbd : ba ≠ da := hT.2.2.2.2.2.2.2
  have hT2 := te_dset_ok (f := f) hT
  have hB2 : te_tab (bm_AI (te_dset B da f) ca) (bm_AI (te_dset B da f) ba) sz := by rw [te_dset_AI hcd, te_dset_AI hbd]; exact hB
  have hal : ∀ t, te_alike (te_dset B da f) ca da t → ∀ k, k < 10 → bm_AI B ca (t * 11 + k) = f k := fun t h k hk => by
    have := h k hk
    rwa [te_dset_AI hcd, te_dset_da hk] at this
  refine k_Te_intern hT2 hB2 hrm (fun t t0 t1 h => ?_) (fun hno => ?_)
  · refine kk _ t sz ⟨hT2, hB2, ⟨t0, t1⟩, fun k hk => ?_, fun u k _ _ => ?_, Or.inl rfl, te_dset_fr B a ca ba da f⟩
    · rw [te_dset_AI hcd]; exact hal t h k hk
    · rw [te_dset_AI hcd]
  · refine kk _ sz (sz + 1) ⟨te_new_ok hT2 hrm, te_new_tab hT2 hB2 hno, ⟨hT.2.2.2.2.1.1, by omega⟩, fun k hk => ?_, fun u k hu hk => ?_, Or.inr ⟨rfl, rfl⟩, te_fr_trans (te_dset_fr B a ca ba da f) te_new_fr⟩
    · rw [te_new_row hT2 hk, te_dset_da hk]
    · rw [te_new_old hT2 hu (by omega), te_dset_AI hcd]
