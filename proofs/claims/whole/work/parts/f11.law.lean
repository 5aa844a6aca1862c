/-! The law, from its beginning. -/
def eB : bm_H := (0, 0, fun _ => 0, fun _ _ _ => 0, fun _ _ _ => none, fun _ => 0, fun _ _ => 0, fun _ _ => none)
theorem eB_n : (bm_enc eB).1 = 0 := rfl
set_option maxRecDepth 100000 in
theorem law_all {sc : tm_X} (h3 : sc.1 ≤ 320) : bm_G sc 14 287 0 (tm_ent [.retAddr 0]) [] eB LEND := by
  show bm_G sc 14 287 0 [(0, .retAddr 0)] [] eB LEND
  generalize elv : ([(0, .retAddr 0)] : tm_L) = lv
  have l0 : lv.lookup 0 = some (.retAddr 0) := by rw [← elv]; rfl
  clear elv
  refine n_obj 12 (show bm_n eB = 0 from rfl) cd_Lh rfl rfl rfl rfl (by decide) rfl (fun B1 h1 => ?_)
  refine g_pure (pc' := 4) (st' := [.ref 0, .ref 0]) cd_Lh rfl rfl (fun _ _ => rfl) ?_
  refine g_callv (d := 13) (pc' := 7) cd_Lh rfl rfl rfl rfl rfl (tm_invI rfl rfl cd_Ho_init rfl (Nat.le_of_ble_eq_true rfl)) (i_Ho (d := 8) rfl rfl h1 (fun B2 h2 => ?_))
  show bm_G sc 14 287 7 lv [.ref 0] B2 LEND
  have hn : bm_n B2 = 1482 := by have := h2.2.2.2.2.2.1; omega
  refine g_ast (pc' := 8) cd_Lh rfl (Or.inr ⟨_, rfl, rfl, rfl⟩) rfl (by decide) rfl (fun lv el => ?_)
  have l0 := tm_lk el l0 rfl (by decide)
  have l1 : lv.lookup 1 = some (.ref 0) := tm_lks el
  clear el
  refine n_obj 65 hn cd_Lh rfl rfl rfl rfl (by decide) rfl (fun B3 h4 => ?_)
  refine g_pure (pc' := 12) (st' := [.ref 1482, .ref 1482]) cd_Lh rfl rfl (fun _ _ => rfl) ?_
  refine g_callv (d := 13) (pc' := 15) cd_Lh rfl rfl rfl rfl rfl (tm_invI rfl rfl cd_Mo_init rfl (Nat.le_of_ble_eq_true rfl)) (i_Mo (d := 5) hn h4 (fun B4 q1 q2 q3 q4 q5 => ?_))
  show bm_G sc 14 287 15 lv [.ref 1482] B4 LEND
  refine g_ast (pc' := 16) cd_Lh rfl (Or.inr ⟨_, rfl, rfl, rfl⟩) rfl (by decide) rfl (fun lv el => ?_)
  have l0 := tm_lk el l0 rfl (by decide)
  have l1 := tm_lk el l1 rfl (by decide)
  have l2 : lv.lookup 2 = some (.ref 1482) := tm_lks el
  clear el
  refine g_k1 (v := 0) (pc' := 17) cd_Lh rfl (by decide) rfl ?_
  refine g_ist (pc' := 18) cd_Lh rfl (Or.inr ⟨_, rfl, rfl, rfl⟩) (by decide) rfl (fun lv el => ?_)
  have l0 := tm_lk el l0 rfl (by decide)
  have l1 := tm_lk el l1 rfl (by decide)
  have l2 := tm_lk el l2 rfl (by decide)
  have l3 : lv.lookup 3 = some (.int (nI (5 * 0))) := tm_lks el
  exact law_loop h3 (by decide) (by decide) 65 0 lv B4 rfl (by decide) (JI_0 h2 q1 q2 q3 q4 q5) l0 l1 l2 l3
theorem law_ok (sc : tm_X) (h : sc.1 ≤ 320) : ∃ (fuel : Nat) (h' : tm_H), tm_run sc fuel 14 287 0 (tm_ent [.retAddr 0]) [] (bm_enc eB) = some (some (.int 1), h') ∧ h'.1 ≤ 600000 ∧ h'.2.1 ≤ 7302250 := by
  obtain ⟨f, r, B', e, q1, q2, q3⟩ := law_all h
  subst q1
  exact ⟨f, bm_enc B', e, q2, q3⟩
set_option maxHeartbeats 4000000 in
theorem tm_start2 (hMN : tm_MN) {p : Program} {e : Env} {s : State} {m : MethodId} {below : List Frame} {meth : Method} {c : Code} (l : Launch) {b L : Nat} {xs : Nat → Int32} (hL : L ≤ 320) (C0 : lw_At p s m meth c b L xs) : W p l e room_1 s m #[Value.ref b] below meth c s.heap [] 0 0 (lw_Z below #[Value.ref b] s) (entryFrame m ([Value.ref b] : List Value).toArray 4) := by
  obtain ⟨hx, hb, hr, hml, hown, hts, hX, hbl, hlocks, hgv⟩ := id C0
  have hts' : ∀ w ∈ tm_T, w.before #[Value.ref b] s = true := fun w hw => hts w (List.mem_filter.mp hw).1
  obtain ⟨D, hKc⟩ : ∃ D : va_G, ∀ (k : Nat) (q : vw_C), tm_cl[k]? = some q → u_Kn s q.1 q.2.1 q.2.2 (D.1 k) (D.2 k) := by
    have hex : ∀ k : Nat, ∃ P : ClassId × (Nat → Nat), ∀ q : vw_C, tm_cl[k]? = some q → u_Kn s q.1 q.2.1 q.2.2 P.1 P.2 := by
      intro k
      cases hq : tm_cl[k]? with
      | none => exact ⟨(0, fun _ => 0), fun q h => by cases h⟩
      | some q =>
        obtain ⟨cC, iS, hK⟩ := tm_kn hts' hq
        exact ⟨(cC, iS), fun q' h => by cases h; exact hK⟩
    exact ⟨(fun k => (Classical.choose (hex k)).1, fun k => (Classical.choose (hex k)).2), fun k q h => Classical.choose_spec (hex k) q h⟩
  obtain ⟨cA, hA⟩ : ∃ cA : Nat → ClassId, ∀ (t : Nat) (ty : FieldType), tm_tys[t]? = some ty → ArrOfT s (cA t) ty ∧ va_RA s (cA t) ty := by
    have hex : ∀ t : Nat, ∃ c : ClassId, ∀ ty : FieldType, tm_tys[t]? = some ty → ArrOfT s c ty ∧ va_RA s c ty := by
      intro t
      cases ht : tm_tys[t]? with
      | none => exact ⟨0, fun q h => by cases h⟩
      | some ty =>
        obtain ⟨c, hc⟩ := tm_arr hts ht
        exact ⟨c, fun q h => by cases h; exact hc⟩
    exact ⟨fun t => Classical.choose (hex t), fun t ty h => Classical.choose_spec (hex t) ty h⟩
  have hK : va_K D tm_cl (tm_ty cA) s := by
    refine ⟨hKc, fun k q hk => ?_⟩
    have hlt : k < 9 := by
      have := (List.getElem?_eq_some_iff.mp hk).1
      simpa [tm_ty] using this
    obtain ⟨ty, hty⟩ := tm_tys_lt hlt
    rw [tm_ty_at hty] at hk
    cases hk
    exact hA k ty hty
  have hZ : tm_Z D cA s := by
    refine ⟨hK, fun w hw hn => ?_, fun w hw hn => ?_⟩
    · have h1 := hts w hw
      cases w <;> first | exact va_Nw.of rfl h1 | (simp [tm_isN] at hn)
    · have h1 := hts w hw
      cases w <;> first | exact h1 | (simp [tm_isO] at hn)
  obtain ⟨fuel, h', hrun, hc1, hc2⟩ := law_ok (L, xs) hL
  have C : tm_C D cA s.heap.size b (L, xs) 13 4 code p s m #[Value.ref b] c := ⟨hx, hb, hml, ⟨_, rfl, hown⟩, hts', hZ, hX, hbl⟩
  have key := tm_main hMN l D cA s.heap.size b (L, xs) fuel 14 287 (x, code, maxLocals, ret, 13) 0 (tm_ent [.retAddr 0]) [] (bm_enc eB) (some (.int 1)) h' tm_law_M hrun p e room_1 s m #[Value.ref b] below meth c (lw_Z below #[Value.ref b] s) 0 0 C (by omega) (fun hi => absurd hi (by decide)) (Nat.le_refl _) (by decide) (by show h'.1 - 0 ≤ 600000; omega) (by show h'.2.1 - 0 ≤ 7302250; omega) ?_
  · have hl := lv_entry ([Value.ref b]) (n := 4) (Nat.le_of_ble_eq_true rfl)
    rw [lg_entry_eq]
    have hP : va_P D tm_cl (tm_ws s.heap.size b cA (bm_enc eB)) s.heap := fun k q h => by simp [tm_ws, eB_n] at h
    exact key _ s.heap [] hl ⟨hP, va_S.rf, Nat.le_refl _, Nat.le_refl _⟩
  · intro pc' i st' ls H locs hdec hret hR
    have hst : i = .ireturn ∧ st' = [.int 1] := by
      unfold tm_retOk at hret
      split at hret
      · split at hret
        · cases hret; exact ⟨rfl, rfl⟩
        · cases hret
      · rename_i hrt
        cases hrt
      · rename_i hrt
        cases hrt
      · cases hret
      · cases hret
    obtain ⟨rfl, rfl⟩ := hst
    refine va_forget (fun q hq => hR.2.1.2.2 q hq) ?_
    refine W.widen (k := 600000) (n := 7302250) (by omega) (by omega) ?_
    exact lw_ret hx hb hr hlocks hdec
