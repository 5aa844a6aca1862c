section TA
variable {p : Program} {l : Launch} {e : Env} {R : Room} {s : State} {m : MethodId} {args : Array Value} {below : List Frame} {meth : Method} {c : Code} {Q : State → Prop} {D : va_G} {cA : Nat → ClassId} {z b n0 s0 nL o : Nat} {cc : ByteArray} {sc : tm_X} {pc : Nat} {lv : tm_L} {st : List Value} {h : tm_H} {S' : tm_S}
theorem tm_inB_ok {i : Int32} {n : Nat} (h : tm_inB i n = true) : vp_in i n := by
  unfold tm_inB at h
  unfold vp_in
  exact of_decide_eq_true h
theorem tm_s_iald (C : tm_C D cA z b sc o nL cc p s m args c) (hz : s.heap.size = z + n0) (hd : decode cc pc = .ok (.iaload, 1)) (hst : tm_iald 0 sc pc lv st h = some S') (kk : tm_Wk p l e R s m args below meth c Q D cA z b n0 s0 nL S') : tm_Wk p l e R s m args below meth c Q D cA z b n0 s0 nL (pc, lv, st, h) := by
  intro ls H locs hl hR
  obtain ⟨hx, hb, hml, -, hts, hZ, hX, hbz⟩ := C
  unfold tm_iald at hst
  split at hst
  · rename_i i a r
    split at hst
    · rename_i u n f hg
      split at hst
      · rename_i hc
        obtain ⟨hu, hi⟩ := hc
        subst hu
        cases hst
        obtain ⟨hlt, -, hws⟩ := tm_ws_get (z := z) (b := b) (cA := cA) hg
        exact va_iald hx hb hZ.1 hR.1 a 0 hws (tm_ty_at rfl) (tm_inB_ok hi) hd (kk ls H locs hl hR)
      · cases hst
    · cases hst
  · rename_i i y r
    split at hst
    · rename_i hc
      obtain ⟨-, hi⟩ := hc
      cases hst
      exact va_sld hx hb hX (by omega) (show ¬ z ≤ b by omega) hR.2.1 (tm_inB_ok hi) hd (kk ls H locs hl hR)
    · cases hst
  · cases hst
theorem tm_s_bald (C : tm_C D cA z b sc o nL cc p s m args c) (hd : decode cc pc = .ok (.baload, 1)) (hst : tm_iald 1 sc pc lv st h = some S') (kk : tm_Wk p l e R s m args below meth c Q D cA z b n0 s0 nL S') : tm_Wk p l e R s m args below meth c Q D cA z b n0 s0 nL (pc, lv, st, h) := by
  intro ls H locs hl hR
  obtain ⟨hx, hb, hml, -, hts, hZ, hX, hbz⟩ := C
  unfold tm_iald at hst
  split at hst
  · rename_i i a r
    split at hst
    · rename_i u n f hg
      split at hst
      · rename_i hc
        obtain ⟨hu, hi⟩ := hc
        subst hu
        cases hst
        obtain ⟨hlt, -, hws⟩ := tm_ws_get (z := z) (b := b) (cA := cA) hg
        exact va_zald hx hb hZ.1 hR.1 a 1 hws (tm_ty_at rfl) (tm_inB_ok hi) hd (kk ls H locs hl hR)
      · cases hst
    · cases hst
  · split at hst
    · rename_i hc
      exact absurd hc.1 (by decide)
    · cases hst
  · cases hst
theorem tm_s_iast (C : tm_C D cA z b sc o nL cc p s m args c) (hd : decode cc pc = .ok (.iastore, 1)) (hst : tm_iast 0 pc lv st h = some S') (kk : tm_Wk p l e R s m args below meth c Q D cA z b n0 s0 nL S') : tm_Wk p l e R s m args below meth c Q D cA z b n0 s0 nL (pc, lv, st, h) := by
  intro ls H locs hl hR
  obtain ⟨hx, hb, hml, -, hts, hZ, hX, hbz⟩ := C
  unfold tm_iast at hst
  split at hst
  · rename_i x i a r
    split at hst
    · rename_i u n f hg
      split at hst
      · rename_i hc
        obtain ⟨hu, hi⟩ := hc
        subst hu
        cases hst
        obtain ⟨hlt, -, hws⟩ := tm_ws_get (z := z) (b := b) (cA := cA) hg
        refine va_iast hx hb hZ.1 hR.1 (tm_ws_D z b cA h) hR.2.1 a 0 hws (tm_ty_at rfl) (tm_inB_ok hi) hd fun H1 locs1 hP1 hD1 hS1 => ?_
        have e1 : (tm_ws z b cA h).set a (z + a, .inl (cA 0, n, .inl (upd f i.toNatClampNeg x))) = tm_ws z b cA (tm_put h a (.inl (0, n, upd f i.toNatClampNeg x))) := tm_ws_set hlt (.inl (0, n, upd f i.toNatClampNeg x))
        rw [e1] at hP1
        exact kk ls H1 locs1 hl ⟨hP1, hS1, hR.2.2⟩
      · cases hst
    · cases hst
  · cases hst
theorem tm_s_bast (C : tm_C D cA z b sc o nL cc p s m args c) (hd : decode cc pc = .ok (.bastore, 1)) (hst : tm_iast 1 pc lv st h = some S') (kk : tm_Wk p l e R s m args below meth c Q D cA z b n0 s0 nL S') : tm_Wk p l e R s m args below meth c Q D cA z b n0 s0 nL (pc, lv, st, h) := by
  intro ls H locs hl hR
  obtain ⟨hx, hb, hml, -, hts, hZ, hX, hbz⟩ := C
  unfold tm_iast at hst
  split at hst
  · rename_i x i a r
    split at hst
    · rename_i u n f hg
      split at hst
      · rename_i hc
        obtain ⟨hu, hi⟩ := hc
        subst hu
        cases hst
        obtain ⟨hlt, -, hws⟩ := tm_ws_get (z := z) (b := b) (cA := cA) hg
        refine va_zast hx hb hZ.1 hR.1 (tm_ws_D z b cA h) hR.2.1 a 1 hws (tm_ty_at rfl) (tm_inB_ok hi) hd fun H1 locs1 hP1 hD1 hS1 => ?_
        have e1 : (tm_ws z b cA h).set a (z + a, .inl (cA 1, n, .inl (upd f i.toNatClampNeg (vp_nar .boolean x)))) = tm_ws z b cA (tm_put h a (.inl (1, n, upd f i.toNatClampNeg (vp_nar .boolean x)))) := tm_ws_set hlt (.inl (1, n, upd f i.toNatClampNeg (vp_nar .boolean x)))
        rw [e1] at hP1
        exact kk ls H1 locs1 hl ⟨hP1, hS1, hR.2.2⟩
      · cases hst
    · cases hst
  · cases hst
theorem tm_tr_rf (r : Option Nat) : tm_tr z b (va_rf r) = va_rf (r.map (fun k => z + k)) := by cases r <;> rfl
theorem tm_s_aald (C : tm_C D cA z b sc o nL cc p s m args c) (hd : decode cc pc = .ok (.aaload, 1)) (hst : tm_aald pc lv st h = some S') (kk : tm_Wk p l e R s m args below meth c Q D cA z b n0 s0 nL S') : tm_Wk p l e R s m args below meth c Q D cA z b n0 s0 nL (pc, lv, st, h) := by
  intro ls H locs hl hR
  obtain ⟨hx, hb, hml, -, hts, hZ, hX, hbz⟩ := C
  unfold tm_aald at hst
  split at hst
  · rename_i i a r
    split at hst
    · rename_i u n f hg
      split at hst
      · rename_i ty hty
        split at hst
        · rename_i hc
          obtain ⟨hrk, hi⟩ := hc
          cases hst
          obtain ⟨hlt, -, hws⟩ := tm_ws_get (z := z) (b := b) (cA := cA) hg
          have k1 := kk ls H locs hl hR
          have hin := tm_inB_ok hi
          have hlt2 : i.toNatClampNeg < n := Nat.not_le.mp fun q => hin (Or.inr q)
          simp only [List.map_cons, tm_tr_rf] at k1
          have hcell := hR.1 a _ hws
          exact W.aald (v := va_rf ((f i.toNatClampNeg).map (fun k => z + k))) (ty := ty) hx hb hcell ((hZ.1.2 u _ (tm_ty_at hty)).1 n (fun j => va_rf ((f j).map (fun k => z + k)))) hrk (fun q => by cases q) (by show ¬ (i < 0 ∨ (arrV _ _ _).slots.size ≤ _); rw [arrV_size]; exact hin) (by show (arrV _ _ _).slots[_]? = _; rw [arrV_read _ _ hlt2]) rfl rfl hd k1
        · cases hst
      · cases hst
    · cases hst
  · cases hst
theorem tm_s_aast (C : tm_C D cA z b sc o nL cc p s m args c) (hd : decode cc pc = .ok (.aastore, 1)) (hst : tm_aast pc lv st h = some S') (kk : tm_Wk p l e R s m args below meth c Q D cA z b n0 s0 nL S') : tm_Wk p l e R s m args below meth c Q D cA z b n0 s0 nL (pc, lv, st, h) := by
  intro ls H locs hl hR
  obtain ⟨hx, hb, hml, -, hts, hZ, hX, hbz⟩ := C
  unfold tm_aast at hst
  split at hst
  · rename_i v i a r
    split at hst
    · rename_i u n f cj fs hg hgv
      split at hst
      · rename_i E q hty hq
        split at hst
        · rename_i hc
          obtain ⟨hE, hi⟩ := hc
          subst hE
          cases hst
          obtain ⟨hlt, -, hws⟩ := tm_ws_get (z := z) (b := b) (cA := cA) hg
          obtain ⟨-, -, hwv⟩ := tm_ws_get (z := z) (b := b) (cA := cA) hgv
          refine va_astq hx hb hZ.1 hR.1 (tm_ws_D z b cA h) hR.2.1 a u v cj hws (tm_ty_at hty) hwv hq (tm_inB_ok hi) hd fun H1 locs1 hP1 hD1 hS1 => ?_
          have ef : va_up (fun j => (f j).map (fun k => z + k)) i.toNatClampNeg (some (z + v)) = fun j => ((va_up f i.toNatClampNeg (some v)) j).map (fun k => z + k) := by
            funext j
            by_cases hj : j = i.toNatClampNeg
            · subst hj; simp [va_up]
            · simp [va_up, hj]
          rw [ef] at hP1
          have e1 : (tm_ws z b cA h).set a (z + a, .inl (cA u, n, .inr (.inr (.inr (.inr (fun j => ((va_up f i.toNatClampNeg (some v)) j).map (fun k => z + k))))))) = tm_ws z b cA (tm_put h a (.inr (.inl (u, n, va_up f i.toNatClampNeg (some v))))) := tm_ws_set hlt (.inr (.inl (u, n, va_up f i.toNatClampNeg (some v))))
          rw [e1] at hP1
          exact kk ls H1 locs1 hl ⟨hP1, hS1, hR.2.2⟩
        · cases hst
      · cases hst
    · cases hst
  · cases hst
theorem tm_tys_lt {u : Nat} (h : u < 9) : ∃ ty, tm_tys[u]? = some ty := by
  have hl : u < tm_tys.length := h
  exact ⟨tm_tys[u], List.getElem?_eq_getElem hl⟩
theorem tm_s_alen (C : tm_C D cA z b sc o nL cc p s m args c) (hz : s.heap.size = z + n0) (hd : decode cc pc = .ok (.arraylength, 1)) (hst : tm_alen sc pc lv st h = some S') (kk : tm_Wk p l e R s m args below meth c Q D cA z b n0 s0 nL S') : tm_Wk p l e R s m args below meth c Q D cA z b n0 s0 nL (pc, lv, st, h) := by
  intro ls H locs hl hR
  obtain ⟨hx, hb, hml, -, hts, hZ, hX, hbz⟩ := C
  unfold tm_alen at hst
  split at hst
  · rename_i a r
    split at hst
    · rename_i u n f hg
      split at hst
      · rename_i hu
        cases hst
        obtain ⟨ty, hty⟩ := tm_tys_lt hu
        obtain ⟨hlt, -, hws⟩ := tm_ws_get (z := z) (b := b) (cA := cA) hg
        exact va_alen hx hb hZ.1 hR.1 a u hws (tm_ty_at hty) rfl hd (kk ls H locs hl hR)
      · cases hst
    · rename_i u n f hg
      split at hst
      · rename_i hu
        cases hst
        obtain ⟨ty, hty⟩ := tm_tys_lt hu
        obtain ⟨hlt, -, hws⟩ := tm_ws_get (z := z) (b := b) (cA := cA) hg
        exact va_alen hx hb hZ.1 hR.1 a u hws (tm_ty_at hty) rfl hd (kk ls H locs hl hR)
      · cases hst
    · cases hst
  · cases hst
    exact va_slen hx hb hX (by omega) (show ¬ z ≤ b by omega) hR.2.1 hd (kk ls H locs hl hR)
  · cases hst
end TA
