theorem tm_own_cl_ok : (List.range 13).all (fun k => decide (tm_own[k]? = (tm_cl[k]?).map (fun q => q.1))) = true := by decide +kernel
theorem tm_own_cl {k : Nat} {q : vw_C} {own : String} (hq : tm_cl[k]? = some q) (ho : tm_own[k]? = some own) : q.1 = own := by
  have h1 := List.all_eq_true.mp tm_own_cl_ok k (List.mem_range.mpr (tm_cl_lt hq))
  simp only [decide_eq_true_eq] at h1
  rw [hq, ho] at h1
  simp at h1
  exact h1.symm
section TP
variable {p : Program} {l : Launch} {e : Env} {R : Room} {s : State} {m : MethodId} {args : Array Value} {below : List Frame} {meth : Method} {c : Code} {Q : State → Prop} {D : va_G} {cA : Nat → ClassId} {z b n0 s0 nL o : Nat} {cc : ByteArray} {sc : tm_X} {pc : Nat} {lv : tm_L} {st : List Value} {h : tm_H} {S' : tm_S}
theorem tm_okV_tr {ty : FieldType} {v : Value} (h : tm_okV ty v = true) : narrow ty (tm_tr z b v) = tm_tr z b v ∧ fits ty (tm_tr z b v) = true := by
  unfold tm_okV at h
  simp only [Bool.and_eq_true, decide_eq_true_eq] at h
  obtain ⟨h1, h2⟩ := h
  cases v with
  | ref k => cases ty <;> simp_all [tm_tr, narrow, fits]
  | retAddr k => cases ty <;> simp [fits] at h2
  | _ => exact ⟨h1, h2⟩
theorem tm_s_putf {i : Nat} {ini : Bool} (C : tm_C D cA z b sc o nL cc p s m args c) (hini : ini = true → meth.name = "<init>") (hd : decode cc pc = .ok (.putfield i, 3)) (hst : tm_putf o i pc ini lv st h = some S') (kk : tm_Wk p l e R s m args below meth c Q D cA z b n0 s0 nL S') : tm_Wk p l e R s m args below meth c Q D cA z b n0 s0 nL (pc, lv, st, h) := by
  intro ls H locs hl hR
  obtain ⟨hx, hb, hml, ⟨own, ho, hown⟩, hts, hZ, -⟩ := C
  unfold tm_putf at hst
  split at hst
  · rename_i v a r
    split at hst
    · rename_i x1 x2 ci k nest pos cj fs hf hg
      split at hst
      · rename_i ty hty
        split at hst
        · rename_i hc
          obtain ⟨hc, hok, hkl, hfin⟩ := hc
          subst hc
          cases hst
          obtain ⟨hr1, hr2, hchk⟩ := tm_fld_row hf
          unfold tm_fchk at hchk
          simp only at hr1 hr2 hchk
          subst hr1; subst hr2
          rw [ho] at hchk
          cases hq : tm_cl[ci]? with
          | none => rw [hq] at hchk; cases hchk
          | some q =>
            rw [hq] at hchk
            obtain ⟨C, T, N⟩ := q
            simp only [Bool.and_eq_true, decide_eq_true_eq] at hchk
            obtain ⟨hk, hw⟩ := hchk
            obtain ⟨ts, hts0, htl, hin, htyp, hdecl, hnm⟩ := tm_class hq
            obtain ⟨hlt, -, hws⟩ := tm_ws_get (z := z) (b := b) (cA := cA) hg
            have hfd : parseFieldDescriptor (T k).2.2.1 = some ty := by
              have h1 := htyp k hk
              unfold tm_ftyOf at hty
              rw [hts0] at hty
              simp only [Option.bind_some] at hty
              rw [hty] at h1
              exact h1
            obtain ⟨hn, hfit⟩ := tm_okV_tr (z := z) (b := b) hok
            have hl' : k < (fs.map (tm_tr z b)).length := by rw [List.length_map]; exact hkl
            have hres : ∀ (H1 : Heap) (locs1 : List Loc), va_P D tm_cl ((tm_ws z b cA h).set a (z + a, .inr (ci, (fs.map (tm_tr z b)).set k (tm_tr z b v)))) H1 → va_D (fun q => z ≤ q) ((tm_ws z b cA h).set a (z + a, .inr (ci, (fs.map (tm_tr z b)).set k (tm_tr z b v)))) → va_S (fun q => z ≤ q) s.heap H1 locs1 → W p l e R s m args below meth c H1 locs1 (h.1 - n0) (h.2.1 - s0) Q (F0 m (pc + 3) ls (r.map (tm_tr z b))) := by
              intro H1 locs1 hP1 hD1 hS1
              have hset : (fs.map (tm_tr z b)).set k (tm_tr z b v) = (fs.set k v).map (tm_tr z b) := by rw [List.map_set]
              rw [hset] at hP1
              have e1 : (tm_ws z b cA h).set a (z + a, .inr (ci, (fs.set k v).map (tm_tr z b))) = tm_ws z b cA (tm_put h a (.inr (.inr (ci, fs.set k v)))) := tm_ws_set hlt (.inr (.inr (ci, fs.set k v)))
              rw [e1] at hP1
              exact kk ls H1 locs1 hl ⟨hP1, hS1, hR.2.2⟩
            have hfk : tm_fin ci k = (T k).2.2.2 := by unfold tm_fin; rw [hq]
            split at hw
            · rename_i hnest
              have hff : (T k).2.2.2 = false := by
                rcases hfin with q | q
                · rw [← hfk]; exact q
                · rw [q.2.2.1] at hnest; exact absurd hnest (by decide)
              exact va_putN hx hb hts hin (fun k => (ts[k]?).getD .int) htyp hnm hown hZ.1 hR.1 (tm_ws_D z b cA h) hR.2.1 a hws hq k hk (va_Nw.use rfl (hZ.2.1 _ (List.mem_of_getElem? hw) rfl)) (fun _ h9 => h9) hff hfd hn hfit hl' hd hres
            · rcases hfin with q | q
              · exact va_put hx hb hts hin (fun k => (ts[k]?).getD .int) htyp hnm hown hZ.1 hR.1 (tm_ws_D z b cA h) hR.2.1 a hws hq k hk (hts _ (tm_good_in (List.mem_of_getElem? hw) rfl)) (fun _ h9 => h9) (by rw [← hfk]; exact q) hfd hn hfit hl' hd hres
              · obtain ⟨qf, qi, -, qo⟩ := q
                have hdecl' : (T k).1 = own := by
                  subst qo
                  rw [hdecl k hk]
                  exact tm_own_cl hq ho
                exact va_putF hx hb hts hin (fun k => (ts[k]?).getD .int) htyp hnm hown hZ.1 hR.1 (tm_ws_D z b cA h) hR.2.1 a hws hq k hk (hts _ (tm_good_in (List.mem_of_getElem? hw) rfl)) (fun _ h9 => h9) (by rw [← hfk]; exact qf) (hini qi) hdecl' hfd hn hfit hl' hd hres
        · cases hst
      · cases hst
    · cases hst
  · cases hst
end TP
