theorem tm_rows_1 (k : Nat) : ∀ (n : Nat) (h : tm_H), (tm_rows k n h).1 = h.1 + n
  | 0, h => rfl
  | n + 1, h => by
    show (tm_rows k n h).1 + 1 = _
    rw [tm_rows_1 k n h]; omega
theorem tm_rows_2 (k : Nat) : ∀ (n : Nat) (h : tm_H), (tm_rows k n h).2.1 = h.2.1 + n * k
  | 0, h => by simp [tm_rows]
  | n + 1, h => by
    show (tm_rows k n h).2.1 + k = _
    rw [tm_rows_2 k n h, Nat.succ_mul]; omega
theorem tm_rows_lo (k : Nat) : ∀ (n : Nat) (h : tm_H) (j : Nat), j < h.1 → (tm_rows k n h).2.2 j = h.2.2 j
  | 0, h, j, hj => rfl
  | n + 1, h, j, hj => by
    show va_up (tm_rows k n h).2.2 (tm_rows k n h).1 _ j = _
    rw [tm_rows_1, va_up_ne _ _ (by omega), tm_rows_lo k n h j hj]
theorem tm_rows_hi (k : Nat) : ∀ (n : Nat) (h : tm_H) (j : Nat), j < n → (tm_rows k n h).2.2 (h.1 + j) = .inl (0, k, fun _ => 0)
  | 0, h, j, hj => by omega
  | n + 1, h, j, hj => by
    show va_up (tm_rows k n h).2.2 (tm_rows k n h).1 _ (h.1 + j) = _
    rw [tm_rows_1]
    by_cases e : j = n
    · subst e; rw [va_up_self]
    · rw [va_up_ne _ _ (by omega), tm_rows_hi k n h j (by omega)]
section TM
variable {p : Program} {l : Launch} {e : Env} {R : Room} {s : State} {m : MethodId} {args : Array Value} {below : List Frame} {meth : Method} {c : Code} {Q : State → Prop} {D : va_G} {cA : Nat → ClassId} {z b n0 s0 nL o : Nat} {cc : ByteArray} {sc : tm_X} {pc : Nat} {lv : tm_L} {st : List Value} {h : tm_H} {S' : tm_S}
theorem tm_s_anew {i : Nat} (C : tm_C D cA z b sc o nL cc p s m args c) (hz : s.heap.size = z + n0) (hroom : S'.2.2.2.1 - n0 ≤ R.cells ∧ S'.2.2.2.2.1 - s0 ≤ R.slots) (hd : decode cc pc = .ok (.anewarray i, 3)) (hst : tm_anew o i pc lv st h = some S') (kk : tm_Wk p l e R s m args below meth c Q D cA z b n0 s0 nL S') : tm_Wk p l e R s m args below meth c Q D cA z b n0 s0 nL (pc, lv, st, h) := by
  intro ls H locs hl hR
  obtain ⟨hx, hb, hml, ⟨own, ho, hown⟩, hts, hZ, hX, hbz⟩ := C
  unfold tm_anew at hst
  split at hst
  · rename_i n r
    split at hst
    · rename_i x1 x2 ci rest hr
      split at hst
      · rename_i q hq
        split at hst
        · rename_i t hft
          split at hst
          · rename_i hc
            obtain ⟨hn, hby⟩ := hc
            cases hst
            have hn0 : n0 ≤ h.1 := hR.2.2.1
            have hs0 : s0 ≤ h.2.1 := hR.2.2.2
            simp only [tm_add] at hroom
            obtain ⟨hr1, hr2, hchk⟩ := tm_new_row hr
            unfold tm_nchk at hchk
            simp only at hr1 hr2 hchk
            subst hr1; subst hr2
            rw [ho, hq] at hchk
            obtain ⟨C, T, N⟩ := q
            simp only [Bool.and_eq_true, decide_eq_true_eq] at hchk
            obtain ⟨⟨hw1, -⟩, -⟩ := hchk
            obtain ⟨htl, htd, -⟩ := List.findIdx?_eq_some_iff_getElem.mp hft
            have hty : tm_tys[t]? = some (.object C) := by
              rw [List.getElem?_eq_getElem htl]
              exact congrArg some (of_decide_eq_true htd)
            have hword := tm_ty_word hty
            have ht2 : ¬ t < 2 := by
              intro hlt
              rcases (show t = 0 ∨ t = 1 by omega) with rfl | rfl <;> cases hty
            rw [if_neg ht2] at hword
            have hover : va_AO C s := hZ.2.2 _ hword rfl
            refine va_newq hx hb hown (hts _ (tm_good_in (List.mem_of_getElem? hw1) rfl)) hover hZ.1 hR.1 (tm_ws_D z b cA h) hR.2.1 (fun q hq => by show z ≤ q; omega) hn rfl hby (by dsimp only; omega) (by dsimp only; omega) hd (fun q cX H1 hK1 hP1 hD1 hS1 => ?_)
            refine tm_sz fun hs => ?_
            have hw := tm_where hz hn0 hP1 hD1 hs
            subst hw
            have hcX : cX = cA t := by
              obtain ⟨-, -, -, -, -, h1⟩ := (hZ.1.2 t _ (tm_ty_at hty)).2
              obtain ⟨-, -, -, -, -, h2⟩ := (hK1.2 (tm_ty cA).length (cX, .object C) (by simp)).2
              exact Option.some.inj (Eq.trans (Eq.symm h2) h1)
            subst hcX
            have e1 : tm_ws z b cA h ++ [(z + h.1, .inl (cA t, n.toNatClampNeg, .inr (.inr (.inr (.inr (fun _ => none))))))] = tm_ws z b cA (tm_add h n.toNatClampNeg (.inr (.inl (t, n.toNatClampNeg, fun _ => none)))) := tm_ws_add z b cA h n.toNatClampNeg (.inr (.inl (t, n.toNatClampNeg, fun _ => none)))
            rw [e1] at hP1
            refine tm_Wcells ?_ ?_ (kk ls H1 locs hl ⟨hP1, hS1, ?_, ?_⟩)
            all_goals (simp only [tm_add]; omega)
          · cases hst
        · cases hst
      · cases hst
    · cases hst
  · cases hst
end TM
