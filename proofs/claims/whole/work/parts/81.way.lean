/-! A session of the device that is worked on -/
theorem ses_at {B : bm_H} {F : Nat → Prop} {N S M ln : Nat} {T : List Tm} {dr : Nat} {K : Tm → Prop} {ca rm kc kl rk : Nat} {ws : List (Tm × Int32)} {wt : List Tm} {G : LG} {ids dir reg : Nat → Tm} {seen : List Tm} {π : Nat → Nat} {w : Nat → SW} {dev : Nat → DV} {sto : Nat → ST} {id : Tm} {K0 K1 : PK} {on : List (Tm × Int32)} {lnu : Int32} {se : Nat → List SS} {me : Nat → MM} {p k : Nat} {S0 : SS} (hC : CK B F N S M ln T dr K ca rm kc kl rk) (hH : RH B T ws wt G ids dir reg seen π w dev sto) (hp : p < 6) (eD : dev 6 = (id, K0, K1, on, lnu, se, me)) (hk : (se p)[k]? = some S0) : RSe B T (sA (rb (π 6)) (w 6).2.1 p k) S0 ∧ (∀ y, (sA (rb (π 6)) (w 6).2.1 p k) ≤ y → y < (sA (rb (π 6)) (w 6).2.1 p k) + 3 → ¬ tcs 1 ca 3 4 y) ∧ rb (π 6) ≤ (sA (rb (π 6)) (w 6).2.1 p k) ∧ (sA (rb (π 6)) (w 6).2.1 p k) + 3 ≤ rb (π 6) + 203 ∧ 25 ≤ rb (π 6) ∧ rb (π 6) + 203 ≤ 1482 := by
  have hV := hH.2.2.2.2.1
  have r6 := rb_in (hV.2.2.1 6 (by decide))
  have hW := hV.2.2.2.2 6 (by decide)
  rw [eD] at hW
  have hg := RSs_get (hW.2.2.2.2.1 p hp) hk
  have i := sA_in (rb (π 6)) (w 6).2.1 hp hg.1
  exact ⟨hg.2.1, fun y a b => CK_tcs hC (by omega) (by omega), by omega, by omega, r6⟩
theorem RH_ses {B : bm_H} {F : Nat → Prop} {N S M ln : Nat} {T : List Tm} {dr : Nat} {K : Tm → Prop} {ca rm kc kl rk : Nat} {ws : List (Tm × Int32)} {wt : List Tm} {G : LG} {ids dir reg : Nat → Tm} {seen : List Tm} {π : Nat → Nat} {w : Nat → SW} {dev : Nat → DV} {sto : Nat → ST} {id : Tm} {K0 K1 : PK} {on : List (Tm × Int32)} {lnu : Int32} {se : Nat → List SS} {me : Nat → MM} {p k : Nat} {S0 S' : SS} (hC : CK B F N S M ln T dr K ca rm kc kl rk) (hH : RH B T ws wt G ids dir reg seen π w dev sto) (hp : p < 6) (eD : dev 6 = (id, K0, K1, on, lnu, se, me)) (hk : (se p)[k]? = some S0) {B' : bm_H} {T' : List Tm} {dr' : Nat} (hT' : TI B' 1 ca 3 4 rm dr' T') (hf : fz (sxs 1 ca 3 4 (sA (rb (π 6)) (w 6).2.1 p k)) B B') (hT : T <+: T') (hn : RSe B' T' (sA (rb (π 6)) (w 6).2.1 p k) S') : CK B' F N S M ln T' dr' K ca rm kc kl rk ∧ RH B' T' ws wt G ids dir reg seen π w (fset dev 6 (id, K0, K1, on, lnu, fset se p ((se p).set k S'), me)) sto ∧ fz (dxs 1 ca 3 4 (rb (π 6))) B B' := by
  obtain ⟨h1, h2, h3, h4, h5, h6⟩ := ses_at hC hH hp eD hk
  have hW := hH.2.2.2.2.1.2.2.2.2 6 (by decide)
  rw [eD] at hW
  have hl := (List.getElem?_eq_some_iff.mp hk).1
  have hD := RDe_ses hW hp hl hf.1 (fun y a b c q => by
    rcases q with q | q | q | q
    · exact CK_tcs hC (by omega) (by omega) q
    · omega
    · omega
    · omega) hT hn
  have hz : fz (dxs 1 ca 3 4 (rb (π 6))) B B' := fz_mono (fun y q => by
    rcases q with q | q | q | q
    · exact Or.inl q
    · exact Or.inr (by omega)
    · exact Or.inr (by omega)
    · exact Or.inr (by omega)) hf
  have hR := RH_work hC hH hz hT hD
  rw [fset_eta] at hR
  exact ⟨CK_work hC hH hT' hz hT, hR, hz⟩
def dr_turn (S : SS) (dr : Nat) : Nat := if tnil S.2.2.2.2.1 = true then dr + 1 else dr
theorem ss_turn_id {S : SS} {n : Tm} (h : S.2.2.2.2.1 ≠ tz) : ss_turn S n = S := by
  obtain ⟨I, ba, ro, mi, se, n', b, br, bp, bo, on⟩ := S
  exact cif_f h
theorem set_self {α : Type} {l : List α} {k : Nat} {a : α} (h : l[k]? = some a) : l.set k a = l := by
  obtain ⟨hl, rfl⟩ := List.getElem?_eq_some_iff.mp h
  exact List.set_getElem_self hl
theorem t_turnH {sc : tm_X} {d : Nat} {B : bm_H} {F : Nat → Prop} {N S M ln : Nat} {T : List Tm} {dr : Nat} {K : Tm → Prop} {ca rm kc kl rk : Nat} {ws : List (Tm × Int32)} {wt : List Tm} {G : LG} {ids dir reg : Nat → Tm} {seen : List Tm} {π : Nat → Nat} {w : Nat → SW} {dev : Nat → DV} {sto : Nat → ST} {id : Tm} {K0 K1 : PK} {on : List (Tm × Int32)} {lnu : Int32} {se : Nat → List SS} {me : Nat → MM} {p k : Nat} {S0 : SS} {v : Int32} {Q : bm_H → Prop} (hC : CK B F N S M ln T dr K ca rm kc kl rk) (hH : RH B T ws wt G ids dir reg seen π w dev sto) (hp : p < 6) (eD : dev 6 = (id, K0, K1, on, lnu, se, me)) (hk : (se p)[k]? = some S0) (hM : T.length + 6 < M) (hdr : dr < 100000) (hk2 : kd (pt S0.1.1 0) = 1) (kk : ∀ B' T', T <+: T' → T'.length ≤ T.length + 5 → CK B' F N S M ln T' (dr_turn S0 dr) K ca rm kc kl rk → RH B' T' ws wt G ids dir reg seen π w (fset dev 6 (id, K0, K1, on, lnu, fset se p ((se p).set k (ss_turn S0 (Tsec (nI dr) v 2))), me)) sto → fz (dxs 1 ca 3 4 (rb (π 6))) B B' → Q B') : bm_Gv sc (d + 3) 86 [.ref (sA (rb (π 6)) (w 6).2.1 p k), .ref 1, .int v] B Q := by
  obtain ⟨h1, h2, h3, h4, h5, h6⟩ := ses_at hC hH hp eD hk
  have hrm := hC.2.2.2.2.1.2
  obtain ⟨I, xb, xr, xm, xs, n, b, br, bp, bo, on'⟩ := S0
  refine t_turnToSend hC.1 h1 (h2 _ (by omega) (by omega)) (h2 _ (by omega) (by omega)) (h2 _ (by omega) (by omega)) (by omega) hdr hk2 (fun q => ?_) (fun B' T' q q1 q2 q3 q4 q5 => ?_)
  · have e1 : dr_turn (I, xb, xr, xm, xs, n, b, br, bp, bo, on') dr = dr := if_neg (fun e => q (tnil_iff.mp e))
    have hz := fz_rfl (sxs 1 ca 3 4 (sA (rb (π 6)) (w 6).2.1 p k)) B
    have hh := RH_ses hC hH hp eD hk hC.1 hz (List.prefix_refl T) h1
    refine kk B T (List.prefix_refl T) (by omega) (by rw [e1]; exact hh.1) ?_ hh.2.2
    rw [ss_turn_id q]
    exact hh.2.1
  · have e1 : dr_turn (I, xb, xr, xm, xs, n, b, br, bp, bo, on') dr = dr + 1 := if_pos (tnil_iff.mpr q)
    have hh := RH_ses hC hH hp eD hk q3 q5 q1 q4
    exact kk B' T' q1 q2 (by rw [e1]; exact hh.1) hh.2.1 hh.2.2
theorem t_wireH {sc : tm_X} {d : Nat} {B : bm_H} {F : Nat → Prop} {N S M ln : Nat} {T : List Tm} {dr : Nat} {K : Tm → Prop} {ca rm kc kl rk : Nat} {ws : List (Tm × Int32)} {wt : List Tm} {G : LG} {ids dir reg : Nat → Tm} {seen : List Tm} {π : Nat → Nat} {w : Nat → SW} {dev : Nat → DV} {sto : Nat → ST} {id : Tm} {K0 K1 : PK} {on : List (Tm × Int32)} {lnu : Int32} {se : Nat → List SS} {me : Nat → MM} {p k : Nat} {S0 : SS} {v u y : Int32} {Y : Tm} {Q : Int32 → bm_H → Prop} (hC : CK B F N S M ln T dr K ca rm kc kl rk) (hH : RH B T ws wt G ids dir reg seen π w dev sto) (hp : p < 6) (eD : dev 6 = (id, K0, K1, on, lnu, se, me)) (hk : (se p)[k]? = some S0) (hM : T.length + 4 < M) (hy : tv T y Y) (hk1 : kd S0.2.2.2.1 = 1) (kk : ∀ B' T' r, T <+: T' → T'.length ≤ T.length + 4 → CK B' F N S M ln T' dr K ca rm kc kl rk → RH B' T' ws wt G ids dir reg seen π w (fset dev 6 (id, K0, K1, on, lnu, fset se p ((se p).set k (ss_sent S0)), me)) sto → tv T' r (ss_wire S0 v u Y) → fz (dxs 1 ca 3 4 (rb (π 6))) B B' → Q r B') : bm_Gi sc (d + 3) 88 [.ref (sA (rb (π 6)) (w 6).2.1 p k), .ref 1, .int v, .int u, .int y] B Q := by
  obtain ⟨h1, h2, h3, h4, h5, h6⟩ := ses_at hC hH hp eD hk
  have hrm := hC.2.2.2.2.1.2
  obtain ⟨I, xb, xr, xm, xs, n, b, br, bp, bo, on'⟩ := S0
  refine t_nextWire hC.1 h1 (h2 _ (by omega) (by omega)) (h2 _ (by omega) (by omega)) (h2 _ (by omega) (by omega)) (by omega) hy hk1 (fun B' T' r q1 q2 q3 q4 q5 q6 => ?_)
  have hh := RH_ses hC hH hp eD hk q3 q6 q1 q5
  exact kk B' T' r q1 q2 hh.1 hh.2.1 q4 hh.2.2
