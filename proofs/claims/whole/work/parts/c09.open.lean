/-! A device of which all may be known: kept by what it does -/
def UC (U : Tm → Prop) : Prop := clo U ∧ (∀ a b, U a ∨ U b → U (Tsh a b)) ∧ ∀ t, kd t = 2 → U t
section UC
variable {U : Tm → Prop}
theorem UC_tz (h : UC U) : U tz := h.1.1
theorem UC_4 (h : UC U) {A : Tm} (h1 : kd A ≠ 1) (h3 : kd A ≠ 3) (k0 : U (pt A 0)) (k1 : U (pt A 1)) (k2 : U (pt A 2)) (k3 : U (pt A 3)) : U A := h.1.2.1 A (Or.inr ⟨h3, h1, k0, k1, k2, k3⟩)
theorem UC_mx (h : UC U) {n : Int32} {a b : Tm} (ha : U a) (hb : U b) : U (Tmx n a b) := UC_4 h (by show ¬ (4 : Int32) = 1; decide) (by show ¬ (4 : Int32) = 3; decide) ha hb (UC_tz h) (UC_tz h)
theorem UC_rw (h : UC U) {k n0 n1 n2 n3 : Int32} {a b c d : Tm} (ha : U a) (hb : U b) (hc : U c) (hd : U d) : U (Trw k n0 n1 n2 n3 a b c d) := UC_4 h (by show ¬ (7 : Int32) = 1; decide) (by show ¬ (7 : Int32) = 3; decide) ha hb hc hd
theorem UC_RP (h : UC U) {t : Tm} (q : RP t) : U t := by
  rcases q with rfl | q
  · exact UC_tz h
  · exact h.2.2 t q
theorem UC_hcl (h : UC U) : hcl U U := ⟨UC_tz h, fun n a b _ _ ha hb => UC_mx h ha hb⟩
theorem UC_pt (h : UC U) {A : Tm} (hA : U A) (k : kd A = 7) {i : Nat} (hi : i < 4) : U (pt A i) := h.1.2.2.1 A hA k i hi
theorem SPU_turn (h : UC U) {S : SS} {x : Tm} (hx : U x) (q : SPU U S) : SPU U (ss_sent (ss_turn S x)) ∧ U (ss_turn S x).2.2.2.2.1 := by
  obtain ⟨a1, a2, -⟩ := GS_turn (x := x) (UC_hcl h) q.1 (fun y => h.2.1 _ _ (Or.inl hx))
  refine ⟨⟨(GS_sent (UC_hcl h) a1 a2).1, ?_⟩, a2⟩
  have q2 := q.2
  obtain ⟨⟨th, ch, nx, le⟩, ba, ro, mi, sd, n, b, br, bp, bo', on⟩ := S
  by_cases c : sd = tz
  · rw [ss_turn_t c]; exact hx
  · rw [ss_turn_f c]; exact q2
theorem SPU_open (h : UC U) {id e r idd P O : Tm} (h1 : U (op_root id e r idd P O)) (h2 : U r) : SPU U (op_ses id e r idd P O) ∧ U (op_ses id e r idd P O).2.2.2.2.1 := by
  obtain ⟨a1, a2⟩ := GS_open (R := TT1) (UC_hcl h) h1 (fun y => h.2.1 _ _ (Or.inl h2)) trivial trivial trivial
  exact ⟨⟨a1, h2⟩, a2⟩
theorem SPU_openS (h : UC U) {id e r idd P O : Tm} (h1 : U (op_root id e r idd P O)) (h2 : U r) : SPU U (ss_sent (op_ses id e r idd P O)) := ⟨(GS_sent (UC_hcl h) (SPU_open h h1 h2).1.1 (SPU_open h h1 h2).2).1, h2⟩
theorem mi_follow {S S1 : SS} {p : Tm} {en : Int32} (e : ss_follow S p en = some S1) : S1.2.2.2.1 = S.2.2.2.1 := by
  unfold ss_follow at e
  by_cases c : p = S.1.1 ∧ S.1.2.1 ≠ tz
  · rw [cif_t c] at e; cases e; rfl
  · rw [cif_f c] at e
    by_cases c2 : S.1.2.1 ≠ tz ∧ S.1.2.2.1 < en
    · rw [cif_t c2] at e
      cases hs : ib_skipTo S.1 en with
      | none => rw [hs] at e; cases e
      | some I =>
        rw [hs] at e; cases e
        obtain ⟨I0, ba, ro, mi, sd, n, b, br, bp, bo', on⟩ := S
        rfl
    · rw [cif_f c2] at e; cases e
      obtain ⟨I0, ba, ro, mi, sd, n, b, br, bp, bo', on⟩ := S
      rfl
theorem mi_key {S S1 : SS} {H K : Tm} (e : ss_key S H = some (K, S1)) : S1.2.2.2.1 = S.2.2.2.1 := by
  unfold ss_key at e
  cases hl : lf_take (pt H 1) (nu H 2) S.1.2.2.2 with
  | some q => obtain ⟨k, l⟩ := q; rw [hl] at e; cases e; rfl
  | none =>
    rw [hl] at e
    cases hf : ss_follow S (pt H 1) (nu H 3) with
    | none => rw [hf] at e; cases e
    | some S2 =>
      rw [hf] at e
      dsimp only at e
      cases hn : ib_next S2.1 (nu H 2) with
      | none => rw [hn] at e; cases e
      | some r =>
        rw [hn] at e
        cases e
        show S2.2.2.2.1 = S.2.2.2.1
        exact mi_follow hf
theorem SPU_key (h : UC U) {S S1 : SS} {H K : Tm} (q : SPU U S) (e : ss_key S H = some (K, S1)) : SPU U (ss_nb S1) ∧ U K := by
  obtain ⟨a1, a2, -⟩ := GS_key (R := TT1) (UC_hcl h) trivial q.1 e
  refine ⟨⟨GS_nb a1, ?_⟩, a2⟩
  have := mi_key e
  obtain ⟨⟨th, ch, nx, le⟩, ba, ro, mi, sd, n, b, br, bp, bo', on⟩ := S1
  show U mi
  rw [show mi = S.2.2.2.1 from this]
  exact q.2
theorem U_root (h : UC U) {id e r idd P O : Tm} (h1 : U id) (h2 : U e) : U (op_root id e r idd P O) := by
  unfold op_root
  split
  · exact UC_mx h (UC_mx h (UC_mx h (h.2.1 _ _ (Or.inl h1)) (h.2.1 _ _ (Or.inl h2))) (h.2.1 _ _ (Or.inl h2))) (UC_tz h)
  · exact UC_mx h (UC_mx h (UC_mx h (h.2.1 _ _ (Or.inl h1)) (h.2.1 _ _ (Or.inl h2))) (h.2.1 _ _ (Or.inl h2))) (h.2.1 _ _ (Or.inl h2))
theorem U_aroot (h : UC U) {id ss pi base : Tm} {o : Option Tm} (h1 : U id) (h2 : U ss) (ho : ∀ x, o = some x → U x) : U (as_root id ss pi base o) := by
  cases o with
  | none => exact UC_mx h (UC_mx h (UC_mx h (h.2.1 _ _ (Or.inl h2)) (h.2.1 _ _ (Or.inl h1))) (h.2.1 _ _ (Or.inl h2))) (UC_tz h)
  | some x => exact UC_mx h (UC_mx h (UC_mx h (h.2.1 _ _ (Or.inl h2)) (h.2.1 _ _ (Or.inl h1))) (h.2.1 _ _ (Or.inl h2))) (h.2.1 _ _ (Or.inl (ho x rfl)))
/-- the head of what a session sends -/
theorem U_hdr (h : UC U) {S : SS} {s d : Int32} {body : Tm} (hB : BOS S) : ∃ k n b x y z, ss_wire S s d body = Tsl (Tmx 6 k tz) (Trw 3 s d n b x (Tpub S.2.2.2.1) y z) body ∧ k = S.2.2.2.2.1 ∧ U (Trw 3 s d n b x (Tpub S.2.2.2.1) y z) := by
  obtain ⟨⟨th, ch, nx, le⟩, ba, ro, mi, sd, n, b, br, bp, bo', on⟩ := S
  obtain ⟨-, -, -, -, -, h1, h2, h3, h4⟩ := hB
  refine ⟨_, _, _, _, _, _, rfl, rfl, UC_rw h (UC_RP h h2) (h.2.2 _ rfl) ?_ ?_⟩
  · split
    · exact UC_RP h h3
    · exact UC_tz h
  · split
    · exact UC_RP h h4
    · exact UC_tz h
theorem se_en_U (h : UC U) {S : SS} (hB : BOS S) (hS : SPU U S) : ∀ e, e ∈ se_en S → U e.1 ∧ U e.2 := by
  obtain ⟨⟨th, ch, nx, le⟩, ba, ro, mi, sd, n, b, br, bp, bo', on⟩ := S
  obtain ⟨-, -, -, b4, -, b6, b7, b8, b9⟩ := hB
  obtain ⟨⟨a1, a2, a3, a4, -⟩, a5⟩ := hS
  have hz := UC_tz h
  have hsd : U sd := a2.elim (fun e => e ▸ hz) (fun e => e)
  have hch : U ch := a3.elim (fun e => e ▸ hz) (fun e => e)
  intro e he
  have he : e ∈ [(ba, tz), (ro, tz), (mi, tz)] ++ en_any th ++ en_any sd ++ en_any ch ++ (if br = true then [(bp, bo')] else []) ++ le.map fun e => (e.2.2, e.1) := he
  rcases List.mem_append.mp he with he | he
  · rcases List.mem_append.mp he with he | he
    · rcases List.mem_append.mp he with he | he
      · rcases List.mem_append.mp he with he | he
        · rcases List.mem_append.mp he with he | he
          · rcases List.mem_cons.mp he with rfl | he
            · exact ⟨UC_RP h b7, hz⟩
            · rcases List.mem_cons.mp he with rfl | he
              · exact ⟨a1, hz⟩
              · rw [List.mem_singleton.mp he]; exact ⟨a5, hz⟩
          · exact en_any_U hz (UC_RP h b6) e he
        · exact en_any_U hz hsd e he
      · exact en_any_U hz hch e he
    · split at he
      · rw [List.mem_singleton.mp he]; exact ⟨UC_RP h b8, UC_RP h b9⟩
      · cases he
  · obtain ⟨x, hx, rfl⟩ := List.mem_map.mp he
    exact ⟨(a4 x hx).1, UC_RP h (b4 x hx).2⟩
theorem gl_en_U (h : UC U) {l : List GV} (hl : ∀ G0, G0 ∈ l → U G0.1.1 ∧ GI U TT1 G0.1) : ∀ e, e ∈ gl_en l → U e.1 ∧ U e.2 := fun e he => by
  unfold gl_en at he
  obtain ⟨G0, h0, he⟩ := List.mem_flatMap.mp he
  obtain ⟨a1, a2, -, a3⟩ := hl G0 h0
  unfold gv_en at he
  rcases List.mem_cons.mp he with rfl | he
  · exact ⟨a2, a1⟩
  · obtain ⟨x, hx, rfl⟩ := List.mem_map.mp he
    exact ⟨(a3 x hx).1, UC_tz h⟩
theorem mm_en_U (h : UC U) {M : MM} (q : MPU U M) : ∀ e, e ∈ mm_en M → U e.1 ∧ U e.2 := fun e he => by
  unfold mm_en at he
  rcases List.mem_append.mp he with he | he
  · rcases List.mem_append.mp he with he | he
    · rcases List.mem_append.mp he with he | he
      · rcases List.mem_append.mp he with he | he
        · rcases List.mem_append.mp he with he | he
          · rcases List.mem_append.mp he with he | he
            · split at he
              · rw [List.mem_singleton.mp he]; exact ⟨q.1, q.2.1⟩
              · cases he
            · exact gl_en_U h (q.2.2 0) e he
          · exact gl_en_U h (q.2.2 1) e he
        · exact gl_en_U h (q.2.2 2) e he
      · exact gl_en_U h (q.2.2 3) e he
    · exact gl_en_U h (q.2.2 4) e he
  · exact gl_en_U h (q.2.2 5) e he
theorem pk_en_U (h : UC U) {K : PK} (h1 : U K.1) (h2 : ∀ x, x ∈ K.2.2 → U x) : ∀ e, e ∈ pk_en K → U e.1 ∧ U e.2 := fun e he => by
  unfold pk_en at he
  split at he
  · cases he
  · rcases List.mem_cons.mp he with rfl | he
    · exact ⟨h1, UC_tz h⟩
    · obtain ⟨x, hx, rfl⟩ := List.mem_map.mp he
      exact ⟨h2 x hx, UC_tz h⟩
theorem DPU_en (h : UC U) {D : DV} (hB : ∀ q S, S ∈ D.2.2.2.2.2.1 q → BOS S) (q : DPU U D) : ∀ e, e ∈ dv_en D → U e.1 ∧ U e.2 := fun e he => by
  obtain ⟨id, K0, K1, on, lnu, se, me⟩ := D
  obtain ⟨q1, ⟨⟨q2, q3⟩, q4, q5⟩, q6, q7, q8⟩ := q
  have hz := UC_tz h
  have hsl : ∀ p, ∀ e, e ∈ sl_en (se p) → U e.1 ∧ U e.2 := fun p e he => by
    unfold sl_en at he
    obtain ⟨S, hS, he⟩ := List.mem_flatMap.mp he
    exact se_en_U h (hB p S hS) (q7 p S hS) e he
  have he : e ∈ [(id, tz)] ++ pk_en K0 ++ pk_en K1 ++ on_en on ++ sl_en (se 0) ++ sl_en (se 1) ++ sl_en (se 2) ++ sl_en (se 3) ++ sl_en (se 4) ++ sl_en (se 5) ++ mm_en (me 0) ++ mm_en (me 1) ++ mm_en (me 2) ++ mm_en (me 3) := he
  rcases List.mem_append.mp he with he | he
  · rcases List.mem_append.mp he with he | he
    · rcases List.mem_append.mp he with he | he
      · rcases List.mem_append.mp he with he | he
        · rcases List.mem_append.mp he with he | he
          · rcases List.mem_append.mp he with he | he
            · rcases List.mem_append.mp he with he | he
              · rcases List.mem_append.mp he with he | he
                · rcases List.mem_append.mp he with he | he
                  · rcases List.mem_append.mp he with he | he
                    · rcases List.mem_append.mp he with he | he
                      · rcases List.mem_append.mp he with he | he
                        · rcases List.mem_append.mp he with he | he
                          · rw [List.mem_singleton.mp he]; exact ⟨q1, hz⟩
                          · exact pk_en_U h q2 q3 e he
                        · exact pk_en_U h q4 q5 e he
                      · unfold on_en at he
                        obtain ⟨x, hx, he⟩ := List.mem_flatMap.mp he
                        rw [List.mem_singleton.mp he]; exact ⟨q6 x hx, hz⟩
                    · exact hsl 0 e he
                  · exact hsl 1 e he
                · exact hsl 2 e he
              · exact hsl 3 e he
            · exact hsl 4 e he
          · exact hsl 5 e he
        · exact mm_en_U h (q8 0 (by decide)) e he
      · exact mm_en_U h (q8 1 (by decide)) e he
    · exact mm_en_U h (q8 2 (by decide)) e he
  · exact mm_en_U h (q8 3 (by decide)) e he
end UC
