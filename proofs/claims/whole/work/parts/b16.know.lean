/-! What is held stays known -/
section IK
variable {dev : Nat → DV} {ws : List (Tm × Int32)} {dir reg : Nat → Tm} {seen : List Tm} {G : Tm → Prop} {DL : List (Int32 × Int32)} {C : Tm → Prop}
theorem Kn_z : Kn G tz := (Kn_clo G).1
theorem Kn_4 {A : Tm} (h1 : kd A ≠ 1) (h3 : kd A ≠ 3) (k0 : Kn G (pt A 0)) (k1 : Kn G (pt A 1)) (k2 : Kn G (pt A 2)) (k3 : Kn G (pt A 3)) : Kn G A := (Kn_clo G).2.1 A (Or.inr ⟨h3, h1, k0, k1, k2, k3⟩)
theorem Kn_sh {a b : Tm} (ha : Kn G a) (hb : Kn G (Tpub b)) : Kn G (Tsh a b) := by
  unfold Tsh
  split
  · exact (Kn_clo G).2.1 _ (Or.inl ⟨rfl, Or.inr ⟨ha, hb⟩⟩)
  · exact (Kn_clo G).2.1 _ (Or.inl ⟨rfl, Or.inl ⟨ha, hb⟩⟩)
theorem Kn_pub {a : Tm} (ha : Kn G a) : Kn G (Tpub a) := Kn_4 (by show ¬ (2 : Int32) = 1; decide) (by show ¬ (2 : Int32) = 3; decide) ha Kn_z Kn_z Kn_z
theorem Kn_mx {n : Int32} {a b : Tm} (ha : Kn G a) (hb : Kn G b) : Kn G (Tmx n a b) := Kn_4 (by show ¬ (4 : Int32) = 1; decide) (by show ¬ (4 : Int32) = 3; decide) ha hb Kn_z Kn_z
theorem Kn_sl {k h b : Tm} (ha : Kn G k) (hh : Kn G h) (hb : Kn G b) : Kn G (Tsl k h b) := Kn_4 (by show ¬ (5 : Int32) = 1; decide) (by show ¬ (5 : Int32) = 3; decide) ha hh hb Kn_z
theorem Kn_sg {a t : Tm} (ha : Kn G a) (ht : Kn G t) : Kn G (Tsg a t) := Kn_4 (by show ¬ (6 : Int32) = 1; decide) (by show ¬ (6 : Int32) = 3; decide) ha ht Kn_z Kn_z
theorem kd_set (l : List Int32) (i : Nat) (v : Int32) : (l.set (i + 1) v).getD 0 0 = l.getD 0 0 := by cases l <;> rfl
theorem IK_of (h : IK dev ws dir reg seen G) (a i : Int32) : Kn G (of_spec ws (fun q => (dev q).1) dir seen a i) := by
  unfold of_spec
  split
  · split
    · rename_i c
      cases hw : ws[i.toNatClampNeg]? with
      | none => rw [List.getD_eq_getElem?_getD, hw]; exact Kn_z
      | some e => rw [List.getD_eq_getElem?_getD, hw]; exact h.2.1 e (List.mem_of_getElem? hw)
    · exact Kn_z
  · split
    · split
      · exact h.2.2.1.1 _
      · exact Kn_z
    · split
      · split
        · rename_i c
          obtain ⟨q, hq, rfl⟩ := inR_of (n := 6) (by decide) c
          rw [nI_clamp (by omega)]
          exact h.1 q hq
        · exact Kn_z
      · split
        · split
          · cases hw : seen[i.toNatClampNeg]? with
            | none => rw [List.getD_eq_getElem?_getD, hw]; exact Kn_z
            | some e => rw [List.getD_eq_getElem?_getD, hw]; exact h.2.2.2.2 e (List.mem_of_getElem? hw)
          · exact Kn_z
        · exact Kn_z
theorem IK_pa (h : IK dev ws dir reg seen G) (x a : Int32) : Kn G (pa_spec reg x a) := by
  have hx := IK_hl h x
  unfold pa_spec
  split
  · rename_i c
    split
    · rename_i k
      obtain ⟨q, hq, rfl⟩ := inR_of (n := 4) (by decide) c
      rw [nI_clamp (by omega)]
      exact Kn_7 hx k hq
    · exact Kn_z
  · split
    · split
      · rename_i k; exact (Kn_5 hx k).1
      · exact Kn_z
    · split
      · rename_i k; exact Kn_6 hx k.2
      · exact Kn_z
theorem IK_un (h : IK dev ws dir reg seen G) (r x k : Int32) : IK dev ws dir (un_spec reg r x k).2 seen G := by
  unfold un_spec
  by_cases c : inR r 32 = true ∧ kd (hl reg x) = 5 ∧ hl reg k ≠ tz
  · rw [cif_t c]
    by_cases c2 : pt (hl reg x) 0 = hl reg k
    · rw [cif_t c2]
      exact IK_kp h r ((Kn_5 (IK_hl h x) c.2.1).2 (by rw [c2]; exact IK_hl h k))
    · rw [cif_f c2]; exact h
  · rw [cif_f c]; exact h
theorem IK_mk (h : IK dev ws dir reg seen G) (hC : PC DL C) (hr : ∀ i, i < 32 → C (reg i)) (r a x y : Int32) : IK dev ws dir (mk_spec reg r a x y).2 seen G := by
  have hx := IK_hl h x
  have hy := IK_hl h y
  unfold mk_spec
  split
  · refine IK_kp h r ?_
    unfold co_spec
    split
    · split
      · exact Kn_z
      · exact Kn_mx hx hy
    · split
      · split
        · exact Kn_pub hx
        · split
          · split
            · rename_i k
              have e : hl reg y = Tpub (pt (hl reg y) 0) := by
                refine hC.2.2.2 _ ?_ k
                unfold hl at k ⊢
                split at k
                · rename_i c
                  rw [if_pos c]
                  obtain ⟨q, hq, rfl⟩ := inR_of (n := 32) (by decide) c
                  rw [nI_clamp (by omega)]
                  exact hr q hq
                · exact absurd k (by decide)
              exact Kn_sh hx (by rw [← e]; exact hy)
            · exact Kn_z
          · split
            · exact Kn_sg hx hy
            · exact Kn_z
      · exact Kn_z
  · exact h
theorem IK_sl (h : IK dev ws dir reg seen G) (r k x b : Int32) : IK dev ws dir (sl_spec reg r k x b).2 seen G := by
  unfold sl_spec
  split
  · exact IK_kp h r (Kn_sl (IK_hl h k) (IK_hl h x) (IK_hl h b))
  · exact h
theorem IK_al (h : IK dev ws dir reg seen G) (r x k v : Int32) : IK dev ws dir (al_spec reg r x k v).2 seen G := by
  have hx := IK_hl h x
  unfold al_spec
  split
  · rename_i c
    refine IK_kp h r ?_
    have p := fun i (hi : i < 4) => Kn_7 hx c.2.1 hi
    have q : ∀ (j : Nat) (w : Int32), Kn G (tn ((lb (hl reg x)).set (j + 1) w) (pt (hl reg x) 0) (pt (hl reg x) 1) (pt (hl reg x) 2) (pt (hl reg x) 3)) := fun j w => by
      have e : kd (tn ((lb (hl reg x)).set (j + 1) w) (pt (hl reg x) 0) (pt (hl reg x) 1) (pt (hl reg x) 2) (pt (hl reg x) 3)) = 7 := (kd_set _ _ _).trans c.2.1
      exact Kn_4 (by rw [e]; decide) (by rw [e]; decide) (p 0 (by decide)) (p 1 (by decide)) (p 2 (by decide)) (p 3 (by decide))
    split
    · exact q 0 v
    · unfold TwN
      rw [Nat.add_comm 2, ← Nat.add_assoc (n := _) (m := 1) (k := 1)]
      exact q _ v
  · exact h
theorem IK_sp (h : IK dev ws dir reg seen G) (r x k y : Int32) : IK dev ws dir (sp_spec reg r x k y).2 seen G := by
  have hx := IK_hl h x
  have hy := IK_hl h y
  unfold sp_spec
  split
  · rename_i c
    refine IK_kp h r ?_
    have p := fun i (hi : i < 4) => Kn_7 hx c.2.1 hi
    have e : kd (TwP (hl reg x) k.toNatClampNeg (hl reg y)) = 7 := c.2.1
    refine Kn_4 (by rw [e]; decide) (by rw [e]; decide) ?_ ?_ ?_ ?_
    · show Kn G (if k.toNatClampNeg = 0 then hl reg y else pt (hl reg x) 0)
      split
      · exact hy
      · exact p 0 (by decide)
    · show Kn G (if k.toNatClampNeg = 1 then hl reg y else pt (hl reg x) 1)
      split
      · exact hy
      · exact p 1 (by decide)
    · show Kn G (if k.toNatClampNeg = 2 then hl reg y else pt (hl reg x) 2)
      split
      · exact hy
      · exact p 2 (by decide)
    · show Kn G (if k.toNatClampNeg = 3 then hl reg y else pt (hl reg x) 3)
      split
      · exact hy
      · exact p 3 (by decide)
  · exact h
end IK
