/-! The reference: derive -/
set_option maxRecDepth 100000 in
theorem l_mderP {sc : tm_X} {d : Nat} {f : Nat → Int32} {A0 : Nat → Nat → Int32} {T : List Tm} {DL : List (Int32 × Int32)} {G W0 : Tm → Prop} {Q : Option Value → MS → Prop} (kk : ∀ A1 W1 b, lrn f A0 T DL G W0 A1 W1 b → (b = false → ∀ (i : Nat) (X : Tm), 0 < i → T[i]? = some X → cl1 G W0 X) → ∀ lv : tm_L, lv.lookup 0 = some (.ref 1482) → lv.lookup 1 = some (.int (bz b)) → mg sc (d + 4) 270 15 lv [] (f, A1) Q) : ∀ (r k : Nat) (A : Nat → Nat → Int32) (W : Tm → Prop) (b : Bool), k + r = T.length → 0 < k → lrn f A0 T DL G W0 A W b → (b = false → ∀ (i : Nat) (X : Tm), 0 < i → i < k → T[i]? = some X → cl1 G W0 X) → ∀ lv : tm_L, lv.lookup 0 = some (.ref 1482) → lv.lookup 1 = some (.int (bz b)) → lv.lookup 2 = some (.int (nI k)) → mg sc (d + 4) 270 23 lv [] (f, A) Q := by
  intro r
  induction r with
  | zero =>
    intro k A W b hk hk0 hL0 hc lv l0 l1 l2
    have hM := hL0.1
    have hL := MT_len hM
    refine m_ild (pc' := 24) cd_Mo_derive rfl (Or.inr ⟨_, rfl, rfl, rfl⟩) l2 rfl ?_
    refine m_ald (pc' := 25) cd_Mo_derive rfl (Or.inr ⟨_, rfl, rfl, rfl⟩) l0 rfl rfl ?_
    refine m_fI (k := 0) (x := (nI T.length)) (pc' := 28) cd_Mo_derive rfl rfl rfl rfl rfl hM.1.1.1 ?_
    refine m_if2 (t := 108) (pc' := 31) cd_Mo_derive rfl rfl rfl (fun c28 => ?_) (fun c28 => ?_)
    · have c28 : (nI T.length) ≤ (nI k) := c28
      refine m_pure (pc' := 15) (st' := []) cd_Mo_derive rfl rfl (fun _ _ => rfl) ?_
      exact kk A W b hL0 (fun q i X h0 hX => hc q i X h0 (by have := tv_lt hX; omega) hX) lv l0 l1
    · have c28 : ¬ (nI T.length) ≤ (nI k) := c28
      exact absurd (nI_le (by omega) (by omega)) c28
  | succ r ih =>
    intro k A W b hk hk0 hL0 hc lv l0 l1 l2
    have hM := hL0.1
    have hL := MT_len hM
    obtain ⟨X, hX⟩ : ∃ X, T[k]? = some X := ⟨_, List.getElem?_eq_getElem (by omega)⟩
    refine m_ild (pc' := 24) cd_Mo_derive rfl (Or.inr ⟨_, rfl, rfl, rfl⟩) l2 rfl ?_
    refine m_ald (pc' := 25) cd_Mo_derive rfl (Or.inr ⟨_, rfl, rfl, rfl⟩) l0 rfl rfl ?_
    refine m_fI (k := 0) (x := (nI T.length)) (pc' := 28) cd_Mo_derive rfl rfl rfl rfl rfl hM.1.1.1 ?_
    refine m_if2 (t := 108) (pc' := 31) cd_Mo_derive rfl rfl rfl (fun c28 => ?_) (fun c28 => ?_)
    · have c28 : (nI T.length) ≤ (nI k) := c28
      exact absurd c28 (nI_ge (by omega) (by omega))
    · have c28 : ¬ (nI T.length) ≤ (nI k) := c28
      refine m_ald (pc' := 32) cd_Mo_derive rfl (Or.inr ⟨_, rfl, rfl, rfl⟩) l0 rfl rfl ?_
      refine m_fR (r := 5) (a := 6) (ad := 1488) (pc' := 35) rfl rfl cd_Mo_derive rfl rfl rfl rfl rfl ?_
      refine m_ild (pc' := 36) cd_Mo_derive rfl (Or.inr ⟨_, rfl, rfl, rfl⟩) l2 rfl ?_
      refine m_bI (r := 5) (a := 6) (g := (A 6)) (x := (cif (W X) (1 : Int32) 0)) (pc' := 37) rfl rfl cd_Mo_derive rfl rfl rfl (vp_in_nI (by omega) (by decide)) (by rw [(nI_clamp (by omega))]; exact MT_kn hM hk0 hX) ?_
      refine m_if1 (t := 75) (pc' := 40) cd_Mo_derive rfl rfl rfl (fun c37 => ?_) (fun c37 => ?_)
      · have c37 : ¬ (cif (W X) (1 : Int32) 0) = 0 := c37
        refine m_ald (pc' := 76) cd_Mo_derive rfl (Or.inr ⟨_, rfl, rfl, rfl⟩) l0 rfl rfl ?_
        refine m_fR (r := 5) (a := 6) (ad := 1488) (pc' := 79) rfl rfl cd_Mo_derive rfl rfl rfl rfl rfl ?_
        refine m_ild (pc' := 80) cd_Mo_derive rfl (Or.inr ⟨_, rfl, rfl, rfl⟩) l2 rfl ?_
        refine m_bI (r := 5) (a := 6) (g := (A 6)) (x := (cif (W X) (1 : Int32) 0)) (pc' := 81) rfl rfl cd_Mo_derive rfl rfl rfl (vp_in_nI (by omega) (by decide)) (by rw [(nI_clamp (by omega))]; exact MT_kn hM hk0 hX) ?_
        refine m_if1 (t := 102) (pc' := 84) cd_Mo_derive rfl rfl rfl (fun c81 => ?_) (fun c81 => ?_)
        · have c81 : (cif (W X) (1 : Int32) 0) = 0 := c81
          exact absurd (cnz c37) (cz c81)
        · have c81 : ¬ (cif (W X) (1 : Int32) 0) = 0 := c81
          refine m_ald (pc' := 85) cd_Mo_derive rfl (Or.inr ⟨_, rfl, rfl, rfl⟩) l0 rfl rfl ?_
          refine m_ild (pc' := 86) cd_Mo_derive rfl (Or.inr ⟨_, rfl, rfl, rfl⟩) l2 rfl ?_
          refine m_ci (pc' := 89) cd_Mo_derive rfl rfl rfl rfl rfl cd_Mo_open rfl (Nat.le_of_ble_eq_true rfl) (m_open hM hX hk0 (fun h => h X (cnz c37)) (fun A3 W3 b3 hL3 ho => ?_))
          show mg _ _ _ 89 _ [.int (bz b3)] _ _
          refine m_if1 (t := 96) (pc' := 92) cd_Mo_derive rfl rfl rfl (fun c89 => ?_) (fun c89 => ?_)
          · have c89 : b3 = true := bz_t c89
            refine m_k1 (v := 1) (pc' := 97) cd_Mo_derive rfl (by decide) rfl ?_
            refine m_pure (pc' := 101) (st' := [.int 1]) cd_Mo_derive rfl rfl (fun _ _ => rfl) ?_
            refine m_ist (pc' := 102) cd_Mo_derive rfl (Or.inr ⟨_, rfl, rfl, rfl⟩) (by decide) rfl (fun lv el => ?_)
            have l0 := tm_lk el l0 rfl (by decide)
            have l2 := tm_lk el l2 rfl (by decide)
            have l1 : lv.lookup 1 = some (.int 1) := tm_lks el
            clear el
            refine m_inc (y := nI (k + 1)) (pc' := 105) cd_Mo_derive rfl l2 (by decide) (nI_add k 1) rfl (fun lv el => ?_)
            have l0 := tm_lk el l0 rfl (by decide)
            have l1 := tm_lk el l1 rfl (by decide)
            have l2 : lv.lookup 2 = some (.int (nI (k + 1))) := tm_lks el
            clear el
            refine m_pure (pc' := 23) (st' := []) cd_Mo_derive rfl rfl (fun _ _ => rfl) ?_
            have hT := lrn_tr hL0 hL3
            rw [c89] at hT
            exact ih (k + 1) A3 W3 true (by omega) (by omega) hT (fun q => (nomatch q)) lv l0 l1 l2
          · have c89 : b3 = false := bz_f (Classical.not_not.mp c89)
            refine m_ild (pc' := 93) cd_Mo_derive rfl (Or.inr ⟨_, rfl, rfl, rfl⟩) l1 rfl ?_
            refine m_if1 (t := 100) (pc' := 96) cd_Mo_derive rfl rfl rfl (fun c93 => ?_) (fun c93 => ?_)
            · have c93 : b = false := bz_f c93
              refine m_k1 (v := 0) (pc' := 101) cd_Mo_derive rfl (by decide) rfl ?_
              refine m_ist (pc' := 102) cd_Mo_derive rfl (Or.inr ⟨_, rfl, rfl, rfl⟩) (by decide) rfl (fun lv el => ?_)
              have l0 := tm_lk el l0 rfl (by decide)
              have l2 := tm_lk el l2 rfl (by decide)
              have l1 : lv.lookup 1 = some (.int 0) := tm_lks el
              clear el
              refine m_inc (y := nI (k + 1)) (pc' := 105) cd_Mo_derive rfl l2 (by decide) (nI_add k 1) rfl (fun lv el => ?_)
              have l0 := tm_lk el l0 rfl (by decide)
              have l1 := tm_lk el l1 rfl (by decide)
              have l2 : lv.lookup 2 = some (.int (nI (k + 1))) := tm_lks el
              clear el
              refine m_pure (pc' := 23) (st' := []) cd_Mo_derive rfl rfl (fun _ _ => rfl) ?_
              have hT := lrn_tr hL0 hL3
              rw [c89, c93] at hT
              refine ih (k + 1) A3 W3 false (by omega) (by omega) hT (fun _ i Y h0 hi hY => ?_) lv l0 l1 l2
              by_cases q : i = k
              · rw [q, hX] at hY
                cases hY
                have e0 := (hL0.2.2.2.1 c93).2
                have e3 := (hL3.2.2.2.1 c89).2
                rw [e3, e0] at ho
                have hw := cnz c37
                rw [e0] at hw
                exact ⟨fun _ => hw, fun _ => ho⟩
              · exact hc c93 i Y h0 (by omega) hY
            · have c93 : b = true := bz_t c93
              refine m_k1 (v := 1) (pc' := 97) cd_Mo_derive rfl (by decide) rfl ?_
              refine m_pure (pc' := 101) (st' := [.int 1]) cd_Mo_derive rfl rfl (fun _ _ => rfl) ?_
              refine m_ist (pc' := 102) cd_Mo_derive rfl (Or.inr ⟨_, rfl, rfl, rfl⟩) (by decide) rfl (fun lv el => ?_)
              have l0 := tm_lk el l0 rfl (by decide)
              have l2 := tm_lk el l2 rfl (by decide)
              have l1 : lv.lookup 1 = some (.int 1) := tm_lks el
              clear el
              refine m_inc (y := nI (k + 1)) (pc' := 105) cd_Mo_derive rfl l2 (by decide) (nI_add k 1) rfl (fun lv el => ?_)
              have l0 := tm_lk el l0 rfl (by decide)
              have l1 := tm_lk el l1 rfl (by decide)
              have l2 : lv.lookup 2 = some (.int (nI (k + 1))) := tm_lks el
              clear el
              refine m_pure (pc' := 23) (st' := []) cd_Mo_derive rfl rfl (fun _ _ => rfl) ?_
              have hT := lrn_tr hL0 hL3
              rw [c89, c93] at hT
              exact ih (k + 1) A3 W3 true (by omega) (by omega) hT (fun q => (nomatch q)) lv l0 l1 l2
      · have c37 : (cif (W X) (1 : Int32) 0) = 0 := Classical.not_not.mp c37
        refine m_ald (pc' := 41) cd_Mo_derive rfl (Or.inr ⟨_, rfl, rfl, rfl⟩) l0 rfl rfl ?_
        refine m_fR (r := 4) (a := 5) (ad := 1487) (pc' := 44) rfl rfl cd_Mo_derive rfl rfl rfl rfl rfl ?_
        refine m_ild (pc' := 45) cd_Mo_derive rfl (Or.inr ⟨_, rfl, rfl, rfl⟩) l2 rfl ?_
        refine m_bI (r := 4) (a := 5) (g := (A 5)) (x := (cif (G X) (1 : Int32) 0)) (pc' := 46) rfl rfl cd_Mo_derive rfl rfl rfl (vp_in_nI (by omega) (by decide)) (by rw [(nI_clamp (by omega))]; exact MT_gv hM hk0 hX) ?_
        refine m_if1 (t := 57) (pc' := 49) cd_Mo_derive rfl rfl rfl (fun c46 => ?_) (fun c46 => ?_)
        · have c46 : ¬ (cif (G X) (1 : Int32) 0) = 0 := c46
          refine m_ald (pc' := 58) cd_Mo_derive rfl (Or.inr ⟨_, rfl, rfl, rfl⟩) l0 rfl rfl ?_
          refine m_ild (pc' := 59) cd_Mo_derive rfl (Or.inr ⟨_, rfl, rfl, rfl⟩) l2 rfl ?_
          refine m_ci (pc' := 62) cd_Mo_derive rfl rfl rfl rfl rfl cd_Mo_learn rfl (Nat.le_of_ble_eq_true rfl) (m_learn hM hX (fun y59 => absurd y59 (fun q => q.elim (fun e => absurd hk0 (by have := (MT_0 hM ⟨k, rfl, hX⟩).mpr e; have := nI_ne0 hk0 (by omega); contradiction)) (cz c37))) (fun A2 h2 hz hu hj => ?_))
          have hT2 : lrn f A0 T DL G W0 A2 (fun y => W y ∨ y = X) true := by
            have q := lrn_tr hL0 (c := true) ⟨h2, fun _ => Or.inl, hj, fun q => (nomatch q), fun _ => hu, fun h y hy => hy.elim (h y) (fun e => e ▸ Kn_G (cnz c46))⟩
            exact q
          show mg _ _ _ 62 _ [.int 1] _ _
          refine m_if1 (t := 69) (pc' := 65) cd_Mo_derive rfl rfl rfl (fun c62 => ?_) (fun c62 => ?_)
          · have c62 : ¬ (1 : Int32) = 0 := c62
            refine m_k1 (v := 1) (pc' := 70) cd_Mo_derive rfl (by decide) rfl ?_
            refine m_pure (pc' := 74) (st' := [.int 1]) cd_Mo_derive rfl rfl (fun _ _ => rfl) ?_
            refine m_ist (pc' := 75) cd_Mo_derive rfl (Or.inr ⟨_, rfl, rfl, rfl⟩) (by decide) rfl (fun lv el => ?_)
            have l0 := tm_lk el l0 rfl (by decide)
            have l2 := tm_lk el l2 rfl (by decide)
            have l1 : lv.lookup 1 = some (.int 1) := tm_lks el
            clear el
            refine m_ald (pc' := 76) cd_Mo_derive rfl (Or.inr ⟨_, rfl, rfl, rfl⟩) l0 rfl rfl ?_
            refine m_fR (r := 5) (a := 6) (ad := 1488) (pc' := 79) rfl rfl cd_Mo_derive rfl rfl rfl rfl rfl ?_
            refine m_ild (pc' := 80) cd_Mo_derive rfl (Or.inr ⟨_, rfl, rfl, rfl⟩) l2 rfl ?_
            refine m_bI (r := 5) (a := 6) (g := (A2 6)) (x := (cif (W X ∨ X = X) (1 : Int32) 0)) (pc' := 81) rfl rfl cd_Mo_derive rfl rfl rfl (vp_in_nI (by omega) (by decide)) (by rw [(nI_clamp (by omega))]; exact MT_kn h2 hk0 hX) ?_
            refine m_if1 (t := 102) (pc' := 84) cd_Mo_derive rfl rfl rfl (fun c81 => ?_) (fun c81 => ?_)
            · have c81 : (cif (W X ∨ X = X) (1 : Int32) 0) = 0 := c81
              exact absurd (Or.inr rfl) (cz c81)
            · have c81 : ¬ (cif (W X ∨ X = X) (1 : Int32) 0) = 0 := c81
              refine m_ald (pc' := 85) cd_Mo_derive rfl (Or.inr ⟨_, rfl, rfl, rfl⟩) l0 rfl rfl ?_
              refine m_ild (pc' := 86) cd_Mo_derive rfl (Or.inr ⟨_, rfl, rfl, rfl⟩) l2 rfl ?_
              refine m_ci (pc' := 89) cd_Mo_derive rfl rfl rfl rfl rfl cd_Mo_open rfl (Nat.le_of_ble_eq_true rfl) (m_open h2 hX hk0 (fun h => h X (Or.inr rfl)) (fun A3 W3 b3 hL3 ho => ?_))
              show mg _ _ _ 89 _ [.int (bz b3)] _ _
              refine m_if1 (t := 96) (pc' := 92) cd_Mo_derive rfl rfl rfl (fun c89 => ?_) (fun c89 => ?_)
              · have c89 : b3 = true := bz_t c89
                refine m_k1 (v := 1) (pc' := 97) cd_Mo_derive rfl (by decide) rfl ?_
                refine m_pure (pc' := 101) (st' := [.int 1]) cd_Mo_derive rfl rfl (fun _ _ => rfl) ?_
                refine m_ist (pc' := 102) cd_Mo_derive rfl (Or.inr ⟨_, rfl, rfl, rfl⟩) (by decide) rfl (fun lv el => ?_)
                have l0 := tm_lk el l0 rfl (by decide)
                have l2 := tm_lk el l2 rfl (by decide)
                have l1 : lv.lookup 1 = some (.int 1) := tm_lks el
                clear el
                refine m_inc (y := nI (k + 1)) (pc' := 105) cd_Mo_derive rfl l2 (by decide) (nI_add k 1) rfl (fun lv el => ?_)
                have l0 := tm_lk el l0 rfl (by decide)
                have l1 := tm_lk el l1 rfl (by decide)
                have l2 : lv.lookup 2 = some (.int (nI (k + 1))) := tm_lks el
                clear el
                refine m_pure (pc' := 23) (st' := []) cd_Mo_derive rfl rfl (fun _ _ => rfl) ?_
                have hT := lrn_tr hT2 hL3
                rw [c89] at hT
                exact ih (k + 1) A3 W3 true (by omega) (by omega) hT (fun q => (nomatch q)) lv l0 l1 l2
              · have c89 : b3 = false := bz_f (Classical.not_not.mp c89)
                refine m_ild (pc' := 93) cd_Mo_derive rfl (Or.inr ⟨_, rfl, rfl, rfl⟩) l1 rfl ?_
                refine m_if1 (t := 100) (pc' := 96) cd_Mo_derive rfl rfl rfl (fun c93 => ?_) (fun c93 => ?_)
                · exact absurd (show (1 : Int32) = 0 from c93) (by decide)
                · have c93 : ¬ (1 : Int32) = 0 := c93
                  refine m_k1 (v := 1) (pc' := 97) cd_Mo_derive rfl (by decide) rfl ?_
                  refine m_pure (pc' := 101) (st' := [.int 1]) cd_Mo_derive rfl rfl (fun _ _ => rfl) ?_
                  refine m_ist (pc' := 102) cd_Mo_derive rfl (Or.inr ⟨_, rfl, rfl, rfl⟩) (by decide) rfl (fun lv el => ?_)
                  have l0 := tm_lk el l0 rfl (by decide)
                  have l2 := tm_lk el l2 rfl (by decide)
                  have l1 : lv.lookup 1 = some (.int 1) := tm_lks el
                  clear el
                  refine m_inc (y := nI (k + 1)) (pc' := 105) cd_Mo_derive rfl l2 (by decide) (nI_add k 1) rfl (fun lv el => ?_)
                  have l0 := tm_lk el l0 rfl (by decide)
                  have l1 := tm_lk el l1 rfl (by decide)
                  have l2 : lv.lookup 2 = some (.int (nI (k + 1))) := tm_lks el
                  clear el
                  refine m_pure (pc' := 23) (st' := []) cd_Mo_derive rfl rfl (fun _ _ => rfl) ?_
                  have hT := lrn_tr hT2 hL3
                  rw [c89] at hT
                  exact ih (k + 1) A3 W3 true (by omega) (by omega) hT (fun q => (nomatch q)) lv l0 l1 l2
          · exact absurd (show ¬ (¬ (1 : Int32) = 0) from c62) (by decide)
        · have c46 : (cif (G X) (1 : Int32) 0) = 0 := Classical.not_not.mp c46
          refine m_ald (pc' := 50) cd_Mo_derive rfl (Or.inr ⟨_, rfl, rfl, rfl⟩) l0 rfl rfl ?_
          refine m_ild (pc' := 51) cd_Mo_derive rfl (Or.inr ⟨_, rfl, rfl, rfl⟩) l2 rfl ?_
          refine m_ci (pc' := 54) cd_Mo_derive rfl rfl rfl rfl rfl cd_Mo_canMake rfl (Nat.le_of_ble_eq_true rfl) (m_canMake hM hX hk0 (fun y51 => ?_) (fun y51 => ?_))
          · skip
            show mg _ _ _ 54 _ [.int 1] _ _
            refine m_if1 (t := 75) (pc' := 57) cd_Mo_derive rfl rfl rfl (fun c54 => ?_) (fun c54 => ?_)
            · exact absurd (show (1 : Int32) = 0 from c54) (by decide)
            · have c54 : ¬ (1 : Int32) = 0 := c54
              refine m_ald (pc' := 58) cd_Mo_derive rfl (Or.inr ⟨_, rfl, rfl, rfl⟩) l0 rfl rfl ?_
              refine m_ild (pc' := 59) cd_Mo_derive rfl (Or.inr ⟨_, rfl, rfl, rfl⟩) l2 rfl ?_
              refine m_ci (pc' := 62) cd_Mo_derive rfl rfl rfl rfl rfl cd_Mo_learn rfl (Nat.le_of_ble_eq_true rfl) (m_learn hM hX (fun y59 => absurd y59 (fun q => q.elim (fun e => absurd hk0 (by have := (MT_0 hM ⟨k, rfl, hX⟩).mpr e; have := nI_ne0 hk0 (by omega); contradiction)) (cz c37))) (fun A2 h2 hz hu hj => ?_))
              have hT2 : lrn f A0 T DL G W0 A2 (fun y => W y ∨ y = X) true := by
                have q := lrn_tr hL0 (c := true) ⟨h2, fun _ => Or.inl, hj, fun q => (nomatch q), fun _ => hu, fun h y hy => hy.elim (h y) (fun e => e ▸ cm_snd hM hk0 hX y51 h)⟩
                exact q
              show mg _ _ _ 62 _ [.int 1] _ _
              refine m_if1 (t := 69) (pc' := 65) cd_Mo_derive rfl rfl rfl (fun c62 => ?_) (fun c62 => ?_)
              · have c62 : ¬ (1 : Int32) = 0 := c62
                refine m_k1 (v := 1) (pc' := 70) cd_Mo_derive rfl (by decide) rfl ?_
                refine m_pure (pc' := 74) (st' := [.int 1]) cd_Mo_derive rfl rfl (fun _ _ => rfl) ?_
                refine m_ist (pc' := 75) cd_Mo_derive rfl (Or.inr ⟨_, rfl, rfl, rfl⟩) (by decide) rfl (fun lv el => ?_)
                have l0 := tm_lk el l0 rfl (by decide)
                have l2 := tm_lk el l2 rfl (by decide)
                have l1 : lv.lookup 1 = some (.int 1) := tm_lks el
                clear el
                refine m_ald (pc' := 76) cd_Mo_derive rfl (Or.inr ⟨_, rfl, rfl, rfl⟩) l0 rfl rfl ?_
                refine m_fR (r := 5) (a := 6) (ad := 1488) (pc' := 79) rfl rfl cd_Mo_derive rfl rfl rfl rfl rfl ?_
                refine m_ild (pc' := 80) cd_Mo_derive rfl (Or.inr ⟨_, rfl, rfl, rfl⟩) l2 rfl ?_
                refine m_bI (r := 5) (a := 6) (g := (A2 6)) (x := (cif (W X ∨ X = X) (1 : Int32) 0)) (pc' := 81) rfl rfl cd_Mo_derive rfl rfl rfl (vp_in_nI (by omega) (by decide)) (by rw [(nI_clamp (by omega))]; exact MT_kn h2 hk0 hX) ?_
                refine m_if1 (t := 102) (pc' := 84) cd_Mo_derive rfl rfl rfl (fun c81 => ?_) (fun c81 => ?_)
                · have c81 : (cif (W X ∨ X = X) (1 : Int32) 0) = 0 := c81
                  exact absurd (Or.inr rfl) (cz c81)
                · have c81 : ¬ (cif (W X ∨ X = X) (1 : Int32) 0) = 0 := c81
                  refine m_ald (pc' := 85) cd_Mo_derive rfl (Or.inr ⟨_, rfl, rfl, rfl⟩) l0 rfl rfl ?_
                  refine m_ild (pc' := 86) cd_Mo_derive rfl (Or.inr ⟨_, rfl, rfl, rfl⟩) l2 rfl ?_
                  refine m_ci (pc' := 89) cd_Mo_derive rfl rfl rfl rfl rfl cd_Mo_open rfl (Nat.le_of_ble_eq_true rfl) (m_open h2 hX hk0 (fun h => h X (Or.inr rfl)) (fun A3 W3 b3 hL3 ho => ?_))
                  show mg _ _ _ 89 _ [.int (bz b3)] _ _
                  refine m_if1 (t := 96) (pc' := 92) cd_Mo_derive rfl rfl rfl (fun c89 => ?_) (fun c89 => ?_)
                  · have c89 : b3 = true := bz_t c89
                    refine m_k1 (v := 1) (pc' := 97) cd_Mo_derive rfl (by decide) rfl ?_
                    refine m_pure (pc' := 101) (st' := [.int 1]) cd_Mo_derive rfl rfl (fun _ _ => rfl) ?_
                    refine m_ist (pc' := 102) cd_Mo_derive rfl (Or.inr ⟨_, rfl, rfl, rfl⟩) (by decide) rfl (fun lv el => ?_)
                    have l0 := tm_lk el l0 rfl (by decide)
                    have l2 := tm_lk el l2 rfl (by decide)
                    have l1 : lv.lookup 1 = some (.int 1) := tm_lks el
                    clear el
                    refine m_inc (y := nI (k + 1)) (pc' := 105) cd_Mo_derive rfl l2 (by decide) (nI_add k 1) rfl (fun lv el => ?_)
                    have l0 := tm_lk el l0 rfl (by decide)
                    have l1 := tm_lk el l1 rfl (by decide)
                    have l2 : lv.lookup 2 = some (.int (nI (k + 1))) := tm_lks el
                    clear el
                    refine m_pure (pc' := 23) (st' := []) cd_Mo_derive rfl rfl (fun _ _ => rfl) ?_
                    have hT := lrn_tr hT2 hL3
                    rw [c89] at hT
                    exact ih (k + 1) A3 W3 true (by omega) (by omega) hT (fun q => (nomatch q)) lv l0 l1 l2
                  · have c89 : b3 = false := bz_f (Classical.not_not.mp c89)
                    refine m_ild (pc' := 93) cd_Mo_derive rfl (Or.inr ⟨_, rfl, rfl, rfl⟩) l1 rfl ?_
                    refine m_if1 (t := 100) (pc' := 96) cd_Mo_derive rfl rfl rfl (fun c93 => ?_) (fun c93 => ?_)
                    · exact absurd (show (1 : Int32) = 0 from c93) (by decide)
                    · have c93 : ¬ (1 : Int32) = 0 := c93
                      refine m_k1 (v := 1) (pc' := 97) cd_Mo_derive rfl (by decide) rfl ?_
                      refine m_pure (pc' := 101) (st' := [.int 1]) cd_Mo_derive rfl rfl (fun _ _ => rfl) ?_
                      refine m_ist (pc' := 102) cd_Mo_derive rfl (Or.inr ⟨_, rfl, rfl, rfl⟩) (by decide) rfl (fun lv el => ?_)
                      have l0 := tm_lk el l0 rfl (by decide)
                      have l2 := tm_lk el l2 rfl (by decide)
                      have l1 : lv.lookup 1 = some (.int 1) := tm_lks el
                      clear el
                      refine m_inc (y := nI (k + 1)) (pc' := 105) cd_Mo_derive rfl l2 (by decide) (nI_add k 1) rfl (fun lv el => ?_)
                      have l0 := tm_lk el l0 rfl (by decide)
                      have l1 := tm_lk el l1 rfl (by decide)
                      have l2 : lv.lookup 2 = some (.int (nI (k + 1))) := tm_lks el
                      clear el
                      refine m_pure (pc' := 23) (st' := []) cd_Mo_derive rfl rfl (fun _ _ => rfl) ?_
                      have hT := lrn_tr hT2 hL3
                      rw [c89] at hT
                      exact ih (k + 1) A3 W3 true (by omega) (by omega) hT (fun q => (nomatch q)) lv l0 l1 l2
              · exact absurd (show ¬ (¬ (1 : Int32) = 0) from c62) (by decide)
          · skip
            show mg _ _ _ 54 _ [.int 0] _ _
            refine m_if1 (t := 75) (pc' := 57) cd_Mo_derive rfl rfl rfl (fun c54 => ?_) (fun c54 => ?_)
            · have c54 : (0 : Int32) = 0 := c54
              refine m_ald (pc' := 76) cd_Mo_derive rfl (Or.inr ⟨_, rfl, rfl, rfl⟩) l0 rfl rfl ?_
              refine m_fR (r := 5) (a := 6) (ad := 1488) (pc' := 79) rfl rfl cd_Mo_derive rfl rfl rfl rfl rfl ?_
              refine m_ild (pc' := 80) cd_Mo_derive rfl (Or.inr ⟨_, rfl, rfl, rfl⟩) l2 rfl ?_
              refine m_bI (r := 5) (a := 6) (g := (A 6)) (x := (cif (W X) (1 : Int32) 0)) (pc' := 81) rfl rfl cd_Mo_derive rfl rfl rfl (vp_in_nI (by omega) (by decide)) (by rw [(nI_clamp (by omega))]; exact MT_kn hM hk0 hX) ?_
              refine m_if1 (t := 102) (pc' := 84) cd_Mo_derive rfl rfl rfl (fun c81 => ?_) (fun c81 => ?_)
              · have c81 : (cif (W X) (1 : Int32) 0) = 0 := c81
                refine m_inc (y := nI (k + 1)) (pc' := 105) cd_Mo_derive rfl l2 (by decide) (nI_add k 1) rfl (fun lv el => ?_)
                have l0 := tm_lk el l0 rfl (by decide)
                have l1 := tm_lk el l1 rfl (by decide)
                have l2 : lv.lookup 2 = some (.int (nI (k + 1))) := tm_lks el
                clear el
                refine m_pure (pc' := 23) (st' := []) cd_Mo_derive rfl rfl (fun _ _ => rfl) ?_
                refine ih (k + 1) A W b (by omega) (by omega) hL0 (fun eb i Y h0 hi hY => ?_) lv l0 l1 l2
                by_cases q : i = k
                · rw [q, hX] at hY
                  cases hY
                  have e0 := (hL0.2.2.2.1 eb).2
                  have hw := cz c37
                  rw [e0] at hw y51
                  exact ⟨fun q => q.elim (fun g => absurd g (cz c46)) (fun g => absurd g y51), fun q => absurd q hw⟩
                · exact hc eb i Y h0 (by omega) hY
              · have c81 : ¬ (cif (W X) (1 : Int32) 0) = 0 := c81
                exact absurd (cnz c81) (cz c37)
            · exact absurd (show ¬ (0 : Int32) = 0 from c54) (by decide)
theorem l_mderE {sc : tm_X} {d : Nat} {f : Nat → Int32} {A0 A : Nat → Nat → Int32} {T : List Tm} {DL : List (Int32 × Int32)} {G W : Tm → Prop} {Q : MS → Prop} (kk : ∀ A1 W1, MT f A1 T DL G W1 → (∀ j, j ≠ 6 → A1 j = A0 j) → (∀ y, W1 y → Kn G y) → (∀ X, X ∈ T → X ≠ tz → (W1 X ↔ Kn G X)) → Q (f, A1)) (hM : MT f A T DL G W) (hA : ∀ j, j ≠ 6 → A j = A0 j) (hK : ∀ y, W y → Kn G y) (hc : ∀ X, X ∈ T → X ≠ tz → (W X ↔ Kn G X)) : ∀ lv : tm_L, lv.lookup 0 = some (.ref 1482) → lv.lookup 1 = some (.int 0) → mg sc (d + 4) 270 15 lv [] (f, A) (fun r s' => r = none ∧ Q s') := by
  intro lv l0 l1
  refine m_ild (pc' := 16) cd_Mo_derive rfl (Or.inr ⟨_, rfl, rfl, rfl⟩) l1 rfl ?_
  refine m_if1 (t := 111) (pc' := 19) cd_Mo_derive rfl rfl rfl (fun c16 => ?_) (fun c16 => ?_)
  · have c16 : (0 : Int32) = 0 := c16
    exact m_retv cd_Mo_derive rfl ⟨rfl, kk A W hM hA hK hc⟩
  · exact absurd (show ¬ (0 : Int32) = 0 from c16) (by decide)
set_option maxRecDepth 100000 in
theorem l_mderW {sc : tm_X} {d : Nat} {f : Nat → Int32} {A0 : Nat → Nat → Int32} {T : List Tm} {DL : List (Int32 × Int32)} {G : Tm → Prop} {Q : MS → Prop} (kk : ∀ A1 W1, MT f A1 T DL G W1 → (∀ j, j ≠ 6 → A1 j = A0 j) → (∀ y, W1 y → Kn G y) → (∀ X, X ∈ T → X ≠ tz → (W1 X ↔ Kn G X)) → Q (f, A1)) : ∀ (n : Nat) (A : Nat → Nat → Int32) (W : Tm → Prop) (b : Bool), unk (A 6) T.length < n → MT f A T DL G W → (∀ j, j ≠ 6 → A j = A0 j) → (∀ y, W y → Kn G y) → (b = false → ∀ (i : Nat) (X : Tm), 0 < i → T[i]? = some X → cl1 G W X) → ∀ lv : tm_L, lv.lookup 0 = some (.ref 1482) → lv.lookup 1 = some (.int (bz b)) → mg sc (d + 4) 270 15 lv [] (f, A) (fun r s' => r = none ∧ Q s') := by
  intro n
  induction n with
  | zero => intro A W b h; exact absurd h (by omega)
  | succ n ih =>
    intro A W b hn hM hA hK hc lv l0 l1
    have hL := MT_len hM
    refine m_ild (pc' := 16) cd_Mo_derive rfl (Or.inr ⟨_, rfl, rfl, rfl⟩) l1 rfl ?_
    refine m_if1 (t := 111) (pc' := 19) cd_Mo_derive rfl rfl rfl (fun c16 => ?_) (fun c16 => ?_)
    · have c16 : b = false := bz_f c16
      exact m_retv cd_Mo_derive rfl ⟨rfl, kk A W hM hA hK (MT_all hM hK (hc c16))⟩
    · have c16 : b = true := bz_t c16
      refine m_k1 (v := 0) (pc' := 20) cd_Mo_derive rfl (by decide) rfl ?_
      refine m_ist (pc' := 21) cd_Mo_derive rfl (Or.inr ⟨_, rfl, rfl, rfl⟩) (by decide) rfl (fun lv el => ?_)
      have l0 := tm_lk el l0 rfl (by decide)
      have l1 : lv.lookup 1 = some (.int 0) := tm_lks el
      clear el
      refine m_k1 (v := 1) (pc' := 22) cd_Mo_derive rfl (by decide) rfl ?_
      refine m_ist (pc' := 23) cd_Mo_derive rfl (Or.inr ⟨_, rfl, rfl, rfl⟩) (by decide) rfl (fun lv el => ?_)
      have l0 := tm_lk el l0 rfl (by decide)
      have l1 := tm_lk el l1 rfl (by decide)
      have l2 : lv.lookup 2 = some (.int 1) := tm_lks el
      clear el
      refine l_mderP (A0 := A) (W0 := W) (fun A1 W1 b1 h1 hcl lv l0 l1 => ?_) (T.length - 1) 1 A W false (by omega) (by omega) (lrn_0 hM) (fun _ i X h0 hi => absurd hi (by omega)) lv l0 l1 l2
      cases b1 with
      | false =>
        have hcl := hcl rfl
        have e := h1.2.2.2.1 rfl
        have hM1 := h1.1
        rw [e.1] at hM1 ⊢
        rw [e.2] at hM1
        refine l_mderE (A0 := A0) kk hM1 hA hK (MT_all hM1 hK hcl) lv l0 l1
      | true => exact ih A1 W1 true (by have := h1.2.2.2.2.1 rfl; omega) h1.1 (fun j hj => (h1.2.2.1 j hj).trans (hA j hj)) (h1.2.2.2.2.2 hK) (fun q => (nomatch q)) lv l0 l1
set_option maxRecDepth 100000 in
theorem m_derive {sc : tm_X} {d : Nat} {f : Nat → Int32} {A : Nat → Nat → Int32} {T : List Tm} {DL : List (Int32 × Int32)} {G W : Tm → Prop} {Pp : Tm → Prop} {Q : MS → Prop} (hM : MT f A T DL G W) (hK : ∀ y, W y → Kn G y) (hst : f 16 = 0 → ∀ X, X ∈ T → X ≠ tz → Pp X → Kn G X → W X) (kk : ∀ A1 W1, MT (fset f 16 0) A1 T DL G W1 → (∀ j, j ≠ 6 → A1 j = A j) → (∀ y, W1 y → Kn G y) → (∀ X, X ∈ T → X ≠ tz → Pp X → (W1 X ↔ Kn G X)) → Q (fset f 16 0, A1)) : mGv sc (d + 4) 270 [.ref 1482] (f, A) Q := by
  show mg sc (d + 4) 270 0 [(0, .ref 1482)] [] (f, A) _
  generalize elv : ([(0, .ref 1482)] : tm_L) = lv
  have l0 : lv.lookup 0 = some (.ref 1482) := by rw [← elv]; rfl
  clear elv
  refine m_ald (pc' := 1) cd_Mo_derive rfl (Or.inr ⟨_, rfl, rfl, rfl⟩) l0 rfl rfl ?_
  refine m_fI (k := 16) (x := (f 16)) (pc' := 4) cd_Mo_derive rfl rfl rfl rfl rfl rfl ?_
  refine m_if1 (t := 8) (pc' := 7) cd_Mo_derive rfl rfl rfl (fun c4 => ?_) (fun c4 => ?_)
  · have c4 : ¬ (f 16) = 0 := c4
    refine m_ald (pc' := 9) cd_Mo_derive rfl (Or.inr ⟨_, rfl, rfl, rfl⟩) l0 rfl rfl ?_
    refine m_k1 (v := 0) (pc' := 10) cd_Mo_derive rfl (by decide) rfl ?_
    refine m_pI (k := 16) (pc' := 13) cd_Mo_derive rfl rfl rfl rfl (by decide) rfl rfl ?_
    refine m_k1 (v := 1) (pc' := 14) cd_Mo_derive rfl (by decide) rfl ?_
    refine m_ist (pc' := 15) cd_Mo_derive rfl (Or.inr ⟨_, rfl, rfl, rfl⟩) (by decide) rfl (fun lv el => ?_)
    have l0 := tm_lk el l0 rfl (by decide)
    have l1 : lv.lookup 1 = some (.int 1) := tm_lks el
    clear el
    exact l_mderW (A0 := A) (fun A1 W1 q1 q2 q3 q4 => kk A1 W1 q1 q2 q3 (fun X h1 h2 _ => q4 X h1 h2)) (unk (A 6) T.length + 1) A W true (by omega) (show MT (fset f 16 0) A T DL G W from hM) (fun _ _ => rfl) hK (fun q => (nomatch q)) lv l0 l1
  · have c4 : (f 16) = 0 := Classical.not_not.mp c4
    have k2 := kk A W hM (fun _ _ => rfl) hK (fun X h1 h2 h3 => ⟨hK X, hst c4 X h1 h2 h3⟩)
    rw [show fset f 16 0 = f from by rw [← c4]; exact fset_id f 16] at k2
    exact m_retv cd_Mo_derive rfl ⟨rfl, k2⟩
