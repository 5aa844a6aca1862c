/-! Cells and slots only grow -/
section TMO
variable {o nL : Nat} {sc : tm_X} {pc : Nat} {lv : tm_L} {st : List Value} {h : tm_H} {S' : tm_S}
theorem tm_step_mono {i : Instr} {len : Nat} {ini : Bool} (hst : tm_step sc o nL ini i len pc lv st h = some S') : h.1 ≤ S'.2.2.2.1 ∧ h.2.1 ≤ S'.2.2.2.2.1 := by
  have hif : ∀ {n : Nat} {x : Option tm_S}, (if len = n then x else none) = some S' → x = some S' := by
    intro n x hh
    by_cases q : len = n
    · rw [if_pos q] at hh; exact hh
    · rw [if_neg q] at hh; cases hh
  cases i
  case newarray t =>
    cases t <;> first | (simp [tm_step] at hst; done) | skip
    all_goals
      have h2 := hif hst
      unfold tm_newa at h2
      (repeat' split at h2) <;> first | (cases h2; done) | (cases h2; simp only [tm_add]; omega)
  case new k =>
    have h2 := hif hst
    unfold tm_new at h2
    (repeat' split at h2) <;> first | (cases h2; done) | (cases h2; simp only [tm_add]; omega)
  case anewarray k =>
    have h2 := hif hst
    unfold tm_anew at h2
    (repeat' split at h2) <;> first | (cases h2; done) | (cases h2; simp only [tm_add]; omega)
  case multianewarray k d =>
    have h2 := hif hst
    unfold tm_mnew at h2
    (repeat' split at h2) <;> first | (cases h2; done) | (cases h2; simp only [tm_rows_1, tm_rows_2, tm_add]; omega)
  case tableswitch dflt lo hi offs =>
    simp only [tm_step, tm_switch] at hst
    (repeat' split at hst) <;> first | (cases hst; done) | (obtain ⟨_, _, hS⟩ := Option.map_eq_some_iff.mp hst; subst hS; exact ⟨Nat.le_refl _, Nat.le_refl _⟩)
  case dup =>
    simp only [tm_step] at hst
    (repeat' split at hst) <;> first | (cases hst; done) | (cases hst; exact ⟨Nat.le_refl _, Nat.le_refl _⟩)
  case pop =>
    simp only [tm_step] at hst
    (repeat' split at hst) <;> first | (cases hst; done) | (cases hst; exact ⟨Nat.le_refl _, Nat.le_refl _⟩)
  case dup_x1 =>
    simp only [tm_step] at hst
    (repeat' split at hst) <;> first | (cases hst; done) | (cases hst; exact ⟨Nat.le_refl _, Nat.le_refl _⟩)
  case dup2 =>
    simp only [tm_step] at hst
    (repeat' split at hst) <;> first | (cases hst; done) | (cases hst; exact ⟨Nat.le_refl _, Nat.le_refl _⟩)
  all_goals first
    | (simp [tm_step] at hst; done)
    | (have h2 := hif hst
       (try simp only [tm_ild, tm_ald, tm_ist, tm_ast, tm_bin, tm_div, tm_iinc, tm_if1, tm_if2, tm_ifnull, tm_acmp, tm_getf, tm_putf, tm_iald, tm_iast, tm_aald, tm_aast, tm_alen] at h2)
       (repeat' split at h2) <;> first | (cases h2; done) | (cases h2; exact ⟨Nat.le_refl _, Nat.le_refl _⟩) | (obtain ⟨_, _, hS⟩ := Option.map_eq_some_iff.mp h2; subst hS; exact ⟨Nat.le_refl _, Nat.le_refl _⟩))
theorem tm_nat_mono {i : Instr} (hst : tm_nat o i pc lv st h = some S') : h.1 ≤ S'.2.2.2.1 ∧ h.2.1 ≤ S'.2.2.2.2.1 := by
  unfold tm_nat tm_copy tm_mm at hst
  (repeat' split at hst) <;> first | (cases hst; done) | (cases hst; exact ⟨Nat.le_refl _, Nat.le_refl _⟩)
end TMO
theorem tm_run_mono (sc : tm_X) : ∀ (fuel d j pc : Nat) (lv : tm_L) (st : List Value) (h : tm_H) (r : Option Value) (h' : tm_H), tm_run sc fuel d j pc lv st h = some (r, h') → h.1 ≤ h'.1 ∧ h.2.1 ≤ h'.2.1
  | 0, d, j, pc, lv, st, h, r, h', hr => by cases hr
  | fuel + 1, d, j, pc, lv, st, h, r, h', hr => by
    unfold tm_run at hr
    split at hr
    · cases hr
    · split at hr
      · cases hr
      · split at hr
        · split at hr
          · cases hr; exact ⟨Nat.le_refl _, Nat.le_refl _⟩
          · cases hr
        · split at hr
          · rename_i hs
            have a := tm_step_mono hs
            have b := tm_run_mono sc fuel _ _ _ _ _ _ _ _ hr
            exact ⟨Nat.le_trans a.1 b.1, Nat.le_trans a.2 b.2⟩
          · split at hr
            · cases hr
            · split at hr
              · split at hr
                · rename_i hs
                  have a := tm_nat_mono hs
                  have b := tm_run_mono sc fuel _ _ _ _ _ _ _ _ hr
                  exact ⟨Nat.le_trans a.1 b.1, Nat.le_trans a.2 b.2⟩
                · split at hr
                  · split at hr
                    · rename_i hs
                      have a := tm_run_mono sc fuel _ _ _ _ _ _ _ _ hs
                      have b := tm_run_mono sc fuel _ _ _ _ _ _ _ _ hr
                      exact ⟨Nat.le_trans a.1 b.1, Nat.le_trans a.2 b.2⟩
                    · cases hr
                  · cases hr
              · cases hr
