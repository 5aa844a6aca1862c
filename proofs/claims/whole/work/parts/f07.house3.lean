/-! The house is made, from its beginning. -/
theorem eG_0 : eG 0 = fun _ => False := by
  funext y
  exact propext ⟨fun ⟨i, hi, _⟩ => absurd hi (Nat.not_lt_zero i), fun q => q.elim⟩
theorem os_0 {n : Nat} (h0 : n = 1 + 4) : n = 5 := by omega
theorem os_1 {n : Nat} (h0 : n = 5) : 1 + 4 ≤ n := by omega
theorem os_2 : 0 < 1 ∨ 1 + 4 ≤ 0 := by omega
theorem os_4 {n : Nat} (h0 : n = 6) : 1 + 4 ≤ n := by omega
theorem os_5 {n : Nat} (h0 : n = 5 + 3) : n = 8 := by omega
theorem os_6 {n : Nat} (h0 : n = 8) : 1 + 4 ≤ n := by omega
theorem os_7 {n : Nat} (h0 : n = 8) : 5 + 3 ≤ n := by omega
theorem os_8 : 0 < 5 ∨ 5 + 3 ≤ 0 := by omega
theorem os_9 {n : Nat} (h0 : n = 8 + 3) : n = 11 := by omega
theorem os_10 {n : Nat} (h0 : n = 11) : 1 + 4 ≤ n := by omega
theorem os_11 {n : Nat} (h0 : n = 11) : 5 + 3 ≤ n := by omega
theorem os_12 {n : Nat} (h0 : n = 11) : 8 + 3 ≤ n := by omega
theorem os_13 : 0 < 8 ∨ 8 + 3 ≤ 0 := by omega
theorem os_14 {n : Nat} (h0 : n = 11 + 8) : n = 19 := by omega
theorem os_15 {n : Nat} (h0 : n = 19) : 1 + 4 ≤ n := by omega
theorem os_16 {n : Nat} (h0 : n = 19) : 5 + 3 ≤ n := by omega
theorem os_17 {n : Nat} (h0 : n = 19) : 8 + 3 ≤ n := by omega
theorem os_18 {n : Nat} (h0 : n = 19) : 11 + 8 ≤ n := by omega
theorem os_19 : 0 < 11 ∨ 11 + 8 ≤ 0 := by omega
theorem os_20 {n : Nat} (h0 : n = 19 + 1) : n = 20 := by omega
theorem os_21 {n : Nat} (h0 : n = 20) : 1 + 4 ≤ n := by omega
theorem os_22 {n : Nat} (h0 : n = 20) : 5 + 3 ≤ n := by omega
theorem os_23 {n : Nat} (h0 : n = 20) : 8 + 3 ≤ n := by omega
theorem os_24 {n : Nat} (h0 : n = 20) : 11 + 8 ≤ n := by omega
theorem os_25 {n : Nat} (h0 : n = 20 + 1) : n = 21 := by omega
theorem os_26 {n : Nat} (h0 : n = 21) : 1 + 4 ≤ n := by omega
theorem os_27 {n : Nat} (h0 : n = 21) : 5 + 3 ≤ n := by omega
theorem os_28 {n : Nat} (h0 : n = 21) : 8 + 3 ≤ n := by omega
theorem os_29 {n : Nat} (h0 : n = 21) : 11 + 8 ≤ n := by omega
theorem os_30 {n : Nat} (h0 : n = 21 + 1) : n = 22 := by omega
theorem os_31 {n : Nat} (h0 : n = 22) : 1 + 4 ≤ n := by omega
theorem os_32 {n : Nat} (h0 : n = 22) : 5 + 3 ≤ n := by omega
theorem os_33 {n : Nat} (h0 : n = 22) : 8 + 3 ≤ n := by omega
theorem os_34 {n : Nat} (h0 : n = 22) : 11 + 8 ≤ n := by omega
theorem os_35 {n : Nat} (h0 : n = 22 + 1) : n = 23 := by omega
theorem os_36 {n : Nat} (h0 : n = 23) : 1 + 4 ≤ n := by omega
theorem os_37 {n : Nat} (h0 : n = 23) : 5 + 3 ≤ n := by omega
theorem os_38 {n : Nat} (h0 : n = 23) : 8 + 3 ≤ n := by omega
theorem os_39 {n : Nat} (h0 : n = 23) : 11 + 8 ≤ n := by omega
theorem os_40 {n : Nat} (h0 : n = 23 + 1) : n = 24 := by omega
theorem os_41 {n : Nat} (h0 : n = 24) : 1 + 4 ≤ n := by omega
theorem os_42 {n : Nat} (h0 : n = 24) : 5 + 3 ≤ n := by omega
theorem os_43 {n : Nat} (h0 : n = 24) : 8 + 3 ≤ n := by omega
theorem os_44 {n : Nat} (h0 : n = 24) : 11 + 8 ≤ n := by omega
theorem os_45 {n : Nat} (h0 : n = 24 + 1) : n = 25 := by omega
theorem os_46 {n : Nat} (h0 : n = 25) : 1 + 4 ≤ n := by omega
theorem os_47 {n : Nat} (h0 : n = 25) : 5 + 3 ≤ n := by omega
theorem os_48 {n : Nat} (h0 : n = 25) : 8 + 3 ≤ n := by omega
theorem os_49 {n : Nat} (h0 : n = 25) : 11 + 8 ≤ n := by omega
theorem os_50 {n : Nat} (h0 : n = 25 + 203) : n = 228 := by omega
theorem os_51 {n : Nat} (h0 : n = 228) : 1 + 4 ≤ n := by omega
theorem os_52 {n : Nat} (h0 : n = 228) : 5 + 3 ≤ n := by omega
theorem os_53 {n : Nat} (h0 : n = 228) : 8 + 3 ≤ n := by omega
theorem os_54 {n : Nat} (h0 : n = 228) : 11 + 8 ≤ n := by omega
theorem os_55 {n : Nat} (h0 : n = 228) : 25 + 203 ≤ n := by omega
theorem os_56 : 0 < 25 ∨ 25 + 203 ≤ 0 := by omega
set_option maxRecDepth 100000 in
theorem i_Ho {sc : tm_X} {d : Nat} {B0 B1 : bm_H} {Q : bm_H → Prop} (hm : bm_n B0 = 0) (hs : bm_sl B0 = 0) (h : NwO B0 B1 0 11 12) (kk : ∀ B', HI 6 B' → Q B') : bm_Gv sc (d + 5) 0 [.ref 0] B1 Q := by
  have h1 : bm_n B1 = 1 := h.2.1.1
  have hs1 : bm_sl B1 = 0 + 12 := by rw [h.2.1.2, hs]
  show bm_G _ _ _ 0 [(0, .ref 0)] [] B1 _
  generalize elv : ([(0, .ref 0)] : tm_L) = lv
  have l0 : lv.lookup 0 = some (.ref 0) := by rw [← elv]; rfl
  clear elv
  refine g_ald (pc' := 1) cd_Ho_init rfl (Or.inr ⟨_, rfl, rfl, rfl⟩) l0 rfl rfl ?_
  refine n_super (pc' := 4) cd_Ho_init rfl rfl rfl rfl ?_
  refine g_ald (pc' := 5) cd_Ho_init rfl (Or.inr ⟨_, rfl, rfl, rfl⟩) l0 rfl rfl ?_
  refine n_obj 6 h1 cd_Ho_init rfl rfl rfl rfl (by decide) rfl (fun B929 h929 => ?_)
  have hf930 := fr0_f h929.1
  have f931_0 := fr_lt hf930 h.2.2.1.1
  have g931_0 := (fr_K hf930 h.2.2.1.1).trans h.2.2.1.2
  have t932_0 : ∀ c k, bm_FI B929 c k 0 = 0 := fun c k => (fr_FI (fr0_f h929.1) h.2.2.1.1 (fun q => q) c k).trans (h.2.2.2.1 c k)
  refine g_pure (pc' := 9) (st' := [.ref 1, .ref 1, .ref 0]) cd_Ho_init rfl rfl (fun _ _ => rfl) ?_
  refine g_callv (pc' := 12) cd_Ho_init rfl rfl rfl rfl rfl (tm_invI rfl rfl cd_Te_init rfl (Nat.le_of_ble_eq_true rfl)) (i_Te h1 h929 (fun B933 h933 => ?_))
  have hf934 := fr0_f h933.1
  have f935_0 := fr_lt hf934 h.2.2.1.1
  have g935_0 := (fr_K hf934 h.2.2.1.1).trans h.2.2.1.2
  have t936_0 : ∀ c k, bm_FI B933 c k 0 = 0 := fun c k => (fr_FI (fr0_f h933.1) h.2.2.1.1 (fun q => q) c k).trans (h.2.2.2.1 c k)
  have hn937 : bm_n B933 = 5 := (os_0 h933.2.1.1)
  have sl938 : bm_sl B933 = 0 + 15388 := by rw [h933.2.1.2, hs1]
  show bm_G _ _ _ 12 _ [.ref 1, .ref 0] B933 _
  refine g_putR (v := some 1) (c := 11) (k := 0) (pc' := 15) rfl cd_Ho_init rfl rfl rfl rfl (by simp [tm_okV, narrow, fits]) (Or.inr ⟨rfl, rfl, rfl, rfl⟩) rfl (by decide) f935_0 g935_0 ?_
  have z939 : bm_FR (bm_putR B933 11 0 0 (some 1)) 11 0 0 = some 1 := (by simp [bm_putR, bm_up3, bm_FR])
  have t940_0 : ∀ c k, bm_FI (bm_putR B933 11 0 0 (some 1)) c k 0 = 0 := t936_0
  have t940_1 : stb (PTe (1)) (1) (1 + 4) (bm_putR B933 11 0 0 (some 1)) := stb_putR h933.2.2.1 (os_1 hn937) os_2
  have hn941 : bm_n (bm_putR B933 11 0 0 (some 1)) = 5 := hn937
  have sl942 : bm_sl (bm_putR B933 11 0 0 (some 1)) = 0 + 15388 := sl938
  refine g_ald (pc' := 16) cd_Ho_init rfl (Or.inr ⟨_, rfl, rfl, rfl⟩) l0 rfl rfl ?_
  refine n_obj 6 hn941 cd_Ho_init rfl rfl rfl rfl (by decide) rfl (fun B943 h943 => ?_)
  have hf944 := fr0_f h943.1
  have f945_0 := fr_lt hf944 f935_0
  have g945_0 := (fr_K hf944 f935_0).trans g935_0
  have f945_1 := fr_lt hf944 h933.2.2.2.1
  have g945_1 := (fr_K hf944 h933.2.2.2.1).trans h933.2.2.2.2
  have r945_0 : bm_FR B943 11 0 0 = some 1 := (fr_FR hf944 f935_0 (fun q => q) 11 0).trans z939
  have t946_0 : ∀ c k, bm_FI B943 c k 0 = 0 := fun c k => (fr_FI (fr0_f h943.1) f935_0 (fun q => q) c k).trans (t940_0 c k)
  have t946_1 : stb (PTe (1)) (1) (1 + 4) B943 := stb_fr0 t940_1 h943.1 (os_1 hn941)
  refine g_pure (pc' := 20) (st' := [.ref 5, .ref 5, .ref 0]) cd_Ho_init rfl rfl (fun _ _ => rfl) ?_
  refine g_ald (pc' := 21) cd_Ho_init rfl (Or.inr ⟨_, rfl, rfl, rfl⟩) l0 rfl rfl ?_
  refine g_fR (c := 11) (k := 0) (x := 1) (pc' := 24) cd_Ho_init rfl rfl rfl rfl rfl (by decide) f945_0 g945_0 r945_0 ?_
  have hr947 : bm_FI B943 9 3 1 = 1024 := (stb_on t946_1 (os_4 h943.2.1.1) rfl).1.2.2.2.1.1.trans (by decide)
  refine g_callv (pc' := 27) cd_Ho_init rfl rfl rfl rfl rfl (tm_invI rfl rfl cd_Kn_init rfl (Nat.le_of_ble_eq_true rfl)) (i_Kn (a := 1) rfl f945_1 g945_1 hr947 hn941 h943 (fun B948 h948 => ?_))
  have hf949 := fr0_f h948.1
  have f950_0 := fr_lt hf949 f935_0
  have g950_0 := (fr_K hf949 f935_0).trans g935_0
  have f950_1 := fr_lt hf949 h933.2.2.2.1
  have g950_1 := (fr_K hf949 h933.2.2.2.1).trans h933.2.2.2.2
  have r950_0 : bm_FR B948 11 0 0 = some 1 := (fr_FR hf949 f935_0 (fun q => q) 11 0).trans z939
  have t951_0 : ∀ c k, bm_FI B948 c k 0 = 0 := fun c k => (fr_FI (fr0_f h948.1) f935_0 (fun q => q) c k).trans (t940_0 c k)
  have t951_1 : stb (PTe (1)) (1) (1 + 4) B948 := stb_fr0 t940_1 h948.1 (os_1 hn941)
  have hn952 : bm_n B948 = 8 := (os_5 h948.2.1.1)
  have sl953 : bm_sl B948 = 0 + 22562 := by rw [h948.2.1.2, sl942]
  show bm_G _ _ _ 27 _ [.ref 5, .ref 0] B948 _
  refine g_putR (v := some 5) (c := 11) (k := 1) (pc' := 30) rfl cd_Ho_init rfl rfl rfl rfl (by simp [tm_okV, narrow, fits]) (Or.inr ⟨rfl, rfl, rfl, rfl⟩) rfl (by decide) f950_0 g950_0 ?_
  have z954 : bm_FR (bm_putR B948 11 1 0 (some 5)) 11 1 0 = some 5 := (by simp [bm_putR, bm_up3, bm_FR])
  have t955_0 : ∀ c k, bm_FI (bm_putR B948 11 1 0 (some 5)) c k 0 = 0 := t951_0
  have t955_1 : stb (PTe (1)) (1) (1 + 4) (bm_putR B948 11 1 0 (some 5)) := stb_putR t951_1 (os_6 hn952) os_2
  have t955_2 : stb (PKn (5)) (5) (5 + 3) (bm_putR B948 11 1 0 (some 5)) := stb_putR h948.2.2.1 (os_7 hn952) os_8
  have hn956 : bm_n (bm_putR B948 11 1 0 (some 5)) = 8 := hn952
  have sl957 : bm_sl (bm_putR B948 11 1 0 (some 5)) = 0 + 22562 := sl953
  refine g_ald (pc' := 31) cd_Ho_init rfl (Or.inr ⟨_, rfl, rfl, rfl⟩) l0 rfl rfl ?_
  refine n_obj 4 hn956 cd_Ho_init rfl rfl rfl rfl (by decide) rfl (fun B958 h958 => ?_)
  have hf959 := fr0_f h958.1
  have f960_0 := fr_lt hf959 f950_0
  have g960_0 := (fr_K hf959 f950_0).trans g950_0
  have f960_1 := fr_lt hf959 f950_1
  have g960_1 := (fr_K hf959 f950_1).trans g950_1
  have f960_2 := fr_lt hf959 h948.2.2.2.1
  have g960_2 := (fr_K hf959 h948.2.2.2.1).trans h948.2.2.2.2
  have r960_0 : bm_FR B958 11 0 0 = some 1 := (fr_FR hf959 f950_0 (fun q => q) 11 0).trans r950_0
  have r960_1 : bm_FR B958 11 1 0 = some 5 := (fr_FR hf959 f950_0 (fun q => q) 11 1).trans z954
  have t961_0 : ∀ c k, bm_FI B958 c k 0 = 0 := fun c k => (fr_FI (fr0_f h958.1) f950_0 (fun q => q) c k).trans (t955_0 c k)
  have t961_1 : stb (PTe (1)) (1) (1 + 4) B958 := stb_fr0 t955_1 h958.1 (os_6 hn956)
  have t961_2 : stb (PKn (5)) (5) (5 + 3) B958 := stb_fr0 t955_2 h958.1 (os_7 hn956)
  refine g_pure (pc' := 35) (st' := [.ref 8, .ref 8, .ref 0]) cd_Ho_init rfl rfl (fun _ _ => rfl) ?_
  refine g_callv (pc' := 38) cd_Ho_init rfl rfl rfl rfl rfl (tm_invI rfl rfl cd_Wi_init rfl (Nat.le_of_ble_eq_true rfl)) (i_Wi hn956 h958 (fun B962 h962 => ?_))
  have hf963 := fr0_f h962.1
  have f964_0 := fr_lt hf963 f950_0
  have g964_0 := (fr_K hf963 f950_0).trans g950_0
  have f964_1 := fr_lt hf963 f950_1
  have g964_1 := (fr_K hf963 f950_1).trans g950_1
  have f964_2 := fr_lt hf963 h948.2.2.2.1
  have g964_2 := (fr_K hf963 h948.2.2.2.1).trans h948.2.2.2.2
  have r964_0 : bm_FR B962 11 0 0 = some 1 := (fr_FR hf963 f950_0 (fun q => q) 11 0).trans r950_0
  have r964_1 : bm_FR B962 11 1 0 = some 5 := (fr_FR hf963 f950_0 (fun q => q) 11 1).trans z954
  have t965_0 : ∀ c k, bm_FI B962 c k 0 = 0 := fun c k => (fr_FI (fr0_f h962.1) f950_0 (fun q => q) c k).trans (t955_0 c k)
  have t965_1 : stb (PTe (1)) (1) (1 + 4) B962 := stb_fr0 t955_1 h962.1 (os_6 hn956)
  have t965_2 : stb (PKn (5)) (5) (5 + 3) B962 := stb_fr0 t955_2 h962.1 (os_7 hn956)
  have hn966 : bm_n B962 = 11 := (os_9 h962.2.1.1)
  have sl967 : bm_sl B962 = 0 + 23966 := by rw [h962.2.1.2, sl957]
  show bm_G _ _ _ 38 _ [.ref 8, .ref 0] B962 _
  refine g_putR (v := some 8) (c := 11) (k := 2) (pc' := 41) rfl cd_Ho_init rfl rfl rfl rfl (by simp [tm_okV, narrow, fits]) (Or.inr ⟨rfl, rfl, rfl, rfl⟩) rfl (by decide) f964_0 g964_0 ?_
  have z968 : bm_FR (bm_putR B962 11 2 0 (some 8)) 11 2 0 = some 8 := (by simp [bm_putR, bm_up3, bm_FR])
  have t969_0 : ∀ c k, bm_FI (bm_putR B962 11 2 0 (some 8)) c k 0 = 0 := t965_0
  have t969_1 : stb (PTe (1)) (1) (1 + 4) (bm_putR B962 11 2 0 (some 8)) := stb_putR t965_1 (os_10 hn966) os_2
  have t969_2 : stb (PKn (5)) (5) (5 + 3) (bm_putR B962 11 2 0 (some 8)) := stb_putR t965_2 (os_11 hn966) os_8
  have t969_3 : stb (PWi (8)) (8) (8 + 3) (bm_putR B962 11 2 0 (some 8)) := stb_putR h962.2.2.1 (os_12 hn966) os_13
  have hn970 : bm_n (bm_putR B962 11 2 0 (some 8)) = 11 := hn966
  have sl971 : bm_sl (bm_putR B962 11 2 0 (some 8)) = 0 + 23966 := sl967
  refine g_ald (pc' := 42) cd_Ho_init rfl (Or.inr ⟨_, rfl, rfl, rfl⟩) l0 rfl rfl ?_
  refine n_obj 15 hn970 cd_Ho_init rfl rfl rfl rfl (by decide) rfl (fun B972 h972 => ?_)
  have hf973 := fr0_f h972.1
  have f974_0 := fr_lt hf973 f964_0
  have g974_0 := (fr_K hf973 f964_0).trans g964_0
  have f974_1 := fr_lt hf973 f964_1
  have g974_1 := (fr_K hf973 f964_1).trans g964_1
  have f974_2 := fr_lt hf973 f964_2
  have g974_2 := (fr_K hf973 f964_2).trans g964_2
  have f974_3 := fr_lt hf973 h962.2.2.2.1
  have g974_3 := (fr_K hf973 h962.2.2.2.1).trans h962.2.2.2.2
  have r974_0 : bm_FR B972 11 0 0 = some 1 := (fr_FR hf973 f964_0 (fun q => q) 11 0).trans r964_0
  have r974_1 : bm_FR B972 11 1 0 = some 5 := (fr_FR hf973 f964_0 (fun q => q) 11 1).trans r964_1
  have r974_2 : bm_FR B972 11 2 0 = some 8 := (fr_FR hf973 f964_0 (fun q => q) 11 2).trans z968
  have t975_0 : ∀ c k, bm_FI B972 c k 0 = 0 := fun c k => (fr_FI (fr0_f h972.1) f964_0 (fun q => q) c k).trans (t969_0 c k)
  have t975_1 : stb (PTe (1)) (1) (1 + 4) B972 := stb_fr0 t969_1 h972.1 (os_10 hn970)
  have t975_2 : stb (PKn (5)) (5) (5 + 3) B972 := stb_fr0 t969_2 h972.1 (os_11 hn970)
  have t975_3 : stb (PWi (8)) (8) (8 + 3) B972 := stb_fr0 t969_3 h972.1 (os_12 hn970)
  refine g_pure (pc' := 46) (st' := [.ref 11, .ref 11, .ref 0]) cd_Ho_init rfl rfl (fun _ _ => rfl) ?_
  refine g_callv (pc' := 49) cd_Ho_init rfl rfl rfl rfl rfl (tm_invI rfl rfl cd_Le_init rfl (Nat.le_of_ble_eq_true rfl)) (i_Le hn970 h972 (fun B976 h976 => ?_))
  have hf977 := fr0_f h976.1
  have f978_0 := fr_lt hf977 f964_0
  have g978_0 := (fr_K hf977 f964_0).trans g964_0
  have f978_1 := fr_lt hf977 f964_1
  have g978_1 := (fr_K hf977 f964_1).trans g964_1
  have f978_2 := fr_lt hf977 f964_2
  have g978_2 := (fr_K hf977 f964_2).trans g964_2
  have f978_3 := fr_lt hf977 h962.2.2.2.1
  have g978_3 := (fr_K hf977 h962.2.2.2.1).trans h962.2.2.2.2
  have r978_0 : bm_FR B976 11 0 0 = some 1 := (fr_FR hf977 f964_0 (fun q => q) 11 0).trans r964_0
  have r978_1 : bm_FR B976 11 1 0 = some 5 := (fr_FR hf977 f964_0 (fun q => q) 11 1).trans r964_1
  have r978_2 : bm_FR B976 11 2 0 = some 8 := (fr_FR hf977 f964_0 (fun q => q) 11 2).trans z968
  have t979_0 : ∀ c k, bm_FI B976 c k 0 = 0 := fun c k => (fr_FI (fr0_f h976.1) f964_0 (fun q => q) c k).trans (t969_0 c k)
  have t979_1 : stb (PTe (1)) (1) (1 + 4) B976 := stb_fr0 t969_1 h976.1 (os_10 hn970)
  have t979_2 : stb (PKn (5)) (5) (5 + 3) B976 := stb_fr0 t969_2 h976.1 (os_11 hn970)
  have t979_3 : stb (PWi (8)) (8) (8 + 3) B976 := stb_fr0 t969_3 h976.1 (os_12 hn970)
  have hn980 : bm_n B976 = 19 := (os_14 h976.2.1.1)
  have sl981 : bm_sl B976 = 0 + 34011 := by rw [h976.2.1.2, sl971]
  show bm_G _ _ _ 49 _ [.ref 11, .ref 0] B976 _
  refine g_putR (v := some 11) (c := 11) (k := 3) (pc' := 52) rfl cd_Ho_init rfl rfl rfl rfl (by simp [tm_okV, narrow, fits]) (Or.inr ⟨rfl, rfl, rfl, rfl⟩) rfl (by decide) f978_0 g978_0 ?_
  have z982 : bm_FR (bm_putR B976 11 3 0 (some 11)) 11 3 0 = some 11 := (by simp [bm_putR, bm_up3, bm_FR])
  have t983_0 : ∀ c k, bm_FI (bm_putR B976 11 3 0 (some 11)) c k 0 = 0 := t979_0
  have t983_1 : stb (PTe (1)) (1) (1 + 4) (bm_putR B976 11 3 0 (some 11)) := stb_putR t979_1 (os_15 hn980) os_2
  have t983_2 : stb (PKn (5)) (5) (5 + 3) (bm_putR B976 11 3 0 (some 11)) := stb_putR t979_2 (os_16 hn980) os_8
  have t983_3 : stb (PWi (8)) (8) (8 + 3) (bm_putR B976 11 3 0 (some 11)) := stb_putR t979_3 (os_17 hn980) os_13
  have t983_4 : stb (PLe (11)) (11) (11 + 8) (bm_putR B976 11 3 0 (some 11)) := stb_putR h976.2.2.1 (os_18 hn980) os_19
  have hn984 : bm_n (bm_putR B976 11 3 0 (some 11)) = 19 := hn980
  have sl985 : bm_sl (bm_putR B976 11 3 0 (some 11)) = 0 + 34011 := sl981
  refine g_ald (pc' := 53) cd_Ho_init rfl (Or.inr ⟨_, rfl, rfl, rfl⟩) l0 rfl rfl ?_
  refine g_k2 (v := 6) (pc' := 55) cd_Ho_init rfl (by decide) rfl ?_
  refine n_ref 6 hn984 cd_Ho_init rfl rfl rfl rfl (by decide) rfl (by decide) (by decide) (by decide) (fun B986 h986 => ?_)
  have hf987 := fr0_f h986.1
  have f988_0 := fr_lt hf987 f978_0
  have g988_0 := (fr_K hf987 f978_0).trans g978_0
  have f988_1 := fr_lt hf987 f978_1
  have g988_1 := (fr_K hf987 f978_1).trans g978_1
  have f988_2 := fr_lt hf987 f978_2
  have g988_2 := (fr_K hf987 f978_2).trans g978_2
  have f988_3 := fr_lt hf987 f978_3
  have g988_3 := (fr_K hf987 f978_3).trans g978_3
  have f988_4 := fr_lt hf987 h976.2.2.2.1
  have g988_4 := (fr_K hf987 h976.2.2.2.1).trans h976.2.2.2.2
  have r988_0 : bm_FR B986 11 0 0 = some 1 := (fr_FR hf987 f978_0 (fun q => q) 11 0).trans r978_0
  have r988_1 : bm_FR B986 11 1 0 = some 5 := (fr_FR hf987 f978_0 (fun q => q) 11 1).trans r978_1
  have r988_2 : bm_FR B986 11 2 0 = some 8 := (fr_FR hf987 f978_0 (fun q => q) 11 2).trans r978_2
  have r988_3 : bm_FR B986 11 3 0 = some 11 := (fr_FR hf987 f978_0 (fun q => q) 11 3).trans z982
  have t989_0 : ∀ c k, bm_FI B986 c k 0 = 0 := fun c k => (fr_FI (fr0_f h986.1) f978_0 (fun q => q) c k).trans (t983_0 c k)
  have t989_1 : stb (PTe (1)) (1) (1 + 4) B986 := stb_fr0 t983_1 h986.1 (os_15 hn984)
  have t989_2 : stb (PKn (5)) (5) (5 + 3) B986 := stb_fr0 t983_2 h986.1 (os_16 hn984)
  have t989_3 : stb (PWi (8)) (8) (8 + 3) B986 := stb_fr0 t983_3 h986.1 (os_17 hn984)
  have t989_4 : stb (PLe (11)) (11) (11 + 8) B986 := stb_fr0 t983_4 h986.1 (os_18 hn984)
  have hn990 : bm_n B986 = 20 := (os_20 h986.2.1.1)
  have sl991 : bm_sl B986 = 0 + 34017 := by rw [h986.2.1.2, sl985]
  refine g_putR (v := some 19) (c := 11) (k := 4) (pc' := 61) rfl cd_Ho_init rfl rfl rfl rfl (by simp [tm_okV, narrow, fits]) (Or.inr ⟨rfl, rfl, rfl, rfl⟩) rfl (by decide) f988_0 g988_0 ?_
  have z992 : bm_FR (bm_putR B986 11 4 0 (some 19)) 11 4 0 = some 19 := (by simp [bm_putR, bm_up3, bm_FR])
  have t993_0 : ∀ c k, bm_FI (bm_putR B986 11 4 0 (some 19)) c k 0 = 0 := t989_0
  have t993_1 : stb (PTe (1)) (1) (1 + 4) (bm_putR B986 11 4 0 (some 19)) := stb_putR t989_1 (os_21 hn990) os_2
  have t993_2 : stb (PKn (5)) (5) (5 + 3) (bm_putR B986 11 4 0 (some 19)) := stb_putR t989_2 (os_22 hn990) os_8
  have t993_3 : stb (PWi (8)) (8) (8 + 3) (bm_putR B986 11 4 0 (some 19)) := stb_putR t989_3 (os_23 hn990) os_13
  have t993_4 : stb (PLe (11)) (11) (11 + 8) (bm_putR B986 11 4 0 (some 19)) := stb_putR t989_4 (os_24 hn990) os_19
  have hn994 : bm_n (bm_putR B986 11 4 0 (some 19)) = 20 := hn990
  have sl995 : bm_sl (bm_putR B986 11 4 0 (some 19)) = 0 + 34017 := sl991
  refine g_ald (pc' := 62) cd_Ho_init rfl (Or.inr ⟨_, rfl, rfl, rfl⟩) l0 rfl rfl ?_
  refine g_k2 (v := 6) (pc' := 64) cd_Ho_init rfl (by decide) rfl ?_
  refine n_ref 6 hn994 cd_Ho_init rfl rfl rfl rfl (by decide) rfl (by decide) (by decide) (by decide) (fun B996 h996 => ?_)
  have hf997 := fr0_f h996.1
  have f998_0 := fr_lt hf997 f988_0
  have g998_0 := (fr_K hf997 f988_0).trans g988_0
  have f998_1 := fr_lt hf997 f988_1
  have g998_1 := (fr_K hf997 f988_1).trans g988_1
  have f998_2 := fr_lt hf997 f988_2
  have g998_2 := (fr_K hf997 f988_2).trans g988_2
  have f998_3 := fr_lt hf997 f988_3
  have g998_3 := (fr_K hf997 f988_3).trans g988_3
  have f998_4 := fr_lt hf997 f988_4
  have g998_4 := (fr_K hf997 f988_4).trans g988_4
  have f998_5 := fr_lt hf997 h986.2.2.1.1
  have g998_5 := (fr_K hf997 h986.2.2.1.1).trans h986.2.2.1.2.1
  have r998_0 : bm_FR B996 11 0 0 = some 1 := (fr_FR hf997 f988_0 (fun q => q) 11 0).trans r988_0
  have r998_1 : bm_FR B996 11 1 0 = some 5 := (fr_FR hf997 f988_0 (fun q => q) 11 1).trans r988_1
  have r998_2 : bm_FR B996 11 2 0 = some 8 := (fr_FR hf997 f988_0 (fun q => q) 11 2).trans r988_2
  have r998_3 : bm_FR B996 11 3 0 = some 11 := (fr_FR hf997 f988_0 (fun q => q) 11 3).trans r988_3
  have r998_4 : bm_FR B996 11 4 0 = some 19 := (fr_FR hf997 f988_0 (fun q => q) 11 4).trans z992
  have w998_0 : bm_AL B996 19 = 6 := (fr_AL hf997 h986.2.2.1.1).trans h986.2.2.1.2.2
  have t999_0 : ∀ c k, bm_FI B996 c k 0 = 0 := fun c k => (fr_FI (fr0_f h996.1) f988_0 (fun q => q) c k).trans (t993_0 c k)
  have t999_1 : stb (PTe (1)) (1) (1 + 4) B996 := stb_fr0 t993_1 h996.1 (os_21 hn994)
  have t999_2 : stb (PKn (5)) (5) (5 + 3) B996 := stb_fr0 t993_2 h996.1 (os_22 hn994)
  have t999_3 : stb (PWi (8)) (8) (8 + 3) B996 := stb_fr0 t993_3 h996.1 (os_23 hn994)
  have t999_4 : stb (PLe (11)) (11) (11 + 8) B996 := stb_fr0 t993_4 h996.1 (os_24 hn994)
  have hn1000 : bm_n B996 = 21 := (os_25 h996.2.1.1)
  have sl1001 : bm_sl B996 = 0 + 34023 := by rw [h996.2.1.2, sl995]
  refine g_putR (v := some 20) (c := 11) (k := 5) (pc' := 70) rfl cd_Ho_init rfl rfl rfl rfl (by simp [tm_okV, narrow, fits]) (Or.inr ⟨rfl, rfl, rfl, rfl⟩) rfl (by decide) f998_0 g998_0 ?_
  have z1002 : bm_FR (bm_putR B996 11 5 0 (some 20)) 11 5 0 = some 20 := (by simp [bm_putR, bm_up3, bm_FR])
  have t1003_0 : ∀ c k, bm_FI (bm_putR B996 11 5 0 (some 20)) c k 0 = 0 := t999_0
  have t1003_1 : stb (PTe (1)) (1) (1 + 4) (bm_putR B996 11 5 0 (some 20)) := stb_putR t999_1 (os_26 hn1000) os_2
  have t1003_2 : stb (PKn (5)) (5) (5 + 3) (bm_putR B996 11 5 0 (some 20)) := stb_putR t999_2 (os_27 hn1000) os_8
  have t1003_3 : stb (PWi (8)) (8) (8 + 3) (bm_putR B996 11 5 0 (some 20)) := stb_putR t999_3 (os_28 hn1000) os_13
  have t1003_4 : stb (PLe (11)) (11) (11 + 8) (bm_putR B996 11 5 0 (some 20)) := stb_putR t999_4 (os_29 hn1000) os_19
  have hn1004 : bm_n (bm_putR B996 11 5 0 (some 20)) = 21 := hn1000
  have sl1005 : bm_sl (bm_putR B996 11 5 0 (some 20)) = 0 + 34023 := sl1001
  refine g_ald (pc' := 71) cd_Ho_init rfl (Or.inr ⟨_, rfl, rfl, rfl⟩) l0 rfl rfl ?_
  refine g_k2 (v := 6) (pc' := 73) cd_Ho_init rfl (by decide) rfl ?_
  refine n_int 6 hn1004 cd_Ho_init rfl rfl (by decide) (by decide) (by decide) (fun B1006 h1006 => ?_)
  have hf1007 := fr0_f h1006.1
  have f1008_0 := fr_lt hf1007 f998_0
  have g1008_0 := (fr_K hf1007 f998_0).trans g998_0
  have f1008_1 := fr_lt hf1007 f998_1
  have g1008_1 := (fr_K hf1007 f998_1).trans g998_1
  have f1008_2 := fr_lt hf1007 f998_2
  have g1008_2 := (fr_K hf1007 f998_2).trans g998_2
  have f1008_3 := fr_lt hf1007 f998_3
  have g1008_3 := (fr_K hf1007 f998_3).trans g998_3
  have f1008_4 := fr_lt hf1007 f998_4
  have g1008_4 := (fr_K hf1007 f998_4).trans g998_4
  have f1008_5 := fr_lt hf1007 f998_5
  have g1008_5 := (fr_K hf1007 f998_5).trans g998_5
  have f1008_6 := fr_lt hf1007 h996.2.2.1.1
  have g1008_6 := (fr_K hf1007 h996.2.2.1.1).trans h996.2.2.1.2.1
  have r1008_0 : bm_FR B1006 11 0 0 = some 1 := (fr_FR hf1007 f998_0 (fun q => q) 11 0).trans r998_0
  have r1008_1 : bm_FR B1006 11 1 0 = some 5 := (fr_FR hf1007 f998_0 (fun q => q) 11 1).trans r998_1
  have r1008_2 : bm_FR B1006 11 2 0 = some 8 := (fr_FR hf1007 f998_0 (fun q => q) 11 2).trans r998_2
  have r1008_3 : bm_FR B1006 11 3 0 = some 11 := (fr_FR hf1007 f998_0 (fun q => q) 11 3).trans r998_3
  have r1008_4 : bm_FR B1006 11 4 0 = some 19 := (fr_FR hf1007 f998_0 (fun q => q) 11 4).trans r998_4
  have r1008_5 : bm_FR B1006 11 5 0 = some 20 := (fr_FR hf1007 f998_0 (fun q => q) 11 5).trans z1002
  have w1008_0 : bm_AL B1006 19 = 6 := (fr_AL hf1007 f998_5).trans w998_0
  have w1008_1 : bm_AL B1006 20 = 6 := (fr_AL hf1007 h996.2.2.1.1).trans h996.2.2.1.2.2
  have t1009_0 : ∀ c k, bm_FI B1006 c k 0 = 0 := fun c k => (fr_FI (fr0_f h1006.1) f998_0 (fun q => q) c k).trans (t1003_0 c k)
  have t1009_1 : stb (PTe (1)) (1) (1 + 4) B1006 := stb_fr0 t1003_1 h1006.1 (os_26 hn1004)
  have t1009_2 : stb (PKn (5)) (5) (5 + 3) B1006 := stb_fr0 t1003_2 h1006.1 (os_27 hn1004)
  have t1009_3 : stb (PWi (8)) (8) (8 + 3) B1006 := stb_fr0 t1003_3 h1006.1 (os_28 hn1004)
  have t1009_4 : stb (PLe (11)) (11) (11 + 8) B1006 := stb_fr0 t1003_4 h1006.1 (os_29 hn1004)
  have hn1010 : bm_n B1006 = 22 := (os_30 h1006.2.1.1)
  have sl1011 : bm_sl B1006 = 0 + 34029 := by rw [h1006.2.1.2, sl1005]
  refine g_putR (v := some 21) (c := 11) (k := 6) (pc' := 78) rfl cd_Ho_init rfl rfl rfl rfl (by simp [tm_okV, narrow, fits]) (Or.inr ⟨rfl, rfl, rfl, rfl⟩) rfl (by decide) f1008_0 g1008_0 ?_
  have z1012 : bm_FR (bm_putR B1006 11 6 0 (some 21)) 11 6 0 = some 21 := (by simp [bm_putR, bm_up3, bm_FR])
  have t1013_0 : ∀ c k, bm_FI (bm_putR B1006 11 6 0 (some 21)) c k 0 = 0 := t1009_0
  have t1013_1 : stb (PTe (1)) (1) (1 + 4) (bm_putR B1006 11 6 0 (some 21)) := stb_putR t1009_1 (os_31 hn1010) os_2
  have t1013_2 : stb (PKn (5)) (5) (5 + 3) (bm_putR B1006 11 6 0 (some 21)) := stb_putR t1009_2 (os_32 hn1010) os_8
  have t1013_3 : stb (PWi (8)) (8) (8 + 3) (bm_putR B1006 11 6 0 (some 21)) := stb_putR t1009_3 (os_33 hn1010) os_13
  have t1013_4 : stb (PLe (11)) (11) (11 + 8) (bm_putR B1006 11 6 0 (some 21)) := stb_putR t1009_4 (os_34 hn1010) os_19
  have hn1014 : bm_n (bm_putR B1006 11 6 0 (some 21)) = 22 := hn1010
  have sl1015 : bm_sl (bm_putR B1006 11 6 0 (some 21)) = 0 + 34029 := sl1011
  refine g_ald (pc' := 79) cd_Ho_init rfl (Or.inr ⟨_, rfl, rfl, rfl⟩) l0 rfl rfl ?_
  refine g_k2 (v := 30) (pc' := 81) cd_Ho_init rfl (by decide) rfl ?_
  refine n_int 30 hn1014 cd_Ho_init rfl rfl (by decide) (by decide) (by decide) (fun B1016 h1016 => ?_)
  have hf1017 := fr0_f h1016.1
  have f1018_0 := fr_lt hf1017 f1008_0
  have g1018_0 := (fr_K hf1017 f1008_0).trans g1008_0
  have f1018_1 := fr_lt hf1017 f1008_1
  have g1018_1 := (fr_K hf1017 f1008_1).trans g1008_1
  have f1018_2 := fr_lt hf1017 f1008_2
  have g1018_2 := (fr_K hf1017 f1008_2).trans g1008_2
  have f1018_3 := fr_lt hf1017 f1008_3
  have g1018_3 := (fr_K hf1017 f1008_3).trans g1008_3
  have f1018_4 := fr_lt hf1017 f1008_4
  have g1018_4 := (fr_K hf1017 f1008_4).trans g1008_4
  have f1018_5 := fr_lt hf1017 f1008_5
  have g1018_5 := (fr_K hf1017 f1008_5).trans g1008_5
  have f1018_6 := fr_lt hf1017 f1008_6
  have g1018_6 := (fr_K hf1017 f1008_6).trans g1008_6
  have f1018_7 := fr_lt hf1017 h1006.2.2.1.1
  have g1018_7 := (fr_K hf1017 h1006.2.2.1.1).trans h1006.2.2.1.2.1
  have r1018_0 : bm_FR B1016 11 0 0 = some 1 := (fr_FR hf1017 f1008_0 (fun q => q) 11 0).trans r1008_0
  have r1018_1 : bm_FR B1016 11 1 0 = some 5 := (fr_FR hf1017 f1008_0 (fun q => q) 11 1).trans r1008_1
  have r1018_2 : bm_FR B1016 11 2 0 = some 8 := (fr_FR hf1017 f1008_0 (fun q => q) 11 2).trans r1008_2
  have r1018_3 : bm_FR B1016 11 3 0 = some 11 := (fr_FR hf1017 f1008_0 (fun q => q) 11 3).trans r1008_3
  have r1018_4 : bm_FR B1016 11 4 0 = some 19 := (fr_FR hf1017 f1008_0 (fun q => q) 11 4).trans r1008_4
  have r1018_5 : bm_FR B1016 11 5 0 = some 20 := (fr_FR hf1017 f1008_0 (fun q => q) 11 5).trans r1008_5
  have r1018_6 : bm_FR B1016 11 6 0 = some 21 := (fr_FR hf1017 f1008_0 (fun q => q) 11 6).trans z1012
  have u1018_0 : bm_AI B1016 21 = (fun _ => 0) := (fr_AI hf1017 h1006.2.2.1.1 (fun q => q)).trans h1006.2.2.2.1
  have w1018_0 : bm_AL B1016 19 = 6 := (fr_AL hf1017 f1008_5).trans w1008_0
  have w1018_1 : bm_AL B1016 20 = 6 := (fr_AL hf1017 f1008_6).trans w1008_1
  have w1018_2 : bm_AL B1016 21 = 6 := (fr_AL hf1017 h1006.2.2.1.1).trans h1006.2.2.1.2.2
  have t1019_0 : ∀ c k, bm_FI B1016 c k 0 = 0 := fun c k => (fr_FI (fr0_f h1016.1) f1008_0 (fun q => q) c k).trans (t1013_0 c k)
  have t1019_1 : stb (PTe (1)) (1) (1 + 4) B1016 := stb_fr0 t1013_1 h1016.1 (os_31 hn1014)
  have t1019_2 : stb (PKn (5)) (5) (5 + 3) B1016 := stb_fr0 t1013_2 h1016.1 (os_32 hn1014)
  have t1019_3 : stb (PWi (8)) (8) (8 + 3) B1016 := stb_fr0 t1013_3 h1016.1 (os_33 hn1014)
  have t1019_4 : stb (PLe (11)) (11) (11 + 8) B1016 := stb_fr0 t1013_4 h1016.1 (os_34 hn1014)
  have hn1020 : bm_n B1016 = 23 := (os_35 h1016.2.1.1)
  have sl1021 : bm_sl B1016 = 0 + 34059 := by rw [h1016.2.1.2, sl1015]
  refine g_putR (v := some 22) (c := 11) (k := 7) (pc' := 86) rfl cd_Ho_init rfl rfl rfl rfl (by simp [tm_okV, narrow, fits]) (Or.inr ⟨rfl, rfl, rfl, rfl⟩) rfl (by decide) f1018_0 g1018_0 ?_
  have z1022 : bm_FR (bm_putR B1016 11 7 0 (some 22)) 11 7 0 = some 22 := (by simp [bm_putR, bm_up3, bm_FR])
  have t1023_0 : ∀ c k, bm_FI (bm_putR B1016 11 7 0 (some 22)) c k 0 = 0 := t1019_0
  have t1023_1 : stb (PTe (1)) (1) (1 + 4) (bm_putR B1016 11 7 0 (some 22)) := stb_putR t1019_1 (os_36 hn1020) os_2
  have t1023_2 : stb (PKn (5)) (5) (5 + 3) (bm_putR B1016 11 7 0 (some 22)) := stb_putR t1019_2 (os_37 hn1020) os_8
  have t1023_3 : stb (PWi (8)) (8) (8 + 3) (bm_putR B1016 11 7 0 (some 22)) := stb_putR t1019_3 (os_38 hn1020) os_13
  have t1023_4 : stb (PLe (11)) (11) (11 + 8) (bm_putR B1016 11 7 0 (some 22)) := stb_putR t1019_4 (os_39 hn1020) os_19
  have hn1024 : bm_n (bm_putR B1016 11 7 0 (some 22)) = 23 := hn1020
  have sl1025 : bm_sl (bm_putR B1016 11 7 0 (some 22)) = 0 + 34059 := sl1021
  refine g_ald (pc' := 87) cd_Ho_init rfl (Or.inr ⟨_, rfl, rfl, rfl⟩) l0 rfl rfl ?_
  refine g_k2 (v := 32) (pc' := 89) cd_Ho_init rfl (by decide) rfl ?_
  refine n_int 32 hn1024 cd_Ho_init rfl rfl (by decide) (by decide) (by decide) (fun B1026 h1026 => ?_)
  have hf1027 := fr0_f h1026.1
  have f1028_0 := fr_lt hf1027 f1018_0
  have g1028_0 := (fr_K hf1027 f1018_0).trans g1018_0
  have f1028_1 := fr_lt hf1027 f1018_1
  have g1028_1 := (fr_K hf1027 f1018_1).trans g1018_1
  have f1028_2 := fr_lt hf1027 f1018_2
  have g1028_2 := (fr_K hf1027 f1018_2).trans g1018_2
  have f1028_3 := fr_lt hf1027 f1018_3
  have g1028_3 := (fr_K hf1027 f1018_3).trans g1018_3
  have f1028_4 := fr_lt hf1027 f1018_4
  have g1028_4 := (fr_K hf1027 f1018_4).trans g1018_4
  have f1028_5 := fr_lt hf1027 f1018_5
  have g1028_5 := (fr_K hf1027 f1018_5).trans g1018_5
  have f1028_6 := fr_lt hf1027 f1018_6
  have g1028_6 := (fr_K hf1027 f1018_6).trans g1018_6
  have f1028_7 := fr_lt hf1027 f1018_7
  have g1028_7 := (fr_K hf1027 f1018_7).trans g1018_7
  have f1028_8 := fr_lt hf1027 h1016.2.2.1.1
  have g1028_8 := (fr_K hf1027 h1016.2.2.1.1).trans h1016.2.2.1.2.1
  have r1028_0 : bm_FR B1026 11 0 0 = some 1 := (fr_FR hf1027 f1018_0 (fun q => q) 11 0).trans r1018_0
  have r1028_1 : bm_FR B1026 11 1 0 = some 5 := (fr_FR hf1027 f1018_0 (fun q => q) 11 1).trans r1018_1
  have r1028_2 : bm_FR B1026 11 2 0 = some 8 := (fr_FR hf1027 f1018_0 (fun q => q) 11 2).trans r1018_2
  have r1028_3 : bm_FR B1026 11 3 0 = some 11 := (fr_FR hf1027 f1018_0 (fun q => q) 11 3).trans r1018_3
  have r1028_4 : bm_FR B1026 11 4 0 = some 19 := (fr_FR hf1027 f1018_0 (fun q => q) 11 4).trans r1018_4
  have r1028_5 : bm_FR B1026 11 5 0 = some 20 := (fr_FR hf1027 f1018_0 (fun q => q) 11 5).trans r1018_5
  have r1028_6 : bm_FR B1026 11 6 0 = some 21 := (fr_FR hf1027 f1018_0 (fun q => q) 11 6).trans r1018_6
  have r1028_7 : bm_FR B1026 11 7 0 = some 22 := (fr_FR hf1027 f1018_0 (fun q => q) 11 7).trans z1022
  have u1028_0 : bm_AI B1026 21 = (fun _ => 0) := (fr_AI hf1027 f1018_7 (fun q => q)).trans u1018_0
  have u1028_1 : bm_AI B1026 22 = (fun _ => 0) := (fr_AI hf1027 h1016.2.2.1.1 (fun q => q)).trans h1016.2.2.2.1
  have w1028_0 : bm_AL B1026 19 = 6 := (fr_AL hf1027 f1018_5).trans w1018_0
  have w1028_1 : bm_AL B1026 20 = 6 := (fr_AL hf1027 f1018_6).trans w1018_1
  have w1028_2 : bm_AL B1026 21 = 6 := (fr_AL hf1027 f1018_7).trans w1018_2
  have w1028_3 : bm_AL B1026 22 = 30 := (fr_AL hf1027 h1016.2.2.1.1).trans h1016.2.2.1.2.2
  have t1029_0 : ∀ c k, bm_FI B1026 c k 0 = 0 := fun c k => (fr_FI (fr0_f h1026.1) f1018_0 (fun q => q) c k).trans (t1023_0 c k)
  have t1029_1 : stb (PTe (1)) (1) (1 + 4) B1026 := stb_fr0 t1023_1 h1026.1 (os_36 hn1024)
  have t1029_2 : stb (PKn (5)) (5) (5 + 3) B1026 := stb_fr0 t1023_2 h1026.1 (os_37 hn1024)
  have t1029_3 : stb (PWi (8)) (8) (8 + 3) B1026 := stb_fr0 t1023_3 h1026.1 (os_38 hn1024)
  have t1029_4 : stb (PLe (11)) (11) (11 + 8) B1026 := stb_fr0 t1023_4 h1026.1 (os_39 hn1024)
  have hn1030 : bm_n B1026 = 24 := (os_40 h1026.2.1.1)
  have sl1031 : bm_sl B1026 = 0 + 34091 := by rw [h1026.2.1.2, sl1025]
  refine g_putR (v := some 23) (c := 11) (k := 8) (pc' := 94) rfl cd_Ho_init rfl rfl rfl rfl (by simp [tm_okV, narrow, fits]) (Or.inr ⟨rfl, rfl, rfl, rfl⟩) rfl (by decide) f1028_0 g1028_0 ?_
  have z1032 : bm_FR (bm_putR B1026 11 8 0 (some 23)) 11 8 0 = some 23 := (by simp [bm_putR, bm_up3, bm_FR])
  have t1033_0 : ∀ c k, bm_FI (bm_putR B1026 11 8 0 (some 23)) c k 0 = 0 := t1029_0
  have t1033_1 : stb (PTe (1)) (1) (1 + 4) (bm_putR B1026 11 8 0 (some 23)) := stb_putR t1029_1 (os_41 hn1030) os_2
  have t1033_2 : stb (PKn (5)) (5) (5 + 3) (bm_putR B1026 11 8 0 (some 23)) := stb_putR t1029_2 (os_42 hn1030) os_8
  have t1033_3 : stb (PWi (8)) (8) (8 + 3) (bm_putR B1026 11 8 0 (some 23)) := stb_putR t1029_3 (os_43 hn1030) os_13
  have t1033_4 : stb (PLe (11)) (11) (11 + 8) (bm_putR B1026 11 8 0 (some 23)) := stb_putR t1029_4 (os_44 hn1030) os_19
  have hn1034 : bm_n (bm_putR B1026 11 8 0 (some 23)) = 24 := hn1030
  have sl1035 : bm_sl (bm_putR B1026 11 8 0 (some 23)) = 0 + 34091 := sl1031
  refine g_ald (pc' := 95) cd_Ho_init rfl (Or.inr ⟨_, rfl, rfl, rfl⟩) l0 rfl rfl ?_
  refine g_k3 (v := 2144) (pc' := 98) cd_Ho_init rfl (by decide) rfl ?_
  refine n_int 2144 hn1034 cd_Ho_init rfl rfl (by decide) (by decide) (by decide) (fun B1036 h1036 => ?_)
  have hf1037 := fr0_f h1036.1
  have f1038_0 := fr_lt hf1037 f1028_0
  have g1038_0 := (fr_K hf1037 f1028_0).trans g1028_0
  have f1038_1 := fr_lt hf1037 f1028_1
  have g1038_1 := (fr_K hf1037 f1028_1).trans g1028_1
  have f1038_2 := fr_lt hf1037 f1028_2
  have g1038_2 := (fr_K hf1037 f1028_2).trans g1028_2
  have f1038_3 := fr_lt hf1037 f1028_3
  have g1038_3 := (fr_K hf1037 f1028_3).trans g1028_3
  have f1038_4 := fr_lt hf1037 f1028_4
  have g1038_4 := (fr_K hf1037 f1028_4).trans g1028_4
  have f1038_5 := fr_lt hf1037 f1028_5
  have g1038_5 := (fr_K hf1037 f1028_5).trans g1028_5
  have f1038_6 := fr_lt hf1037 f1028_6
  have g1038_6 := (fr_K hf1037 f1028_6).trans g1028_6
  have f1038_7 := fr_lt hf1037 f1028_7
  have g1038_7 := (fr_K hf1037 f1028_7).trans g1028_7
  have f1038_8 := fr_lt hf1037 f1028_8
  have g1038_8 := (fr_K hf1037 f1028_8).trans g1028_8
  have f1038_9 := fr_lt hf1037 h1026.2.2.1.1
  have g1038_9 := (fr_K hf1037 h1026.2.2.1.1).trans h1026.2.2.1.2.1
  have r1038_0 : bm_FR B1036 11 0 0 = some 1 := (fr_FR hf1037 f1028_0 (fun q => q) 11 0).trans r1028_0
  have r1038_1 : bm_FR B1036 11 1 0 = some 5 := (fr_FR hf1037 f1028_0 (fun q => q) 11 1).trans r1028_1
  have r1038_2 : bm_FR B1036 11 2 0 = some 8 := (fr_FR hf1037 f1028_0 (fun q => q) 11 2).trans r1028_2
  have r1038_3 : bm_FR B1036 11 3 0 = some 11 := (fr_FR hf1037 f1028_0 (fun q => q) 11 3).trans r1028_3
  have r1038_4 : bm_FR B1036 11 4 0 = some 19 := (fr_FR hf1037 f1028_0 (fun q => q) 11 4).trans r1028_4
  have r1038_5 : bm_FR B1036 11 5 0 = some 20 := (fr_FR hf1037 f1028_0 (fun q => q) 11 5).trans r1028_5
  have r1038_6 : bm_FR B1036 11 6 0 = some 21 := (fr_FR hf1037 f1028_0 (fun q => q) 11 6).trans r1028_6
  have r1038_7 : bm_FR B1036 11 7 0 = some 22 := (fr_FR hf1037 f1028_0 (fun q => q) 11 7).trans r1028_7
  have r1038_8 : bm_FR B1036 11 8 0 = some 23 := (fr_FR hf1037 f1028_0 (fun q => q) 11 8).trans z1032
  have u1038_0 : bm_AI B1036 21 = (fun _ => 0) := (fr_AI hf1037 f1028_7 (fun q => q)).trans u1028_0
  have u1038_1 : bm_AI B1036 22 = (fun _ => 0) := (fr_AI hf1037 f1028_8 (fun q => q)).trans u1028_1
  have u1038_2 : bm_AI B1036 23 = (fun _ => 0) := (fr_AI hf1037 h1026.2.2.1.1 (fun q => q)).trans h1026.2.2.2.1
  have w1038_0 : bm_AL B1036 19 = 6 := (fr_AL hf1037 f1028_5).trans w1028_0
  have w1038_1 : bm_AL B1036 20 = 6 := (fr_AL hf1037 f1028_6).trans w1028_1
  have w1038_2 : bm_AL B1036 21 = 6 := (fr_AL hf1037 f1028_7).trans w1028_2
  have w1038_3 : bm_AL B1036 22 = 30 := (fr_AL hf1037 f1028_8).trans w1028_3
  have w1038_4 : bm_AL B1036 23 = 32 := (fr_AL hf1037 h1026.2.2.1.1).trans h1026.2.2.1.2.2
  have t1039_0 : ∀ c k, bm_FI B1036 c k 0 = 0 := fun c k => (fr_FI (fr0_f h1036.1) f1028_0 (fun q => q) c k).trans (t1033_0 c k)
  have t1039_1 : stb (PTe (1)) (1) (1 + 4) B1036 := stb_fr0 t1033_1 h1036.1 (os_41 hn1034)
  have t1039_2 : stb (PKn (5)) (5) (5 + 3) B1036 := stb_fr0 t1033_2 h1036.1 (os_42 hn1034)
  have t1039_3 : stb (PWi (8)) (8) (8 + 3) B1036 := stb_fr0 t1033_3 h1036.1 (os_43 hn1034)
  have t1039_4 : stb (PLe (11)) (11) (11 + 8) B1036 := stb_fr0 t1033_4 h1036.1 (os_44 hn1034)
  have hn1040 : bm_n B1036 = 25 := (os_45 h1036.2.1.1)
  have sl1041 : bm_sl B1036 = 0 + 36235 := by rw [h1036.2.1.2, sl1035]
  refine g_putR (v := some 24) (c := 11) (k := 9) (pc' := 103) rfl cd_Ho_init rfl rfl rfl rfl (by simp [tm_okV, narrow, fits]) (Or.inr ⟨rfl, rfl, rfl, rfl⟩) rfl (by decide) f1038_0 g1038_0 ?_
  have z1042 : bm_FR (bm_putR B1036 11 9 0 (some 24)) 11 9 0 = some 24 := (by simp [bm_putR, bm_up3, bm_FR])
  have t1043_0 : ∀ c k, bm_FI (bm_putR B1036 11 9 0 (some 24)) c k 0 = 0 := t1039_0
  have t1043_1 : stb (PTe (1)) (1) (1 + 4) (bm_putR B1036 11 9 0 (some 24)) := stb_putR t1039_1 (os_46 hn1040) os_2
  have t1043_2 : stb (PKn (5)) (5) (5 + 3) (bm_putR B1036 11 9 0 (some 24)) := stb_putR t1039_2 (os_47 hn1040) os_8
  have t1043_3 : stb (PWi (8)) (8) (8 + 3) (bm_putR B1036 11 9 0 (some 24)) := stb_putR t1039_3 (os_48 hn1040) os_13
  have t1043_4 : stb (PLe (11)) (11) (11 + 8) (bm_putR B1036 11 9 0 (some 24)) := stb_putR t1039_4 (os_49 hn1040) os_19
  have hn1044 : bm_n (bm_putR B1036 11 9 0 (some 24)) = 25 := hn1040
  have sl1045 : bm_sl (bm_putR B1036 11 9 0 (some 24)) = 0 + 36235 := sl1041
  refine g_ald (pc' := 104) cd_Ho_init rfl (Or.inr ⟨_, rfl, rfl, rfl⟩) l0 rfl rfl ?_
  refine n_obj 9 hn1044 cd_Ho_init rfl rfl rfl rfl (by decide) rfl (fun B1046 h1046 => ?_)
  have hf1047 := fr0_f h1046.1
  have f1048_0 := fr_lt hf1047 f1038_0
  have g1048_0 := (fr_K hf1047 f1038_0).trans g1038_0
  have f1048_1 := fr_lt hf1047 f1038_1
  have g1048_1 := (fr_K hf1047 f1038_1).trans g1038_1
  have f1048_2 := fr_lt hf1047 f1038_2
  have g1048_2 := (fr_K hf1047 f1038_2).trans g1038_2
  have f1048_3 := fr_lt hf1047 f1038_3
  have g1048_3 := (fr_K hf1047 f1038_3).trans g1038_3
  have f1048_4 := fr_lt hf1047 f1038_4
  have g1048_4 := (fr_K hf1047 f1038_4).trans g1038_4
  have f1048_5 := fr_lt hf1047 f1038_5
  have g1048_5 := (fr_K hf1047 f1038_5).trans g1038_5
  have f1048_6 := fr_lt hf1047 f1038_6
  have g1048_6 := (fr_K hf1047 f1038_6).trans g1038_6
  have f1048_7 := fr_lt hf1047 f1038_7
  have g1048_7 := (fr_K hf1047 f1038_7).trans g1038_7
  have f1048_8 := fr_lt hf1047 f1038_8
  have g1048_8 := (fr_K hf1047 f1038_8).trans g1038_8
  have f1048_9 := fr_lt hf1047 f1038_9
  have g1048_9 := (fr_K hf1047 f1038_9).trans g1038_9
  have f1048_10 := fr_lt hf1047 h1036.2.2.1.1
  have g1048_10 := (fr_K hf1047 h1036.2.2.1.1).trans h1036.2.2.1.2.1
  have r1048_0 : bm_FR B1046 11 0 0 = some 1 := (fr_FR hf1047 f1038_0 (fun q => q) 11 0).trans r1038_0
  have r1048_1 : bm_FR B1046 11 1 0 = some 5 := (fr_FR hf1047 f1038_0 (fun q => q) 11 1).trans r1038_1
  have r1048_2 : bm_FR B1046 11 2 0 = some 8 := (fr_FR hf1047 f1038_0 (fun q => q) 11 2).trans r1038_2
  have r1048_3 : bm_FR B1046 11 3 0 = some 11 := (fr_FR hf1047 f1038_0 (fun q => q) 11 3).trans r1038_3
  have r1048_4 : bm_FR B1046 11 4 0 = some 19 := (fr_FR hf1047 f1038_0 (fun q => q) 11 4).trans r1038_4
  have r1048_5 : bm_FR B1046 11 5 0 = some 20 := (fr_FR hf1047 f1038_0 (fun q => q) 11 5).trans r1038_5
  have r1048_6 : bm_FR B1046 11 6 0 = some 21 := (fr_FR hf1047 f1038_0 (fun q => q) 11 6).trans r1038_6
  have r1048_7 : bm_FR B1046 11 7 0 = some 22 := (fr_FR hf1047 f1038_0 (fun q => q) 11 7).trans r1038_7
  have r1048_8 : bm_FR B1046 11 8 0 = some 23 := (fr_FR hf1047 f1038_0 (fun q => q) 11 8).trans r1038_8
  have r1048_9 : bm_FR B1046 11 9 0 = some 24 := (fr_FR hf1047 f1038_0 (fun q => q) 11 9).trans z1042
  have u1048_0 : bm_AI B1046 21 = (fun _ => 0) := (fr_AI hf1047 f1038_7 (fun q => q)).trans u1038_0
  have u1048_1 : bm_AI B1046 22 = (fun _ => 0) := (fr_AI hf1047 f1038_8 (fun q => q)).trans u1038_1
  have u1048_2 : bm_AI B1046 23 = (fun _ => 0) := (fr_AI hf1047 f1038_9 (fun q => q)).trans u1038_2
  have u1048_3 : bm_AI B1046 24 = (fun _ => 0) := (fr_AI hf1047 h1036.2.2.1.1 (fun q => q)).trans h1036.2.2.2.1
  have w1048_0 : bm_AL B1046 19 = 6 := (fr_AL hf1047 f1038_5).trans w1038_0
  have w1048_1 : bm_AL B1046 20 = 6 := (fr_AL hf1047 f1038_6).trans w1038_1
  have w1048_2 : bm_AL B1046 21 = 6 := (fr_AL hf1047 f1038_7).trans w1038_2
  have w1048_3 : bm_AL B1046 22 = 30 := (fr_AL hf1047 f1038_8).trans w1038_3
  have w1048_4 : bm_AL B1046 23 = 32 := (fr_AL hf1047 f1038_9).trans w1038_4
  have w1048_5 : bm_AL B1046 24 = 2144 := (fr_AL hf1047 h1036.2.2.1.1).trans h1036.2.2.1.2.2
  have t1049_0 : ∀ c k, bm_FI B1046 c k 0 = 0 := fun c k => (fr_FI (fr0_f h1046.1) f1038_0 (fun q => q) c k).trans (t1043_0 c k)
  have t1049_1 : stb (PTe (1)) (1) (1 + 4) B1046 := stb_fr0 t1043_1 h1046.1 (os_46 hn1044)
  have t1049_2 : stb (PKn (5)) (5) (5 + 3) B1046 := stb_fr0 t1043_2 h1046.1 (os_47 hn1044)
  have t1049_3 : stb (PWi (8)) (8) (8 + 3) B1046 := stb_fr0 t1043_3 h1046.1 (os_48 hn1044)
  have t1049_4 : stb (PLe (11)) (11) (11 + 8) B1046 := stb_fr0 t1043_4 h1046.1 (os_49 hn1044)
  refine g_pure (pc' := 108) (st' := [.ref 25, .ref 25, .ref 0]) cd_Ho_init rfl rfl (fun _ _ => rfl) ?_
  refine g_callv (pc' := 111) cd_Ho_init rfl rfl rfl rfl rfl (tm_invI rfl rfl cd_De_init rfl (Nat.le_of_ble_eq_true rfl)) (i_De hn1044 h1046 (fun B1050 h1050 => ?_))
  have hf1051 := fr0_f h1050.1
  have f1052_0 := fr_lt hf1051 f1038_0
  have g1052_0 := (fr_K hf1051 f1038_0).trans g1038_0
  have f1052_1 := fr_lt hf1051 f1038_1
  have g1052_1 := (fr_K hf1051 f1038_1).trans g1038_1
  have f1052_2 := fr_lt hf1051 f1038_2
  have g1052_2 := (fr_K hf1051 f1038_2).trans g1038_2
  have f1052_3 := fr_lt hf1051 f1038_3
  have g1052_3 := (fr_K hf1051 f1038_3).trans g1038_3
  have f1052_4 := fr_lt hf1051 f1038_4
  have g1052_4 := (fr_K hf1051 f1038_4).trans g1038_4
  have f1052_5 := fr_lt hf1051 f1038_5
  have g1052_5 := (fr_K hf1051 f1038_5).trans g1038_5
  have f1052_6 := fr_lt hf1051 f1038_6
  have g1052_6 := (fr_K hf1051 f1038_6).trans g1038_6
  have f1052_7 := fr_lt hf1051 f1038_7
  have g1052_7 := (fr_K hf1051 f1038_7).trans g1038_7
  have f1052_8 := fr_lt hf1051 f1038_8
  have g1052_8 := (fr_K hf1051 f1038_8).trans g1038_8
  have f1052_9 := fr_lt hf1051 f1038_9
  have g1052_9 := (fr_K hf1051 f1038_9).trans g1038_9
  have f1052_10 := fr_lt hf1051 h1036.2.2.1.1
  have g1052_10 := (fr_K hf1051 h1036.2.2.1.1).trans h1036.2.2.1.2.1
  have r1052_0 : bm_FR B1050 11 0 0 = some 1 := (fr_FR hf1051 f1038_0 (fun q => q) 11 0).trans r1038_0
  have r1052_1 : bm_FR B1050 11 1 0 = some 5 := (fr_FR hf1051 f1038_0 (fun q => q) 11 1).trans r1038_1
  have r1052_2 : bm_FR B1050 11 2 0 = some 8 := (fr_FR hf1051 f1038_0 (fun q => q) 11 2).trans r1038_2
  have r1052_3 : bm_FR B1050 11 3 0 = some 11 := (fr_FR hf1051 f1038_0 (fun q => q) 11 3).trans r1038_3
  have r1052_4 : bm_FR B1050 11 4 0 = some 19 := (fr_FR hf1051 f1038_0 (fun q => q) 11 4).trans r1038_4
  have r1052_5 : bm_FR B1050 11 5 0 = some 20 := (fr_FR hf1051 f1038_0 (fun q => q) 11 5).trans r1038_5
  have r1052_6 : bm_FR B1050 11 6 0 = some 21 := (fr_FR hf1051 f1038_0 (fun q => q) 11 6).trans r1038_6
  have r1052_7 : bm_FR B1050 11 7 0 = some 22 := (fr_FR hf1051 f1038_0 (fun q => q) 11 7).trans r1038_7
  have r1052_8 : bm_FR B1050 11 8 0 = some 23 := (fr_FR hf1051 f1038_0 (fun q => q) 11 8).trans r1038_8
  have r1052_9 : bm_FR B1050 11 9 0 = some 24 := (fr_FR hf1051 f1038_0 (fun q => q) 11 9).trans z1042
  have u1052_0 : bm_AI B1050 21 = (fun _ => 0) := (fr_AI hf1051 f1038_7 (fun q => q)).trans u1038_0
  have u1052_1 : bm_AI B1050 22 = (fun _ => 0) := (fr_AI hf1051 f1038_8 (fun q => q)).trans u1038_1
  have u1052_2 : bm_AI B1050 23 = (fun _ => 0) := (fr_AI hf1051 f1038_9 (fun q => q)).trans u1038_2
  have u1052_3 : bm_AI B1050 24 = (fun _ => 0) := (fr_AI hf1051 h1036.2.2.1.1 (fun q => q)).trans h1036.2.2.2.1
  have w1052_0 : bm_AL B1050 19 = 6 := (fr_AL hf1051 f1038_5).trans w1038_0
  have w1052_1 : bm_AL B1050 20 = 6 := (fr_AL hf1051 f1038_6).trans w1038_1
  have w1052_2 : bm_AL B1050 21 = 6 := (fr_AL hf1051 f1038_7).trans w1038_2
  have w1052_3 : bm_AL B1050 22 = 30 := (fr_AL hf1051 f1038_8).trans w1038_3
  have w1052_4 : bm_AL B1050 23 = 32 := (fr_AL hf1051 f1038_9).trans w1038_4
  have w1052_5 : bm_AL B1050 24 = 2144 := (fr_AL hf1051 h1036.2.2.1.1).trans h1036.2.2.1.2.2
  have t1053_0 : ∀ c k, bm_FI B1050 c k 0 = 0 := fun c k => (fr_FI (fr0_f h1050.1) f1038_0 (fun q => q) c k).trans (t1043_0 c k)
  have t1053_1 : stb (PTe (1)) (1) (1 + 4) B1050 := stb_fr0 t1043_1 h1050.1 (os_46 hn1044)
  have t1053_2 : stb (PKn (5)) (5) (5 + 3) B1050 := stb_fr0 t1043_2 h1050.1 (os_47 hn1044)
  have t1053_3 : stb (PWi (8)) (8) (8 + 3) B1050 := stb_fr0 t1043_3 h1050.1 (os_48 hn1044)
  have t1053_4 : stb (PLe (11)) (11) (11 + 8) B1050 := stb_fr0 t1043_4 h1050.1 (os_49 hn1044)
  have hn1054 : bm_n B1050 = 228 := (os_50 h1050.2.1.1)
  have sl1055 : bm_sl B1050 = 0 + 38424 := by rw [h1050.2.1.2, sl1045]
  show bm_G _ _ _ 111 _ [.ref 25, .ref 0] B1050 _
  refine g_putR (v := some 25) (c := 11) (k := 11) (pc' := 114) rfl cd_Ho_init rfl rfl rfl rfl (by simp [tm_okV, narrow, fits]) (Or.inl rfl) rfl (by decide) f1052_0 g1052_0 ?_
  have z1056 : bm_FR (bm_putR B1050 11 11 0 (some 25)) 11 11 0 = some 25 := (by simp [bm_putR, bm_up3, bm_FR])
  have t1057_0 : ∀ c k, bm_FI (bm_putR B1050 11 11 0 (some 25)) c k 0 = 0 := t1053_0
  have t1057_1 : stb (PTe (1)) (1) (1 + 4) (bm_putR B1050 11 11 0 (some 25)) := stb_putR t1053_1 (os_51 hn1054) os_2
  have t1057_2 : stb (PKn (5)) (5) (5 + 3) (bm_putR B1050 11 11 0 (some 25)) := stb_putR t1053_2 (os_52 hn1054) os_8
  have t1057_3 : stb (PWi (8)) (8) (8 + 3) (bm_putR B1050 11 11 0 (some 25)) := stb_putR t1053_3 (os_53 hn1054) os_13
  have t1057_4 : stb (PLe (11)) (11) (11 + 8) (bm_putR B1050 11 11 0 (some 25)) := stb_putR t1053_4 (os_54 hn1054) os_19
  have t1057_5 : stb (PDe (25)) (25) (25 + 203) (bm_putR B1050 11 11 0 (some 25)) := stb_putR h1050.2.2.1 (os_55 hn1054) os_56
  have hn1058 : bm_n (bm_putR B1050 11 11 0 (some 25)) = 228 := hn1054
  have sl1059 : bm_sl (bm_putR B1050 11 11 0 (some 25)) = 0 + 38424 := sl1055
  refine g_k1 (v := 0) (pc' := 115) cd_Ho_init rfl (by decide) rfl ?_
  refine g_ist (pc' := 116) cd_Ho_init rfl (Or.inr ⟨_, rfl, rfl, rfl⟩) (by decide) rfl (fun lv el => ?_)
  have l0 := tm_lk el l0 rfl (by decide)
  have l1 : lv.lookup 1 = some (.int 0) := tm_lks el
  clear el
  have hT : TI (bm_putR B1050 11 11 0 (some 25)) 1 2 3 4 1024 0 [tz] := (stb_on t1057_1 (os_51 hn1058)) rfl
  have hz : tv [tz] 0 tz := TI_z hT
  have hS : HoS (bm_putR B1050 11 11 0 (some 25)) := ⟨⟨f1052_0, g1052_0⟩, ⟨r1052_0, r1052_1, r1052_2, r1052_3, r1052_4, r1052_5, r1052_6, r1052_7, r1052_8, r1052_9⟩, ⟨f1052_5, g1052_5, w1052_0⟩, ⟨f1052_6, g1052_6, w1052_1⟩, ⟨f1052_7, g1052_7, w1052_2⟩, ⟨f1052_8, g1052_8, w1052_3⟩, ⟨f1052_9, g1052_9, w1052_4⟩, ⟨f1052_10, g1052_10, w1052_5⟩⟩
  have hI : HI 0 (bm_putR B1050 11 11 0 (some 25)) := by
    refine ⟨⟨hS, (stb_on t1057_3 (os_53 hn1058)) _ hz, (stb_on t1057_4 (os_54 hn1058)) rfl _ hz, ⟨fun i _ => ?_, fun i _ => ?_, ⟨⟨t1057_0 11 10, Nat.zero_le _⟩, fun j A q => by simp at q⟩⟩, ⟨z1056, (stb_on t1057_5 (os_55 hn1058)) _ hz⟩, al_nil, al_nil⟩, ⟨al_nil, al_nil⟩, fun i _ => ?_, hT, ?_, hn1058, ?_⟩
    · exact tvq (congrFun u1052_1 i) hz
    · exact tvq (congrFun u1052_2 i) hz
    · exact tvq (congrFun u1052_0 i) hz
    · rw [eG_0]; exact (stb_on t1057_2 (os_52 hn1058)) rfl
    · have := sl1059; omega
  exact l_Ho2 kk 6 0 _ lv rfl hI l0 l1
