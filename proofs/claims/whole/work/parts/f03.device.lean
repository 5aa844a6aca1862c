/-! A device is made. -/
set_option maxRecDepth 100000 in
theorem i_De {sc : tm_X} {d m : Nat} {B0 B1 : bm_H} {Q : bm_H → Prop} (hm : bm_n B0 = m) (h : NwO B0 B1 m 0 9) (kk : ∀ B, Mk (PDe m) 203 2189 0 B0 B m → Q B) : bm_Gv sc (d + 4) 7 [.ref m] B1 Q := by
  have h1 := h.2.1.1
  show bm_G _ _ _ 0 [(0, .ref m)] [] B1 _
  generalize elv : ([(0, .ref m)] : tm_L) = lv
  have l0 : lv.lookup 0 = some (.ref m) := by rw [← elv]; rfl
  clear elv
  refine g_ald (pc' := 1) cd_De_init rfl (Or.inr ⟨_, rfl, rfl, rfl⟩) l0 rfl rfl ?_
  refine n_super (pc' := 4) cd_De_init rfl rfl rfl rfl ?_
  refine g_ald (pc' := 5) cd_De_init rfl (Or.inr ⟨_, rfl, rfl, rfl⟩) l0 rfl rfl ?_
  refine g_k1 (v := 2) (pc' := 6) cd_De_init rfl (by decide) rfl ?_
  refine n_ref 2 h1 cd_De_init rfl rfl rfl rfl (by decide) rfl (by decide) (by decide) (by decide) (fun B280 h280 => ?_)
  have hf281 := fr0_f h280.1
  have f282_0 := fr_lt hf281 h.2.2.1.1
  have g282_0 := (fr_K hf281 h.2.2.1.1).trans h.2.2.1.2
  have t283_0 : ∀ c k, bm_FI B280 c k m = 0 := fun c k => (fr_FI (fr0_f h280.1) h.2.2.1.1 (fun q => q) c k).trans (h.2.2.2.1 c k)
  have hn284 : bm_n B280 = (m + 2 + 2 * 0) := (oq_65 h280.2.1.1)
  have sl285 : bm_sl B280 = bm_sl B0 + 11 := by rw [h280.2.1.2, h.2.1.2]
  have f0286 : fr0 B0 B280 := fr0_trans h.1 h280.1
  have F287 : ∀ i, i < 0 → stb (PPk (m + 2 + 2 * i)) (m + 2 + 2 * i) (m + 2 + 2 * i + 2) B280 := al_nil
  have R287 : ∀ i, i < 0 → bm_AR B280 ((m + 1)) i = some (m + 2 + 2 * i) := al_nil
  refine g_pure (pc' := 10) (st' := [.ref ((m + 1)), .ref ((m + 1)), .ref m]) cd_De_init rfl rfl (fun _ _ => rfl) ?_
  refine g_k1 (v := 0) (pc' := 11) cd_De_init rfl (by decide) rfl ?_
  refine n_obj 4 hn284 cd_De_init rfl rfl rfl rfl (by decide) rfl (fun B288 h288 => ?_)
  have hf289 := fr0_f h288.1
  have f290_0 := fr_lt hf289 f282_0
  have g290_0 := (fr_K hf289 f282_0).trans g282_0
  have f290_1 := fr_lt hf289 h280.2.2.1.1
  have g290_1 := (fr_K hf289 h280.2.2.1.1).trans h280.2.2.1.2.1
  have w290_0 : bm_AL B288 (m + 1) = 2 := (fr_AL hf289 h280.2.2.1.1).trans h280.2.2.1.2.2
  have t291_0 : ∀ c k, bm_FI B288 c k m = 0 := fun c k => (fr_FI (fr0_f h288.1) f282_0 (fun q => q) c k).trans (t283_0 c k)
  have t291_1 : ∀ i, i < 0 → stb (PPk (m + 2 + 2 * i)) (m + 2 + 2 * i) (m + 2 + 2 * i + 2) B288 := fun i hi => stb_fr0 (F287 i hi) h288.1 (oq_66 hn284 hi)
  have t291_2 : ∀ i, i < 0 → bm_AR B288 ((m + 1)) i = some (m + 2 + 2 * i) := fun i hi => (congrFun (fr_AR (fr0_f h288.1) h280.2.2.1.1 (fun q => q)) i).trans (R287 i hi)
  refine g_pure (pc' := 15) (st' := [.ref ((m + 2 + 2 * 0)), .ref ((m + 2 + 2 * 0)), .int 0, .ref ((m + 1)), .ref ((m + 1)), .ref m]) cd_De_init rfl rfl (fun _ _ => rfl) ?_
  refine g_callv (pc' := 18) cd_De_init rfl rfl rfl rfl rfl (tm_invI rfl rfl cd_Pk_init rfl (Nat.le_of_ble_eq_true rfl)) (i_Pk hn284 h288 (fun B292 h292 => ?_))
  have hf293 := fr0_f h292.1
  have f294_0 := fr_lt hf293 f282_0
  have g294_0 := (fr_K hf293 f282_0).trans g282_0
  have f294_1 := fr_lt hf293 h280.2.2.1.1
  have g294_1 := (fr_K hf293 h280.2.2.1.1).trans h280.2.2.1.2.1
  have w294_0 : bm_AL B292 (m + 1) = 2 := (fr_AL hf293 h280.2.2.1.1).trans h280.2.2.1.2.2
  have t295_0 : ∀ c k, bm_FI B292 c k m = 0 := fun c k => (fr_FI (fr0_f h292.1) f282_0 (fun q => q) c k).trans (t283_0 c k)
  have t295_1 : ∀ i, i < 0 → stb (PPk (m + 2 + 2 * i)) (m + 2 + 2 * i) (m + 2 + 2 * i + 2) B292 := fun i hi => stb_fr0 (F287 i hi) h292.1 (oq_66 hn284 hi)
  have t295_2 : ∀ i, i < 0 → bm_AR B292 ((m + 1)) i = some (m + 2 + 2 * i) := fun i hi => (congrFun (fr_AR (fr0_f h292.1) h280.2.2.1.1 (fun q => q)) i).trans (R287 i hi)
  have hn296 : bm_n B292 = (m + 2 + 2 * 1) := (oq_67 h292.2.1.1)
  have sl297 : bm_sl B292 = bm_sl B0 + 19 := by rw [h292.2.1.2, sl285]
  have f0298 : fr0 B0 B292 := fr0_trans f0286 h292.1
  have F299 : ∀ i, i < 1 → stb (PPk (m + 2 + 2 * i)) (m + 2 + 2 * i) (m + 2 + 2 * i + 2) B292 := al_step (P := fun i => stb (PPk (m + 2 + 2 * i)) (m + 2 + 2 * i) (m + 2 + 2 * i + 2) B292) t295_1 h292.2.2.1
  show bm_G _ _ _ 18 _ [.ref ((m + 2 + 2 * 0)), .int 0, .ref ((m + 1)), .ref ((m + 1)), .ref m] B292 _
  refine g_aast (t := 4) (pc' := 19) cd_De_init rfl rfl f294_1 g294_1 (by decide) rfl rfl h292.2.2.2.1 h292.2.2.2.2 (by rw [show bm_AL B292 (m + 1) = 2 from w294_0]; exact vp_in_nI (n := 0) (by decide) (by decide)) ?_
  rw [show (0 : Int32).toNatClampNeg = 0 from by decide]
  have t300_0 : ∀ c k, bm_FI (bm_setR B292 (m + 1) 0 (some ((m + 2 + 2 * 0)))) c k m = 0 := t295_0
  have t300_1 : ∀ i, i < 1 → stb (PPk (m + 2 + 2 * i)) (m + 2 + 2 * i) (m + 2 + 2 * i + 2) (bm_setR B292 (m + 1) 0 (some ((m + 2 + 2 * 0)))) := fun i hi => stb_setR (F299 i hi) (oq_68 hn296 hi) (oq_69 hi)
  have hn301 : bm_n (bm_setR B292 (m + 1) 0 (some ((m + 2 + 2 * 0)))) = (m + 2 + 2 * 1) := hn296
  have sl302 : bm_sl (bm_setR B292 (m + 1) 0 (some ((m + 2 + 2 * 0)))) = bm_sl B0 + 19 := sl297
  have f0303 : fr0 B0 (bm_setR B292 (m + 1) 0 (some ((m + 2 + 2 * 0)))) := fr0_setR f0298 (oq_70 hm)
  have R304 : ∀ i, i < 1 → bm_AR (bm_setR B292 (m + 1) 0 (some ((m + 2 + 2 * 0)))) ((m + 1)) i = some (m + 2 + 2 * i) := ars_step (f := fun i => m + 2 + 2 * i) t295_2
  refine g_pure (pc' := 20) (st' := [.ref ((m + 1)), .ref ((m + 1)), .ref m]) cd_De_init rfl rfl (fun _ _ => rfl) ?_
  refine g_k1 (v := 1) (pc' := 21) cd_De_init rfl (by decide) rfl ?_
  refine n_obj 4 hn301 cd_De_init rfl rfl rfl rfl (by decide) rfl (fun B305 h305 => ?_)
  have hf306 := fr0_f h305.1
  have f307_0 := fr_lt hf306 f294_0
  have g307_0 := (fr_K hf306 f294_0).trans g294_0
  have f307_1 := fr_lt hf306 f294_1
  have g307_1 := (fr_K hf306 f294_1).trans g294_1
  have f307_2 := fr_lt hf306 h292.2.2.2.1
  have g307_2 := (fr_K hf306 h292.2.2.2.1).trans h292.2.2.2.2
  have w307_0 : bm_AL B305 (m + 1) = 2 := (fr_AL hf306 f294_1).trans w294_0
  have t308_0 : ∀ c k, bm_FI B305 c k m = 0 := fun c k => (fr_FI (fr0_f h305.1) f294_0 (fun q => q) c k).trans (t300_0 c k)
  have t308_1 : ∀ i, i < 1 → stb (PPk (m + 2 + 2 * i)) (m + 2 + 2 * i) (m + 2 + 2 * i + 2) B305 := fun i hi => stb_fr0 (t300_1 i hi) h305.1 (oq_68 hn301 hi)
  have t308_2 : ∀ i, i < 1 → bm_AR B305 ((m + 1)) i = some (m + 2 + 2 * i) := fun i hi => (congrFun (fr_AR (fr0_f h305.1) f294_1 (fun q => q)) i).trans (R304 i hi)
  refine g_pure (pc' := 25) (st' := [.ref ((m + 2 + 2 * 1)), .ref ((m + 2 + 2 * 1)), .int 1, .ref ((m + 1)), .ref ((m + 1)), .ref m]) cd_De_init rfl rfl (fun _ _ => rfl) ?_
  refine g_callv (pc' := 28) cd_De_init rfl rfl rfl rfl rfl (tm_invI rfl rfl cd_Pk_init rfl (Nat.le_of_ble_eq_true rfl)) (i_Pk hn301 h305 (fun B309 h309 => ?_))
  have hf310 := fr0_f h309.1
  have f311_0 := fr_lt hf310 f294_0
  have g311_0 := (fr_K hf310 f294_0).trans g294_0
  have f311_1 := fr_lt hf310 f294_1
  have g311_1 := (fr_K hf310 f294_1).trans g294_1
  have f311_2 := fr_lt hf310 h292.2.2.2.1
  have g311_2 := (fr_K hf310 h292.2.2.2.1).trans h292.2.2.2.2
  have w311_0 : bm_AL B309 (m + 1) = 2 := (fr_AL hf310 f294_1).trans w294_0
  have t312_0 : ∀ c k, bm_FI B309 c k m = 0 := fun c k => (fr_FI (fr0_f h309.1) f294_0 (fun q => q) c k).trans (t300_0 c k)
  have t312_1 : ∀ i, i < 1 → stb (PPk (m + 2 + 2 * i)) (m + 2 + 2 * i) (m + 2 + 2 * i + 2) B309 := fun i hi => stb_fr0 (t300_1 i hi) h309.1 (oq_68 hn301 hi)
  have t312_2 : ∀ i, i < 1 → bm_AR B309 ((m + 1)) i = some (m + 2 + 2 * i) := fun i hi => (congrFun (fr_AR (fr0_f h309.1) f294_1 (fun q => q)) i).trans (R304 i hi)
  have hn313 : bm_n B309 = (m + 6) := (oq_71 h309.2.1.1)
  have sl314 : bm_sl B309 = bm_sl B0 + 27 := by rw [h309.2.1.2, sl302]
  have f0315 : fr0 B0 B309 := fr0_trans f0303 h309.1
  have F316 : ∀ i, i < 2 → stb (PPk (m + 2 + 2 * i)) (m + 2 + 2 * i) (m + 2 + 2 * i + 2) B309 := al_step (P := fun i => stb (PPk (m + 2 + 2 * i)) (m + 2 + 2 * i) (m + 2 + 2 * i + 2) B309) t312_1 h309.2.2.1
  show bm_G _ _ _ 28 _ [.ref ((m + 2 + 2 * 1)), .int 1, .ref ((m + 1)), .ref ((m + 1)), .ref m] B309 _
  refine g_aast (t := 4) (pc' := 29) cd_De_init rfl rfl f311_1 g311_1 (by decide) rfl rfl h309.2.2.2.1 h309.2.2.2.2 (by rw [show bm_AL B309 (m + 1) = 2 from w311_0]; exact vp_in_nI (n := 1) (by decide) (by decide)) ?_
  rw [show (1 : Int32).toNatClampNeg = 1 from by decide]
  have t317_0 : ∀ c k, bm_FI (bm_setR B309 (m + 1) 1 (some ((m + 2 + 2 * 1)))) c k m = 0 := t312_0
  have t317_1 : ∀ i, i < 2 → stb (PPk (m + 2 + 2 * i)) (m + 2 + 2 * i) (m + 2 + 2 * i + 2) (bm_setR B309 (m + 1) 1 (some ((m + 2 + 2 * 1)))) := fun i hi => stb_setR (F316 i hi) (oq_72 hn313 hi) (oq_73 hi)
  have hn318 : bm_n (bm_setR B309 (m + 1) 1 (some ((m + 2 + 2 * 1)))) = (m + 6) := hn313
  have sl319 : bm_sl (bm_setR B309 (m + 1) 1 (some ((m + 2 + 2 * 1)))) = bm_sl B0 + 27 := sl314
  have f0320 : fr0 B0 (bm_setR B309 (m + 1) 1 (some ((m + 2 + 2 * 1)))) := fr0_setR f0315 (oq_70 hm)
  have R321 : ∀ i, i < 2 → bm_AR (bm_setR B309 (m + 1) 1 (some ((m + 2 + 2 * 1)))) ((m + 1)) i = some (m + 2 + 2 * i) := ars_step (f := fun i => m + 2 + 2 * i) t312_2
  refine g_putR (v := some (m + 1)) (c := 0) (k := 0) (pc' := 32) rfl cd_De_init rfl rfl rfl rfl (by simp [tm_okV, narrow, fits]) (Or.inr ⟨rfl, rfl, rfl, rfl⟩) rfl (by decide) f311_0 g311_0 ?_
  have t322_0 : ∀ c k, bm_FI (bm_putR (bm_setR B309 (m + 1) 1 (some ((m + 2 + 2 * 1)))) 0 0 m (some (m + 1))) c k m = 0 := t317_0
  have t322_1 : ∀ i, i < 2 → stb (PPk (m + 2 + 2 * i)) (m + 2 + 2 * i) (m + 2 + 2 * i + 2) (bm_putR (bm_setR B309 (m + 1) 1 (some ((m + 2 + 2 * 1)))) 0 0 m (some (m + 1))) := fun i hi => stb_putR (t317_1 i hi) (oq_72 hn318 hi) (oq_74 hi)
  have t322_2 : ∀ i, i < 2 → bm_AR (bm_putR (bm_setR B309 (m + 1) 1 (some ((m + 2 + 2 * 1)))) 0 0 m (some (m + 1))) ((m + 1)) i = some (m + 2 + 2 * i) := R321
  have hn323 : bm_n (bm_putR (bm_setR B309 (m + 1) 1 (some ((m + 2 + 2 * 1)))) 0 0 m (some (m + 1))) = (m + 6) := hn318
  have sl324 : bm_sl (bm_putR (bm_setR B309 (m + 1) 1 (some ((m + 2 + 2 * 1)))) 0 0 m (some (m + 1))) = bm_sl B0 + 27 := sl319
  have f0325 : fr0 B0 (bm_putR (bm_setR B309 (m + 1) 1 (some ((m + 2 + 2 * 1)))) 0 0 m (some (m + 1))) := fr0_putR f0320 (oq_1 hm)
  refine g_ald (pc' := 33) cd_De_init rfl (Or.inr ⟨_, rfl, rfl, rfl⟩) l0 rfl rfl ?_
  refine g_k1 (v := 4) (pc' := 34) cd_De_init rfl (by decide) rfl ?_
  refine n_int 4 hn323 cd_De_init rfl rfl (by decide) (by decide) (by decide) (fun B326 h326 => ?_)
  have hf327 := fr0_f h326.1
  have f328_0 := fr_lt hf327 f311_0
  have g328_0 := (fr_K hf327 f311_0).trans g311_0
  have f328_1 := fr_lt hf327 f311_1
  have g328_1 := (fr_K hf327 f311_1).trans g311_1
  have f328_2 := fr_lt hf327 f311_2
  have g328_2 := (fr_K hf327 f311_2).trans g311_2
  have f328_3 := fr_lt hf327 h309.2.2.2.1
  have g328_3 := (fr_K hf327 h309.2.2.2.1).trans h309.2.2.2.2
  have r328_0 : bm_FR B326 0 0 m = some (m + 1) := (fr_FR hf327 f311_0 (fun q => q) 0 0).trans (by simp [bm_putR, bm_up3, bm_FR])
  have w328_0 : bm_AL B326 (m + 1) = 2 := (fr_AL hf327 f311_1).trans w311_0
  have t329_0 : ∀ c k, bm_FI B326 c k m = 0 := fun c k => (fr_FI (fr0_f h326.1) f311_0 (fun q => q) c k).trans (t322_0 c k)
  have t329_1 : ∀ i, i < 2 → stb (PPk (m + 2 + 2 * i)) (m + 2 + 2 * i) (m + 2 + 2 * i + 2) B326 := fun i hi => stb_fr0 (t322_1 i hi) h326.1 (oq_72 hn323 hi)
  have t329_2 : ∀ i, i < 2 → bm_AR B326 ((m + 1)) i = some (m + 2 + 2 * i) := fun i hi => (congrFun (fr_AR (fr0_f h326.1) f311_1 (fun q => q)) i).trans (t322_2 i hi)
  have hn330 : bm_n B326 = (m + 7) := (oq_75 h326.2.1.1)
  have sl331 : bm_sl B326 = bm_sl B0 + 31 := by rw [h326.2.1.2, sl324]
  have f0332 : fr0 B0 B326 := fr0_trans f0325 h326.1
  refine g_putR (v := some (m + 6)) (c := 0) (k := 1) (pc' := 39) rfl cd_De_init rfl rfl rfl rfl (by simp [tm_okV, narrow, fits]) (Or.inr ⟨rfl, rfl, rfl, rfl⟩) rfl (by decide) f328_0 g328_0 ?_
  have t333_0 : ∀ c k, bm_FI (bm_putR B326 0 1 m (some (m + 6))) c k m = 0 := t329_0
  have t333_1 : ∀ i, i < 2 → stb (PPk (m + 2 + 2 * i)) (m + 2 + 2 * i) (m + 2 + 2 * i + 2) (bm_putR B326 0 1 m (some (m + 6))) := fun i hi => stb_putR (t329_1 i hi) (oq_76 hn330 hi) (oq_74 hi)
  have t333_2 : ∀ i, i < 2 → bm_AR (bm_putR B326 0 1 m (some (m + 6))) ((m + 1)) i = some (m + 2 + 2 * i) := t329_2
  have hn334 : bm_n (bm_putR B326 0 1 m (some (m + 6))) = (m + 7) := hn330
  have sl335 : bm_sl (bm_putR B326 0 1 m (some (m + 6))) = bm_sl B0 + 31 := sl331
  have f0336 : fr0 B0 (bm_putR B326 0 1 m (some (m + 6))) := fr0_putR f0332 (oq_1 hm)
  refine g_ald (pc' := 40) cd_De_init rfl (Or.inr ⟨_, rfl, rfl, rfl⟩) l0 rfl rfl ?_
  refine g_k1 (v := 4) (pc' := 41) cd_De_init rfl (by decide) rfl ?_
  refine n_int 4 hn334 cd_De_init rfl rfl (by decide) (by decide) (by decide) (fun B337 h337 => ?_)
  have hf338 := fr0_f h337.1
  have f339_0 := fr_lt hf338 f328_0
  have g339_0 := (fr_K hf338 f328_0).trans g328_0
  have f339_1 := fr_lt hf338 f328_1
  have g339_1 := (fr_K hf338 f328_1).trans g328_1
  have f339_2 := fr_lt hf338 f328_2
  have g339_2 := (fr_K hf338 f328_2).trans g328_2
  have f339_3 := fr_lt hf338 f328_3
  have g339_3 := (fr_K hf338 f328_3).trans g328_3
  have f339_4 := fr_lt hf338 h326.2.2.1.1
  have g339_4 := (fr_K hf338 h326.2.2.1.1).trans h326.2.2.1.2.1
  have r339_0 : bm_FR B337 0 0 m = some (m + 1) := (fr_FR hf338 f328_0 (fun q => q) 0 0).trans r328_0
  have r339_1 : bm_FR B337 0 1 m = some (m + 6) := (fr_FR hf338 f328_0 (fun q => q) 0 1).trans (by simp [bm_putR, bm_up3, bm_FR])
  have u339_0 : bm_AI B337 (m + 6) = (fun _ => 0) := (fr_AI hf338 h326.2.2.1.1 (fun q => q)).trans h326.2.2.2.1
  have w339_0 : bm_AL B337 (m + 1) = 2 := (fr_AL hf338 f328_1).trans w328_0
  have w339_1 : bm_AL B337 (m + 6) = 4 := (fr_AL hf338 h326.2.2.1.1).trans h326.2.2.1.2.2
  have t340_0 : ∀ c k, bm_FI B337 c k m = 0 := fun c k => (fr_FI (fr0_f h337.1) f328_0 (fun q => q) c k).trans (t333_0 c k)
  have t340_1 : ∀ i, i < 2 → stb (PPk (m + 2 + 2 * i)) (m + 2 + 2 * i) (m + 2 + 2 * i + 2) B337 := fun i hi => stb_fr0 (t333_1 i hi) h337.1 (oq_76 hn334 hi)
  have t340_2 : ∀ i, i < 2 → bm_AR B337 ((m + 1)) i = some (m + 2 + 2 * i) := fun i hi => (congrFun (fr_AR (fr0_f h337.1) f328_1 (fun q => q)) i).trans (t333_2 i hi)
  have hn341 : bm_n B337 = (m + 8) := (oq_77 h337.2.1.1)
  have sl342 : bm_sl B337 = bm_sl B0 + 35 := by rw [h337.2.1.2, sl335]
  have f0343 : fr0 B0 B337 := fr0_trans f0336 h337.1
  refine g_putR (v := some (m + 7)) (c := 0) (k := 2) (pc' := 46) rfl cd_De_init rfl rfl rfl rfl (by simp [tm_okV, narrow, fits]) (Or.inr ⟨rfl, rfl, rfl, rfl⟩) rfl (by decide) f339_0 g339_0 ?_
  have t344_0 : ∀ c k, bm_FI (bm_putR B337 0 2 m (some (m + 7))) c k m = 0 := t340_0
  have t344_1 : ∀ i, i < 2 → stb (PPk (m + 2 + 2 * i)) (m + 2 + 2 * i) (m + 2 + 2 * i + 2) (bm_putR B337 0 2 m (some (m + 7))) := fun i hi => stb_putR (t340_1 i hi) (oq_78 hn341 hi) (oq_74 hi)
  have t344_2 : ∀ i, i < 2 → bm_AR (bm_putR B337 0 2 m (some (m + 7))) ((m + 1)) i = some (m + 2 + 2 * i) := t340_2
  have hn345 : bm_n (bm_putR B337 0 2 m (some (m + 7))) = (m + 8) := hn341
  have sl346 : bm_sl (bm_putR B337 0 2 m (some (m + 7))) = bm_sl B0 + 35 := sl342
  have f0347 : fr0 B0 (bm_putR B337 0 2 m (some (m + 7))) := fr0_putR f0343 (oq_1 hm)
  refine g_ald (pc' := 47) cd_De_init rfl (Or.inr ⟨_, rfl, rfl, rfl⟩) l0 rfl rfl ?_
  refine g_k2 (v := 6) (pc' := 49) cd_De_init rfl (by decide) rfl ?_
  refine n_int 6 hn345 cd_De_init rfl rfl (by decide) (by decide) (by decide) (fun B348 h348 => ?_)
  have hf349 := fr0_f h348.1
  have f350_0 := fr_lt hf349 f339_0
  have g350_0 := (fr_K hf349 f339_0).trans g339_0
  have f350_1 := fr_lt hf349 f339_1
  have g350_1 := (fr_K hf349 f339_1).trans g339_1
  have f350_2 := fr_lt hf349 f339_2
  have g350_2 := (fr_K hf349 f339_2).trans g339_2
  have f350_3 := fr_lt hf349 f339_3
  have g350_3 := (fr_K hf349 f339_3).trans g339_3
  have f350_4 := fr_lt hf349 f339_4
  have g350_4 := (fr_K hf349 f339_4).trans g339_4
  have f350_5 := fr_lt hf349 h337.2.2.1.1
  have g350_5 := (fr_K hf349 h337.2.2.1.1).trans h337.2.2.1.2.1
  have r350_0 : bm_FR B348 0 0 m = some (m + 1) := (fr_FR hf349 f339_0 (fun q => q) 0 0).trans r339_0
  have r350_1 : bm_FR B348 0 1 m = some (m + 6) := (fr_FR hf349 f339_0 (fun q => q) 0 1).trans r339_1
  have r350_2 : bm_FR B348 0 2 m = some (m + 7) := (fr_FR hf349 f339_0 (fun q => q) 0 2).trans (by simp [bm_putR, bm_up3, bm_FR])
  have u350_0 : bm_AI B348 (m + 6) = (fun _ => 0) := (fr_AI hf349 f339_4 (fun q => q)).trans u339_0
  have u350_1 : bm_AI B348 (m + 7) = (fun _ => 0) := (fr_AI hf349 h337.2.2.1.1 (fun q => q)).trans h337.2.2.2.1
  have w350_0 : bm_AL B348 (m + 1) = 2 := (fr_AL hf349 f339_1).trans w339_0
  have w350_1 : bm_AL B348 (m + 6) = 4 := (fr_AL hf349 f339_4).trans w339_1
  have w350_2 : bm_AL B348 (m + 7) = 4 := (fr_AL hf349 h337.2.2.1.1).trans h337.2.2.1.2.2
  have t351_0 : ∀ c k, bm_FI B348 c k m = 0 := fun c k => (fr_FI (fr0_f h348.1) f339_0 (fun q => q) c k).trans (t344_0 c k)
  have t351_1 : ∀ i, i < 2 → stb (PPk (m + 2 + 2 * i)) (m + 2 + 2 * i) (m + 2 + 2 * i + 2) B348 := fun i hi => stb_fr0 (t344_1 i hi) h348.1 (oq_78 hn345 hi)
  have t351_2 : ∀ i, i < 2 → bm_AR B348 ((m + 1)) i = some (m + 2 + 2 * i) := fun i hi => (congrFun (fr_AR (fr0_f h348.1) f339_1 (fun q => q)) i).trans (t344_2 i hi)
  have hn352 : bm_n B348 = (m + 9) := (oq_79 h348.2.1.1)
  have sl353 : bm_sl B348 = bm_sl B0 + 41 := by rw [h348.2.1.2, sl346]
  have f0354 : fr0 B0 B348 := fr0_trans f0347 h348.1
  refine g_putR (v := some (m + 8)) (c := 0) (k := 3) (pc' := 54) rfl cd_De_init rfl rfl rfl rfl (by simp [tm_okV, narrow, fits]) (Or.inr ⟨rfl, rfl, rfl, rfl⟩) rfl (by decide) f350_0 g350_0 ?_
  have t355_0 : ∀ c k, bm_FI (bm_putR B348 0 3 m (some (m + 8))) c k m = 0 := t351_0
  have t355_1 : ∀ i, i < 2 → stb (PPk (m + 2 + 2 * i)) (m + 2 + 2 * i) (m + 2 + 2 * i + 2) (bm_putR B348 0 3 m (some (m + 8))) := fun i hi => stb_putR (t351_1 i hi) (oq_80 hn352 hi) (oq_74 hi)
  have t355_2 : ∀ i, i < 2 → bm_AR (bm_putR B348 0 3 m (some (m + 8))) ((m + 1)) i = some (m + 2 + 2 * i) := t351_2
  have hn356 : bm_n (bm_putR B348 0 3 m (some (m + 8))) = (m + 9) := hn352
  have sl357 : bm_sl (bm_putR B348 0 3 m (some (m + 8))) = bm_sl B0 + 41 := sl353
  have f0358 : fr0 B0 (bm_putR B348 0 3 m (some (m + 8))) := fr0_putR f0354 (oq_1 hm)
  refine g_ald (pc' := 55) cd_De_init rfl (Or.inr ⟨_, rfl, rfl, rfl⟩) l0 rfl rfl ?_
  refine g_k2 (v := 12) (pc' := 57) cd_De_init rfl (by decide) rfl ?_
  refine n_ref 12 hn356 cd_De_init rfl rfl rfl rfl (by decide) rfl (by decide) (by decide) (by decide) (fun B359 h359 => ?_)
  have hf360 := fr0_f h359.1
  have f361_0 := fr_lt hf360 f350_0
  have g361_0 := (fr_K hf360 f350_0).trans g350_0
  have f361_1 := fr_lt hf360 f350_1
  have g361_1 := (fr_K hf360 f350_1).trans g350_1
  have f361_2 := fr_lt hf360 f350_2
  have g361_2 := (fr_K hf360 f350_2).trans g350_2
  have f361_3 := fr_lt hf360 f350_3
  have g361_3 := (fr_K hf360 f350_3).trans g350_3
  have f361_4 := fr_lt hf360 f350_4
  have g361_4 := (fr_K hf360 f350_4).trans g350_4
  have f361_5 := fr_lt hf360 f350_5
  have g361_5 := (fr_K hf360 f350_5).trans g350_5
  have f361_6 := fr_lt hf360 h348.2.2.1.1
  have g361_6 := (fr_K hf360 h348.2.2.1.1).trans h348.2.2.1.2.1
  have r361_0 : bm_FR B359 0 0 m = some (m + 1) := (fr_FR hf360 f350_0 (fun q => q) 0 0).trans r350_0
  have r361_1 : bm_FR B359 0 1 m = some (m + 6) := (fr_FR hf360 f350_0 (fun q => q) 0 1).trans r350_1
  have r361_2 : bm_FR B359 0 2 m = some (m + 7) := (fr_FR hf360 f350_0 (fun q => q) 0 2).trans r350_2
  have r361_3 : bm_FR B359 0 3 m = some (m + 8) := (fr_FR hf360 f350_0 (fun q => q) 0 3).trans (by simp [bm_putR, bm_up3, bm_FR])
  have u361_0 : bm_AI B359 (m + 6) = (fun _ => 0) := (fr_AI hf360 f350_4 (fun q => q)).trans u350_0
  have u361_1 : bm_AI B359 (m + 7) = (fun _ => 0) := (fr_AI hf360 f350_5 (fun q => q)).trans u350_1
  have u361_2 : bm_AI B359 (m + 8) = (fun _ => 0) := (fr_AI hf360 h348.2.2.1.1 (fun q => q)).trans h348.2.2.2.1
  have w361_0 : bm_AL B359 (m + 1) = 2 := (fr_AL hf360 f350_1).trans w350_0
  have w361_1 : bm_AL B359 (m + 6) = 4 := (fr_AL hf360 f350_4).trans w350_1
  have w361_2 : bm_AL B359 (m + 7) = 4 := (fr_AL hf360 f350_5).trans w350_2
  have w361_3 : bm_AL B359 (m + 8) = 6 := (fr_AL hf360 h348.2.2.1.1).trans h348.2.2.1.2.2
  have t362_0 : ∀ c k, bm_FI B359 c k m = 0 := fun c k => (fr_FI (fr0_f h359.1) f350_0 (fun q => q) c k).trans (t355_0 c k)
  have t362_1 : ∀ i, i < 2 → stb (PPk (m + 2 + 2 * i)) (m + 2 + 2 * i) (m + 2 + 2 * i + 2) B359 := fun i hi => stb_fr0 (t355_1 i hi) h359.1 (oq_80 hn356 hi)
  have t362_2 : ∀ i, i < 2 → bm_AR B359 ((m + 1)) i = some (m + 2 + 2 * i) := fun i hi => (congrFun (fr_AR (fr0_f h359.1) f350_1 (fun q => q)) i).trans (t355_2 i hi)
  have hn363 : bm_n B359 = (m + 10) := (oq_81 h359.2.1.1)
  have sl364 : bm_sl B359 = bm_sl B0 + 53 := by rw [h359.2.1.2, sl357]
  have f0365 : fr0 B0 B359 := fr0_trans f0358 h359.1
  have F366 : ∀ i, i < 0 → stb (PSe (m + 11 + 3 * i)) (m + 11 + 3 * i) (m + 11 + 3 * i + 3) B359 := al_nil
  have R366 : ∀ i, i < 0 → bm_AR B359 ((m + 9)) i = some (m + 11 + 3 * i) := al_nil
  refine g_putR (v := some (m + 9)) (c := 0) (k := 4) (pc' := 63) rfl cd_De_init rfl rfl rfl rfl (by simp [tm_okV, narrow, fits]) (Or.inr ⟨rfl, rfl, rfl, rfl⟩) rfl (by decide) f361_0 g361_0 ?_
  have t367_0 : ∀ c k, bm_FI (bm_putR B359 0 4 m (some (m + 9))) c k m = 0 := t362_0
  have t367_1 : ∀ i, i < 2 → stb (PPk (m + 2 + 2 * i)) (m + 2 + 2 * i) (m + 2 + 2 * i + 2) (bm_putR B359 0 4 m (some (m + 9))) := fun i hi => stb_putR (t362_1 i hi) (oq_82 hn363 hi) (oq_74 hi)
  have t367_2 : ∀ i, i < 2 → bm_AR (bm_putR B359 0 4 m (some (m + 9))) ((m + 1)) i = some (m + 2 + 2 * i) := t362_2
  have t367_3 : ∀ i, i < 0 → stb (PSe (m + 11 + 3 * i)) (m + 11 + 3 * i) (m + 11 + 3 * i + 3) (bm_putR B359 0 4 m (some (m + 9))) := fun i hi => stb_putR (F366 i hi) (oq_83 hn363 hi) (oq_84 hi)
  have t367_4 : ∀ i, i < 0 → bm_AR (bm_putR B359 0 4 m (some (m + 9))) ((m + 9)) i = some (m + 11 + 3 * i) := R366
  have hn368 : bm_n (bm_putR B359 0 4 m (some (m + 9))) = (m + 10) := hn363
  have sl369 : bm_sl (bm_putR B359 0 4 m (some (m + 9))) = bm_sl B0 + 53 := sl364
  have f0370 : fr0 B0 (bm_putR B359 0 4 m (some (m + 9))) := fr0_putR f0365 (oq_1 hm)
  refine g_ald (pc' := 64) cd_De_init rfl (Or.inr ⟨_, rfl, rfl, rfl⟩) l0 rfl rfl ?_
  refine g_k1 (v := 4) (pc' := 65) cd_De_init rfl (by decide) rfl ?_
  refine n_ref 4 hn368 cd_De_init rfl rfl rfl rfl (by decide) rfl (by decide) (by decide) (by decide) (fun B371 h371 => ?_)
  have hf372 := fr0_f h371.1
  have f373_0 := fr_lt hf372 f361_0
  have g373_0 := (fr_K hf372 f361_0).trans g361_0
  have f373_1 := fr_lt hf372 f361_1
  have g373_1 := (fr_K hf372 f361_1).trans g361_1
  have f373_2 := fr_lt hf372 f361_2
  have g373_2 := (fr_K hf372 f361_2).trans g361_2
  have f373_3 := fr_lt hf372 f361_3
  have g373_3 := (fr_K hf372 f361_3).trans g361_3
  have f373_4 := fr_lt hf372 f361_4
  have g373_4 := (fr_K hf372 f361_4).trans g361_4
  have f373_5 := fr_lt hf372 f361_5
  have g373_5 := (fr_K hf372 f361_5).trans g361_5
  have f373_6 := fr_lt hf372 f361_6
  have g373_6 := (fr_K hf372 f361_6).trans g361_6
  have f373_7 := fr_lt hf372 h359.2.2.1.1
  have g373_7 := (fr_K hf372 h359.2.2.1.1).trans h359.2.2.1.2.1
  have r373_0 : bm_FR B371 0 0 m = some (m + 1) := (fr_FR hf372 f361_0 (fun q => q) 0 0).trans r361_0
  have r373_1 : bm_FR B371 0 1 m = some (m + 6) := (fr_FR hf372 f361_0 (fun q => q) 0 1).trans r361_1
  have r373_2 : bm_FR B371 0 2 m = some (m + 7) := (fr_FR hf372 f361_0 (fun q => q) 0 2).trans r361_2
  have r373_3 : bm_FR B371 0 3 m = some (m + 8) := (fr_FR hf372 f361_0 (fun q => q) 0 3).trans r361_3
  have r373_4 : bm_FR B371 0 4 m = some (m + 9) := (fr_FR hf372 f361_0 (fun q => q) 0 4).trans (by simp [bm_putR, bm_up3, bm_FR])
  have u373_0 : bm_AI B371 (m + 6) = (fun _ => 0) := (fr_AI hf372 f361_4 (fun q => q)).trans u361_0
  have u373_1 : bm_AI B371 (m + 7) = (fun _ => 0) := (fr_AI hf372 f361_5 (fun q => q)).trans u361_1
  have u373_2 : bm_AI B371 (m + 8) = (fun _ => 0) := (fr_AI hf372 f361_6 (fun q => q)).trans u361_2
  have w373_0 : bm_AL B371 (m + 1) = 2 := (fr_AL hf372 f361_1).trans w361_0
  have w373_1 : bm_AL B371 (m + 6) = 4 := (fr_AL hf372 f361_4).trans w361_1
  have w373_2 : bm_AL B371 (m + 7) = 4 := (fr_AL hf372 f361_5).trans w361_2
  have w373_3 : bm_AL B371 (m + 8) = 6 := (fr_AL hf372 f361_6).trans w361_3
  have w373_4 : bm_AL B371 (m + 9) = 12 := (fr_AL hf372 h359.2.2.1.1).trans h359.2.2.1.2.2
  have t374_0 : ∀ c k, bm_FI B371 c k m = 0 := fun c k => (fr_FI (fr0_f h371.1) f361_0 (fun q => q) c k).trans (t367_0 c k)
  have t374_1 : ∀ i, i < 2 → stb (PPk (m + 2 + 2 * i)) (m + 2 + 2 * i) (m + 2 + 2 * i + 2) B371 := fun i hi => stb_fr0 (t367_1 i hi) h371.1 (oq_82 hn368 hi)
  have t374_2 : ∀ i, i < 2 → bm_AR B371 ((m + 1)) i = some (m + 2 + 2 * i) := fun i hi => (congrFun (fr_AR (fr0_f h371.1) f361_1 (fun q => q)) i).trans (t367_2 i hi)
  have t374_3 : ∀ i, i < 0 → stb (PSe (m + 11 + 3 * i)) (m + 11 + 3 * i) (m + 11 + 3 * i + 3) B371 := fun i hi => stb_fr0 (t367_3 i hi) h371.1 (oq_83 hn368 hi)
  have t374_4 : ∀ i, i < 0 → bm_AR B371 ((m + 9)) i = some (m + 11 + 3 * i) := fun i hi => (congrFun (fr_AR (fr0_f h371.1) h359.2.2.1.1 (fun q => q)) i).trans (t367_4 i hi)
  have hn375 : bm_n B371 = (m + 11 + 3 * 0) := (oq_85 h371.2.1.1)
  have sl376 : bm_sl B371 = bm_sl B0 + 57 := by rw [h371.2.1.2, sl369]
  have f0377 : fr0 B0 B371 := fr0_trans f0370 h371.1
  have F378 : ∀ i, i < 0 → stb (PMe (m + 47 + 39 * i)) (m + 47 + 39 * i) (m + 47 + 39 * i + 39) B371 := al_nil
  have R378 : ∀ i, i < 0 → bm_AR B371 ((m + 10)) i = some (m + 47 + 39 * i) := al_nil
  refine g_putR (v := some (m + 10)) (c := 0) (k := 5) (pc' := 71) rfl cd_De_init rfl rfl rfl rfl (by simp [tm_okV, narrow, fits]) (Or.inr ⟨rfl, rfl, rfl, rfl⟩) rfl (by decide) f373_0 g373_0 ?_
  have t379_0 : ∀ c k, bm_FI (bm_putR B371 0 5 m (some (m + 10))) c k m = 0 := t374_0
  have t379_1 : ∀ i, i < 2 → stb (PPk (m + 2 + 2 * i)) (m + 2 + 2 * i) (m + 2 + 2 * i + 2) (bm_putR B371 0 5 m (some (m + 10))) := fun i hi => stb_putR (t374_1 i hi) (oq_86 hn375 hi) (oq_74 hi)
  have t379_2 : ∀ i, i < 2 → bm_AR (bm_putR B371 0 5 m (some (m + 10))) ((m + 1)) i = some (m + 2 + 2 * i) := t374_2
  have t379_3 : ∀ i, i < 0 → stb (PSe (m + 11 + 3 * i)) (m + 11 + 3 * i) (m + 11 + 3 * i + 3) (bm_putR B371 0 5 m (some (m + 10))) := fun i hi => stb_putR (t374_3 i hi) (oq_87 hn375 hi) (oq_84 hi)
  have t379_4 : ∀ i, i < 0 → bm_AR (bm_putR B371 0 5 m (some (m + 10))) ((m + 9)) i = some (m + 11 + 3 * i) := t374_4
  have t379_5 : ∀ i, i < 0 → stb (PMe (m + 47 + 39 * i)) (m + 47 + 39 * i) (m + 47 + 39 * i + 39) (bm_putR B371 0 5 m (some (m + 10))) := fun i hi => stb_putR (F378 i hi) (oq_88 hn375 hi) (oq_89 hi)
  have t379_6 : ∀ i, i < 0 → bm_AR (bm_putR B371 0 5 m (some (m + 10))) ((m + 10)) i = some (m + 47 + 39 * i) := R378
  have hn380 : bm_n (bm_putR B371 0 5 m (some (m + 10))) = (m + 11 + 3 * 0) := hn375
  have sl381 : bm_sl (bm_putR B371 0 5 m (some (m + 10))) = bm_sl B0 + 57 := sl376
  have f0382 : fr0 B0 (bm_putR B371 0 5 m (some (m + 10))) := fr0_putR f0377 (oq_1 hm)
  refine g_k1 (v := 0) (pc' := 72) cd_De_init rfl (by decide) rfl ?_
  refine g_ist (pc' := 73) cd_De_init rfl (Or.inr ⟨_, rfl, rfl, rfl⟩) (by decide) rfl (fun lv el => ?_)
  have l0 := tm_lk el l0 rfl (by decide)
  have l1 : lv.lookup 1 = some (.int 0) := tm_lks el
  clear el
  refine g_ild (pc' := 74) cd_De_init rfl (Or.inr ⟨_, rfl, rfl, rfl⟩) l1 rfl ?_
  refine g_ald (pc' := 75) cd_De_init rfl (Or.inr ⟨_, rfl, rfl, rfl⟩) l0 rfl rfl ?_
  refine g_fR (c := 0) (k := 4) (x := (m + 9)) (pc' := 78) cd_De_init rfl rfl rfl rfl rfl (by decide) f373_0 g373_0 r373_4 ?_
  refine g_al (x := 12) (pc' := 79) cd_De_init rfl rfl f373_7 (by rw [show bm_K (bm_putR B371 0 5 m (some (m + 10))) (m + 9) = 18 from g373_7]; decide) (by rw [show bm_K (bm_putR B371 0 5 m (some (m + 10))) (m + 9) = 18 from g373_7]; decide) (by rw [show bm_AL (bm_putR B371 0 5 m (some (m + 10))) (m + 9) = 12 from w373_4]; rfl) ?_
  refine g_if2 (t := 101) (pc' := 82) cd_De_init rfl rfl rfl (fun c79 => ?_) (fun c79 => ?_)
  · exact absurd (show (12 : Int32) ≤ 0 from c79) (by decide)
  · have c79 : ¬ (12 : Int32) ≤ 0 := c79
    refine g_ald (pc' := 83) cd_De_init rfl (Or.inr ⟨_, rfl, rfl, rfl⟩) l0 rfl rfl ?_
    refine g_fR (c := 0) (k := 4) (x := (m + 9)) (pc' := 86) cd_De_init rfl rfl rfl rfl rfl (by decide) f373_0 g373_0 r373_4 ?_
    refine g_ild (pc' := 87) cd_De_init rfl (Or.inr ⟨_, rfl, rfl, rfl⟩) l1 rfl ?_
    refine n_obj 11 hn380 cd_De_init rfl rfl rfl rfl (by decide) rfl (fun B383 h383 => ?_)
    have hf384 := fr0_f h383.1
    have f385_0 := fr_lt hf384 f373_0
    have g385_0 := (fr_K hf384 f373_0).trans g373_0
    have f385_1 := fr_lt hf384 f373_1
    have g385_1 := (fr_K hf384 f373_1).trans g373_1
    have f385_2 := fr_lt hf384 f373_2
    have g385_2 := (fr_K hf384 f373_2).trans g373_2
    have f385_3 := fr_lt hf384 f373_3
    have g385_3 := (fr_K hf384 f373_3).trans g373_3
    have f385_4 := fr_lt hf384 f373_4
    have g385_4 := (fr_K hf384 f373_4).trans g373_4
    have f385_5 := fr_lt hf384 f373_5
    have g385_5 := (fr_K hf384 f373_5).trans g373_5
    have f385_6 := fr_lt hf384 f373_6
    have g385_6 := (fr_K hf384 f373_6).trans g373_6
    have f385_7 := fr_lt hf384 f373_7
    have g385_7 := (fr_K hf384 f373_7).trans g373_7
    have f385_8 := fr_lt hf384 h371.2.2.1.1
    have g385_8 := (fr_K hf384 h371.2.2.1.1).trans h371.2.2.1.2.1
    have r385_0 : bm_FR B383 0 0 m = some (m + 1) := (fr_FR hf384 f373_0 (fun q => q) 0 0).trans r373_0
    have r385_1 : bm_FR B383 0 1 m = some (m + 6) := (fr_FR hf384 f373_0 (fun q => q) 0 1).trans r373_1
    have r385_2 : bm_FR B383 0 2 m = some (m + 7) := (fr_FR hf384 f373_0 (fun q => q) 0 2).trans r373_2
    have r385_3 : bm_FR B383 0 3 m = some (m + 8) := (fr_FR hf384 f373_0 (fun q => q) 0 3).trans r373_3
    have r385_4 : bm_FR B383 0 4 m = some (m + 9) := (fr_FR hf384 f373_0 (fun q => q) 0 4).trans r373_4
    have r385_5 : bm_FR B383 0 5 m = some (m + 10) := (fr_FR hf384 f373_0 (fun q => q) 0 5).trans (by simp [bm_putR, bm_up3, bm_FR])
    have u385_0 : bm_AI B383 (m + 6) = (fun _ => 0) := (fr_AI hf384 f373_4 (fun q => q)).trans u373_0
    have u385_1 : bm_AI B383 (m + 7) = (fun _ => 0) := (fr_AI hf384 f373_5 (fun q => q)).trans u373_1
    have u385_2 : bm_AI B383 (m + 8) = (fun _ => 0) := (fr_AI hf384 f373_6 (fun q => q)).trans u373_2
    have w385_0 : bm_AL B383 (m + 1) = 2 := (fr_AL hf384 f373_1).trans w373_0
    have w385_1 : bm_AL B383 (m + 6) = 4 := (fr_AL hf384 f373_4).trans w373_1
    have w385_2 : bm_AL B383 (m + 7) = 4 := (fr_AL hf384 f373_5).trans w373_2
    have w385_3 : bm_AL B383 (m + 8) = 6 := (fr_AL hf384 f373_6).trans w373_3
    have w385_4 : bm_AL B383 (m + 9) = 12 := (fr_AL hf384 f373_7).trans w373_4
    have w385_5 : bm_AL B383 (m + 10) = 4 := (fr_AL hf384 h371.2.2.1.1).trans h371.2.2.1.2.2
    have t386_0 : ∀ c k, bm_FI B383 c k m = 0 := fun c k => (fr_FI (fr0_f h383.1) f373_0 (fun q => q) c k).trans (t379_0 c k)
    have t386_1 : ∀ i, i < 2 → stb (PPk (m + 2 + 2 * i)) (m + 2 + 2 * i) (m + 2 + 2 * i + 2) B383 := fun i hi => stb_fr0 (t379_1 i hi) h383.1 (oq_86 hn380 hi)
    have t386_2 : ∀ i, i < 2 → bm_AR B383 ((m + 1)) i = some (m + 2 + 2 * i) := fun i hi => (congrFun (fr_AR (fr0_f h383.1) f373_1 (fun q => q)) i).trans (t379_2 i hi)
    have t386_3 : ∀ i, i < 0 → stb (PSe (m + 11 + 3 * i)) (m + 11 + 3 * i) (m + 11 + 3 * i + 3) B383 := fun i hi => stb_fr0 (t379_3 i hi) h383.1 (oq_87 hn380 hi)
    have t386_4 : ∀ i, i < 0 → bm_AR B383 ((m + 9)) i = some (m + 11 + 3 * i) := fun i hi => (congrFun (fr_AR (fr0_f h383.1) f373_7 (fun q => q)) i).trans (t379_4 i hi)
    have t386_5 : ∀ i, i < 0 → stb (PMe (m + 47 + 39 * i)) (m + 47 + 39 * i) (m + 47 + 39 * i + 39) B383 := fun i hi => stb_fr0 (t379_5 i hi) h383.1 (oq_88 hn380 hi)
    have t386_6 : ∀ i, i < 0 → bm_AR B383 ((m + 10)) i = some (m + 47 + 39 * i) := fun i hi => (congrFun (fr_AR (fr0_f h383.1) h371.2.2.1.1 (fun q => q)) i).trans (t379_6 i hi)
    refine g_pure (pc' := 91) (st' := [.ref ((m + 11 + 3 * 0)), .ref ((m + 11 + 3 * 0)), .int 0, .ref ((m + 9))]) cd_De_init rfl rfl (fun _ _ => rfl) ?_
    refine g_callv (pc' := 94) cd_De_init rfl rfl rfl rfl rfl (tm_invI rfl rfl cd_Se_init rfl (Nat.le_of_ble_eq_true rfl)) (i_Se hn380 h383 (fun B387 h387 => ?_))
    have hf388 := fr0_f h387.1
    have f389_0 := fr_lt hf388 f373_0
    have g389_0 := (fr_K hf388 f373_0).trans g373_0
    have f389_1 := fr_lt hf388 f373_1
    have g389_1 := (fr_K hf388 f373_1).trans g373_1
    have f389_2 := fr_lt hf388 f373_2
    have g389_2 := (fr_K hf388 f373_2).trans g373_2
    have f389_3 := fr_lt hf388 f373_3
    have g389_3 := (fr_K hf388 f373_3).trans g373_3
    have f389_4 := fr_lt hf388 f373_4
    have g389_4 := (fr_K hf388 f373_4).trans g373_4
    have f389_5 := fr_lt hf388 f373_5
    have g389_5 := (fr_K hf388 f373_5).trans g373_5
    have f389_6 := fr_lt hf388 f373_6
    have g389_6 := (fr_K hf388 f373_6).trans g373_6
    have f389_7 := fr_lt hf388 f373_7
    have g389_7 := (fr_K hf388 f373_7).trans g373_7
    have f389_8 := fr_lt hf388 h371.2.2.1.1
    have g389_8 := (fr_K hf388 h371.2.2.1.1).trans h371.2.2.1.2.1
    have r389_0 : bm_FR B387 0 0 m = some (m + 1) := (fr_FR hf388 f373_0 (fun q => q) 0 0).trans r373_0
    have r389_1 : bm_FR B387 0 1 m = some (m + 6) := (fr_FR hf388 f373_0 (fun q => q) 0 1).trans r373_1
    have r389_2 : bm_FR B387 0 2 m = some (m + 7) := (fr_FR hf388 f373_0 (fun q => q) 0 2).trans r373_2
    have r389_3 : bm_FR B387 0 3 m = some (m + 8) := (fr_FR hf388 f373_0 (fun q => q) 0 3).trans r373_3
    have r389_4 : bm_FR B387 0 4 m = some (m + 9) := (fr_FR hf388 f373_0 (fun q => q) 0 4).trans r373_4
    have r389_5 : bm_FR B387 0 5 m = some (m + 10) := (fr_FR hf388 f373_0 (fun q => q) 0 5).trans (by simp [bm_putR, bm_up3, bm_FR])
    have u389_0 : bm_AI B387 (m + 6) = (fun _ => 0) := (fr_AI hf388 f373_4 (fun q => q)).trans u373_0
    have u389_1 : bm_AI B387 (m + 7) = (fun _ => 0) := (fr_AI hf388 f373_5 (fun q => q)).trans u373_1
    have u389_2 : bm_AI B387 (m + 8) = (fun _ => 0) := (fr_AI hf388 f373_6 (fun q => q)).trans u373_2
    have w389_0 : bm_AL B387 (m + 1) = 2 := (fr_AL hf388 f373_1).trans w373_0
    have w389_1 : bm_AL B387 (m + 6) = 4 := (fr_AL hf388 f373_4).trans w373_1
    have w389_2 : bm_AL B387 (m + 7) = 4 := (fr_AL hf388 f373_5).trans w373_2
    have w389_3 : bm_AL B387 (m + 8) = 6 := (fr_AL hf388 f373_6).trans w373_3
    have w389_4 : bm_AL B387 (m + 9) = 12 := (fr_AL hf388 f373_7).trans w373_4
    have w389_5 : bm_AL B387 (m + 10) = 4 := (fr_AL hf388 h371.2.2.1.1).trans h371.2.2.1.2.2
    have t390_0 : ∀ c k, bm_FI B387 c k m = 0 := fun c k => (fr_FI (fr0_f h387.1) f373_0 (fun q => q) c k).trans (t379_0 c k)
    have t390_1 : ∀ i, i < 2 → stb (PPk (m + 2 + 2 * i)) (m + 2 + 2 * i) (m + 2 + 2 * i + 2) B387 := fun i hi => stb_fr0 (t379_1 i hi) h387.1 (oq_86 hn380 hi)
    have t390_2 : ∀ i, i < 2 → bm_AR B387 ((m + 1)) i = some (m + 2 + 2 * i) := fun i hi => (congrFun (fr_AR (fr0_f h387.1) f373_1 (fun q => q)) i).trans (t379_2 i hi)
    have t390_3 : ∀ i, i < 0 → stb (PSe (m + 11 + 3 * i)) (m + 11 + 3 * i) (m + 11 + 3 * i + 3) B387 := fun i hi => stb_fr0 (t379_3 i hi) h387.1 (oq_87 hn380 hi)
    have t390_4 : ∀ i, i < 0 → bm_AR B387 ((m + 9)) i = some (m + 11 + 3 * i) := fun i hi => (congrFun (fr_AR (fr0_f h387.1) f373_7 (fun q => q)) i).trans (t379_4 i hi)
    have t390_5 : ∀ i, i < 0 → stb (PMe (m + 47 + 39 * i)) (m + 47 + 39 * i) (m + 47 + 39 * i + 39) B387 := fun i hi => stb_fr0 (t379_5 i hi) h387.1 (oq_88 hn380 hi)
    have t390_6 : ∀ i, i < 0 → bm_AR B387 ((m + 10)) i = some (m + 47 + 39 * i) := fun i hi => (congrFun (fr_AR (fr0_f h387.1) h371.2.2.1.1 (fun q => q)) i).trans (t379_6 i hi)
    have hn391 : bm_n B387 = (m + 11 + 3 * 1) := (oq_90 h387.2.1.1)
    have sl392 : bm_sl B387 = bm_sl B0 + 97 := by rw [h387.2.1.2, sl381]
    have f0393 : fr0 B0 B387 := fr0_trans f0382 h387.1
    have F394 : ∀ i, i < 1 → stb (PSe (m + 11 + 3 * i)) (m + 11 + 3 * i) (m + 11 + 3 * i + 3) B387 := al_step (P := fun i => stb (PSe (m + 11 + 3 * i)) (m + 11 + 3 * i) (m + 11 + 3 * i + 3) B387) t390_3 h387.2.2.1
    show bm_G _ _ _ 94 _ [.ref ((m + 11 + 3 * 0)), .int 0, .ref ((m + 9))] B387 _
    refine g_aast (t := 5) (pc' := 95) cd_De_init rfl rfl f389_7 g389_7 (by decide) rfl rfl h387.2.2.2.1 h387.2.2.2.2 (by rw [show bm_AL B387 (m + 9) = 12 from w389_4]; exact vp_in_nI (n := 0) (by decide) (by decide)) ?_
    rw [show (0 : Int32).toNatClampNeg = 0 from by decide]
    have t395_0 : ∀ c k, bm_FI (bm_setR B387 (m + 9) 0 (some ((m + 11 + 3 * 0)))) c k m = 0 := t390_0
    have t395_1 : ∀ i, i < 2 → stb (PPk (m + 2 + 2 * i)) (m + 2 + 2 * i) (m + 2 + 2 * i + 2) (bm_setR B387 (m + 9) 0 (some ((m + 11 + 3 * 0)))) := fun i hi => stb_setR (t390_1 i hi) (oq_91 hn391 hi) (oq_92 hi)
    have t395_2 : ∀ i, i < 2 → bm_AR (bm_setR B387 (m + 9) 0 (some ((m + 11 + 3 * 0)))) ((m + 1)) i = some (m + 2 + 2 * i) := fun i hi => (if_neg (fun q => absurd q.1 oq_93)).trans (t390_2 i hi)
    have t395_3 : ∀ i, i < 1 → stb (PSe (m + 11 + 3 * i)) (m + 11 + 3 * i) (m + 11 + 3 * i + 3) (bm_setR B387 (m + 9) 0 (some ((m + 11 + 3 * 0)))) := fun i hi => stb_setR (F394 i hi) (oq_94 hn391 hi) (oq_95 hi)
    have t395_4 : ∀ i, i < 0 → stb (PMe (m + 47 + 39 * i)) (m + 47 + 39 * i) (m + 47 + 39 * i + 39) (bm_setR B387 (m + 9) 0 (some ((m + 11 + 3 * 0)))) := fun i hi => stb_setR (t390_5 i hi) (oq_96 hn391 hi) (oq_97 hi)
    have t395_5 : ∀ i, i < 0 → bm_AR (bm_setR B387 (m + 9) 0 (some ((m + 11 + 3 * 0)))) ((m + 10)) i = some (m + 47 + 39 * i) := fun i hi => (if_neg (fun q => absurd q.1 oq_98)).trans (t390_6 i hi)
    have hn396 : bm_n (bm_setR B387 (m + 9) 0 (some ((m + 11 + 3 * 0)))) = (m + 11 + 3 * 1) := hn391
    have sl397 : bm_sl (bm_setR B387 (m + 9) 0 (some ((m + 11 + 3 * 0)))) = bm_sl B0 + 97 := sl392
    have f0398 : fr0 B0 (bm_setR B387 (m + 9) 0 (some ((m + 11 + 3 * 0)))) := fr0_setR f0393 (oq_99 hm)
    have R399 : ∀ i, i < 1 → bm_AR (bm_setR B387 (m + 9) 0 (some ((m + 11 + 3 * 0)))) ((m + 9)) i = some (m + 11 + 3 * i) := ars_step (f := fun i => m + 11 + 3 * i) t390_4
    refine g_inc (y := 1) (pc' := 98) cd_De_init rfl l1 (by decide) (by decide) rfl (fun lv el => ?_)
    have l0 := tm_lk el l0 rfl (by decide)
    have l1 : lv.lookup 1 = some (.int 1) := tm_lks el
    clear el
    refine g_pure (pc' := 73) (st' := []) cd_De_init rfl rfl (fun _ _ => rfl) ?_
    refine g_ild (pc' := 74) cd_De_init rfl (Or.inr ⟨_, rfl, rfl, rfl⟩) l1 rfl ?_
    refine g_ald (pc' := 75) cd_De_init rfl (Or.inr ⟨_, rfl, rfl, rfl⟩) l0 rfl rfl ?_
    refine g_fR (c := 0) (k := 4) (x := (m + 9)) (pc' := 78) cd_De_init rfl rfl rfl rfl rfl (by decide) f389_0 g389_0 r389_4 ?_
    refine g_al (x := 12) (pc' := 79) cd_De_init rfl rfl f389_7 (by rw [show bm_K (bm_setR B387 (m + 9) 0 (some ((m + 11 + 3 * 0)))) (m + 9) = 18 from g389_7]; decide) (by rw [show bm_K (bm_setR B387 (m + 9) 0 (some ((m + 11 + 3 * 0)))) (m + 9) = 18 from g389_7]; decide) (by rw [show bm_AL (bm_setR B387 (m + 9) 0 (some ((m + 11 + 3 * 0)))) (m + 9) = 12 from w389_4]; rfl) ?_
    refine g_if2 (t := 101) (pc' := 82) cd_De_init rfl rfl rfl (fun c79 => ?_) (fun c79 => ?_)
    · exact absurd (show (12 : Int32) ≤ 1 from c79) (by decide)
    · have c79 : ¬ (12 : Int32) ≤ 1 := c79
      refine g_ald (pc' := 83) cd_De_init rfl (Or.inr ⟨_, rfl, rfl, rfl⟩) l0 rfl rfl ?_
      refine g_fR (c := 0) (k := 4) (x := (m + 9)) (pc' := 86) cd_De_init rfl rfl rfl rfl rfl (by decide) f389_0 g389_0 r389_4 ?_
      refine g_ild (pc' := 87) cd_De_init rfl (Or.inr ⟨_, rfl, rfl, rfl⟩) l1 rfl ?_
      refine n_obj 11 hn396 cd_De_init rfl rfl rfl rfl (by decide) rfl (fun B400 h400 => ?_)
      have hf401 := fr0_f h400.1
      have f402_0 := fr_lt hf401 f389_0
      have g402_0 := (fr_K hf401 f389_0).trans g389_0
      have f402_1 := fr_lt hf401 f389_1
      have g402_1 := (fr_K hf401 f389_1).trans g389_1
      have f402_2 := fr_lt hf401 f389_2
      have g402_2 := (fr_K hf401 f389_2).trans g389_2
      have f402_3 := fr_lt hf401 f389_3
      have g402_3 := (fr_K hf401 f389_3).trans g389_3
      have f402_4 := fr_lt hf401 f389_4
      have g402_4 := (fr_K hf401 f389_4).trans g389_4
      have f402_5 := fr_lt hf401 f389_5
      have g402_5 := (fr_K hf401 f389_5).trans g389_5
      have f402_6 := fr_lt hf401 f389_6
      have g402_6 := (fr_K hf401 f389_6).trans g389_6
      have f402_7 := fr_lt hf401 f389_7
      have g402_7 := (fr_K hf401 f389_7).trans g389_7
      have f402_8 := fr_lt hf401 f389_8
      have g402_8 := (fr_K hf401 f389_8).trans g389_8
      have f402_9 := fr_lt hf401 h387.2.2.2.1
      have g402_9 := (fr_K hf401 h387.2.2.2.1).trans h387.2.2.2.2
      have r402_0 : bm_FR B400 0 0 m = some (m + 1) := (fr_FR hf401 f389_0 (fun q => q) 0 0).trans r389_0
      have r402_1 : bm_FR B400 0 1 m = some (m + 6) := (fr_FR hf401 f389_0 (fun q => q) 0 1).trans r389_1
      have r402_2 : bm_FR B400 0 2 m = some (m + 7) := (fr_FR hf401 f389_0 (fun q => q) 0 2).trans r389_2
      have r402_3 : bm_FR B400 0 3 m = some (m + 8) := (fr_FR hf401 f389_0 (fun q => q) 0 3).trans r389_3
      have r402_4 : bm_FR B400 0 4 m = some (m + 9) := (fr_FR hf401 f389_0 (fun q => q) 0 4).trans r389_4
      have r402_5 : bm_FR B400 0 5 m = some (m + 10) := (fr_FR hf401 f389_0 (fun q => q) 0 5).trans r389_5
      have u402_0 : bm_AI B400 (m + 6) = (fun _ => 0) := (fr_AI hf401 f389_4 (fun q => q)).trans u389_0
      have u402_1 : bm_AI B400 (m + 7) = (fun _ => 0) := (fr_AI hf401 f389_5 (fun q => q)).trans u389_1
      have u402_2 : bm_AI B400 (m + 8) = (fun _ => 0) := (fr_AI hf401 f389_6 (fun q => q)).trans u389_2
      have w402_0 : bm_AL B400 (m + 1) = 2 := (fr_AL hf401 f389_1).trans w389_0
      have w402_1 : bm_AL B400 (m + 6) = 4 := (fr_AL hf401 f389_4).trans w389_1
      have w402_2 : bm_AL B400 (m + 7) = 4 := (fr_AL hf401 f389_5).trans w389_2
      have w402_3 : bm_AL B400 (m + 8) = 6 := (fr_AL hf401 f389_6).trans w389_3
      have w402_4 : bm_AL B400 (m + 9) = 12 := (fr_AL hf401 f389_7).trans w389_4
      have w402_5 : bm_AL B400 (m + 10) = 4 := (fr_AL hf401 f389_8).trans w389_5
      have t403_0 : ∀ c k, bm_FI B400 c k m = 0 := fun c k => (fr_FI (fr0_f h400.1) f389_0 (fun q => q) c k).trans (t395_0 c k)
      have t403_1 : ∀ i, i < 2 → stb (PPk (m + 2 + 2 * i)) (m + 2 + 2 * i) (m + 2 + 2 * i + 2) B400 := fun i hi => stb_fr0 (t395_1 i hi) h400.1 (oq_91 hn396 hi)
      have t403_2 : ∀ i, i < 2 → bm_AR B400 ((m + 1)) i = some (m + 2 + 2 * i) := fun i hi => (congrFun (fr_AR (fr0_f h400.1) f389_1 (fun q => q)) i).trans (t395_2 i hi)
      have t403_3 : ∀ i, i < 1 → stb (PSe (m + 11 + 3 * i)) (m + 11 + 3 * i) (m + 11 + 3 * i + 3) B400 := fun i hi => stb_fr0 (t395_3 i hi) h400.1 (oq_94 hn396 hi)
      have t403_4 : ∀ i, i < 0 → stb (PMe (m + 47 + 39 * i)) (m + 47 + 39 * i) (m + 47 + 39 * i + 39) B400 := fun i hi => stb_fr0 (t395_4 i hi) h400.1 (oq_96 hn396 hi)
      have t403_5 : ∀ i, i < 0 → bm_AR B400 ((m + 10)) i = some (m + 47 + 39 * i) := fun i hi => (congrFun (fr_AR (fr0_f h400.1) f389_8 (fun q => q)) i).trans (t395_5 i hi)
      have t403_6 : ∀ i, i < 1 → bm_AR B400 ((m + 9)) i = some (m + 11 + 3 * i) := fun i hi => (congrFun (fr_AR (fr0_f h400.1) f389_7 (fun q => q)) i).trans (R399 i hi)
      refine g_pure (pc' := 91) (st' := [.ref ((m + 11 + 3 * 1)), .ref ((m + 11 + 3 * 1)), .int 1, .ref ((m + 9))]) cd_De_init rfl rfl (fun _ _ => rfl) ?_
      refine g_callv (pc' := 94) cd_De_init rfl rfl rfl rfl rfl (tm_invI rfl rfl cd_Se_init rfl (Nat.le_of_ble_eq_true rfl)) (i_Se hn396 h400 (fun B404 h404 => ?_))
      have hf405 := fr0_f h404.1
      have f406_0 := fr_lt hf405 f389_0
      have g406_0 := (fr_K hf405 f389_0).trans g389_0
      have f406_1 := fr_lt hf405 f389_1
      have g406_1 := (fr_K hf405 f389_1).trans g389_1
      have f406_2 := fr_lt hf405 f389_2
      have g406_2 := (fr_K hf405 f389_2).trans g389_2
      have f406_3 := fr_lt hf405 f389_3
      have g406_3 := (fr_K hf405 f389_3).trans g389_3
      have f406_4 := fr_lt hf405 f389_4
      have g406_4 := (fr_K hf405 f389_4).trans g389_4
      have f406_5 := fr_lt hf405 f389_5
      have g406_5 := (fr_K hf405 f389_5).trans g389_5
      have f406_6 := fr_lt hf405 f389_6
      have g406_6 := (fr_K hf405 f389_6).trans g389_6
      have f406_7 := fr_lt hf405 f389_7
      have g406_7 := (fr_K hf405 f389_7).trans g389_7
      have f406_8 := fr_lt hf405 f389_8
      have g406_8 := (fr_K hf405 f389_8).trans g389_8
      have f406_9 := fr_lt hf405 h387.2.2.2.1
      have g406_9 := (fr_K hf405 h387.2.2.2.1).trans h387.2.2.2.2
      have r406_0 : bm_FR B404 0 0 m = some (m + 1) := (fr_FR hf405 f389_0 (fun q => q) 0 0).trans r389_0
      have r406_1 : bm_FR B404 0 1 m = some (m + 6) := (fr_FR hf405 f389_0 (fun q => q) 0 1).trans r389_1
      have r406_2 : bm_FR B404 0 2 m = some (m + 7) := (fr_FR hf405 f389_0 (fun q => q) 0 2).trans r389_2
      have r406_3 : bm_FR B404 0 3 m = some (m + 8) := (fr_FR hf405 f389_0 (fun q => q) 0 3).trans r389_3
      have r406_4 : bm_FR B404 0 4 m = some (m + 9) := (fr_FR hf405 f389_0 (fun q => q) 0 4).trans r389_4
      have r406_5 : bm_FR B404 0 5 m = some (m + 10) := (fr_FR hf405 f389_0 (fun q => q) 0 5).trans r389_5
      have u406_0 : bm_AI B404 (m + 6) = (fun _ => 0) := (fr_AI hf405 f389_4 (fun q => q)).trans u389_0
      have u406_1 : bm_AI B404 (m + 7) = (fun _ => 0) := (fr_AI hf405 f389_5 (fun q => q)).trans u389_1
      have u406_2 : bm_AI B404 (m + 8) = (fun _ => 0) := (fr_AI hf405 f389_6 (fun q => q)).trans u389_2
      have w406_0 : bm_AL B404 (m + 1) = 2 := (fr_AL hf405 f389_1).trans w389_0
      have w406_1 : bm_AL B404 (m + 6) = 4 := (fr_AL hf405 f389_4).trans w389_1
      have w406_2 : bm_AL B404 (m + 7) = 4 := (fr_AL hf405 f389_5).trans w389_2
      have w406_3 : bm_AL B404 (m + 8) = 6 := (fr_AL hf405 f389_6).trans w389_3
      have w406_4 : bm_AL B404 (m + 9) = 12 := (fr_AL hf405 f389_7).trans w389_4
      have w406_5 : bm_AL B404 (m + 10) = 4 := (fr_AL hf405 f389_8).trans w389_5
      have t407_0 : ∀ c k, bm_FI B404 c k m = 0 := fun c k => (fr_FI (fr0_f h404.1) f389_0 (fun q => q) c k).trans (t395_0 c k)
      have t407_1 : ∀ i, i < 2 → stb (PPk (m + 2 + 2 * i)) (m + 2 + 2 * i) (m + 2 + 2 * i + 2) B404 := fun i hi => stb_fr0 (t395_1 i hi) h404.1 (oq_91 hn396 hi)
      have t407_2 : ∀ i, i < 2 → bm_AR B404 ((m + 1)) i = some (m + 2 + 2 * i) := fun i hi => (congrFun (fr_AR (fr0_f h404.1) f389_1 (fun q => q)) i).trans (t395_2 i hi)
      have t407_3 : ∀ i, i < 1 → stb (PSe (m + 11 + 3 * i)) (m + 11 + 3 * i) (m + 11 + 3 * i + 3) B404 := fun i hi => stb_fr0 (t395_3 i hi) h404.1 (oq_94 hn396 hi)
      have t407_4 : ∀ i, i < 0 → stb (PMe (m + 47 + 39 * i)) (m + 47 + 39 * i) (m + 47 + 39 * i + 39) B404 := fun i hi => stb_fr0 (t395_4 i hi) h404.1 (oq_96 hn396 hi)
      have t407_5 : ∀ i, i < 0 → bm_AR B404 ((m + 10)) i = some (m + 47 + 39 * i) := fun i hi => (congrFun (fr_AR (fr0_f h404.1) f389_8 (fun q => q)) i).trans (t395_5 i hi)
      have t407_6 : ∀ i, i < 1 → bm_AR B404 ((m + 9)) i = some (m + 11 + 3 * i) := fun i hi => (congrFun (fr_AR (fr0_f h404.1) f389_7 (fun q => q)) i).trans (R399 i hi)
      have hn408 : bm_n B404 = (m + 11 + 3 * 2) := (oq_100 h404.2.1.1)
      have sl409 : bm_sl B404 = bm_sl B0 + 137 := by rw [h404.2.1.2, sl397]
      have f0410 : fr0 B0 B404 := fr0_trans f0398 h404.1
      have F411 : ∀ i, i < 2 → stb (PSe (m + 11 + 3 * i)) (m + 11 + 3 * i) (m + 11 + 3 * i + 3) B404 := al_step (P := fun i => stb (PSe (m + 11 + 3 * i)) (m + 11 + 3 * i) (m + 11 + 3 * i + 3) B404) t407_3 h404.2.2.1
      show bm_G _ _ _ 94 _ [.ref ((m + 11 + 3 * 1)), .int 1, .ref ((m + 9))] B404 _
      refine g_aast (t := 5) (pc' := 95) cd_De_init rfl rfl f406_7 g406_7 (by decide) rfl rfl h404.2.2.2.1 h404.2.2.2.2 (by rw [show bm_AL B404 (m + 9) = 12 from w406_4]; exact vp_in_nI (n := 1) (by decide) (by decide)) ?_
      rw [show (1 : Int32).toNatClampNeg = 1 from by decide]
      have t412_0 : ∀ c k, bm_FI (bm_setR B404 (m + 9) 1 (some ((m + 11 + 3 * 1)))) c k m = 0 := t407_0
      have t412_1 : ∀ i, i < 2 → stb (PPk (m + 2 + 2 * i)) (m + 2 + 2 * i) (m + 2 + 2 * i + 2) (bm_setR B404 (m + 9) 1 (some ((m + 11 + 3 * 1)))) := fun i hi => stb_setR (t407_1 i hi) (oq_101 hn408 hi) (oq_92 hi)
      have t412_2 : ∀ i, i < 2 → bm_AR (bm_setR B404 (m + 9) 1 (some ((m + 11 + 3 * 1)))) ((m + 1)) i = some (m + 2 + 2 * i) := fun i hi => (if_neg (fun q => absurd q.1 oq_93)).trans (t407_2 i hi)
      have t412_3 : ∀ i, i < 2 → stb (PSe (m + 11 + 3 * i)) (m + 11 + 3 * i) (m + 11 + 3 * i + 3) (bm_setR B404 (m + 9) 1 (some ((m + 11 + 3 * 1)))) := fun i hi => stb_setR (F411 i hi) (oq_102 hn408 hi) (oq_103 hi)
      have t412_4 : ∀ i, i < 0 → stb (PMe (m + 47 + 39 * i)) (m + 47 + 39 * i) (m + 47 + 39 * i + 39) (bm_setR B404 (m + 9) 1 (some ((m + 11 + 3 * 1)))) := fun i hi => stb_setR (t407_4 i hi) (oq_104 hn408 hi) (oq_97 hi)
      have t412_5 : ∀ i, i < 0 → bm_AR (bm_setR B404 (m + 9) 1 (some ((m + 11 + 3 * 1)))) ((m + 10)) i = some (m + 47 + 39 * i) := fun i hi => (if_neg (fun q => absurd q.1 oq_98)).trans (t407_5 i hi)
      have hn413 : bm_n (bm_setR B404 (m + 9) 1 (some ((m + 11 + 3 * 1)))) = (m + 11 + 3 * 2) := hn408
      have sl414 : bm_sl (bm_setR B404 (m + 9) 1 (some ((m + 11 + 3 * 1)))) = bm_sl B0 + 137 := sl409
      have f0415 : fr0 B0 (bm_setR B404 (m + 9) 1 (some ((m + 11 + 3 * 1)))) := fr0_setR f0410 (oq_99 hm)
      have R416 : ∀ i, i < 2 → bm_AR (bm_setR B404 (m + 9) 1 (some ((m + 11 + 3 * 1)))) ((m + 9)) i = some (m + 11 + 3 * i) := ars_step (f := fun i => m + 11 + 3 * i) t407_6
      refine g_inc (y := 2) (pc' := 98) cd_De_init rfl l1 (by decide) (by decide) rfl (fun lv el => ?_)
      have l0 := tm_lk el l0 rfl (by decide)
      have l1 : lv.lookup 1 = some (.int 2) := tm_lks el
      clear el
      refine g_pure (pc' := 73) (st' := []) cd_De_init rfl rfl (fun _ _ => rfl) ?_
      refine g_ild (pc' := 74) cd_De_init rfl (Or.inr ⟨_, rfl, rfl, rfl⟩) l1 rfl ?_
      refine g_ald (pc' := 75) cd_De_init rfl (Or.inr ⟨_, rfl, rfl, rfl⟩) l0 rfl rfl ?_
      refine g_fR (c := 0) (k := 4) (x := (m + 9)) (pc' := 78) cd_De_init rfl rfl rfl rfl rfl (by decide) f406_0 g406_0 r406_4 ?_
      refine g_al (x := 12) (pc' := 79) cd_De_init rfl rfl f406_7 (by rw [show bm_K (bm_setR B404 (m + 9) 1 (some ((m + 11 + 3 * 1)))) (m + 9) = 18 from g406_7]; decide) (by rw [show bm_K (bm_setR B404 (m + 9) 1 (some ((m + 11 + 3 * 1)))) (m + 9) = 18 from g406_7]; decide) (by rw [show bm_AL (bm_setR B404 (m + 9) 1 (some ((m + 11 + 3 * 1)))) (m + 9) = 12 from w406_4]; rfl) ?_
      refine g_if2 (t := 101) (pc' := 82) cd_De_init rfl rfl rfl (fun c79 => ?_) (fun c79 => ?_)
      · exact absurd (show (12 : Int32) ≤ 2 from c79) (by decide)
      · have c79 : ¬ (12 : Int32) ≤ 2 := c79
        refine g_ald (pc' := 83) cd_De_init rfl (Or.inr ⟨_, rfl, rfl, rfl⟩) l0 rfl rfl ?_
        refine g_fR (c := 0) (k := 4) (x := (m + 9)) (pc' := 86) cd_De_init rfl rfl rfl rfl rfl (by decide) f406_0 g406_0 r406_4 ?_
        refine g_ild (pc' := 87) cd_De_init rfl (Or.inr ⟨_, rfl, rfl, rfl⟩) l1 rfl ?_
        refine n_obj 11 hn413 cd_De_init rfl rfl rfl rfl (by decide) rfl (fun B417 h417 => ?_)
        have hf418 := fr0_f h417.1
        have f419_0 := fr_lt hf418 f406_0
        have g419_0 := (fr_K hf418 f406_0).trans g406_0
        have f419_1 := fr_lt hf418 f406_1
        have g419_1 := (fr_K hf418 f406_1).trans g406_1
        have f419_2 := fr_lt hf418 f406_2
        have g419_2 := (fr_K hf418 f406_2).trans g406_2
        have f419_3 := fr_lt hf418 f406_3
        have g419_3 := (fr_K hf418 f406_3).trans g406_3
        have f419_4 := fr_lt hf418 f406_4
        have g419_4 := (fr_K hf418 f406_4).trans g406_4
        have f419_5 := fr_lt hf418 f406_5
        have g419_5 := (fr_K hf418 f406_5).trans g406_5
        have f419_6 := fr_lt hf418 f406_6
        have g419_6 := (fr_K hf418 f406_6).trans g406_6
        have f419_7 := fr_lt hf418 f406_7
        have g419_7 := (fr_K hf418 f406_7).trans g406_7
        have f419_8 := fr_lt hf418 f406_8
        have g419_8 := (fr_K hf418 f406_8).trans g406_8
        have f419_9 := fr_lt hf418 f406_9
        have g419_9 := (fr_K hf418 f406_9).trans g406_9
        have f419_10 := fr_lt hf418 h404.2.2.2.1
        have g419_10 := (fr_K hf418 h404.2.2.2.1).trans h404.2.2.2.2
        have r419_0 : bm_FR B417 0 0 m = some (m + 1) := (fr_FR hf418 f406_0 (fun q => q) 0 0).trans r406_0
        have r419_1 : bm_FR B417 0 1 m = some (m + 6) := (fr_FR hf418 f406_0 (fun q => q) 0 1).trans r406_1
        have r419_2 : bm_FR B417 0 2 m = some (m + 7) := (fr_FR hf418 f406_0 (fun q => q) 0 2).trans r406_2
        have r419_3 : bm_FR B417 0 3 m = some (m + 8) := (fr_FR hf418 f406_0 (fun q => q) 0 3).trans r406_3
        have r419_4 : bm_FR B417 0 4 m = some (m + 9) := (fr_FR hf418 f406_0 (fun q => q) 0 4).trans r406_4
        have r419_5 : bm_FR B417 0 5 m = some (m + 10) := (fr_FR hf418 f406_0 (fun q => q) 0 5).trans r406_5
        have u419_0 : bm_AI B417 (m + 6) = (fun _ => 0) := (fr_AI hf418 f406_4 (fun q => q)).trans u406_0
        have u419_1 : bm_AI B417 (m + 7) = (fun _ => 0) := (fr_AI hf418 f406_5 (fun q => q)).trans u406_1
        have u419_2 : bm_AI B417 (m + 8) = (fun _ => 0) := (fr_AI hf418 f406_6 (fun q => q)).trans u406_2
        have w419_0 : bm_AL B417 (m + 1) = 2 := (fr_AL hf418 f406_1).trans w406_0
        have w419_1 : bm_AL B417 (m + 6) = 4 := (fr_AL hf418 f406_4).trans w406_1
        have w419_2 : bm_AL B417 (m + 7) = 4 := (fr_AL hf418 f406_5).trans w406_2
        have w419_3 : bm_AL B417 (m + 8) = 6 := (fr_AL hf418 f406_6).trans w406_3
        have w419_4 : bm_AL B417 (m + 9) = 12 := (fr_AL hf418 f406_7).trans w406_4
        have w419_5 : bm_AL B417 (m + 10) = 4 := (fr_AL hf418 f406_8).trans w406_5
        have t420_0 : ∀ c k, bm_FI B417 c k m = 0 := fun c k => (fr_FI (fr0_f h417.1) f406_0 (fun q => q) c k).trans (t412_0 c k)
        have t420_1 : ∀ i, i < 2 → stb (PPk (m + 2 + 2 * i)) (m + 2 + 2 * i) (m + 2 + 2 * i + 2) B417 := fun i hi => stb_fr0 (t412_1 i hi) h417.1 (oq_101 hn413 hi)
        have t420_2 : ∀ i, i < 2 → bm_AR B417 ((m + 1)) i = some (m + 2 + 2 * i) := fun i hi => (congrFun (fr_AR (fr0_f h417.1) f406_1 (fun q => q)) i).trans (t412_2 i hi)
        have t420_3 : ∀ i, i < 2 → stb (PSe (m + 11 + 3 * i)) (m + 11 + 3 * i) (m + 11 + 3 * i + 3) B417 := fun i hi => stb_fr0 (t412_3 i hi) h417.1 (oq_102 hn413 hi)
        have t420_4 : ∀ i, i < 0 → stb (PMe (m + 47 + 39 * i)) (m + 47 + 39 * i) (m + 47 + 39 * i + 39) B417 := fun i hi => stb_fr0 (t412_4 i hi) h417.1 (oq_104 hn413 hi)
        have t420_5 : ∀ i, i < 0 → bm_AR B417 ((m + 10)) i = some (m + 47 + 39 * i) := fun i hi => (congrFun (fr_AR (fr0_f h417.1) f406_8 (fun q => q)) i).trans (t412_5 i hi)
        have t420_6 : ∀ i, i < 2 → bm_AR B417 ((m + 9)) i = some (m + 11 + 3 * i) := fun i hi => (congrFun (fr_AR (fr0_f h417.1) f406_7 (fun q => q)) i).trans (R416 i hi)
        refine g_pure (pc' := 91) (st' := [.ref ((m + 11 + 3 * 2)), .ref ((m + 11 + 3 * 2)), .int 2, .ref ((m + 9))]) cd_De_init rfl rfl (fun _ _ => rfl) ?_
        refine g_callv (pc' := 94) cd_De_init rfl rfl rfl rfl rfl (tm_invI rfl rfl cd_Se_init rfl (Nat.le_of_ble_eq_true rfl)) (i_Se hn413 h417 (fun B421 h421 => ?_))
        have hf422 := fr0_f h421.1
        have f423_0 := fr_lt hf422 f406_0
        have g423_0 := (fr_K hf422 f406_0).trans g406_0
        have f423_1 := fr_lt hf422 f406_1
        have g423_1 := (fr_K hf422 f406_1).trans g406_1
        have f423_2 := fr_lt hf422 f406_2
        have g423_2 := (fr_K hf422 f406_2).trans g406_2
        have f423_3 := fr_lt hf422 f406_3
        have g423_3 := (fr_K hf422 f406_3).trans g406_3
        have f423_4 := fr_lt hf422 f406_4
        have g423_4 := (fr_K hf422 f406_4).trans g406_4
        have f423_5 := fr_lt hf422 f406_5
        have g423_5 := (fr_K hf422 f406_5).trans g406_5
        have f423_6 := fr_lt hf422 f406_6
        have g423_6 := (fr_K hf422 f406_6).trans g406_6
        have f423_7 := fr_lt hf422 f406_7
        have g423_7 := (fr_K hf422 f406_7).trans g406_7
        have f423_8 := fr_lt hf422 f406_8
        have g423_8 := (fr_K hf422 f406_8).trans g406_8
        have f423_9 := fr_lt hf422 f406_9
        have g423_9 := (fr_K hf422 f406_9).trans g406_9
        have f423_10 := fr_lt hf422 h404.2.2.2.1
        have g423_10 := (fr_K hf422 h404.2.2.2.1).trans h404.2.2.2.2
        have r423_0 : bm_FR B421 0 0 m = some (m + 1) := (fr_FR hf422 f406_0 (fun q => q) 0 0).trans r406_0
        have r423_1 : bm_FR B421 0 1 m = some (m + 6) := (fr_FR hf422 f406_0 (fun q => q) 0 1).trans r406_1
        have r423_2 : bm_FR B421 0 2 m = some (m + 7) := (fr_FR hf422 f406_0 (fun q => q) 0 2).trans r406_2
        have r423_3 : bm_FR B421 0 3 m = some (m + 8) := (fr_FR hf422 f406_0 (fun q => q) 0 3).trans r406_3
        have r423_4 : bm_FR B421 0 4 m = some (m + 9) := (fr_FR hf422 f406_0 (fun q => q) 0 4).trans r406_4
        have r423_5 : bm_FR B421 0 5 m = some (m + 10) := (fr_FR hf422 f406_0 (fun q => q) 0 5).trans r406_5
        have u423_0 : bm_AI B421 (m + 6) = (fun _ => 0) := (fr_AI hf422 f406_4 (fun q => q)).trans u406_0
        have u423_1 : bm_AI B421 (m + 7) = (fun _ => 0) := (fr_AI hf422 f406_5 (fun q => q)).trans u406_1
        have u423_2 : bm_AI B421 (m + 8) = (fun _ => 0) := (fr_AI hf422 f406_6 (fun q => q)).trans u406_2
        have w423_0 : bm_AL B421 (m + 1) = 2 := (fr_AL hf422 f406_1).trans w406_0
        have w423_1 : bm_AL B421 (m + 6) = 4 := (fr_AL hf422 f406_4).trans w406_1
        have w423_2 : bm_AL B421 (m + 7) = 4 := (fr_AL hf422 f406_5).trans w406_2
        have w423_3 : bm_AL B421 (m + 8) = 6 := (fr_AL hf422 f406_6).trans w406_3
        have w423_4 : bm_AL B421 (m + 9) = 12 := (fr_AL hf422 f406_7).trans w406_4
        have w423_5 : bm_AL B421 (m + 10) = 4 := (fr_AL hf422 f406_8).trans w406_5
        have t424_0 : ∀ c k, bm_FI B421 c k m = 0 := fun c k => (fr_FI (fr0_f h421.1) f406_0 (fun q => q) c k).trans (t412_0 c k)
        have t424_1 : ∀ i, i < 2 → stb (PPk (m + 2 + 2 * i)) (m + 2 + 2 * i) (m + 2 + 2 * i + 2) B421 := fun i hi => stb_fr0 (t412_1 i hi) h421.1 (oq_101 hn413 hi)
        have t424_2 : ∀ i, i < 2 → bm_AR B421 ((m + 1)) i = some (m + 2 + 2 * i) := fun i hi => (congrFun (fr_AR (fr0_f h421.1) f406_1 (fun q => q)) i).trans (t412_2 i hi)
        have t424_3 : ∀ i, i < 2 → stb (PSe (m + 11 + 3 * i)) (m + 11 + 3 * i) (m + 11 + 3 * i + 3) B421 := fun i hi => stb_fr0 (t412_3 i hi) h421.1 (oq_102 hn413 hi)
        have t424_4 : ∀ i, i < 0 → stb (PMe (m + 47 + 39 * i)) (m + 47 + 39 * i) (m + 47 + 39 * i + 39) B421 := fun i hi => stb_fr0 (t412_4 i hi) h421.1 (oq_104 hn413 hi)
        have t424_5 : ∀ i, i < 0 → bm_AR B421 ((m + 10)) i = some (m + 47 + 39 * i) := fun i hi => (congrFun (fr_AR (fr0_f h421.1) f406_8 (fun q => q)) i).trans (t412_5 i hi)
        have t424_6 : ∀ i, i < 2 → bm_AR B421 ((m + 9)) i = some (m + 11 + 3 * i) := fun i hi => (congrFun (fr_AR (fr0_f h421.1) f406_7 (fun q => q)) i).trans (R416 i hi)
        have hn425 : bm_n B421 = (m + 11 + 3 * 3) := (oq_105 h421.2.1.1)
        have sl426 : bm_sl B421 = bm_sl B0 + 177 := by rw [h421.2.1.2, sl414]
        have f0427 : fr0 B0 B421 := fr0_trans f0415 h421.1
        have F428 : ∀ i, i < 3 → stb (PSe (m + 11 + 3 * i)) (m + 11 + 3 * i) (m + 11 + 3 * i + 3) B421 := al_step (P := fun i => stb (PSe (m + 11 + 3 * i)) (m + 11 + 3 * i) (m + 11 + 3 * i + 3) B421) t424_3 h421.2.2.1
        show bm_G _ _ _ 94 _ [.ref ((m + 11 + 3 * 2)), .int 2, .ref ((m + 9))] B421 _
        refine g_aast (t := 5) (pc' := 95) cd_De_init rfl rfl f423_7 g423_7 (by decide) rfl rfl h421.2.2.2.1 h421.2.2.2.2 (by rw [show bm_AL B421 (m + 9) = 12 from w423_4]; exact vp_in_nI (n := 2) (by decide) (by decide)) ?_
        rw [show (2 : Int32).toNatClampNeg = 2 from by decide]
        have t429_0 : ∀ c k, bm_FI (bm_setR B421 (m + 9) 2 (some ((m + 11 + 3 * 2)))) c k m = 0 := t424_0
        have t429_1 : ∀ i, i < 2 → stb (PPk (m + 2 + 2 * i)) (m + 2 + 2 * i) (m + 2 + 2 * i + 2) (bm_setR B421 (m + 9) 2 (some ((m + 11 + 3 * 2)))) := fun i hi => stb_setR (t424_1 i hi) (oq_106 hn425 hi) (oq_92 hi)
        have t429_2 : ∀ i, i < 2 → bm_AR (bm_setR B421 (m + 9) 2 (some ((m + 11 + 3 * 2)))) ((m + 1)) i = some (m + 2 + 2 * i) := fun i hi => (if_neg (fun q => absurd q.1 oq_93)).trans (t424_2 i hi)
        have t429_3 : ∀ i, i < 3 → stb (PSe (m + 11 + 3 * i)) (m + 11 + 3 * i) (m + 11 + 3 * i + 3) (bm_setR B421 (m + 9) 2 (some ((m + 11 + 3 * 2)))) := fun i hi => stb_setR (F428 i hi) (oq_107 hn425 hi) (oq_108 hi)
        have t429_4 : ∀ i, i < 0 → stb (PMe (m + 47 + 39 * i)) (m + 47 + 39 * i) (m + 47 + 39 * i + 39) (bm_setR B421 (m + 9) 2 (some ((m + 11 + 3 * 2)))) := fun i hi => stb_setR (t424_4 i hi) (oq_109 hn425 hi) (oq_97 hi)
        have t429_5 : ∀ i, i < 0 → bm_AR (bm_setR B421 (m + 9) 2 (some ((m + 11 + 3 * 2)))) ((m + 10)) i = some (m + 47 + 39 * i) := fun i hi => (if_neg (fun q => absurd q.1 oq_98)).trans (t424_5 i hi)
        have hn430 : bm_n (bm_setR B421 (m + 9) 2 (some ((m + 11 + 3 * 2)))) = (m + 11 + 3 * 3) := hn425
        have sl431 : bm_sl (bm_setR B421 (m + 9) 2 (some ((m + 11 + 3 * 2)))) = bm_sl B0 + 177 := sl426
        have f0432 : fr0 B0 (bm_setR B421 (m + 9) 2 (some ((m + 11 + 3 * 2)))) := fr0_setR f0427 (oq_99 hm)
        have R433 : ∀ i, i < 3 → bm_AR (bm_setR B421 (m + 9) 2 (some ((m + 11 + 3 * 2)))) ((m + 9)) i = some (m + 11 + 3 * i) := ars_step (f := fun i => m + 11 + 3 * i) t424_6
        refine g_inc (y := 3) (pc' := 98) cd_De_init rfl l1 (by decide) (by decide) rfl (fun lv el => ?_)
        have l0 := tm_lk el l0 rfl (by decide)
        have l1 : lv.lookup 1 = some (.int 3) := tm_lks el
        clear el
        refine g_pure (pc' := 73) (st' := []) cd_De_init rfl rfl (fun _ _ => rfl) ?_
        refine g_ild (pc' := 74) cd_De_init rfl (Or.inr ⟨_, rfl, rfl, rfl⟩) l1 rfl ?_
        refine g_ald (pc' := 75) cd_De_init rfl (Or.inr ⟨_, rfl, rfl, rfl⟩) l0 rfl rfl ?_
        refine g_fR (c := 0) (k := 4) (x := (m + 9)) (pc' := 78) cd_De_init rfl rfl rfl rfl rfl (by decide) f423_0 g423_0 r423_4 ?_
        refine g_al (x := 12) (pc' := 79) cd_De_init rfl rfl f423_7 (by rw [show bm_K (bm_setR B421 (m + 9) 2 (some ((m + 11 + 3 * 2)))) (m + 9) = 18 from g423_7]; decide) (by rw [show bm_K (bm_setR B421 (m + 9) 2 (some ((m + 11 + 3 * 2)))) (m + 9) = 18 from g423_7]; decide) (by rw [show bm_AL (bm_setR B421 (m + 9) 2 (some ((m + 11 + 3 * 2)))) (m + 9) = 12 from w423_4]; rfl) ?_
        refine g_if2 (t := 101) (pc' := 82) cd_De_init rfl rfl rfl (fun c79 => ?_) (fun c79 => ?_)
        · exact absurd (show (12 : Int32) ≤ 3 from c79) (by decide)
        · have c79 : ¬ (12 : Int32) ≤ 3 := c79
          refine g_ald (pc' := 83) cd_De_init rfl (Or.inr ⟨_, rfl, rfl, rfl⟩) l0 rfl rfl ?_
          refine g_fR (c := 0) (k := 4) (x := (m + 9)) (pc' := 86) cd_De_init rfl rfl rfl rfl rfl (by decide) f423_0 g423_0 r423_4 ?_
          refine g_ild (pc' := 87) cd_De_init rfl (Or.inr ⟨_, rfl, rfl, rfl⟩) l1 rfl ?_
          refine n_obj 11 hn430 cd_De_init rfl rfl rfl rfl (by decide) rfl (fun B434 h434 => ?_)
          have hf435 := fr0_f h434.1
          have f436_0 := fr_lt hf435 f423_0
          have g436_0 := (fr_K hf435 f423_0).trans g423_0
          have f436_1 := fr_lt hf435 f423_1
          have g436_1 := (fr_K hf435 f423_1).trans g423_1
          have f436_2 := fr_lt hf435 f423_2
          have g436_2 := (fr_K hf435 f423_2).trans g423_2
          have f436_3 := fr_lt hf435 f423_3
          have g436_3 := (fr_K hf435 f423_3).trans g423_3
          have f436_4 := fr_lt hf435 f423_4
          have g436_4 := (fr_K hf435 f423_4).trans g423_4
          have f436_5 := fr_lt hf435 f423_5
          have g436_5 := (fr_K hf435 f423_5).trans g423_5
          have f436_6 := fr_lt hf435 f423_6
          have g436_6 := (fr_K hf435 f423_6).trans g423_6
          have f436_7 := fr_lt hf435 f423_7
          have g436_7 := (fr_K hf435 f423_7).trans g423_7
          have f436_8 := fr_lt hf435 f423_8
          have g436_8 := (fr_K hf435 f423_8).trans g423_8
          have f436_9 := fr_lt hf435 f423_9
          have g436_9 := (fr_K hf435 f423_9).trans g423_9
          have f436_10 := fr_lt hf435 f423_10
          have g436_10 := (fr_K hf435 f423_10).trans g423_10
          have f436_11 := fr_lt hf435 h421.2.2.2.1
          have g436_11 := (fr_K hf435 h421.2.2.2.1).trans h421.2.2.2.2
          have r436_0 : bm_FR B434 0 0 m = some (m + 1) := (fr_FR hf435 f423_0 (fun q => q) 0 0).trans r423_0
          have r436_1 : bm_FR B434 0 1 m = some (m + 6) := (fr_FR hf435 f423_0 (fun q => q) 0 1).trans r423_1
          have r436_2 : bm_FR B434 0 2 m = some (m + 7) := (fr_FR hf435 f423_0 (fun q => q) 0 2).trans r423_2
          have r436_3 : bm_FR B434 0 3 m = some (m + 8) := (fr_FR hf435 f423_0 (fun q => q) 0 3).trans r423_3
          have r436_4 : bm_FR B434 0 4 m = some (m + 9) := (fr_FR hf435 f423_0 (fun q => q) 0 4).trans r423_4
          have r436_5 : bm_FR B434 0 5 m = some (m + 10) := (fr_FR hf435 f423_0 (fun q => q) 0 5).trans r423_5
          have u436_0 : bm_AI B434 (m + 6) = (fun _ => 0) := (fr_AI hf435 f423_4 (fun q => q)).trans u423_0
          have u436_1 : bm_AI B434 (m + 7) = (fun _ => 0) := (fr_AI hf435 f423_5 (fun q => q)).trans u423_1
          have u436_2 : bm_AI B434 (m + 8) = (fun _ => 0) := (fr_AI hf435 f423_6 (fun q => q)).trans u423_2
          have w436_0 : bm_AL B434 (m + 1) = 2 := (fr_AL hf435 f423_1).trans w423_0
          have w436_1 : bm_AL B434 (m + 6) = 4 := (fr_AL hf435 f423_4).trans w423_1
          have w436_2 : bm_AL B434 (m + 7) = 4 := (fr_AL hf435 f423_5).trans w423_2
          have w436_3 : bm_AL B434 (m + 8) = 6 := (fr_AL hf435 f423_6).trans w423_3
          have w436_4 : bm_AL B434 (m + 9) = 12 := (fr_AL hf435 f423_7).trans w423_4
          have w436_5 : bm_AL B434 (m + 10) = 4 := (fr_AL hf435 f423_8).trans w423_5
          have t437_0 : ∀ c k, bm_FI B434 c k m = 0 := fun c k => (fr_FI (fr0_f h434.1) f423_0 (fun q => q) c k).trans (t429_0 c k)
          have t437_1 : ∀ i, i < 2 → stb (PPk (m + 2 + 2 * i)) (m + 2 + 2 * i) (m + 2 + 2 * i + 2) B434 := fun i hi => stb_fr0 (t429_1 i hi) h434.1 (oq_106 hn430 hi)
          have t437_2 : ∀ i, i < 2 → bm_AR B434 ((m + 1)) i = some (m + 2 + 2 * i) := fun i hi => (congrFun (fr_AR (fr0_f h434.1) f423_1 (fun q => q)) i).trans (t429_2 i hi)
          have t437_3 : ∀ i, i < 3 → stb (PSe (m + 11 + 3 * i)) (m + 11 + 3 * i) (m + 11 + 3 * i + 3) B434 := fun i hi => stb_fr0 (t429_3 i hi) h434.1 (oq_107 hn430 hi)
          have t437_4 : ∀ i, i < 0 → stb (PMe (m + 47 + 39 * i)) (m + 47 + 39 * i) (m + 47 + 39 * i + 39) B434 := fun i hi => stb_fr0 (t429_4 i hi) h434.1 (oq_109 hn430 hi)
          have t437_5 : ∀ i, i < 0 → bm_AR B434 ((m + 10)) i = some (m + 47 + 39 * i) := fun i hi => (congrFun (fr_AR (fr0_f h434.1) f423_8 (fun q => q)) i).trans (t429_5 i hi)
          have t437_6 : ∀ i, i < 3 → bm_AR B434 ((m + 9)) i = some (m + 11 + 3 * i) := fun i hi => (congrFun (fr_AR (fr0_f h434.1) f423_7 (fun q => q)) i).trans (R433 i hi)
          refine g_pure (pc' := 91) (st' := [.ref ((m + 11 + 3 * 3)), .ref ((m + 11 + 3 * 3)), .int 3, .ref ((m + 9))]) cd_De_init rfl rfl (fun _ _ => rfl) ?_
          refine g_callv (pc' := 94) cd_De_init rfl rfl rfl rfl rfl (tm_invI rfl rfl cd_Se_init rfl (Nat.le_of_ble_eq_true rfl)) (i_Se hn430 h434 (fun B438 h438 => ?_))
          have hf439 := fr0_f h438.1
          have f440_0 := fr_lt hf439 f423_0
          have g440_0 := (fr_K hf439 f423_0).trans g423_0
          have f440_1 := fr_lt hf439 f423_1
          have g440_1 := (fr_K hf439 f423_1).trans g423_1
          have f440_2 := fr_lt hf439 f423_2
          have g440_2 := (fr_K hf439 f423_2).trans g423_2
          have f440_3 := fr_lt hf439 f423_3
          have g440_3 := (fr_K hf439 f423_3).trans g423_3
          have f440_4 := fr_lt hf439 f423_4
          have g440_4 := (fr_K hf439 f423_4).trans g423_4
          have f440_5 := fr_lt hf439 f423_5
          have g440_5 := (fr_K hf439 f423_5).trans g423_5
          have f440_6 := fr_lt hf439 f423_6
          have g440_6 := (fr_K hf439 f423_6).trans g423_6
          have f440_7 := fr_lt hf439 f423_7
          have g440_7 := (fr_K hf439 f423_7).trans g423_7
          have f440_8 := fr_lt hf439 f423_8
          have g440_8 := (fr_K hf439 f423_8).trans g423_8
          have f440_9 := fr_lt hf439 f423_9
          have g440_9 := (fr_K hf439 f423_9).trans g423_9
          have f440_10 := fr_lt hf439 f423_10
          have g440_10 := (fr_K hf439 f423_10).trans g423_10
          have f440_11 := fr_lt hf439 h421.2.2.2.1
          have g440_11 := (fr_K hf439 h421.2.2.2.1).trans h421.2.2.2.2
          have r440_0 : bm_FR B438 0 0 m = some (m + 1) := (fr_FR hf439 f423_0 (fun q => q) 0 0).trans r423_0
          have r440_1 : bm_FR B438 0 1 m = some (m + 6) := (fr_FR hf439 f423_0 (fun q => q) 0 1).trans r423_1
          have r440_2 : bm_FR B438 0 2 m = some (m + 7) := (fr_FR hf439 f423_0 (fun q => q) 0 2).trans r423_2
          have r440_3 : bm_FR B438 0 3 m = some (m + 8) := (fr_FR hf439 f423_0 (fun q => q) 0 3).trans r423_3
          have r440_4 : bm_FR B438 0 4 m = some (m + 9) := (fr_FR hf439 f423_0 (fun q => q) 0 4).trans r423_4
          have r440_5 : bm_FR B438 0 5 m = some (m + 10) := (fr_FR hf439 f423_0 (fun q => q) 0 5).trans r423_5
          have u440_0 : bm_AI B438 (m + 6) = (fun _ => 0) := (fr_AI hf439 f423_4 (fun q => q)).trans u423_0
          have u440_1 : bm_AI B438 (m + 7) = (fun _ => 0) := (fr_AI hf439 f423_5 (fun q => q)).trans u423_1
          have u440_2 : bm_AI B438 (m + 8) = (fun _ => 0) := (fr_AI hf439 f423_6 (fun q => q)).trans u423_2
          have w440_0 : bm_AL B438 (m + 1) = 2 := (fr_AL hf439 f423_1).trans w423_0
          have w440_1 : bm_AL B438 (m + 6) = 4 := (fr_AL hf439 f423_4).trans w423_1
          have w440_2 : bm_AL B438 (m + 7) = 4 := (fr_AL hf439 f423_5).trans w423_2
          have w440_3 : bm_AL B438 (m + 8) = 6 := (fr_AL hf439 f423_6).trans w423_3
          have w440_4 : bm_AL B438 (m + 9) = 12 := (fr_AL hf439 f423_7).trans w423_4
          have w440_5 : bm_AL B438 (m + 10) = 4 := (fr_AL hf439 f423_8).trans w423_5
          have t441_0 : ∀ c k, bm_FI B438 c k m = 0 := fun c k => (fr_FI (fr0_f h438.1) f423_0 (fun q => q) c k).trans (t429_0 c k)
          have t441_1 : ∀ i, i < 2 → stb (PPk (m + 2 + 2 * i)) (m + 2 + 2 * i) (m + 2 + 2 * i + 2) B438 := fun i hi => stb_fr0 (t429_1 i hi) h438.1 (oq_106 hn430 hi)
          have t441_2 : ∀ i, i < 2 → bm_AR B438 ((m + 1)) i = some (m + 2 + 2 * i) := fun i hi => (congrFun (fr_AR (fr0_f h438.1) f423_1 (fun q => q)) i).trans (t429_2 i hi)
          have t441_3 : ∀ i, i < 3 → stb (PSe (m + 11 + 3 * i)) (m + 11 + 3 * i) (m + 11 + 3 * i + 3) B438 := fun i hi => stb_fr0 (t429_3 i hi) h438.1 (oq_107 hn430 hi)
          have t441_4 : ∀ i, i < 0 → stb (PMe (m + 47 + 39 * i)) (m + 47 + 39 * i) (m + 47 + 39 * i + 39) B438 := fun i hi => stb_fr0 (t429_4 i hi) h438.1 (oq_109 hn430 hi)
          have t441_5 : ∀ i, i < 0 → bm_AR B438 ((m + 10)) i = some (m + 47 + 39 * i) := fun i hi => (congrFun (fr_AR (fr0_f h438.1) f423_8 (fun q => q)) i).trans (t429_5 i hi)
          have t441_6 : ∀ i, i < 3 → bm_AR B438 ((m + 9)) i = some (m + 11 + 3 * i) := fun i hi => (congrFun (fr_AR (fr0_f h438.1) f423_7 (fun q => q)) i).trans (R433 i hi)
          have hn442 : bm_n B438 = (m + 11 + 3 * 4) := (oq_110 h438.2.1.1)
          have sl443 : bm_sl B438 = bm_sl B0 + 217 := by rw [h438.2.1.2, sl431]
          have f0444 : fr0 B0 B438 := fr0_trans f0432 h438.1
          have F445 : ∀ i, i < 4 → stb (PSe (m + 11 + 3 * i)) (m + 11 + 3 * i) (m + 11 + 3 * i + 3) B438 := al_step (P := fun i => stb (PSe (m + 11 + 3 * i)) (m + 11 + 3 * i) (m + 11 + 3 * i + 3) B438) t441_3 h438.2.2.1
          show bm_G _ _ _ 94 _ [.ref ((m + 11 + 3 * 3)), .int 3, .ref ((m + 9))] B438 _
          refine g_aast (t := 5) (pc' := 95) cd_De_init rfl rfl f440_7 g440_7 (by decide) rfl rfl h438.2.2.2.1 h438.2.2.2.2 (by rw [show bm_AL B438 (m + 9) = 12 from w440_4]; exact vp_in_nI (n := 3) (by decide) (by decide)) ?_
          rw [show (3 : Int32).toNatClampNeg = 3 from by decide]
          have t446_0 : ∀ c k, bm_FI (bm_setR B438 (m + 9) 3 (some ((m + 11 + 3 * 3)))) c k m = 0 := t441_0
          have t446_1 : ∀ i, i < 2 → stb (PPk (m + 2 + 2 * i)) (m + 2 + 2 * i) (m + 2 + 2 * i + 2) (bm_setR B438 (m + 9) 3 (some ((m + 11 + 3 * 3)))) := fun i hi => stb_setR (t441_1 i hi) (oq_111 hn442 hi) (oq_92 hi)
          have t446_2 : ∀ i, i < 2 → bm_AR (bm_setR B438 (m + 9) 3 (some ((m + 11 + 3 * 3)))) ((m + 1)) i = some (m + 2 + 2 * i) := fun i hi => (if_neg (fun q => absurd q.1 oq_93)).trans (t441_2 i hi)
          have t446_3 : ∀ i, i < 4 → stb (PSe (m + 11 + 3 * i)) (m + 11 + 3 * i) (m + 11 + 3 * i + 3) (bm_setR B438 (m + 9) 3 (some ((m + 11 + 3 * 3)))) := fun i hi => stb_setR (F445 i hi) (oq_112 hn442 hi) (oq_113 hi)
          have t446_4 : ∀ i, i < 0 → stb (PMe (m + 47 + 39 * i)) (m + 47 + 39 * i) (m + 47 + 39 * i + 39) (bm_setR B438 (m + 9) 3 (some ((m + 11 + 3 * 3)))) := fun i hi => stb_setR (t441_4 i hi) (oq_114 hn442 hi) (oq_97 hi)
          have t446_5 : ∀ i, i < 0 → bm_AR (bm_setR B438 (m + 9) 3 (some ((m + 11 + 3 * 3)))) ((m + 10)) i = some (m + 47 + 39 * i) := fun i hi => (if_neg (fun q => absurd q.1 oq_98)).trans (t441_5 i hi)
          have hn447 : bm_n (bm_setR B438 (m + 9) 3 (some ((m + 11 + 3 * 3)))) = (m + 11 + 3 * 4) := hn442
          have sl448 : bm_sl (bm_setR B438 (m + 9) 3 (some ((m + 11 + 3 * 3)))) = bm_sl B0 + 217 := sl443
          have f0449 : fr0 B0 (bm_setR B438 (m + 9) 3 (some ((m + 11 + 3 * 3)))) := fr0_setR f0444 (oq_99 hm)
          have R450 : ∀ i, i < 4 → bm_AR (bm_setR B438 (m + 9) 3 (some ((m + 11 + 3 * 3)))) ((m + 9)) i = some (m + 11 + 3 * i) := ars_step (f := fun i => m + 11 + 3 * i) t441_6
          refine g_inc (y := 4) (pc' := 98) cd_De_init rfl l1 (by decide) (by decide) rfl (fun lv el => ?_)
          have l0 := tm_lk el l0 rfl (by decide)
          have l1 : lv.lookup 1 = some (.int 4) := tm_lks el
          clear el
          refine g_pure (pc' := 73) (st' := []) cd_De_init rfl rfl (fun _ _ => rfl) ?_
          refine g_ild (pc' := 74) cd_De_init rfl (Or.inr ⟨_, rfl, rfl, rfl⟩) l1 rfl ?_
          refine g_ald (pc' := 75) cd_De_init rfl (Or.inr ⟨_, rfl, rfl, rfl⟩) l0 rfl rfl ?_
          refine g_fR (c := 0) (k := 4) (x := (m + 9)) (pc' := 78) cd_De_init rfl rfl rfl rfl rfl (by decide) f440_0 g440_0 r440_4 ?_
          refine g_al (x := 12) (pc' := 79) cd_De_init rfl rfl f440_7 (by rw [show bm_K (bm_setR B438 (m + 9) 3 (some ((m + 11 + 3 * 3)))) (m + 9) = 18 from g440_7]; decide) (by rw [show bm_K (bm_setR B438 (m + 9) 3 (some ((m + 11 + 3 * 3)))) (m + 9) = 18 from g440_7]; decide) (by rw [show bm_AL (bm_setR B438 (m + 9) 3 (some ((m + 11 + 3 * 3)))) (m + 9) = 12 from w440_4]; rfl) ?_
          refine g_if2 (t := 101) (pc' := 82) cd_De_init rfl rfl rfl (fun c79 => ?_) (fun c79 => ?_)
          · exact absurd (show (12 : Int32) ≤ 4 from c79) (by decide)
          · have c79 : ¬ (12 : Int32) ≤ 4 := c79
            refine g_ald (pc' := 83) cd_De_init rfl (Or.inr ⟨_, rfl, rfl, rfl⟩) l0 rfl rfl ?_
            refine g_fR (c := 0) (k := 4) (x := (m + 9)) (pc' := 86) cd_De_init rfl rfl rfl rfl rfl (by decide) f440_0 g440_0 r440_4 ?_
            refine g_ild (pc' := 87) cd_De_init rfl (Or.inr ⟨_, rfl, rfl, rfl⟩) l1 rfl ?_
            refine n_obj 11 hn447 cd_De_init rfl rfl rfl rfl (by decide) rfl (fun B451 h451 => ?_)
            have hf452 := fr0_f h451.1
            have f453_0 := fr_lt hf452 f440_0
            have g453_0 := (fr_K hf452 f440_0).trans g440_0
            have f453_1 := fr_lt hf452 f440_1
            have g453_1 := (fr_K hf452 f440_1).trans g440_1
            have f453_2 := fr_lt hf452 f440_2
            have g453_2 := (fr_K hf452 f440_2).trans g440_2
            have f453_3 := fr_lt hf452 f440_3
            have g453_3 := (fr_K hf452 f440_3).trans g440_3
            have f453_4 := fr_lt hf452 f440_4
            have g453_4 := (fr_K hf452 f440_4).trans g440_4
            have f453_5 := fr_lt hf452 f440_5
            have g453_5 := (fr_K hf452 f440_5).trans g440_5
            have f453_6 := fr_lt hf452 f440_6
            have g453_6 := (fr_K hf452 f440_6).trans g440_6
            have f453_7 := fr_lt hf452 f440_7
            have g453_7 := (fr_K hf452 f440_7).trans g440_7
            have f453_8 := fr_lt hf452 f440_8
            have g453_8 := (fr_K hf452 f440_8).trans g440_8
            have f453_9 := fr_lt hf452 f440_9
            have g453_9 := (fr_K hf452 f440_9).trans g440_9
            have f453_10 := fr_lt hf452 f440_10
            have g453_10 := (fr_K hf452 f440_10).trans g440_10
            have f453_11 := fr_lt hf452 f440_11
            have g453_11 := (fr_K hf452 f440_11).trans g440_11
            have f453_12 := fr_lt hf452 h438.2.2.2.1
            have g453_12 := (fr_K hf452 h438.2.2.2.1).trans h438.2.2.2.2
            have r453_0 : bm_FR B451 0 0 m = some (m + 1) := (fr_FR hf452 f440_0 (fun q => q) 0 0).trans r440_0
            have r453_1 : bm_FR B451 0 1 m = some (m + 6) := (fr_FR hf452 f440_0 (fun q => q) 0 1).trans r440_1
            have r453_2 : bm_FR B451 0 2 m = some (m + 7) := (fr_FR hf452 f440_0 (fun q => q) 0 2).trans r440_2
            have r453_3 : bm_FR B451 0 3 m = some (m + 8) := (fr_FR hf452 f440_0 (fun q => q) 0 3).trans r440_3
            have r453_4 : bm_FR B451 0 4 m = some (m + 9) := (fr_FR hf452 f440_0 (fun q => q) 0 4).trans r440_4
            have r453_5 : bm_FR B451 0 5 m = some (m + 10) := (fr_FR hf452 f440_0 (fun q => q) 0 5).trans r440_5
            have u453_0 : bm_AI B451 (m + 6) = (fun _ => 0) := (fr_AI hf452 f440_4 (fun q => q)).trans u440_0
            have u453_1 : bm_AI B451 (m + 7) = (fun _ => 0) := (fr_AI hf452 f440_5 (fun q => q)).trans u440_1
            have u453_2 : bm_AI B451 (m + 8) = (fun _ => 0) := (fr_AI hf452 f440_6 (fun q => q)).trans u440_2
            have w453_0 : bm_AL B451 (m + 1) = 2 := (fr_AL hf452 f440_1).trans w440_0
            have w453_1 : bm_AL B451 (m + 6) = 4 := (fr_AL hf452 f440_4).trans w440_1
            have w453_2 : bm_AL B451 (m + 7) = 4 := (fr_AL hf452 f440_5).trans w440_2
            have w453_3 : bm_AL B451 (m + 8) = 6 := (fr_AL hf452 f440_6).trans w440_3
            have w453_4 : bm_AL B451 (m + 9) = 12 := (fr_AL hf452 f440_7).trans w440_4
            have w453_5 : bm_AL B451 (m + 10) = 4 := (fr_AL hf452 f440_8).trans w440_5
            have t454_0 : ∀ c k, bm_FI B451 c k m = 0 := fun c k => (fr_FI (fr0_f h451.1) f440_0 (fun q => q) c k).trans (t446_0 c k)
            have t454_1 : ∀ i, i < 2 → stb (PPk (m + 2 + 2 * i)) (m + 2 + 2 * i) (m + 2 + 2 * i + 2) B451 := fun i hi => stb_fr0 (t446_1 i hi) h451.1 (oq_111 hn447 hi)
            have t454_2 : ∀ i, i < 2 → bm_AR B451 ((m + 1)) i = some (m + 2 + 2 * i) := fun i hi => (congrFun (fr_AR (fr0_f h451.1) f440_1 (fun q => q)) i).trans (t446_2 i hi)
            have t454_3 : ∀ i, i < 4 → stb (PSe (m + 11 + 3 * i)) (m + 11 + 3 * i) (m + 11 + 3 * i + 3) B451 := fun i hi => stb_fr0 (t446_3 i hi) h451.1 (oq_112 hn447 hi)
            have t454_4 : ∀ i, i < 0 → stb (PMe (m + 47 + 39 * i)) (m + 47 + 39 * i) (m + 47 + 39 * i + 39) B451 := fun i hi => stb_fr0 (t446_4 i hi) h451.1 (oq_114 hn447 hi)
            have t454_5 : ∀ i, i < 0 → bm_AR B451 ((m + 10)) i = some (m + 47 + 39 * i) := fun i hi => (congrFun (fr_AR (fr0_f h451.1) f440_8 (fun q => q)) i).trans (t446_5 i hi)
            have t454_6 : ∀ i, i < 4 → bm_AR B451 ((m + 9)) i = some (m + 11 + 3 * i) := fun i hi => (congrFun (fr_AR (fr0_f h451.1) f440_7 (fun q => q)) i).trans (R450 i hi)
            refine g_pure (pc' := 91) (st' := [.ref ((m + 11 + 3 * 4)), .ref ((m + 11 + 3 * 4)), .int 4, .ref ((m + 9))]) cd_De_init rfl rfl (fun _ _ => rfl) ?_
            refine g_callv (pc' := 94) cd_De_init rfl rfl rfl rfl rfl (tm_invI rfl rfl cd_Se_init rfl (Nat.le_of_ble_eq_true rfl)) (i_Se hn447 h451 (fun B455 h455 => ?_))
            have hf456 := fr0_f h455.1
            have f457_0 := fr_lt hf456 f440_0
            have g457_0 := (fr_K hf456 f440_0).trans g440_0
            have f457_1 := fr_lt hf456 f440_1
            have g457_1 := (fr_K hf456 f440_1).trans g440_1
            have f457_2 := fr_lt hf456 f440_2
            have g457_2 := (fr_K hf456 f440_2).trans g440_2
            have f457_3 := fr_lt hf456 f440_3
            have g457_3 := (fr_K hf456 f440_3).trans g440_3
            have f457_4 := fr_lt hf456 f440_4
            have g457_4 := (fr_K hf456 f440_4).trans g440_4
            have f457_5 := fr_lt hf456 f440_5
            have g457_5 := (fr_K hf456 f440_5).trans g440_5
            have f457_6 := fr_lt hf456 f440_6
            have g457_6 := (fr_K hf456 f440_6).trans g440_6
            have f457_7 := fr_lt hf456 f440_7
            have g457_7 := (fr_K hf456 f440_7).trans g440_7
            have f457_8 := fr_lt hf456 f440_8
            have g457_8 := (fr_K hf456 f440_8).trans g440_8
            have f457_9 := fr_lt hf456 f440_9
            have g457_9 := (fr_K hf456 f440_9).trans g440_9
            have f457_10 := fr_lt hf456 f440_10
            have g457_10 := (fr_K hf456 f440_10).trans g440_10
            have f457_11 := fr_lt hf456 f440_11
            have g457_11 := (fr_K hf456 f440_11).trans g440_11
            have f457_12 := fr_lt hf456 h438.2.2.2.1
            have g457_12 := (fr_K hf456 h438.2.2.2.1).trans h438.2.2.2.2
            have r457_0 : bm_FR B455 0 0 m = some (m + 1) := (fr_FR hf456 f440_0 (fun q => q) 0 0).trans r440_0
            have r457_1 : bm_FR B455 0 1 m = some (m + 6) := (fr_FR hf456 f440_0 (fun q => q) 0 1).trans r440_1
            have r457_2 : bm_FR B455 0 2 m = some (m + 7) := (fr_FR hf456 f440_0 (fun q => q) 0 2).trans r440_2
            have r457_3 : bm_FR B455 0 3 m = some (m + 8) := (fr_FR hf456 f440_0 (fun q => q) 0 3).trans r440_3
            have r457_4 : bm_FR B455 0 4 m = some (m + 9) := (fr_FR hf456 f440_0 (fun q => q) 0 4).trans r440_4
            have r457_5 : bm_FR B455 0 5 m = some (m + 10) := (fr_FR hf456 f440_0 (fun q => q) 0 5).trans r440_5
            have u457_0 : bm_AI B455 (m + 6) = (fun _ => 0) := (fr_AI hf456 f440_4 (fun q => q)).trans u440_0
            have u457_1 : bm_AI B455 (m + 7) = (fun _ => 0) := (fr_AI hf456 f440_5 (fun q => q)).trans u440_1
            have u457_2 : bm_AI B455 (m + 8) = (fun _ => 0) := (fr_AI hf456 f440_6 (fun q => q)).trans u440_2
            have w457_0 : bm_AL B455 (m + 1) = 2 := (fr_AL hf456 f440_1).trans w440_0
            have w457_1 : bm_AL B455 (m + 6) = 4 := (fr_AL hf456 f440_4).trans w440_1
            have w457_2 : bm_AL B455 (m + 7) = 4 := (fr_AL hf456 f440_5).trans w440_2
            have w457_3 : bm_AL B455 (m + 8) = 6 := (fr_AL hf456 f440_6).trans w440_3
            have w457_4 : bm_AL B455 (m + 9) = 12 := (fr_AL hf456 f440_7).trans w440_4
            have w457_5 : bm_AL B455 (m + 10) = 4 := (fr_AL hf456 f440_8).trans w440_5
            have t458_0 : ∀ c k, bm_FI B455 c k m = 0 := fun c k => (fr_FI (fr0_f h455.1) f440_0 (fun q => q) c k).trans (t446_0 c k)
            have t458_1 : ∀ i, i < 2 → stb (PPk (m + 2 + 2 * i)) (m + 2 + 2 * i) (m + 2 + 2 * i + 2) B455 := fun i hi => stb_fr0 (t446_1 i hi) h455.1 (oq_111 hn447 hi)
            have t458_2 : ∀ i, i < 2 → bm_AR B455 ((m + 1)) i = some (m + 2 + 2 * i) := fun i hi => (congrFun (fr_AR (fr0_f h455.1) f440_1 (fun q => q)) i).trans (t446_2 i hi)
            have t458_3 : ∀ i, i < 4 → stb (PSe (m + 11 + 3 * i)) (m + 11 + 3 * i) (m + 11 + 3 * i + 3) B455 := fun i hi => stb_fr0 (t446_3 i hi) h455.1 (oq_112 hn447 hi)
            have t458_4 : ∀ i, i < 0 → stb (PMe (m + 47 + 39 * i)) (m + 47 + 39 * i) (m + 47 + 39 * i + 39) B455 := fun i hi => stb_fr0 (t446_4 i hi) h455.1 (oq_114 hn447 hi)
            have t458_5 : ∀ i, i < 0 → bm_AR B455 ((m + 10)) i = some (m + 47 + 39 * i) := fun i hi => (congrFun (fr_AR (fr0_f h455.1) f440_8 (fun q => q)) i).trans (t446_5 i hi)
            have t458_6 : ∀ i, i < 4 → bm_AR B455 ((m + 9)) i = some (m + 11 + 3 * i) := fun i hi => (congrFun (fr_AR (fr0_f h455.1) f440_7 (fun q => q)) i).trans (R450 i hi)
            have hn459 : bm_n B455 = (m + 11 + 3 * 5) := (oq_115 h455.2.1.1)
            have sl460 : bm_sl B455 = bm_sl B0 + 257 := by rw [h455.2.1.2, sl448]
            have f0461 : fr0 B0 B455 := fr0_trans f0449 h455.1
            have F462 : ∀ i, i < 5 → stb (PSe (m + 11 + 3 * i)) (m + 11 + 3 * i) (m + 11 + 3 * i + 3) B455 := al_step (P := fun i => stb (PSe (m + 11 + 3 * i)) (m + 11 + 3 * i) (m + 11 + 3 * i + 3) B455) t458_3 h455.2.2.1
            show bm_G _ _ _ 94 _ [.ref ((m + 11 + 3 * 4)), .int 4, .ref ((m + 9))] B455 _
            refine g_aast (t := 5) (pc' := 95) cd_De_init rfl rfl f457_7 g457_7 (by decide) rfl rfl h455.2.2.2.1 h455.2.2.2.2 (by rw [show bm_AL B455 (m + 9) = 12 from w457_4]; exact vp_in_nI (n := 4) (by decide) (by decide)) ?_
            rw [show (4 : Int32).toNatClampNeg = 4 from by decide]
            have t463_0 : ∀ c k, bm_FI (bm_setR B455 (m + 9) 4 (some ((m + 11 + 3 * 4)))) c k m = 0 := t458_0
            have t463_1 : ∀ i, i < 2 → stb (PPk (m + 2 + 2 * i)) (m + 2 + 2 * i) (m + 2 + 2 * i + 2) (bm_setR B455 (m + 9) 4 (some ((m + 11 + 3 * 4)))) := fun i hi => stb_setR (t458_1 i hi) (oq_116 hn459 hi) (oq_92 hi)
            have t463_2 : ∀ i, i < 2 → bm_AR (bm_setR B455 (m + 9) 4 (some ((m + 11 + 3 * 4)))) ((m + 1)) i = some (m + 2 + 2 * i) := fun i hi => (if_neg (fun q => absurd q.1 oq_93)).trans (t458_2 i hi)
            have t463_3 : ∀ i, i < 5 → stb (PSe (m + 11 + 3 * i)) (m + 11 + 3 * i) (m + 11 + 3 * i + 3) (bm_setR B455 (m + 9) 4 (some ((m + 11 + 3 * 4)))) := fun i hi => stb_setR (F462 i hi) (oq_117 hn459 hi) (oq_118 hi)
            have t463_4 : ∀ i, i < 0 → stb (PMe (m + 47 + 39 * i)) (m + 47 + 39 * i) (m + 47 + 39 * i + 39) (bm_setR B455 (m + 9) 4 (some ((m + 11 + 3 * 4)))) := fun i hi => stb_setR (t458_4 i hi) (oq_119 hn459 hi) (oq_97 hi)
            have t463_5 : ∀ i, i < 0 → bm_AR (bm_setR B455 (m + 9) 4 (some ((m + 11 + 3 * 4)))) ((m + 10)) i = some (m + 47 + 39 * i) := fun i hi => (if_neg (fun q => absurd q.1 oq_98)).trans (t458_5 i hi)
            have hn464 : bm_n (bm_setR B455 (m + 9) 4 (some ((m + 11 + 3 * 4)))) = (m + 11 + 3 * 5) := hn459
            have sl465 : bm_sl (bm_setR B455 (m + 9) 4 (some ((m + 11 + 3 * 4)))) = bm_sl B0 + 257 := sl460
            have f0466 : fr0 B0 (bm_setR B455 (m + 9) 4 (some ((m + 11 + 3 * 4)))) := fr0_setR f0461 (oq_99 hm)
            have R467 : ∀ i, i < 5 → bm_AR (bm_setR B455 (m + 9) 4 (some ((m + 11 + 3 * 4)))) ((m + 9)) i = some (m + 11 + 3 * i) := ars_step (f := fun i => m + 11 + 3 * i) t458_6
            refine g_inc (y := 5) (pc' := 98) cd_De_init rfl l1 (by decide) (by decide) rfl (fun lv el => ?_)
            have l0 := tm_lk el l0 rfl (by decide)
            have l1 : lv.lookup 1 = some (.int 5) := tm_lks el
            clear el
            refine g_pure (pc' := 73) (st' := []) cd_De_init rfl rfl (fun _ _ => rfl) ?_
            refine g_ild (pc' := 74) cd_De_init rfl (Or.inr ⟨_, rfl, rfl, rfl⟩) l1 rfl ?_
            refine g_ald (pc' := 75) cd_De_init rfl (Or.inr ⟨_, rfl, rfl, rfl⟩) l0 rfl rfl ?_
            refine g_fR (c := 0) (k := 4) (x := (m + 9)) (pc' := 78) cd_De_init rfl rfl rfl rfl rfl (by decide) f457_0 g457_0 r457_4 ?_
            refine g_al (x := 12) (pc' := 79) cd_De_init rfl rfl f457_7 (by rw [show bm_K (bm_setR B455 (m + 9) 4 (some ((m + 11 + 3 * 4)))) (m + 9) = 18 from g457_7]; decide) (by rw [show bm_K (bm_setR B455 (m + 9) 4 (some ((m + 11 + 3 * 4)))) (m + 9) = 18 from g457_7]; decide) (by rw [show bm_AL (bm_setR B455 (m + 9) 4 (some ((m + 11 + 3 * 4)))) (m + 9) = 12 from w457_4]; rfl) ?_
            refine g_if2 (t := 101) (pc' := 82) cd_De_init rfl rfl rfl (fun c79 => ?_) (fun c79 => ?_)
            · exact absurd (show (12 : Int32) ≤ 5 from c79) (by decide)
            · have c79 : ¬ (12 : Int32) ≤ 5 := c79
              refine g_ald (pc' := 83) cd_De_init rfl (Or.inr ⟨_, rfl, rfl, rfl⟩) l0 rfl rfl ?_
              refine g_fR (c := 0) (k := 4) (x := (m + 9)) (pc' := 86) cd_De_init rfl rfl rfl rfl rfl (by decide) f457_0 g457_0 r457_4 ?_
              refine g_ild (pc' := 87) cd_De_init rfl (Or.inr ⟨_, rfl, rfl, rfl⟩) l1 rfl ?_
              refine n_obj 11 hn464 cd_De_init rfl rfl rfl rfl (by decide) rfl (fun B468 h468 => ?_)
              have hf469 := fr0_f h468.1
              have f470_0 := fr_lt hf469 f457_0
              have g470_0 := (fr_K hf469 f457_0).trans g457_0
              have f470_1 := fr_lt hf469 f457_1
              have g470_1 := (fr_K hf469 f457_1).trans g457_1
              have f470_2 := fr_lt hf469 f457_2
              have g470_2 := (fr_K hf469 f457_2).trans g457_2
              have f470_3 := fr_lt hf469 f457_3
              have g470_3 := (fr_K hf469 f457_3).trans g457_3
              have f470_4 := fr_lt hf469 f457_4
              have g470_4 := (fr_K hf469 f457_4).trans g457_4
              have f470_5 := fr_lt hf469 f457_5
              have g470_5 := (fr_K hf469 f457_5).trans g457_5
              have f470_6 := fr_lt hf469 f457_6
              have g470_6 := (fr_K hf469 f457_6).trans g457_6
              have f470_7 := fr_lt hf469 f457_7
              have g470_7 := (fr_K hf469 f457_7).trans g457_7
              have f470_8 := fr_lt hf469 f457_8
              have g470_8 := (fr_K hf469 f457_8).trans g457_8
              have f470_9 := fr_lt hf469 f457_9
              have g470_9 := (fr_K hf469 f457_9).trans g457_9
              have f470_10 := fr_lt hf469 f457_10
              have g470_10 := (fr_K hf469 f457_10).trans g457_10
              have f470_11 := fr_lt hf469 f457_11
              have g470_11 := (fr_K hf469 f457_11).trans g457_11
              have f470_12 := fr_lt hf469 f457_12
              have g470_12 := (fr_K hf469 f457_12).trans g457_12
              have f470_13 := fr_lt hf469 h455.2.2.2.1
              have g470_13 := (fr_K hf469 h455.2.2.2.1).trans h455.2.2.2.2
              have r470_0 : bm_FR B468 0 0 m = some (m + 1) := (fr_FR hf469 f457_0 (fun q => q) 0 0).trans r457_0
              have r470_1 : bm_FR B468 0 1 m = some (m + 6) := (fr_FR hf469 f457_0 (fun q => q) 0 1).trans r457_1
              have r470_2 : bm_FR B468 0 2 m = some (m + 7) := (fr_FR hf469 f457_0 (fun q => q) 0 2).trans r457_2
              have r470_3 : bm_FR B468 0 3 m = some (m + 8) := (fr_FR hf469 f457_0 (fun q => q) 0 3).trans r457_3
              have r470_4 : bm_FR B468 0 4 m = some (m + 9) := (fr_FR hf469 f457_0 (fun q => q) 0 4).trans r457_4
              have r470_5 : bm_FR B468 0 5 m = some (m + 10) := (fr_FR hf469 f457_0 (fun q => q) 0 5).trans r457_5
              have u470_0 : bm_AI B468 (m + 6) = (fun _ => 0) := (fr_AI hf469 f457_4 (fun q => q)).trans u457_0
              have u470_1 : bm_AI B468 (m + 7) = (fun _ => 0) := (fr_AI hf469 f457_5 (fun q => q)).trans u457_1
              have u470_2 : bm_AI B468 (m + 8) = (fun _ => 0) := (fr_AI hf469 f457_6 (fun q => q)).trans u457_2
              have w470_0 : bm_AL B468 (m + 1) = 2 := (fr_AL hf469 f457_1).trans w457_0
              have w470_1 : bm_AL B468 (m + 6) = 4 := (fr_AL hf469 f457_4).trans w457_1
              have w470_2 : bm_AL B468 (m + 7) = 4 := (fr_AL hf469 f457_5).trans w457_2
              have w470_3 : bm_AL B468 (m + 8) = 6 := (fr_AL hf469 f457_6).trans w457_3
              have w470_4 : bm_AL B468 (m + 9) = 12 := (fr_AL hf469 f457_7).trans w457_4
              have w470_5 : bm_AL B468 (m + 10) = 4 := (fr_AL hf469 f457_8).trans w457_5
              have t471_0 : ∀ c k, bm_FI B468 c k m = 0 := fun c k => (fr_FI (fr0_f h468.1) f457_0 (fun q => q) c k).trans (t463_0 c k)
              have t471_1 : ∀ i, i < 2 → stb (PPk (m + 2 + 2 * i)) (m + 2 + 2 * i) (m + 2 + 2 * i + 2) B468 := fun i hi => stb_fr0 (t463_1 i hi) h468.1 (oq_116 hn464 hi)
              have t471_2 : ∀ i, i < 2 → bm_AR B468 ((m + 1)) i = some (m + 2 + 2 * i) := fun i hi => (congrFun (fr_AR (fr0_f h468.1) f457_1 (fun q => q)) i).trans (t463_2 i hi)
              have t471_3 : ∀ i, i < 5 → stb (PSe (m + 11 + 3 * i)) (m + 11 + 3 * i) (m + 11 + 3 * i + 3) B468 := fun i hi => stb_fr0 (t463_3 i hi) h468.1 (oq_117 hn464 hi)
              have t471_4 : ∀ i, i < 0 → stb (PMe (m + 47 + 39 * i)) (m + 47 + 39 * i) (m + 47 + 39 * i + 39) B468 := fun i hi => stb_fr0 (t463_4 i hi) h468.1 (oq_119 hn464 hi)
              have t471_5 : ∀ i, i < 0 → bm_AR B468 ((m + 10)) i = some (m + 47 + 39 * i) := fun i hi => (congrFun (fr_AR (fr0_f h468.1) f457_8 (fun q => q)) i).trans (t463_5 i hi)
              have t471_6 : ∀ i, i < 5 → bm_AR B468 ((m + 9)) i = some (m + 11 + 3 * i) := fun i hi => (congrFun (fr_AR (fr0_f h468.1) f457_7 (fun q => q)) i).trans (R467 i hi)
              refine g_pure (pc' := 91) (st' := [.ref ((m + 11 + 3 * 5)), .ref ((m + 11 + 3 * 5)), .int 5, .ref ((m + 9))]) cd_De_init rfl rfl (fun _ _ => rfl) ?_
              refine g_callv (pc' := 94) cd_De_init rfl rfl rfl rfl rfl (tm_invI rfl rfl cd_Se_init rfl (Nat.le_of_ble_eq_true rfl)) (i_Se hn464 h468 (fun B472 h472 => ?_))
              have hf473 := fr0_f h472.1
              have f474_0 := fr_lt hf473 f457_0
              have g474_0 := (fr_K hf473 f457_0).trans g457_0
              have f474_1 := fr_lt hf473 f457_1
              have g474_1 := (fr_K hf473 f457_1).trans g457_1
              have f474_2 := fr_lt hf473 f457_2
              have g474_2 := (fr_K hf473 f457_2).trans g457_2
              have f474_3 := fr_lt hf473 f457_3
              have g474_3 := (fr_K hf473 f457_3).trans g457_3
              have f474_4 := fr_lt hf473 f457_4
              have g474_4 := (fr_K hf473 f457_4).trans g457_4
              have f474_5 := fr_lt hf473 f457_5
              have g474_5 := (fr_K hf473 f457_5).trans g457_5
              have f474_6 := fr_lt hf473 f457_6
              have g474_6 := (fr_K hf473 f457_6).trans g457_6
              have f474_7 := fr_lt hf473 f457_7
              have g474_7 := (fr_K hf473 f457_7).trans g457_7
              have f474_8 := fr_lt hf473 f457_8
              have g474_8 := (fr_K hf473 f457_8).trans g457_8
              have f474_9 := fr_lt hf473 f457_9
              have g474_9 := (fr_K hf473 f457_9).trans g457_9
              have f474_10 := fr_lt hf473 f457_10
              have g474_10 := (fr_K hf473 f457_10).trans g457_10
              have f474_11 := fr_lt hf473 f457_11
              have g474_11 := (fr_K hf473 f457_11).trans g457_11
              have f474_12 := fr_lt hf473 f457_12
              have g474_12 := (fr_K hf473 f457_12).trans g457_12
              have f474_13 := fr_lt hf473 h455.2.2.2.1
              have g474_13 := (fr_K hf473 h455.2.2.2.1).trans h455.2.2.2.2
              have r474_0 : bm_FR B472 0 0 m = some (m + 1) := (fr_FR hf473 f457_0 (fun q => q) 0 0).trans r457_0
              have r474_1 : bm_FR B472 0 1 m = some (m + 6) := (fr_FR hf473 f457_0 (fun q => q) 0 1).trans r457_1
              have r474_2 : bm_FR B472 0 2 m = some (m + 7) := (fr_FR hf473 f457_0 (fun q => q) 0 2).trans r457_2
              have r474_3 : bm_FR B472 0 3 m = some (m + 8) := (fr_FR hf473 f457_0 (fun q => q) 0 3).trans r457_3
              have r474_4 : bm_FR B472 0 4 m = some (m + 9) := (fr_FR hf473 f457_0 (fun q => q) 0 4).trans r457_4
              have r474_5 : bm_FR B472 0 5 m = some (m + 10) := (fr_FR hf473 f457_0 (fun q => q) 0 5).trans r457_5
              have u474_0 : bm_AI B472 (m + 6) = (fun _ => 0) := (fr_AI hf473 f457_4 (fun q => q)).trans u457_0
              have u474_1 : bm_AI B472 (m + 7) = (fun _ => 0) := (fr_AI hf473 f457_5 (fun q => q)).trans u457_1
              have u474_2 : bm_AI B472 (m + 8) = (fun _ => 0) := (fr_AI hf473 f457_6 (fun q => q)).trans u457_2
              have w474_0 : bm_AL B472 (m + 1) = 2 := (fr_AL hf473 f457_1).trans w457_0
              have w474_1 : bm_AL B472 (m + 6) = 4 := (fr_AL hf473 f457_4).trans w457_1
              have w474_2 : bm_AL B472 (m + 7) = 4 := (fr_AL hf473 f457_5).trans w457_2
              have w474_3 : bm_AL B472 (m + 8) = 6 := (fr_AL hf473 f457_6).trans w457_3
              have w474_4 : bm_AL B472 (m + 9) = 12 := (fr_AL hf473 f457_7).trans w457_4
              have w474_5 : bm_AL B472 (m + 10) = 4 := (fr_AL hf473 f457_8).trans w457_5
              have t475_0 : ∀ c k, bm_FI B472 c k m = 0 := fun c k => (fr_FI (fr0_f h472.1) f457_0 (fun q => q) c k).trans (t463_0 c k)
              have t475_1 : ∀ i, i < 2 → stb (PPk (m + 2 + 2 * i)) (m + 2 + 2 * i) (m + 2 + 2 * i + 2) B472 := fun i hi => stb_fr0 (t463_1 i hi) h472.1 (oq_116 hn464 hi)
              have t475_2 : ∀ i, i < 2 → bm_AR B472 ((m + 1)) i = some (m + 2 + 2 * i) := fun i hi => (congrFun (fr_AR (fr0_f h472.1) f457_1 (fun q => q)) i).trans (t463_2 i hi)
              have t475_3 : ∀ i, i < 5 → stb (PSe (m + 11 + 3 * i)) (m + 11 + 3 * i) (m + 11 + 3 * i + 3) B472 := fun i hi => stb_fr0 (t463_3 i hi) h472.1 (oq_117 hn464 hi)
              have t475_4 : ∀ i, i < 0 → stb (PMe (m + 47 + 39 * i)) (m + 47 + 39 * i) (m + 47 + 39 * i + 39) B472 := fun i hi => stb_fr0 (t463_4 i hi) h472.1 (oq_119 hn464 hi)
              have t475_5 : ∀ i, i < 0 → bm_AR B472 ((m + 10)) i = some (m + 47 + 39 * i) := fun i hi => (congrFun (fr_AR (fr0_f h472.1) f457_8 (fun q => q)) i).trans (t463_5 i hi)
              have t475_6 : ∀ i, i < 5 → bm_AR B472 ((m + 9)) i = some (m + 11 + 3 * i) := fun i hi => (congrFun (fr_AR (fr0_f h472.1) f457_7 (fun q => q)) i).trans (R467 i hi)
              have hn476 : bm_n B472 = (m + 11 + 3 * 6) := (oq_120 h472.2.1.1)
              have sl477 : bm_sl B472 = bm_sl B0 + 297 := by rw [h472.2.1.2, sl465]
              have f0478 : fr0 B0 B472 := fr0_trans f0466 h472.1
              have F479 : ∀ i, i < 6 → stb (PSe (m + 11 + 3 * i)) (m + 11 + 3 * i) (m + 11 + 3 * i + 3) B472 := al_step (P := fun i => stb (PSe (m + 11 + 3 * i)) (m + 11 + 3 * i) (m + 11 + 3 * i + 3) B472) t475_3 h472.2.2.1
              show bm_G _ _ _ 94 _ [.ref ((m + 11 + 3 * 5)), .int 5, .ref ((m + 9))] B472 _
              refine g_aast (t := 5) (pc' := 95) cd_De_init rfl rfl f474_7 g474_7 (by decide) rfl rfl h472.2.2.2.1 h472.2.2.2.2 (by rw [show bm_AL B472 (m + 9) = 12 from w474_4]; exact vp_in_nI (n := 5) (by decide) (by decide)) ?_
              rw [show (5 : Int32).toNatClampNeg = 5 from by decide]
              have t480_0 : ∀ c k, bm_FI (bm_setR B472 (m + 9) 5 (some ((m + 11 + 3 * 5)))) c k m = 0 := t475_0
              have t480_1 : ∀ i, i < 2 → stb (PPk (m + 2 + 2 * i)) (m + 2 + 2 * i) (m + 2 + 2 * i + 2) (bm_setR B472 (m + 9) 5 (some ((m + 11 + 3 * 5)))) := fun i hi => stb_setR (t475_1 i hi) (oq_121 hn476 hi) (oq_92 hi)
              have t480_2 : ∀ i, i < 2 → bm_AR (bm_setR B472 (m + 9) 5 (some ((m + 11 + 3 * 5)))) ((m + 1)) i = some (m + 2 + 2 * i) := fun i hi => (if_neg (fun q => absurd q.1 oq_93)).trans (t475_2 i hi)
              have t480_3 : ∀ i, i < 6 → stb (PSe (m + 11 + 3 * i)) (m + 11 + 3 * i) (m + 11 + 3 * i + 3) (bm_setR B472 (m + 9) 5 (some ((m + 11 + 3 * 5)))) := fun i hi => stb_setR (F479 i hi) (oq_122 hn476 hi) (oq_123 hi)
              have t480_4 : ∀ i, i < 0 → stb (PMe (m + 47 + 39 * i)) (m + 47 + 39 * i) (m + 47 + 39 * i + 39) (bm_setR B472 (m + 9) 5 (some ((m + 11 + 3 * 5)))) := fun i hi => stb_setR (t475_4 i hi) (oq_124 hn476 hi) (oq_97 hi)
              have t480_5 : ∀ i, i < 0 → bm_AR (bm_setR B472 (m + 9) 5 (some ((m + 11 + 3 * 5)))) ((m + 10)) i = some (m + 47 + 39 * i) := fun i hi => (if_neg (fun q => absurd q.1 oq_98)).trans (t475_5 i hi)
              have hn481 : bm_n (bm_setR B472 (m + 9) 5 (some ((m + 11 + 3 * 5)))) = (m + 11 + 3 * 6) := hn476
              have sl482 : bm_sl (bm_setR B472 (m + 9) 5 (some ((m + 11 + 3 * 5)))) = bm_sl B0 + 297 := sl477
              have f0483 : fr0 B0 (bm_setR B472 (m + 9) 5 (some ((m + 11 + 3 * 5)))) := fr0_setR f0478 (oq_99 hm)
              have R484 : ∀ i, i < 6 → bm_AR (bm_setR B472 (m + 9) 5 (some ((m + 11 + 3 * 5)))) ((m + 9)) i = some (m + 11 + 3 * i) := ars_step (f := fun i => m + 11 + 3 * i) t475_6
              refine g_inc (y := 6) (pc' := 98) cd_De_init rfl l1 (by decide) (by decide) rfl (fun lv el => ?_)
              have l0 := tm_lk el l0 rfl (by decide)
              have l1 : lv.lookup 1 = some (.int 6) := tm_lks el
              clear el
              refine g_pure (pc' := 73) (st' := []) cd_De_init rfl rfl (fun _ _ => rfl) ?_
              refine g_ild (pc' := 74) cd_De_init rfl (Or.inr ⟨_, rfl, rfl, rfl⟩) l1 rfl ?_
              refine g_ald (pc' := 75) cd_De_init rfl (Or.inr ⟨_, rfl, rfl, rfl⟩) l0 rfl rfl ?_
              refine g_fR (c := 0) (k := 4) (x := (m + 9)) (pc' := 78) cd_De_init rfl rfl rfl rfl rfl (by decide) f474_0 g474_0 r474_4 ?_
              refine g_al (x := 12) (pc' := 79) cd_De_init rfl rfl f474_7 (by rw [show bm_K (bm_setR B472 (m + 9) 5 (some ((m + 11 + 3 * 5)))) (m + 9) = 18 from g474_7]; decide) (by rw [show bm_K (bm_setR B472 (m + 9) 5 (some ((m + 11 + 3 * 5)))) (m + 9) = 18 from g474_7]; decide) (by rw [show bm_AL (bm_setR B472 (m + 9) 5 (some ((m + 11 + 3 * 5)))) (m + 9) = 12 from w474_4]; rfl) ?_
              refine g_if2 (t := 101) (pc' := 82) cd_De_init rfl rfl rfl (fun c79 => ?_) (fun c79 => ?_)
              · exact absurd (show (12 : Int32) ≤ 6 from c79) (by decide)
              · have c79 : ¬ (12 : Int32) ≤ 6 := c79
                refine g_ald (pc' := 83) cd_De_init rfl (Or.inr ⟨_, rfl, rfl, rfl⟩) l0 rfl rfl ?_
                refine g_fR (c := 0) (k := 4) (x := (m + 9)) (pc' := 86) cd_De_init rfl rfl rfl rfl rfl (by decide) f474_0 g474_0 r474_4 ?_
                refine g_ild (pc' := 87) cd_De_init rfl (Or.inr ⟨_, rfl, rfl, rfl⟩) l1 rfl ?_
                refine n_obj 11 hn481 cd_De_init rfl rfl rfl rfl (by decide) rfl (fun B485 h485 => ?_)
                have hf486 := fr0_f h485.1
                have f487_0 := fr_lt hf486 f474_0
                have g487_0 := (fr_K hf486 f474_0).trans g474_0
                have f487_1 := fr_lt hf486 f474_1
                have g487_1 := (fr_K hf486 f474_1).trans g474_1
                have f487_2 := fr_lt hf486 f474_2
                have g487_2 := (fr_K hf486 f474_2).trans g474_2
                have f487_3 := fr_lt hf486 f474_3
                have g487_3 := (fr_K hf486 f474_3).trans g474_3
                have f487_4 := fr_lt hf486 f474_4
                have g487_4 := (fr_K hf486 f474_4).trans g474_4
                have f487_5 := fr_lt hf486 f474_5
                have g487_5 := (fr_K hf486 f474_5).trans g474_5
                have f487_6 := fr_lt hf486 f474_6
                have g487_6 := (fr_K hf486 f474_6).trans g474_6
                have f487_7 := fr_lt hf486 f474_7
                have g487_7 := (fr_K hf486 f474_7).trans g474_7
                have f487_8 := fr_lt hf486 f474_8
                have g487_8 := (fr_K hf486 f474_8).trans g474_8
                have f487_9 := fr_lt hf486 f474_9
                have g487_9 := (fr_K hf486 f474_9).trans g474_9
                have f487_10 := fr_lt hf486 f474_10
                have g487_10 := (fr_K hf486 f474_10).trans g474_10
                have f487_11 := fr_lt hf486 f474_11
                have g487_11 := (fr_K hf486 f474_11).trans g474_11
                have f487_12 := fr_lt hf486 f474_12
                have g487_12 := (fr_K hf486 f474_12).trans g474_12
                have f487_13 := fr_lt hf486 f474_13
                have g487_13 := (fr_K hf486 f474_13).trans g474_13
                have f487_14 := fr_lt hf486 h472.2.2.2.1
                have g487_14 := (fr_K hf486 h472.2.2.2.1).trans h472.2.2.2.2
                have r487_0 : bm_FR B485 0 0 m = some (m + 1) := (fr_FR hf486 f474_0 (fun q => q) 0 0).trans r474_0
                have r487_1 : bm_FR B485 0 1 m = some (m + 6) := (fr_FR hf486 f474_0 (fun q => q) 0 1).trans r474_1
                have r487_2 : bm_FR B485 0 2 m = some (m + 7) := (fr_FR hf486 f474_0 (fun q => q) 0 2).trans r474_2
                have r487_3 : bm_FR B485 0 3 m = some (m + 8) := (fr_FR hf486 f474_0 (fun q => q) 0 3).trans r474_3
                have r487_4 : bm_FR B485 0 4 m = some (m + 9) := (fr_FR hf486 f474_0 (fun q => q) 0 4).trans r474_4
                have r487_5 : bm_FR B485 0 5 m = some (m + 10) := (fr_FR hf486 f474_0 (fun q => q) 0 5).trans r474_5
                have u487_0 : bm_AI B485 (m + 6) = (fun _ => 0) := (fr_AI hf486 f474_4 (fun q => q)).trans u474_0
                have u487_1 : bm_AI B485 (m + 7) = (fun _ => 0) := (fr_AI hf486 f474_5 (fun q => q)).trans u474_1
                have u487_2 : bm_AI B485 (m + 8) = (fun _ => 0) := (fr_AI hf486 f474_6 (fun q => q)).trans u474_2
                have w487_0 : bm_AL B485 (m + 1) = 2 := (fr_AL hf486 f474_1).trans w474_0
                have w487_1 : bm_AL B485 (m + 6) = 4 := (fr_AL hf486 f474_4).trans w474_1
                have w487_2 : bm_AL B485 (m + 7) = 4 := (fr_AL hf486 f474_5).trans w474_2
                have w487_3 : bm_AL B485 (m + 8) = 6 := (fr_AL hf486 f474_6).trans w474_3
                have w487_4 : bm_AL B485 (m + 9) = 12 := (fr_AL hf486 f474_7).trans w474_4
                have w487_5 : bm_AL B485 (m + 10) = 4 := (fr_AL hf486 f474_8).trans w474_5
                have t488_0 : ∀ c k, bm_FI B485 c k m = 0 := fun c k => (fr_FI (fr0_f h485.1) f474_0 (fun q => q) c k).trans (t480_0 c k)
                have t488_1 : ∀ i, i < 2 → stb (PPk (m + 2 + 2 * i)) (m + 2 + 2 * i) (m + 2 + 2 * i + 2) B485 := fun i hi => stb_fr0 (t480_1 i hi) h485.1 (oq_121 hn481 hi)
                have t488_2 : ∀ i, i < 2 → bm_AR B485 ((m + 1)) i = some (m + 2 + 2 * i) := fun i hi => (congrFun (fr_AR (fr0_f h485.1) f474_1 (fun q => q)) i).trans (t480_2 i hi)
                have t488_3 : ∀ i, i < 6 → stb (PSe (m + 11 + 3 * i)) (m + 11 + 3 * i) (m + 11 + 3 * i + 3) B485 := fun i hi => stb_fr0 (t480_3 i hi) h485.1 (oq_122 hn481 hi)
                have t488_4 : ∀ i, i < 0 → stb (PMe (m + 47 + 39 * i)) (m + 47 + 39 * i) (m + 47 + 39 * i + 39) B485 := fun i hi => stb_fr0 (t480_4 i hi) h485.1 (oq_124 hn481 hi)
                have t488_5 : ∀ i, i < 0 → bm_AR B485 ((m + 10)) i = some (m + 47 + 39 * i) := fun i hi => (congrFun (fr_AR (fr0_f h485.1) f474_8 (fun q => q)) i).trans (t480_5 i hi)
                have t488_6 : ∀ i, i < 6 → bm_AR B485 ((m + 9)) i = some (m + 11 + 3 * i) := fun i hi => (congrFun (fr_AR (fr0_f h485.1) f474_7 (fun q => q)) i).trans (R484 i hi)
                refine g_pure (pc' := 91) (st' := [.ref ((m + 11 + 3 * 6)), .ref ((m + 11 + 3 * 6)), .int 6, .ref ((m + 9))]) cd_De_init rfl rfl (fun _ _ => rfl) ?_
                refine g_callv (pc' := 94) cd_De_init rfl rfl rfl rfl rfl (tm_invI rfl rfl cd_Se_init rfl (Nat.le_of_ble_eq_true rfl)) (i_Se hn481 h485 (fun B489 h489 => ?_))
                have hf490 := fr0_f h489.1
                have f491_0 := fr_lt hf490 f474_0
                have g491_0 := (fr_K hf490 f474_0).trans g474_0
                have f491_1 := fr_lt hf490 f474_1
                have g491_1 := (fr_K hf490 f474_1).trans g474_1
                have f491_2 := fr_lt hf490 f474_2
                have g491_2 := (fr_K hf490 f474_2).trans g474_2
                have f491_3 := fr_lt hf490 f474_3
                have g491_3 := (fr_K hf490 f474_3).trans g474_3
                have f491_4 := fr_lt hf490 f474_4
                have g491_4 := (fr_K hf490 f474_4).trans g474_4
                have f491_5 := fr_lt hf490 f474_5
                have g491_5 := (fr_K hf490 f474_5).trans g474_5
                have f491_6 := fr_lt hf490 f474_6
                have g491_6 := (fr_K hf490 f474_6).trans g474_6
                have f491_7 := fr_lt hf490 f474_7
                have g491_7 := (fr_K hf490 f474_7).trans g474_7
                have f491_8 := fr_lt hf490 f474_8
                have g491_8 := (fr_K hf490 f474_8).trans g474_8
                have f491_9 := fr_lt hf490 f474_9
                have g491_9 := (fr_K hf490 f474_9).trans g474_9
                have f491_10 := fr_lt hf490 f474_10
                have g491_10 := (fr_K hf490 f474_10).trans g474_10
                have f491_11 := fr_lt hf490 f474_11
                have g491_11 := (fr_K hf490 f474_11).trans g474_11
                have f491_12 := fr_lt hf490 f474_12
                have g491_12 := (fr_K hf490 f474_12).trans g474_12
                have f491_13 := fr_lt hf490 f474_13
                have g491_13 := (fr_K hf490 f474_13).trans g474_13
                have f491_14 := fr_lt hf490 h472.2.2.2.1
                have g491_14 := (fr_K hf490 h472.2.2.2.1).trans h472.2.2.2.2
                have r491_0 : bm_FR B489 0 0 m = some (m + 1) := (fr_FR hf490 f474_0 (fun q => q) 0 0).trans r474_0
                have r491_1 : bm_FR B489 0 1 m = some (m + 6) := (fr_FR hf490 f474_0 (fun q => q) 0 1).trans r474_1
                have r491_2 : bm_FR B489 0 2 m = some (m + 7) := (fr_FR hf490 f474_0 (fun q => q) 0 2).trans r474_2
                have r491_3 : bm_FR B489 0 3 m = some (m + 8) := (fr_FR hf490 f474_0 (fun q => q) 0 3).trans r474_3
                have r491_4 : bm_FR B489 0 4 m = some (m + 9) := (fr_FR hf490 f474_0 (fun q => q) 0 4).trans r474_4
                have r491_5 : bm_FR B489 0 5 m = some (m + 10) := (fr_FR hf490 f474_0 (fun q => q) 0 5).trans r474_5
                have u491_0 : bm_AI B489 (m + 6) = (fun _ => 0) := (fr_AI hf490 f474_4 (fun q => q)).trans u474_0
                have u491_1 : bm_AI B489 (m + 7) = (fun _ => 0) := (fr_AI hf490 f474_5 (fun q => q)).trans u474_1
                have u491_2 : bm_AI B489 (m + 8) = (fun _ => 0) := (fr_AI hf490 f474_6 (fun q => q)).trans u474_2
                have w491_0 : bm_AL B489 (m + 1) = 2 := (fr_AL hf490 f474_1).trans w474_0
                have w491_1 : bm_AL B489 (m + 6) = 4 := (fr_AL hf490 f474_4).trans w474_1
                have w491_2 : bm_AL B489 (m + 7) = 4 := (fr_AL hf490 f474_5).trans w474_2
                have w491_3 : bm_AL B489 (m + 8) = 6 := (fr_AL hf490 f474_6).trans w474_3
                have w491_4 : bm_AL B489 (m + 9) = 12 := (fr_AL hf490 f474_7).trans w474_4
                have w491_5 : bm_AL B489 (m + 10) = 4 := (fr_AL hf490 f474_8).trans w474_5
                have t492_0 : ∀ c k, bm_FI B489 c k m = 0 := fun c k => (fr_FI (fr0_f h489.1) f474_0 (fun q => q) c k).trans (t480_0 c k)
                have t492_1 : ∀ i, i < 2 → stb (PPk (m + 2 + 2 * i)) (m + 2 + 2 * i) (m + 2 + 2 * i + 2) B489 := fun i hi => stb_fr0 (t480_1 i hi) h489.1 (oq_121 hn481 hi)
                have t492_2 : ∀ i, i < 2 → bm_AR B489 ((m + 1)) i = some (m + 2 + 2 * i) := fun i hi => (congrFun (fr_AR (fr0_f h489.1) f474_1 (fun q => q)) i).trans (t480_2 i hi)
                have t492_3 : ∀ i, i < 6 → stb (PSe (m + 11 + 3 * i)) (m + 11 + 3 * i) (m + 11 + 3 * i + 3) B489 := fun i hi => stb_fr0 (t480_3 i hi) h489.1 (oq_122 hn481 hi)
                have t492_4 : ∀ i, i < 0 → stb (PMe (m + 47 + 39 * i)) (m + 47 + 39 * i) (m + 47 + 39 * i + 39) B489 := fun i hi => stb_fr0 (t480_4 i hi) h489.1 (oq_124 hn481 hi)
                have t492_5 : ∀ i, i < 0 → bm_AR B489 ((m + 10)) i = some (m + 47 + 39 * i) := fun i hi => (congrFun (fr_AR (fr0_f h489.1) f474_8 (fun q => q)) i).trans (t480_5 i hi)
                have t492_6 : ∀ i, i < 6 → bm_AR B489 ((m + 9)) i = some (m + 11 + 3 * i) := fun i hi => (congrFun (fr_AR (fr0_f h489.1) f474_7 (fun q => q)) i).trans (R484 i hi)
                have hn493 : bm_n B489 = (m + 11 + 3 * 7) := (oq_125 h489.2.1.1)
                have sl494 : bm_sl B489 = bm_sl B0 + 337 := by rw [h489.2.1.2, sl482]
                have f0495 : fr0 B0 B489 := fr0_trans f0483 h489.1
                have F496 : ∀ i, i < 7 → stb (PSe (m + 11 + 3 * i)) (m + 11 + 3 * i) (m + 11 + 3 * i + 3) B489 := al_step (P := fun i => stb (PSe (m + 11 + 3 * i)) (m + 11 + 3 * i) (m + 11 + 3 * i + 3) B489) t492_3 h489.2.2.1
                show bm_G _ _ _ 94 _ [.ref ((m + 11 + 3 * 6)), .int 6, .ref ((m + 9))] B489 _
                refine g_aast (t := 5) (pc' := 95) cd_De_init rfl rfl f491_7 g491_7 (by decide) rfl rfl h489.2.2.2.1 h489.2.2.2.2 (by rw [show bm_AL B489 (m + 9) = 12 from w491_4]; exact vp_in_nI (n := 6) (by decide) (by decide)) ?_
                rw [show (6 : Int32).toNatClampNeg = 6 from by decide]
                have t497_0 : ∀ c k, bm_FI (bm_setR B489 (m + 9) 6 (some ((m + 11 + 3 * 6)))) c k m = 0 := t492_0
                have t497_1 : ∀ i, i < 2 → stb (PPk (m + 2 + 2 * i)) (m + 2 + 2 * i) (m + 2 + 2 * i + 2) (bm_setR B489 (m + 9) 6 (some ((m + 11 + 3 * 6)))) := fun i hi => stb_setR (t492_1 i hi) (oq_126 hn493 hi) (oq_92 hi)
                have t497_2 : ∀ i, i < 2 → bm_AR (bm_setR B489 (m + 9) 6 (some ((m + 11 + 3 * 6)))) ((m + 1)) i = some (m + 2 + 2 * i) := fun i hi => (if_neg (fun q => absurd q.1 oq_93)).trans (t492_2 i hi)
                have t497_3 : ∀ i, i < 7 → stb (PSe (m + 11 + 3 * i)) (m + 11 + 3 * i) (m + 11 + 3 * i + 3) (bm_setR B489 (m + 9) 6 (some ((m + 11 + 3 * 6)))) := fun i hi => stb_setR (F496 i hi) (oq_127 hn493 hi) (oq_128 hi)
                have t497_4 : ∀ i, i < 0 → stb (PMe (m + 47 + 39 * i)) (m + 47 + 39 * i) (m + 47 + 39 * i + 39) (bm_setR B489 (m + 9) 6 (some ((m + 11 + 3 * 6)))) := fun i hi => stb_setR (t492_4 i hi) (oq_129 hn493 hi) (oq_97 hi)
                have t497_5 : ∀ i, i < 0 → bm_AR (bm_setR B489 (m + 9) 6 (some ((m + 11 + 3 * 6)))) ((m + 10)) i = some (m + 47 + 39 * i) := fun i hi => (if_neg (fun q => absurd q.1 oq_98)).trans (t492_5 i hi)
                have hn498 : bm_n (bm_setR B489 (m + 9) 6 (some ((m + 11 + 3 * 6)))) = (m + 11 + 3 * 7) := hn493
                have sl499 : bm_sl (bm_setR B489 (m + 9) 6 (some ((m + 11 + 3 * 6)))) = bm_sl B0 + 337 := sl494
                have f0500 : fr0 B0 (bm_setR B489 (m + 9) 6 (some ((m + 11 + 3 * 6)))) := fr0_setR f0495 (oq_99 hm)
                have R501 : ∀ i, i < 7 → bm_AR (bm_setR B489 (m + 9) 6 (some ((m + 11 + 3 * 6)))) ((m + 9)) i = some (m + 11 + 3 * i) := ars_step (f := fun i => m + 11 + 3 * i) t492_6
                refine g_inc (y := 7) (pc' := 98) cd_De_init rfl l1 (by decide) (by decide) rfl (fun lv el => ?_)
                have l0 := tm_lk el l0 rfl (by decide)
                have l1 : lv.lookup 1 = some (.int 7) := tm_lks el
                clear el
                refine g_pure (pc' := 73) (st' := []) cd_De_init rfl rfl (fun _ _ => rfl) ?_
                refine g_ild (pc' := 74) cd_De_init rfl (Or.inr ⟨_, rfl, rfl, rfl⟩) l1 rfl ?_
                refine g_ald (pc' := 75) cd_De_init rfl (Or.inr ⟨_, rfl, rfl, rfl⟩) l0 rfl rfl ?_
                refine g_fR (c := 0) (k := 4) (x := (m + 9)) (pc' := 78) cd_De_init rfl rfl rfl rfl rfl (by decide) f491_0 g491_0 r491_4 ?_
                refine g_al (x := 12) (pc' := 79) cd_De_init rfl rfl f491_7 (by rw [show bm_K (bm_setR B489 (m + 9) 6 (some ((m + 11 + 3 * 6)))) (m + 9) = 18 from g491_7]; decide) (by rw [show bm_K (bm_setR B489 (m + 9) 6 (some ((m + 11 + 3 * 6)))) (m + 9) = 18 from g491_7]; decide) (by rw [show bm_AL (bm_setR B489 (m + 9) 6 (some ((m + 11 + 3 * 6)))) (m + 9) = 12 from w491_4]; rfl) ?_
                refine g_if2 (t := 101) (pc' := 82) cd_De_init rfl rfl rfl (fun c79 => ?_) (fun c79 => ?_)
                · exact absurd (show (12 : Int32) ≤ 7 from c79) (by decide)
                · have c79 : ¬ (12 : Int32) ≤ 7 := c79
                  refine g_ald (pc' := 83) cd_De_init rfl (Or.inr ⟨_, rfl, rfl, rfl⟩) l0 rfl rfl ?_
                  refine g_fR (c := 0) (k := 4) (x := (m + 9)) (pc' := 86) cd_De_init rfl rfl rfl rfl rfl (by decide) f491_0 g491_0 r491_4 ?_
                  refine g_ild (pc' := 87) cd_De_init rfl (Or.inr ⟨_, rfl, rfl, rfl⟩) l1 rfl ?_
                  refine n_obj 11 hn498 cd_De_init rfl rfl rfl rfl (by decide) rfl (fun B502 h502 => ?_)
                  have hf503 := fr0_f h502.1
                  have f504_0 := fr_lt hf503 f491_0
                  have g504_0 := (fr_K hf503 f491_0).trans g491_0
                  have f504_1 := fr_lt hf503 f491_1
                  have g504_1 := (fr_K hf503 f491_1).trans g491_1
                  have f504_2 := fr_lt hf503 f491_2
                  have g504_2 := (fr_K hf503 f491_2).trans g491_2
                  have f504_3 := fr_lt hf503 f491_3
                  have g504_3 := (fr_K hf503 f491_3).trans g491_3
                  have f504_4 := fr_lt hf503 f491_4
                  have g504_4 := (fr_K hf503 f491_4).trans g491_4
                  have f504_5 := fr_lt hf503 f491_5
                  have g504_5 := (fr_K hf503 f491_5).trans g491_5
                  have f504_6 := fr_lt hf503 f491_6
                  have g504_6 := (fr_K hf503 f491_6).trans g491_6
                  have f504_7 := fr_lt hf503 f491_7
                  have g504_7 := (fr_K hf503 f491_7).trans g491_7
                  have f504_8 := fr_lt hf503 f491_8
                  have g504_8 := (fr_K hf503 f491_8).trans g491_8
                  have f504_9 := fr_lt hf503 f491_9
                  have g504_9 := (fr_K hf503 f491_9).trans g491_9
                  have f504_10 := fr_lt hf503 f491_10
                  have g504_10 := (fr_K hf503 f491_10).trans g491_10
                  have f504_11 := fr_lt hf503 f491_11
                  have g504_11 := (fr_K hf503 f491_11).trans g491_11
                  have f504_12 := fr_lt hf503 f491_12
                  have g504_12 := (fr_K hf503 f491_12).trans g491_12
                  have f504_13 := fr_lt hf503 f491_13
                  have g504_13 := (fr_K hf503 f491_13).trans g491_13
                  have f504_14 := fr_lt hf503 f491_14
                  have g504_14 := (fr_K hf503 f491_14).trans g491_14
                  have f504_15 := fr_lt hf503 h489.2.2.2.1
                  have g504_15 := (fr_K hf503 h489.2.2.2.1).trans h489.2.2.2.2
                  have r504_0 : bm_FR B502 0 0 m = some (m + 1) := (fr_FR hf503 f491_0 (fun q => q) 0 0).trans r491_0
                  have r504_1 : bm_FR B502 0 1 m = some (m + 6) := (fr_FR hf503 f491_0 (fun q => q) 0 1).trans r491_1
                  have r504_2 : bm_FR B502 0 2 m = some (m + 7) := (fr_FR hf503 f491_0 (fun q => q) 0 2).trans r491_2
                  have r504_3 : bm_FR B502 0 3 m = some (m + 8) := (fr_FR hf503 f491_0 (fun q => q) 0 3).trans r491_3
                  have r504_4 : bm_FR B502 0 4 m = some (m + 9) := (fr_FR hf503 f491_0 (fun q => q) 0 4).trans r491_4
                  have r504_5 : bm_FR B502 0 5 m = some (m + 10) := (fr_FR hf503 f491_0 (fun q => q) 0 5).trans r491_5
                  have u504_0 : bm_AI B502 (m + 6) = (fun _ => 0) := (fr_AI hf503 f491_4 (fun q => q)).trans u491_0
                  have u504_1 : bm_AI B502 (m + 7) = (fun _ => 0) := (fr_AI hf503 f491_5 (fun q => q)).trans u491_1
                  have u504_2 : bm_AI B502 (m + 8) = (fun _ => 0) := (fr_AI hf503 f491_6 (fun q => q)).trans u491_2
                  have w504_0 : bm_AL B502 (m + 1) = 2 := (fr_AL hf503 f491_1).trans w491_0
                  have w504_1 : bm_AL B502 (m + 6) = 4 := (fr_AL hf503 f491_4).trans w491_1
                  have w504_2 : bm_AL B502 (m + 7) = 4 := (fr_AL hf503 f491_5).trans w491_2
                  have w504_3 : bm_AL B502 (m + 8) = 6 := (fr_AL hf503 f491_6).trans w491_3
                  have w504_4 : bm_AL B502 (m + 9) = 12 := (fr_AL hf503 f491_7).trans w491_4
                  have w504_5 : bm_AL B502 (m + 10) = 4 := (fr_AL hf503 f491_8).trans w491_5
                  have t505_0 : ∀ c k, bm_FI B502 c k m = 0 := fun c k => (fr_FI (fr0_f h502.1) f491_0 (fun q => q) c k).trans (t497_0 c k)
                  have t505_1 : ∀ i, i < 2 → stb (PPk (m + 2 + 2 * i)) (m + 2 + 2 * i) (m + 2 + 2 * i + 2) B502 := fun i hi => stb_fr0 (t497_1 i hi) h502.1 (oq_126 hn498 hi)
                  have t505_2 : ∀ i, i < 2 → bm_AR B502 ((m + 1)) i = some (m + 2 + 2 * i) := fun i hi => (congrFun (fr_AR (fr0_f h502.1) f491_1 (fun q => q)) i).trans (t497_2 i hi)
                  have t505_3 : ∀ i, i < 7 → stb (PSe (m + 11 + 3 * i)) (m + 11 + 3 * i) (m + 11 + 3 * i + 3) B502 := fun i hi => stb_fr0 (t497_3 i hi) h502.1 (oq_127 hn498 hi)
                  have t505_4 : ∀ i, i < 0 → stb (PMe (m + 47 + 39 * i)) (m + 47 + 39 * i) (m + 47 + 39 * i + 39) B502 := fun i hi => stb_fr0 (t497_4 i hi) h502.1 (oq_129 hn498 hi)
                  have t505_5 : ∀ i, i < 0 → bm_AR B502 ((m + 10)) i = some (m + 47 + 39 * i) := fun i hi => (congrFun (fr_AR (fr0_f h502.1) f491_8 (fun q => q)) i).trans (t497_5 i hi)
                  have t505_6 : ∀ i, i < 7 → bm_AR B502 ((m + 9)) i = some (m + 11 + 3 * i) := fun i hi => (congrFun (fr_AR (fr0_f h502.1) f491_7 (fun q => q)) i).trans (R501 i hi)
                  refine g_pure (pc' := 91) (st' := [.ref ((m + 11 + 3 * 7)), .ref ((m + 11 + 3 * 7)), .int 7, .ref ((m + 9))]) cd_De_init rfl rfl (fun _ _ => rfl) ?_
                  refine g_callv (pc' := 94) cd_De_init rfl rfl rfl rfl rfl (tm_invI rfl rfl cd_Se_init rfl (Nat.le_of_ble_eq_true rfl)) (i_Se hn498 h502 (fun B506 h506 => ?_))
                  have hf507 := fr0_f h506.1
                  have f508_0 := fr_lt hf507 f491_0
                  have g508_0 := (fr_K hf507 f491_0).trans g491_0
                  have f508_1 := fr_lt hf507 f491_1
                  have g508_1 := (fr_K hf507 f491_1).trans g491_1
                  have f508_2 := fr_lt hf507 f491_2
                  have g508_2 := (fr_K hf507 f491_2).trans g491_2
                  have f508_3 := fr_lt hf507 f491_3
                  have g508_3 := (fr_K hf507 f491_3).trans g491_3
                  have f508_4 := fr_lt hf507 f491_4
                  have g508_4 := (fr_K hf507 f491_4).trans g491_4
                  have f508_5 := fr_lt hf507 f491_5
                  have g508_5 := (fr_K hf507 f491_5).trans g491_5
                  have f508_6 := fr_lt hf507 f491_6
                  have g508_6 := (fr_K hf507 f491_6).trans g491_6
                  have f508_7 := fr_lt hf507 f491_7
                  have g508_7 := (fr_K hf507 f491_7).trans g491_7
                  have f508_8 := fr_lt hf507 f491_8
                  have g508_8 := (fr_K hf507 f491_8).trans g491_8
                  have f508_9 := fr_lt hf507 f491_9
                  have g508_9 := (fr_K hf507 f491_9).trans g491_9
                  have f508_10 := fr_lt hf507 f491_10
                  have g508_10 := (fr_K hf507 f491_10).trans g491_10
                  have f508_11 := fr_lt hf507 f491_11
                  have g508_11 := (fr_K hf507 f491_11).trans g491_11
                  have f508_12 := fr_lt hf507 f491_12
                  have g508_12 := (fr_K hf507 f491_12).trans g491_12
                  have f508_13 := fr_lt hf507 f491_13
                  have g508_13 := (fr_K hf507 f491_13).trans g491_13
                  have f508_14 := fr_lt hf507 f491_14
                  have g508_14 := (fr_K hf507 f491_14).trans g491_14
                  have f508_15 := fr_lt hf507 h489.2.2.2.1
                  have g508_15 := (fr_K hf507 h489.2.2.2.1).trans h489.2.2.2.2
                  have r508_0 : bm_FR B506 0 0 m = some (m + 1) := (fr_FR hf507 f491_0 (fun q => q) 0 0).trans r491_0
                  have r508_1 : bm_FR B506 0 1 m = some (m + 6) := (fr_FR hf507 f491_0 (fun q => q) 0 1).trans r491_1
                  have r508_2 : bm_FR B506 0 2 m = some (m + 7) := (fr_FR hf507 f491_0 (fun q => q) 0 2).trans r491_2
                  have r508_3 : bm_FR B506 0 3 m = some (m + 8) := (fr_FR hf507 f491_0 (fun q => q) 0 3).trans r491_3
                  have r508_4 : bm_FR B506 0 4 m = some (m + 9) := (fr_FR hf507 f491_0 (fun q => q) 0 4).trans r491_4
                  have r508_5 : bm_FR B506 0 5 m = some (m + 10) := (fr_FR hf507 f491_0 (fun q => q) 0 5).trans r491_5
                  have u508_0 : bm_AI B506 (m + 6) = (fun _ => 0) := (fr_AI hf507 f491_4 (fun q => q)).trans u491_0
                  have u508_1 : bm_AI B506 (m + 7) = (fun _ => 0) := (fr_AI hf507 f491_5 (fun q => q)).trans u491_1
                  have u508_2 : bm_AI B506 (m + 8) = (fun _ => 0) := (fr_AI hf507 f491_6 (fun q => q)).trans u491_2
                  have w508_0 : bm_AL B506 (m + 1) = 2 := (fr_AL hf507 f491_1).trans w491_0
                  have w508_1 : bm_AL B506 (m + 6) = 4 := (fr_AL hf507 f491_4).trans w491_1
                  have w508_2 : bm_AL B506 (m + 7) = 4 := (fr_AL hf507 f491_5).trans w491_2
                  have w508_3 : bm_AL B506 (m + 8) = 6 := (fr_AL hf507 f491_6).trans w491_3
                  have w508_4 : bm_AL B506 (m + 9) = 12 := (fr_AL hf507 f491_7).trans w491_4
                  have w508_5 : bm_AL B506 (m + 10) = 4 := (fr_AL hf507 f491_8).trans w491_5
                  have t509_0 : ∀ c k, bm_FI B506 c k m = 0 := fun c k => (fr_FI (fr0_f h506.1) f491_0 (fun q => q) c k).trans (t497_0 c k)
                  have t509_1 : ∀ i, i < 2 → stb (PPk (m + 2 + 2 * i)) (m + 2 + 2 * i) (m + 2 + 2 * i + 2) B506 := fun i hi => stb_fr0 (t497_1 i hi) h506.1 (oq_126 hn498 hi)
                  have t509_2 : ∀ i, i < 2 → bm_AR B506 ((m + 1)) i = some (m + 2 + 2 * i) := fun i hi => (congrFun (fr_AR (fr0_f h506.1) f491_1 (fun q => q)) i).trans (t497_2 i hi)
                  have t509_3 : ∀ i, i < 7 → stb (PSe (m + 11 + 3 * i)) (m + 11 + 3 * i) (m + 11 + 3 * i + 3) B506 := fun i hi => stb_fr0 (t497_3 i hi) h506.1 (oq_127 hn498 hi)
                  have t509_4 : ∀ i, i < 0 → stb (PMe (m + 47 + 39 * i)) (m + 47 + 39 * i) (m + 47 + 39 * i + 39) B506 := fun i hi => stb_fr0 (t497_4 i hi) h506.1 (oq_129 hn498 hi)
                  have t509_5 : ∀ i, i < 0 → bm_AR B506 ((m + 10)) i = some (m + 47 + 39 * i) := fun i hi => (congrFun (fr_AR (fr0_f h506.1) f491_8 (fun q => q)) i).trans (t497_5 i hi)
                  have t509_6 : ∀ i, i < 7 → bm_AR B506 ((m + 9)) i = some (m + 11 + 3 * i) := fun i hi => (congrFun (fr_AR (fr0_f h506.1) f491_7 (fun q => q)) i).trans (R501 i hi)
                  have hn510 : bm_n B506 = (m + 11 + 3 * 8) := (oq_130 h506.2.1.1)
                  have sl511 : bm_sl B506 = bm_sl B0 + 377 := by rw [h506.2.1.2, sl499]
                  have f0512 : fr0 B0 B506 := fr0_trans f0500 h506.1
                  have F513 : ∀ i, i < 8 → stb (PSe (m + 11 + 3 * i)) (m + 11 + 3 * i) (m + 11 + 3 * i + 3) B506 := al_step (P := fun i => stb (PSe (m + 11 + 3 * i)) (m + 11 + 3 * i) (m + 11 + 3 * i + 3) B506) t509_3 h506.2.2.1
                  show bm_G _ _ _ 94 _ [.ref ((m + 11 + 3 * 7)), .int 7, .ref ((m + 9))] B506 _
                  refine g_aast (t := 5) (pc' := 95) cd_De_init rfl rfl f508_7 g508_7 (by decide) rfl rfl h506.2.2.2.1 h506.2.2.2.2 (by rw [show bm_AL B506 (m + 9) = 12 from w508_4]; exact vp_in_nI (n := 7) (by decide) (by decide)) ?_
                  rw [show (7 : Int32).toNatClampNeg = 7 from by decide]
                  have t514_0 : ∀ c k, bm_FI (bm_setR B506 (m + 9) 7 (some ((m + 11 + 3 * 7)))) c k m = 0 := t509_0
                  have t514_1 : ∀ i, i < 2 → stb (PPk (m + 2 + 2 * i)) (m + 2 + 2 * i) (m + 2 + 2 * i + 2) (bm_setR B506 (m + 9) 7 (some ((m + 11 + 3 * 7)))) := fun i hi => stb_setR (t509_1 i hi) (oq_131 hn510 hi) (oq_92 hi)
                  have t514_2 : ∀ i, i < 2 → bm_AR (bm_setR B506 (m + 9) 7 (some ((m + 11 + 3 * 7)))) ((m + 1)) i = some (m + 2 + 2 * i) := fun i hi => (if_neg (fun q => absurd q.1 oq_93)).trans (t509_2 i hi)
                  have t514_3 : ∀ i, i < 8 → stb (PSe (m + 11 + 3 * i)) (m + 11 + 3 * i) (m + 11 + 3 * i + 3) (bm_setR B506 (m + 9) 7 (some ((m + 11 + 3 * 7)))) := fun i hi => stb_setR (F513 i hi) (oq_132 hn510 hi) (oq_133 hi)
                  have t514_4 : ∀ i, i < 0 → stb (PMe (m + 47 + 39 * i)) (m + 47 + 39 * i) (m + 47 + 39 * i + 39) (bm_setR B506 (m + 9) 7 (some ((m + 11 + 3 * 7)))) := fun i hi => stb_setR (t509_4 i hi) (oq_134 hn510 hi) (oq_97 hi)
                  have t514_5 : ∀ i, i < 0 → bm_AR (bm_setR B506 (m + 9) 7 (some ((m + 11 + 3 * 7)))) ((m + 10)) i = some (m + 47 + 39 * i) := fun i hi => (if_neg (fun q => absurd q.1 oq_98)).trans (t509_5 i hi)
                  have hn515 : bm_n (bm_setR B506 (m + 9) 7 (some ((m + 11 + 3 * 7)))) = (m + 11 + 3 * 8) := hn510
                  have sl516 : bm_sl (bm_setR B506 (m + 9) 7 (some ((m + 11 + 3 * 7)))) = bm_sl B0 + 377 := sl511
                  have f0517 : fr0 B0 (bm_setR B506 (m + 9) 7 (some ((m + 11 + 3 * 7)))) := fr0_setR f0512 (oq_99 hm)
                  have R518 : ∀ i, i < 8 → bm_AR (bm_setR B506 (m + 9) 7 (some ((m + 11 + 3 * 7)))) ((m + 9)) i = some (m + 11 + 3 * i) := ars_step (f := fun i => m + 11 + 3 * i) t509_6
                  refine g_inc (y := 8) (pc' := 98) cd_De_init rfl l1 (by decide) (by decide) rfl (fun lv el => ?_)
                  have l0 := tm_lk el l0 rfl (by decide)
                  have l1 : lv.lookup 1 = some (.int 8) := tm_lks el
                  clear el
                  refine g_pure (pc' := 73) (st' := []) cd_De_init rfl rfl (fun _ _ => rfl) ?_
                  refine g_ild (pc' := 74) cd_De_init rfl (Or.inr ⟨_, rfl, rfl, rfl⟩) l1 rfl ?_
                  refine g_ald (pc' := 75) cd_De_init rfl (Or.inr ⟨_, rfl, rfl, rfl⟩) l0 rfl rfl ?_
                  refine g_fR (c := 0) (k := 4) (x := (m + 9)) (pc' := 78) cd_De_init rfl rfl rfl rfl rfl (by decide) f508_0 g508_0 r508_4 ?_
                  refine g_al (x := 12) (pc' := 79) cd_De_init rfl rfl f508_7 (by rw [show bm_K (bm_setR B506 (m + 9) 7 (some ((m + 11 + 3 * 7)))) (m + 9) = 18 from g508_7]; decide) (by rw [show bm_K (bm_setR B506 (m + 9) 7 (some ((m + 11 + 3 * 7)))) (m + 9) = 18 from g508_7]; decide) (by rw [show bm_AL (bm_setR B506 (m + 9) 7 (some ((m + 11 + 3 * 7)))) (m + 9) = 12 from w508_4]; rfl) ?_
                  refine g_if2 (t := 101) (pc' := 82) cd_De_init rfl rfl rfl (fun c79 => ?_) (fun c79 => ?_)
                  · exact absurd (show (12 : Int32) ≤ 8 from c79) (by decide)
                  · have c79 : ¬ (12 : Int32) ≤ 8 := c79
                    refine g_ald (pc' := 83) cd_De_init rfl (Or.inr ⟨_, rfl, rfl, rfl⟩) l0 rfl rfl ?_
                    refine g_fR (c := 0) (k := 4) (x := (m + 9)) (pc' := 86) cd_De_init rfl rfl rfl rfl rfl (by decide) f508_0 g508_0 r508_4 ?_
                    refine g_ild (pc' := 87) cd_De_init rfl (Or.inr ⟨_, rfl, rfl, rfl⟩) l1 rfl ?_
                    refine n_obj 11 hn515 cd_De_init rfl rfl rfl rfl (by decide) rfl (fun B519 h519 => ?_)
                    have hf520 := fr0_f h519.1
                    have f521_0 := fr_lt hf520 f508_0
                    have g521_0 := (fr_K hf520 f508_0).trans g508_0
                    have f521_1 := fr_lt hf520 f508_1
                    have g521_1 := (fr_K hf520 f508_1).trans g508_1
                    have f521_2 := fr_lt hf520 f508_2
                    have g521_2 := (fr_K hf520 f508_2).trans g508_2
                    have f521_3 := fr_lt hf520 f508_3
                    have g521_3 := (fr_K hf520 f508_3).trans g508_3
                    have f521_4 := fr_lt hf520 f508_4
                    have g521_4 := (fr_K hf520 f508_4).trans g508_4
                    have f521_5 := fr_lt hf520 f508_5
                    have g521_5 := (fr_K hf520 f508_5).trans g508_5
                    have f521_6 := fr_lt hf520 f508_6
                    have g521_6 := (fr_K hf520 f508_6).trans g508_6
                    have f521_7 := fr_lt hf520 f508_7
                    have g521_7 := (fr_K hf520 f508_7).trans g508_7
                    have f521_8 := fr_lt hf520 f508_8
                    have g521_8 := (fr_K hf520 f508_8).trans g508_8
                    have f521_9 := fr_lt hf520 f508_9
                    have g521_9 := (fr_K hf520 f508_9).trans g508_9
                    have f521_10 := fr_lt hf520 f508_10
                    have g521_10 := (fr_K hf520 f508_10).trans g508_10
                    have f521_11 := fr_lt hf520 f508_11
                    have g521_11 := (fr_K hf520 f508_11).trans g508_11
                    have f521_12 := fr_lt hf520 f508_12
                    have g521_12 := (fr_K hf520 f508_12).trans g508_12
                    have f521_13 := fr_lt hf520 f508_13
                    have g521_13 := (fr_K hf520 f508_13).trans g508_13
                    have f521_14 := fr_lt hf520 f508_14
                    have g521_14 := (fr_K hf520 f508_14).trans g508_14
                    have f521_15 := fr_lt hf520 f508_15
                    have g521_15 := (fr_K hf520 f508_15).trans g508_15
                    have f521_16 := fr_lt hf520 h506.2.2.2.1
                    have g521_16 := (fr_K hf520 h506.2.2.2.1).trans h506.2.2.2.2
                    have r521_0 : bm_FR B519 0 0 m = some (m + 1) := (fr_FR hf520 f508_0 (fun q => q) 0 0).trans r508_0
                    have r521_1 : bm_FR B519 0 1 m = some (m + 6) := (fr_FR hf520 f508_0 (fun q => q) 0 1).trans r508_1
                    have r521_2 : bm_FR B519 0 2 m = some (m + 7) := (fr_FR hf520 f508_0 (fun q => q) 0 2).trans r508_2
                    have r521_3 : bm_FR B519 0 3 m = some (m + 8) := (fr_FR hf520 f508_0 (fun q => q) 0 3).trans r508_3
                    have r521_4 : bm_FR B519 0 4 m = some (m + 9) := (fr_FR hf520 f508_0 (fun q => q) 0 4).trans r508_4
                    have r521_5 : bm_FR B519 0 5 m = some (m + 10) := (fr_FR hf520 f508_0 (fun q => q) 0 5).trans r508_5
                    have u521_0 : bm_AI B519 (m + 6) = (fun _ => 0) := (fr_AI hf520 f508_4 (fun q => q)).trans u508_0
                    have u521_1 : bm_AI B519 (m + 7) = (fun _ => 0) := (fr_AI hf520 f508_5 (fun q => q)).trans u508_1
                    have u521_2 : bm_AI B519 (m + 8) = (fun _ => 0) := (fr_AI hf520 f508_6 (fun q => q)).trans u508_2
                    have w521_0 : bm_AL B519 (m + 1) = 2 := (fr_AL hf520 f508_1).trans w508_0
                    have w521_1 : bm_AL B519 (m + 6) = 4 := (fr_AL hf520 f508_4).trans w508_1
                    have w521_2 : bm_AL B519 (m + 7) = 4 := (fr_AL hf520 f508_5).trans w508_2
                    have w521_3 : bm_AL B519 (m + 8) = 6 := (fr_AL hf520 f508_6).trans w508_3
                    have w521_4 : bm_AL B519 (m + 9) = 12 := (fr_AL hf520 f508_7).trans w508_4
                    have w521_5 : bm_AL B519 (m + 10) = 4 := (fr_AL hf520 f508_8).trans w508_5
                    have t522_0 : ∀ c k, bm_FI B519 c k m = 0 := fun c k => (fr_FI (fr0_f h519.1) f508_0 (fun q => q) c k).trans (t514_0 c k)
                    have t522_1 : ∀ i, i < 2 → stb (PPk (m + 2 + 2 * i)) (m + 2 + 2 * i) (m + 2 + 2 * i + 2) B519 := fun i hi => stb_fr0 (t514_1 i hi) h519.1 (oq_131 hn515 hi)
                    have t522_2 : ∀ i, i < 2 → bm_AR B519 ((m + 1)) i = some (m + 2 + 2 * i) := fun i hi => (congrFun (fr_AR (fr0_f h519.1) f508_1 (fun q => q)) i).trans (t514_2 i hi)
                    have t522_3 : ∀ i, i < 8 → stb (PSe (m + 11 + 3 * i)) (m + 11 + 3 * i) (m + 11 + 3 * i + 3) B519 := fun i hi => stb_fr0 (t514_3 i hi) h519.1 (oq_132 hn515 hi)
                    have t522_4 : ∀ i, i < 0 → stb (PMe (m + 47 + 39 * i)) (m + 47 + 39 * i) (m + 47 + 39 * i + 39) B519 := fun i hi => stb_fr0 (t514_4 i hi) h519.1 (oq_134 hn515 hi)
                    have t522_5 : ∀ i, i < 0 → bm_AR B519 ((m + 10)) i = some (m + 47 + 39 * i) := fun i hi => (congrFun (fr_AR (fr0_f h519.1) f508_8 (fun q => q)) i).trans (t514_5 i hi)
                    have t522_6 : ∀ i, i < 8 → bm_AR B519 ((m + 9)) i = some (m + 11 + 3 * i) := fun i hi => (congrFun (fr_AR (fr0_f h519.1) f508_7 (fun q => q)) i).trans (R518 i hi)
                    refine g_pure (pc' := 91) (st' := [.ref ((m + 11 + 3 * 8)), .ref ((m + 11 + 3 * 8)), .int 8, .ref ((m + 9))]) cd_De_init rfl rfl (fun _ _ => rfl) ?_
                    refine g_callv (pc' := 94) cd_De_init rfl rfl rfl rfl rfl (tm_invI rfl rfl cd_Se_init rfl (Nat.le_of_ble_eq_true rfl)) (i_Se hn515 h519 (fun B523 h523 => ?_))
                    have hf524 := fr0_f h523.1
                    have f525_0 := fr_lt hf524 f508_0
                    have g525_0 := (fr_K hf524 f508_0).trans g508_0
                    have f525_1 := fr_lt hf524 f508_1
                    have g525_1 := (fr_K hf524 f508_1).trans g508_1
                    have f525_2 := fr_lt hf524 f508_2
                    have g525_2 := (fr_K hf524 f508_2).trans g508_2
                    have f525_3 := fr_lt hf524 f508_3
                    have g525_3 := (fr_K hf524 f508_3).trans g508_3
                    have f525_4 := fr_lt hf524 f508_4
                    have g525_4 := (fr_K hf524 f508_4).trans g508_4
                    have f525_5 := fr_lt hf524 f508_5
                    have g525_5 := (fr_K hf524 f508_5).trans g508_5
                    have f525_6 := fr_lt hf524 f508_6
                    have g525_6 := (fr_K hf524 f508_6).trans g508_6
                    have f525_7 := fr_lt hf524 f508_7
                    have g525_7 := (fr_K hf524 f508_7).trans g508_7
                    have f525_8 := fr_lt hf524 f508_8
                    have g525_8 := (fr_K hf524 f508_8).trans g508_8
                    have f525_9 := fr_lt hf524 f508_9
                    have g525_9 := (fr_K hf524 f508_9).trans g508_9
                    have f525_10 := fr_lt hf524 f508_10
                    have g525_10 := (fr_K hf524 f508_10).trans g508_10
                    have f525_11 := fr_lt hf524 f508_11
                    have g525_11 := (fr_K hf524 f508_11).trans g508_11
                    have f525_12 := fr_lt hf524 f508_12
                    have g525_12 := (fr_K hf524 f508_12).trans g508_12
                    have f525_13 := fr_lt hf524 f508_13
                    have g525_13 := (fr_K hf524 f508_13).trans g508_13
                    have f525_14 := fr_lt hf524 f508_14
                    have g525_14 := (fr_K hf524 f508_14).trans g508_14
                    have f525_15 := fr_lt hf524 f508_15
                    have g525_15 := (fr_K hf524 f508_15).trans g508_15
                    have f525_16 := fr_lt hf524 h506.2.2.2.1
                    have g525_16 := (fr_K hf524 h506.2.2.2.1).trans h506.2.2.2.2
                    have r525_0 : bm_FR B523 0 0 m = some (m + 1) := (fr_FR hf524 f508_0 (fun q => q) 0 0).trans r508_0
                    have r525_1 : bm_FR B523 0 1 m = some (m + 6) := (fr_FR hf524 f508_0 (fun q => q) 0 1).trans r508_1
                    have r525_2 : bm_FR B523 0 2 m = some (m + 7) := (fr_FR hf524 f508_0 (fun q => q) 0 2).trans r508_2
                    have r525_3 : bm_FR B523 0 3 m = some (m + 8) := (fr_FR hf524 f508_0 (fun q => q) 0 3).trans r508_3
                    have r525_4 : bm_FR B523 0 4 m = some (m + 9) := (fr_FR hf524 f508_0 (fun q => q) 0 4).trans r508_4
                    have r525_5 : bm_FR B523 0 5 m = some (m + 10) := (fr_FR hf524 f508_0 (fun q => q) 0 5).trans r508_5
                    have u525_0 : bm_AI B523 (m + 6) = (fun _ => 0) := (fr_AI hf524 f508_4 (fun q => q)).trans u508_0
                    have u525_1 : bm_AI B523 (m + 7) = (fun _ => 0) := (fr_AI hf524 f508_5 (fun q => q)).trans u508_1
                    have u525_2 : bm_AI B523 (m + 8) = (fun _ => 0) := (fr_AI hf524 f508_6 (fun q => q)).trans u508_2
                    have w525_0 : bm_AL B523 (m + 1) = 2 := (fr_AL hf524 f508_1).trans w508_0
                    have w525_1 : bm_AL B523 (m + 6) = 4 := (fr_AL hf524 f508_4).trans w508_1
                    have w525_2 : bm_AL B523 (m + 7) = 4 := (fr_AL hf524 f508_5).trans w508_2
                    have w525_3 : bm_AL B523 (m + 8) = 6 := (fr_AL hf524 f508_6).trans w508_3
                    have w525_4 : bm_AL B523 (m + 9) = 12 := (fr_AL hf524 f508_7).trans w508_4
                    have w525_5 : bm_AL B523 (m + 10) = 4 := (fr_AL hf524 f508_8).trans w508_5
                    have t526_0 : ∀ c k, bm_FI B523 c k m = 0 := fun c k => (fr_FI (fr0_f h523.1) f508_0 (fun q => q) c k).trans (t514_0 c k)
                    have t526_1 : ∀ i, i < 2 → stb (PPk (m + 2 + 2 * i)) (m + 2 + 2 * i) (m + 2 + 2 * i + 2) B523 := fun i hi => stb_fr0 (t514_1 i hi) h523.1 (oq_131 hn515 hi)
                    have t526_2 : ∀ i, i < 2 → bm_AR B523 ((m + 1)) i = some (m + 2 + 2 * i) := fun i hi => (congrFun (fr_AR (fr0_f h523.1) f508_1 (fun q => q)) i).trans (t514_2 i hi)
                    have t526_3 : ∀ i, i < 8 → stb (PSe (m + 11 + 3 * i)) (m + 11 + 3 * i) (m + 11 + 3 * i + 3) B523 := fun i hi => stb_fr0 (t514_3 i hi) h523.1 (oq_132 hn515 hi)
                    have t526_4 : ∀ i, i < 0 → stb (PMe (m + 47 + 39 * i)) (m + 47 + 39 * i) (m + 47 + 39 * i + 39) B523 := fun i hi => stb_fr0 (t514_4 i hi) h523.1 (oq_134 hn515 hi)
                    have t526_5 : ∀ i, i < 0 → bm_AR B523 ((m + 10)) i = some (m + 47 + 39 * i) := fun i hi => (congrFun (fr_AR (fr0_f h523.1) f508_8 (fun q => q)) i).trans (t514_5 i hi)
                    have t526_6 : ∀ i, i < 8 → bm_AR B523 ((m + 9)) i = some (m + 11 + 3 * i) := fun i hi => (congrFun (fr_AR (fr0_f h523.1) f508_7 (fun q => q)) i).trans (R518 i hi)
                    have hn527 : bm_n B523 = (m + 11 + 3 * 9) := (oq_135 h523.2.1.1)
                    have sl528 : bm_sl B523 = bm_sl B0 + 417 := by rw [h523.2.1.2, sl516]
                    have f0529 : fr0 B0 B523 := fr0_trans f0517 h523.1
                    have F530 : ∀ i, i < 9 → stb (PSe (m + 11 + 3 * i)) (m + 11 + 3 * i) (m + 11 + 3 * i + 3) B523 := al_step (P := fun i => stb (PSe (m + 11 + 3 * i)) (m + 11 + 3 * i) (m + 11 + 3 * i + 3) B523) t526_3 h523.2.2.1
                    show bm_G _ _ _ 94 _ [.ref ((m + 11 + 3 * 8)), .int 8, .ref ((m + 9))] B523 _
                    refine g_aast (t := 5) (pc' := 95) cd_De_init rfl rfl f525_7 g525_7 (by decide) rfl rfl h523.2.2.2.1 h523.2.2.2.2 (by rw [show bm_AL B523 (m + 9) = 12 from w525_4]; exact vp_in_nI (n := 8) (by decide) (by decide)) ?_
                    rw [show (8 : Int32).toNatClampNeg = 8 from by decide]
                    have t531_0 : ∀ c k, bm_FI (bm_setR B523 (m + 9) 8 (some ((m + 11 + 3 * 8)))) c k m = 0 := t526_0
                    have t531_1 : ∀ i, i < 2 → stb (PPk (m + 2 + 2 * i)) (m + 2 + 2 * i) (m + 2 + 2 * i + 2) (bm_setR B523 (m + 9) 8 (some ((m + 11 + 3 * 8)))) := fun i hi => stb_setR (t526_1 i hi) (oq_136 hn527 hi) (oq_92 hi)
                    have t531_2 : ∀ i, i < 2 → bm_AR (bm_setR B523 (m + 9) 8 (some ((m + 11 + 3 * 8)))) ((m + 1)) i = some (m + 2 + 2 * i) := fun i hi => (if_neg (fun q => absurd q.1 oq_93)).trans (t526_2 i hi)
                    have t531_3 : ∀ i, i < 9 → stb (PSe (m + 11 + 3 * i)) (m + 11 + 3 * i) (m + 11 + 3 * i + 3) (bm_setR B523 (m + 9) 8 (some ((m + 11 + 3 * 8)))) := fun i hi => stb_setR (F530 i hi) (oq_137 hn527 hi) (oq_138 hi)
                    have t531_4 : ∀ i, i < 0 → stb (PMe (m + 47 + 39 * i)) (m + 47 + 39 * i) (m + 47 + 39 * i + 39) (bm_setR B523 (m + 9) 8 (some ((m + 11 + 3 * 8)))) := fun i hi => stb_setR (t526_4 i hi) (oq_139 hn527 hi) (oq_97 hi)
                    have t531_5 : ∀ i, i < 0 → bm_AR (bm_setR B523 (m + 9) 8 (some ((m + 11 + 3 * 8)))) ((m + 10)) i = some (m + 47 + 39 * i) := fun i hi => (if_neg (fun q => absurd q.1 oq_98)).trans (t526_5 i hi)
                    have hn532 : bm_n (bm_setR B523 (m + 9) 8 (some ((m + 11 + 3 * 8)))) = (m + 11 + 3 * 9) := hn527
                    have sl533 : bm_sl (bm_setR B523 (m + 9) 8 (some ((m + 11 + 3 * 8)))) = bm_sl B0 + 417 := sl528
                    have f0534 : fr0 B0 (bm_setR B523 (m + 9) 8 (some ((m + 11 + 3 * 8)))) := fr0_setR f0529 (oq_99 hm)
                    have R535 : ∀ i, i < 9 → bm_AR (bm_setR B523 (m + 9) 8 (some ((m + 11 + 3 * 8)))) ((m + 9)) i = some (m + 11 + 3 * i) := ars_step (f := fun i => m + 11 + 3 * i) t526_6
                    refine g_inc (y := 9) (pc' := 98) cd_De_init rfl l1 (by decide) (by decide) rfl (fun lv el => ?_)
                    have l0 := tm_lk el l0 rfl (by decide)
                    have l1 : lv.lookup 1 = some (.int 9) := tm_lks el
                    clear el
                    refine g_pure (pc' := 73) (st' := []) cd_De_init rfl rfl (fun _ _ => rfl) ?_
                    refine g_ild (pc' := 74) cd_De_init rfl (Or.inr ⟨_, rfl, rfl, rfl⟩) l1 rfl ?_
                    refine g_ald (pc' := 75) cd_De_init rfl (Or.inr ⟨_, rfl, rfl, rfl⟩) l0 rfl rfl ?_
                    refine g_fR (c := 0) (k := 4) (x := (m + 9)) (pc' := 78) cd_De_init rfl rfl rfl rfl rfl (by decide) f525_0 g525_0 r525_4 ?_
                    refine g_al (x := 12) (pc' := 79) cd_De_init rfl rfl f525_7 (by rw [show bm_K (bm_setR B523 (m + 9) 8 (some ((m + 11 + 3 * 8)))) (m + 9) = 18 from g525_7]; decide) (by rw [show bm_K (bm_setR B523 (m + 9) 8 (some ((m + 11 + 3 * 8)))) (m + 9) = 18 from g525_7]; decide) (by rw [show bm_AL (bm_setR B523 (m + 9) 8 (some ((m + 11 + 3 * 8)))) (m + 9) = 12 from w525_4]; rfl) ?_
                    refine g_if2 (t := 101) (pc' := 82) cd_De_init rfl rfl rfl (fun c79 => ?_) (fun c79 => ?_)
                    · exact absurd (show (12 : Int32) ≤ 9 from c79) (by decide)
                    · have c79 : ¬ (12 : Int32) ≤ 9 := c79
                      refine g_ald (pc' := 83) cd_De_init rfl (Or.inr ⟨_, rfl, rfl, rfl⟩) l0 rfl rfl ?_
                      refine g_fR (c := 0) (k := 4) (x := (m + 9)) (pc' := 86) cd_De_init rfl rfl rfl rfl rfl (by decide) f525_0 g525_0 r525_4 ?_
                      refine g_ild (pc' := 87) cd_De_init rfl (Or.inr ⟨_, rfl, rfl, rfl⟩) l1 rfl ?_
                      refine n_obj 11 hn532 cd_De_init rfl rfl rfl rfl (by decide) rfl (fun B536 h536 => ?_)
                      have hf537 := fr0_f h536.1
                      have f538_0 := fr_lt hf537 f525_0
                      have g538_0 := (fr_K hf537 f525_0).trans g525_0
                      have f538_1 := fr_lt hf537 f525_1
                      have g538_1 := (fr_K hf537 f525_1).trans g525_1
                      have f538_2 := fr_lt hf537 f525_2
                      have g538_2 := (fr_K hf537 f525_2).trans g525_2
                      have f538_3 := fr_lt hf537 f525_3
                      have g538_3 := (fr_K hf537 f525_3).trans g525_3
                      have f538_4 := fr_lt hf537 f525_4
                      have g538_4 := (fr_K hf537 f525_4).trans g525_4
                      have f538_5 := fr_lt hf537 f525_5
                      have g538_5 := (fr_K hf537 f525_5).trans g525_5
                      have f538_6 := fr_lt hf537 f525_6
                      have g538_6 := (fr_K hf537 f525_6).trans g525_6
                      have f538_7 := fr_lt hf537 f525_7
                      have g538_7 := (fr_K hf537 f525_7).trans g525_7
                      have f538_8 := fr_lt hf537 f525_8
                      have g538_8 := (fr_K hf537 f525_8).trans g525_8
                      have f538_9 := fr_lt hf537 f525_9
                      have g538_9 := (fr_K hf537 f525_9).trans g525_9
                      have f538_10 := fr_lt hf537 f525_10
                      have g538_10 := (fr_K hf537 f525_10).trans g525_10
                      have f538_11 := fr_lt hf537 f525_11
                      have g538_11 := (fr_K hf537 f525_11).trans g525_11
                      have f538_12 := fr_lt hf537 f525_12
                      have g538_12 := (fr_K hf537 f525_12).trans g525_12
                      have f538_13 := fr_lt hf537 f525_13
                      have g538_13 := (fr_K hf537 f525_13).trans g525_13
                      have f538_14 := fr_lt hf537 f525_14
                      have g538_14 := (fr_K hf537 f525_14).trans g525_14
                      have f538_15 := fr_lt hf537 f525_15
                      have g538_15 := (fr_K hf537 f525_15).trans g525_15
                      have f538_16 := fr_lt hf537 f525_16
                      have g538_16 := (fr_K hf537 f525_16).trans g525_16
                      have f538_17 := fr_lt hf537 h523.2.2.2.1
                      have g538_17 := (fr_K hf537 h523.2.2.2.1).trans h523.2.2.2.2
                      have r538_0 : bm_FR B536 0 0 m = some (m + 1) := (fr_FR hf537 f525_0 (fun q => q) 0 0).trans r525_0
                      have r538_1 : bm_FR B536 0 1 m = some (m + 6) := (fr_FR hf537 f525_0 (fun q => q) 0 1).trans r525_1
                      have r538_2 : bm_FR B536 0 2 m = some (m + 7) := (fr_FR hf537 f525_0 (fun q => q) 0 2).trans r525_2
                      have r538_3 : bm_FR B536 0 3 m = some (m + 8) := (fr_FR hf537 f525_0 (fun q => q) 0 3).trans r525_3
                      have r538_4 : bm_FR B536 0 4 m = some (m + 9) := (fr_FR hf537 f525_0 (fun q => q) 0 4).trans r525_4
                      have r538_5 : bm_FR B536 0 5 m = some (m + 10) := (fr_FR hf537 f525_0 (fun q => q) 0 5).trans r525_5
                      have u538_0 : bm_AI B536 (m + 6) = (fun _ => 0) := (fr_AI hf537 f525_4 (fun q => q)).trans u525_0
                      have u538_1 : bm_AI B536 (m + 7) = (fun _ => 0) := (fr_AI hf537 f525_5 (fun q => q)).trans u525_1
                      have u538_2 : bm_AI B536 (m + 8) = (fun _ => 0) := (fr_AI hf537 f525_6 (fun q => q)).trans u525_2
                      have w538_0 : bm_AL B536 (m + 1) = 2 := (fr_AL hf537 f525_1).trans w525_0
                      have w538_1 : bm_AL B536 (m + 6) = 4 := (fr_AL hf537 f525_4).trans w525_1
                      have w538_2 : bm_AL B536 (m + 7) = 4 := (fr_AL hf537 f525_5).trans w525_2
                      have w538_3 : bm_AL B536 (m + 8) = 6 := (fr_AL hf537 f525_6).trans w525_3
                      have w538_4 : bm_AL B536 (m + 9) = 12 := (fr_AL hf537 f525_7).trans w525_4
                      have w538_5 : bm_AL B536 (m + 10) = 4 := (fr_AL hf537 f525_8).trans w525_5
                      have t539_0 : ∀ c k, bm_FI B536 c k m = 0 := fun c k => (fr_FI (fr0_f h536.1) f525_0 (fun q => q) c k).trans (t531_0 c k)
                      have t539_1 : ∀ i, i < 2 → stb (PPk (m + 2 + 2 * i)) (m + 2 + 2 * i) (m + 2 + 2 * i + 2) B536 := fun i hi => stb_fr0 (t531_1 i hi) h536.1 (oq_136 hn532 hi)
                      have t539_2 : ∀ i, i < 2 → bm_AR B536 ((m + 1)) i = some (m + 2 + 2 * i) := fun i hi => (congrFun (fr_AR (fr0_f h536.1) f525_1 (fun q => q)) i).trans (t531_2 i hi)
                      have t539_3 : ∀ i, i < 9 → stb (PSe (m + 11 + 3 * i)) (m + 11 + 3 * i) (m + 11 + 3 * i + 3) B536 := fun i hi => stb_fr0 (t531_3 i hi) h536.1 (oq_137 hn532 hi)
                      have t539_4 : ∀ i, i < 0 → stb (PMe (m + 47 + 39 * i)) (m + 47 + 39 * i) (m + 47 + 39 * i + 39) B536 := fun i hi => stb_fr0 (t531_4 i hi) h536.1 (oq_139 hn532 hi)
                      have t539_5 : ∀ i, i < 0 → bm_AR B536 ((m + 10)) i = some (m + 47 + 39 * i) := fun i hi => (congrFun (fr_AR (fr0_f h536.1) f525_8 (fun q => q)) i).trans (t531_5 i hi)
                      have t539_6 : ∀ i, i < 9 → bm_AR B536 ((m + 9)) i = some (m + 11 + 3 * i) := fun i hi => (congrFun (fr_AR (fr0_f h536.1) f525_7 (fun q => q)) i).trans (R535 i hi)
                      refine g_pure (pc' := 91) (st' := [.ref ((m + 11 + 3 * 9)), .ref ((m + 11 + 3 * 9)), .int 9, .ref ((m + 9))]) cd_De_init rfl rfl (fun _ _ => rfl) ?_
                      refine g_callv (pc' := 94) cd_De_init rfl rfl rfl rfl rfl (tm_invI rfl rfl cd_Se_init rfl (Nat.le_of_ble_eq_true rfl)) (i_Se hn532 h536 (fun B540 h540 => ?_))
                      have hf541 := fr0_f h540.1
                      have f542_0 := fr_lt hf541 f525_0
                      have g542_0 := (fr_K hf541 f525_0).trans g525_0
                      have f542_1 := fr_lt hf541 f525_1
                      have g542_1 := (fr_K hf541 f525_1).trans g525_1
                      have f542_2 := fr_lt hf541 f525_2
                      have g542_2 := (fr_K hf541 f525_2).trans g525_2
                      have f542_3 := fr_lt hf541 f525_3
                      have g542_3 := (fr_K hf541 f525_3).trans g525_3
                      have f542_4 := fr_lt hf541 f525_4
                      have g542_4 := (fr_K hf541 f525_4).trans g525_4
                      have f542_5 := fr_lt hf541 f525_5
                      have g542_5 := (fr_K hf541 f525_5).trans g525_5
                      have f542_6 := fr_lt hf541 f525_6
                      have g542_6 := (fr_K hf541 f525_6).trans g525_6
                      have f542_7 := fr_lt hf541 f525_7
                      have g542_7 := (fr_K hf541 f525_7).trans g525_7
                      have f542_8 := fr_lt hf541 f525_8
                      have g542_8 := (fr_K hf541 f525_8).trans g525_8
                      have f542_9 := fr_lt hf541 f525_9
                      have g542_9 := (fr_K hf541 f525_9).trans g525_9
                      have f542_10 := fr_lt hf541 f525_10
                      have g542_10 := (fr_K hf541 f525_10).trans g525_10
                      have f542_11 := fr_lt hf541 f525_11
                      have g542_11 := (fr_K hf541 f525_11).trans g525_11
                      have f542_12 := fr_lt hf541 f525_12
                      have g542_12 := (fr_K hf541 f525_12).trans g525_12
                      have f542_13 := fr_lt hf541 f525_13
                      have g542_13 := (fr_K hf541 f525_13).trans g525_13
                      have f542_14 := fr_lt hf541 f525_14
                      have g542_14 := (fr_K hf541 f525_14).trans g525_14
                      have f542_15 := fr_lt hf541 f525_15
                      have g542_15 := (fr_K hf541 f525_15).trans g525_15
                      have f542_16 := fr_lt hf541 f525_16
                      have g542_16 := (fr_K hf541 f525_16).trans g525_16
                      have f542_17 := fr_lt hf541 h523.2.2.2.1
                      have g542_17 := (fr_K hf541 h523.2.2.2.1).trans h523.2.2.2.2
                      have r542_0 : bm_FR B540 0 0 m = some (m + 1) := (fr_FR hf541 f525_0 (fun q => q) 0 0).trans r525_0
                      have r542_1 : bm_FR B540 0 1 m = some (m + 6) := (fr_FR hf541 f525_0 (fun q => q) 0 1).trans r525_1
                      have r542_2 : bm_FR B540 0 2 m = some (m + 7) := (fr_FR hf541 f525_0 (fun q => q) 0 2).trans r525_2
                      have r542_3 : bm_FR B540 0 3 m = some (m + 8) := (fr_FR hf541 f525_0 (fun q => q) 0 3).trans r525_3
                      have r542_4 : bm_FR B540 0 4 m = some (m + 9) := (fr_FR hf541 f525_0 (fun q => q) 0 4).trans r525_4
                      have r542_5 : bm_FR B540 0 5 m = some (m + 10) := (fr_FR hf541 f525_0 (fun q => q) 0 5).trans r525_5
                      have u542_0 : bm_AI B540 (m + 6) = (fun _ => 0) := (fr_AI hf541 f525_4 (fun q => q)).trans u525_0
                      have u542_1 : bm_AI B540 (m + 7) = (fun _ => 0) := (fr_AI hf541 f525_5 (fun q => q)).trans u525_1
                      have u542_2 : bm_AI B540 (m + 8) = (fun _ => 0) := (fr_AI hf541 f525_6 (fun q => q)).trans u525_2
                      have w542_0 : bm_AL B540 (m + 1) = 2 := (fr_AL hf541 f525_1).trans w525_0
                      have w542_1 : bm_AL B540 (m + 6) = 4 := (fr_AL hf541 f525_4).trans w525_1
                      have w542_2 : bm_AL B540 (m + 7) = 4 := (fr_AL hf541 f525_5).trans w525_2
                      have w542_3 : bm_AL B540 (m + 8) = 6 := (fr_AL hf541 f525_6).trans w525_3
                      have w542_4 : bm_AL B540 (m + 9) = 12 := (fr_AL hf541 f525_7).trans w525_4
                      have w542_5 : bm_AL B540 (m + 10) = 4 := (fr_AL hf541 f525_8).trans w525_5
                      have t543_0 : ∀ c k, bm_FI B540 c k m = 0 := fun c k => (fr_FI (fr0_f h540.1) f525_0 (fun q => q) c k).trans (t531_0 c k)
                      have t543_1 : ∀ i, i < 2 → stb (PPk (m + 2 + 2 * i)) (m + 2 + 2 * i) (m + 2 + 2 * i + 2) B540 := fun i hi => stb_fr0 (t531_1 i hi) h540.1 (oq_136 hn532 hi)
                      have t543_2 : ∀ i, i < 2 → bm_AR B540 ((m + 1)) i = some (m + 2 + 2 * i) := fun i hi => (congrFun (fr_AR (fr0_f h540.1) f525_1 (fun q => q)) i).trans (t531_2 i hi)
                      have t543_3 : ∀ i, i < 9 → stb (PSe (m + 11 + 3 * i)) (m + 11 + 3 * i) (m + 11 + 3 * i + 3) B540 := fun i hi => stb_fr0 (t531_3 i hi) h540.1 (oq_137 hn532 hi)
                      have t543_4 : ∀ i, i < 0 → stb (PMe (m + 47 + 39 * i)) (m + 47 + 39 * i) (m + 47 + 39 * i + 39) B540 := fun i hi => stb_fr0 (t531_4 i hi) h540.1 (oq_139 hn532 hi)
                      have t543_5 : ∀ i, i < 0 → bm_AR B540 ((m + 10)) i = some (m + 47 + 39 * i) := fun i hi => (congrFun (fr_AR (fr0_f h540.1) f525_8 (fun q => q)) i).trans (t531_5 i hi)
                      have t543_6 : ∀ i, i < 9 → bm_AR B540 ((m + 9)) i = some (m + 11 + 3 * i) := fun i hi => (congrFun (fr_AR (fr0_f h540.1) f525_7 (fun q => q)) i).trans (R535 i hi)
                      have hn544 : bm_n B540 = (m + 11 + 3 * 10) := (oq_140 h540.2.1.1)
                      have sl545 : bm_sl B540 = bm_sl B0 + 457 := by rw [h540.2.1.2, sl533]
                      have f0546 : fr0 B0 B540 := fr0_trans f0534 h540.1
                      have F547 : ∀ i, i < 10 → stb (PSe (m + 11 + 3 * i)) (m + 11 + 3 * i) (m + 11 + 3 * i + 3) B540 := al_step (P := fun i => stb (PSe (m + 11 + 3 * i)) (m + 11 + 3 * i) (m + 11 + 3 * i + 3) B540) t543_3 h540.2.2.1
                      show bm_G _ _ _ 94 _ [.ref ((m + 11 + 3 * 9)), .int 9, .ref ((m + 9))] B540 _
                      refine g_aast (t := 5) (pc' := 95) cd_De_init rfl rfl f542_7 g542_7 (by decide) rfl rfl h540.2.2.2.1 h540.2.2.2.2 (by rw [show bm_AL B540 (m + 9) = 12 from w542_4]; exact vp_in_nI (n := 9) (by decide) (by decide)) ?_
                      rw [show (9 : Int32).toNatClampNeg = 9 from by decide]
                      have t548_0 : ∀ c k, bm_FI (bm_setR B540 (m + 9) 9 (some ((m + 11 + 3 * 9)))) c k m = 0 := t543_0
                      have t548_1 : ∀ i, i < 2 → stb (PPk (m + 2 + 2 * i)) (m + 2 + 2 * i) (m + 2 + 2 * i + 2) (bm_setR B540 (m + 9) 9 (some ((m + 11 + 3 * 9)))) := fun i hi => stb_setR (t543_1 i hi) (oq_141 hn544 hi) (oq_92 hi)
                      have t548_2 : ∀ i, i < 2 → bm_AR (bm_setR B540 (m + 9) 9 (some ((m + 11 + 3 * 9)))) ((m + 1)) i = some (m + 2 + 2 * i) := fun i hi => (if_neg (fun q => absurd q.1 oq_93)).trans (t543_2 i hi)
                      have t548_3 : ∀ i, i < 10 → stb (PSe (m + 11 + 3 * i)) (m + 11 + 3 * i) (m + 11 + 3 * i + 3) (bm_setR B540 (m + 9) 9 (some ((m + 11 + 3 * 9)))) := fun i hi => stb_setR (F547 i hi) (oq_142 hn544 hi) (oq_143 hi)
                      have t548_4 : ∀ i, i < 0 → stb (PMe (m + 47 + 39 * i)) (m + 47 + 39 * i) (m + 47 + 39 * i + 39) (bm_setR B540 (m + 9) 9 (some ((m + 11 + 3 * 9)))) := fun i hi => stb_setR (t543_4 i hi) (oq_144 hn544 hi) (oq_97 hi)
                      have t548_5 : ∀ i, i < 0 → bm_AR (bm_setR B540 (m + 9) 9 (some ((m + 11 + 3 * 9)))) ((m + 10)) i = some (m + 47 + 39 * i) := fun i hi => (if_neg (fun q => absurd q.1 oq_98)).trans (t543_5 i hi)
                      have hn549 : bm_n (bm_setR B540 (m + 9) 9 (some ((m + 11 + 3 * 9)))) = (m + 11 + 3 * 10) := hn544
                      have sl550 : bm_sl (bm_setR B540 (m + 9) 9 (some ((m + 11 + 3 * 9)))) = bm_sl B0 + 457 := sl545
                      have f0551 : fr0 B0 (bm_setR B540 (m + 9) 9 (some ((m + 11 + 3 * 9)))) := fr0_setR f0546 (oq_99 hm)
                      have R552 : ∀ i, i < 10 → bm_AR (bm_setR B540 (m + 9) 9 (some ((m + 11 + 3 * 9)))) ((m + 9)) i = some (m + 11 + 3 * i) := ars_step (f := fun i => m + 11 + 3 * i) t543_6
                      refine g_inc (y := 10) (pc' := 98) cd_De_init rfl l1 (by decide) (by decide) rfl (fun lv el => ?_)
                      have l0 := tm_lk el l0 rfl (by decide)
                      have l1 : lv.lookup 1 = some (.int 10) := tm_lks el
                      clear el
                      refine g_pure (pc' := 73) (st' := []) cd_De_init rfl rfl (fun _ _ => rfl) ?_
                      refine g_ild (pc' := 74) cd_De_init rfl (Or.inr ⟨_, rfl, rfl, rfl⟩) l1 rfl ?_
                      refine g_ald (pc' := 75) cd_De_init rfl (Or.inr ⟨_, rfl, rfl, rfl⟩) l0 rfl rfl ?_
                      refine g_fR (c := 0) (k := 4) (x := (m + 9)) (pc' := 78) cd_De_init rfl rfl rfl rfl rfl (by decide) f542_0 g542_0 r542_4 ?_
                      refine g_al (x := 12) (pc' := 79) cd_De_init rfl rfl f542_7 (by rw [show bm_K (bm_setR B540 (m + 9) 9 (some ((m + 11 + 3 * 9)))) (m + 9) = 18 from g542_7]; decide) (by rw [show bm_K (bm_setR B540 (m + 9) 9 (some ((m + 11 + 3 * 9)))) (m + 9) = 18 from g542_7]; decide) (by rw [show bm_AL (bm_setR B540 (m + 9) 9 (some ((m + 11 + 3 * 9)))) (m + 9) = 12 from w542_4]; rfl) ?_
                      refine g_if2 (t := 101) (pc' := 82) cd_De_init rfl rfl rfl (fun c79 => ?_) (fun c79 => ?_)
                      · exact absurd (show (12 : Int32) ≤ 10 from c79) (by decide)
                      · have c79 : ¬ (12 : Int32) ≤ 10 := c79
                        refine g_ald (pc' := 83) cd_De_init rfl (Or.inr ⟨_, rfl, rfl, rfl⟩) l0 rfl rfl ?_
                        refine g_fR (c := 0) (k := 4) (x := (m + 9)) (pc' := 86) cd_De_init rfl rfl rfl rfl rfl (by decide) f542_0 g542_0 r542_4 ?_
                        refine g_ild (pc' := 87) cd_De_init rfl (Or.inr ⟨_, rfl, rfl, rfl⟩) l1 rfl ?_
                        refine n_obj 11 hn549 cd_De_init rfl rfl rfl rfl (by decide) rfl (fun B553 h553 => ?_)
                        have hf554 := fr0_f h553.1
                        have f555_0 := fr_lt hf554 f542_0
                        have g555_0 := (fr_K hf554 f542_0).trans g542_0
                        have f555_1 := fr_lt hf554 f542_1
                        have g555_1 := (fr_K hf554 f542_1).trans g542_1
                        have f555_2 := fr_lt hf554 f542_2
                        have g555_2 := (fr_K hf554 f542_2).trans g542_2
                        have f555_3 := fr_lt hf554 f542_3
                        have g555_3 := (fr_K hf554 f542_3).trans g542_3
                        have f555_4 := fr_lt hf554 f542_4
                        have g555_4 := (fr_K hf554 f542_4).trans g542_4
                        have f555_5 := fr_lt hf554 f542_5
                        have g555_5 := (fr_K hf554 f542_5).trans g542_5
                        have f555_6 := fr_lt hf554 f542_6
                        have g555_6 := (fr_K hf554 f542_6).trans g542_6
                        have f555_7 := fr_lt hf554 f542_7
                        have g555_7 := (fr_K hf554 f542_7).trans g542_7
                        have f555_8 := fr_lt hf554 f542_8
                        have g555_8 := (fr_K hf554 f542_8).trans g542_8
                        have f555_9 := fr_lt hf554 f542_9
                        have g555_9 := (fr_K hf554 f542_9).trans g542_9
                        have f555_10 := fr_lt hf554 f542_10
                        have g555_10 := (fr_K hf554 f542_10).trans g542_10
                        have f555_11 := fr_lt hf554 f542_11
                        have g555_11 := (fr_K hf554 f542_11).trans g542_11
                        have f555_12 := fr_lt hf554 f542_12
                        have g555_12 := (fr_K hf554 f542_12).trans g542_12
                        have f555_13 := fr_lt hf554 f542_13
                        have g555_13 := (fr_K hf554 f542_13).trans g542_13
                        have f555_14 := fr_lt hf554 f542_14
                        have g555_14 := (fr_K hf554 f542_14).trans g542_14
                        have f555_15 := fr_lt hf554 f542_15
                        have g555_15 := (fr_K hf554 f542_15).trans g542_15
                        have f555_16 := fr_lt hf554 f542_16
                        have g555_16 := (fr_K hf554 f542_16).trans g542_16
                        have f555_17 := fr_lt hf554 f542_17
                        have g555_17 := (fr_K hf554 f542_17).trans g542_17
                        have f555_18 := fr_lt hf554 h540.2.2.2.1
                        have g555_18 := (fr_K hf554 h540.2.2.2.1).trans h540.2.2.2.2
                        have r555_0 : bm_FR B553 0 0 m = some (m + 1) := (fr_FR hf554 f542_0 (fun q => q) 0 0).trans r542_0
                        have r555_1 : bm_FR B553 0 1 m = some (m + 6) := (fr_FR hf554 f542_0 (fun q => q) 0 1).trans r542_1
                        have r555_2 : bm_FR B553 0 2 m = some (m + 7) := (fr_FR hf554 f542_0 (fun q => q) 0 2).trans r542_2
                        have r555_3 : bm_FR B553 0 3 m = some (m + 8) := (fr_FR hf554 f542_0 (fun q => q) 0 3).trans r542_3
                        have r555_4 : bm_FR B553 0 4 m = some (m + 9) := (fr_FR hf554 f542_0 (fun q => q) 0 4).trans r542_4
                        have r555_5 : bm_FR B553 0 5 m = some (m + 10) := (fr_FR hf554 f542_0 (fun q => q) 0 5).trans r542_5
                        have u555_0 : bm_AI B553 (m + 6) = (fun _ => 0) := (fr_AI hf554 f542_4 (fun q => q)).trans u542_0
                        have u555_1 : bm_AI B553 (m + 7) = (fun _ => 0) := (fr_AI hf554 f542_5 (fun q => q)).trans u542_1
                        have u555_2 : bm_AI B553 (m + 8) = (fun _ => 0) := (fr_AI hf554 f542_6 (fun q => q)).trans u542_2
                        have w555_0 : bm_AL B553 (m + 1) = 2 := (fr_AL hf554 f542_1).trans w542_0
                        have w555_1 : bm_AL B553 (m + 6) = 4 := (fr_AL hf554 f542_4).trans w542_1
                        have w555_2 : bm_AL B553 (m + 7) = 4 := (fr_AL hf554 f542_5).trans w542_2
                        have w555_3 : bm_AL B553 (m + 8) = 6 := (fr_AL hf554 f542_6).trans w542_3
                        have w555_4 : bm_AL B553 (m + 9) = 12 := (fr_AL hf554 f542_7).trans w542_4
                        have w555_5 : bm_AL B553 (m + 10) = 4 := (fr_AL hf554 f542_8).trans w542_5
                        have t556_0 : ∀ c k, bm_FI B553 c k m = 0 := fun c k => (fr_FI (fr0_f h553.1) f542_0 (fun q => q) c k).trans (t548_0 c k)
                        have t556_1 : ∀ i, i < 2 → stb (PPk (m + 2 + 2 * i)) (m + 2 + 2 * i) (m + 2 + 2 * i + 2) B553 := fun i hi => stb_fr0 (t548_1 i hi) h553.1 (oq_141 hn549 hi)
                        have t556_2 : ∀ i, i < 2 → bm_AR B553 ((m + 1)) i = some (m + 2 + 2 * i) := fun i hi => (congrFun (fr_AR (fr0_f h553.1) f542_1 (fun q => q)) i).trans (t548_2 i hi)
                        have t556_3 : ∀ i, i < 10 → stb (PSe (m + 11 + 3 * i)) (m + 11 + 3 * i) (m + 11 + 3 * i + 3) B553 := fun i hi => stb_fr0 (t548_3 i hi) h553.1 (oq_142 hn549 hi)
                        have t556_4 : ∀ i, i < 0 → stb (PMe (m + 47 + 39 * i)) (m + 47 + 39 * i) (m + 47 + 39 * i + 39) B553 := fun i hi => stb_fr0 (t548_4 i hi) h553.1 (oq_144 hn549 hi)
                        have t556_5 : ∀ i, i < 0 → bm_AR B553 ((m + 10)) i = some (m + 47 + 39 * i) := fun i hi => (congrFun (fr_AR (fr0_f h553.1) f542_8 (fun q => q)) i).trans (t548_5 i hi)
                        have t556_6 : ∀ i, i < 10 → bm_AR B553 ((m + 9)) i = some (m + 11 + 3 * i) := fun i hi => (congrFun (fr_AR (fr0_f h553.1) f542_7 (fun q => q)) i).trans (R552 i hi)
                        refine g_pure (pc' := 91) (st' := [.ref ((m + 11 + 3 * 10)), .ref ((m + 11 + 3 * 10)), .int 10, .ref ((m + 9))]) cd_De_init rfl rfl (fun _ _ => rfl) ?_
                        refine g_callv (pc' := 94) cd_De_init rfl rfl rfl rfl rfl (tm_invI rfl rfl cd_Se_init rfl (Nat.le_of_ble_eq_true rfl)) (i_Se hn549 h553 (fun B557 h557 => ?_))
                        have hf558 := fr0_f h557.1
                        have f559_0 := fr_lt hf558 f542_0
                        have g559_0 := (fr_K hf558 f542_0).trans g542_0
                        have f559_1 := fr_lt hf558 f542_1
                        have g559_1 := (fr_K hf558 f542_1).trans g542_1
                        have f559_2 := fr_lt hf558 f542_2
                        have g559_2 := (fr_K hf558 f542_2).trans g542_2
                        have f559_3 := fr_lt hf558 f542_3
                        have g559_3 := (fr_K hf558 f542_3).trans g542_3
                        have f559_4 := fr_lt hf558 f542_4
                        have g559_4 := (fr_K hf558 f542_4).trans g542_4
                        have f559_5 := fr_lt hf558 f542_5
                        have g559_5 := (fr_K hf558 f542_5).trans g542_5
                        have f559_6 := fr_lt hf558 f542_6
                        have g559_6 := (fr_K hf558 f542_6).trans g542_6
                        have f559_7 := fr_lt hf558 f542_7
                        have g559_7 := (fr_K hf558 f542_7).trans g542_7
                        have f559_8 := fr_lt hf558 f542_8
                        have g559_8 := (fr_K hf558 f542_8).trans g542_8
                        have f559_9 := fr_lt hf558 f542_9
                        have g559_9 := (fr_K hf558 f542_9).trans g542_9
                        have f559_10 := fr_lt hf558 f542_10
                        have g559_10 := (fr_K hf558 f542_10).trans g542_10
                        have f559_11 := fr_lt hf558 f542_11
                        have g559_11 := (fr_K hf558 f542_11).trans g542_11
                        have f559_12 := fr_lt hf558 f542_12
                        have g559_12 := (fr_K hf558 f542_12).trans g542_12
                        have f559_13 := fr_lt hf558 f542_13
                        have g559_13 := (fr_K hf558 f542_13).trans g542_13
                        have f559_14 := fr_lt hf558 f542_14
                        have g559_14 := (fr_K hf558 f542_14).trans g542_14
                        have f559_15 := fr_lt hf558 f542_15
                        have g559_15 := (fr_K hf558 f542_15).trans g542_15
                        have f559_16 := fr_lt hf558 f542_16
                        have g559_16 := (fr_K hf558 f542_16).trans g542_16
                        have f559_17 := fr_lt hf558 f542_17
                        have g559_17 := (fr_K hf558 f542_17).trans g542_17
                        have f559_18 := fr_lt hf558 h540.2.2.2.1
                        have g559_18 := (fr_K hf558 h540.2.2.2.1).trans h540.2.2.2.2
                        have r559_0 : bm_FR B557 0 0 m = some (m + 1) := (fr_FR hf558 f542_0 (fun q => q) 0 0).trans r542_0
                        have r559_1 : bm_FR B557 0 1 m = some (m + 6) := (fr_FR hf558 f542_0 (fun q => q) 0 1).trans r542_1
                        have r559_2 : bm_FR B557 0 2 m = some (m + 7) := (fr_FR hf558 f542_0 (fun q => q) 0 2).trans r542_2
                        have r559_3 : bm_FR B557 0 3 m = some (m + 8) := (fr_FR hf558 f542_0 (fun q => q) 0 3).trans r542_3
                        have r559_4 : bm_FR B557 0 4 m = some (m + 9) := (fr_FR hf558 f542_0 (fun q => q) 0 4).trans r542_4
                        have r559_5 : bm_FR B557 0 5 m = some (m + 10) := (fr_FR hf558 f542_0 (fun q => q) 0 5).trans r542_5
                        have u559_0 : bm_AI B557 (m + 6) = (fun _ => 0) := (fr_AI hf558 f542_4 (fun q => q)).trans u542_0
                        have u559_1 : bm_AI B557 (m + 7) = (fun _ => 0) := (fr_AI hf558 f542_5 (fun q => q)).trans u542_1
                        have u559_2 : bm_AI B557 (m + 8) = (fun _ => 0) := (fr_AI hf558 f542_6 (fun q => q)).trans u542_2
                        have w559_0 : bm_AL B557 (m + 1) = 2 := (fr_AL hf558 f542_1).trans w542_0
                        have w559_1 : bm_AL B557 (m + 6) = 4 := (fr_AL hf558 f542_4).trans w542_1
                        have w559_2 : bm_AL B557 (m + 7) = 4 := (fr_AL hf558 f542_5).trans w542_2
                        have w559_3 : bm_AL B557 (m + 8) = 6 := (fr_AL hf558 f542_6).trans w542_3
                        have w559_4 : bm_AL B557 (m + 9) = 12 := (fr_AL hf558 f542_7).trans w542_4
                        have w559_5 : bm_AL B557 (m + 10) = 4 := (fr_AL hf558 f542_8).trans w542_5
                        have t560_0 : ∀ c k, bm_FI B557 c k m = 0 := fun c k => (fr_FI (fr0_f h557.1) f542_0 (fun q => q) c k).trans (t548_0 c k)
                        have t560_1 : ∀ i, i < 2 → stb (PPk (m + 2 + 2 * i)) (m + 2 + 2 * i) (m + 2 + 2 * i + 2) B557 := fun i hi => stb_fr0 (t548_1 i hi) h557.1 (oq_141 hn549 hi)
                        have t560_2 : ∀ i, i < 2 → bm_AR B557 ((m + 1)) i = some (m + 2 + 2 * i) := fun i hi => (congrFun (fr_AR (fr0_f h557.1) f542_1 (fun q => q)) i).trans (t548_2 i hi)
                        have t560_3 : ∀ i, i < 10 → stb (PSe (m + 11 + 3 * i)) (m + 11 + 3 * i) (m + 11 + 3 * i + 3) B557 := fun i hi => stb_fr0 (t548_3 i hi) h557.1 (oq_142 hn549 hi)
                        have t560_4 : ∀ i, i < 0 → stb (PMe (m + 47 + 39 * i)) (m + 47 + 39 * i) (m + 47 + 39 * i + 39) B557 := fun i hi => stb_fr0 (t548_4 i hi) h557.1 (oq_144 hn549 hi)
                        have t560_5 : ∀ i, i < 0 → bm_AR B557 ((m + 10)) i = some (m + 47 + 39 * i) := fun i hi => (congrFun (fr_AR (fr0_f h557.1) f542_8 (fun q => q)) i).trans (t548_5 i hi)
                        have t560_6 : ∀ i, i < 10 → bm_AR B557 ((m + 9)) i = some (m + 11 + 3 * i) := fun i hi => (congrFun (fr_AR (fr0_f h557.1) f542_7 (fun q => q)) i).trans (R552 i hi)
                        have hn561 : bm_n B557 = (m + 11 + 3 * 11) := (oq_145 h557.2.1.1)
                        have sl562 : bm_sl B557 = bm_sl B0 + 497 := by rw [h557.2.1.2, sl550]
                        have f0563 : fr0 B0 B557 := fr0_trans f0551 h557.1
                        have F564 : ∀ i, i < 11 → stb (PSe (m + 11 + 3 * i)) (m + 11 + 3 * i) (m + 11 + 3 * i + 3) B557 := al_step (P := fun i => stb (PSe (m + 11 + 3 * i)) (m + 11 + 3 * i) (m + 11 + 3 * i + 3) B557) t560_3 h557.2.2.1
                        show bm_G _ _ _ 94 _ [.ref ((m + 11 + 3 * 10)), .int 10, .ref ((m + 9))] B557 _
                        refine g_aast (t := 5) (pc' := 95) cd_De_init rfl rfl f559_7 g559_7 (by decide) rfl rfl h557.2.2.2.1 h557.2.2.2.2 (by rw [show bm_AL B557 (m + 9) = 12 from w559_4]; exact vp_in_nI (n := 10) (by decide) (by decide)) ?_
                        rw [show (10 : Int32).toNatClampNeg = 10 from by decide]
                        have t565_0 : ∀ c k, bm_FI (bm_setR B557 (m + 9) 10 (some ((m + 11 + 3 * 10)))) c k m = 0 := t560_0
                        have t565_1 : ∀ i, i < 2 → stb (PPk (m + 2 + 2 * i)) (m + 2 + 2 * i) (m + 2 + 2 * i + 2) (bm_setR B557 (m + 9) 10 (some ((m + 11 + 3 * 10)))) := fun i hi => stb_setR (t560_1 i hi) (oq_146 hn561 hi) (oq_92 hi)
                        have t565_2 : ∀ i, i < 2 → bm_AR (bm_setR B557 (m + 9) 10 (some ((m + 11 + 3 * 10)))) ((m + 1)) i = some (m + 2 + 2 * i) := fun i hi => (if_neg (fun q => absurd q.1 oq_93)).trans (t560_2 i hi)
                        have t565_3 : ∀ i, i < 11 → stb (PSe (m + 11 + 3 * i)) (m + 11 + 3 * i) (m + 11 + 3 * i + 3) (bm_setR B557 (m + 9) 10 (some ((m + 11 + 3 * 10)))) := fun i hi => stb_setR (F564 i hi) (oq_147 hn561 hi) (oq_148 hi)
                        have t565_4 : ∀ i, i < 0 → stb (PMe (m + 47 + 39 * i)) (m + 47 + 39 * i) (m + 47 + 39 * i + 39) (bm_setR B557 (m + 9) 10 (some ((m + 11 + 3 * 10)))) := fun i hi => stb_setR (t560_4 i hi) (oq_149 hn561 hi) (oq_97 hi)
                        have t565_5 : ∀ i, i < 0 → bm_AR (bm_setR B557 (m + 9) 10 (some ((m + 11 + 3 * 10)))) ((m + 10)) i = some (m + 47 + 39 * i) := fun i hi => (if_neg (fun q => absurd q.1 oq_98)).trans (t560_5 i hi)
                        have hn566 : bm_n (bm_setR B557 (m + 9) 10 (some ((m + 11 + 3 * 10)))) = (m + 11 + 3 * 11) := hn561
                        have sl567 : bm_sl (bm_setR B557 (m + 9) 10 (some ((m + 11 + 3 * 10)))) = bm_sl B0 + 497 := sl562
                        have f0568 : fr0 B0 (bm_setR B557 (m + 9) 10 (some ((m + 11 + 3 * 10)))) := fr0_setR f0563 (oq_99 hm)
                        have R569 : ∀ i, i < 11 → bm_AR (bm_setR B557 (m + 9) 10 (some ((m + 11 + 3 * 10)))) ((m + 9)) i = some (m + 11 + 3 * i) := ars_step (f := fun i => m + 11 + 3 * i) t560_6
                        refine g_inc (y := 11) (pc' := 98) cd_De_init rfl l1 (by decide) (by decide) rfl (fun lv el => ?_)
                        have l0 := tm_lk el l0 rfl (by decide)
                        have l1 : lv.lookup 1 = some (.int 11) := tm_lks el
                        clear el
                        refine g_pure (pc' := 73) (st' := []) cd_De_init rfl rfl (fun _ _ => rfl) ?_
                        refine g_ild (pc' := 74) cd_De_init rfl (Or.inr ⟨_, rfl, rfl, rfl⟩) l1 rfl ?_
                        refine g_ald (pc' := 75) cd_De_init rfl (Or.inr ⟨_, rfl, rfl, rfl⟩) l0 rfl rfl ?_
                        refine g_fR (c := 0) (k := 4) (x := (m + 9)) (pc' := 78) cd_De_init rfl rfl rfl rfl rfl (by decide) f559_0 g559_0 r559_4 ?_
                        refine g_al (x := 12) (pc' := 79) cd_De_init rfl rfl f559_7 (by rw [show bm_K (bm_setR B557 (m + 9) 10 (some ((m + 11 + 3 * 10)))) (m + 9) = 18 from g559_7]; decide) (by rw [show bm_K (bm_setR B557 (m + 9) 10 (some ((m + 11 + 3 * 10)))) (m + 9) = 18 from g559_7]; decide) (by rw [show bm_AL (bm_setR B557 (m + 9) 10 (some ((m + 11 + 3 * 10)))) (m + 9) = 12 from w559_4]; rfl) ?_
                        refine g_if2 (t := 101) (pc' := 82) cd_De_init rfl rfl rfl (fun c79 => ?_) (fun c79 => ?_)
                        · exact absurd (show (12 : Int32) ≤ 11 from c79) (by decide)
                        · have c79 : ¬ (12 : Int32) ≤ 11 := c79
                          refine g_ald (pc' := 83) cd_De_init rfl (Or.inr ⟨_, rfl, rfl, rfl⟩) l0 rfl rfl ?_
                          refine g_fR (c := 0) (k := 4) (x := (m + 9)) (pc' := 86) cd_De_init rfl rfl rfl rfl rfl (by decide) f559_0 g559_0 r559_4 ?_
                          refine g_ild (pc' := 87) cd_De_init rfl (Or.inr ⟨_, rfl, rfl, rfl⟩) l1 rfl ?_
                          refine n_obj 11 hn566 cd_De_init rfl rfl rfl rfl (by decide) rfl (fun B570 h570 => ?_)
                          have hf571 := fr0_f h570.1
                          have f572_0 := fr_lt hf571 f559_0
                          have g572_0 := (fr_K hf571 f559_0).trans g559_0
                          have f572_1 := fr_lt hf571 f559_1
                          have g572_1 := (fr_K hf571 f559_1).trans g559_1
                          have f572_2 := fr_lt hf571 f559_2
                          have g572_2 := (fr_K hf571 f559_2).trans g559_2
                          have f572_3 := fr_lt hf571 f559_3
                          have g572_3 := (fr_K hf571 f559_3).trans g559_3
                          have f572_4 := fr_lt hf571 f559_4
                          have g572_4 := (fr_K hf571 f559_4).trans g559_4
                          have f572_5 := fr_lt hf571 f559_5
                          have g572_5 := (fr_K hf571 f559_5).trans g559_5
                          have f572_6 := fr_lt hf571 f559_6
                          have g572_6 := (fr_K hf571 f559_6).trans g559_6
                          have f572_7 := fr_lt hf571 f559_7
                          have g572_7 := (fr_K hf571 f559_7).trans g559_7
                          have f572_8 := fr_lt hf571 f559_8
                          have g572_8 := (fr_K hf571 f559_8).trans g559_8
                          have f572_9 := fr_lt hf571 f559_9
                          have g572_9 := (fr_K hf571 f559_9).trans g559_9
                          have f572_10 := fr_lt hf571 f559_10
                          have g572_10 := (fr_K hf571 f559_10).trans g559_10
                          have f572_11 := fr_lt hf571 f559_11
                          have g572_11 := (fr_K hf571 f559_11).trans g559_11
                          have f572_12 := fr_lt hf571 f559_12
                          have g572_12 := (fr_K hf571 f559_12).trans g559_12
                          have f572_13 := fr_lt hf571 f559_13
                          have g572_13 := (fr_K hf571 f559_13).trans g559_13
                          have f572_14 := fr_lt hf571 f559_14
                          have g572_14 := (fr_K hf571 f559_14).trans g559_14
                          have f572_15 := fr_lt hf571 f559_15
                          have g572_15 := (fr_K hf571 f559_15).trans g559_15
                          have f572_16 := fr_lt hf571 f559_16
                          have g572_16 := (fr_K hf571 f559_16).trans g559_16
                          have f572_17 := fr_lt hf571 f559_17
                          have g572_17 := (fr_K hf571 f559_17).trans g559_17
                          have f572_18 := fr_lt hf571 f559_18
                          have g572_18 := (fr_K hf571 f559_18).trans g559_18
                          have f572_19 := fr_lt hf571 h557.2.2.2.1
                          have g572_19 := (fr_K hf571 h557.2.2.2.1).trans h557.2.2.2.2
                          have r572_0 : bm_FR B570 0 0 m = some (m + 1) := (fr_FR hf571 f559_0 (fun q => q) 0 0).trans r559_0
                          have r572_1 : bm_FR B570 0 1 m = some (m + 6) := (fr_FR hf571 f559_0 (fun q => q) 0 1).trans r559_1
                          have r572_2 : bm_FR B570 0 2 m = some (m + 7) := (fr_FR hf571 f559_0 (fun q => q) 0 2).trans r559_2
                          have r572_3 : bm_FR B570 0 3 m = some (m + 8) := (fr_FR hf571 f559_0 (fun q => q) 0 3).trans r559_3
                          have r572_4 : bm_FR B570 0 4 m = some (m + 9) := (fr_FR hf571 f559_0 (fun q => q) 0 4).trans r559_4
                          have r572_5 : bm_FR B570 0 5 m = some (m + 10) := (fr_FR hf571 f559_0 (fun q => q) 0 5).trans r559_5
                          have u572_0 : bm_AI B570 (m + 6) = (fun _ => 0) := (fr_AI hf571 f559_4 (fun q => q)).trans u559_0
                          have u572_1 : bm_AI B570 (m + 7) = (fun _ => 0) := (fr_AI hf571 f559_5 (fun q => q)).trans u559_1
                          have u572_2 : bm_AI B570 (m + 8) = (fun _ => 0) := (fr_AI hf571 f559_6 (fun q => q)).trans u559_2
                          have w572_0 : bm_AL B570 (m + 1) = 2 := (fr_AL hf571 f559_1).trans w559_0
                          have w572_1 : bm_AL B570 (m + 6) = 4 := (fr_AL hf571 f559_4).trans w559_1
                          have w572_2 : bm_AL B570 (m + 7) = 4 := (fr_AL hf571 f559_5).trans w559_2
                          have w572_3 : bm_AL B570 (m + 8) = 6 := (fr_AL hf571 f559_6).trans w559_3
                          have w572_4 : bm_AL B570 (m + 9) = 12 := (fr_AL hf571 f559_7).trans w559_4
                          have w572_5 : bm_AL B570 (m + 10) = 4 := (fr_AL hf571 f559_8).trans w559_5
                          have t573_0 : ∀ c k, bm_FI B570 c k m = 0 := fun c k => (fr_FI (fr0_f h570.1) f559_0 (fun q => q) c k).trans (t565_0 c k)
                          have t573_1 : ∀ i, i < 2 → stb (PPk (m + 2 + 2 * i)) (m + 2 + 2 * i) (m + 2 + 2 * i + 2) B570 := fun i hi => stb_fr0 (t565_1 i hi) h570.1 (oq_146 hn566 hi)
                          have t573_2 : ∀ i, i < 2 → bm_AR B570 ((m + 1)) i = some (m + 2 + 2 * i) := fun i hi => (congrFun (fr_AR (fr0_f h570.1) f559_1 (fun q => q)) i).trans (t565_2 i hi)
                          have t573_3 : ∀ i, i < 11 → stb (PSe (m + 11 + 3 * i)) (m + 11 + 3 * i) (m + 11 + 3 * i + 3) B570 := fun i hi => stb_fr0 (t565_3 i hi) h570.1 (oq_147 hn566 hi)
                          have t573_4 : ∀ i, i < 0 → stb (PMe (m + 47 + 39 * i)) (m + 47 + 39 * i) (m + 47 + 39 * i + 39) B570 := fun i hi => stb_fr0 (t565_4 i hi) h570.1 (oq_149 hn566 hi)
                          have t573_5 : ∀ i, i < 0 → bm_AR B570 ((m + 10)) i = some (m + 47 + 39 * i) := fun i hi => (congrFun (fr_AR (fr0_f h570.1) f559_8 (fun q => q)) i).trans (t565_5 i hi)
                          have t573_6 : ∀ i, i < 11 → bm_AR B570 ((m + 9)) i = some (m + 11 + 3 * i) := fun i hi => (congrFun (fr_AR (fr0_f h570.1) f559_7 (fun q => q)) i).trans (R569 i hi)
                          refine g_pure (pc' := 91) (st' := [.ref ((m + 11 + 3 * 11)), .ref ((m + 11 + 3 * 11)), .int 11, .ref ((m + 9))]) cd_De_init rfl rfl (fun _ _ => rfl) ?_
                          refine g_callv (pc' := 94) cd_De_init rfl rfl rfl rfl rfl (tm_invI rfl rfl cd_Se_init rfl (Nat.le_of_ble_eq_true rfl)) (i_Se hn566 h570 (fun B574 h574 => ?_))
                          have hf575 := fr0_f h574.1
                          have f576_0 := fr_lt hf575 f559_0
                          have g576_0 := (fr_K hf575 f559_0).trans g559_0
                          have f576_1 := fr_lt hf575 f559_1
                          have g576_1 := (fr_K hf575 f559_1).trans g559_1
                          have f576_2 := fr_lt hf575 f559_2
                          have g576_2 := (fr_K hf575 f559_2).trans g559_2
                          have f576_3 := fr_lt hf575 f559_3
                          have g576_3 := (fr_K hf575 f559_3).trans g559_3
                          have f576_4 := fr_lt hf575 f559_4
                          have g576_4 := (fr_K hf575 f559_4).trans g559_4
                          have f576_5 := fr_lt hf575 f559_5
                          have g576_5 := (fr_K hf575 f559_5).trans g559_5
                          have f576_6 := fr_lt hf575 f559_6
                          have g576_6 := (fr_K hf575 f559_6).trans g559_6
                          have f576_7 := fr_lt hf575 f559_7
                          have g576_7 := (fr_K hf575 f559_7).trans g559_7
                          have f576_8 := fr_lt hf575 f559_8
                          have g576_8 := (fr_K hf575 f559_8).trans g559_8
                          have f576_9 := fr_lt hf575 f559_9
                          have g576_9 := (fr_K hf575 f559_9).trans g559_9
                          have f576_10 := fr_lt hf575 f559_10
                          have g576_10 := (fr_K hf575 f559_10).trans g559_10
                          have f576_11 := fr_lt hf575 f559_11
                          have g576_11 := (fr_K hf575 f559_11).trans g559_11
                          have f576_12 := fr_lt hf575 f559_12
                          have g576_12 := (fr_K hf575 f559_12).trans g559_12
                          have f576_13 := fr_lt hf575 f559_13
                          have g576_13 := (fr_K hf575 f559_13).trans g559_13
                          have f576_14 := fr_lt hf575 f559_14
                          have g576_14 := (fr_K hf575 f559_14).trans g559_14
                          have f576_15 := fr_lt hf575 f559_15
                          have g576_15 := (fr_K hf575 f559_15).trans g559_15
                          have f576_16 := fr_lt hf575 f559_16
                          have g576_16 := (fr_K hf575 f559_16).trans g559_16
                          have f576_17 := fr_lt hf575 f559_17
                          have g576_17 := (fr_K hf575 f559_17).trans g559_17
                          have f576_18 := fr_lt hf575 f559_18
                          have g576_18 := (fr_K hf575 f559_18).trans g559_18
                          have f576_19 := fr_lt hf575 h557.2.2.2.1
                          have g576_19 := (fr_K hf575 h557.2.2.2.1).trans h557.2.2.2.2
                          have r576_0 : bm_FR B574 0 0 m = some (m + 1) := (fr_FR hf575 f559_0 (fun q => q) 0 0).trans r559_0
                          have r576_1 : bm_FR B574 0 1 m = some (m + 6) := (fr_FR hf575 f559_0 (fun q => q) 0 1).trans r559_1
                          have r576_2 : bm_FR B574 0 2 m = some (m + 7) := (fr_FR hf575 f559_0 (fun q => q) 0 2).trans r559_2
                          have r576_3 : bm_FR B574 0 3 m = some (m + 8) := (fr_FR hf575 f559_0 (fun q => q) 0 3).trans r559_3
                          have r576_4 : bm_FR B574 0 4 m = some (m + 9) := (fr_FR hf575 f559_0 (fun q => q) 0 4).trans r559_4
                          have r576_5 : bm_FR B574 0 5 m = some (m + 10) := (fr_FR hf575 f559_0 (fun q => q) 0 5).trans r559_5
                          have u576_0 : bm_AI B574 (m + 6) = (fun _ => 0) := (fr_AI hf575 f559_4 (fun q => q)).trans u559_0
                          have u576_1 : bm_AI B574 (m + 7) = (fun _ => 0) := (fr_AI hf575 f559_5 (fun q => q)).trans u559_1
                          have u576_2 : bm_AI B574 (m + 8) = (fun _ => 0) := (fr_AI hf575 f559_6 (fun q => q)).trans u559_2
                          have w576_0 : bm_AL B574 (m + 1) = 2 := (fr_AL hf575 f559_1).trans w559_0
                          have w576_1 : bm_AL B574 (m + 6) = 4 := (fr_AL hf575 f559_4).trans w559_1
                          have w576_2 : bm_AL B574 (m + 7) = 4 := (fr_AL hf575 f559_5).trans w559_2
                          have w576_3 : bm_AL B574 (m + 8) = 6 := (fr_AL hf575 f559_6).trans w559_3
                          have w576_4 : bm_AL B574 (m + 9) = 12 := (fr_AL hf575 f559_7).trans w559_4
                          have w576_5 : bm_AL B574 (m + 10) = 4 := (fr_AL hf575 f559_8).trans w559_5
                          have t577_0 : ∀ c k, bm_FI B574 c k m = 0 := fun c k => (fr_FI (fr0_f h574.1) f559_0 (fun q => q) c k).trans (t565_0 c k)
                          have t577_1 : ∀ i, i < 2 → stb (PPk (m + 2 + 2 * i)) (m + 2 + 2 * i) (m + 2 + 2 * i + 2) B574 := fun i hi => stb_fr0 (t565_1 i hi) h574.1 (oq_146 hn566 hi)
                          have t577_2 : ∀ i, i < 2 → bm_AR B574 ((m + 1)) i = some (m + 2 + 2 * i) := fun i hi => (congrFun (fr_AR (fr0_f h574.1) f559_1 (fun q => q)) i).trans (t565_2 i hi)
                          have t577_3 : ∀ i, i < 11 → stb (PSe (m + 11 + 3 * i)) (m + 11 + 3 * i) (m + 11 + 3 * i + 3) B574 := fun i hi => stb_fr0 (t565_3 i hi) h574.1 (oq_147 hn566 hi)
                          have t577_4 : ∀ i, i < 0 → stb (PMe (m + 47 + 39 * i)) (m + 47 + 39 * i) (m + 47 + 39 * i + 39) B574 := fun i hi => stb_fr0 (t565_4 i hi) h574.1 (oq_149 hn566 hi)
                          have t577_5 : ∀ i, i < 0 → bm_AR B574 ((m + 10)) i = some (m + 47 + 39 * i) := fun i hi => (congrFun (fr_AR (fr0_f h574.1) f559_8 (fun q => q)) i).trans (t565_5 i hi)
                          have t577_6 : ∀ i, i < 11 → bm_AR B574 ((m + 9)) i = some (m + 11 + 3 * i) := fun i hi => (congrFun (fr_AR (fr0_f h574.1) f559_7 (fun q => q)) i).trans (R569 i hi)
                          have hn578 : bm_n B574 = (m + 47 + 39 * 0) := (oq_150 h574.2.1.1)
                          have sl579 : bm_sl B574 = bm_sl B0 + 537 := by rw [h574.2.1.2, sl567]
                          have f0580 : fr0 B0 B574 := fr0_trans f0568 h574.1
                          have F581 : ∀ i, i < 12 → stb (PSe (m + 11 + 3 * i)) (m + 11 + 3 * i) (m + 11 + 3 * i + 3) B574 := al_step (P := fun i => stb (PSe (m + 11 + 3 * i)) (m + 11 + 3 * i) (m + 11 + 3 * i + 3) B574) t577_3 h574.2.2.1
                          show bm_G _ _ _ 94 _ [.ref ((m + 11 + 3 * 11)), .int 11, .ref ((m + 9))] B574 _
                          refine g_aast (t := 5) (pc' := 95) cd_De_init rfl rfl f576_7 g576_7 (by decide) rfl rfl h574.2.2.2.1 h574.2.2.2.2 (by rw [show bm_AL B574 (m + 9) = 12 from w576_4]; exact vp_in_nI (n := 11) (by decide) (by decide)) ?_
                          rw [show (11 : Int32).toNatClampNeg = 11 from by decide]
                          have t582_0 : ∀ c k, bm_FI (bm_setR B574 (m + 9) 11 (some ((m + 11 + 3 * 11)))) c k m = 0 := t577_0
                          have t582_1 : ∀ i, i < 2 → stb (PPk (m + 2 + 2 * i)) (m + 2 + 2 * i) (m + 2 + 2 * i + 2) (bm_setR B574 (m + 9) 11 (some ((m + 11 + 3 * 11)))) := fun i hi => stb_setR (t577_1 i hi) (oq_151 hn578 hi) (oq_92 hi)
                          have t582_2 : ∀ i, i < 2 → bm_AR (bm_setR B574 (m + 9) 11 (some ((m + 11 + 3 * 11)))) ((m + 1)) i = some (m + 2 + 2 * i) := fun i hi => (if_neg (fun q => absurd q.1 oq_93)).trans (t577_2 i hi)
                          have t582_3 : ∀ i, i < 12 → stb (PSe (m + 11 + 3 * i)) (m + 11 + 3 * i) (m + 11 + 3 * i + 3) (bm_setR B574 (m + 9) 11 (some ((m + 11 + 3 * 11)))) := fun i hi => stb_setR (F581 i hi) (oq_152 hn578 hi) (oq_153 hi)
                          have t582_4 : ∀ i, i < 0 → stb (PMe (m + 47 + 39 * i)) (m + 47 + 39 * i) (m + 47 + 39 * i + 39) (bm_setR B574 (m + 9) 11 (some ((m + 11 + 3 * 11)))) := fun i hi => stb_setR (t577_4 i hi) (oq_154 hn578 hi) (oq_97 hi)
                          have t582_5 : ∀ i, i < 0 → bm_AR (bm_setR B574 (m + 9) 11 (some ((m + 11 + 3 * 11)))) ((m + 10)) i = some (m + 47 + 39 * i) := fun i hi => (if_neg (fun q => absurd q.1 oq_98)).trans (t577_5 i hi)
                          have hn583 : bm_n (bm_setR B574 (m + 9) 11 (some ((m + 11 + 3 * 11)))) = (m + 47 + 39 * 0) := hn578
                          have sl584 : bm_sl (bm_setR B574 (m + 9) 11 (some ((m + 11 + 3 * 11)))) = bm_sl B0 + 537 := sl579
                          have f0585 : fr0 B0 (bm_setR B574 (m + 9) 11 (some ((m + 11 + 3 * 11)))) := fr0_setR f0580 (oq_99 hm)
                          have R586 : ∀ i, i < 12 → bm_AR (bm_setR B574 (m + 9) 11 (some ((m + 11 + 3 * 11)))) ((m + 9)) i = some (m + 11 + 3 * i) := ars_step (f := fun i => m + 11 + 3 * i) t577_6
                          refine g_inc (y := 12) (pc' := 98) cd_De_init rfl l1 (by decide) (by decide) rfl (fun lv el => ?_)
                          have l0 := tm_lk el l0 rfl (by decide)
                          have l1 : lv.lookup 1 = some (.int 12) := tm_lks el
                          clear el
                          refine g_pure (pc' := 73) (st' := []) cd_De_init rfl rfl (fun _ _ => rfl) ?_
                          refine g_ild (pc' := 74) cd_De_init rfl (Or.inr ⟨_, rfl, rfl, rfl⟩) l1 rfl ?_
                          refine g_ald (pc' := 75) cd_De_init rfl (Or.inr ⟨_, rfl, rfl, rfl⟩) l0 rfl rfl ?_
                          refine g_fR (c := 0) (k := 4) (x := (m + 9)) (pc' := 78) cd_De_init rfl rfl rfl rfl rfl (by decide) f576_0 g576_0 r576_4 ?_
                          refine g_al (x := 12) (pc' := 79) cd_De_init rfl rfl f576_7 (by rw [show bm_K (bm_setR B574 (m + 9) 11 (some ((m + 11 + 3 * 11)))) (m + 9) = 18 from g576_7]; decide) (by rw [show bm_K (bm_setR B574 (m + 9) 11 (some ((m + 11 + 3 * 11)))) (m + 9) = 18 from g576_7]; decide) (by rw [show bm_AL (bm_setR B574 (m + 9) 11 (some ((m + 11 + 3 * 11)))) (m + 9) = 12 from w576_4]; rfl) ?_
                          refine g_if2 (t := 101) (pc' := 82) cd_De_init rfl rfl rfl (fun c79 => ?_) (fun c79 => ?_)
                          · have c79 : (12 : Int32) ≤ 12 := c79
                            refine g_k1 (v := 0) (pc' := 102) cd_De_init rfl (by decide) rfl ?_
                            refine g_ist (pc' := 103) cd_De_init rfl (Or.inr ⟨_, rfl, rfl, rfl⟩) (by decide) rfl (fun lv el => ?_)
                            have l0 := tm_lk el l0 rfl (by decide)
                            have l1 : lv.lookup 1 = some (.int 0) := tm_lks el
                            clear el
                            refine g_ild (pc' := 104) cd_De_init rfl (Or.inr ⟨_, rfl, rfl, rfl⟩) l1 rfl ?_
                            refine g_k1 (v := 4) (pc' := 105) cd_De_init rfl (by decide) rfl ?_
                            refine g_if2 (t := 127) (pc' := 108) cd_De_init rfl rfl rfl (fun c105 => ?_) (fun c105 => ?_)
                            · exact absurd (show (4 : Int32) ≤ 0 from c105) (by decide)
                            · have c105 : ¬ (4 : Int32) ≤ 0 := c105
                              refine g_ald (pc' := 109) cd_De_init rfl (Or.inr ⟨_, rfl, rfl, rfl⟩) l0 rfl rfl ?_
                              refine g_fR (c := 0) (k := 5) (x := (m + 10)) (pc' := 112) cd_De_init rfl rfl rfl rfl rfl (by decide) f576_0 g576_0 r576_5 ?_
                              refine g_ild (pc' := 113) cd_De_init rfl (Or.inr ⟨_, rfl, rfl, rfl⟩) l1 rfl ?_
                              refine n_obj 11 hn583 cd_De_init rfl rfl rfl rfl (by decide) rfl (fun B587 h587 => ?_)
                              have hf588 := fr0_f h587.1
                              have f589_0 := fr_lt hf588 f576_0
                              have g589_0 := (fr_K hf588 f576_0).trans g576_0
                              have f589_1 := fr_lt hf588 f576_1
                              have g589_1 := (fr_K hf588 f576_1).trans g576_1
                              have f589_2 := fr_lt hf588 f576_2
                              have g589_2 := (fr_K hf588 f576_2).trans g576_2
                              have f589_3 := fr_lt hf588 f576_3
                              have g589_3 := (fr_K hf588 f576_3).trans g576_3
                              have f589_4 := fr_lt hf588 f576_4
                              have g589_4 := (fr_K hf588 f576_4).trans g576_4
                              have f589_5 := fr_lt hf588 f576_5
                              have g589_5 := (fr_K hf588 f576_5).trans g576_5
                              have f589_6 := fr_lt hf588 f576_6
                              have g589_6 := (fr_K hf588 f576_6).trans g576_6
                              have f589_7 := fr_lt hf588 f576_7
                              have g589_7 := (fr_K hf588 f576_7).trans g576_7
                              have f589_8 := fr_lt hf588 f576_8
                              have g589_8 := (fr_K hf588 f576_8).trans g576_8
                              have f589_9 := fr_lt hf588 f576_9
                              have g589_9 := (fr_K hf588 f576_9).trans g576_9
                              have f589_10 := fr_lt hf588 f576_10
                              have g589_10 := (fr_K hf588 f576_10).trans g576_10
                              have f589_11 := fr_lt hf588 f576_11
                              have g589_11 := (fr_K hf588 f576_11).trans g576_11
                              have f589_12 := fr_lt hf588 f576_12
                              have g589_12 := (fr_K hf588 f576_12).trans g576_12
                              have f589_13 := fr_lt hf588 f576_13
                              have g589_13 := (fr_K hf588 f576_13).trans g576_13
                              have f589_14 := fr_lt hf588 f576_14
                              have g589_14 := (fr_K hf588 f576_14).trans g576_14
                              have f589_15 := fr_lt hf588 f576_15
                              have g589_15 := (fr_K hf588 f576_15).trans g576_15
                              have f589_16 := fr_lt hf588 f576_16
                              have g589_16 := (fr_K hf588 f576_16).trans g576_16
                              have f589_17 := fr_lt hf588 f576_17
                              have g589_17 := (fr_K hf588 f576_17).trans g576_17
                              have f589_18 := fr_lt hf588 f576_18
                              have g589_18 := (fr_K hf588 f576_18).trans g576_18
                              have f589_19 := fr_lt hf588 f576_19
                              have g589_19 := (fr_K hf588 f576_19).trans g576_19
                              have f589_20 := fr_lt hf588 h574.2.2.2.1
                              have g589_20 := (fr_K hf588 h574.2.2.2.1).trans h574.2.2.2.2
                              have r589_0 : bm_FR B587 0 0 m = some (m + 1) := (fr_FR hf588 f576_0 (fun q => q) 0 0).trans r576_0
                              have r589_1 : bm_FR B587 0 1 m = some (m + 6) := (fr_FR hf588 f576_0 (fun q => q) 0 1).trans r576_1
                              have r589_2 : bm_FR B587 0 2 m = some (m + 7) := (fr_FR hf588 f576_0 (fun q => q) 0 2).trans r576_2
                              have r589_3 : bm_FR B587 0 3 m = some (m + 8) := (fr_FR hf588 f576_0 (fun q => q) 0 3).trans r576_3
                              have r589_4 : bm_FR B587 0 4 m = some (m + 9) := (fr_FR hf588 f576_0 (fun q => q) 0 4).trans r576_4
                              have r589_5 : bm_FR B587 0 5 m = some (m + 10) := (fr_FR hf588 f576_0 (fun q => q) 0 5).trans r576_5
                              have u589_0 : bm_AI B587 (m + 6) = (fun _ => 0) := (fr_AI hf588 f576_4 (fun q => q)).trans u576_0
                              have u589_1 : bm_AI B587 (m + 7) = (fun _ => 0) := (fr_AI hf588 f576_5 (fun q => q)).trans u576_1
                              have u589_2 : bm_AI B587 (m + 8) = (fun _ => 0) := (fr_AI hf588 f576_6 (fun q => q)).trans u576_2
                              have w589_0 : bm_AL B587 (m + 1) = 2 := (fr_AL hf588 f576_1).trans w576_0
                              have w589_1 : bm_AL B587 (m + 6) = 4 := (fr_AL hf588 f576_4).trans w576_1
                              have w589_2 : bm_AL B587 (m + 7) = 4 := (fr_AL hf588 f576_5).trans w576_2
                              have w589_3 : bm_AL B587 (m + 8) = 6 := (fr_AL hf588 f576_6).trans w576_3
                              have w589_4 : bm_AL B587 (m + 9) = 12 := (fr_AL hf588 f576_7).trans w576_4
                              have w589_5 : bm_AL B587 (m + 10) = 4 := (fr_AL hf588 f576_8).trans w576_5
                              have t590_0 : ∀ c k, bm_FI B587 c k m = 0 := fun c k => (fr_FI (fr0_f h587.1) f576_0 (fun q => q) c k).trans (t582_0 c k)
                              have t590_1 : ∀ i, i < 2 → stb (PPk (m + 2 + 2 * i)) (m + 2 + 2 * i) (m + 2 + 2 * i + 2) B587 := fun i hi => stb_fr0 (t582_1 i hi) h587.1 (oq_151 hn583 hi)
                              have t590_2 : ∀ i, i < 2 → bm_AR B587 ((m + 1)) i = some (m + 2 + 2 * i) := fun i hi => (congrFun (fr_AR (fr0_f h587.1) f576_1 (fun q => q)) i).trans (t582_2 i hi)
                              have t590_3 : ∀ i, i < 12 → stb (PSe (m + 11 + 3 * i)) (m + 11 + 3 * i) (m + 11 + 3 * i + 3) B587 := fun i hi => stb_fr0 (t582_3 i hi) h587.1 (oq_152 hn583 hi)
                              have t590_4 : ∀ i, i < 0 → stb (PMe (m + 47 + 39 * i)) (m + 47 + 39 * i) (m + 47 + 39 * i + 39) B587 := fun i hi => stb_fr0 (t582_4 i hi) h587.1 (oq_154 hn583 hi)
                              have t590_5 : ∀ i, i < 0 → bm_AR B587 ((m + 10)) i = some (m + 47 + 39 * i) := fun i hi => (congrFun (fr_AR (fr0_f h587.1) f576_8 (fun q => q)) i).trans (t582_5 i hi)
                              have t590_6 : ∀ i, i < 12 → bm_AR B587 ((m + 9)) i = some (m + 11 + 3 * i) := fun i hi => (congrFun (fr_AR (fr0_f h587.1) f576_7 (fun q => q)) i).trans (R586 i hi)
                              refine g_pure (pc' := 117) (st' := [.ref ((m + 47 + 39 * 0)), .ref ((m + 47 + 39 * 0)), .int 0, .ref ((m + 10))]) cd_De_init rfl rfl (fun _ _ => rfl) ?_
                              refine g_callv (pc' := 120) cd_De_init rfl rfl rfl rfl rfl (tm_invI rfl rfl cd_Me_init rfl (Nat.le_of_ble_eq_true rfl)) (i_Me hn583 h587 (fun B591 h591 => ?_))
                              have hf592 := fr0_f h591.1
                              have f593_0 := fr_lt hf592 f576_0
                              have g593_0 := (fr_K hf592 f576_0).trans g576_0
                              have f593_1 := fr_lt hf592 f576_1
                              have g593_1 := (fr_K hf592 f576_1).trans g576_1
                              have f593_2 := fr_lt hf592 f576_2
                              have g593_2 := (fr_K hf592 f576_2).trans g576_2
                              have f593_3 := fr_lt hf592 f576_3
                              have g593_3 := (fr_K hf592 f576_3).trans g576_3
                              have f593_4 := fr_lt hf592 f576_4
                              have g593_4 := (fr_K hf592 f576_4).trans g576_4
                              have f593_5 := fr_lt hf592 f576_5
                              have g593_5 := (fr_K hf592 f576_5).trans g576_5
                              have f593_6 := fr_lt hf592 f576_6
                              have g593_6 := (fr_K hf592 f576_6).trans g576_6
                              have f593_7 := fr_lt hf592 f576_7
                              have g593_7 := (fr_K hf592 f576_7).trans g576_7
                              have f593_8 := fr_lt hf592 f576_8
                              have g593_8 := (fr_K hf592 f576_8).trans g576_8
                              have f593_9 := fr_lt hf592 f576_9
                              have g593_9 := (fr_K hf592 f576_9).trans g576_9
                              have f593_10 := fr_lt hf592 f576_10
                              have g593_10 := (fr_K hf592 f576_10).trans g576_10
                              have f593_11 := fr_lt hf592 f576_11
                              have g593_11 := (fr_K hf592 f576_11).trans g576_11
                              have f593_12 := fr_lt hf592 f576_12
                              have g593_12 := (fr_K hf592 f576_12).trans g576_12
                              have f593_13 := fr_lt hf592 f576_13
                              have g593_13 := (fr_K hf592 f576_13).trans g576_13
                              have f593_14 := fr_lt hf592 f576_14
                              have g593_14 := (fr_K hf592 f576_14).trans g576_14
                              have f593_15 := fr_lt hf592 f576_15
                              have g593_15 := (fr_K hf592 f576_15).trans g576_15
                              have f593_16 := fr_lt hf592 f576_16
                              have g593_16 := (fr_K hf592 f576_16).trans g576_16
                              have f593_17 := fr_lt hf592 f576_17
                              have g593_17 := (fr_K hf592 f576_17).trans g576_17
                              have f593_18 := fr_lt hf592 f576_18
                              have g593_18 := (fr_K hf592 f576_18).trans g576_18
                              have f593_19 := fr_lt hf592 f576_19
                              have g593_19 := (fr_K hf592 f576_19).trans g576_19
                              have f593_20 := fr_lt hf592 h574.2.2.2.1
                              have g593_20 := (fr_K hf592 h574.2.2.2.1).trans h574.2.2.2.2
                              have r593_0 : bm_FR B591 0 0 m = some (m + 1) := (fr_FR hf592 f576_0 (fun q => q) 0 0).trans r576_0
                              have r593_1 : bm_FR B591 0 1 m = some (m + 6) := (fr_FR hf592 f576_0 (fun q => q) 0 1).trans r576_1
                              have r593_2 : bm_FR B591 0 2 m = some (m + 7) := (fr_FR hf592 f576_0 (fun q => q) 0 2).trans r576_2
                              have r593_3 : bm_FR B591 0 3 m = some (m + 8) := (fr_FR hf592 f576_0 (fun q => q) 0 3).trans r576_3
                              have r593_4 : bm_FR B591 0 4 m = some (m + 9) := (fr_FR hf592 f576_0 (fun q => q) 0 4).trans r576_4
                              have r593_5 : bm_FR B591 0 5 m = some (m + 10) := (fr_FR hf592 f576_0 (fun q => q) 0 5).trans r576_5
                              have u593_0 : bm_AI B591 (m + 6) = (fun _ => 0) := (fr_AI hf592 f576_4 (fun q => q)).trans u576_0
                              have u593_1 : bm_AI B591 (m + 7) = (fun _ => 0) := (fr_AI hf592 f576_5 (fun q => q)).trans u576_1
                              have u593_2 : bm_AI B591 (m + 8) = (fun _ => 0) := (fr_AI hf592 f576_6 (fun q => q)).trans u576_2
                              have w593_0 : bm_AL B591 (m + 1) = 2 := (fr_AL hf592 f576_1).trans w576_0
                              have w593_1 : bm_AL B591 (m + 6) = 4 := (fr_AL hf592 f576_4).trans w576_1
                              have w593_2 : bm_AL B591 (m + 7) = 4 := (fr_AL hf592 f576_5).trans w576_2
                              have w593_3 : bm_AL B591 (m + 8) = 6 := (fr_AL hf592 f576_6).trans w576_3
                              have w593_4 : bm_AL B591 (m + 9) = 12 := (fr_AL hf592 f576_7).trans w576_4
                              have w593_5 : bm_AL B591 (m + 10) = 4 := (fr_AL hf592 f576_8).trans w576_5
                              have t594_0 : ∀ c k, bm_FI B591 c k m = 0 := fun c k => (fr_FI (fr0_f h591.1) f576_0 (fun q => q) c k).trans (t582_0 c k)
                              have t594_1 : ∀ i, i < 2 → stb (PPk (m + 2 + 2 * i)) (m + 2 + 2 * i) (m + 2 + 2 * i + 2) B591 := fun i hi => stb_fr0 (t582_1 i hi) h591.1 (oq_151 hn583 hi)
                              have t594_2 : ∀ i, i < 2 → bm_AR B591 ((m + 1)) i = some (m + 2 + 2 * i) := fun i hi => (congrFun (fr_AR (fr0_f h591.1) f576_1 (fun q => q)) i).trans (t582_2 i hi)
                              have t594_3 : ∀ i, i < 12 → stb (PSe (m + 11 + 3 * i)) (m + 11 + 3 * i) (m + 11 + 3 * i + 3) B591 := fun i hi => stb_fr0 (t582_3 i hi) h591.1 (oq_152 hn583 hi)
                              have t594_4 : ∀ i, i < 0 → stb (PMe (m + 47 + 39 * i)) (m + 47 + 39 * i) (m + 47 + 39 * i + 39) B591 := fun i hi => stb_fr0 (t582_4 i hi) h591.1 (oq_154 hn583 hi)
                              have t594_5 : ∀ i, i < 0 → bm_AR B591 ((m + 10)) i = some (m + 47 + 39 * i) := fun i hi => (congrFun (fr_AR (fr0_f h591.1) f576_8 (fun q => q)) i).trans (t582_5 i hi)
                              have t594_6 : ∀ i, i < 12 → bm_AR B591 ((m + 9)) i = some (m + 11 + 3 * i) := fun i hi => (congrFun (fr_AR (fr0_f h591.1) f576_7 (fun q => q)) i).trans (R586 i hi)
                              have hn595 : bm_n B591 = (m + 47 + 39 * 1) := (oq_155 h591.2.1.1)
                              have sl596 : bm_sl B591 = bm_sl B0 + 950 := by rw [h591.2.1.2, sl584]
                              have f0597 : fr0 B0 B591 := fr0_trans f0585 h591.1
                              have F598 : ∀ i, i < 1 → stb (PMe (m + 47 + 39 * i)) (m + 47 + 39 * i) (m + 47 + 39 * i + 39) B591 := al_step (P := fun i => stb (PMe (m + 47 + 39 * i)) (m + 47 + 39 * i) (m + 47 + 39 * i + 39) B591) t594_4 h591.2.2.1
                              show bm_G _ _ _ 120 _ [.ref ((m + 47 + 39 * 0)), .int 0, .ref ((m + 10))] B591 _
                              refine g_aast (t := 6) (pc' := 121) cd_De_init rfl rfl f593_8 g593_8 (by decide) rfl rfl h591.2.2.2.1 h591.2.2.2.2 (by rw [show bm_AL B591 (m + 10) = 4 from w593_5]; exact vp_in_nI (n := 0) (by decide) (by decide)) ?_
                              rw [show (0 : Int32).toNatClampNeg = 0 from by decide]
                              have t599_0 : ∀ c k, bm_FI (bm_setR B591 (m + 10) 0 (some ((m + 47 + 39 * 0)))) c k m = 0 := t594_0
                              have t599_1 : ∀ i, i < 2 → stb (PPk (m + 2 + 2 * i)) (m + 2 + 2 * i) (m + 2 + 2 * i + 2) (bm_setR B591 (m + 10) 0 (some ((m + 47 + 39 * 0)))) := fun i hi => stb_setR (t594_1 i hi) (oq_156 hn595 hi) (oq_157 hi)
                              have t599_2 : ∀ i, i < 2 → bm_AR (bm_setR B591 (m + 10) 0 (some ((m + 47 + 39 * 0)))) ((m + 1)) i = some (m + 2 + 2 * i) := fun i hi => (if_neg (fun q => absurd q.1 oq_158)).trans (t594_2 i hi)
                              have t599_3 : ∀ i, i < 12 → stb (PSe (m + 11 + 3 * i)) (m + 11 + 3 * i) (m + 11 + 3 * i + 3) (bm_setR B591 (m + 10) 0 (some ((m + 47 + 39 * 0)))) := fun i hi => stb_setR (t594_3 i hi) (oq_159 hn595 hi) (oq_160 hi)
                              have t599_4 : ∀ i, i < 1 → stb (PMe (m + 47 + 39 * i)) (m + 47 + 39 * i) (m + 47 + 39 * i + 39) (bm_setR B591 (m + 10) 0 (some ((m + 47 + 39 * 0)))) := fun i hi => stb_setR (F598 i hi) (oq_161 hn595 hi) (oq_162 hi)
                              have t599_5 : ∀ i, i < 12 → bm_AR (bm_setR B591 (m + 10) 0 (some ((m + 47 + 39 * 0)))) ((m + 9)) i = some (m + 11 + 3 * i) := fun i hi => (if_neg (fun q => absurd q.1 oq_163)).trans (t594_6 i hi)
                              have hn600 : bm_n (bm_setR B591 (m + 10) 0 (some ((m + 47 + 39 * 0)))) = (m + 47 + 39 * 1) := hn595
                              have sl601 : bm_sl (bm_setR B591 (m + 10) 0 (some ((m + 47 + 39 * 0)))) = bm_sl B0 + 950 := sl596
                              have f0602 : fr0 B0 (bm_setR B591 (m + 10) 0 (some ((m + 47 + 39 * 0)))) := fr0_setR f0597 (oq_164 hm)
                              have R603 : ∀ i, i < 1 → bm_AR (bm_setR B591 (m + 10) 0 (some ((m + 47 + 39 * 0)))) ((m + 10)) i = some (m + 47 + 39 * i) := ars_step (f := fun i => m + 47 + 39 * i) t594_5
                              refine g_inc (y := 1) (pc' := 124) cd_De_init rfl l1 (by decide) (by decide) rfl (fun lv el => ?_)
                              have l0 := tm_lk el l0 rfl (by decide)
                              have l1 : lv.lookup 1 = some (.int 1) := tm_lks el
                              clear el
                              refine g_pure (pc' := 103) (st' := []) cd_De_init rfl rfl (fun _ _ => rfl) ?_
                              refine g_ild (pc' := 104) cd_De_init rfl (Or.inr ⟨_, rfl, rfl, rfl⟩) l1 rfl ?_
                              refine g_k1 (v := 4) (pc' := 105) cd_De_init rfl (by decide) rfl ?_
                              refine g_if2 (t := 127) (pc' := 108) cd_De_init rfl rfl rfl (fun c105 => ?_) (fun c105 => ?_)
                              · exact absurd (show (4 : Int32) ≤ 1 from c105) (by decide)
                              · have c105 : ¬ (4 : Int32) ≤ 1 := c105
                                refine g_ald (pc' := 109) cd_De_init rfl (Or.inr ⟨_, rfl, rfl, rfl⟩) l0 rfl rfl ?_
                                refine g_fR (c := 0) (k := 5) (x := (m + 10)) (pc' := 112) cd_De_init rfl rfl rfl rfl rfl (by decide) f593_0 g593_0 r593_5 ?_
                                refine g_ild (pc' := 113) cd_De_init rfl (Or.inr ⟨_, rfl, rfl, rfl⟩) l1 rfl ?_
                                refine n_obj 11 hn600 cd_De_init rfl rfl rfl rfl (by decide) rfl (fun B604 h604 => ?_)
                                have hf605 := fr0_f h604.1
                                have f606_0 := fr_lt hf605 f593_0
                                have g606_0 := (fr_K hf605 f593_0).trans g593_0
                                have f606_1 := fr_lt hf605 f593_1
                                have g606_1 := (fr_K hf605 f593_1).trans g593_1
                                have f606_2 := fr_lt hf605 f593_2
                                have g606_2 := (fr_K hf605 f593_2).trans g593_2
                                have f606_3 := fr_lt hf605 f593_3
                                have g606_3 := (fr_K hf605 f593_3).trans g593_3
                                have f606_4 := fr_lt hf605 f593_4
                                have g606_4 := (fr_K hf605 f593_4).trans g593_4
                                have f606_5 := fr_lt hf605 f593_5
                                have g606_5 := (fr_K hf605 f593_5).trans g593_5
                                have f606_6 := fr_lt hf605 f593_6
                                have g606_6 := (fr_K hf605 f593_6).trans g593_6
                                have f606_7 := fr_lt hf605 f593_7
                                have g606_7 := (fr_K hf605 f593_7).trans g593_7
                                have f606_8 := fr_lt hf605 f593_8
                                have g606_8 := (fr_K hf605 f593_8).trans g593_8
                                have f606_9 := fr_lt hf605 f593_9
                                have g606_9 := (fr_K hf605 f593_9).trans g593_9
                                have f606_10 := fr_lt hf605 f593_10
                                have g606_10 := (fr_K hf605 f593_10).trans g593_10
                                have f606_11 := fr_lt hf605 f593_11
                                have g606_11 := (fr_K hf605 f593_11).trans g593_11
                                have f606_12 := fr_lt hf605 f593_12
                                have g606_12 := (fr_K hf605 f593_12).trans g593_12
                                have f606_13 := fr_lt hf605 f593_13
                                have g606_13 := (fr_K hf605 f593_13).trans g593_13
                                have f606_14 := fr_lt hf605 f593_14
                                have g606_14 := (fr_K hf605 f593_14).trans g593_14
                                have f606_15 := fr_lt hf605 f593_15
                                have g606_15 := (fr_K hf605 f593_15).trans g593_15
                                have f606_16 := fr_lt hf605 f593_16
                                have g606_16 := (fr_K hf605 f593_16).trans g593_16
                                have f606_17 := fr_lt hf605 f593_17
                                have g606_17 := (fr_K hf605 f593_17).trans g593_17
                                have f606_18 := fr_lt hf605 f593_18
                                have g606_18 := (fr_K hf605 f593_18).trans g593_18
                                have f606_19 := fr_lt hf605 f593_19
                                have g606_19 := (fr_K hf605 f593_19).trans g593_19
                                have f606_20 := fr_lt hf605 f593_20
                                have g606_20 := (fr_K hf605 f593_20).trans g593_20
                                have f606_21 := fr_lt hf605 h591.2.2.2.1
                                have g606_21 := (fr_K hf605 h591.2.2.2.1).trans h591.2.2.2.2
                                have r606_0 : bm_FR B604 0 0 m = some (m + 1) := (fr_FR hf605 f593_0 (fun q => q) 0 0).trans r593_0
                                have r606_1 : bm_FR B604 0 1 m = some (m + 6) := (fr_FR hf605 f593_0 (fun q => q) 0 1).trans r593_1
                                have r606_2 : bm_FR B604 0 2 m = some (m + 7) := (fr_FR hf605 f593_0 (fun q => q) 0 2).trans r593_2
                                have r606_3 : bm_FR B604 0 3 m = some (m + 8) := (fr_FR hf605 f593_0 (fun q => q) 0 3).trans r593_3
                                have r606_4 : bm_FR B604 0 4 m = some (m + 9) := (fr_FR hf605 f593_0 (fun q => q) 0 4).trans r593_4
                                have r606_5 : bm_FR B604 0 5 m = some (m + 10) := (fr_FR hf605 f593_0 (fun q => q) 0 5).trans r593_5
                                have u606_0 : bm_AI B604 (m + 6) = (fun _ => 0) := (fr_AI hf605 f593_4 (fun q => q)).trans u593_0
                                have u606_1 : bm_AI B604 (m + 7) = (fun _ => 0) := (fr_AI hf605 f593_5 (fun q => q)).trans u593_1
                                have u606_2 : bm_AI B604 (m + 8) = (fun _ => 0) := (fr_AI hf605 f593_6 (fun q => q)).trans u593_2
                                have w606_0 : bm_AL B604 (m + 1) = 2 := (fr_AL hf605 f593_1).trans w593_0
                                have w606_1 : bm_AL B604 (m + 6) = 4 := (fr_AL hf605 f593_4).trans w593_1
                                have w606_2 : bm_AL B604 (m + 7) = 4 := (fr_AL hf605 f593_5).trans w593_2
                                have w606_3 : bm_AL B604 (m + 8) = 6 := (fr_AL hf605 f593_6).trans w593_3
                                have w606_4 : bm_AL B604 (m + 9) = 12 := (fr_AL hf605 f593_7).trans w593_4
                                have w606_5 : bm_AL B604 (m + 10) = 4 := (fr_AL hf605 f593_8).trans w593_5
                                have t607_0 : ∀ c k, bm_FI B604 c k m = 0 := fun c k => (fr_FI (fr0_f h604.1) f593_0 (fun q => q) c k).trans (t599_0 c k)
                                have t607_1 : ∀ i, i < 2 → stb (PPk (m + 2 + 2 * i)) (m + 2 + 2 * i) (m + 2 + 2 * i + 2) B604 := fun i hi => stb_fr0 (t599_1 i hi) h604.1 (oq_156 hn600 hi)
                                have t607_2 : ∀ i, i < 2 → bm_AR B604 ((m + 1)) i = some (m + 2 + 2 * i) := fun i hi => (congrFun (fr_AR (fr0_f h604.1) f593_1 (fun q => q)) i).trans (t599_2 i hi)
                                have t607_3 : ∀ i, i < 12 → stb (PSe (m + 11 + 3 * i)) (m + 11 + 3 * i) (m + 11 + 3 * i + 3) B604 := fun i hi => stb_fr0 (t599_3 i hi) h604.1 (oq_159 hn600 hi)
                                have t607_4 : ∀ i, i < 1 → stb (PMe (m + 47 + 39 * i)) (m + 47 + 39 * i) (m + 47 + 39 * i + 39) B604 := fun i hi => stb_fr0 (t599_4 i hi) h604.1 (oq_161 hn600 hi)
                                have t607_5 : ∀ i, i < 12 → bm_AR B604 ((m + 9)) i = some (m + 11 + 3 * i) := fun i hi => (congrFun (fr_AR (fr0_f h604.1) f593_7 (fun q => q)) i).trans (t599_5 i hi)
                                have t607_6 : ∀ i, i < 1 → bm_AR B604 ((m + 10)) i = some (m + 47 + 39 * i) := fun i hi => (congrFun (fr_AR (fr0_f h604.1) f593_8 (fun q => q)) i).trans (R603 i hi)
                                refine g_pure (pc' := 117) (st' := [.ref ((m + 47 + 39 * 1)), .ref ((m + 47 + 39 * 1)), .int 1, .ref ((m + 10))]) cd_De_init rfl rfl (fun _ _ => rfl) ?_
                                refine g_callv (pc' := 120) cd_De_init rfl rfl rfl rfl rfl (tm_invI rfl rfl cd_Me_init rfl (Nat.le_of_ble_eq_true rfl)) (i_Me hn600 h604 (fun B608 h608 => ?_))
                                have hf609 := fr0_f h608.1
                                have f610_0 := fr_lt hf609 f593_0
                                have g610_0 := (fr_K hf609 f593_0).trans g593_0
                                have f610_1 := fr_lt hf609 f593_1
                                have g610_1 := (fr_K hf609 f593_1).trans g593_1
                                have f610_2 := fr_lt hf609 f593_2
                                have g610_2 := (fr_K hf609 f593_2).trans g593_2
                                have f610_3 := fr_lt hf609 f593_3
                                have g610_3 := (fr_K hf609 f593_3).trans g593_3
                                have f610_4 := fr_lt hf609 f593_4
                                have g610_4 := (fr_K hf609 f593_4).trans g593_4
                                have f610_5 := fr_lt hf609 f593_5
                                have g610_5 := (fr_K hf609 f593_5).trans g593_5
                                have f610_6 := fr_lt hf609 f593_6
                                have g610_6 := (fr_K hf609 f593_6).trans g593_6
                                have f610_7 := fr_lt hf609 f593_7
                                have g610_7 := (fr_K hf609 f593_7).trans g593_7
                                have f610_8 := fr_lt hf609 f593_8
                                have g610_8 := (fr_K hf609 f593_8).trans g593_8
                                have f610_9 := fr_lt hf609 f593_9
                                have g610_9 := (fr_K hf609 f593_9).trans g593_9
                                have f610_10 := fr_lt hf609 f593_10
                                have g610_10 := (fr_K hf609 f593_10).trans g593_10
                                have f610_11 := fr_lt hf609 f593_11
                                have g610_11 := (fr_K hf609 f593_11).trans g593_11
                                have f610_12 := fr_lt hf609 f593_12
                                have g610_12 := (fr_K hf609 f593_12).trans g593_12
                                have f610_13 := fr_lt hf609 f593_13
                                have g610_13 := (fr_K hf609 f593_13).trans g593_13
                                have f610_14 := fr_lt hf609 f593_14
                                have g610_14 := (fr_K hf609 f593_14).trans g593_14
                                have f610_15 := fr_lt hf609 f593_15
                                have g610_15 := (fr_K hf609 f593_15).trans g593_15
                                have f610_16 := fr_lt hf609 f593_16
                                have g610_16 := (fr_K hf609 f593_16).trans g593_16
                                have f610_17 := fr_lt hf609 f593_17
                                have g610_17 := (fr_K hf609 f593_17).trans g593_17
                                have f610_18 := fr_lt hf609 f593_18
                                have g610_18 := (fr_K hf609 f593_18).trans g593_18
                                have f610_19 := fr_lt hf609 f593_19
                                have g610_19 := (fr_K hf609 f593_19).trans g593_19
                                have f610_20 := fr_lt hf609 f593_20
                                have g610_20 := (fr_K hf609 f593_20).trans g593_20
                                have f610_21 := fr_lt hf609 h591.2.2.2.1
                                have g610_21 := (fr_K hf609 h591.2.2.2.1).trans h591.2.2.2.2
                                have r610_0 : bm_FR B608 0 0 m = some (m + 1) := (fr_FR hf609 f593_0 (fun q => q) 0 0).trans r593_0
                                have r610_1 : bm_FR B608 0 1 m = some (m + 6) := (fr_FR hf609 f593_0 (fun q => q) 0 1).trans r593_1
                                have r610_2 : bm_FR B608 0 2 m = some (m + 7) := (fr_FR hf609 f593_0 (fun q => q) 0 2).trans r593_2
                                have r610_3 : bm_FR B608 0 3 m = some (m + 8) := (fr_FR hf609 f593_0 (fun q => q) 0 3).trans r593_3
                                have r610_4 : bm_FR B608 0 4 m = some (m + 9) := (fr_FR hf609 f593_0 (fun q => q) 0 4).trans r593_4
                                have r610_5 : bm_FR B608 0 5 m = some (m + 10) := (fr_FR hf609 f593_0 (fun q => q) 0 5).trans r593_5
                                have u610_0 : bm_AI B608 (m + 6) = (fun _ => 0) := (fr_AI hf609 f593_4 (fun q => q)).trans u593_0
                                have u610_1 : bm_AI B608 (m + 7) = (fun _ => 0) := (fr_AI hf609 f593_5 (fun q => q)).trans u593_1
                                have u610_2 : bm_AI B608 (m + 8) = (fun _ => 0) := (fr_AI hf609 f593_6 (fun q => q)).trans u593_2
                                have w610_0 : bm_AL B608 (m + 1) = 2 := (fr_AL hf609 f593_1).trans w593_0
                                have w610_1 : bm_AL B608 (m + 6) = 4 := (fr_AL hf609 f593_4).trans w593_1
                                have w610_2 : bm_AL B608 (m + 7) = 4 := (fr_AL hf609 f593_5).trans w593_2
                                have w610_3 : bm_AL B608 (m + 8) = 6 := (fr_AL hf609 f593_6).trans w593_3
                                have w610_4 : bm_AL B608 (m + 9) = 12 := (fr_AL hf609 f593_7).trans w593_4
                                have w610_5 : bm_AL B608 (m + 10) = 4 := (fr_AL hf609 f593_8).trans w593_5
                                have t611_0 : ∀ c k, bm_FI B608 c k m = 0 := fun c k => (fr_FI (fr0_f h608.1) f593_0 (fun q => q) c k).trans (t599_0 c k)
                                have t611_1 : ∀ i, i < 2 → stb (PPk (m + 2 + 2 * i)) (m + 2 + 2 * i) (m + 2 + 2 * i + 2) B608 := fun i hi => stb_fr0 (t599_1 i hi) h608.1 (oq_156 hn600 hi)
                                have t611_2 : ∀ i, i < 2 → bm_AR B608 ((m + 1)) i = some (m + 2 + 2 * i) := fun i hi => (congrFun (fr_AR (fr0_f h608.1) f593_1 (fun q => q)) i).trans (t599_2 i hi)
                                have t611_3 : ∀ i, i < 12 → stb (PSe (m + 11 + 3 * i)) (m + 11 + 3 * i) (m + 11 + 3 * i + 3) B608 := fun i hi => stb_fr0 (t599_3 i hi) h608.1 (oq_159 hn600 hi)
                                have t611_4 : ∀ i, i < 1 → stb (PMe (m + 47 + 39 * i)) (m + 47 + 39 * i) (m + 47 + 39 * i + 39) B608 := fun i hi => stb_fr0 (t599_4 i hi) h608.1 (oq_161 hn600 hi)
                                have t611_5 : ∀ i, i < 12 → bm_AR B608 ((m + 9)) i = some (m + 11 + 3 * i) := fun i hi => (congrFun (fr_AR (fr0_f h608.1) f593_7 (fun q => q)) i).trans (t599_5 i hi)
                                have t611_6 : ∀ i, i < 1 → bm_AR B608 ((m + 10)) i = some (m + 47 + 39 * i) := fun i hi => (congrFun (fr_AR (fr0_f h608.1) f593_8 (fun q => q)) i).trans (R603 i hi)
                                have hn612 : bm_n B608 = (m + 47 + 39 * 2) := (oq_165 h608.2.1.1)
                                have sl613 : bm_sl B608 = bm_sl B0 + 1363 := by rw [h608.2.1.2, sl601]
                                have f0614 : fr0 B0 B608 := fr0_trans f0602 h608.1
                                have F615 : ∀ i, i < 2 → stb (PMe (m + 47 + 39 * i)) (m + 47 + 39 * i) (m + 47 + 39 * i + 39) B608 := al_step (P := fun i => stb (PMe (m + 47 + 39 * i)) (m + 47 + 39 * i) (m + 47 + 39 * i + 39) B608) t611_4 h608.2.2.1
                                show bm_G _ _ _ 120 _ [.ref ((m + 47 + 39 * 1)), .int 1, .ref ((m + 10))] B608 _
                                refine g_aast (t := 6) (pc' := 121) cd_De_init rfl rfl f610_8 g610_8 (by decide) rfl rfl h608.2.2.2.1 h608.2.2.2.2 (by rw [show bm_AL B608 (m + 10) = 4 from w610_5]; exact vp_in_nI (n := 1) (by decide) (by decide)) ?_
                                rw [show (1 : Int32).toNatClampNeg = 1 from by decide]
                                have t616_0 : ∀ c k, bm_FI (bm_setR B608 (m + 10) 1 (some ((m + 47 + 39 * 1)))) c k m = 0 := t611_0
                                have t616_1 : ∀ i, i < 2 → stb (PPk (m + 2 + 2 * i)) (m + 2 + 2 * i) (m + 2 + 2 * i + 2) (bm_setR B608 (m + 10) 1 (some ((m + 47 + 39 * 1)))) := fun i hi => stb_setR (t611_1 i hi) (oq_166 hn612 hi) (oq_157 hi)
                                have t616_2 : ∀ i, i < 2 → bm_AR (bm_setR B608 (m + 10) 1 (some ((m + 47 + 39 * 1)))) ((m + 1)) i = some (m + 2 + 2 * i) := fun i hi => (if_neg (fun q => absurd q.1 oq_158)).trans (t611_2 i hi)
                                have t616_3 : ∀ i, i < 12 → stb (PSe (m + 11 + 3 * i)) (m + 11 + 3 * i) (m + 11 + 3 * i + 3) (bm_setR B608 (m + 10) 1 (some ((m + 47 + 39 * 1)))) := fun i hi => stb_setR (t611_3 i hi) (oq_167 hn612 hi) (oq_160 hi)
                                have t616_4 : ∀ i, i < 2 → stb (PMe (m + 47 + 39 * i)) (m + 47 + 39 * i) (m + 47 + 39 * i + 39) (bm_setR B608 (m + 10) 1 (some ((m + 47 + 39 * 1)))) := fun i hi => stb_setR (F615 i hi) (oq_168 hn612 hi) (oq_169 hi)
                                have t616_5 : ∀ i, i < 12 → bm_AR (bm_setR B608 (m + 10) 1 (some ((m + 47 + 39 * 1)))) ((m + 9)) i = some (m + 11 + 3 * i) := fun i hi => (if_neg (fun q => absurd q.1 oq_163)).trans (t611_5 i hi)
                                have hn617 : bm_n (bm_setR B608 (m + 10) 1 (some ((m + 47 + 39 * 1)))) = (m + 47 + 39 * 2) := hn612
                                have sl618 : bm_sl (bm_setR B608 (m + 10) 1 (some ((m + 47 + 39 * 1)))) = bm_sl B0 + 1363 := sl613
                                have f0619 : fr0 B0 (bm_setR B608 (m + 10) 1 (some ((m + 47 + 39 * 1)))) := fr0_setR f0614 (oq_164 hm)
                                have R620 : ∀ i, i < 2 → bm_AR (bm_setR B608 (m + 10) 1 (some ((m + 47 + 39 * 1)))) ((m + 10)) i = some (m + 47 + 39 * i) := ars_step (f := fun i => m + 47 + 39 * i) t611_6
                                refine g_inc (y := 2) (pc' := 124) cd_De_init rfl l1 (by decide) (by decide) rfl (fun lv el => ?_)
                                have l0 := tm_lk el l0 rfl (by decide)
                                have l1 : lv.lookup 1 = some (.int 2) := tm_lks el
                                clear el
                                refine g_pure (pc' := 103) (st' := []) cd_De_init rfl rfl (fun _ _ => rfl) ?_
                                refine g_ild (pc' := 104) cd_De_init rfl (Or.inr ⟨_, rfl, rfl, rfl⟩) l1 rfl ?_
                                refine g_k1 (v := 4) (pc' := 105) cd_De_init rfl (by decide) rfl ?_
                                refine g_if2 (t := 127) (pc' := 108) cd_De_init rfl rfl rfl (fun c105 => ?_) (fun c105 => ?_)
                                · exact absurd (show (4 : Int32) ≤ 2 from c105) (by decide)
                                · have c105 : ¬ (4 : Int32) ≤ 2 := c105
                                  refine g_ald (pc' := 109) cd_De_init rfl (Or.inr ⟨_, rfl, rfl, rfl⟩) l0 rfl rfl ?_
                                  refine g_fR (c := 0) (k := 5) (x := (m + 10)) (pc' := 112) cd_De_init rfl rfl rfl rfl rfl (by decide) f610_0 g610_0 r610_5 ?_
                                  refine g_ild (pc' := 113) cd_De_init rfl (Or.inr ⟨_, rfl, rfl, rfl⟩) l1 rfl ?_
                                  refine n_obj 11 hn617 cd_De_init rfl rfl rfl rfl (by decide) rfl (fun B621 h621 => ?_)
                                  have hf622 := fr0_f h621.1
                                  have f623_0 := fr_lt hf622 f610_0
                                  have g623_0 := (fr_K hf622 f610_0).trans g610_0
                                  have f623_1 := fr_lt hf622 f610_1
                                  have g623_1 := (fr_K hf622 f610_1).trans g610_1
                                  have f623_2 := fr_lt hf622 f610_2
                                  have g623_2 := (fr_K hf622 f610_2).trans g610_2
                                  have f623_3 := fr_lt hf622 f610_3
                                  have g623_3 := (fr_K hf622 f610_3).trans g610_3
                                  have f623_4 := fr_lt hf622 f610_4
                                  have g623_4 := (fr_K hf622 f610_4).trans g610_4
                                  have f623_5 := fr_lt hf622 f610_5
                                  have g623_5 := (fr_K hf622 f610_5).trans g610_5
                                  have f623_6 := fr_lt hf622 f610_6
                                  have g623_6 := (fr_K hf622 f610_6).trans g610_6
                                  have f623_7 := fr_lt hf622 f610_7
                                  have g623_7 := (fr_K hf622 f610_7).trans g610_7
                                  have f623_8 := fr_lt hf622 f610_8
                                  have g623_8 := (fr_K hf622 f610_8).trans g610_8
                                  have f623_9 := fr_lt hf622 f610_9
                                  have g623_9 := (fr_K hf622 f610_9).trans g610_9
                                  have f623_10 := fr_lt hf622 f610_10
                                  have g623_10 := (fr_K hf622 f610_10).trans g610_10
                                  have f623_11 := fr_lt hf622 f610_11
                                  have g623_11 := (fr_K hf622 f610_11).trans g610_11
                                  have f623_12 := fr_lt hf622 f610_12
                                  have g623_12 := (fr_K hf622 f610_12).trans g610_12
                                  have f623_13 := fr_lt hf622 f610_13
                                  have g623_13 := (fr_K hf622 f610_13).trans g610_13
                                  have f623_14 := fr_lt hf622 f610_14
                                  have g623_14 := (fr_K hf622 f610_14).trans g610_14
                                  have f623_15 := fr_lt hf622 f610_15
                                  have g623_15 := (fr_K hf622 f610_15).trans g610_15
                                  have f623_16 := fr_lt hf622 f610_16
                                  have g623_16 := (fr_K hf622 f610_16).trans g610_16
                                  have f623_17 := fr_lt hf622 f610_17
                                  have g623_17 := (fr_K hf622 f610_17).trans g610_17
                                  have f623_18 := fr_lt hf622 f610_18
                                  have g623_18 := (fr_K hf622 f610_18).trans g610_18
                                  have f623_19 := fr_lt hf622 f610_19
                                  have g623_19 := (fr_K hf622 f610_19).trans g610_19
                                  have f623_20 := fr_lt hf622 f610_20
                                  have g623_20 := (fr_K hf622 f610_20).trans g610_20
                                  have f623_21 := fr_lt hf622 f610_21
                                  have g623_21 := (fr_K hf622 f610_21).trans g610_21
                                  have f623_22 := fr_lt hf622 h608.2.2.2.1
                                  have g623_22 := (fr_K hf622 h608.2.2.2.1).trans h608.2.2.2.2
                                  have r623_0 : bm_FR B621 0 0 m = some (m + 1) := (fr_FR hf622 f610_0 (fun q => q) 0 0).trans r610_0
                                  have r623_1 : bm_FR B621 0 1 m = some (m + 6) := (fr_FR hf622 f610_0 (fun q => q) 0 1).trans r610_1
                                  have r623_2 : bm_FR B621 0 2 m = some (m + 7) := (fr_FR hf622 f610_0 (fun q => q) 0 2).trans r610_2
                                  have r623_3 : bm_FR B621 0 3 m = some (m + 8) := (fr_FR hf622 f610_0 (fun q => q) 0 3).trans r610_3
                                  have r623_4 : bm_FR B621 0 4 m = some (m + 9) := (fr_FR hf622 f610_0 (fun q => q) 0 4).trans r610_4
                                  have r623_5 : bm_FR B621 0 5 m = some (m + 10) := (fr_FR hf622 f610_0 (fun q => q) 0 5).trans r610_5
                                  have u623_0 : bm_AI B621 (m + 6) = (fun _ => 0) := (fr_AI hf622 f610_4 (fun q => q)).trans u610_0
                                  have u623_1 : bm_AI B621 (m + 7) = (fun _ => 0) := (fr_AI hf622 f610_5 (fun q => q)).trans u610_1
                                  have u623_2 : bm_AI B621 (m + 8) = (fun _ => 0) := (fr_AI hf622 f610_6 (fun q => q)).trans u610_2
                                  have w623_0 : bm_AL B621 (m + 1) = 2 := (fr_AL hf622 f610_1).trans w610_0
                                  have w623_1 : bm_AL B621 (m + 6) = 4 := (fr_AL hf622 f610_4).trans w610_1
                                  have w623_2 : bm_AL B621 (m + 7) = 4 := (fr_AL hf622 f610_5).trans w610_2
                                  have w623_3 : bm_AL B621 (m + 8) = 6 := (fr_AL hf622 f610_6).trans w610_3
                                  have w623_4 : bm_AL B621 (m + 9) = 12 := (fr_AL hf622 f610_7).trans w610_4
                                  have w623_5 : bm_AL B621 (m + 10) = 4 := (fr_AL hf622 f610_8).trans w610_5
                                  have t624_0 : ∀ c k, bm_FI B621 c k m = 0 := fun c k => (fr_FI (fr0_f h621.1) f610_0 (fun q => q) c k).trans (t616_0 c k)
                                  have t624_1 : ∀ i, i < 2 → stb (PPk (m + 2 + 2 * i)) (m + 2 + 2 * i) (m + 2 + 2 * i + 2) B621 := fun i hi => stb_fr0 (t616_1 i hi) h621.1 (oq_166 hn617 hi)
                                  have t624_2 : ∀ i, i < 2 → bm_AR B621 ((m + 1)) i = some (m + 2 + 2 * i) := fun i hi => (congrFun (fr_AR (fr0_f h621.1) f610_1 (fun q => q)) i).trans (t616_2 i hi)
                                  have t624_3 : ∀ i, i < 12 → stb (PSe (m + 11 + 3 * i)) (m + 11 + 3 * i) (m + 11 + 3 * i + 3) B621 := fun i hi => stb_fr0 (t616_3 i hi) h621.1 (oq_167 hn617 hi)
                                  have t624_4 : ∀ i, i < 2 → stb (PMe (m + 47 + 39 * i)) (m + 47 + 39 * i) (m + 47 + 39 * i + 39) B621 := fun i hi => stb_fr0 (t616_4 i hi) h621.1 (oq_168 hn617 hi)
                                  have t624_5 : ∀ i, i < 12 → bm_AR B621 ((m + 9)) i = some (m + 11 + 3 * i) := fun i hi => (congrFun (fr_AR (fr0_f h621.1) f610_7 (fun q => q)) i).trans (t616_5 i hi)
                                  have t624_6 : ∀ i, i < 2 → bm_AR B621 ((m + 10)) i = some (m + 47 + 39 * i) := fun i hi => (congrFun (fr_AR (fr0_f h621.1) f610_8 (fun q => q)) i).trans (R620 i hi)
                                  refine g_pure (pc' := 117) (st' := [.ref ((m + 47 + 39 * 2)), .ref ((m + 47 + 39 * 2)), .int 2, .ref ((m + 10))]) cd_De_init rfl rfl (fun _ _ => rfl) ?_
                                  refine g_callv (pc' := 120) cd_De_init rfl rfl rfl rfl rfl (tm_invI rfl rfl cd_Me_init rfl (Nat.le_of_ble_eq_true rfl)) (i_Me hn617 h621 (fun B625 h625 => ?_))
                                  have hf626 := fr0_f h625.1
                                  have f627_0 := fr_lt hf626 f610_0
                                  have g627_0 := (fr_K hf626 f610_0).trans g610_0
                                  have f627_1 := fr_lt hf626 f610_1
                                  have g627_1 := (fr_K hf626 f610_1).trans g610_1
                                  have f627_2 := fr_lt hf626 f610_2
                                  have g627_2 := (fr_K hf626 f610_2).trans g610_2
                                  have f627_3 := fr_lt hf626 f610_3
                                  have g627_3 := (fr_K hf626 f610_3).trans g610_3
                                  have f627_4 := fr_lt hf626 f610_4
                                  have g627_4 := (fr_K hf626 f610_4).trans g610_4
                                  have f627_5 := fr_lt hf626 f610_5
                                  have g627_5 := (fr_K hf626 f610_5).trans g610_5
                                  have f627_6 := fr_lt hf626 f610_6
                                  have g627_6 := (fr_K hf626 f610_6).trans g610_6
                                  have f627_7 := fr_lt hf626 f610_7
                                  have g627_7 := (fr_K hf626 f610_7).trans g610_7
                                  have f627_8 := fr_lt hf626 f610_8
                                  have g627_8 := (fr_K hf626 f610_8).trans g610_8
                                  have f627_9 := fr_lt hf626 f610_9
                                  have g627_9 := (fr_K hf626 f610_9).trans g610_9
                                  have f627_10 := fr_lt hf626 f610_10
                                  have g627_10 := (fr_K hf626 f610_10).trans g610_10
                                  have f627_11 := fr_lt hf626 f610_11
                                  have g627_11 := (fr_K hf626 f610_11).trans g610_11
                                  have f627_12 := fr_lt hf626 f610_12
                                  have g627_12 := (fr_K hf626 f610_12).trans g610_12
                                  have f627_13 := fr_lt hf626 f610_13
                                  have g627_13 := (fr_K hf626 f610_13).trans g610_13
                                  have f627_14 := fr_lt hf626 f610_14
                                  have g627_14 := (fr_K hf626 f610_14).trans g610_14
                                  have f627_15 := fr_lt hf626 f610_15
                                  have g627_15 := (fr_K hf626 f610_15).trans g610_15
                                  have f627_16 := fr_lt hf626 f610_16
                                  have g627_16 := (fr_K hf626 f610_16).trans g610_16
                                  have f627_17 := fr_lt hf626 f610_17
                                  have g627_17 := (fr_K hf626 f610_17).trans g610_17
                                  have f627_18 := fr_lt hf626 f610_18
                                  have g627_18 := (fr_K hf626 f610_18).trans g610_18
                                  have f627_19 := fr_lt hf626 f610_19
                                  have g627_19 := (fr_K hf626 f610_19).trans g610_19
                                  have f627_20 := fr_lt hf626 f610_20
                                  have g627_20 := (fr_K hf626 f610_20).trans g610_20
                                  have f627_21 := fr_lt hf626 f610_21
                                  have g627_21 := (fr_K hf626 f610_21).trans g610_21
                                  have f627_22 := fr_lt hf626 h608.2.2.2.1
                                  have g627_22 := (fr_K hf626 h608.2.2.2.1).trans h608.2.2.2.2
                                  have r627_0 : bm_FR B625 0 0 m = some (m + 1) := (fr_FR hf626 f610_0 (fun q => q) 0 0).trans r610_0
                                  have r627_1 : bm_FR B625 0 1 m = some (m + 6) := (fr_FR hf626 f610_0 (fun q => q) 0 1).trans r610_1
                                  have r627_2 : bm_FR B625 0 2 m = some (m + 7) := (fr_FR hf626 f610_0 (fun q => q) 0 2).trans r610_2
                                  have r627_3 : bm_FR B625 0 3 m = some (m + 8) := (fr_FR hf626 f610_0 (fun q => q) 0 3).trans r610_3
                                  have r627_4 : bm_FR B625 0 4 m = some (m + 9) := (fr_FR hf626 f610_0 (fun q => q) 0 4).trans r610_4
                                  have r627_5 : bm_FR B625 0 5 m = some (m + 10) := (fr_FR hf626 f610_0 (fun q => q) 0 5).trans r610_5
                                  have u627_0 : bm_AI B625 (m + 6) = (fun _ => 0) := (fr_AI hf626 f610_4 (fun q => q)).trans u610_0
                                  have u627_1 : bm_AI B625 (m + 7) = (fun _ => 0) := (fr_AI hf626 f610_5 (fun q => q)).trans u610_1
                                  have u627_2 : bm_AI B625 (m + 8) = (fun _ => 0) := (fr_AI hf626 f610_6 (fun q => q)).trans u610_2
                                  have w627_0 : bm_AL B625 (m + 1) = 2 := (fr_AL hf626 f610_1).trans w610_0
                                  have w627_1 : bm_AL B625 (m + 6) = 4 := (fr_AL hf626 f610_4).trans w610_1
                                  have w627_2 : bm_AL B625 (m + 7) = 4 := (fr_AL hf626 f610_5).trans w610_2
                                  have w627_3 : bm_AL B625 (m + 8) = 6 := (fr_AL hf626 f610_6).trans w610_3
                                  have w627_4 : bm_AL B625 (m + 9) = 12 := (fr_AL hf626 f610_7).trans w610_4
                                  have w627_5 : bm_AL B625 (m + 10) = 4 := (fr_AL hf626 f610_8).trans w610_5
                                  have t628_0 : ∀ c k, bm_FI B625 c k m = 0 := fun c k => (fr_FI (fr0_f h625.1) f610_0 (fun q => q) c k).trans (t616_0 c k)
                                  have t628_1 : ∀ i, i < 2 → stb (PPk (m + 2 + 2 * i)) (m + 2 + 2 * i) (m + 2 + 2 * i + 2) B625 := fun i hi => stb_fr0 (t616_1 i hi) h625.1 (oq_166 hn617 hi)
                                  have t628_2 : ∀ i, i < 2 → bm_AR B625 ((m + 1)) i = some (m + 2 + 2 * i) := fun i hi => (congrFun (fr_AR (fr0_f h625.1) f610_1 (fun q => q)) i).trans (t616_2 i hi)
                                  have t628_3 : ∀ i, i < 12 → stb (PSe (m + 11 + 3 * i)) (m + 11 + 3 * i) (m + 11 + 3 * i + 3) B625 := fun i hi => stb_fr0 (t616_3 i hi) h625.1 (oq_167 hn617 hi)
                                  have t628_4 : ∀ i, i < 2 → stb (PMe (m + 47 + 39 * i)) (m + 47 + 39 * i) (m + 47 + 39 * i + 39) B625 := fun i hi => stb_fr0 (t616_4 i hi) h625.1 (oq_168 hn617 hi)
                                  have t628_5 : ∀ i, i < 12 → bm_AR B625 ((m + 9)) i = some (m + 11 + 3 * i) := fun i hi => (congrFun (fr_AR (fr0_f h625.1) f610_7 (fun q => q)) i).trans (t616_5 i hi)
                                  have t628_6 : ∀ i, i < 2 → bm_AR B625 ((m + 10)) i = some (m + 47 + 39 * i) := fun i hi => (congrFun (fr_AR (fr0_f h625.1) f610_8 (fun q => q)) i).trans (R620 i hi)
                                  have hn629 : bm_n B625 = (m + 47 + 39 * 3) := (oq_170 h625.2.1.1)
                                  have sl630 : bm_sl B625 = bm_sl B0 + 1776 := by rw [h625.2.1.2, sl618]
                                  have f0631 : fr0 B0 B625 := fr0_trans f0619 h625.1
                                  have F632 : ∀ i, i < 3 → stb (PMe (m + 47 + 39 * i)) (m + 47 + 39 * i) (m + 47 + 39 * i + 39) B625 := al_step (P := fun i => stb (PMe (m + 47 + 39 * i)) (m + 47 + 39 * i) (m + 47 + 39 * i + 39) B625) t628_4 h625.2.2.1
                                  show bm_G _ _ _ 120 _ [.ref ((m + 47 + 39 * 2)), .int 2, .ref ((m + 10))] B625 _
                                  refine g_aast (t := 6) (pc' := 121) cd_De_init rfl rfl f627_8 g627_8 (by decide) rfl rfl h625.2.2.2.1 h625.2.2.2.2 (by rw [show bm_AL B625 (m + 10) = 4 from w627_5]; exact vp_in_nI (n := 2) (by decide) (by decide)) ?_
                                  rw [show (2 : Int32).toNatClampNeg = 2 from by decide]
                                  have t633_0 : ∀ c k, bm_FI (bm_setR B625 (m + 10) 2 (some ((m + 47 + 39 * 2)))) c k m = 0 := t628_0
                                  have t633_1 : ∀ i, i < 2 → stb (PPk (m + 2 + 2 * i)) (m + 2 + 2 * i) (m + 2 + 2 * i + 2) (bm_setR B625 (m + 10) 2 (some ((m + 47 + 39 * 2)))) := fun i hi => stb_setR (t628_1 i hi) (oq_171 hn629 hi) (oq_157 hi)
                                  have t633_2 : ∀ i, i < 2 → bm_AR (bm_setR B625 (m + 10) 2 (some ((m + 47 + 39 * 2)))) ((m + 1)) i = some (m + 2 + 2 * i) := fun i hi => (if_neg (fun q => absurd q.1 oq_158)).trans (t628_2 i hi)
                                  have t633_3 : ∀ i, i < 12 → stb (PSe (m + 11 + 3 * i)) (m + 11 + 3 * i) (m + 11 + 3 * i + 3) (bm_setR B625 (m + 10) 2 (some ((m + 47 + 39 * 2)))) := fun i hi => stb_setR (t628_3 i hi) (oq_172 hn629 hi) (oq_160 hi)
                                  have t633_4 : ∀ i, i < 3 → stb (PMe (m + 47 + 39 * i)) (m + 47 + 39 * i) (m + 47 + 39 * i + 39) (bm_setR B625 (m + 10) 2 (some ((m + 47 + 39 * 2)))) := fun i hi => stb_setR (F632 i hi) (oq_173 hn629 hi) (oq_174 hi)
                                  have t633_5 : ∀ i, i < 12 → bm_AR (bm_setR B625 (m + 10) 2 (some ((m + 47 + 39 * 2)))) ((m + 9)) i = some (m + 11 + 3 * i) := fun i hi => (if_neg (fun q => absurd q.1 oq_163)).trans (t628_5 i hi)
                                  have hn634 : bm_n (bm_setR B625 (m + 10) 2 (some ((m + 47 + 39 * 2)))) = (m + 47 + 39 * 3) := hn629
                                  have sl635 : bm_sl (bm_setR B625 (m + 10) 2 (some ((m + 47 + 39 * 2)))) = bm_sl B0 + 1776 := sl630
                                  have f0636 : fr0 B0 (bm_setR B625 (m + 10) 2 (some ((m + 47 + 39 * 2)))) := fr0_setR f0631 (oq_164 hm)
                                  have R637 : ∀ i, i < 3 → bm_AR (bm_setR B625 (m + 10) 2 (some ((m + 47 + 39 * 2)))) ((m + 10)) i = some (m + 47 + 39 * i) := ars_step (f := fun i => m + 47 + 39 * i) t628_6
                                  refine g_inc (y := 3) (pc' := 124) cd_De_init rfl l1 (by decide) (by decide) rfl (fun lv el => ?_)
                                  have l0 := tm_lk el l0 rfl (by decide)
                                  have l1 : lv.lookup 1 = some (.int 3) := tm_lks el
                                  clear el
                                  refine g_pure (pc' := 103) (st' := []) cd_De_init rfl rfl (fun _ _ => rfl) ?_
                                  refine g_ild (pc' := 104) cd_De_init rfl (Or.inr ⟨_, rfl, rfl, rfl⟩) l1 rfl ?_
                                  refine g_k1 (v := 4) (pc' := 105) cd_De_init rfl (by decide) rfl ?_
                                  refine g_if2 (t := 127) (pc' := 108) cd_De_init rfl rfl rfl (fun c105 => ?_) (fun c105 => ?_)
                                  · exact absurd (show (4 : Int32) ≤ 3 from c105) (by decide)
                                  · have c105 : ¬ (4 : Int32) ≤ 3 := c105
                                    refine g_ald (pc' := 109) cd_De_init rfl (Or.inr ⟨_, rfl, rfl, rfl⟩) l0 rfl rfl ?_
                                    refine g_fR (c := 0) (k := 5) (x := (m + 10)) (pc' := 112) cd_De_init rfl rfl rfl rfl rfl (by decide) f627_0 g627_0 r627_5 ?_
                                    refine g_ild (pc' := 113) cd_De_init rfl (Or.inr ⟨_, rfl, rfl, rfl⟩) l1 rfl ?_
                                    refine n_obj 11 hn634 cd_De_init rfl rfl rfl rfl (by decide) rfl (fun B638 h638 => ?_)
                                    have hf639 := fr0_f h638.1
                                    have f640_0 := fr_lt hf639 f627_0
                                    have g640_0 := (fr_K hf639 f627_0).trans g627_0
                                    have f640_1 := fr_lt hf639 f627_1
                                    have g640_1 := (fr_K hf639 f627_1).trans g627_1
                                    have f640_2 := fr_lt hf639 f627_2
                                    have g640_2 := (fr_K hf639 f627_2).trans g627_2
                                    have f640_3 := fr_lt hf639 f627_3
                                    have g640_3 := (fr_K hf639 f627_3).trans g627_3
                                    have f640_4 := fr_lt hf639 f627_4
                                    have g640_4 := (fr_K hf639 f627_4).trans g627_4
                                    have f640_5 := fr_lt hf639 f627_5
                                    have g640_5 := (fr_K hf639 f627_5).trans g627_5
                                    have f640_6 := fr_lt hf639 f627_6
                                    have g640_6 := (fr_K hf639 f627_6).trans g627_6
                                    have f640_7 := fr_lt hf639 f627_7
                                    have g640_7 := (fr_K hf639 f627_7).trans g627_7
                                    have f640_8 := fr_lt hf639 f627_8
                                    have g640_8 := (fr_K hf639 f627_8).trans g627_8
                                    have f640_9 := fr_lt hf639 f627_9
                                    have g640_9 := (fr_K hf639 f627_9).trans g627_9
                                    have f640_10 := fr_lt hf639 f627_10
                                    have g640_10 := (fr_K hf639 f627_10).trans g627_10
                                    have f640_11 := fr_lt hf639 f627_11
                                    have g640_11 := (fr_K hf639 f627_11).trans g627_11
                                    have f640_12 := fr_lt hf639 f627_12
                                    have g640_12 := (fr_K hf639 f627_12).trans g627_12
                                    have f640_13 := fr_lt hf639 f627_13
                                    have g640_13 := (fr_K hf639 f627_13).trans g627_13
                                    have f640_14 := fr_lt hf639 f627_14
                                    have g640_14 := (fr_K hf639 f627_14).trans g627_14
                                    have f640_15 := fr_lt hf639 f627_15
                                    have g640_15 := (fr_K hf639 f627_15).trans g627_15
                                    have f640_16 := fr_lt hf639 f627_16
                                    have g640_16 := (fr_K hf639 f627_16).trans g627_16
                                    have f640_17 := fr_lt hf639 f627_17
                                    have g640_17 := (fr_K hf639 f627_17).trans g627_17
                                    have f640_18 := fr_lt hf639 f627_18
                                    have g640_18 := (fr_K hf639 f627_18).trans g627_18
                                    have f640_19 := fr_lt hf639 f627_19
                                    have g640_19 := (fr_K hf639 f627_19).trans g627_19
                                    have f640_20 := fr_lt hf639 f627_20
                                    have g640_20 := (fr_K hf639 f627_20).trans g627_20
                                    have f640_21 := fr_lt hf639 f627_21
                                    have g640_21 := (fr_K hf639 f627_21).trans g627_21
                                    have f640_22 := fr_lt hf639 f627_22
                                    have g640_22 := (fr_K hf639 f627_22).trans g627_22
                                    have f640_23 := fr_lt hf639 h625.2.2.2.1
                                    have g640_23 := (fr_K hf639 h625.2.2.2.1).trans h625.2.2.2.2
                                    have r640_0 : bm_FR B638 0 0 m = some (m + 1) := (fr_FR hf639 f627_0 (fun q => q) 0 0).trans r627_0
                                    have r640_1 : bm_FR B638 0 1 m = some (m + 6) := (fr_FR hf639 f627_0 (fun q => q) 0 1).trans r627_1
                                    have r640_2 : bm_FR B638 0 2 m = some (m + 7) := (fr_FR hf639 f627_0 (fun q => q) 0 2).trans r627_2
                                    have r640_3 : bm_FR B638 0 3 m = some (m + 8) := (fr_FR hf639 f627_0 (fun q => q) 0 3).trans r627_3
                                    have r640_4 : bm_FR B638 0 4 m = some (m + 9) := (fr_FR hf639 f627_0 (fun q => q) 0 4).trans r627_4
                                    have r640_5 : bm_FR B638 0 5 m = some (m + 10) := (fr_FR hf639 f627_0 (fun q => q) 0 5).trans r627_5
                                    have u640_0 : bm_AI B638 (m + 6) = (fun _ => 0) := (fr_AI hf639 f627_4 (fun q => q)).trans u627_0
                                    have u640_1 : bm_AI B638 (m + 7) = (fun _ => 0) := (fr_AI hf639 f627_5 (fun q => q)).trans u627_1
                                    have u640_2 : bm_AI B638 (m + 8) = (fun _ => 0) := (fr_AI hf639 f627_6 (fun q => q)).trans u627_2
                                    have w640_0 : bm_AL B638 (m + 1) = 2 := (fr_AL hf639 f627_1).trans w627_0
                                    have w640_1 : bm_AL B638 (m + 6) = 4 := (fr_AL hf639 f627_4).trans w627_1
                                    have w640_2 : bm_AL B638 (m + 7) = 4 := (fr_AL hf639 f627_5).trans w627_2
                                    have w640_3 : bm_AL B638 (m + 8) = 6 := (fr_AL hf639 f627_6).trans w627_3
                                    have w640_4 : bm_AL B638 (m + 9) = 12 := (fr_AL hf639 f627_7).trans w627_4
                                    have w640_5 : bm_AL B638 (m + 10) = 4 := (fr_AL hf639 f627_8).trans w627_5
                                    have t641_0 : ∀ c k, bm_FI B638 c k m = 0 := fun c k => (fr_FI (fr0_f h638.1) f627_0 (fun q => q) c k).trans (t633_0 c k)
                                    have t641_1 : ∀ i, i < 2 → stb (PPk (m + 2 + 2 * i)) (m + 2 + 2 * i) (m + 2 + 2 * i + 2) B638 := fun i hi => stb_fr0 (t633_1 i hi) h638.1 (oq_171 hn634 hi)
                                    have t641_2 : ∀ i, i < 2 → bm_AR B638 ((m + 1)) i = some (m + 2 + 2 * i) := fun i hi => (congrFun (fr_AR (fr0_f h638.1) f627_1 (fun q => q)) i).trans (t633_2 i hi)
                                    have t641_3 : ∀ i, i < 12 → stb (PSe (m + 11 + 3 * i)) (m + 11 + 3 * i) (m + 11 + 3 * i + 3) B638 := fun i hi => stb_fr0 (t633_3 i hi) h638.1 (oq_172 hn634 hi)
                                    have t641_4 : ∀ i, i < 3 → stb (PMe (m + 47 + 39 * i)) (m + 47 + 39 * i) (m + 47 + 39 * i + 39) B638 := fun i hi => stb_fr0 (t633_4 i hi) h638.1 (oq_173 hn634 hi)
                                    have t641_5 : ∀ i, i < 12 → bm_AR B638 ((m + 9)) i = some (m + 11 + 3 * i) := fun i hi => (congrFun (fr_AR (fr0_f h638.1) f627_7 (fun q => q)) i).trans (t633_5 i hi)
                                    have t641_6 : ∀ i, i < 3 → bm_AR B638 ((m + 10)) i = some (m + 47 + 39 * i) := fun i hi => (congrFun (fr_AR (fr0_f h638.1) f627_8 (fun q => q)) i).trans (R637 i hi)
                                    refine g_pure (pc' := 117) (st' := [.ref ((m + 47 + 39 * 3)), .ref ((m + 47 + 39 * 3)), .int 3, .ref ((m + 10))]) cd_De_init rfl rfl (fun _ _ => rfl) ?_
                                    refine g_callv (pc' := 120) cd_De_init rfl rfl rfl rfl rfl (tm_invI rfl rfl cd_Me_init rfl (Nat.le_of_ble_eq_true rfl)) (i_Me hn634 h638 (fun B642 h642 => ?_))
                                    have hf643 := fr0_f h642.1
                                    have f644_0 := fr_lt hf643 f627_0
                                    have g644_0 := (fr_K hf643 f627_0).trans g627_0
                                    have f644_1 := fr_lt hf643 f627_1
                                    have g644_1 := (fr_K hf643 f627_1).trans g627_1
                                    have f644_2 := fr_lt hf643 f627_2
                                    have g644_2 := (fr_K hf643 f627_2).trans g627_2
                                    have f644_3 := fr_lt hf643 f627_3
                                    have g644_3 := (fr_K hf643 f627_3).trans g627_3
                                    have f644_4 := fr_lt hf643 f627_4
                                    have g644_4 := (fr_K hf643 f627_4).trans g627_4
                                    have f644_5 := fr_lt hf643 f627_5
                                    have g644_5 := (fr_K hf643 f627_5).trans g627_5
                                    have f644_6 := fr_lt hf643 f627_6
                                    have g644_6 := (fr_K hf643 f627_6).trans g627_6
                                    have f644_7 := fr_lt hf643 f627_7
                                    have g644_7 := (fr_K hf643 f627_7).trans g627_7
                                    have f644_8 := fr_lt hf643 f627_8
                                    have g644_8 := (fr_K hf643 f627_8).trans g627_8
                                    have f644_9 := fr_lt hf643 f627_9
                                    have g644_9 := (fr_K hf643 f627_9).trans g627_9
                                    have f644_10 := fr_lt hf643 f627_10
                                    have g644_10 := (fr_K hf643 f627_10).trans g627_10
                                    have f644_11 := fr_lt hf643 f627_11
                                    have g644_11 := (fr_K hf643 f627_11).trans g627_11
                                    have f644_12 := fr_lt hf643 f627_12
                                    have g644_12 := (fr_K hf643 f627_12).trans g627_12
                                    have f644_13 := fr_lt hf643 f627_13
                                    have g644_13 := (fr_K hf643 f627_13).trans g627_13
                                    have f644_14 := fr_lt hf643 f627_14
                                    have g644_14 := (fr_K hf643 f627_14).trans g627_14
                                    have f644_15 := fr_lt hf643 f627_15
                                    have g644_15 := (fr_K hf643 f627_15).trans g627_15
                                    have f644_16 := fr_lt hf643 f627_16
                                    have g644_16 := (fr_K hf643 f627_16).trans g627_16
                                    have f644_17 := fr_lt hf643 f627_17
                                    have g644_17 := (fr_K hf643 f627_17).trans g627_17
                                    have f644_18 := fr_lt hf643 f627_18
                                    have g644_18 := (fr_K hf643 f627_18).trans g627_18
                                    have f644_19 := fr_lt hf643 f627_19
                                    have g644_19 := (fr_K hf643 f627_19).trans g627_19
                                    have f644_20 := fr_lt hf643 f627_20
                                    have g644_20 := (fr_K hf643 f627_20).trans g627_20
                                    have f644_21 := fr_lt hf643 f627_21
                                    have g644_21 := (fr_K hf643 f627_21).trans g627_21
                                    have f644_22 := fr_lt hf643 f627_22
                                    have g644_22 := (fr_K hf643 f627_22).trans g627_22
                                    have f644_23 := fr_lt hf643 h625.2.2.2.1
                                    have g644_23 := (fr_K hf643 h625.2.2.2.1).trans h625.2.2.2.2
                                    have r644_0 : bm_FR B642 0 0 m = some (m + 1) := (fr_FR hf643 f627_0 (fun q => q) 0 0).trans r627_0
                                    have r644_1 : bm_FR B642 0 1 m = some (m + 6) := (fr_FR hf643 f627_0 (fun q => q) 0 1).trans r627_1
                                    have r644_2 : bm_FR B642 0 2 m = some (m + 7) := (fr_FR hf643 f627_0 (fun q => q) 0 2).trans r627_2
                                    have r644_3 : bm_FR B642 0 3 m = some (m + 8) := (fr_FR hf643 f627_0 (fun q => q) 0 3).trans r627_3
                                    have r644_4 : bm_FR B642 0 4 m = some (m + 9) := (fr_FR hf643 f627_0 (fun q => q) 0 4).trans r627_4
                                    have r644_5 : bm_FR B642 0 5 m = some (m + 10) := (fr_FR hf643 f627_0 (fun q => q) 0 5).trans r627_5
                                    have u644_0 : bm_AI B642 (m + 6) = (fun _ => 0) := (fr_AI hf643 f627_4 (fun q => q)).trans u627_0
                                    have u644_1 : bm_AI B642 (m + 7) = (fun _ => 0) := (fr_AI hf643 f627_5 (fun q => q)).trans u627_1
                                    have u644_2 : bm_AI B642 (m + 8) = (fun _ => 0) := (fr_AI hf643 f627_6 (fun q => q)).trans u627_2
                                    have w644_0 : bm_AL B642 (m + 1) = 2 := (fr_AL hf643 f627_1).trans w627_0
                                    have w644_1 : bm_AL B642 (m + 6) = 4 := (fr_AL hf643 f627_4).trans w627_1
                                    have w644_2 : bm_AL B642 (m + 7) = 4 := (fr_AL hf643 f627_5).trans w627_2
                                    have w644_3 : bm_AL B642 (m + 8) = 6 := (fr_AL hf643 f627_6).trans w627_3
                                    have w644_4 : bm_AL B642 (m + 9) = 12 := (fr_AL hf643 f627_7).trans w627_4
                                    have w644_5 : bm_AL B642 (m + 10) = 4 := (fr_AL hf643 f627_8).trans w627_5
                                    have t645_0 : ∀ c k, bm_FI B642 c k m = 0 := fun c k => (fr_FI (fr0_f h642.1) f627_0 (fun q => q) c k).trans (t633_0 c k)
                                    have t645_1 : ∀ i, i < 2 → stb (PPk (m + 2 + 2 * i)) (m + 2 + 2 * i) (m + 2 + 2 * i + 2) B642 := fun i hi => stb_fr0 (t633_1 i hi) h642.1 (oq_171 hn634 hi)
                                    have t645_2 : ∀ i, i < 2 → bm_AR B642 ((m + 1)) i = some (m + 2 + 2 * i) := fun i hi => (congrFun (fr_AR (fr0_f h642.1) f627_1 (fun q => q)) i).trans (t633_2 i hi)
                                    have t645_3 : ∀ i, i < 12 → stb (PSe (m + 11 + 3 * i)) (m + 11 + 3 * i) (m + 11 + 3 * i + 3) B642 := fun i hi => stb_fr0 (t633_3 i hi) h642.1 (oq_172 hn634 hi)
                                    have t645_4 : ∀ i, i < 3 → stb (PMe (m + 47 + 39 * i)) (m + 47 + 39 * i) (m + 47 + 39 * i + 39) B642 := fun i hi => stb_fr0 (t633_4 i hi) h642.1 (oq_173 hn634 hi)
                                    have t645_5 : ∀ i, i < 12 → bm_AR B642 ((m + 9)) i = some (m + 11 + 3 * i) := fun i hi => (congrFun (fr_AR (fr0_f h642.1) f627_7 (fun q => q)) i).trans (t633_5 i hi)
                                    have t645_6 : ∀ i, i < 3 → bm_AR B642 ((m + 10)) i = some (m + 47 + 39 * i) := fun i hi => (congrFun (fr_AR (fr0_f h642.1) f627_8 (fun q => q)) i).trans (R637 i hi)
                                    have hn646 : bm_n B642 = (m + 203) := (oq_175 h642.2.1.1)
                                    have sl647 : bm_sl B642 = bm_sl B0 + 2189 := by rw [h642.2.1.2, sl635]
                                    have f0648 : fr0 B0 B642 := fr0_trans f0636 h642.1
                                    have F649 : ∀ i, i < 4 → stb (PMe (m + 47 + 39 * i)) (m + 47 + 39 * i) (m + 47 + 39 * i + 39) B642 := al_step (P := fun i => stb (PMe (m + 47 + 39 * i)) (m + 47 + 39 * i) (m + 47 + 39 * i + 39) B642) t645_4 h642.2.2.1
                                    show bm_G _ _ _ 120 _ [.ref ((m + 47 + 39 * 3)), .int 3, .ref ((m + 10))] B642 _
                                    refine g_aast (t := 6) (pc' := 121) cd_De_init rfl rfl f644_8 g644_8 (by decide) rfl rfl h642.2.2.2.1 h642.2.2.2.2 (by rw [show bm_AL B642 (m + 10) = 4 from w644_5]; exact vp_in_nI (n := 3) (by decide) (by decide)) ?_
                                    rw [show (3 : Int32).toNatClampNeg = 3 from by decide]
                                    have t650_0 : ∀ c k, bm_FI (bm_setR B642 (m + 10) 3 (some ((m + 47 + 39 * 3)))) c k m = 0 := t645_0
                                    have t650_1 : ∀ i, i < 2 → stb (PPk (m + 2 + 2 * i)) (m + 2 + 2 * i) (m + 2 + 2 * i + 2) (bm_setR B642 (m + 10) 3 (some ((m + 47 + 39 * 3)))) := fun i hi => stb_setR (t645_1 i hi) (oq_176 hn646 hi) (oq_157 hi)
                                    have t650_2 : ∀ i, i < 2 → bm_AR (bm_setR B642 (m + 10) 3 (some ((m + 47 + 39 * 3)))) ((m + 1)) i = some (m + 2 + 2 * i) := fun i hi => (if_neg (fun q => absurd q.1 oq_158)).trans (t645_2 i hi)
                                    have t650_3 : ∀ i, i < 12 → stb (PSe (m + 11 + 3 * i)) (m + 11 + 3 * i) (m + 11 + 3 * i + 3) (bm_setR B642 (m + 10) 3 (some ((m + 47 + 39 * 3)))) := fun i hi => stb_setR (t645_3 i hi) (oq_177 hn646 hi) (oq_160 hi)
                                    have t650_4 : ∀ i, i < 4 → stb (PMe (m + 47 + 39 * i)) (m + 47 + 39 * i) (m + 47 + 39 * i + 39) (bm_setR B642 (m + 10) 3 (some ((m + 47 + 39 * 3)))) := fun i hi => stb_setR (F649 i hi) (oq_178 hn646 hi) (oq_179 hi)
                                    have t650_5 : ∀ i, i < 12 → bm_AR (bm_setR B642 (m + 10) 3 (some ((m + 47 + 39 * 3)))) ((m + 9)) i = some (m + 11 + 3 * i) := fun i hi => (if_neg (fun q => absurd q.1 oq_163)).trans (t645_5 i hi)
                                    have hn651 : bm_n (bm_setR B642 (m + 10) 3 (some ((m + 47 + 39 * 3)))) = (m + 203) := hn646
                                    have sl652 : bm_sl (bm_setR B642 (m + 10) 3 (some ((m + 47 + 39 * 3)))) = bm_sl B0 + 2189 := sl647
                                    have f0653 : fr0 B0 (bm_setR B642 (m + 10) 3 (some ((m + 47 + 39 * 3)))) := fr0_setR f0648 (oq_164 hm)
                                    have R654 : ∀ i, i < 4 → bm_AR (bm_setR B642 (m + 10) 3 (some ((m + 47 + 39 * 3)))) ((m + 10)) i = some (m + 47 + 39 * i) := ars_step (f := fun i => m + 47 + 39 * i) t645_6
                                    refine g_inc (y := 4) (pc' := 124) cd_De_init rfl l1 (by decide) (by decide) rfl (fun lv el => ?_)
                                    have l0 := tm_lk el l0 rfl (by decide)
                                    have l1 : lv.lookup 1 = some (.int 4) := tm_lks el
                                    clear el
                                    refine g_pure (pc' := 103) (st' := []) cd_De_init rfl rfl (fun _ _ => rfl) ?_
                                    refine g_ild (pc' := 104) cd_De_init rfl (Or.inr ⟨_, rfl, rfl, rfl⟩) l1 rfl ?_
                                    refine g_k1 (v := 4) (pc' := 105) cd_De_init rfl (by decide) rfl ?_
                                    refine g_if2 (t := 127) (pc' := 108) cd_De_init rfl rfl rfl (fun c105 => ?_) (fun c105 => ?_)
                                    · have c105 : (4 : Int32) ≤ 4 := c105
                                      have hS : stb (PDe m) m (m + 203) (bm_setR B642 (m + 10) 3 (some ((m + 47 + 39 * 3)))) := by
                                        intro B2 g T hz
                                        have e0 := g (m + 0) oq_2 oq_180
                                        have e1 := g (m + 1) oq_4 oq_181
                                        have e6 := g (m + 6) oq_182 oq_183
                                        have e7 := g (m + 7) oq_184 oq_185
                                        have e8 := g (m + 8) oq_186 oq_187
                                        have e9 := g (m + 9) oq_188 oq_189
                                        have e10 := g (m + 10) oq_190 oq_191
                                        refine ⟨⟨⟨e0.1, ce_K e0 g644_0⟩, ⟨ce_FR e0 r644_0, ce_FR e0 r644_1, ce_FR e0 r644_2, ce_FR e0 r644_3, ce_FR e0 r644_4, ce_FR e0 r644_5⟩, ⟨e1.1, ce_K e1 g644_1, ce_AL e1 w644_0⟩, ⟨e6.1, ce_K e6 g644_4, ce_AL e6 w644_1⟩, ⟨e7.1, ce_K e7 g644_5, ce_AL e7 w644_2⟩, ⟨e8.1, ce_K e8 g644_6, ce_AL e8 w644_3⟩, ⟨e9.1, ce_K e9 g644_7, ce_AL e9 w644_4⟩, ⟨e10.1, ce_K e10 g644_8, ce_AL e10 w644_5⟩⟩, ⟨tvq (ce_FI e0 (t650_0 0 6)) hz, (ce_FI e0 (t650_0 0 8))⟩, ⟨⟨ce_AR e1 (t650_2 (0) oq_192), ce_AR e1 (t650_2 (1) oq_193)⟩, (t650_1 (0) oq_192 B2 (fun y h1 h2 => g y (oq_194 h1) (oq_195 h2)) T hz), (t650_1 (1) oq_193 B2 (fun y h1 h2 => g y (oq_196 h1) (oq_197 h2)) T hz)⟩, ⟨⟨(ce_FI e0 (t650_0 0 7)), by decide⟩, fun i e he => by simp at he⟩, fun p hp => ?_, fun q hq => ce_AR e10 (R654 (q) (oq_198 hq)), fun q hq => (t650_4 (q) (oq_198 hq) B2 (fun y h1 h2 => g y (oq_199 h1) (oq_200 hq h2)) T hz)⟩
                                        exact ⟨⟨congrFun (ce_AI e8 u644_2) p, Nat.zero_le _⟩, ⟨ce_AR e9 (t650_5 (2 * p) (oq_58 hp)), ce_AR e9 (t650_5 (2 * p + 1) (oq_59 hp))⟩, eSe, eSe, (t650_3 (2 * p) (oq_58 hp) B2 (fun y h1 h2 => g y (oq_201 h1) (oq_202 hp h2)) T hz), (t650_3 (2 * p + 1) (oq_59 hp) B2 (fun y h1 h2 => g y (oq_203 h1) (oq_204 hp h2)) T hz), rfl⟩
                                      exact g_retv cd_De_init rfl ⟨rfl, kk _ ⟨f0653, ⟨(oq_205 hn651), sl652⟩, hS, f644_0, g644_0⟩⟩
                                    · exact absurd (show ¬ (4 : Int32) ≤ 4 from c105) (by decide)
                          · exact absurd (show ¬ (12 : Int32) ≤ 12 from c79) (by decide)
