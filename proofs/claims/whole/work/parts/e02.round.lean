/-! The law: its loop -/
section LAW
variable {sc : tm_X} {d j pc pc' o nL : Nat} {ini : Bool} {ret : Option FieldType} {code : List (Nat × Instr × Nat)} {lv : tm_L} {st : List Value} {B : bm_H} {Q : Option Value → bm_H → Prop}
theorem g_scr {i : Int32} {x : Int32} (hc : tm_cd j o nL ini ret code) (hl : code.lookup pc = some (.iaload, 1)) (hp : pc + 1 = pc') (hin : vp_in i sc.1) (hx : sc.2 i.toNatClampNeg = x) (kk : bm_G sc d j pc' lv (.int x :: st) B Q) : bm_G sc d j pc lv (.int i :: .retAddr 0 :: st) B Q := by
  subst hp
  subst hx
  refine g_step hc hl rfl ?_ kk
  simp only [tm_step, if_true, tm_iald, bm_inB hin, and_self]
theorem g_scl (hc : tm_cd j o nL ini ret code) (hl : code.lookup pc = some (.arraylength, 1)) (hp : pc + 1 = pc') (kk : bm_G sc d j pc' lv (.int (Int32.ofNat sc.1) :: st) B Q) : bm_G sc d j pc lv (.retAddr 0 :: st) B Q := by
  subst hp
  refine g_step hc hl rfl ?_ kk
  simp only [tm_step, if_true, tm_alen]
end LAW
theorem J_mos {N S n : Nat} {B : bm_H} (h : JI N S n B) : (0 < bm_n B ∧ bm_K B 0 = 11) ∧ (1482 < bm_n B ∧ bm_K B 1482 = 12) ∧ bm_n B ≤ N ∧ bm_sl B ≤ S := by
  obtain ⟨DL, dev, sto, ws, dir, reg, seen, G, L, ls, lo, R, ⟨f, A, T, T', K, Kw, ca, rm, kc, kl, rk, M, ln, wt, π, w, dv, idc, ⟨hC, hH, -, -⟩, ⟨hMo, -⟩, -⟩, -⟩ := h
  have h9 := hC.2.2.2.2.2.2.2.2.1
  exact ⟨hH.1.1, hMo.1, by omega, by omega⟩
/-- the script's row i + a -/
def sx (sc : tm_X) (i a : Nat) : Int32 := sc.2 (5 * i + a)
/-- behind one round of the law -/
def LQ (sc : tm_X) (N S k : Nat) (lv : tm_L) (Q : Option Value → bm_H → Prop) : Prop := ∀ B', JI N S (k + 1) B' → bm_G sc 14 287 1215 lv [] B' Q
set_option maxRecDepth 100000 in
theorem law_publish {sc : tm_X} {N S k : Nat} {lv : tm_L} {B : bm_H} {Q : Option Value → bm_H → Prop} (h : JI N S k B) (hk : k < 64) (hs : 5 * k + 5 ≤ sc.1) (h3 : sc.1 ≤ 320) (l0 : lv.lookup 0 = some (.retAddr 0)) (l1 : lv.lookup 1 = some (.ref 0)) (l2 : lv.lookup 2 = some (.ref 1482)) (l3 : lv.lookup 3 = some (.int (nI (5 * k)))) (kk : LQ sc N S k lv Q) : bm_G sc 14 287 172 lv [] B Q := by
  have hm := J_mos h
  refine g_ald (pc' := 173) cd_L0 rfl (Or.inr ⟨_, rfl, rfl, rfl⟩) l1 rfl rfl ?_
  refine g_ald (pc' := 174) cd_L0 rfl (Or.inr ⟨_, rfl, rfl, rfl⟩) l0 rfl rfl ?_
  refine g_ild (pc' := 175) cd_L0 rfl (Or.inr ⟨_, rfl, rfl, rfl⟩) l3 rfl ?_
  refine g_k1 (v := 1) (pc' := 176) cd_L0 rfl (by decide) rfl ?_
  refine g_pure (pc' := 177) (st' := .int (nI (5 * k) + 1) :: _) cd_L0 rfl rfl (fun _ _ => rfl) ?_
  rw [show (nI (5 * k) + 1 : Int32) = nI (5 * k + 1) from nI_add (5 * k) 1]
  refine g_scr (x := sx sc k 1) (pc' := 178) cd_L0 rfl rfl (vp_in_nI (by omega) (by omega)) (by rw [nI_clamp (by omega)]; rfl) ?_
  refine g_calli (pc' := 181) cd_L0 rfl rfl rfl rfl rfl (tm_invV rfl rfl cd_Ho_publish rfl (Nat.le_of_ble_eq_true rfl) (by decide) hm.1.1 hm.1.2) (g_mono (fun r B1 q => ?_) (C_publish (sc := sc) (d := 1) hk h (sx sc k 1)))
  obtain ⟨x, rfl, hm1, hx⟩ := q
  refine ⟨x, rfl, ?_⟩
  show bm_G sc 14 287 181 lv [.int x] B1 Q
  refine g_ald (pc' := 182) cd_L0 rfl (Or.inr ⟨_, rfl, rfl, rfl⟩) l2 rfl rfl ?_
  refine g_ald (pc' := 183) cd_L0 rfl (Or.inr ⟨_, rfl, rfl, rfl⟩) l0 rfl rfl ?_
  refine g_ild (pc' := 184) cd_L0 rfl (Or.inr ⟨_, rfl, rfl, rfl⟩) l3 rfl ?_
  refine g_k1 (v := 1) (pc' := 185) cd_L0 rfl (by decide) rfl ?_
  refine g_pure (pc' := 186) (st' := .int (nI (5 * k) + 1) :: _) cd_L0 rfl rfl (fun _ _ => rfl) ?_
  rw [show (nI (5 * k) + 1 : Int32) = nI (5 * k + 1) from nI_add (5 * k) 1]
  refine g_scr (x := sx sc k 1) (pc' := 187) cd_L0 rfl rfl (vp_in_nI (by omega) (by omega)) (by rw [nI_clamp (by omega)]; rfl) ?_
  refine g_calli (pc' := 190) cd_L0 rfl rfl rfl rfl rfl (tm_invV rfl rfl cd_Mo_publish rfl (Nat.le_of_ble_eq_true rfl) (by decide) hm1.1 hm1.2) (g_mono (fun r B2 q => ?_) hx)
  obtain ⟨z, rfl, hz, hJ⟩ := q
  refine ⟨z, rfl, ?_⟩
  show bm_G sc 14 287 190 lv [.int z, .int x] B2 Q
  refine g_if2 (t := 1215) (pc' := 193) cd_L0 rfl rfl rfl (fun _ => kk B2 hJ) (fun c => absurd hz c)
set_option maxRecDepth 100000 in
theorem law_begin {sc : tm_X} {N S k : Nat} {lv : tm_L} {B : bm_H} {Q : Option Value → bm_H → Prop} (h : JI N S k B) (hk : k < 64) (hs : 5 * k + 5 ≤ sc.1) (h3 : sc.1 ≤ 320) (l0 : lv.lookup 0 = some (.retAddr 0)) (l1 : lv.lookup 1 = some (.ref 0)) (l2 : lv.lookup 2 = some (.ref 1482)) (l3 : lv.lookup 3 = some (.int (nI (5 * k)))) (kk : LQ sc N S k lv Q) : bm_G sc 14 287 195 lv [] B Q := by
  have hm := J_mos h
  refine g_ald (pc' := 196) cd_L1 rfl (Or.inr ⟨_, rfl, rfl, rfl⟩) l1 rfl rfl ?_
  refine g_ald (pc' := 197) cd_L1 rfl (Or.inr ⟨_, rfl, rfl, rfl⟩) l0 rfl rfl ?_
  refine g_ild (pc' := 198) cd_L1 rfl (Or.inr ⟨_, rfl, rfl, rfl⟩) l3 rfl ?_
  refine g_k1 (v := 1) (pc' := 199) cd_L1 rfl (by decide) rfl ?_
  refine g_pure (pc' := 200) (st' := .int (nI (5 * k) + 1) :: _) cd_L1 rfl rfl (fun _ _ => rfl) ?_
  rw [show (nI (5 * k) + 1 : Int32) = nI (5 * k + 1) from nI_add (5 * k) 1]
  refine g_scr (x := sx sc k 1) (pc' := 201) cd_L1 rfl rfl (vp_in_nI (by omega) (by omega)) (by rw [nI_clamp (by omega)]; rfl) ?_
  refine g_ald (pc' := 202) cd_L1 rfl (Or.inr ⟨_, rfl, rfl, rfl⟩) l0 rfl rfl ?_
  refine g_ild (pc' := 203) cd_L1 rfl (Or.inr ⟨_, rfl, rfl, rfl⟩) l3 rfl ?_
  refine g_k1 (v := 2) (pc' := 204) cd_L1 rfl (by decide) rfl ?_
  refine g_pure (pc' := 205) (st' := .int (nI (5 * k) + 2) :: _) cd_L1 rfl rfl (fun _ _ => rfl) ?_
  rw [show (nI (5 * k) + 2 : Int32) = nI (5 * k + 2) from nI_add (5 * k) 2]
  refine g_scr (x := sx sc k 2) (pc' := 206) cd_L1 rfl rfl (vp_in_nI (by omega) (by omega)) (by rw [nI_clamp (by omega)]; rfl) ?_
  refine g_calli (pc' := 209) cd_L1 rfl rfl rfl rfl rfl (tm_invV rfl rfl cd_Ho_begin rfl (Nat.le_of_ble_eq_true rfl) (by decide) hm.1.1 hm.1.2) (g_mono (fun r B1 q => ?_) (C_begin (sc := sc) (d := 1) hk h (sx sc k 1) (sx sc k 2)))
  obtain ⟨x, rfl, hm1, hx⟩ := q
  refine ⟨x, rfl, ?_⟩
  show bm_G sc 14 287 209 lv [.int x] B1 Q
  refine g_ald (pc' := 210) cd_L1 rfl (Or.inr ⟨_, rfl, rfl, rfl⟩) l2 rfl rfl ?_
  refine g_ald (pc' := 211) cd_L1 rfl (Or.inr ⟨_, rfl, rfl, rfl⟩) l0 rfl rfl ?_
  refine g_ild (pc' := 212) cd_L1 rfl (Or.inr ⟨_, rfl, rfl, rfl⟩) l3 rfl ?_
  refine g_k1 (v := 1) (pc' := 213) cd_L1 rfl (by decide) rfl ?_
  refine g_pure (pc' := 214) (st' := .int (nI (5 * k) + 1) :: _) cd_L1 rfl rfl (fun _ _ => rfl) ?_
  rw [show (nI (5 * k) + 1 : Int32) = nI (5 * k + 1) from nI_add (5 * k) 1]
  refine g_scr (x := sx sc k 1) (pc' := 215) cd_L1 rfl rfl (vp_in_nI (by omega) (by omega)) (by rw [nI_clamp (by omega)]; rfl) ?_
  refine g_ald (pc' := 216) cd_L1 rfl (Or.inr ⟨_, rfl, rfl, rfl⟩) l0 rfl rfl ?_
  refine g_ild (pc' := 217) cd_L1 rfl (Or.inr ⟨_, rfl, rfl, rfl⟩) l3 rfl ?_
  refine g_k1 (v := 2) (pc' := 218) cd_L1 rfl (by decide) rfl ?_
  refine g_pure (pc' := 219) (st' := .int (nI (5 * k) + 2) :: _) cd_L1 rfl rfl (fun _ _ => rfl) ?_
  rw [show (nI (5 * k) + 2 : Int32) = nI (5 * k + 2) from nI_add (5 * k) 2]
  refine g_scr (x := sx sc k 2) (pc' := 220) cd_L1 rfl rfl (vp_in_nI (by omega) (by omega)) (by rw [nI_clamp (by omega)]; rfl) ?_
  refine g_calli (pc' := 223) cd_L1 rfl rfl rfl rfl rfl (tm_invV rfl rfl cd_Mo_begin rfl (Nat.le_of_ble_eq_true rfl) (by decide) hm1.1 hm1.2) (g_mono (fun r B2 q => ?_) hx)
  obtain ⟨z, rfl, hz, hJ⟩ := q
  refine ⟨z, rfl, ?_⟩
  show bm_G sc 14 287 223 lv [.int z, .int x] B2 Q
  refine g_if2 (t := 1215) (pc' := 226) cd_L1 rfl rfl rfl (fun _ => kk B2 hJ) (fun c => absurd hz c)
set_option maxRecDepth 100000 in
theorem law_send {sc : tm_X} {N S k : Nat} {lv : tm_L} {B : bm_H} {Q : Option Value → bm_H → Prop} (h : JI N S k B) (hk : k < 64) (hs : 5 * k + 5 ≤ sc.1) (h3 : sc.1 ≤ 320) (l0 : lv.lookup 0 = some (.retAddr 0)) (l1 : lv.lookup 1 = some (.ref 0)) (l2 : lv.lookup 2 = some (.ref 1482)) (l3 : lv.lookup 3 = some (.int (nI (5 * k)))) (kk : LQ sc N S k lv Q) : bm_G sc 14 287 228 lv [] B Q := by
  have hm := J_mos h
  refine g_ald (pc' := 229) cd_L2 rfl (Or.inr ⟨_, rfl, rfl, rfl⟩) l1 rfl rfl ?_
  refine g_ald (pc' := 230) cd_L2 rfl (Or.inr ⟨_, rfl, rfl, rfl⟩) l0 rfl rfl ?_
  refine g_ild (pc' := 231) cd_L2 rfl (Or.inr ⟨_, rfl, rfl, rfl⟩) l3 rfl ?_
  refine g_k1 (v := 1) (pc' := 232) cd_L2 rfl (by decide) rfl ?_
  refine g_pure (pc' := 233) (st' := .int (nI (5 * k) + 1) :: _) cd_L2 rfl rfl (fun _ _ => rfl) ?_
  rw [show (nI (5 * k) + 1 : Int32) = nI (5 * k + 1) from nI_add (5 * k) 1]
  refine g_scr (x := sx sc k 1) (pc' := 234) cd_L2 rfl rfl (vp_in_nI (by omega) (by omega)) (by rw [nI_clamp (by omega)]; rfl) ?_
  refine g_ald (pc' := 235) cd_L2 rfl (Or.inr ⟨_, rfl, rfl, rfl⟩) l0 rfl rfl ?_
  refine g_ild (pc' := 236) cd_L2 rfl (Or.inr ⟨_, rfl, rfl, rfl⟩) l3 rfl ?_
  refine g_k1 (v := 2) (pc' := 237) cd_L2 rfl (by decide) rfl ?_
  refine g_pure (pc' := 238) (st' := .int (nI (5 * k) + 2) :: _) cd_L2 rfl rfl (fun _ _ => rfl) ?_
  rw [show (nI (5 * k) + 2 : Int32) = nI (5 * k + 2) from nI_add (5 * k) 2]
  refine g_scr (x := sx sc k 2) (pc' := 239) cd_L2 rfl rfl (vp_in_nI (by omega) (by omega)) (by rw [nI_clamp (by omega)]; rfl) ?_
  refine g_calli (pc' := 242) cd_L2 rfl rfl rfl rfl rfl (tm_invV rfl rfl cd_Ho_send rfl (Nat.le_of_ble_eq_true rfl) (by decide) hm.1.1 hm.1.2) (g_mono (fun r B1 q => ?_) (C_send (sc := sc) (d := 1) hk h (sx sc k 1) (sx sc k 2)))
  obtain ⟨x, rfl, hm1, hx⟩ := q
  refine ⟨x, rfl, ?_⟩
  show bm_G sc 14 287 242 lv [.int x] B1 Q
  refine g_ald (pc' := 243) cd_L2 rfl (Or.inr ⟨_, rfl, rfl, rfl⟩) l2 rfl rfl ?_
  refine g_ald (pc' := 244) cd_L2 rfl (Or.inr ⟨_, rfl, rfl, rfl⟩) l0 rfl rfl ?_
  refine g_ild (pc' := 245) cd_L2 rfl (Or.inr ⟨_, rfl, rfl, rfl⟩) l3 rfl ?_
  refine g_k1 (v := 1) (pc' := 246) cd_L2 rfl (by decide) rfl ?_
  refine g_pure (pc' := 247) (st' := .int (nI (5 * k) + 1) :: _) cd_L2 rfl rfl (fun _ _ => rfl) ?_
  rw [show (nI (5 * k) + 1 : Int32) = nI (5 * k + 1) from nI_add (5 * k) 1]
  refine g_scr (x := sx sc k 1) (pc' := 248) cd_L2 rfl rfl (vp_in_nI (by omega) (by omega)) (by rw [nI_clamp (by omega)]; rfl) ?_
  refine g_ald (pc' := 249) cd_L2 rfl (Or.inr ⟨_, rfl, rfl, rfl⟩) l0 rfl rfl ?_
  refine g_ild (pc' := 250) cd_L2 rfl (Or.inr ⟨_, rfl, rfl, rfl⟩) l3 rfl ?_
  refine g_k1 (v := 2) (pc' := 251) cd_L2 rfl (by decide) rfl ?_
  refine g_pure (pc' := 252) (st' := .int (nI (5 * k) + 2) :: _) cd_L2 rfl rfl (fun _ _ => rfl) ?_
  rw [show (nI (5 * k) + 2 : Int32) = nI (5 * k + 2) from nI_add (5 * k) 2]
  refine g_scr (x := sx sc k 2) (pc' := 253) cd_L2 rfl rfl (vp_in_nI (by omega) (by omega)) (by rw [nI_clamp (by omega)]; rfl) ?_
  refine g_calli (pc' := 256) cd_L2 rfl rfl rfl rfl rfl (tm_invV rfl rfl cd_Mo_send rfl (Nat.le_of_ble_eq_true rfl) (by decide) hm1.1 hm1.2) (g_mono (fun r B2 q => ?_) hx)
  obtain ⟨z, rfl, hz, hJ⟩ := q
  refine ⟨z, rfl, ?_⟩
  show bm_G sc 14 287 256 lv [.int z, .int x] B2 Q
  refine g_if2 (t := 1215) (pc' := 259) cd_L2 rfl rfl rfl (fun _ => kk B2 hJ) (fun c => absurd hz c)
set_option maxRecDepth 100000 in
theorem law_list {sc : tm_X} {N S k : Nat} {lv : tm_L} {B : bm_H} {Q : Option Value → bm_H → Prop} (h : JI N S k B) (hk : k < 64) (hs : 5 * k + 5 ≤ sc.1) (h3 : sc.1 ≤ 320) (l0 : lv.lookup 0 = some (.retAddr 0)) (l1 : lv.lookup 1 = some (.ref 0)) (l2 : lv.lookup 2 = some (.ref 1482)) (l3 : lv.lookup 3 = some (.int (nI (5 * k)))) (kk : LQ sc N S k lv Q) : bm_G sc 14 287 261 lv [] B Q := by
  have hm := J_mos h
  refine g_ald (pc' := 262) cd_L3 rfl (Or.inr ⟨_, rfl, rfl, rfl⟩) l1 rfl rfl ?_
  refine g_ald (pc' := 263) cd_L3 rfl (Or.inr ⟨_, rfl, rfl, rfl⟩) l0 rfl rfl ?_
  refine g_ild (pc' := 264) cd_L3 rfl (Or.inr ⟨_, rfl, rfl, rfl⟩) l3 rfl ?_
  refine g_k1 (v := 1) (pc' := 265) cd_L3 rfl (by decide) rfl ?_
  refine g_pure (pc' := 266) (st' := .int (nI (5 * k) + 1) :: _) cd_L3 rfl rfl (fun _ _ => rfl) ?_
  rw [show (nI (5 * k) + 1 : Int32) = nI (5 * k + 1) from nI_add (5 * k) 1]
  refine g_scr (x := sx sc k 1) (pc' := 267) cd_L3 rfl rfl (vp_in_nI (by omega) (by omega)) (by rw [nI_clamp (by omega)]; rfl) ?_
  refine g_ald (pc' := 268) cd_L3 rfl (Or.inr ⟨_, rfl, rfl, rfl⟩) l0 rfl rfl ?_
  refine g_ild (pc' := 269) cd_L3 rfl (Or.inr ⟨_, rfl, rfl, rfl⟩) l3 rfl ?_
  refine g_k1 (v := 2) (pc' := 270) cd_L3 rfl (by decide) rfl ?_
  refine g_pure (pc' := 271) (st' := .int (nI (5 * k) + 2) :: _) cd_L3 rfl rfl (fun _ _ => rfl) ?_
  rw [show (nI (5 * k) + 2 : Int32) = nI (5 * k + 2) from nI_add (5 * k) 2]
  refine g_scr (x := sx sc k 2) (pc' := 272) cd_L3 rfl rfl (vp_in_nI (by omega) (by omega)) (by rw [nI_clamp (by omega)]; rfl) ?_
  refine g_calli (pc' := 275) cd_L3 rfl rfl rfl rfl rfl (tm_invV rfl rfl cd_Ho_list rfl (Nat.le_of_ble_eq_true rfl) (by decide) hm.1.1 hm.1.2) (g_mono (fun r B1 q => ?_) (C_list (sc := sc) (d := 1) hk h (sx sc k 1) (sx sc k 2)))
  obtain ⟨x, rfl, hm1, hx⟩ := q
  refine ⟨x, rfl, ?_⟩
  show bm_G sc 14 287 275 lv [.int x] B1 Q
  refine g_ald (pc' := 276) cd_L3 rfl (Or.inr ⟨_, rfl, rfl, rfl⟩) l2 rfl rfl ?_
  refine g_ald (pc' := 277) cd_L3 rfl (Or.inr ⟨_, rfl, rfl, rfl⟩) l0 rfl rfl ?_
  refine g_ild (pc' := 278) cd_L3 rfl (Or.inr ⟨_, rfl, rfl, rfl⟩) l3 rfl ?_
  refine g_k1 (v := 1) (pc' := 279) cd_L3 rfl (by decide) rfl ?_
  refine g_pure (pc' := 280) (st' := .int (nI (5 * k) + 1) :: _) cd_L3 rfl rfl (fun _ _ => rfl) ?_
  rw [show (nI (5 * k) + 1 : Int32) = nI (5 * k + 1) from nI_add (5 * k) 1]
  refine g_scr (x := sx sc k 1) (pc' := 281) cd_L3 rfl rfl (vp_in_nI (by omega) (by omega)) (by rw [nI_clamp (by omega)]; rfl) ?_
  refine g_ald (pc' := 282) cd_L3 rfl (Or.inr ⟨_, rfl, rfl, rfl⟩) l0 rfl rfl ?_
  refine g_ild (pc' := 283) cd_L3 rfl (Or.inr ⟨_, rfl, rfl, rfl⟩) l3 rfl ?_
  refine g_k1 (v := 2) (pc' := 284) cd_L3 rfl (by decide) rfl ?_
  refine g_pure (pc' := 285) (st' := .int (nI (5 * k) + 2) :: _) cd_L3 rfl rfl (fun _ _ => rfl) ?_
  rw [show (nI (5 * k) + 2 : Int32) = nI (5 * k + 2) from nI_add (5 * k) 2]
  refine g_scr (x := sx sc k 2) (pc' := 286) cd_L3 rfl rfl (vp_in_nI (by omega) (by omega)) (by rw [nI_clamp (by omega)]; rfl) ?_
  refine g_calli (pc' := 289) cd_L3 rfl rfl rfl rfl rfl (tm_invV rfl rfl cd_Mo_list2 rfl (Nat.le_of_ble_eq_true rfl) (by decide) hm1.1 hm1.2) (g_mono (fun r B2 q => ?_) hx)
  obtain ⟨z, rfl, hz, hJ⟩ := q
  refine ⟨z, rfl, ?_⟩
  show bm_G sc 14 287 289 lv [.int z, .int x] B2 Q
  refine g_if2 (t := 1215) (pc' := 292) cd_L3 rfl rfl rfl (fun _ => kk B2 hJ) (fun c => absurd hz c)
set_option maxRecDepth 100000 in
theorem law_post {sc : tm_X} {N S k : Nat} {lv : tm_L} {B : bm_H} {Q : Option Value → bm_H → Prop} (h : JI N S k B) (hk : k < 64) (hs : 5 * k + 5 ≤ sc.1) (h3 : sc.1 ≤ 320) (l0 : lv.lookup 0 = some (.retAddr 0)) (l1 : lv.lookup 1 = some (.ref 0)) (l2 : lv.lookup 2 = some (.ref 1482)) (l3 : lv.lookup 3 = some (.int (nI (5 * k)))) (kk : LQ sc N S k lv Q) : bm_G sc 14 287 294 lv [] B Q := by
  have hm := J_mos h
  refine g_ald (pc' := 295) cd_L4 rfl (Or.inr ⟨_, rfl, rfl, rfl⟩) l1 rfl rfl ?_
  refine g_ald (pc' := 296) cd_L4 rfl (Or.inr ⟨_, rfl, rfl, rfl⟩) l0 rfl rfl ?_
  refine g_ild (pc' := 297) cd_L4 rfl (Or.inr ⟨_, rfl, rfl, rfl⟩) l3 rfl ?_
  refine g_k1 (v := 1) (pc' := 298) cd_L4 rfl (by decide) rfl ?_
  refine g_pure (pc' := 299) (st' := .int (nI (5 * k) + 1) :: _) cd_L4 rfl rfl (fun _ _ => rfl) ?_
  rw [show (nI (5 * k) + 1 : Int32) = nI (5 * k + 1) from nI_add (5 * k) 1]
  refine g_scr (x := sx sc k 1) (pc' := 300) cd_L4 rfl rfl (vp_in_nI (by omega) (by omega)) (by rw [nI_clamp (by omega)]; rfl) ?_
  refine g_ald (pc' := 301) cd_L4 rfl (Or.inr ⟨_, rfl, rfl, rfl⟩) l0 rfl rfl ?_
  refine g_ild (pc' := 302) cd_L4 rfl (Or.inr ⟨_, rfl, rfl, rfl⟩) l3 rfl ?_
  refine g_k1 (v := 2) (pc' := 303) cd_L4 rfl (by decide) rfl ?_
  refine g_pure (pc' := 304) (st' := .int (nI (5 * k) + 2) :: _) cd_L4 rfl rfl (fun _ _ => rfl) ?_
  rw [show (nI (5 * k) + 2 : Int32) = nI (5 * k + 2) from nI_add (5 * k) 2]
  refine g_scr (x := sx sc k 2) (pc' := 305) cd_L4 rfl rfl (vp_in_nI (by omega) (by omega)) (by rw [nI_clamp (by omega)]; rfl) ?_
  refine g_calli (pc' := 308) cd_L4 rfl rfl rfl rfl rfl (tm_invV rfl rfl cd_Ho_post rfl (Nat.le_of_ble_eq_true rfl) (by decide) hm.1.1 hm.1.2) (g_mono (fun r B1 q => ?_) (C_post (sc := sc) (d := 1) hk h (sx sc k 1) (sx sc k 2)))
  obtain ⟨x, rfl, hm1, hx⟩ := q
  refine ⟨x, rfl, ?_⟩
  show bm_G sc 14 287 308 lv [.int x] B1 Q
  refine g_ald (pc' := 309) cd_L4 rfl (Or.inr ⟨_, rfl, rfl, rfl⟩) l2 rfl rfl ?_
  refine g_ald (pc' := 310) cd_L4 rfl (Or.inr ⟨_, rfl, rfl, rfl⟩) l0 rfl rfl ?_
  refine g_ild (pc' := 311) cd_L4 rfl (Or.inr ⟨_, rfl, rfl, rfl⟩) l3 rfl ?_
  refine g_k1 (v := 1) (pc' := 312) cd_L4 rfl (by decide) rfl ?_
  refine g_pure (pc' := 313) (st' := .int (nI (5 * k) + 1) :: _) cd_L4 rfl rfl (fun _ _ => rfl) ?_
  rw [show (nI (5 * k) + 1 : Int32) = nI (5 * k + 1) from nI_add (5 * k) 1]
  refine g_scr (x := sx sc k 1) (pc' := 314) cd_L4 rfl rfl (vp_in_nI (by omega) (by omega)) (by rw [nI_clamp (by omega)]; rfl) ?_
  refine g_ald (pc' := 315) cd_L4 rfl (Or.inr ⟨_, rfl, rfl, rfl⟩) l0 rfl rfl ?_
  refine g_ild (pc' := 316) cd_L4 rfl (Or.inr ⟨_, rfl, rfl, rfl⟩) l3 rfl ?_
  refine g_k1 (v := 2) (pc' := 317) cd_L4 rfl (by decide) rfl ?_
  refine g_pure (pc' := 318) (st' := .int (nI (5 * k) + 2) :: _) cd_L4 rfl rfl (fun _ _ => rfl) ?_
  rw [show (nI (5 * k) + 2 : Int32) = nI (5 * k + 2) from nI_add (5 * k) 2]
  refine g_scr (x := sx sc k 2) (pc' := 319) cd_L4 rfl rfl (vp_in_nI (by omega) (by omega)) (by rw [nI_clamp (by omega)]; rfl) ?_
  refine g_calli (pc' := 322) cd_L4 rfl rfl rfl rfl rfl (tm_invV rfl rfl cd_Mo_post rfl (Nat.le_of_ble_eq_true rfl) (by decide) hm1.1 hm1.2) (g_mono (fun r B2 q => ?_) hx)
  obtain ⟨z, rfl, hz, hJ⟩ := q
  refine ⟨z, rfl, ?_⟩
  show bm_G sc 14 287 322 lv [.int z, .int x] B2 Q
  refine g_if2 (t := 1215) (pc' := 325) cd_L4 rfl rfl rfl (fun _ => kk B2 hJ) (fun c => absurd hz c)
set_option maxRecDepth 100000 in
theorem law_deliver {sc : tm_X} {N S k : Nat} {lv : tm_L} {B : bm_H} {Q : Option Value → bm_H → Prop} (h : JI N S k B) (hk : k < 64) (hs : 5 * k + 5 ≤ sc.1) (h3 : sc.1 ≤ 320) (l0 : lv.lookup 0 = some (.retAddr 0)) (l1 : lv.lookup 1 = some (.ref 0)) (l2 : lv.lookup 2 = some (.ref 1482)) (l3 : lv.lookup 3 = some (.int (nI (5 * k)))) (kk : LQ sc N S k lv Q) : bm_G sc 14 287 327 lv [] B Q := by
  have hm := J_mos h
  refine g_ald (pc' := 328) cd_L5 rfl (Or.inr ⟨_, rfl, rfl, rfl⟩) l1 rfl rfl ?_
  refine g_ald (pc' := 329) cd_L5 rfl (Or.inr ⟨_, rfl, rfl, rfl⟩) l0 rfl rfl ?_
  refine g_ild (pc' := 330) cd_L5 rfl (Or.inr ⟨_, rfl, rfl, rfl⟩) l3 rfl ?_
  refine g_k1 (v := 1) (pc' := 331) cd_L5 rfl (by decide) rfl ?_
  refine g_pure (pc' := 332) (st' := .int (nI (5 * k) + 1) :: _) cd_L5 rfl rfl (fun _ _ => rfl) ?_
  rw [show (nI (5 * k) + 1 : Int32) = nI (5 * k + 1) from nI_add (5 * k) 1]
  refine g_scr (x := sx sc k 1) (pc' := 333) cd_L5 rfl rfl (vp_in_nI (by omega) (by omega)) (by rw [nI_clamp (by omega)]; rfl) ?_
  refine g_ald (pc' := 334) cd_L5 rfl (Or.inr ⟨_, rfl, rfl, rfl⟩) l0 rfl rfl ?_
  refine g_ild (pc' := 335) cd_L5 rfl (Or.inr ⟨_, rfl, rfl, rfl⟩) l3 rfl ?_
  refine g_k1 (v := 2) (pc' := 336) cd_L5 rfl (by decide) rfl ?_
  refine g_pure (pc' := 337) (st' := .int (nI (5 * k) + 2) :: _) cd_L5 rfl rfl (fun _ _ => rfl) ?_
  rw [show (nI (5 * k) + 2 : Int32) = nI (5 * k + 2) from nI_add (5 * k) 2]
  refine g_scr (x := sx sc k 2) (pc' := 338) cd_L5 rfl rfl (vp_in_nI (by omega) (by omega)) (by rw [nI_clamp (by omega)]; rfl) ?_
  refine g_calli (pc' := 341) cd_L5 rfl rfl rfl rfl rfl (tm_invV rfl rfl cd_Ho_deliver rfl (Nat.le_of_ble_eq_true rfl) (by decide) hm.1.1 hm.1.2) (g_mono (fun r B1 q => ?_) (C_deliver (sc := sc) (d := 1) hk h (sx sc k 1) (sx sc k 2)))
  obtain ⟨x, rfl, hm1, hx⟩ := q
  refine ⟨x, rfl, ?_⟩
  show bm_G sc 14 287 341 lv [.int x] B1 Q
  refine g_ald (pc' := 342) cd_L5 rfl (Or.inr ⟨_, rfl, rfl, rfl⟩) l2 rfl rfl ?_
  refine g_ald (pc' := 343) cd_L5 rfl (Or.inr ⟨_, rfl, rfl, rfl⟩) l0 rfl rfl ?_
  refine g_ild (pc' := 344) cd_L5 rfl (Or.inr ⟨_, rfl, rfl, rfl⟩) l3 rfl ?_
  refine g_k1 (v := 1) (pc' := 345) cd_L5 rfl (by decide) rfl ?_
  refine g_pure (pc' := 346) (st' := .int (nI (5 * k) + 1) :: _) cd_L5 rfl rfl (fun _ _ => rfl) ?_
  rw [show (nI (5 * k) + 1 : Int32) = nI (5 * k + 1) from nI_add (5 * k) 1]
  refine g_scr (x := sx sc k 1) (pc' := 347) cd_L5 rfl rfl (vp_in_nI (by omega) (by omega)) (by rw [nI_clamp (by omega)]; rfl) ?_
  refine g_ald (pc' := 348) cd_L5 rfl (Or.inr ⟨_, rfl, rfl, rfl⟩) l0 rfl rfl ?_
  refine g_ild (pc' := 349) cd_L5 rfl (Or.inr ⟨_, rfl, rfl, rfl⟩) l3 rfl ?_
  refine g_k1 (v := 2) (pc' := 350) cd_L5 rfl (by decide) rfl ?_
  refine g_pure (pc' := 351) (st' := .int (nI (5 * k) + 2) :: _) cd_L5 rfl rfl (fun _ _ => rfl) ?_
  rw [show (nI (5 * k) + 2 : Int32) = nI (5 * k + 2) from nI_add (5 * k) 2]
  refine g_scr (x := sx sc k 2) (pc' := 352) cd_L5 rfl rfl (vp_in_nI (by omega) (by omega)) (by rw [nI_clamp (by omega)]; rfl) ?_
  refine g_calli (pc' := 355) cd_L5 rfl rfl rfl rfl rfl (tm_invV rfl rfl cd_Mo_deliver rfl (Nat.le_of_ble_eq_true rfl) (by decide) hm1.1 hm1.2) (g_mono (fun r B2 q => ?_) hx)
  obtain ⟨z, rfl, hz, hJ⟩ := q
  refine ⟨z, rfl, ?_⟩
  show bm_G sc 14 287 355 lv [.int z, .int x] B2 Q
  refine g_if2 (t := 1215) (pc' := 358) cd_L5 rfl rfl rfl (fun _ => kk B2 hJ) (fun c => absurd hz c)
set_option maxRecDepth 100000 in
theorem law_inject {sc : tm_X} {N S k : Nat} {lv : tm_L} {B : bm_H} {Q : Option Value → bm_H → Prop} (h : JI N S k B) (hk : k < 64) (hs : 5 * k + 5 ≤ sc.1) (h3 : sc.1 ≤ 320) (l0 : lv.lookup 0 = some (.retAddr 0)) (l1 : lv.lookup 1 = some (.ref 0)) (l2 : lv.lookup 2 = some (.ref 1482)) (l3 : lv.lookup 3 = some (.int (nI (5 * k)))) (kk : LQ sc N S k lv Q) : bm_G sc 14 287 360 lv [] B Q := by
  have hm := J_mos h
  refine g_ald (pc' := 361) cd_L6 rfl (Or.inr ⟨_, rfl, rfl, rfl⟩) l1 rfl rfl ?_
  refine g_ald (pc' := 362) cd_L6 rfl (Or.inr ⟨_, rfl, rfl, rfl⟩) l0 rfl rfl ?_
  refine g_ild (pc' := 363) cd_L6 rfl (Or.inr ⟨_, rfl, rfl, rfl⟩) l3 rfl ?_
  refine g_k1 (v := 1) (pc' := 364) cd_L6 rfl (by decide) rfl ?_
  refine g_pure (pc' := 365) (st' := .int (nI (5 * k) + 1) :: _) cd_L6 rfl rfl (fun _ _ => rfl) ?_
  rw [show (nI (5 * k) + 1 : Int32) = nI (5 * k + 1) from nI_add (5 * k) 1]
  refine g_scr (x := sx sc k 1) (pc' := 366) cd_L6 rfl rfl (vp_in_nI (by omega) (by omega)) (by rw [nI_clamp (by omega)]; rfl) ?_
  refine g_ald (pc' := 367) cd_L6 rfl (Or.inr ⟨_, rfl, rfl, rfl⟩) l0 rfl rfl ?_
  refine g_ild (pc' := 368) cd_L6 rfl (Or.inr ⟨_, rfl, rfl, rfl⟩) l3 rfl ?_
  refine g_k1 (v := 2) (pc' := 369) cd_L6 rfl (by decide) rfl ?_
  refine g_pure (pc' := 370) (st' := .int (nI (5 * k) + 2) :: _) cd_L6 rfl rfl (fun _ _ => rfl) ?_
  rw [show (nI (5 * k) + 2 : Int32) = nI (5 * k + 2) from nI_add (5 * k) 2]
  refine g_scr (x := sx sc k 2) (pc' := 371) cd_L6 rfl rfl (vp_in_nI (by omega) (by omega)) (by rw [nI_clamp (by omega)]; rfl) ?_
  refine g_calli (pc' := 374) cd_L6 rfl rfl rfl rfl rfl (tm_invV rfl rfl cd_Ho_inject rfl (Nat.le_of_ble_eq_true rfl) (by decide) hm.1.1 hm.1.2) (g_mono (fun r B1 q => ?_) (C_inject (sc := sc) (d := 1) hk h (sx sc k 1) (sx sc k 2)))
  obtain ⟨x, rfl, hm1, hx⟩ := q
  refine ⟨x, rfl, ?_⟩
  show bm_G sc 14 287 374 lv [.int x] B1 Q
  refine g_ald (pc' := 375) cd_L6 rfl (Or.inr ⟨_, rfl, rfl, rfl⟩) l2 rfl rfl ?_
  refine g_ald (pc' := 376) cd_L6 rfl (Or.inr ⟨_, rfl, rfl, rfl⟩) l0 rfl rfl ?_
  refine g_ild (pc' := 377) cd_L6 rfl (Or.inr ⟨_, rfl, rfl, rfl⟩) l3 rfl ?_
  refine g_k1 (v := 1) (pc' := 378) cd_L6 rfl (by decide) rfl ?_
  refine g_pure (pc' := 379) (st' := .int (nI (5 * k) + 1) :: _) cd_L6 rfl rfl (fun _ _ => rfl) ?_
  rw [show (nI (5 * k) + 1 : Int32) = nI (5 * k + 1) from nI_add (5 * k) 1]
  refine g_scr (x := sx sc k 1) (pc' := 380) cd_L6 rfl rfl (vp_in_nI (by omega) (by omega)) (by rw [nI_clamp (by omega)]; rfl) ?_
  refine g_ald (pc' := 381) cd_L6 rfl (Or.inr ⟨_, rfl, rfl, rfl⟩) l0 rfl rfl ?_
  refine g_ild (pc' := 382) cd_L6 rfl (Or.inr ⟨_, rfl, rfl, rfl⟩) l3 rfl ?_
  refine g_k1 (v := 2) (pc' := 383) cd_L6 rfl (by decide) rfl ?_
  refine g_pure (pc' := 384) (st' := .int (nI (5 * k) + 2) :: _) cd_L6 rfl rfl (fun _ _ => rfl) ?_
  rw [show (nI (5 * k) + 2 : Int32) = nI (5 * k + 2) from nI_add (5 * k) 2]
  refine g_scr (x := sx sc k 2) (pc' := 385) cd_L6 rfl rfl (vp_in_nI (by omega) (by omega)) (by rw [nI_clamp (by omega)]; rfl) ?_
  refine g_calli (pc' := 388) cd_L6 rfl rfl rfl rfl rfl (tm_invV rfl rfl cd_Mo_inject rfl (Nat.le_of_ble_eq_true rfl) (by decide) hm1.1 hm1.2) (g_mono (fun r B2 q => ?_) hx)
  obtain ⟨z, rfl, hz, hJ⟩ := q
  refine ⟨z, rfl, ?_⟩
  show bm_G sc 14 287 388 lv [.int z, .int x] B2 Q
  refine g_if2 (t := 1215) (pc' := 391) cd_L6 rfl rfl rfl (fun _ => kk B2 hJ) (fun c => absurd hz c)
set_option maxRecDepth 100000 in
theorem law_crash {sc : tm_X} {N S k : Nat} {lv : tm_L} {B : bm_H} {Q : Option Value → bm_H → Prop} (h : JI N S k B) (hk : k < 64) (hs : 5 * k + 5 ≤ sc.1) (h3 : sc.1 ≤ 320) (l0 : lv.lookup 0 = some (.retAddr 0)) (l1 : lv.lookup 1 = some (.ref 0)) (l2 : lv.lookup 2 = some (.ref 1482)) (l3 : lv.lookup 3 = some (.int (nI (5 * k)))) (kk : LQ sc N S k lv Q) : bm_G sc 14 287 393 lv [] B Q := by
  have hm := J_mos h
  refine g_ald (pc' := 394) cd_L7 rfl (Or.inr ⟨_, rfl, rfl, rfl⟩) l1 rfl rfl ?_
  refine g_ald (pc' := 395) cd_L7 rfl (Or.inr ⟨_, rfl, rfl, rfl⟩) l0 rfl rfl ?_
  refine g_ild (pc' := 396) cd_L7 rfl (Or.inr ⟨_, rfl, rfl, rfl⟩) l3 rfl ?_
  refine g_k1 (v := 1) (pc' := 397) cd_L7 rfl (by decide) rfl ?_
  refine g_pure (pc' := 398) (st' := .int (nI (5 * k) + 1) :: _) cd_L7 rfl rfl (fun _ _ => rfl) ?_
  rw [show (nI (5 * k) + 1 : Int32) = nI (5 * k + 1) from nI_add (5 * k) 1]
  refine g_scr (x := sx sc k 1) (pc' := 399) cd_L7 rfl rfl (vp_in_nI (by omega) (by omega)) (by rw [nI_clamp (by omega)]; rfl) ?_
  refine g_ald (pc' := 400) cd_L7 rfl (Or.inr ⟨_, rfl, rfl, rfl⟩) l0 rfl rfl ?_
  refine g_ild (pc' := 401) cd_L7 rfl (Or.inr ⟨_, rfl, rfl, rfl⟩) l3 rfl ?_
  refine g_k1 (v := 2) (pc' := 402) cd_L7 rfl (by decide) rfl ?_
  refine g_pure (pc' := 403) (st' := .int (nI (5 * k) + 2) :: _) cd_L7 rfl rfl (fun _ _ => rfl) ?_
  rw [show (nI (5 * k) + 2 : Int32) = nI (5 * k + 2) from nI_add (5 * k) 2]
  refine g_scr (x := sx sc k 2) (pc' := 404) cd_L7 rfl rfl (vp_in_nI (by omega) (by omega)) (by rw [nI_clamp (by omega)]; rfl) ?_
  refine g_calli (pc' := 407) cd_L7 rfl rfl rfl rfl rfl (tm_invV rfl rfl cd_Ho_crash rfl (Nat.le_of_ble_eq_true rfl) (by decide) hm.1.1 hm.1.2) (g_mono (fun r B1 q => ?_) (C_crash (sc := sc) (d := 1) hk h (sx sc k 1) (sx sc k 2)))
  obtain ⟨x, rfl, hm1, hx⟩ := q
  refine ⟨x, rfl, ?_⟩
  show bm_G sc 14 287 407 lv [.int x] B1 Q
  refine g_ald (pc' := 408) cd_L7 rfl (Or.inr ⟨_, rfl, rfl, rfl⟩) l2 rfl rfl ?_
  refine g_ald (pc' := 409) cd_L7 rfl (Or.inr ⟨_, rfl, rfl, rfl⟩) l0 rfl rfl ?_
  refine g_ild (pc' := 410) cd_L7 rfl (Or.inr ⟨_, rfl, rfl, rfl⟩) l3 rfl ?_
  refine g_k1 (v := 1) (pc' := 411) cd_L7 rfl (by decide) rfl ?_
  refine g_pure (pc' := 412) (st' := .int (nI (5 * k) + 1) :: _) cd_L7 rfl rfl (fun _ _ => rfl) ?_
  rw [show (nI (5 * k) + 1 : Int32) = nI (5 * k + 1) from nI_add (5 * k) 1]
  refine g_scr (x := sx sc k 1) (pc' := 413) cd_L7 rfl rfl (vp_in_nI (by omega) (by omega)) (by rw [nI_clamp (by omega)]; rfl) ?_
  refine g_ald (pc' := 414) cd_L7 rfl (Or.inr ⟨_, rfl, rfl, rfl⟩) l0 rfl rfl ?_
  refine g_ild (pc' := 415) cd_L7 rfl (Or.inr ⟨_, rfl, rfl, rfl⟩) l3 rfl ?_
  refine g_k1 (v := 2) (pc' := 416) cd_L7 rfl (by decide) rfl ?_
  refine g_pure (pc' := 417) (st' := .int (nI (5 * k) + 2) :: _) cd_L7 rfl rfl (fun _ _ => rfl) ?_
  rw [show (nI (5 * k) + 2 : Int32) = nI (5 * k + 2) from nI_add (5 * k) 2]
  refine g_scr (x := sx sc k 2) (pc' := 418) cd_L7 rfl rfl (vp_in_nI (by omega) (by omega)) (by rw [nI_clamp (by omega)]; rfl) ?_
  refine g_calli (pc' := 421) cd_L7 rfl rfl rfl rfl rfl (tm_invV rfl rfl cd_Mo_crash rfl (Nat.le_of_ble_eq_true rfl) (by decide) hm1.1 hm1.2) (g_mono (fun r B2 q => ?_) hx)
  obtain ⟨z, rfl, hz, hJ⟩ := q
  refine ⟨z, rfl, ?_⟩
  show bm_G sc 14 287 421 lv [.int z, .int x] B2 Q
  refine g_if2 (t := 1215) (pc' := 424) cd_L7 rfl rfl rfl (fun _ => kk B2 hJ) (fun c => absurd hz c)
set_option maxRecDepth 100000 in
theorem law_up {sc : tm_X} {N S k : Nat} {lv : tm_L} {B : bm_H} {Q : Option Value → bm_H → Prop} (h : JI N S k B) (hk : k < 64) (hs : 5 * k + 5 ≤ sc.1) (h3 : sc.1 ≤ 320) (l0 : lv.lookup 0 = some (.retAddr 0)) (l1 : lv.lookup 1 = some (.ref 0)) (l2 : lv.lookup 2 = some (.ref 1482)) (l3 : lv.lookup 3 = some (.int (nI (5 * k)))) (kk : LQ sc N S k lv Q) : bm_G sc 14 287 426 lv [] B Q := by
  have hm := J_mos h
  refine g_ald (pc' := 427) cd_L8 rfl (Or.inr ⟨_, rfl, rfl, rfl⟩) l1 rfl rfl ?_
  refine g_ald (pc' := 428) cd_L8 rfl (Or.inr ⟨_, rfl, rfl, rfl⟩) l0 rfl rfl ?_
  refine g_ild (pc' := 429) cd_L8 rfl (Or.inr ⟨_, rfl, rfl, rfl⟩) l3 rfl ?_
  refine g_k1 (v := 1) (pc' := 430) cd_L8 rfl (by decide) rfl ?_
  refine g_pure (pc' := 431) (st' := .int (nI (5 * k) + 1) :: _) cd_L8 rfl rfl (fun _ _ => rfl) ?_
  rw [show (nI (5 * k) + 1 : Int32) = nI (5 * k + 1) from nI_add (5 * k) 1]
  refine g_scr (x := sx sc k 1) (pc' := 432) cd_L8 rfl rfl (vp_in_nI (by omega) (by omega)) (by rw [nI_clamp (by omega)]; rfl) ?_
  refine g_calli (pc' := 435) cd_L8 rfl rfl rfl rfl rfl (tm_invV rfl rfl cd_Ho_up rfl (Nat.le_of_ble_eq_true rfl) (by decide) hm.1.1 hm.1.2) (g_mono (fun r B1 q => ?_) (C_up (sc := sc) (d := 1) hk h (sx sc k 1)))
  obtain ⟨x, rfl, hm1, hx⟩ := q
  refine ⟨x, rfl, ?_⟩
  show bm_G sc 14 287 435 lv [.int x] B1 Q
  refine g_ald (pc' := 436) cd_L8 rfl (Or.inr ⟨_, rfl, rfl, rfl⟩) l2 rfl rfl ?_
  refine g_ald (pc' := 437) cd_L8 rfl (Or.inr ⟨_, rfl, rfl, rfl⟩) l0 rfl rfl ?_
  refine g_ild (pc' := 438) cd_L8 rfl (Or.inr ⟨_, rfl, rfl, rfl⟩) l3 rfl ?_
  refine g_k1 (v := 1) (pc' := 439) cd_L8 rfl (by decide) rfl ?_
  refine g_pure (pc' := 440) (st' := .int (nI (5 * k) + 1) :: _) cd_L8 rfl rfl (fun _ _ => rfl) ?_
  rw [show (nI (5 * k) + 1 : Int32) = nI (5 * k + 1) from nI_add (5 * k) 1]
  refine g_scr (x := sx sc k 1) (pc' := 441) cd_L8 rfl rfl (vp_in_nI (by omega) (by omega)) (by rw [nI_clamp (by omega)]; rfl) ?_
  refine g_calli (pc' := 444) cd_L8 rfl rfl rfl rfl rfl (tm_invV rfl rfl cd_Mo_up rfl (Nat.le_of_ble_eq_true rfl) (by decide) hm1.1 hm1.2) (g_mono (fun r B2 q => ?_) hx)
  obtain ⟨z, rfl, hz, hJ⟩ := q
  refine ⟨z, rfl, ?_⟩
  show bm_G sc 14 287 444 lv [.int z, .int x] B2 Q
  refine g_if2 (t := 1215) (pc' := 447) cd_L8 rfl rfl rfl (fun _ => kk B2 hJ) (fun c => absurd hz c)
set_option maxRecDepth 100000 in
theorem law_draw {sc : tm_X} {N S k : Nat} {lv : tm_L} {B : bm_H} {Q : Option Value → bm_H → Prop} (h : JI N S k B) (hk : k < 64) (hs : 5 * k + 5 ≤ sc.1) (h3 : sc.1 ≤ 320) (l0 : lv.lookup 0 = some (.retAddr 0)) (l1 : lv.lookup 1 = some (.ref 0)) (l2 : lv.lookup 2 = some (.ref 1482)) (l3 : lv.lookup 3 = some (.int (nI (5 * k)))) (kk : LQ sc N S k lv Q) : bm_G sc 14 287 449 lv [] B Q := by
  have hm := J_mos h
  refine g_ald (pc' := 450) cd_L9 rfl (Or.inr ⟨_, rfl, rfl, rfl⟩) l1 rfl rfl ?_
  refine g_ald (pc' := 451) cd_L9 rfl (Or.inr ⟨_, rfl, rfl, rfl⟩) l0 rfl rfl ?_
  refine g_ild (pc' := 452) cd_L9 rfl (Or.inr ⟨_, rfl, rfl, rfl⟩) l3 rfl ?_
  refine g_k1 (v := 1) (pc' := 453) cd_L9 rfl (by decide) rfl ?_
  refine g_pure (pc' := 454) (st' := .int (nI (5 * k) + 1) :: _) cd_L9 rfl rfl (fun _ _ => rfl) ?_
  rw [show (nI (5 * k) + 1 : Int32) = nI (5 * k + 1) from nI_add (5 * k) 1]
  refine g_scr (x := sx sc k 1) (pc' := 455) cd_L9 rfl rfl (vp_in_nI (by omega) (by omega)) (by rw [nI_clamp (by omega)]; rfl) ?_
  refine g_calli (pc' := 458) cd_L9 rfl rfl rfl rfl rfl (tm_invV rfl rfl cd_Ho_draw rfl (Nat.le_of_ble_eq_true rfl) (by decide) hm.1.1 hm.1.2) (g_mono (fun r B1 q => ?_) (C_draw (sc := sc) (d := 1) hk h (sx sc k 1)))
  obtain ⟨x, rfl, hm1, hx⟩ := q
  refine ⟨x, rfl, ?_⟩
  show bm_G sc 14 287 458 lv [.int x] B1 Q
  refine g_ald (pc' := 459) cd_L9 rfl (Or.inr ⟨_, rfl, rfl, rfl⟩) l2 rfl rfl ?_
  refine g_ald (pc' := 460) cd_L9 rfl (Or.inr ⟨_, rfl, rfl, rfl⟩) l0 rfl rfl ?_
  refine g_ild (pc' := 461) cd_L9 rfl (Or.inr ⟨_, rfl, rfl, rfl⟩) l3 rfl ?_
  refine g_k1 (v := 1) (pc' := 462) cd_L9 rfl (by decide) rfl ?_
  refine g_pure (pc' := 463) (st' := .int (nI (5 * k) + 1) :: _) cd_L9 rfl rfl (fun _ _ => rfl) ?_
  rw [show (nI (5 * k) + 1 : Int32) = nI (5 * k + 1) from nI_add (5 * k) 1]
  refine g_scr (x := sx sc k 1) (pc' := 464) cd_L9 rfl rfl (vp_in_nI (by omega) (by omega)) (by rw [nI_clamp (by omega)]; rfl) ?_
  refine g_calli (pc' := 467) cd_L9 rfl rfl rfl rfl rfl (tm_invV rfl rfl cd_Mo_draw rfl (Nat.le_of_ble_eq_true rfl) (by decide) hm1.1 hm1.2) (g_mono (fun r B2 q => ?_) hx)
  obtain ⟨z, rfl, hz, hJ⟩ := q
  refine ⟨z, rfl, ?_⟩
  show bm_G sc 14 287 467 lv [.int z, .int x] B2 Q
  refine g_if2 (t := 1215) (pc' := 470) cd_L9 rfl rfl rfl (fun _ => kk B2 hJ) (fun c => absurd hz c)
set_option maxRecDepth 100000 in
theorem law_take {sc : tm_X} {N S k : Nat} {lv : tm_L} {B : bm_H} {Q : Option Value → bm_H → Prop} (h : JI N S k B) (hk : k < 64) (hs : 5 * k + 5 ≤ sc.1) (h3 : sc.1 ≤ 320) (l0 : lv.lookup 0 = some (.retAddr 0)) (l1 : lv.lookup 1 = some (.ref 0)) (l2 : lv.lookup 2 = some (.ref 1482)) (l3 : lv.lookup 3 = some (.int (nI (5 * k)))) (kk : LQ sc N S k lv Q) : bm_G sc 14 287 472 lv [] B Q := by
  have hm := J_mos h
  refine g_ald (pc' := 473) cd_L10 rfl (Or.inr ⟨_, rfl, rfl, rfl⟩) l1 rfl rfl ?_
  refine g_ald (pc' := 474) cd_L10 rfl (Or.inr ⟨_, rfl, rfl, rfl⟩) l0 rfl rfl ?_
  refine g_ild (pc' := 475) cd_L10 rfl (Or.inr ⟨_, rfl, rfl, rfl⟩) l3 rfl ?_
  refine g_k1 (v := 1) (pc' := 476) cd_L10 rfl (by decide) rfl ?_
  refine g_pure (pc' := 477) (st' := .int (nI (5 * k) + 1) :: _) cd_L10 rfl rfl (fun _ _ => rfl) ?_
  rw [show (nI (5 * k) + 1 : Int32) = nI (5 * k + 1) from nI_add (5 * k) 1]
  refine g_scr (x := sx sc k 1) (pc' := 478) cd_L10 rfl rfl (vp_in_nI (by omega) (by omega)) (by rw [nI_clamp (by omega)]; rfl) ?_
  refine g_ald (pc' := 479) cd_L10 rfl (Or.inr ⟨_, rfl, rfl, rfl⟩) l0 rfl rfl ?_
  refine g_ild (pc' := 480) cd_L10 rfl (Or.inr ⟨_, rfl, rfl, rfl⟩) l3 rfl ?_
  refine g_k1 (v := 2) (pc' := 481) cd_L10 rfl (by decide) rfl ?_
  refine g_pure (pc' := 482) (st' := .int (nI (5 * k) + 2) :: _) cd_L10 rfl rfl (fun _ _ => rfl) ?_
  rw [show (nI (5 * k) + 2 : Int32) = nI (5 * k + 2) from nI_add (5 * k) 2]
  refine g_scr (x := sx sc k 2) (pc' := 483) cd_L10 rfl rfl (vp_in_nI (by omega) (by omega)) (by rw [nI_clamp (by omega)]; rfl) ?_
  refine g_ald (pc' := 484) cd_L10 rfl (Or.inr ⟨_, rfl, rfl, rfl⟩) l0 rfl rfl ?_
  refine g_ild (pc' := 485) cd_L10 rfl (Or.inr ⟨_, rfl, rfl, rfl⟩) l3 rfl ?_
  refine g_k1 (v := 3) (pc' := 486) cd_L10 rfl (by decide) rfl ?_
  refine g_pure (pc' := 487) (st' := .int (nI (5 * k) + 3) :: _) cd_L10 rfl rfl (fun _ _ => rfl) ?_
  rw [show (nI (5 * k) + 3 : Int32) = nI (5 * k + 3) from nI_add (5 * k) 3]
  refine g_scr (x := sx sc k 3) (pc' := 488) cd_L10 rfl rfl (vp_in_nI (by omega) (by omega)) (by rw [nI_clamp (by omega)]; rfl) ?_
  refine g_calli (pc' := 491) cd_L10 rfl rfl rfl rfl rfl (tm_invV rfl rfl cd_Ho_take rfl (Nat.le_of_ble_eq_true rfl) (by decide) hm.1.1 hm.1.2) (g_mono (fun r B1 q => ?_) (C_take (sc := sc) (d := 1) hk h (sx sc k 1) (sx sc k 2) (sx sc k 3)))
  obtain ⟨x, rfl, hm1, hx⟩ := q
  refine ⟨x, rfl, ?_⟩
  show bm_G sc 14 287 491 lv [.int x] B1 Q
  refine g_ald (pc' := 492) cd_L10 rfl (Or.inr ⟨_, rfl, rfl, rfl⟩) l2 rfl rfl ?_
  refine g_ald (pc' := 493) cd_L10 rfl (Or.inr ⟨_, rfl, rfl, rfl⟩) l0 rfl rfl ?_
  refine g_ild (pc' := 494) cd_L10 rfl (Or.inr ⟨_, rfl, rfl, rfl⟩) l3 rfl ?_
  refine g_k1 (v := 1) (pc' := 495) cd_L10 rfl (by decide) rfl ?_
  refine g_pure (pc' := 496) (st' := .int (nI (5 * k) + 1) :: _) cd_L10 rfl rfl (fun _ _ => rfl) ?_
  rw [show (nI (5 * k) + 1 : Int32) = nI (5 * k + 1) from nI_add (5 * k) 1]
  refine g_scr (x := sx sc k 1) (pc' := 497) cd_L10 rfl rfl (vp_in_nI (by omega) (by omega)) (by rw [nI_clamp (by omega)]; rfl) ?_
  refine g_ald (pc' := 498) cd_L10 rfl (Or.inr ⟨_, rfl, rfl, rfl⟩) l0 rfl rfl ?_
  refine g_ild (pc' := 499) cd_L10 rfl (Or.inr ⟨_, rfl, rfl, rfl⟩) l3 rfl ?_
  refine g_k1 (v := 2) (pc' := 500) cd_L10 rfl (by decide) rfl ?_
  refine g_pure (pc' := 501) (st' := .int (nI (5 * k) + 2) :: _) cd_L10 rfl rfl (fun _ _ => rfl) ?_
  rw [show (nI (5 * k) + 2 : Int32) = nI (5 * k + 2) from nI_add (5 * k) 2]
  refine g_scr (x := sx sc k 2) (pc' := 502) cd_L10 rfl rfl (vp_in_nI (by omega) (by omega)) (by rw [nI_clamp (by omega)]; rfl) ?_
  refine g_ald (pc' := 503) cd_L10 rfl (Or.inr ⟨_, rfl, rfl, rfl⟩) l0 rfl rfl ?_
  refine g_ild (pc' := 504) cd_L10 rfl (Or.inr ⟨_, rfl, rfl, rfl⟩) l3 rfl ?_
  refine g_k1 (v := 3) (pc' := 505) cd_L10 rfl (by decide) rfl ?_
  refine g_pure (pc' := 506) (st' := .int (nI (5 * k) + 3) :: _) cd_L10 rfl rfl (fun _ _ => rfl) ?_
  rw [show (nI (5 * k) + 3 : Int32) = nI (5 * k + 3) from nI_add (5 * k) 3]
  refine g_scr (x := sx sc k 3) (pc' := 507) cd_L10 rfl rfl (vp_in_nI (by omega) (by omega)) (by rw [nI_clamp (by omega)]; rfl) ?_
  refine g_calli (pc' := 510) cd_L10 rfl rfl rfl rfl rfl (tm_invV rfl rfl cd_Mo_take rfl (Nat.le_of_ble_eq_true rfl) (by decide) hm1.1 hm1.2) (g_mono (fun r B2 q => ?_) hx)
  obtain ⟨z, rfl, hz, hJ⟩ := q
  refine ⟨z, rfl, ?_⟩
  show bm_G sc 14 287 510 lv [.int z, .int x] B2 Q
  refine g_if2 (t := 1215) (pc' := 513) cd_L10 rfl rfl rfl (fun _ => kk B2 hJ) (fun c => absurd hz c)
set_option maxRecDepth 100000 in
theorem law_part {sc : tm_X} {N S k : Nat} {lv : tm_L} {B : bm_H} {Q : Option Value → bm_H → Prop} (h : JI N S k B) (hk : k < 64) (hs : 5 * k + 5 ≤ sc.1) (h3 : sc.1 ≤ 320) (l0 : lv.lookup 0 = some (.retAddr 0)) (l1 : lv.lookup 1 = some (.ref 0)) (l2 : lv.lookup 2 = some (.ref 1482)) (l3 : lv.lookup 3 = some (.int (nI (5 * k)))) (kk : LQ sc N S k lv Q) : bm_G sc 14 287 515 lv [] B Q := by
  have hm := J_mos h
  refine g_ald (pc' := 516) cd_L11 rfl (Or.inr ⟨_, rfl, rfl, rfl⟩) l1 rfl rfl ?_
  refine g_ald (pc' := 517) cd_L11 rfl (Or.inr ⟨_, rfl, rfl, rfl⟩) l0 rfl rfl ?_
  refine g_ild (pc' := 518) cd_L11 rfl (Or.inr ⟨_, rfl, rfl, rfl⟩) l3 rfl ?_
  refine g_k1 (v := 1) (pc' := 519) cd_L11 rfl (by decide) rfl ?_
  refine g_pure (pc' := 520) (st' := .int (nI (5 * k) + 1) :: _) cd_L11 rfl rfl (fun _ _ => rfl) ?_
  rw [show (nI (5 * k) + 1 : Int32) = nI (5 * k + 1) from nI_add (5 * k) 1]
  refine g_scr (x := sx sc k 1) (pc' := 521) cd_L11 rfl rfl (vp_in_nI (by omega) (by omega)) (by rw [nI_clamp (by omega)]; rfl) ?_
  refine g_ald (pc' := 522) cd_L11 rfl (Or.inr ⟨_, rfl, rfl, rfl⟩) l0 rfl rfl ?_
  refine g_ild (pc' := 523) cd_L11 rfl (Or.inr ⟨_, rfl, rfl, rfl⟩) l3 rfl ?_
  refine g_k1 (v := 2) (pc' := 524) cd_L11 rfl (by decide) rfl ?_
  refine g_pure (pc' := 525) (st' := .int (nI (5 * k) + 2) :: _) cd_L11 rfl rfl (fun _ _ => rfl) ?_
  rw [show (nI (5 * k) + 2 : Int32) = nI (5 * k + 2) from nI_add (5 * k) 2]
  refine g_scr (x := sx sc k 2) (pc' := 526) cd_L11 rfl rfl (vp_in_nI (by omega) (by omega)) (by rw [nI_clamp (by omega)]; rfl) ?_
  refine g_ald (pc' := 527) cd_L11 rfl (Or.inr ⟨_, rfl, rfl, rfl⟩) l0 rfl rfl ?_
  refine g_ild (pc' := 528) cd_L11 rfl (Or.inr ⟨_, rfl, rfl, rfl⟩) l3 rfl ?_
  refine g_k1 (v := 3) (pc' := 529) cd_L11 rfl (by decide) rfl ?_
  refine g_pure (pc' := 530) (st' := .int (nI (5 * k) + 3) :: _) cd_L11 rfl rfl (fun _ _ => rfl) ?_
  rw [show (nI (5 * k) + 3 : Int32) = nI (5 * k + 3) from nI_add (5 * k) 3]
  refine g_scr (x := sx sc k 3) (pc' := 531) cd_L11 rfl rfl (vp_in_nI (by omega) (by omega)) (by rw [nI_clamp (by omega)]; rfl) ?_
  refine g_calli (pc' := 534) cd_L11 rfl rfl rfl rfl rfl (tm_invV rfl rfl cd_Ho_part rfl (Nat.le_of_ble_eq_true rfl) (by decide) hm.1.1 hm.1.2) (g_mono (fun r B1 q => ?_) (C_part (sc := sc) (d := 1) hk h (sx sc k 1) (sx sc k 2) (sx sc k 3)))
  obtain ⟨x, rfl, hm1, hx⟩ := q
  refine ⟨x, rfl, ?_⟩
  show bm_G sc 14 287 534 lv [.int x] B1 Q
  refine g_ald (pc' := 535) cd_L11 rfl (Or.inr ⟨_, rfl, rfl, rfl⟩) l2 rfl rfl ?_
  refine g_ald (pc' := 536) cd_L11 rfl (Or.inr ⟨_, rfl, rfl, rfl⟩) l0 rfl rfl ?_
  refine g_ild (pc' := 537) cd_L11 rfl (Or.inr ⟨_, rfl, rfl, rfl⟩) l3 rfl ?_
  refine g_k1 (v := 1) (pc' := 538) cd_L11 rfl (by decide) rfl ?_
  refine g_pure (pc' := 539) (st' := .int (nI (5 * k) + 1) :: _) cd_L11 rfl rfl (fun _ _ => rfl) ?_
  rw [show (nI (5 * k) + 1 : Int32) = nI (5 * k + 1) from nI_add (5 * k) 1]
  refine g_scr (x := sx sc k 1) (pc' := 540) cd_L11 rfl rfl (vp_in_nI (by omega) (by omega)) (by rw [nI_clamp (by omega)]; rfl) ?_
  refine g_ald (pc' := 541) cd_L11 rfl (Or.inr ⟨_, rfl, rfl, rfl⟩) l0 rfl rfl ?_
  refine g_ild (pc' := 542) cd_L11 rfl (Or.inr ⟨_, rfl, rfl, rfl⟩) l3 rfl ?_
  refine g_k1 (v := 2) (pc' := 543) cd_L11 rfl (by decide) rfl ?_
  refine g_pure (pc' := 544) (st' := .int (nI (5 * k) + 2) :: _) cd_L11 rfl rfl (fun _ _ => rfl) ?_
  rw [show (nI (5 * k) + 2 : Int32) = nI (5 * k + 2) from nI_add (5 * k) 2]
  refine g_scr (x := sx sc k 2) (pc' := 545) cd_L11 rfl rfl (vp_in_nI (by omega) (by omega)) (by rw [nI_clamp (by omega)]; rfl) ?_
  refine g_ald (pc' := 546) cd_L11 rfl (Or.inr ⟨_, rfl, rfl, rfl⟩) l0 rfl rfl ?_
  refine g_ild (pc' := 547) cd_L11 rfl (Or.inr ⟨_, rfl, rfl, rfl⟩) l3 rfl ?_
  refine g_k1 (v := 3) (pc' := 548) cd_L11 rfl (by decide) rfl ?_
  refine g_pure (pc' := 549) (st' := .int (nI (5 * k) + 3) :: _) cd_L11 rfl rfl (fun _ _ => rfl) ?_
  rw [show (nI (5 * k) + 3 : Int32) = nI (5 * k + 3) from nI_add (5 * k) 3]
  refine g_scr (x := sx sc k 3) (pc' := 550) cd_L11 rfl rfl (vp_in_nI (by omega) (by omega)) (by rw [nI_clamp (by omega)]; rfl) ?_
  refine g_calli (pc' := 553) cd_L11 rfl rfl rfl rfl rfl (tm_invV rfl rfl cd_Mo_part rfl (Nat.le_of_ble_eq_true rfl) (by decide) hm1.1 hm1.2) (g_mono (fun r B2 q => ?_) hx)
  obtain ⟨z, rfl, hz, hJ⟩ := q
  refine ⟨z, rfl, ?_⟩
  show bm_G sc 14 287 553 lv [.int z, .int x] B2 Q
  refine g_if2 (t := 1215) (pc' := 556) cd_L11 rfl rfl rfl (fun _ => kk B2 hJ) (fun c => absurd hz c)
set_option maxRecDepth 100000 in
theorem law_unseal {sc : tm_X} {N S k : Nat} {lv : tm_L} {B : bm_H} {Q : Option Value → bm_H → Prop} (h : JI N S k B) (hk : k < 64) (hs : 5 * k + 5 ≤ sc.1) (h3 : sc.1 ≤ 320) (l0 : lv.lookup 0 = some (.retAddr 0)) (l1 : lv.lookup 1 = some (.ref 0)) (l2 : lv.lookup 2 = some (.ref 1482)) (l3 : lv.lookup 3 = some (.int (nI (5 * k)))) (kk : LQ sc N S k lv Q) : bm_G sc 14 287 558 lv [] B Q := by
  have hm := J_mos h
  refine g_ald (pc' := 559) cd_L12 rfl (Or.inr ⟨_, rfl, rfl, rfl⟩) l1 rfl rfl ?_
  refine g_ald (pc' := 560) cd_L12 rfl (Or.inr ⟨_, rfl, rfl, rfl⟩) l0 rfl rfl ?_
  refine g_ild (pc' := 561) cd_L12 rfl (Or.inr ⟨_, rfl, rfl, rfl⟩) l3 rfl ?_
  refine g_k1 (v := 1) (pc' := 562) cd_L12 rfl (by decide) rfl ?_
  refine g_pure (pc' := 563) (st' := .int (nI (5 * k) + 1) :: _) cd_L12 rfl rfl (fun _ _ => rfl) ?_
  rw [show (nI (5 * k) + 1 : Int32) = nI (5 * k + 1) from nI_add (5 * k) 1]
  refine g_scr (x := sx sc k 1) (pc' := 564) cd_L12 rfl rfl (vp_in_nI (by omega) (by omega)) (by rw [nI_clamp (by omega)]; rfl) ?_
  refine g_ald (pc' := 565) cd_L12 rfl (Or.inr ⟨_, rfl, rfl, rfl⟩) l0 rfl rfl ?_
  refine g_ild (pc' := 566) cd_L12 rfl (Or.inr ⟨_, rfl, rfl, rfl⟩) l3 rfl ?_
  refine g_k1 (v := 2) (pc' := 567) cd_L12 rfl (by decide) rfl ?_
  refine g_pure (pc' := 568) (st' := .int (nI (5 * k) + 2) :: _) cd_L12 rfl rfl (fun _ _ => rfl) ?_
  rw [show (nI (5 * k) + 2 : Int32) = nI (5 * k + 2) from nI_add (5 * k) 2]
  refine g_scr (x := sx sc k 2) (pc' := 569) cd_L12 rfl rfl (vp_in_nI (by omega) (by omega)) (by rw [nI_clamp (by omega)]; rfl) ?_
  refine g_ald (pc' := 570) cd_L12 rfl (Or.inr ⟨_, rfl, rfl, rfl⟩) l0 rfl rfl ?_
  refine g_ild (pc' := 571) cd_L12 rfl (Or.inr ⟨_, rfl, rfl, rfl⟩) l3 rfl ?_
  refine g_k1 (v := 3) (pc' := 572) cd_L12 rfl (by decide) rfl ?_
  refine g_pure (pc' := 573) (st' := .int (nI (5 * k) + 3) :: _) cd_L12 rfl rfl (fun _ _ => rfl) ?_
  rw [show (nI (5 * k) + 3 : Int32) = nI (5 * k + 3) from nI_add (5 * k) 3]
  refine g_scr (x := sx sc k 3) (pc' := 574) cd_L12 rfl rfl (vp_in_nI (by omega) (by omega)) (by rw [nI_clamp (by omega)]; rfl) ?_
  refine g_calli (pc' := 577) cd_L12 rfl rfl rfl rfl rfl (tm_invV rfl rfl cd_Ho_unseal rfl (Nat.le_of_ble_eq_true rfl) (by decide) hm.1.1 hm.1.2) (g_mono (fun r B1 q => ?_) (C_unseal (sc := sc) (d := 1) hk h (sx sc k 1) (sx sc k 2) (sx sc k 3)))
  obtain ⟨x, rfl, hm1, hx⟩ := q
  refine ⟨x, rfl, ?_⟩
  show bm_G sc 14 287 577 lv [.int x] B1 Q
  refine g_ald (pc' := 578) cd_L12 rfl (Or.inr ⟨_, rfl, rfl, rfl⟩) l2 rfl rfl ?_
  refine g_ald (pc' := 579) cd_L12 rfl (Or.inr ⟨_, rfl, rfl, rfl⟩) l0 rfl rfl ?_
  refine g_ild (pc' := 580) cd_L12 rfl (Or.inr ⟨_, rfl, rfl, rfl⟩) l3 rfl ?_
  refine g_k1 (v := 1) (pc' := 581) cd_L12 rfl (by decide) rfl ?_
  refine g_pure (pc' := 582) (st' := .int (nI (5 * k) + 1) :: _) cd_L12 rfl rfl (fun _ _ => rfl) ?_
  rw [show (nI (5 * k) + 1 : Int32) = nI (5 * k + 1) from nI_add (5 * k) 1]
  refine g_scr (x := sx sc k 1) (pc' := 583) cd_L12 rfl rfl (vp_in_nI (by omega) (by omega)) (by rw [nI_clamp (by omega)]; rfl) ?_
  refine g_ald (pc' := 584) cd_L12 rfl (Or.inr ⟨_, rfl, rfl, rfl⟩) l0 rfl rfl ?_
  refine g_ild (pc' := 585) cd_L12 rfl (Or.inr ⟨_, rfl, rfl, rfl⟩) l3 rfl ?_
  refine g_k1 (v := 2) (pc' := 586) cd_L12 rfl (by decide) rfl ?_
  refine g_pure (pc' := 587) (st' := .int (nI (5 * k) + 2) :: _) cd_L12 rfl rfl (fun _ _ => rfl) ?_
  rw [show (nI (5 * k) + 2 : Int32) = nI (5 * k + 2) from nI_add (5 * k) 2]
  refine g_scr (x := sx sc k 2) (pc' := 588) cd_L12 rfl rfl (vp_in_nI (by omega) (by omega)) (by rw [nI_clamp (by omega)]; rfl) ?_
  refine g_ald (pc' := 589) cd_L12 rfl (Or.inr ⟨_, rfl, rfl, rfl⟩) l0 rfl rfl ?_
  refine g_ild (pc' := 590) cd_L12 rfl (Or.inr ⟨_, rfl, rfl, rfl⟩) l3 rfl ?_
  refine g_k1 (v := 3) (pc' := 591) cd_L12 rfl (by decide) rfl ?_
  refine g_pure (pc' := 592) (st' := .int (nI (5 * k) + 3) :: _) cd_L12 rfl rfl (fun _ _ => rfl) ?_
  rw [show (nI (5 * k) + 3 : Int32) = nI (5 * k + 3) from nI_add (5 * k) 3]
  refine g_scr (x := sx sc k 3) (pc' := 593) cd_L12 rfl rfl (vp_in_nI (by omega) (by omega)) (by rw [nI_clamp (by omega)]; rfl) ?_
  refine g_calli (pc' := 596) cd_L12 rfl rfl rfl rfl rfl (tm_invV rfl rfl cd_Mo_unseal rfl (Nat.le_of_ble_eq_true rfl) (by decide) hm1.1 hm1.2) (g_mono (fun r B2 q => ?_) hx)
  obtain ⟨z, rfl, hz, hJ⟩ := q
  refine ⟨z, rfl, ?_⟩
  show bm_G sc 14 287 596 lv [.int z, .int x] B2 Q
  refine g_if2 (t := 1215) (pc' := 599) cd_L12 rfl rfl rfl (fun _ => kk B2 hJ) (fun c => absurd hz c)
set_option maxRecDepth 100000 in
theorem law_make {sc : tm_X} {N S k : Nat} {lv : tm_L} {B : bm_H} {Q : Option Value → bm_H → Prop} (h : JI N S k B) (hk : k < 64) (hs : 5 * k + 5 ≤ sc.1) (h3 : sc.1 ≤ 320) (l0 : lv.lookup 0 = some (.retAddr 0)) (l1 : lv.lookup 1 = some (.ref 0)) (l2 : lv.lookup 2 = some (.ref 1482)) (l3 : lv.lookup 3 = some (.int (nI (5 * k)))) (kk : LQ sc N S k lv Q) : bm_G sc 14 287 601 lv [] B Q := by
  have hm := J_mos h
  refine g_ald (pc' := 602) cd_L13 rfl (Or.inr ⟨_, rfl, rfl, rfl⟩) l1 rfl rfl ?_
  refine g_ald (pc' := 603) cd_L13 rfl (Or.inr ⟨_, rfl, rfl, rfl⟩) l0 rfl rfl ?_
  refine g_ild (pc' := 604) cd_L13 rfl (Or.inr ⟨_, rfl, rfl, rfl⟩) l3 rfl ?_
  refine g_k1 (v := 1) (pc' := 605) cd_L13 rfl (by decide) rfl ?_
  refine g_pure (pc' := 606) (st' := .int (nI (5 * k) + 1) :: _) cd_L13 rfl rfl (fun _ _ => rfl) ?_
  rw [show (nI (5 * k) + 1 : Int32) = nI (5 * k + 1) from nI_add (5 * k) 1]
  refine g_scr (x := sx sc k 1) (pc' := 607) cd_L13 rfl rfl (vp_in_nI (by omega) (by omega)) (by rw [nI_clamp (by omega)]; rfl) ?_
  refine g_ald (pc' := 608) cd_L13 rfl (Or.inr ⟨_, rfl, rfl, rfl⟩) l0 rfl rfl ?_
  refine g_ild (pc' := 609) cd_L13 rfl (Or.inr ⟨_, rfl, rfl, rfl⟩) l3 rfl ?_
  refine g_k1 (v := 2) (pc' := 610) cd_L13 rfl (by decide) rfl ?_
  refine g_pure (pc' := 611) (st' := .int (nI (5 * k) + 2) :: _) cd_L13 rfl rfl (fun _ _ => rfl) ?_
  rw [show (nI (5 * k) + 2 : Int32) = nI (5 * k + 2) from nI_add (5 * k) 2]
  refine g_scr (x := sx sc k 2) (pc' := 612) cd_L13 rfl rfl (vp_in_nI (by omega) (by omega)) (by rw [nI_clamp (by omega)]; rfl) ?_
  refine g_ald (pc' := 613) cd_L13 rfl (Or.inr ⟨_, rfl, rfl, rfl⟩) l0 rfl rfl ?_
  refine g_ild (pc' := 614) cd_L13 rfl (Or.inr ⟨_, rfl, rfl, rfl⟩) l3 rfl ?_
  refine g_k1 (v := 3) (pc' := 615) cd_L13 rfl (by decide) rfl ?_
  refine g_pure (pc' := 616) (st' := .int (nI (5 * k) + 3) :: _) cd_L13 rfl rfl (fun _ _ => rfl) ?_
  rw [show (nI (5 * k) + 3 : Int32) = nI (5 * k + 3) from nI_add (5 * k) 3]
  refine g_scr (x := sx sc k 3) (pc' := 617) cd_L13 rfl rfl (vp_in_nI (by omega) (by omega)) (by rw [nI_clamp (by omega)]; rfl) ?_
  refine g_ald (pc' := 618) cd_L13 rfl (Or.inr ⟨_, rfl, rfl, rfl⟩) l0 rfl rfl ?_
  refine g_ild (pc' := 619) cd_L13 rfl (Or.inr ⟨_, rfl, rfl, rfl⟩) l3 rfl ?_
  refine g_k1 (v := 4) (pc' := 620) cd_L13 rfl (by decide) rfl ?_
  refine g_pure (pc' := 621) (st' := .int (nI (5 * k) + 4) :: _) cd_L13 rfl rfl (fun _ _ => rfl) ?_
  rw [show (nI (5 * k) + 4 : Int32) = nI (5 * k + 4) from nI_add (5 * k) 4]
  refine g_scr (x := sx sc k 4) (pc' := 622) cd_L13 rfl rfl (vp_in_nI (by omega) (by omega)) (by rw [nI_clamp (by omega)]; rfl) ?_
  refine g_calli (pc' := 625) cd_L13 rfl rfl rfl rfl rfl (tm_invV rfl rfl cd_Ho_make rfl (Nat.le_of_ble_eq_true rfl) (by decide) hm.1.1 hm.1.2) (g_mono (fun r B1 q => ?_) (C_make (sc := sc) (d := 1) hk h (sx sc k 1) (sx sc k 2) (sx sc k 3) (sx sc k 4)))
  obtain ⟨x, rfl, hm1, hx⟩ := q
  refine ⟨x, rfl, ?_⟩
  show bm_G sc 14 287 625 lv [.int x] B1 Q
  refine g_ald (pc' := 626) cd_L13 rfl (Or.inr ⟨_, rfl, rfl, rfl⟩) l2 rfl rfl ?_
  refine g_ald (pc' := 627) cd_L13 rfl (Or.inr ⟨_, rfl, rfl, rfl⟩) l0 rfl rfl ?_
  refine g_ild (pc' := 628) cd_L13 rfl (Or.inr ⟨_, rfl, rfl, rfl⟩) l3 rfl ?_
  refine g_k1 (v := 1) (pc' := 629) cd_L13 rfl (by decide) rfl ?_
  refine g_pure (pc' := 630) (st' := .int (nI (5 * k) + 1) :: _) cd_L13 rfl rfl (fun _ _ => rfl) ?_
  rw [show (nI (5 * k) + 1 : Int32) = nI (5 * k + 1) from nI_add (5 * k) 1]
  refine g_scr (x := sx sc k 1) (pc' := 631) cd_L13 rfl rfl (vp_in_nI (by omega) (by omega)) (by rw [nI_clamp (by omega)]; rfl) ?_
  refine g_ald (pc' := 632) cd_L13 rfl (Or.inr ⟨_, rfl, rfl, rfl⟩) l0 rfl rfl ?_
  refine g_ild (pc' := 633) cd_L13 rfl (Or.inr ⟨_, rfl, rfl, rfl⟩) l3 rfl ?_
  refine g_k1 (v := 2) (pc' := 634) cd_L13 rfl (by decide) rfl ?_
  refine g_pure (pc' := 635) (st' := .int (nI (5 * k) + 2) :: _) cd_L13 rfl rfl (fun _ _ => rfl) ?_
  rw [show (nI (5 * k) + 2 : Int32) = nI (5 * k + 2) from nI_add (5 * k) 2]
  refine g_scr (x := sx sc k 2) (pc' := 636) cd_L13 rfl rfl (vp_in_nI (by omega) (by omega)) (by rw [nI_clamp (by omega)]; rfl) ?_
  refine g_ald (pc' := 637) cd_L13 rfl (Or.inr ⟨_, rfl, rfl, rfl⟩) l0 rfl rfl ?_
  refine g_ild (pc' := 638) cd_L13 rfl (Or.inr ⟨_, rfl, rfl, rfl⟩) l3 rfl ?_
  refine g_k1 (v := 3) (pc' := 639) cd_L13 rfl (by decide) rfl ?_
  refine g_pure (pc' := 640) (st' := .int (nI (5 * k) + 3) :: _) cd_L13 rfl rfl (fun _ _ => rfl) ?_
  rw [show (nI (5 * k) + 3 : Int32) = nI (5 * k + 3) from nI_add (5 * k) 3]
  refine g_scr (x := sx sc k 3) (pc' := 641) cd_L13 rfl rfl (vp_in_nI (by omega) (by omega)) (by rw [nI_clamp (by omega)]; rfl) ?_
  refine g_ald (pc' := 642) cd_L13 rfl (Or.inr ⟨_, rfl, rfl, rfl⟩) l0 rfl rfl ?_
  refine g_ild (pc' := 643) cd_L13 rfl (Or.inr ⟨_, rfl, rfl, rfl⟩) l3 rfl ?_
  refine g_k1 (v := 4) (pc' := 644) cd_L13 rfl (by decide) rfl ?_
  refine g_pure (pc' := 645) (st' := .int (nI (5 * k) + 4) :: _) cd_L13 rfl rfl (fun _ _ => rfl) ?_
  rw [show (nI (5 * k) + 4 : Int32) = nI (5 * k + 4) from nI_add (5 * k) 4]
  refine g_scr (x := sx sc k 4) (pc' := 646) cd_L13 rfl rfl (vp_in_nI (by omega) (by omega)) (by rw [nI_clamp (by omega)]; rfl) ?_
  refine g_calli (pc' := 649) cd_L13 rfl rfl rfl rfl rfl (tm_invV rfl rfl cd_Mo_make rfl (Nat.le_of_ble_eq_true rfl) (by decide) hm1.1 hm1.2) (g_mono (fun r B2 q => ?_) hx)
  obtain ⟨z, rfl, hz, hJ⟩ := q
  refine ⟨z, rfl, ?_⟩
  show bm_G sc 14 287 649 lv [.int z, .int x] B2 Q
  refine g_if2 (t := 1215) (pc' := 652) cd_L13 rfl rfl rfl (fun _ => kk B2 hJ) (fun c => absurd hz c)
set_option maxRecDepth 100000 in
theorem law_seal {sc : tm_X} {N S k : Nat} {lv : tm_L} {B : bm_H} {Q : Option Value → bm_H → Prop} (h : JI N S k B) (hk : k < 64) (hs : 5 * k + 5 ≤ sc.1) (h3 : sc.1 ≤ 320) (l0 : lv.lookup 0 = some (.retAddr 0)) (l1 : lv.lookup 1 = some (.ref 0)) (l2 : lv.lookup 2 = some (.ref 1482)) (l3 : lv.lookup 3 = some (.int (nI (5 * k)))) (kk : LQ sc N S k lv Q) : bm_G sc 14 287 654 lv [] B Q := by
  have hm := J_mos h
  refine g_ald (pc' := 655) cd_L14 rfl (Or.inr ⟨_, rfl, rfl, rfl⟩) l1 rfl rfl ?_
  refine g_ald (pc' := 656) cd_L14 rfl (Or.inr ⟨_, rfl, rfl, rfl⟩) l0 rfl rfl ?_
  refine g_ild (pc' := 657) cd_L14 rfl (Or.inr ⟨_, rfl, rfl, rfl⟩) l3 rfl ?_
  refine g_k1 (v := 1) (pc' := 658) cd_L14 rfl (by decide) rfl ?_
  refine g_pure (pc' := 659) (st' := .int (nI (5 * k) + 1) :: _) cd_L14 rfl rfl (fun _ _ => rfl) ?_
  rw [show (nI (5 * k) + 1 : Int32) = nI (5 * k + 1) from nI_add (5 * k) 1]
  refine g_scr (x := sx sc k 1) (pc' := 660) cd_L14 rfl rfl (vp_in_nI (by omega) (by omega)) (by rw [nI_clamp (by omega)]; rfl) ?_
  refine g_ald (pc' := 661) cd_L14 rfl (Or.inr ⟨_, rfl, rfl, rfl⟩) l0 rfl rfl ?_
  refine g_ild (pc' := 662) cd_L14 rfl (Or.inr ⟨_, rfl, rfl, rfl⟩) l3 rfl ?_
  refine g_k1 (v := 2) (pc' := 663) cd_L14 rfl (by decide) rfl ?_
  refine g_pure (pc' := 664) (st' := .int (nI (5 * k) + 2) :: _) cd_L14 rfl rfl (fun _ _ => rfl) ?_
  rw [show (nI (5 * k) + 2 : Int32) = nI (5 * k + 2) from nI_add (5 * k) 2]
  refine g_scr (x := sx sc k 2) (pc' := 665) cd_L14 rfl rfl (vp_in_nI (by omega) (by omega)) (by rw [nI_clamp (by omega)]; rfl) ?_
  refine g_ald (pc' := 666) cd_L14 rfl (Or.inr ⟨_, rfl, rfl, rfl⟩) l0 rfl rfl ?_
  refine g_ild (pc' := 667) cd_L14 rfl (Or.inr ⟨_, rfl, rfl, rfl⟩) l3 rfl ?_
  refine g_k1 (v := 3) (pc' := 668) cd_L14 rfl (by decide) rfl ?_
  refine g_pure (pc' := 669) (st' := .int (nI (5 * k) + 3) :: _) cd_L14 rfl rfl (fun _ _ => rfl) ?_
  rw [show (nI (5 * k) + 3 : Int32) = nI (5 * k + 3) from nI_add (5 * k) 3]
  refine g_scr (x := sx sc k 3) (pc' := 670) cd_L14 rfl rfl (vp_in_nI (by omega) (by omega)) (by rw [nI_clamp (by omega)]; rfl) ?_
  refine g_ald (pc' := 671) cd_L14 rfl (Or.inr ⟨_, rfl, rfl, rfl⟩) l0 rfl rfl ?_
  refine g_ild (pc' := 672) cd_L14 rfl (Or.inr ⟨_, rfl, rfl, rfl⟩) l3 rfl ?_
  refine g_k1 (v := 4) (pc' := 673) cd_L14 rfl (by decide) rfl ?_
  refine g_pure (pc' := 674) (st' := .int (nI (5 * k) + 4) :: _) cd_L14 rfl rfl (fun _ _ => rfl) ?_
  rw [show (nI (5 * k) + 4 : Int32) = nI (5 * k + 4) from nI_add (5 * k) 4]
  refine g_scr (x := sx sc k 4) (pc' := 675) cd_L14 rfl rfl (vp_in_nI (by omega) (by omega)) (by rw [nI_clamp (by omega)]; rfl) ?_
  refine g_calli (pc' := 678) cd_L14 rfl rfl rfl rfl rfl (tm_invV rfl rfl cd_Ho_seal rfl (Nat.le_of_ble_eq_true rfl) (by decide) hm.1.1 hm.1.2) (g_mono (fun r B1 q => ?_) (C_seal (sc := sc) (d := 1) hk h (sx sc k 1) (sx sc k 2) (sx sc k 3) (sx sc k 4)))
  obtain ⟨x, rfl, hm1, hx⟩ := q
  refine ⟨x, rfl, ?_⟩
  show bm_G sc 14 287 678 lv [.int x] B1 Q
  refine g_ald (pc' := 679) cd_L14 rfl (Or.inr ⟨_, rfl, rfl, rfl⟩) l2 rfl rfl ?_
  refine g_ald (pc' := 680) cd_L14 rfl (Or.inr ⟨_, rfl, rfl, rfl⟩) l0 rfl rfl ?_
  refine g_ild (pc' := 681) cd_L14 rfl (Or.inr ⟨_, rfl, rfl, rfl⟩) l3 rfl ?_
  refine g_k1 (v := 1) (pc' := 682) cd_L14 rfl (by decide) rfl ?_
  refine g_pure (pc' := 683) (st' := .int (nI (5 * k) + 1) :: _) cd_L14 rfl rfl (fun _ _ => rfl) ?_
  rw [show (nI (5 * k) + 1 : Int32) = nI (5 * k + 1) from nI_add (5 * k) 1]
  refine g_scr (x := sx sc k 1) (pc' := 684) cd_L14 rfl rfl (vp_in_nI (by omega) (by omega)) (by rw [nI_clamp (by omega)]; rfl) ?_
  refine g_ald (pc' := 685) cd_L14 rfl (Or.inr ⟨_, rfl, rfl, rfl⟩) l0 rfl rfl ?_
  refine g_ild (pc' := 686) cd_L14 rfl (Or.inr ⟨_, rfl, rfl, rfl⟩) l3 rfl ?_
  refine g_k1 (v := 2) (pc' := 687) cd_L14 rfl (by decide) rfl ?_
  refine g_pure (pc' := 688) (st' := .int (nI (5 * k) + 2) :: _) cd_L14 rfl rfl (fun _ _ => rfl) ?_
  rw [show (nI (5 * k) + 2 : Int32) = nI (5 * k + 2) from nI_add (5 * k) 2]
  refine g_scr (x := sx sc k 2) (pc' := 689) cd_L14 rfl rfl (vp_in_nI (by omega) (by omega)) (by rw [nI_clamp (by omega)]; rfl) ?_
  refine g_ald (pc' := 690) cd_L14 rfl (Or.inr ⟨_, rfl, rfl, rfl⟩) l0 rfl rfl ?_
  refine g_ild (pc' := 691) cd_L14 rfl (Or.inr ⟨_, rfl, rfl, rfl⟩) l3 rfl ?_
  refine g_k1 (v := 3) (pc' := 692) cd_L14 rfl (by decide) rfl ?_
  refine g_pure (pc' := 693) (st' := .int (nI (5 * k) + 3) :: _) cd_L14 rfl rfl (fun _ _ => rfl) ?_
  rw [show (nI (5 * k) + 3 : Int32) = nI (5 * k + 3) from nI_add (5 * k) 3]
  refine g_scr (x := sx sc k 3) (pc' := 694) cd_L14 rfl rfl (vp_in_nI (by omega) (by omega)) (by rw [nI_clamp (by omega)]; rfl) ?_
  refine g_ald (pc' := 695) cd_L14 rfl (Or.inr ⟨_, rfl, rfl, rfl⟩) l0 rfl rfl ?_
  refine g_ild (pc' := 696) cd_L14 rfl (Or.inr ⟨_, rfl, rfl, rfl⟩) l3 rfl ?_
  refine g_k1 (v := 4) (pc' := 697) cd_L14 rfl (by decide) rfl ?_
  refine g_pure (pc' := 698) (st' := .int (nI (5 * k) + 4) :: _) cd_L14 rfl rfl (fun _ _ => rfl) ?_
  rw [show (nI (5 * k) + 4 : Int32) = nI (5 * k + 4) from nI_add (5 * k) 4]
  refine g_scr (x := sx sc k 4) (pc' := 699) cd_L14 rfl rfl (vp_in_nI (by omega) (by omega)) (by rw [nI_clamp (by omega)]; rfl) ?_
  refine g_calli (pc' := 702) cd_L14 rfl rfl rfl rfl rfl (tm_invV rfl rfl cd_Mo_seal rfl (Nat.le_of_ble_eq_true rfl) (by decide) hm1.1 hm1.2) (g_mono (fun r B2 q => ?_) hx)
  obtain ⟨z, rfl, hz, hJ⟩ := q
  refine ⟨z, rfl, ?_⟩
  show bm_G sc 14 287 702 lv [.int z, .int x] B2 Q
  refine g_if2 (t := 1215) (pc' := 705) cd_L14 rfl rfl rfl (fun _ => kk B2 hJ) (fun c => absurd hz c)
set_option maxRecDepth 100000 in
theorem law_alter {sc : tm_X} {N S k : Nat} {lv : tm_L} {B : bm_H} {Q : Option Value → bm_H → Prop} (h : JI N S k B) (hk : k < 64) (hs : 5 * k + 5 ≤ sc.1) (h3 : sc.1 ≤ 320) (l0 : lv.lookup 0 = some (.retAddr 0)) (l1 : lv.lookup 1 = some (.ref 0)) (l2 : lv.lookup 2 = some (.ref 1482)) (l3 : lv.lookup 3 = some (.int (nI (5 * k)))) (kk : LQ sc N S k lv Q) : bm_G sc 14 287 707 lv [] B Q := by
  have hm := J_mos h
  refine g_ald (pc' := 708) cd_L15 rfl (Or.inr ⟨_, rfl, rfl, rfl⟩) l1 rfl rfl ?_
  refine g_ald (pc' := 709) cd_L15 rfl (Or.inr ⟨_, rfl, rfl, rfl⟩) l0 rfl rfl ?_
  refine g_ild (pc' := 710) cd_L15 rfl (Or.inr ⟨_, rfl, rfl, rfl⟩) l3 rfl ?_
  refine g_k1 (v := 1) (pc' := 711) cd_L15 rfl (by decide) rfl ?_
  refine g_pure (pc' := 712) (st' := .int (nI (5 * k) + 1) :: _) cd_L15 rfl rfl (fun _ _ => rfl) ?_
  rw [show (nI (5 * k) + 1 : Int32) = nI (5 * k + 1) from nI_add (5 * k) 1]
  refine g_scr (x := sx sc k 1) (pc' := 713) cd_L15 rfl rfl (vp_in_nI (by omega) (by omega)) (by rw [nI_clamp (by omega)]; rfl) ?_
  refine g_ald (pc' := 714) cd_L15 rfl (Or.inr ⟨_, rfl, rfl, rfl⟩) l0 rfl rfl ?_
  refine g_ild (pc' := 715) cd_L15 rfl (Or.inr ⟨_, rfl, rfl, rfl⟩) l3 rfl ?_
  refine g_k1 (v := 2) (pc' := 716) cd_L15 rfl (by decide) rfl ?_
  refine g_pure (pc' := 717) (st' := .int (nI (5 * k) + 2) :: _) cd_L15 rfl rfl (fun _ _ => rfl) ?_
  rw [show (nI (5 * k) + 2 : Int32) = nI (5 * k + 2) from nI_add (5 * k) 2]
  refine g_scr (x := sx sc k 2) (pc' := 718) cd_L15 rfl rfl (vp_in_nI (by omega) (by omega)) (by rw [nI_clamp (by omega)]; rfl) ?_
  refine g_ald (pc' := 719) cd_L15 rfl (Or.inr ⟨_, rfl, rfl, rfl⟩) l0 rfl rfl ?_
  refine g_ild (pc' := 720) cd_L15 rfl (Or.inr ⟨_, rfl, rfl, rfl⟩) l3 rfl ?_
  refine g_k1 (v := 3) (pc' := 721) cd_L15 rfl (by decide) rfl ?_
  refine g_pure (pc' := 722) (st' := .int (nI (5 * k) + 3) :: _) cd_L15 rfl rfl (fun _ _ => rfl) ?_
  rw [show (nI (5 * k) + 3 : Int32) = nI (5 * k + 3) from nI_add (5 * k) 3]
  refine g_scr (x := sx sc k 3) (pc' := 723) cd_L15 rfl rfl (vp_in_nI (by omega) (by omega)) (by rw [nI_clamp (by omega)]; rfl) ?_
  refine g_ald (pc' := 724) cd_L15 rfl (Or.inr ⟨_, rfl, rfl, rfl⟩) l0 rfl rfl ?_
  refine g_ild (pc' := 725) cd_L15 rfl (Or.inr ⟨_, rfl, rfl, rfl⟩) l3 rfl ?_
  refine g_k1 (v := 4) (pc' := 726) cd_L15 rfl (by decide) rfl ?_
  refine g_pure (pc' := 727) (st' := .int (nI (5 * k) + 4) :: _) cd_L15 rfl rfl (fun _ _ => rfl) ?_
  rw [show (nI (5 * k) + 4 : Int32) = nI (5 * k + 4) from nI_add (5 * k) 4]
  refine g_scr (x := sx sc k 4) (pc' := 728) cd_L15 rfl rfl (vp_in_nI (by omega) (by omega)) (by rw [nI_clamp (by omega)]; rfl) ?_
  refine g_calli (pc' := 731) cd_L15 rfl rfl rfl rfl rfl (tm_invV rfl rfl cd_Ho_alter rfl (Nat.le_of_ble_eq_true rfl) (by decide) hm.1.1 hm.1.2) (g_mono (fun r B1 q => ?_) (C_alter (sc := sc) (d := 1) hk h (sx sc k 1) (sx sc k 2) (sx sc k 3) (sx sc k 4)))
  obtain ⟨x, rfl, hm1, hx⟩ := q
  refine ⟨x, rfl, ?_⟩
  show bm_G sc 14 287 731 lv [.int x] B1 Q
  refine g_ald (pc' := 732) cd_L15 rfl (Or.inr ⟨_, rfl, rfl, rfl⟩) l2 rfl rfl ?_
  refine g_ald (pc' := 733) cd_L15 rfl (Or.inr ⟨_, rfl, rfl, rfl⟩) l0 rfl rfl ?_
  refine g_ild (pc' := 734) cd_L15 rfl (Or.inr ⟨_, rfl, rfl, rfl⟩) l3 rfl ?_
  refine g_k1 (v := 1) (pc' := 735) cd_L15 rfl (by decide) rfl ?_
  refine g_pure (pc' := 736) (st' := .int (nI (5 * k) + 1) :: _) cd_L15 rfl rfl (fun _ _ => rfl) ?_
  rw [show (nI (5 * k) + 1 : Int32) = nI (5 * k + 1) from nI_add (5 * k) 1]
  refine g_scr (x := sx sc k 1) (pc' := 737) cd_L15 rfl rfl (vp_in_nI (by omega) (by omega)) (by rw [nI_clamp (by omega)]; rfl) ?_
  refine g_ald (pc' := 738) cd_L15 rfl (Or.inr ⟨_, rfl, rfl, rfl⟩) l0 rfl rfl ?_
  refine g_ild (pc' := 739) cd_L15 rfl (Or.inr ⟨_, rfl, rfl, rfl⟩) l3 rfl ?_
  refine g_k1 (v := 2) (pc' := 740) cd_L15 rfl (by decide) rfl ?_
  refine g_pure (pc' := 741) (st' := .int (nI (5 * k) + 2) :: _) cd_L15 rfl rfl (fun _ _ => rfl) ?_
  rw [show (nI (5 * k) + 2 : Int32) = nI (5 * k + 2) from nI_add (5 * k) 2]
  refine g_scr (x := sx sc k 2) (pc' := 742) cd_L15 rfl rfl (vp_in_nI (by omega) (by omega)) (by rw [nI_clamp (by omega)]; rfl) ?_
  refine g_ald (pc' := 743) cd_L15 rfl (Or.inr ⟨_, rfl, rfl, rfl⟩) l0 rfl rfl ?_
  refine g_ild (pc' := 744) cd_L15 rfl (Or.inr ⟨_, rfl, rfl, rfl⟩) l3 rfl ?_
  refine g_k1 (v := 3) (pc' := 745) cd_L15 rfl (by decide) rfl ?_
  refine g_pure (pc' := 746) (st' := .int (nI (5 * k) + 3) :: _) cd_L15 rfl rfl (fun _ _ => rfl) ?_
  rw [show (nI (5 * k) + 3 : Int32) = nI (5 * k + 3) from nI_add (5 * k) 3]
  refine g_scr (x := sx sc k 3) (pc' := 747) cd_L15 rfl rfl (vp_in_nI (by omega) (by omega)) (by rw [nI_clamp (by omega)]; rfl) ?_
  refine g_ald (pc' := 748) cd_L15 rfl (Or.inr ⟨_, rfl, rfl, rfl⟩) l0 rfl rfl ?_
  refine g_ild (pc' := 749) cd_L15 rfl (Or.inr ⟨_, rfl, rfl, rfl⟩) l3 rfl ?_
  refine g_k1 (v := 4) (pc' := 750) cd_L15 rfl (by decide) rfl ?_
  refine g_pure (pc' := 751) (st' := .int (nI (5 * k) + 4) :: _) cd_L15 rfl rfl (fun _ _ => rfl) ?_
  rw [show (nI (5 * k) + 4 : Int32) = nI (5 * k + 4) from nI_add (5 * k) 4]
  refine g_scr (x := sx sc k 4) (pc' := 752) cd_L15 rfl rfl (vp_in_nI (by omega) (by omega)) (by rw [nI_clamp (by omega)]; rfl) ?_
  refine g_calli (pc' := 755) cd_L15 rfl rfl rfl rfl rfl (tm_invV rfl rfl cd_Mo_alter rfl (Nat.le_of_ble_eq_true rfl) (by decide) hm1.1 hm1.2) (g_mono (fun r B2 q => ?_) hx)
  obtain ⟨z, rfl, hz, hJ⟩ := q
  refine ⟨z, rfl, ?_⟩
  show bm_G sc 14 287 755 lv [.int z, .int x] B2 Q
  refine g_if2 (t := 1215) (pc' := 758) cd_L15 rfl rfl rfl (fun _ => kk B2 hJ) (fun c => absurd hz c)
set_option maxRecDepth 100000 in
theorem law_swap {sc : tm_X} {N S k : Nat} {lv : tm_L} {B : bm_H} {Q : Option Value → bm_H → Prop} (h : JI N S k B) (hk : k < 64) (hs : 5 * k + 5 ≤ sc.1) (h3 : sc.1 ≤ 320) (l0 : lv.lookup 0 = some (.retAddr 0)) (l1 : lv.lookup 1 = some (.ref 0)) (l2 : lv.lookup 2 = some (.ref 1482)) (l3 : lv.lookup 3 = some (.int (nI (5 * k)))) (kk : LQ sc N S k lv Q) : bm_G sc 14 287 760 lv [] B Q := by
  have hm := J_mos h
  refine g_ald (pc' := 761) cd_L16 rfl (Or.inr ⟨_, rfl, rfl, rfl⟩) l1 rfl rfl ?_
  refine g_ald (pc' := 762) cd_L16 rfl (Or.inr ⟨_, rfl, rfl, rfl⟩) l0 rfl rfl ?_
  refine g_ild (pc' := 763) cd_L16 rfl (Or.inr ⟨_, rfl, rfl, rfl⟩) l3 rfl ?_
  refine g_k1 (v := 1) (pc' := 764) cd_L16 rfl (by decide) rfl ?_
  refine g_pure (pc' := 765) (st' := .int (nI (5 * k) + 1) :: _) cd_L16 rfl rfl (fun _ _ => rfl) ?_
  rw [show (nI (5 * k) + 1 : Int32) = nI (5 * k + 1) from nI_add (5 * k) 1]
  refine g_scr (x := sx sc k 1) (pc' := 766) cd_L16 rfl rfl (vp_in_nI (by omega) (by omega)) (by rw [nI_clamp (by omega)]; rfl) ?_
  refine g_ald (pc' := 767) cd_L16 rfl (Or.inr ⟨_, rfl, rfl, rfl⟩) l0 rfl rfl ?_
  refine g_ild (pc' := 768) cd_L16 rfl (Or.inr ⟨_, rfl, rfl, rfl⟩) l3 rfl ?_
  refine g_k1 (v := 2) (pc' := 769) cd_L16 rfl (by decide) rfl ?_
  refine g_pure (pc' := 770) (st' := .int (nI (5 * k) + 2) :: _) cd_L16 rfl rfl (fun _ _ => rfl) ?_
  rw [show (nI (5 * k) + 2 : Int32) = nI (5 * k + 2) from nI_add (5 * k) 2]
  refine g_scr (x := sx sc k 2) (pc' := 771) cd_L16 rfl rfl (vp_in_nI (by omega) (by omega)) (by rw [nI_clamp (by omega)]; rfl) ?_
  refine g_ald (pc' := 772) cd_L16 rfl (Or.inr ⟨_, rfl, rfl, rfl⟩) l0 rfl rfl ?_
  refine g_ild (pc' := 773) cd_L16 rfl (Or.inr ⟨_, rfl, rfl, rfl⟩) l3 rfl ?_
  refine g_k1 (v := 3) (pc' := 774) cd_L16 rfl (by decide) rfl ?_
  refine g_pure (pc' := 775) (st' := .int (nI (5 * k) + 3) :: _) cd_L16 rfl rfl (fun _ _ => rfl) ?_
  rw [show (nI (5 * k) + 3 : Int32) = nI (5 * k + 3) from nI_add (5 * k) 3]
  refine g_scr (x := sx sc k 3) (pc' := 776) cd_L16 rfl rfl (vp_in_nI (by omega) (by omega)) (by rw [nI_clamp (by omega)]; rfl) ?_
  refine g_ald (pc' := 777) cd_L16 rfl (Or.inr ⟨_, rfl, rfl, rfl⟩) l0 rfl rfl ?_
  refine g_ild (pc' := 778) cd_L16 rfl (Or.inr ⟨_, rfl, rfl, rfl⟩) l3 rfl ?_
  refine g_k1 (v := 4) (pc' := 779) cd_L16 rfl (by decide) rfl ?_
  refine g_pure (pc' := 780) (st' := .int (nI (5 * k) + 4) :: _) cd_L16 rfl rfl (fun _ _ => rfl) ?_
  rw [show (nI (5 * k) + 4 : Int32) = nI (5 * k + 4) from nI_add (5 * k) 4]
  refine g_scr (x := sx sc k 4) (pc' := 781) cd_L16 rfl rfl (vp_in_nI (by omega) (by omega)) (by rw [nI_clamp (by omega)]; rfl) ?_
  refine g_calli (pc' := 784) cd_L16 rfl rfl rfl rfl rfl (tm_invV rfl rfl cd_Ho_swap rfl (Nat.le_of_ble_eq_true rfl) (by decide) hm.1.1 hm.1.2) (g_mono (fun r B1 q => ?_) (C_swap (sc := sc) (d := 1) hk h (sx sc k 1) (sx sc k 2) (sx sc k 3) (sx sc k 4)))
  obtain ⟨x, rfl, hm1, hx⟩ := q
  refine ⟨x, rfl, ?_⟩
  show bm_G sc 14 287 784 lv [.int x] B1 Q
  refine g_ald (pc' := 785) cd_L16 rfl (Or.inr ⟨_, rfl, rfl, rfl⟩) l2 rfl rfl ?_
  refine g_ald (pc' := 786) cd_L16 rfl (Or.inr ⟨_, rfl, rfl, rfl⟩) l0 rfl rfl ?_
  refine g_ild (pc' := 787) cd_L16 rfl (Or.inr ⟨_, rfl, rfl, rfl⟩) l3 rfl ?_
  refine g_k1 (v := 1) (pc' := 788) cd_L16 rfl (by decide) rfl ?_
  refine g_pure (pc' := 789) (st' := .int (nI (5 * k) + 1) :: _) cd_L16 rfl rfl (fun _ _ => rfl) ?_
  rw [show (nI (5 * k) + 1 : Int32) = nI (5 * k + 1) from nI_add (5 * k) 1]
  refine g_scr (x := sx sc k 1) (pc' := 790) cd_L16 rfl rfl (vp_in_nI (by omega) (by omega)) (by rw [nI_clamp (by omega)]; rfl) ?_
  refine g_ald (pc' := 791) cd_L16 rfl (Or.inr ⟨_, rfl, rfl, rfl⟩) l0 rfl rfl ?_
  refine g_ild (pc' := 792) cd_L16 rfl (Or.inr ⟨_, rfl, rfl, rfl⟩) l3 rfl ?_
  refine g_k1 (v := 2) (pc' := 793) cd_L16 rfl (by decide) rfl ?_
  refine g_pure (pc' := 794) (st' := .int (nI (5 * k) + 2) :: _) cd_L16 rfl rfl (fun _ _ => rfl) ?_
  rw [show (nI (5 * k) + 2 : Int32) = nI (5 * k + 2) from nI_add (5 * k) 2]
  refine g_scr (x := sx sc k 2) (pc' := 795) cd_L16 rfl rfl (vp_in_nI (by omega) (by omega)) (by rw [nI_clamp (by omega)]; rfl) ?_
  refine g_ald (pc' := 796) cd_L16 rfl (Or.inr ⟨_, rfl, rfl, rfl⟩) l0 rfl rfl ?_
  refine g_ild (pc' := 797) cd_L16 rfl (Or.inr ⟨_, rfl, rfl, rfl⟩) l3 rfl ?_
  refine g_k1 (v := 3) (pc' := 798) cd_L16 rfl (by decide) rfl ?_
  refine g_pure (pc' := 799) (st' := .int (nI (5 * k) + 3) :: _) cd_L16 rfl rfl (fun _ _ => rfl) ?_
  rw [show (nI (5 * k) + 3 : Int32) = nI (5 * k + 3) from nI_add (5 * k) 3]
  refine g_scr (x := sx sc k 3) (pc' := 800) cd_L16 rfl rfl (vp_in_nI (by omega) (by omega)) (by rw [nI_clamp (by omega)]; rfl) ?_
  refine g_ald (pc' := 801) cd_L16 rfl (Or.inr ⟨_, rfl, rfl, rfl⟩) l0 rfl rfl ?_
  refine g_ild (pc' := 802) cd_L16 rfl (Or.inr ⟨_, rfl, rfl, rfl⟩) l3 rfl ?_
  refine g_k1 (v := 4) (pc' := 803) cd_L16 rfl (by decide) rfl ?_
  refine g_pure (pc' := 804) (st' := .int (nI (5 * k) + 4) :: _) cd_L16 rfl rfl (fun _ _ => rfl) ?_
  rw [show (nI (5 * k) + 4 : Int32) = nI (5 * k + 4) from nI_add (5 * k) 4]
  refine g_scr (x := sx sc k 4) (pc' := 805) cd_L16 rfl rfl (vp_in_nI (by omega) (by omega)) (by rw [nI_clamp (by omega)]; rfl) ?_
  refine g_calli (pc' := 808) cd_L16 rfl rfl rfl rfl rfl (tm_invV rfl rfl cd_Mo_swap rfl (Nat.le_of_ble_eq_true rfl) (by decide) hm1.1 hm1.2) (g_mono (fun r B2 q => ?_) hx)
  obtain ⟨z, rfl, hz, hJ⟩ := q
  refine ⟨z, rfl, ?_⟩
  show bm_G sc 14 287 808 lv [.int z, .int x] B2 Q
  refine g_if2 (t := 1215) (pc' := 811) cd_L16 rfl rfl rfl (fun _ => kk B2 hJ) (fun c => absurd hz c)
set_option maxRecDepth 100000 in
theorem law_plant {sc : tm_X} {N S k : Nat} {lv : tm_L} {B : bm_H} {Q : Option Value → bm_H → Prop} (h : JI N S k B) (hk : k < 64) (hs : 5 * k + 5 ≤ sc.1) (h3 : sc.1 ≤ 320) (l0 : lv.lookup 0 = some (.retAddr 0)) (l1 : lv.lookup 1 = some (.ref 0)) (l2 : lv.lookup 2 = some (.ref 1482)) (l3 : lv.lookup 3 = some (.int (nI (5 * k)))) (kk : LQ sc N S k lv Q) : bm_G sc 14 287 813 lv [] B Q := by
  have hm := J_mos h
  refine g_ald (pc' := 814) cd_L17 rfl (Or.inr ⟨_, rfl, rfl, rfl⟩) l1 rfl rfl ?_
  refine g_ald (pc' := 815) cd_L17 rfl (Or.inr ⟨_, rfl, rfl, rfl⟩) l0 rfl rfl ?_
  refine g_ild (pc' := 816) cd_L17 rfl (Or.inr ⟨_, rfl, rfl, rfl⟩) l3 rfl ?_
  refine g_k1 (v := 1) (pc' := 817) cd_L17 rfl (by decide) rfl ?_
  refine g_pure (pc' := 818) (st' := .int (nI (5 * k) + 1) :: _) cd_L17 rfl rfl (fun _ _ => rfl) ?_
  rw [show (nI (5 * k) + 1 : Int32) = nI (5 * k + 1) from nI_add (5 * k) 1]
  refine g_scr (x := sx sc k 1) (pc' := 819) cd_L17 rfl rfl (vp_in_nI (by omega) (by omega)) (by rw [nI_clamp (by omega)]; rfl) ?_
  refine g_ald (pc' := 820) cd_L17 rfl (Or.inr ⟨_, rfl, rfl, rfl⟩) l0 rfl rfl ?_
  refine g_ild (pc' := 821) cd_L17 rfl (Or.inr ⟨_, rfl, rfl, rfl⟩) l3 rfl ?_
  refine g_k1 (v := 2) (pc' := 822) cd_L17 rfl (by decide) rfl ?_
  refine g_pure (pc' := 823) (st' := .int (nI (5 * k) + 2) :: _) cd_L17 rfl rfl (fun _ _ => rfl) ?_
  rw [show (nI (5 * k) + 2 : Int32) = nI (5 * k + 2) from nI_add (5 * k) 2]
  refine g_scr (x := sx sc k 2) (pc' := 824) cd_L17 rfl rfl (vp_in_nI (by omega) (by omega)) (by rw [nI_clamp (by omega)]; rfl) ?_
  refine g_ald (pc' := 825) cd_L17 rfl (Or.inr ⟨_, rfl, rfl, rfl⟩) l0 rfl rfl ?_
  refine g_ild (pc' := 826) cd_L17 rfl (Or.inr ⟨_, rfl, rfl, rfl⟩) l3 rfl ?_
  refine g_k1 (v := 3) (pc' := 827) cd_L17 rfl (by decide) rfl ?_
  refine g_pure (pc' := 828) (st' := .int (nI (5 * k) + 3) :: _) cd_L17 rfl rfl (fun _ _ => rfl) ?_
  rw [show (nI (5 * k) + 3 : Int32) = nI (5 * k + 3) from nI_add (5 * k) 3]
  refine g_scr (x := sx sc k 3) (pc' := 829) cd_L17 rfl rfl (vp_in_nI (by omega) (by omega)) (by rw [nI_clamp (by omega)]; rfl) ?_
  refine g_calli (pc' := 832) cd_L17 rfl rfl rfl rfl rfl (tm_invV rfl rfl cd_Ho_plant rfl (Nat.le_of_ble_eq_true rfl) (by decide) hm.1.1 hm.1.2) (g_mono (fun r B1 q => ?_) (C_plant (sc := sc) (d := 1) hk h (sx sc k 1) (sx sc k 2) (sx sc k 3)))
  obtain ⟨x, rfl, hm1, hx⟩ := q
  refine ⟨x, rfl, ?_⟩
  show bm_G sc 14 287 832 lv [.int x] B1 Q
  refine g_ald (pc' := 833) cd_L17 rfl (Or.inr ⟨_, rfl, rfl, rfl⟩) l2 rfl rfl ?_
  refine g_ald (pc' := 834) cd_L17 rfl (Or.inr ⟨_, rfl, rfl, rfl⟩) l0 rfl rfl ?_
  refine g_ild (pc' := 835) cd_L17 rfl (Or.inr ⟨_, rfl, rfl, rfl⟩) l3 rfl ?_
  refine g_k1 (v := 1) (pc' := 836) cd_L17 rfl (by decide) rfl ?_
  refine g_pure (pc' := 837) (st' := .int (nI (5 * k) + 1) :: _) cd_L17 rfl rfl (fun _ _ => rfl) ?_
  rw [show (nI (5 * k) + 1 : Int32) = nI (5 * k + 1) from nI_add (5 * k) 1]
  refine g_scr (x := sx sc k 1) (pc' := 838) cd_L17 rfl rfl (vp_in_nI (by omega) (by omega)) (by rw [nI_clamp (by omega)]; rfl) ?_
  refine g_ald (pc' := 839) cd_L17 rfl (Or.inr ⟨_, rfl, rfl, rfl⟩) l0 rfl rfl ?_
  refine g_ild (pc' := 840) cd_L17 rfl (Or.inr ⟨_, rfl, rfl, rfl⟩) l3 rfl ?_
  refine g_k1 (v := 2) (pc' := 841) cd_L17 rfl (by decide) rfl ?_
  refine g_pure (pc' := 842) (st' := .int (nI (5 * k) + 2) :: _) cd_L17 rfl rfl (fun _ _ => rfl) ?_
  rw [show (nI (5 * k) + 2 : Int32) = nI (5 * k + 2) from nI_add (5 * k) 2]
  refine g_scr (x := sx sc k 2) (pc' := 843) cd_L17 rfl rfl (vp_in_nI (by omega) (by omega)) (by rw [nI_clamp (by omega)]; rfl) ?_
  refine g_ald (pc' := 844) cd_L17 rfl (Or.inr ⟨_, rfl, rfl, rfl⟩) l0 rfl rfl ?_
  refine g_ild (pc' := 845) cd_L17 rfl (Or.inr ⟨_, rfl, rfl, rfl⟩) l3 rfl ?_
  refine g_k1 (v := 3) (pc' := 846) cd_L17 rfl (by decide) rfl ?_
  refine g_pure (pc' := 847) (st' := .int (nI (5 * k) + 3) :: _) cd_L17 rfl rfl (fun _ _ => rfl) ?_
  rw [show (nI (5 * k) + 3 : Int32) = nI (5 * k + 3) from nI_add (5 * k) 3]
  refine g_scr (x := sx sc k 3) (pc' := 848) cd_L17 rfl rfl (vp_in_nI (by omega) (by omega)) (by rw [nI_clamp (by omega)]; rfl) ?_
  refine g_calli (pc' := 851) cd_L17 rfl rfl rfl rfl rfl (tm_invV rfl rfl cd_Mo_plant rfl (Nat.le_of_ble_eq_true rfl) (by decide) hm1.1 hm1.2) (g_mono (fun r B2 q => ?_) hx)
  obtain ⟨z, rfl, hz, hJ⟩ := q
  refine ⟨z, rfl, ?_⟩
  show bm_G sc 14 287 851 lv [.int z, .int x] B2 Q
  refine g_if2 (t := 1215) (pc' := 854) cd_L17 rfl rfl rfl (fun _ => kk B2 hJ) (fun c => absurd hz c)
set_option maxRecDepth 100000 in
theorem law_look {sc : tm_X} {N S k : Nat} {lv : tm_L} {B : bm_H} {Q : Option Value → bm_H → Prop} (h : JI N S k B) (hk : k < 64) (hs : 5 * k + 5 ≤ sc.1) (h3 : sc.1 ≤ 320) (l0 : lv.lookup 0 = some (.retAddr 0)) (l1 : lv.lookup 1 = some (.ref 0)) (l2 : lv.lookup 2 = some (.ref 1482)) (l3 : lv.lookup 3 = some (.int (nI (5 * k)))) (kk : LQ sc N S k lv Q) : bm_G sc 14 287 856 lv [] B Q := by
  have hm := J_mos h
  refine g_ald (pc' := 857) cd_L18 rfl (Or.inr ⟨_, rfl, rfl, rfl⟩) l1 rfl rfl ?_
  refine g_ald (pc' := 858) cd_L18 rfl (Or.inr ⟨_, rfl, rfl, rfl⟩) l0 rfl rfl ?_
  refine g_ild (pc' := 859) cd_L18 rfl (Or.inr ⟨_, rfl, rfl, rfl⟩) l3 rfl ?_
  refine g_k1 (v := 1) (pc' := 860) cd_L18 rfl (by decide) rfl ?_
  refine g_pure (pc' := 861) (st' := .int (nI (5 * k) + 1) :: _) cd_L18 rfl rfl (fun _ _ => rfl) ?_
  rw [show (nI (5 * k) + 1 : Int32) = nI (5 * k + 1) from nI_add (5 * k) 1]
  refine g_scr (x := sx sc k 1) (pc' := 862) cd_L18 rfl rfl (vp_in_nI (by omega) (by omega)) (by rw [nI_clamp (by omega)]; rfl) ?_
  refine g_calli (pc' := 865) cd_L18 rfl rfl rfl rfl rfl (tm_invV rfl rfl cd_Ho_look rfl (Nat.le_of_ble_eq_true rfl) (by decide) hm.1.1 hm.1.2) (g_mono (fun r B1 q => ?_) (C_look (sc := sc) (d := 1) hk h (sx sc k 1)))
  obtain ⟨x, rfl, hm1, hx⟩ := q
  refine ⟨x, rfl, ?_⟩
  show bm_G sc 14 287 865 lv [.int x] B1 Q
  refine g_ald (pc' := 866) cd_L18 rfl (Or.inr ⟨_, rfl, rfl, rfl⟩) l2 rfl rfl ?_
  refine g_ald (pc' := 867) cd_L18 rfl (Or.inr ⟨_, rfl, rfl, rfl⟩) l0 rfl rfl ?_
  refine g_ild (pc' := 868) cd_L18 rfl (Or.inr ⟨_, rfl, rfl, rfl⟩) l3 rfl ?_
  refine g_k1 (v := 1) (pc' := 869) cd_L18 rfl (by decide) rfl ?_
  refine g_pure (pc' := 870) (st' := .int (nI (5 * k) + 1) :: _) cd_L18 rfl rfl (fun _ _ => rfl) ?_
  rw [show (nI (5 * k) + 1 : Int32) = nI (5 * k + 1) from nI_add (5 * k) 1]
  refine g_scr (x := sx sc k 1) (pc' := 871) cd_L18 rfl rfl (vp_in_nI (by omega) (by omega)) (by rw [nI_clamp (by omega)]; rfl) ?_
  refine g_calli (pc' := 874) cd_L18 rfl rfl rfl rfl rfl (tm_invV rfl rfl cd_Mo_look rfl (Nat.le_of_ble_eq_true rfl) (by decide) hm1.1 hm1.2) (g_mono (fun r B2 q => ?_) hx)
  obtain ⟨z, rfl, hz, hJ⟩ := q
  refine ⟨z, rfl, ?_⟩
  show bm_G sc 14 287 874 lv [.int z, .int x] B2 Q
  refine g_if2 (t := 1215) (pc' := 877) cd_L18 rfl rfl rfl (fun _ => kk B2 hJ) (fun c => absurd hz c)
set_option maxRecDepth 100000 in
theorem law_same {sc : tm_X} {N S k : Nat} {lv : tm_L} {B : bm_H} {Q : Option Value → bm_H → Prop} (h : JI N S k B) (hk : k < 64) (hs : 5 * k + 5 ≤ sc.1) (h3 : sc.1 ≤ 320) (l0 : lv.lookup 0 = some (.retAddr 0)) (l1 : lv.lookup 1 = some (.ref 0)) (l2 : lv.lookup 2 = some (.ref 1482)) (l3 : lv.lookup 3 = some (.int (nI (5 * k)))) (kk : LQ sc N S k lv Q) : bm_G sc 14 287 879 lv [] B Q := by
  have hm := J_mos h
  refine g_ald (pc' := 880) cd_L19 rfl (Or.inr ⟨_, rfl, rfl, rfl⟩) l1 rfl rfl ?_
  refine g_ald (pc' := 881) cd_L19 rfl (Or.inr ⟨_, rfl, rfl, rfl⟩) l0 rfl rfl ?_
  refine g_ild (pc' := 882) cd_L19 rfl (Or.inr ⟨_, rfl, rfl, rfl⟩) l3 rfl ?_
  refine g_k1 (v := 1) (pc' := 883) cd_L19 rfl (by decide) rfl ?_
  refine g_pure (pc' := 884) (st' := .int (nI (5 * k) + 1) :: _) cd_L19 rfl rfl (fun _ _ => rfl) ?_
  rw [show (nI (5 * k) + 1 : Int32) = nI (5 * k + 1) from nI_add (5 * k) 1]
  refine g_scr (x := sx sc k 1) (pc' := 885) cd_L19 rfl rfl (vp_in_nI (by omega) (by omega)) (by rw [nI_clamp (by omega)]; rfl) ?_
  refine g_ald (pc' := 886) cd_L19 rfl (Or.inr ⟨_, rfl, rfl, rfl⟩) l0 rfl rfl ?_
  refine g_ild (pc' := 887) cd_L19 rfl (Or.inr ⟨_, rfl, rfl, rfl⟩) l3 rfl ?_
  refine g_k1 (v := 2) (pc' := 888) cd_L19 rfl (by decide) rfl ?_
  refine g_pure (pc' := 889) (st' := .int (nI (5 * k) + 2) :: _) cd_L19 rfl rfl (fun _ _ => rfl) ?_
  rw [show (nI (5 * k) + 2 : Int32) = nI (5 * k + 2) from nI_add (5 * k) 2]
  refine g_scr (x := sx sc k 2) (pc' := 890) cd_L19 rfl rfl (vp_in_nI (by omega) (by omega)) (by rw [nI_clamp (by omega)]; rfl) ?_
  refine g_calli (pc' := 893) cd_L19 rfl rfl rfl rfl rfl (tm_invV rfl rfl cd_Ho_same rfl (Nat.le_of_ble_eq_true rfl) (by decide) hm.1.1 hm.1.2) (g_mono (fun r B1 q => ?_) (C_same (sc := sc) (d := 1) hk h (sx sc k 1) (sx sc k 2)))
  obtain ⟨x, rfl, hm1, hx⟩ := q
  refine ⟨x, rfl, ?_⟩
  show bm_G sc 14 287 893 lv [.int x] B1 Q
  refine g_ald (pc' := 894) cd_L19 rfl (Or.inr ⟨_, rfl, rfl, rfl⟩) l2 rfl rfl ?_
  refine g_ald (pc' := 895) cd_L19 rfl (Or.inr ⟨_, rfl, rfl, rfl⟩) l0 rfl rfl ?_
  refine g_ild (pc' := 896) cd_L19 rfl (Or.inr ⟨_, rfl, rfl, rfl⟩) l3 rfl ?_
  refine g_k1 (v := 1) (pc' := 897) cd_L19 rfl (by decide) rfl ?_
  refine g_pure (pc' := 898) (st' := .int (nI (5 * k) + 1) :: _) cd_L19 rfl rfl (fun _ _ => rfl) ?_
  rw [show (nI (5 * k) + 1 : Int32) = nI (5 * k + 1) from nI_add (5 * k) 1]
  refine g_scr (x := sx sc k 1) (pc' := 899) cd_L19 rfl rfl (vp_in_nI (by omega) (by omega)) (by rw [nI_clamp (by omega)]; rfl) ?_
  refine g_ald (pc' := 900) cd_L19 rfl (Or.inr ⟨_, rfl, rfl, rfl⟩) l0 rfl rfl ?_
  refine g_ild (pc' := 901) cd_L19 rfl (Or.inr ⟨_, rfl, rfl, rfl⟩) l3 rfl ?_
  refine g_k1 (v := 2) (pc' := 902) cd_L19 rfl (by decide) rfl ?_
  refine g_pure (pc' := 903) (st' := .int (nI (5 * k) + 2) :: _) cd_L19 rfl rfl (fun _ _ => rfl) ?_
  rw [show (nI (5 * k) + 2 : Int32) = nI (5 * k + 2) from nI_add (5 * k) 2]
  refine g_scr (x := sx sc k 2) (pc' := 904) cd_L19 rfl rfl (vp_in_nI (by omega) (by omega)) (by rw [nI_clamp (by omega)]; rfl) ?_
  refine g_calli (pc' := 907) cd_L19 rfl rfl rfl rfl rfl (tm_invV rfl rfl cd_Mo_same rfl (Nat.le_of_ble_eq_true rfl) (by decide) hm1.1 hm1.2) (g_mono (fun r B2 q => ?_) hx)
  obtain ⟨z, rfl, hz, hJ⟩ := q
  refine ⟨z, rfl, ?_⟩
  show bm_G sc 14 287 907 lv [.int z, .int x] B2 Q
  refine g_if2 (t := 1215) (pc' := 910) cd_L19 rfl rfl rfl (fun _ => kk B2 hJ) (fun c => absurd hz c)
set_option maxRecDepth 100000 in
theorem law_about {sc : tm_X} {N S k : Nat} {lv : tm_L} {B : bm_H} {Q : Option Value → bm_H → Prop} (h : JI N S k B) (hk : k < 64) (hs : 5 * k + 5 ≤ sc.1) (h3 : sc.1 ≤ 320) (l0 : lv.lookup 0 = some (.retAddr 0)) (l1 : lv.lookup 1 = some (.ref 0)) (l2 : lv.lookup 2 = some (.ref 1482)) (l3 : lv.lookup 3 = some (.int (nI (5 * k)))) (kk : LQ sc N S k lv Q) : bm_G sc 14 287 912 lv [] B Q := by
  have hm := J_mos h
  refine g_ald (pc' := 913) cd_L20 rfl (Or.inr ⟨_, rfl, rfl, rfl⟩) l1 rfl rfl ?_
  refine g_ald (pc' := 914) cd_L20 rfl (Or.inr ⟨_, rfl, rfl, rfl⟩) l0 rfl rfl ?_
  refine g_ild (pc' := 915) cd_L20 rfl (Or.inr ⟨_, rfl, rfl, rfl⟩) l3 rfl ?_
  refine g_k1 (v := 1) (pc' := 916) cd_L20 rfl (by decide) rfl ?_
  refine g_pure (pc' := 917) (st' := .int (nI (5 * k) + 1) :: _) cd_L20 rfl rfl (fun _ _ => rfl) ?_
  rw [show (nI (5 * k) + 1 : Int32) = nI (5 * k + 1) from nI_add (5 * k) 1]
  refine g_scr (x := sx sc k 1) (pc' := 918) cd_L20 rfl rfl (vp_in_nI (by omega) (by omega)) (by rw [nI_clamp (by omega)]; rfl) ?_
  refine g_ald (pc' := 919) cd_L20 rfl (Or.inr ⟨_, rfl, rfl, rfl⟩) l0 rfl rfl ?_
  refine g_ild (pc' := 920) cd_L20 rfl (Or.inr ⟨_, rfl, rfl, rfl⟩) l3 rfl ?_
  refine g_k1 (v := 2) (pc' := 921) cd_L20 rfl (by decide) rfl ?_
  refine g_pure (pc' := 922) (st' := .int (nI (5 * k) + 2) :: _) cd_L20 rfl rfl (fun _ _ => rfl) ?_
  rw [show (nI (5 * k) + 2 : Int32) = nI (5 * k + 2) from nI_add (5 * k) 2]
  refine g_scr (x := sx sc k 2) (pc' := 923) cd_L20 rfl rfl (vp_in_nI (by omega) (by omega)) (by rw [nI_clamp (by omega)]; rfl) ?_
  refine g_calli (pc' := 926) cd_L20 rfl rfl rfl rfl rfl (tm_invV rfl rfl cd_Ho_about rfl (Nat.le_of_ble_eq_true rfl) (by decide) hm.1.1 hm.1.2) (g_mono (fun r B1 q => ?_) (C_about (sc := sc) (d := 1) hk h (sx sc k 1) (sx sc k 2)))
  obtain ⟨x, rfl, hm1, hx⟩ := q
  refine ⟨x, rfl, ?_⟩
  show bm_G sc 14 287 926 lv [.int x] B1 Q
  refine g_ald (pc' := 927) cd_L20 rfl (Or.inr ⟨_, rfl, rfl, rfl⟩) l2 rfl rfl ?_
  refine g_ald (pc' := 928) cd_L20 rfl (Or.inr ⟨_, rfl, rfl, rfl⟩) l0 rfl rfl ?_
  refine g_ild (pc' := 929) cd_L20 rfl (Or.inr ⟨_, rfl, rfl, rfl⟩) l3 rfl ?_
  refine g_k1 (v := 1) (pc' := 930) cd_L20 rfl (by decide) rfl ?_
  refine g_pure (pc' := 931) (st' := .int (nI (5 * k) + 1) :: _) cd_L20 rfl rfl (fun _ _ => rfl) ?_
  rw [show (nI (5 * k) + 1 : Int32) = nI (5 * k + 1) from nI_add (5 * k) 1]
  refine g_scr (x := sx sc k 1) (pc' := 932) cd_L20 rfl rfl (vp_in_nI (by omega) (by omega)) (by rw [nI_clamp (by omega)]; rfl) ?_
  refine g_ald (pc' := 933) cd_L20 rfl (Or.inr ⟨_, rfl, rfl, rfl⟩) l0 rfl rfl ?_
  refine g_ild (pc' := 934) cd_L20 rfl (Or.inr ⟨_, rfl, rfl, rfl⟩) l3 rfl ?_
  refine g_k1 (v := 2) (pc' := 935) cd_L20 rfl (by decide) rfl ?_
  refine g_pure (pc' := 936) (st' := .int (nI (5 * k) + 2) :: _) cd_L20 rfl rfl (fun _ _ => rfl) ?_
  rw [show (nI (5 * k) + 2 : Int32) = nI (5 * k + 2) from nI_add (5 * k) 2]
  refine g_scr (x := sx sc k 2) (pc' := 937) cd_L20 rfl rfl (vp_in_nI (by omega) (by omega)) (by rw [nI_clamp (by omega)]; rfl) ?_
  refine g_calli (pc' := 940) cd_L20 rfl rfl rfl rfl rfl (tm_invV rfl rfl cd_Mo_about rfl (Nat.le_of_ble_eq_true rfl) (by decide) hm1.1 hm1.2) (g_mono (fun r B2 q => ?_) hx)
  obtain ⟨z, rfl, hz, hJ⟩ := q
  refine ⟨z, rfl, ?_⟩
  show bm_G sc 14 287 940 lv [.int z, .int x] B2 Q
  refine g_if2 (t := 1215) (pc' := 943) cd_L20 rfl rfl rfl (fun _ => kk B2 hJ) (fun c => absurd hz c)
set_option maxRecDepth 100000 in
theorem law_derived {sc : tm_X} {N S k : Nat} {lv : tm_L} {B : bm_H} {Q : Option Value → bm_H → Prop} (h : JI N S k B) (hk : k < 64) (hs : 5 * k + 5 ≤ sc.1) (h3 : sc.1 ≤ 320) (l0 : lv.lookup 0 = some (.retAddr 0)) (l1 : lv.lookup 1 = some (.ref 0)) (l2 : lv.lookup 2 = some (.ref 1482)) (l3 : lv.lookup 3 = some (.int (nI (5 * k)))) (kk : LQ sc N S k lv Q) : bm_G sc 14 287 945 lv [] B Q := by
  have hm := J_mos h
  refine g_ald (pc' := 946) cd_L21 rfl (Or.inr ⟨_, rfl, rfl, rfl⟩) l1 rfl rfl ?_
  refine g_ald (pc' := 947) cd_L21 rfl (Or.inr ⟨_, rfl, rfl, rfl⟩) l0 rfl rfl ?_
  refine g_ild (pc' := 948) cd_L21 rfl (Or.inr ⟨_, rfl, rfl, rfl⟩) l3 rfl ?_
  refine g_k1 (v := 1) (pc' := 949) cd_L21 rfl (by decide) rfl ?_
  refine g_pure (pc' := 950) (st' := .int (nI (5 * k) + 1) :: _) cd_L21 rfl rfl (fun _ _ => rfl) ?_
  rw [show (nI (5 * k) + 1 : Int32) = nI (5 * k + 1) from nI_add (5 * k) 1]
  refine g_scr (x := sx sc k 1) (pc' := 951) cd_L21 rfl rfl (vp_in_nI (by omega) (by omega)) (by rw [nI_clamp (by omega)]; rfl) ?_
  refine g_calli (pc' := 954) cd_L21 rfl rfl rfl rfl rfl (tm_invV rfl rfl cd_Ho_derived rfl (Nat.le_of_ble_eq_true rfl) (by decide) hm.1.1 hm.1.2) (g_mono (fun r B1 q => ?_) (C_derived (sc := sc) (d := 1) hk h (sx sc k 1)))
  obtain ⟨x, rfl, hm1, hx⟩ := q
  refine ⟨x, rfl, ?_⟩
  show bm_G sc 14 287 954 lv [.int x] B1 Q
  refine g_ald (pc' := 955) cd_L21 rfl (Or.inr ⟨_, rfl, rfl, rfl⟩) l2 rfl rfl ?_
  refine g_ald (pc' := 956) cd_L21 rfl (Or.inr ⟨_, rfl, rfl, rfl⟩) l0 rfl rfl ?_
  refine g_ild (pc' := 957) cd_L21 rfl (Or.inr ⟨_, rfl, rfl, rfl⟩) l3 rfl ?_
  refine g_k1 (v := 1) (pc' := 958) cd_L21 rfl (by decide) rfl ?_
  refine g_pure (pc' := 959) (st' := .int (nI (5 * k) + 1) :: _) cd_L21 rfl rfl (fun _ _ => rfl) ?_
  rw [show (nI (5 * k) + 1 : Int32) = nI (5 * k + 1) from nI_add (5 * k) 1]
  refine g_scr (x := sx sc k 1) (pc' := 960) cd_L21 rfl rfl (vp_in_nI (by omega) (by omega)) (by rw [nI_clamp (by omega)]; rfl) ?_
  refine g_calli (pc' := 963) cd_L21 rfl rfl rfl rfl rfl (tm_invV rfl rfl cd_Mo_derived rfl (Nat.le_of_ble_eq_true rfl) (by decide) hm1.1 hm1.2) (g_mono (fun r B2 q => ?_) hx)
  obtain ⟨z, rfl, hz, hJ⟩ := q
  refine ⟨z, rfl, ?_⟩
  show bm_G sc 14 287 963 lv [.int z, .int x] B2 Q
  refine g_if2 (t := 1215) (pc' := 966) cd_L21 rfl rfl rfl (fun _ => kk B2 hJ) (fun c => absurd hz c)
set_option maxRecDepth 100000 in
theorem law_letter {sc : tm_X} {N S k : Nat} {lv : tm_L} {B : bm_H} {Q : Option Value → bm_H → Prop} (h : JI N S k B) (hk : k < 64) (hs : 5 * k + 5 ≤ sc.1) (h3 : sc.1 ≤ 320) (l0 : lv.lookup 0 = some (.retAddr 0)) (l1 : lv.lookup 1 = some (.ref 0)) (l2 : lv.lookup 2 = some (.ref 1482)) (l3 : lv.lookup 3 = some (.int (nI (5 * k)))) (kk : LQ sc N S k lv Q) : bm_G sc 14 287 968 lv [] B Q := by
  have hm := J_mos h
  refine g_ald (pc' := 969) cd_L22 rfl (Or.inr ⟨_, rfl, rfl, rfl⟩) l1 rfl rfl ?_
  refine g_ald (pc' := 970) cd_L22 rfl (Or.inr ⟨_, rfl, rfl, rfl⟩) l0 rfl rfl ?_
  refine g_ild (pc' := 971) cd_L22 rfl (Or.inr ⟨_, rfl, rfl, rfl⟩) l3 rfl ?_
  refine g_k1 (v := 1) (pc' := 972) cd_L22 rfl (by decide) rfl ?_
  refine g_pure (pc' := 973) (st' := .int (nI (5 * k) + 1) :: _) cd_L22 rfl rfl (fun _ _ => rfl) ?_
  rw [show (nI (5 * k) + 1 : Int32) = nI (5 * k + 1) from nI_add (5 * k) 1]
  refine g_scr (x := sx sc k 1) (pc' := 974) cd_L22 rfl rfl (vp_in_nI (by omega) (by omega)) (by rw [nI_clamp (by omega)]; rfl) ?_
  refine g_calli (pc' := 977) cd_L22 rfl rfl rfl rfl rfl (tm_invV rfl rfl cd_Ho_letter rfl (Nat.le_of_ble_eq_true rfl) (by decide) hm.1.1 hm.1.2) (g_mono (fun r B1 q => ?_) (C_letter (sc := sc) (d := 1) hk h (sx sc k 1)))
  obtain ⟨x, rfl, hm1, hx⟩ := q
  refine ⟨x, rfl, ?_⟩
  show bm_G sc 14 287 977 lv [.int x] B1 Q
  refine g_ald (pc' := 978) cd_L22 rfl (Or.inr ⟨_, rfl, rfl, rfl⟩) l2 rfl rfl ?_
  refine g_ald (pc' := 979) cd_L22 rfl (Or.inr ⟨_, rfl, rfl, rfl⟩) l0 rfl rfl ?_
  refine g_ild (pc' := 980) cd_L22 rfl (Or.inr ⟨_, rfl, rfl, rfl⟩) l3 rfl ?_
  refine g_k1 (v := 1) (pc' := 981) cd_L22 rfl (by decide) rfl ?_
  refine g_pure (pc' := 982) (st' := .int (nI (5 * k) + 1) :: _) cd_L22 rfl rfl (fun _ _ => rfl) ?_
  rw [show (nI (5 * k) + 1 : Int32) = nI (5 * k + 1) from nI_add (5 * k) 1]
  refine g_scr (x := sx sc k 1) (pc' := 983) cd_L22 rfl rfl (vp_in_nI (by omega) (by omega)) (by rw [nI_clamp (by omega)]; rfl) ?_
  refine g_calli (pc' := 986) cd_L22 rfl rfl rfl rfl rfl (tm_invV rfl rfl cd_Mo_letter rfl (Nat.le_of_ble_eq_true rfl) (by decide) hm1.1 hm1.2) (g_mono (fun r B2 q => ?_) hx)
  obtain ⟨z, rfl, hz, hJ⟩ := q
  refine ⟨z, rfl, ?_⟩
  show bm_G sc 14 287 986 lv [.int z, .int x] B2 Q
  refine g_if2 (t := 1215) (pc' := 989) cd_L22 rfl rfl rfl (fun _ => kk B2 hJ) (fun c => absurd hz c)
set_option maxRecDepth 100000 in
theorem law_taken {sc : tm_X} {N S k : Nat} {lv : tm_L} {B : bm_H} {Q : Option Value → bm_H → Prop} (h : JI N S k B) (hk : k < 64) (hs : 5 * k + 5 ≤ sc.1) (h3 : sc.1 ≤ 320) (l0 : lv.lookup 0 = some (.retAddr 0)) (l1 : lv.lookup 1 = some (.ref 0)) (l2 : lv.lookup 2 = some (.ref 1482)) (l3 : lv.lookup 3 = some (.int (nI (5 * k)))) (kk : LQ sc N S k lv Q) : bm_G sc 14 287 991 lv [] B Q := by
  have hm := J_mos h
  refine g_ald (pc' := 992) cd_L23 rfl (Or.inr ⟨_, rfl, rfl, rfl⟩) l1 rfl rfl ?_
  refine g_ald (pc' := 993) cd_L23 rfl (Or.inr ⟨_, rfl, rfl, rfl⟩) l0 rfl rfl ?_
  refine g_ild (pc' := 994) cd_L23 rfl (Or.inr ⟨_, rfl, rfl, rfl⟩) l3 rfl ?_
  refine g_k1 (v := 1) (pc' := 995) cd_L23 rfl (by decide) rfl ?_
  refine g_pure (pc' := 996) (st' := .int (nI (5 * k) + 1) :: _) cd_L23 rfl rfl (fun _ _ => rfl) ?_
  rw [show (nI (5 * k) + 1 : Int32) = nI (5 * k + 1) from nI_add (5 * k) 1]
  refine g_scr (x := sx sc k 1) (pc' := 997) cd_L23 rfl rfl (vp_in_nI (by omega) (by omega)) (by rw [nI_clamp (by omega)]; rfl) ?_
  refine g_ald (pc' := 998) cd_L23 rfl (Or.inr ⟨_, rfl, rfl, rfl⟩) l0 rfl rfl ?_
  refine g_ild (pc' := 999) cd_L23 rfl (Or.inr ⟨_, rfl, rfl, rfl⟩) l3 rfl ?_
  refine g_k1 (v := 2) (pc' := 1000) cd_L23 rfl (by decide) rfl ?_
  refine g_pure (pc' := 1001) (st' := .int (nI (5 * k) + 2) :: _) cd_L23 rfl rfl (fun _ _ => rfl) ?_
  rw [show (nI (5 * k) + 2 : Int32) = nI (5 * k + 2) from nI_add (5 * k) 2]
  refine g_scr (x := sx sc k 2) (pc' := 1002) cd_L23 rfl rfl (vp_in_nI (by omega) (by omega)) (by rw [nI_clamp (by omega)]; rfl) ?_
  refine g_calli (pc' := 1005) cd_L23 rfl rfl rfl rfl rfl (tm_invV rfl rfl cd_Ho_taken rfl (Nat.le_of_ble_eq_true rfl) (by decide) hm.1.1 hm.1.2) (g_mono (fun r B1 q => ?_) (C_taken (sc := sc) (d := 1) hk h (sx sc k 1) (sx sc k 2)))
  obtain ⟨x, rfl, hm1, hx⟩ := q
  refine ⟨x, rfl, ?_⟩
  show bm_G sc 14 287 1005 lv [.int x] B1 Q
  refine g_ald (pc' := 1006) cd_L23 rfl (Or.inr ⟨_, rfl, rfl, rfl⟩) l2 rfl rfl ?_
  refine g_ald (pc' := 1007) cd_L23 rfl (Or.inr ⟨_, rfl, rfl, rfl⟩) l0 rfl rfl ?_
  refine g_ild (pc' := 1008) cd_L23 rfl (Or.inr ⟨_, rfl, rfl, rfl⟩) l3 rfl ?_
  refine g_k1 (v := 1) (pc' := 1009) cd_L23 rfl (by decide) rfl ?_
  refine g_pure (pc' := 1010) (st' := .int (nI (5 * k) + 1) :: _) cd_L23 rfl rfl (fun _ _ => rfl) ?_
  rw [show (nI (5 * k) + 1 : Int32) = nI (5 * k + 1) from nI_add (5 * k) 1]
  refine g_scr (x := sx sc k 1) (pc' := 1011) cd_L23 rfl rfl (vp_in_nI (by omega) (by omega)) (by rw [nI_clamp (by omega)]; rfl) ?_
  refine g_ald (pc' := 1012) cd_L23 rfl (Or.inr ⟨_, rfl, rfl, rfl⟩) l0 rfl rfl ?_
  refine g_ild (pc' := 1013) cd_L23 rfl (Or.inr ⟨_, rfl, rfl, rfl⟩) l3 rfl ?_
  refine g_k1 (v := 2) (pc' := 1014) cd_L23 rfl (by decide) rfl ?_
  refine g_pure (pc' := 1015) (st' := .int (nI (5 * k) + 2) :: _) cd_L23 rfl rfl (fun _ _ => rfl) ?_
  rw [show (nI (5 * k) + 2 : Int32) = nI (5 * k + 2) from nI_add (5 * k) 2]
  refine g_scr (x := sx sc k 2) (pc' := 1016) cd_L23 rfl rfl (vp_in_nI (by omega) (by omega)) (by rw [nI_clamp (by omega)]; rfl) ?_
  refine g_calli (pc' := 1019) cd_L23 rfl rfl rfl rfl rfl (tm_invV rfl rfl cd_Mo_taken rfl (Nat.le_of_ble_eq_true rfl) (by decide) hm1.1 hm1.2) (g_mono (fun r B2 q => ?_) hx)
  obtain ⟨z, rfl, hz, hJ⟩ := q
  refine ⟨z, rfl, ?_⟩
  show bm_G sc 14 287 1019 lv [.int z, .int x] B2 Q
  refine g_if2 (t := 1215) (pc' := 1022) cd_L23 rfl rfl rfl (fun _ => kk B2 hJ) (fun c => absurd hz c)
set_option maxRecDepth 100000 in
theorem law_device {sc : tm_X} {N S k : Nat} {lv : tm_L} {B : bm_H} {Q : Option Value → bm_H → Prop} (h : JI N S k B) (hk : k < 64) (hs : 5 * k + 5 ≤ sc.1) (h3 : sc.1 ≤ 320) (l0 : lv.lookup 0 = some (.retAddr 0)) (l1 : lv.lookup 1 = some (.ref 0)) (l2 : lv.lookup 2 = some (.ref 1482)) (l3 : lv.lookup 3 = some (.int (nI (5 * k)))) (kk : LQ sc N S k lv Q) : bm_G sc 14 287 1024 lv [] B Q := by
  have hm := J_mos h
  refine g_ald (pc' := 1025) cd_L24 rfl (Or.inr ⟨_, rfl, rfl, rfl⟩) l1 rfl rfl ?_
  refine g_ald (pc' := 1026) cd_L24 rfl (Or.inr ⟨_, rfl, rfl, rfl⟩) l0 rfl rfl ?_
  refine g_ild (pc' := 1027) cd_L24 rfl (Or.inr ⟨_, rfl, rfl, rfl⟩) l3 rfl ?_
  refine g_k1 (v := 1) (pc' := 1028) cd_L24 rfl (by decide) rfl ?_
  refine g_pure (pc' := 1029) (st' := .int (nI (5 * k) + 1) :: _) cd_L24 rfl rfl (fun _ _ => rfl) ?_
  rw [show (nI (5 * k) + 1 : Int32) = nI (5 * k + 1) from nI_add (5 * k) 1]
  refine g_scr (x := sx sc k 1) (pc' := 1030) cd_L24 rfl rfl (vp_in_nI (by omega) (by omega)) (by rw [nI_clamp (by omega)]; rfl) ?_
  refine g_ald (pc' := 1031) cd_L24 rfl (Or.inr ⟨_, rfl, rfl, rfl⟩) l0 rfl rfl ?_
  refine g_ild (pc' := 1032) cd_L24 rfl (Or.inr ⟨_, rfl, rfl, rfl⟩) l3 rfl ?_
  refine g_k1 (v := 2) (pc' := 1033) cd_L24 rfl (by decide) rfl ?_
  refine g_pure (pc' := 1034) (st' := .int (nI (5 * k) + 2) :: _) cd_L24 rfl rfl (fun _ _ => rfl) ?_
  rw [show (nI (5 * k) + 2 : Int32) = nI (5 * k + 2) from nI_add (5 * k) 2]
  refine g_scr (x := sx sc k 2) (pc' := 1035) cd_L24 rfl rfl (vp_in_nI (by omega) (by omega)) (by rw [nI_clamp (by omega)]; rfl) ?_
  refine g_calli (pc' := 1038) cd_L24 rfl rfl rfl rfl rfl (tm_invV rfl rfl cd_Ho_device rfl (Nat.le_of_ble_eq_true rfl) (by decide) hm.1.1 hm.1.2) (g_mono (fun r B1 q => ?_) (C_device (sc := sc) (d := 1) hk h (sx sc k 1) (sx sc k 2)))
  obtain ⟨x, rfl, hm1, hx⟩ := q
  refine ⟨x, rfl, ?_⟩
  show bm_G sc 14 287 1038 lv [.int x] B1 Q
  refine g_ald (pc' := 1039) cd_L24 rfl (Or.inr ⟨_, rfl, rfl, rfl⟩) l2 rfl rfl ?_
  refine g_ald (pc' := 1040) cd_L24 rfl (Or.inr ⟨_, rfl, rfl, rfl⟩) l0 rfl rfl ?_
  refine g_ild (pc' := 1041) cd_L24 rfl (Or.inr ⟨_, rfl, rfl, rfl⟩) l3 rfl ?_
  refine g_k1 (v := 1) (pc' := 1042) cd_L24 rfl (by decide) rfl ?_
  refine g_pure (pc' := 1043) (st' := .int (nI (5 * k) + 1) :: _) cd_L24 rfl rfl (fun _ _ => rfl) ?_
  rw [show (nI (5 * k) + 1 : Int32) = nI (5 * k + 1) from nI_add (5 * k) 1]
  refine g_scr (x := sx sc k 1) (pc' := 1044) cd_L24 rfl rfl (vp_in_nI (by omega) (by omega)) (by rw [nI_clamp (by omega)]; rfl) ?_
  refine g_ald (pc' := 1045) cd_L24 rfl (Or.inr ⟨_, rfl, rfl, rfl⟩) l0 rfl rfl ?_
  refine g_ild (pc' := 1046) cd_L24 rfl (Or.inr ⟨_, rfl, rfl, rfl⟩) l3 rfl ?_
  refine g_k1 (v := 2) (pc' := 1047) cd_L24 rfl (by decide) rfl ?_
  refine g_pure (pc' := 1048) (st' := .int (nI (5 * k) + 2) :: _) cd_L24 rfl rfl (fun _ _ => rfl) ?_
  rw [show (nI (5 * k) + 2 : Int32) = nI (5 * k + 2) from nI_add (5 * k) 2]
  refine g_scr (x := sx sc k 2) (pc' := 1049) cd_L24 rfl rfl (vp_in_nI (by omega) (by omega)) (by rw [nI_clamp (by omega)]; rfl) ?_
  refine g_calli (pc' := 1052) cd_L24 rfl rfl rfl rfl rfl (tm_invV rfl rfl cd_Mo_device rfl (Nat.le_of_ble_eq_true rfl) (by decide) hm1.1 hm1.2) (g_mono (fun r B2 q => ?_) hx)
  obtain ⟨z, rfl, hz, hJ⟩ := q
  refine ⟨z, rfl, ?_⟩
  show bm_G sc 14 287 1052 lv [.int z, .int x] B2 Q
  refine g_if2 (t := 1215) (pc' := 1055) cd_L24 rfl rfl rfl (fun _ => kk B2 hJ) (fun c => absurd hz c)
set_option maxRecDepth 100000 in
theorem law_session {sc : tm_X} {N S k : Nat} {lv : tm_L} {B : bm_H} {Q : Option Value → bm_H → Prop} (h : JI N S k B) (hk : k < 64) (hs : 5 * k + 5 ≤ sc.1) (h3 : sc.1 ≤ 320) (l0 : lv.lookup 0 = some (.retAddr 0)) (l1 : lv.lookup 1 = some (.ref 0)) (l2 : lv.lookup 2 = some (.ref 1482)) (l3 : lv.lookup 3 = some (.int (nI (5 * k)))) (kk : LQ sc N S k lv Q) : bm_G sc 14 287 1057 lv [] B Q := by
  have hm := J_mos h
  refine g_ald (pc' := 1058) cd_L25 rfl (Or.inr ⟨_, rfl, rfl, rfl⟩) l1 rfl rfl ?_
  refine g_ald (pc' := 1059) cd_L25 rfl (Or.inr ⟨_, rfl, rfl, rfl⟩) l0 rfl rfl ?_
  refine g_ild (pc' := 1060) cd_L25 rfl (Or.inr ⟨_, rfl, rfl, rfl⟩) l3 rfl ?_
  refine g_k1 (v := 1) (pc' := 1061) cd_L25 rfl (by decide) rfl ?_
  refine g_pure (pc' := 1062) (st' := .int (nI (5 * k) + 1) :: _) cd_L25 rfl rfl (fun _ _ => rfl) ?_
  rw [show (nI (5 * k) + 1 : Int32) = nI (5 * k + 1) from nI_add (5 * k) 1]
  refine g_scr (x := sx sc k 1) (pc' := 1063) cd_L25 rfl rfl (vp_in_nI (by omega) (by omega)) (by rw [nI_clamp (by omega)]; rfl) ?_
  refine g_ald (pc' := 1064) cd_L25 rfl (Or.inr ⟨_, rfl, rfl, rfl⟩) l0 rfl rfl ?_
  refine g_ild (pc' := 1065) cd_L25 rfl (Or.inr ⟨_, rfl, rfl, rfl⟩) l3 rfl ?_
  refine g_k1 (v := 2) (pc' := 1066) cd_L25 rfl (by decide) rfl ?_
  refine g_pure (pc' := 1067) (st' := .int (nI (5 * k) + 2) :: _) cd_L25 rfl rfl (fun _ _ => rfl) ?_
  rw [show (nI (5 * k) + 2 : Int32) = nI (5 * k + 2) from nI_add (5 * k) 2]
  refine g_scr (x := sx sc k 2) (pc' := 1068) cd_L25 rfl rfl (vp_in_nI (by omega) (by omega)) (by rw [nI_clamp (by omega)]; rfl) ?_
  refine g_ald (pc' := 1069) cd_L25 rfl (Or.inr ⟨_, rfl, rfl, rfl⟩) l0 rfl rfl ?_
  refine g_ild (pc' := 1070) cd_L25 rfl (Or.inr ⟨_, rfl, rfl, rfl⟩) l3 rfl ?_
  refine g_k1 (v := 3) (pc' := 1071) cd_L25 rfl (by decide) rfl ?_
  refine g_pure (pc' := 1072) (st' := .int (nI (5 * k) + 3) :: _) cd_L25 rfl rfl (fun _ _ => rfl) ?_
  rw [show (nI (5 * k) + 3 : Int32) = nI (5 * k + 3) from nI_add (5 * k) 3]
  refine g_scr (x := sx sc k 3) (pc' := 1073) cd_L25 rfl rfl (vp_in_nI (by omega) (by omega)) (by rw [nI_clamp (by omega)]; rfl) ?_
  refine g_ald (pc' := 1074) cd_L25 rfl (Or.inr ⟨_, rfl, rfl, rfl⟩) l0 rfl rfl ?_
  refine g_ild (pc' := 1075) cd_L25 rfl (Or.inr ⟨_, rfl, rfl, rfl⟩) l3 rfl ?_
  refine g_k1 (v := 4) (pc' := 1076) cd_L25 rfl (by decide) rfl ?_
  refine g_pure (pc' := 1077) (st' := .int (nI (5 * k) + 4) :: _) cd_L25 rfl rfl (fun _ _ => rfl) ?_
  rw [show (nI (5 * k) + 4 : Int32) = nI (5 * k + 4) from nI_add (5 * k) 4]
  refine g_scr (x := sx sc k 4) (pc' := 1078) cd_L25 rfl rfl (vp_in_nI (by omega) (by omega)) (by rw [nI_clamp (by omega)]; rfl) ?_
  refine g_calli (pc' := 1081) cd_L25 rfl rfl rfl rfl rfl (tm_invV rfl rfl cd_Ho_session rfl (Nat.le_of_ble_eq_true rfl) (by decide) hm.1.1 hm.1.2) (g_mono (fun r B1 q => ?_) (C_session (sc := sc) (d := 1) hk h (sx sc k 1) (sx sc k 2) (sx sc k 3) (sx sc k 4)))
  obtain ⟨x, rfl, hm1, hx⟩ := q
  refine ⟨x, rfl, ?_⟩
  show bm_G sc 14 287 1081 lv [.int x] B1 Q
  refine g_ald (pc' := 1082) cd_L25 rfl (Or.inr ⟨_, rfl, rfl, rfl⟩) l2 rfl rfl ?_
  refine g_ald (pc' := 1083) cd_L25 rfl (Or.inr ⟨_, rfl, rfl, rfl⟩) l0 rfl rfl ?_
  refine g_ild (pc' := 1084) cd_L25 rfl (Or.inr ⟨_, rfl, rfl, rfl⟩) l3 rfl ?_
  refine g_k1 (v := 1) (pc' := 1085) cd_L25 rfl (by decide) rfl ?_
  refine g_pure (pc' := 1086) (st' := .int (nI (5 * k) + 1) :: _) cd_L25 rfl rfl (fun _ _ => rfl) ?_
  rw [show (nI (5 * k) + 1 : Int32) = nI (5 * k + 1) from nI_add (5 * k) 1]
  refine g_scr (x := sx sc k 1) (pc' := 1087) cd_L25 rfl rfl (vp_in_nI (by omega) (by omega)) (by rw [nI_clamp (by omega)]; rfl) ?_
  refine g_ald (pc' := 1088) cd_L25 rfl (Or.inr ⟨_, rfl, rfl, rfl⟩) l0 rfl rfl ?_
  refine g_ild (pc' := 1089) cd_L25 rfl (Or.inr ⟨_, rfl, rfl, rfl⟩) l3 rfl ?_
  refine g_k1 (v := 2) (pc' := 1090) cd_L25 rfl (by decide) rfl ?_
  refine g_pure (pc' := 1091) (st' := .int (nI (5 * k) + 2) :: _) cd_L25 rfl rfl (fun _ _ => rfl) ?_
  rw [show (nI (5 * k) + 2 : Int32) = nI (5 * k + 2) from nI_add (5 * k) 2]
  refine g_scr (x := sx sc k 2) (pc' := 1092) cd_L25 rfl rfl (vp_in_nI (by omega) (by omega)) (by rw [nI_clamp (by omega)]; rfl) ?_
  refine g_ald (pc' := 1093) cd_L25 rfl (Or.inr ⟨_, rfl, rfl, rfl⟩) l0 rfl rfl ?_
  refine g_ild (pc' := 1094) cd_L25 rfl (Or.inr ⟨_, rfl, rfl, rfl⟩) l3 rfl ?_
  refine g_k1 (v := 3) (pc' := 1095) cd_L25 rfl (by decide) rfl ?_
  refine g_pure (pc' := 1096) (st' := .int (nI (5 * k) + 3) :: _) cd_L25 rfl rfl (fun _ _ => rfl) ?_
  rw [show (nI (5 * k) + 3 : Int32) = nI (5 * k + 3) from nI_add (5 * k) 3]
  refine g_scr (x := sx sc k 3) (pc' := 1097) cd_L25 rfl rfl (vp_in_nI (by omega) (by omega)) (by rw [nI_clamp (by omega)]; rfl) ?_
  refine g_ald (pc' := 1098) cd_L25 rfl (Or.inr ⟨_, rfl, rfl, rfl⟩) l0 rfl rfl ?_
  refine g_ild (pc' := 1099) cd_L25 rfl (Or.inr ⟨_, rfl, rfl, rfl⟩) l3 rfl ?_
  refine g_k1 (v := 4) (pc' := 1100) cd_L25 rfl (by decide) rfl ?_
  refine g_pure (pc' := 1101) (st' := .int (nI (5 * k) + 4) :: _) cd_L25 rfl rfl (fun _ _ => rfl) ?_
  rw [show (nI (5 * k) + 4 : Int32) = nI (5 * k + 4) from nI_add (5 * k) 4]
  refine g_scr (x := sx sc k 4) (pc' := 1102) cd_L25 rfl rfl (vp_in_nI (by omega) (by omega)) (by rw [nI_clamp (by omega)]; rfl) ?_
  refine g_calli (pc' := 1105) cd_L25 rfl rfl rfl rfl rfl (tm_invV rfl rfl cd_Mo_session rfl (Nat.le_of_ble_eq_true rfl) (by decide) hm1.1 hm1.2) (g_mono (fun r B2 q => ?_) hx)
  obtain ⟨z, rfl, hz, hJ⟩ := q
  refine ⟨z, rfl, ?_⟩
  show bm_G sc 14 287 1105 lv [.int z, .int x] B2 Q
  refine g_if2 (t := 1215) (pc' := 1108) cd_L25 rfl rfl rfl (fun _ => kk B2 hJ) (fun c => absurd hz c)
set_option maxRecDepth 100000 in
theorem law_group {sc : tm_X} {N S k : Nat} {lv : tm_L} {B : bm_H} {Q : Option Value → bm_H → Prop} (h : JI N S k B) (hk : k < 64) (hs : 5 * k + 5 ≤ sc.1) (h3 : sc.1 ≤ 320) (l0 : lv.lookup 0 = some (.retAddr 0)) (l1 : lv.lookup 1 = some (.ref 0)) (l2 : lv.lookup 2 = some (.ref 1482)) (l3 : lv.lookup 3 = some (.int (nI (5 * k)))) (kk : LQ sc N S k lv Q) : bm_G sc 14 287 1110 lv [] B Q := by
  have hm := J_mos h
  refine g_ald (pc' := 1111) cd_L26 rfl (Or.inr ⟨_, rfl, rfl, rfl⟩) l1 rfl rfl ?_
  refine g_ald (pc' := 1112) cd_L26 rfl (Or.inr ⟨_, rfl, rfl, rfl⟩) l0 rfl rfl ?_
  refine g_ild (pc' := 1113) cd_L26 rfl (Or.inr ⟨_, rfl, rfl, rfl⟩) l3 rfl ?_
  refine g_k1 (v := 1) (pc' := 1114) cd_L26 rfl (by decide) rfl ?_
  refine g_pure (pc' := 1115) (st' := .int (nI (5 * k) + 1) :: _) cd_L26 rfl rfl (fun _ _ => rfl) ?_
  rw [show (nI (5 * k) + 1 : Int32) = nI (5 * k + 1) from nI_add (5 * k) 1]
  refine g_scr (x := sx sc k 1) (pc' := 1116) cd_L26 rfl rfl (vp_in_nI (by omega) (by omega)) (by rw [nI_clamp (by omega)]; rfl) ?_
  refine g_ald (pc' := 1117) cd_L26 rfl (Or.inr ⟨_, rfl, rfl, rfl⟩) l0 rfl rfl ?_
  refine g_ild (pc' := 1118) cd_L26 rfl (Or.inr ⟨_, rfl, rfl, rfl⟩) l3 rfl ?_
  refine g_k1 (v := 2) (pc' := 1119) cd_L26 rfl (by decide) rfl ?_
  refine g_pure (pc' := 1120) (st' := .int (nI (5 * k) + 2) :: _) cd_L26 rfl rfl (fun _ _ => rfl) ?_
  rw [show (nI (5 * k) + 2 : Int32) = nI (5 * k + 2) from nI_add (5 * k) 2]
  refine g_scr (x := sx sc k 2) (pc' := 1121) cd_L26 rfl rfl (vp_in_nI (by omega) (by omega)) (by rw [nI_clamp (by omega)]; rfl) ?_
  refine g_ald (pc' := 1122) cd_L26 rfl (Or.inr ⟨_, rfl, rfl, rfl⟩) l0 rfl rfl ?_
  refine g_ild (pc' := 1123) cd_L26 rfl (Or.inr ⟨_, rfl, rfl, rfl⟩) l3 rfl ?_
  refine g_k1 (v := 3) (pc' := 1124) cd_L26 rfl (by decide) rfl ?_
  refine g_pure (pc' := 1125) (st' := .int (nI (5 * k) + 3) :: _) cd_L26 rfl rfl (fun _ _ => rfl) ?_
  rw [show (nI (5 * k) + 3 : Int32) = nI (5 * k + 3) from nI_add (5 * k) 3]
  refine g_scr (x := sx sc k 3) (pc' := 1126) cd_L26 rfl rfl (vp_in_nI (by omega) (by omega)) (by rw [nI_clamp (by omega)]; rfl) ?_
  refine g_calli (pc' := 1129) cd_L26 rfl rfl rfl rfl rfl (tm_invV rfl rfl cd_Ho_group rfl (Nat.le_of_ble_eq_true rfl) (by decide) hm.1.1 hm.1.2) (g_mono (fun r B1 q => ?_) (C_group (sc := sc) (d := 1) hk h (sx sc k 1) (sx sc k 2) (sx sc k 3)))
  obtain ⟨x, rfl, hm1, hx⟩ := q
  refine ⟨x, rfl, ?_⟩
  show bm_G sc 14 287 1129 lv [.int x] B1 Q
  refine g_ald (pc' := 1130) cd_L26 rfl (Or.inr ⟨_, rfl, rfl, rfl⟩) l2 rfl rfl ?_
  refine g_ald (pc' := 1131) cd_L26 rfl (Or.inr ⟨_, rfl, rfl, rfl⟩) l0 rfl rfl ?_
  refine g_ild (pc' := 1132) cd_L26 rfl (Or.inr ⟨_, rfl, rfl, rfl⟩) l3 rfl ?_
  refine g_k1 (v := 1) (pc' := 1133) cd_L26 rfl (by decide) rfl ?_
  refine g_pure (pc' := 1134) (st' := .int (nI (5 * k) + 1) :: _) cd_L26 rfl rfl (fun _ _ => rfl) ?_
  rw [show (nI (5 * k) + 1 : Int32) = nI (5 * k + 1) from nI_add (5 * k) 1]
  refine g_scr (x := sx sc k 1) (pc' := 1135) cd_L26 rfl rfl (vp_in_nI (by omega) (by omega)) (by rw [nI_clamp (by omega)]; rfl) ?_
  refine g_ald (pc' := 1136) cd_L26 rfl (Or.inr ⟨_, rfl, rfl, rfl⟩) l0 rfl rfl ?_
  refine g_ild (pc' := 1137) cd_L26 rfl (Or.inr ⟨_, rfl, rfl, rfl⟩) l3 rfl ?_
  refine g_k1 (v := 2) (pc' := 1138) cd_L26 rfl (by decide) rfl ?_
  refine g_pure (pc' := 1139) (st' := .int (nI (5 * k) + 2) :: _) cd_L26 rfl rfl (fun _ _ => rfl) ?_
  rw [show (nI (5 * k) + 2 : Int32) = nI (5 * k + 2) from nI_add (5 * k) 2]
  refine g_scr (x := sx sc k 2) (pc' := 1140) cd_L26 rfl rfl (vp_in_nI (by omega) (by omega)) (by rw [nI_clamp (by omega)]; rfl) ?_
  refine g_ald (pc' := 1141) cd_L26 rfl (Or.inr ⟨_, rfl, rfl, rfl⟩) l0 rfl rfl ?_
  refine g_ild (pc' := 1142) cd_L26 rfl (Or.inr ⟨_, rfl, rfl, rfl⟩) l3 rfl ?_
  refine g_k1 (v := 3) (pc' := 1143) cd_L26 rfl (by decide) rfl ?_
  refine g_pure (pc' := 1144) (st' := .int (nI (5 * k) + 3) :: _) cd_L26 rfl rfl (fun _ _ => rfl) ?_
  rw [show (nI (5 * k) + 3 : Int32) = nI (5 * k + 3) from nI_add (5 * k) 3]
  refine g_scr (x := sx sc k 3) (pc' := 1145) cd_L26 rfl rfl (vp_in_nI (by omega) (by omega)) (by rw [nI_clamp (by omega)]; rfl) ?_
  refine g_calli (pc' := 1148) cd_L26 rfl rfl rfl rfl rfl (tm_invV rfl rfl cd_Mo_group rfl (Nat.le_of_ble_eq_true rfl) (by decide) hm1.1 hm1.2) (g_mono (fun r B2 q => ?_) hx)
  obtain ⟨z, rfl, hz, hJ⟩ := q
  refine ⟨z, rfl, ?_⟩
  show bm_G sc 14 287 1148 lv [.int z, .int x] B2 Q
  refine g_if2 (t := 1215) (pc' := 1151) cd_L26 rfl rfl rfl (fun _ => kk B2 hJ) (fun c => absurd hz c)
set_option maxRecDepth 100000 in
theorem law_count {sc : tm_X} {N S k : Nat} {lv : tm_L} {B : bm_H} {Q : Option Value → bm_H → Prop} (h : JI N S k B) (hk : k < 64) (hs : 5 * k + 5 ≤ sc.1) (h3 : sc.1 ≤ 320) (l0 : lv.lookup 0 = some (.retAddr 0)) (l1 : lv.lookup 1 = some (.ref 0)) (l2 : lv.lookup 2 = some (.ref 1482)) (l3 : lv.lookup 3 = some (.int (nI (5 * k)))) (kk : LQ sc N S k lv Q) : bm_G sc 14 287 1153 lv [] B Q := by
  have hm := J_mos h
  refine g_ald (pc' := 1154) cd_L27 rfl (Or.inr ⟨_, rfl, rfl, rfl⟩) l1 rfl rfl ?_
  refine g_ald (pc' := 1155) cd_L27 rfl (Or.inr ⟨_, rfl, rfl, rfl⟩) l0 rfl rfl ?_
  refine g_ild (pc' := 1156) cd_L27 rfl (Or.inr ⟨_, rfl, rfl, rfl⟩) l3 rfl ?_
  refine g_k1 (v := 1) (pc' := 1157) cd_L27 rfl (by decide) rfl ?_
  refine g_pure (pc' := 1158) (st' := .int (nI (5 * k) + 1) :: _) cd_L27 rfl rfl (fun _ _ => rfl) ?_
  rw [show (nI (5 * k) + 1 : Int32) = nI (5 * k + 1) from nI_add (5 * k) 1]
  refine g_scr (x := sx sc k 1) (pc' := 1159) cd_L27 rfl rfl (vp_in_nI (by omega) (by omega)) (by rw [nI_clamp (by omega)]; rfl) ?_
  refine g_calli (pc' := 1162) cd_L27 rfl rfl rfl rfl rfl (tm_invV rfl rfl cd_Ho_count rfl (Nat.le_of_ble_eq_true rfl) (by decide) hm.1.1 hm.1.2) (g_mono (fun r B1 q => ?_) (C_count (sc := sc) (d := 1) hk h (sx sc k 1)))
  obtain ⟨x, rfl, hm1, hx⟩ := q
  refine ⟨x, rfl, ?_⟩
  show bm_G sc 14 287 1162 lv [.int x] B1 Q
  refine g_ald (pc' := 1163) cd_L27 rfl (Or.inr ⟨_, rfl, rfl, rfl⟩) l2 rfl rfl ?_
  refine g_ald (pc' := 1164) cd_L27 rfl (Or.inr ⟨_, rfl, rfl, rfl⟩) l0 rfl rfl ?_
  refine g_ild (pc' := 1165) cd_L27 rfl (Or.inr ⟨_, rfl, rfl, rfl⟩) l3 rfl ?_
  refine g_k1 (v := 1) (pc' := 1166) cd_L27 rfl (by decide) rfl ?_
  refine g_pure (pc' := 1167) (st' := .int (nI (5 * k) + 1) :: _) cd_L27 rfl rfl (fun _ _ => rfl) ?_
  rw [show (nI (5 * k) + 1 : Int32) = nI (5 * k + 1) from nI_add (5 * k) 1]
  refine g_scr (x := sx sc k 1) (pc' := 1168) cd_L27 rfl rfl (vp_in_nI (by omega) (by omega)) (by rw [nI_clamp (by omega)]; rfl) ?_
  refine g_calli (pc' := 1171) cd_L27 rfl rfl rfl rfl rfl (tm_invV rfl rfl cd_Mo_count rfl (Nat.le_of_ble_eq_true rfl) (by decide) hm1.1 hm1.2) (g_mono (fun r B2 q => ?_) hx)
  obtain ⟨z, rfl, hz, hJ⟩ := q
  refine ⟨z, rfl, ?_⟩
  show bm_G sc 14 287 1171 lv [.int z, .int x] B2 Q
  refine g_if2 (t := 1215) (pc' := 1174) cd_L27 rfl rfl rfl (fun _ => kk B2 hJ) (fun c => absurd hz c)
set_option maxRecDepth 100000 in
theorem law_forged {sc : tm_X} {N S k : Nat} {lv : tm_L} {B : bm_H} {Q : Option Value → bm_H → Prop} (h : JI N S k B) (hk : k < 64) (hs : 5 * k + 5 ≤ sc.1) (h3 : sc.1 ≤ 320) (l0 : lv.lookup 0 = some (.retAddr 0)) (l1 : lv.lookup 1 = some (.ref 0)) (l2 : lv.lookup 2 = some (.ref 1482)) (l3 : lv.lookup 3 = some (.int (nI (5 * k)))) (kk : LQ sc N S k lv Q) : bm_G sc 14 287 1176 lv [] B Q := by
  have hm := J_mos h
  refine g_ald (pc' := 1177) cd_L28 rfl (Or.inr ⟨_, rfl, rfl, rfl⟩) l1 rfl rfl ?_
  refine g_calli (pc' := 1180) cd_L28 rfl rfl rfl rfl rfl (tm_invV rfl rfl cd_Ho_forged rfl (Nat.le_of_ble_eq_true rfl) (by decide) hm.1.1 hm.1.2) (g_mono (fun r B1 q => ?_) (C_forged (sc := sc) (d := 1) hk h ))
  obtain ⟨x, rfl, hm1, hx⟩ := q
  refine ⟨x, rfl, ?_⟩
  show bm_G sc 14 287 1180 lv [.int x] B1 Q
  refine g_ald (pc' := 1181) cd_L28 rfl (Or.inr ⟨_, rfl, rfl, rfl⟩) l2 rfl rfl ?_
  refine g_calli (pc' := 1184) cd_L28 rfl rfl rfl rfl rfl (tm_invV rfl rfl cd_Mo_forged rfl (Nat.le_of_ble_eq_true rfl) (by decide) hm1.1 hm1.2) (g_mono (fun r B2 q => ?_) hx)
  obtain ⟨z, rfl, hz, hJ⟩ := q
  refine ⟨z, rfl, ?_⟩
  show bm_G sc 14 287 1184 lv [.int z, .int x] B2 Q
  refine g_if2 (t := 1215) (pc' := 1187) cd_L28 rfl rfl rfl (fun _ => kk B2 hJ) (fun c => absurd hz c)
set_option maxRecDepth 100000 in
theorem law_doubled {sc : tm_X} {N S k : Nat} {lv : tm_L} {B : bm_H} {Q : Option Value → bm_H → Prop} (h : JI N S k B) (hk : k < 64) (hs : 5 * k + 5 ≤ sc.1) (h3 : sc.1 ≤ 320) (l0 : lv.lookup 0 = some (.retAddr 0)) (l1 : lv.lookup 1 = some (.ref 0)) (l2 : lv.lookup 2 = some (.ref 1482)) (l3 : lv.lookup 3 = some (.int (nI (5 * k)))) (kk : LQ sc N S k lv Q) : bm_G sc 14 287 1189 lv [] B Q := by
  have hm := J_mos h
  refine g_ald (pc' := 1190) cd_L29 rfl (Or.inr ⟨_, rfl, rfl, rfl⟩) l1 rfl rfl ?_
  refine g_calli (pc' := 1193) cd_L29 rfl rfl rfl rfl rfl (tm_invV rfl rfl cd_Ho_doubled rfl (Nat.le_of_ble_eq_true rfl) (by decide) hm.1.1 hm.1.2) (g_mono (fun r B1 q => ?_) (C_doubled (sc := sc) (d := 1) hk h ))
  obtain ⟨x, rfl, hm1, hx⟩ := q
  refine ⟨x, rfl, ?_⟩
  show bm_G sc 14 287 1193 lv [.int x] B1 Q
  refine g_ald (pc' := 1194) cd_L29 rfl (Or.inr ⟨_, rfl, rfl, rfl⟩) l2 rfl rfl ?_
  refine g_calli (pc' := 1197) cd_L29 rfl rfl rfl rfl rfl (tm_invV rfl rfl cd_Mo_doubled rfl (Nat.le_of_ble_eq_true rfl) (by decide) hm1.1 hm1.2) (g_mono (fun r B2 q => ?_) hx)
  obtain ⟨z, rfl, hz, hJ⟩ := q
  refine ⟨z, rfl, ?_⟩
  show bm_G sc 14 287 1197 lv [.int z, .int x] B2 Q
  refine g_if2 (t := 1215) (pc' := 1200) cd_L29 rfl rfl rfl (fun _ => kk B2 hJ) (fun c => absurd hz c)
set_option maxRecDepth 100000 in
theorem law_leaked {sc : tm_X} {N S k : Nat} {lv : tm_L} {B : bm_H} {Q : Option Value → bm_H → Prop} (h : JI N S k B) (hk : k < 64) (hs : 5 * k + 5 ≤ sc.1) (h3 : sc.1 ≤ 320) (l0 : lv.lookup 0 = some (.retAddr 0)) (l1 : lv.lookup 1 = some (.ref 0)) (l2 : lv.lookup 2 = some (.ref 1482)) (l3 : lv.lookup 3 = some (.int (nI (5 * k)))) (kk : LQ sc N S k lv Q) : bm_G sc 14 287 1202 lv [] B Q := by
  have hm := J_mos h
  refine g_ald (pc' := 1203) cd_L30 rfl (Or.inr ⟨_, rfl, rfl, rfl⟩) l1 rfl rfl ?_
  refine g_calli (pc' := 1206) cd_L30 rfl rfl rfl rfl rfl (tm_invV rfl rfl cd_Ho_leaked rfl (Nat.le_of_ble_eq_true rfl) (by decide) hm.1.1 hm.1.2) (g_mono (fun r B1 q => ?_) (C_leaked (sc := sc) (d := 1) hk h ))
  obtain ⟨x, rfl, hm1, hx⟩ := q
  refine ⟨x, rfl, ?_⟩
  show bm_G sc 14 287 1206 lv [.int x] B1 Q
  refine g_ald (pc' := 1207) cd_L30 rfl (Or.inr ⟨_, rfl, rfl, rfl⟩) l2 rfl rfl ?_
  refine g_calli (pc' := 1210) cd_L30 rfl rfl rfl rfl rfl (tm_invV rfl rfl cd_Mo_leaked rfl (Nat.le_of_ble_eq_true rfl) (by decide) hm1.1 hm1.2) (g_mono (fun r B2 q => ?_) hx)
  obtain ⟨z, rfl, hz, hJ⟩ := q
  refine ⟨z, rfl, ?_⟩
  show bm_G sc 14 287 1210 lv [.int z, .int x] B2 Q
  refine g_if2 (t := 1215) (pc' := 1213) cd_L30 rfl rfl rfl (fun _ => kk B2 hJ) (fun c => absurd hz c)
