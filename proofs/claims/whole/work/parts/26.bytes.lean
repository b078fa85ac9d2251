/-! single bytes: held, before reading, stored -/
def cpy (σ : sg) (a0 sp a1 dp k : Nat) : sg := fun a j => if a = a1 ∧ dp ≤ j ∧ j < dp + k then σ a0 (sp + (j - dp)) else σ a j
theorem sl_int {σ : sg} {a : Nat} (hF : ∀ j, j < sz a → isF a j) : (sl σ a).all hp_isI = true := by
  rw [List.all_eq_true]
  intro v hv
  obtain ⟨j, hj, rfl⟩ := List.mem_map.mp hv
  rw [vl_I (hF j (List.mem_range.mp hj)).1]
  rfl
theorem hs_ext {n : Nat} {σ τ : sg} (h : ∀ k, k < n → sl σ k = sl τ k) : hs n σ = hs n τ := by
  unfold hs
  apply List.map_congr_left
  intro k hk
  rw [h k (List.mem_range.mp hk)]
theorem vl_ext {σ τ : sg} {k i : Nat} (h : σ k i = τ k i) (h0 : ¬ k = 0) (h2 : ¬ k = 2) : vl σ k i = vl τ k i := by
  unfold vl
  rw [if_neg (fun q => h0 q.1), if_neg h2, if_neg (fun q => h0 q.1), if_neg h2, h]
/-- states that agree but in an array of ints from place 3 on -/
theorem hs_arr {n a : Nat} {σ τ : sg} (ha : a < n) (h3 : 3 ≤ a) (ht : ∀ b j, b ≠ a → τ b j = σ b j) : (hs n σ).set a (kd a, sl τ a) = hs n τ := by
  apply List.ext_getElem?
  intro k
  rw [List.getElem?_set, hs_len]
  by_cases e : a = k
  · subst e
    rw [if_pos rfl, if_pos ha, hs_get ha]
  · rw [if_neg e]
    by_cases hk : k < n
    · rw [hs_get hk, hs_get hk]
      congr 2
      unfold sl
      apply List.map_congr_left
      intro j _
      unfold vl
      rw [ht 0 j (by omega), ht 1 2 (by omega), ht k j (fun q => e q.symm)]
    · rw [List.getElem?_eq_none (by rw [hs_len]; omega), List.getElem?_eq_none (by rw [hs_len]; omega)]
theorem cp_hs {n a0 a1 sp dp k : Nat} {σ : sg} (h0 : a0 < n) (h1 : a1 < n) (k0 : kd a0 = 50) (k1 : kd a1 = 50) (z0 : sp + k ≤ sz a0) (z1 : dp + k ≤ sz a1) (hm : sz a0 < 1000 ∧ sz a1 < 1000) (F0 : ∀ j, j < sz a0 → isF a0 j) (F1 : ∀ j, j < sz a1 → isF a1 j) (h3 : 3 ≤ a1) : hp_cp (hs n σ) a0 (nI sp) a1 (nI dp) (nI k) = some (hs n (cpy σ a0 sp a1 dp k)) := by
  unfold hp_cp
  rw [hs_get h0, Option.bind_some, hs_get h1, Option.bind_some]
  have c1 : (nI sp).toNatClampNeg = sp := nI_clamp (by omega)
  have c2 : (nI dp).toNatClampNeg = dp := nI_clamp (by omega)
  have c3 : (nI k).toNatClampNeg = k := nI_clamp (by omega)
  rw [c1, c2, c3, if_pos ⟨k0, k1, nI_pos (by omega), nI_pos (by omega), nI_pos (by omega), by rw [sl_len]; exact z0, by rw [sl_len]; exact z1, sl_int F0⟩]
  congr 1
  rw [← hs_arr (σ := σ) (τ := cpy σ a0 sp a1 dp k) h1 h3 (fun b j hb => by unfold cpy; rw [if_neg (fun q => hb q.1)]), k1]
  congr 2
  apply List.ext_getElem?
  intro j
  unfold hp_cpl
  rw [sl_len]
  by_cases hj : j < sz a1
  · rw [List.getElem?_map, List.getElem?_range hj, sl_get hj, vl_I (F1 j hj).1]
    show some (va_cpy _ _ sp dp k j) = _
    unfold va_cpy cpy
    by_cases hin : dp ≤ j ∧ j < dp + k
    · rw [if_pos hin, if_pos ⟨rfl, hin⟩]
      dsimp only
      rw [List.getD_eq_getElem?_getD, sl_get (show sp + (j - dp) < sz a0 by omega), vl_I (F0 _ (by omega)).1]
      rfl
    · rw [if_neg hin, if_neg (fun q => hin q.2)]
      dsimp only
      rw [List.getD_eq_getElem?_getD, sl_get hj, vl_I (F1 j hj).1]
      rfl
  · rw [List.getElem?_eq_none (by simp; omega), List.getElem?_eq_none (by rw [sl_len]; omega)]
section BYT
variable {n s : Nat} {σ : sg}
theorem q_E_held_m {b : Nat} (h : okS n s) (hb : b < 128) : G_E_heldByte [.ref (sa s 3), .int (nI b), .int (-1)] (hs n σ) = some (σ (sa s 4) b, hs n σ) := by
  refine mI_e (Nat.le_of_ble_eq_true rfl) ?_
  unfold P_E_heldByte
  refine sSeq_r ((sIf_t (h1 := hs n σ) ?_).trans (sRI_e (x := σ (sa s 4) b) (h1 := hs n σ) ?_))
  · simp [e_fI, e_fLd, e_fLr, e_fB, e_fD, e_fC, e_fT, e_fAnd, e_fOr, e_fNot, e_fCC, e_fIf, e_gI, e_gR, e_aI, e_aR, e_aN, e_cV, e_cS, e_fNil, e_fAi, e_fAr, e_sSeq, e_sSkip, e_sSt, e_sSr, e_sInc, e_sRI, e_sRR, e_sRV, e_sIf, e_sCall, e_sPI, e_sPZ, e_sPR, e_sPO, e_sAI, e_sAZ, e_sAO, e_sAR, e_sPopI, e_sPopR, e_sCopy, e_mI, e_mZ, e_mR, e_mV, jx_L0, jAdd_n, jMul_n, z0, z1, List.replicate, jLt]
  · simp [e_fI, e_fLd, e_fLr, e_fB, e_fD, e_fC, e_fT, e_fAnd, e_fOr, e_fNot, e_fCC, e_fIf, e_gI, e_gR, e_aI, e_aR, e_aN, e_cV, e_cS, e_fNil, e_fAi, e_fAr, e_sSeq, e_sSkip, e_sSt, e_sSr, e_sInc, e_sRI, e_sRR, e_sRV, e_sIf, e_sCall, e_sPI, e_sPZ, e_sPR, e_sPO, e_sAI, e_sAZ, e_sAO, e_sAR, e_sPopI, e_sPopR, e_sCopy, e_mI, e_mZ, e_mR, e_mV, jx_L0, jAdd_n, jMul_n, z0, z1, List.replicate, gS3_0 h, iS4 h hb]
/-- what byte b of channel c holds -/
def hld (F : Nat → Int32) (fr dn : Nat → Nat → Int32) (c i : Nat) : Int32 := if jEq (F (32 + c * 4 + 2)) (nI 3) || jEq (F (32 + c * 4 + 2)) (nI 1) then dn c i else fr c i
theorem q_E_held {b c p : Nat} (h : okS n s) (hc : c < 4) (hp : σ (sa s 4) (32 + c * 4) = nI p) (h1 : p ≤ b) (h2 : b < p + 8) (hb : b < 128) : G_E_heldByte [.ref (sa s 3), .int (nI b), .int (nI c)] (hs n σ) = some (hld (σ (sa s 4)) (fun c => σ (sa s (6 + c))) (fun c => σ (sa s (11 + c))) c (b - p), hs n σ) := by
  refine mI_e (Nat.le_of_ble_eq_true rfl) ?_
  unfold P_E_heldByte
  have qs := q_E_startOf (σ := σ) h hc
  have qm := q_E_modeOf (σ := σ) h hc
  rw [hp] at qs
  have e3 : jSub (nI b) (nI p) = nI (b - p) := pk_sub h1
  rw [sSeq_l (L1 := [some (.ref (sa s 3)), some (.int (nI b)), some (.int (nI c)), none, none]) (h1 := hs n σ) ((sIf_f (h1 := hs n σ) (by simp [e_fI, e_fLd, e_fLr, e_fB, e_fD, e_fC, e_fT, e_fAnd, e_fOr, e_fNot, e_fCC, e_fIf, e_gI, e_gR, e_aI, e_aR, e_aN, e_cV, e_cS, e_fNil, e_fAi, e_fAr, e_sSeq, e_sSkip, e_sSt, e_sSr, e_sInc, e_sRI, e_sRR, e_sRV, e_sIf, e_sCall, e_sPI, e_sPZ, e_sPR, e_sPO, e_sAI, e_sAZ, e_sAO, e_sAR, e_sPopI, e_sPopR, e_sCopy, e_mI, e_mZ, e_mR, e_mV, jx_L0, jAdd_n, jMul_n, z0, z1, List.replicate, jLt, nI_pos (show c < 2 ^ 31 by omega)])).trans rfl)]
  rw [sSeq_l (L1 := [some (.ref (sa s 3)), some (.int (nI b)), some (.int (nI c)), some (.int (nI (b - p))), none]) (h1 := hs n σ) (by simp [e_fI, e_fLd, e_fLr, e_fB, e_fD, e_fC, e_fT, e_fAnd, e_fOr, e_fNot, e_fCC, e_fIf, e_gI, e_gR, e_aI, e_aR, e_aN, e_cV, e_cS, e_fNil, e_fAi, e_fAr, e_sSeq, e_sSkip, e_sSt, e_sSr, e_sInc, e_sRI, e_sRR, e_sRV, e_sIf, e_sCall, e_sPI, e_sPZ, e_sPR, e_sPO, e_sAI, e_sAZ, e_sAO, e_sAR, e_sPopI, e_sPopR, e_sCopy, e_mI, e_mZ, e_mR, e_mV, jx_L0, jAdd_n, jMul_n, z0, z1, kS3 h, qs, e3])]
  rw [sSeq_l (sSt_e (fIf_b (fOr_e (x := jEq (σ (sa s 4) (32 + c * 4 + 2)) (nI 3)) (y := jEq (σ (sa s 4) (32 + c * 4 + 2)) (nI 1)) (by simp [e_fI, e_fLd, e_fLr, e_fB, e_fD, e_fC, e_fT, e_fAnd, e_fOr, e_fNot, e_fCC, e_fIf, e_gI, e_gR, e_aI, e_aR, e_aN, e_cV, e_cS, e_fNil, e_fAi, e_fAr, e_sSeq, e_sSkip, e_sSt, e_sSr, e_sInc, e_sRI, e_sRR, e_sRV, e_sIf, e_sCall, e_sPI, e_sPZ, e_sPR, e_sPO, e_sAI, e_sAZ, e_sAO, e_sAR, e_sPopI, e_sPopR, e_sCopy, e_mI, e_mZ, e_mR, e_mV, jx_L0, jAdd_n, jMul_n, z0, z1, kS3 h, qm]) (by simp [e_fI, e_fLd, e_fLr, e_fB, e_fD, e_fC, e_fT, e_fAnd, e_fOr, e_fNot, e_fCC, e_fIf, e_gI, e_gR, e_aI, e_aR, e_aN, e_cV, e_cS, e_fNil, e_fAi, e_fAr, e_sSeq, e_sSkip, e_sSt, e_sSr, e_sInc, e_sRI, e_sRR, e_sRV, e_sIf, e_sCall, e_sPI, e_sPZ, e_sPR, e_sPO, e_sAI, e_sAZ, e_sAO, e_sAR, e_sPopI, e_sPopR, e_sCopy, e_mI, e_mZ, e_mR, e_mV, jx_L0, jAdd_n, jMul_n, z0, z1, kS3 h, qm]))))]
  refine sRI_e ?_
  unfold hld
  cases hx : jEq (σ (sa s 4) (32 + c * 4 + 2)) (nI 3) || jEq (σ (sa s 4) (32 + c * 4 + 2)) (nI 1)
  · simp [e_fI, e_fLd, e_fLr, e_fB, e_fD, e_fC, e_fT, e_fAnd, e_fOr, e_fNot, e_fCC, e_fIf, e_gI, e_gR, e_aI, e_aR, e_aN, e_cV, e_cS, e_fNil, e_fAi, e_fAr, e_sSeq, e_sSkip, e_sSt, e_sSr, e_sInc, e_sRI, e_sRR, e_sRV, e_sIf, e_sCall, e_sPI, e_sPZ, e_sPR, e_sPO, e_sAI, e_sAZ, e_sAO, e_sAR, e_sPopI, e_sPopR, e_sCopy, e_mI, e_mZ, e_mR, e_mV, jx_L0, jAdd_n, jMul_n, z0, z1, bI, jNe, gS3_1 h, iS5 h hc, i_fr h hc (show b - p < 8 by omega)]
  · simp [e_fI, e_fLd, e_fLr, e_fB, e_fD, e_fC, e_fT, e_fAnd, e_fOr, e_fNot, e_fCC, e_fIf, e_gI, e_gR, e_aI, e_aR, e_aN, e_cV, e_cS, e_fNil, e_fAi, e_fAr, e_sSeq, e_sSkip, e_sSt, e_sSr, e_sInc, e_sRI, e_sRR, e_sRV, e_sIf, e_sCall, e_sPI, e_sPZ, e_sPR, e_sPO, e_sAI, e_sAZ, e_sAO, e_sAR, e_sPopI, e_sPopR, e_sCopy, e_mI, e_mZ, e_mR, e_mV, jx_L0, jAdd_n, jMul_n, z0, z1, bI, jNe, gS3_2 h, iS10 h hc, i_dn h hc (show b - p < 8 by omega)]
/-- before byte b of channel c is read -/
def bfr (σ : sg) (s c b : Nat) : sg := if σ (sa s 4) (32 + c * 4 + 2) = nI 1 then up σ (sa s 4) (48 + c) (nI 0) else if σ (sa s 4) (32 + c * 4 + 2) = 0 ∧ nI b = σ (sa s 4) (32 + c * 4) then cpy σ (sa s (11 + c)) 0 (sa s (6 + c)) 0 8 else σ
theorem cp_row {a0 a1 : Nat} (h : okS n s) (h0 : 6 ≤ a0 ∧ a0 < 10 ∨ 11 ≤ a0 ∧ a0 < 15) (h1 : 6 ≤ a1 ∧ a1 < 10 ∨ 11 ≤ a1 ∧ a1 < 15) : hp_cp (hs n σ) (sa s a0) (nI 0) (sa s a1) (nI 0) (nI 8) = some (hs n (cpy σ (sa s a0) 0 (sa s a1) 0 8)) := by
  have hk : ∀ a, (6 ≤ a ∧ a < 10 ∨ 11 ≤ a ∧ a < 15) → kd_S.getD a 99 = 50 ∧ sz_S.getD a 0 = 8 ∧ rt_S.getD a [] = [] := fun a ha => by
    have : a = 6 ∨ a = 7 ∨ a = 8 ∨ a = 9 ∨ a = 11 ∨ a = 12 ∨ a = 13 ∨ a = 14 := by omega
    rcases this with rfl | rfl | rfl | rfl | rfl | rfl | rfl | rfl <;> decide
  have z0 : sz (sa s a0) = 8 := by rw [sa, ss (by omega)]; exact (hk a0 h0).2.1
  have z1 : sz (sa s a1) = 8 := by rw [sa, ss (by omega)]; exact (hk a1 h1).2.1
  exact cp_hs (sa_lt h (by omega)) (sa_lt h (by omega)) (by rw [sa, ks (by omega)]; exact (hk a0 h0).1) (by rw [sa, ks (by omega)]; exact (hk a1 h1).1) (by omega) (by omega) (by omega) (fun j _ => cS_I (by omega) (rS_n (hk a0 h0).2.2)) (fun j _ => cS_I (by omega) (rS_n (hk a1 h1).2.2)) (by have := sa_ge s a1; omega)
theorem sCopy_e {g : jx_fA} {L : hp_L} {h h1 h2 : hp_H} {a0 a1 : Nat} {sp dp k : Int32} (e : g L h = some ([.ref a0, .int sp, .ref a1, .int dp, .int k], h1)) (e2 : hp_cp h1 a0 sp a1 dp k = some h2) : sCopy g L h = some (.inl (L, h2)) := by
  rw [e_sCopy, e, Option.bind_some]
  show (hp_cp h1 a0 sp a1 dp k).bind _ = _
  rw [e2]
  rfl
theorem q_E_beforeReading {b c : Nat} (h : okS n s) (hc : c < 4) : G_E_beforeReading [.ref (sa s 3), .int (nI b), .int (nI c)] (hs n σ) = some (hs n (bfr σ s c b)) := by
  refine mV_e (Nat.le_of_ble_eq_true rfl) ?_
  unfold P_E_beforeReading
  have qs := q_E_startOf (σ := σ) h hc
  have qm := q_E_modeOf (σ := σ) h hc
  show sSeq _ _ [some (.ref (sa s 3)), some (.int (nI b)), some (.int (nI c))] (hs n σ) = _
  have c1 : fC jEq (cV 5 (fAr (fLr 0) (fAi (fLd 2) (fNil))) G_E_modeOf) (fI (nI 1)) [some (.ref (sa s 3)), some (.int (nI b)), some (.int (nI c))] (hs n σ) = some (jEq (σ (sa s 4) (32 + c * 4 + 2)) (nI 1), hs n σ) := by
    simp [e_fI, e_fLd, e_fLr, e_fB, e_fD, e_fC, e_fT, e_fAnd, e_fOr, e_fNot, e_fCC, e_fIf, e_gI, e_gR, e_aI, e_aR, e_aN, e_cV, e_cS, e_fNil, e_fAi, e_fAr, e_sSeq, e_sSkip, e_sSt, e_sSr, e_sInc, e_sRI, e_sRR, e_sRV, e_sIf, e_sCall, e_sPI, e_sPZ, e_sPR, e_sPO, e_sAI, e_sAZ, e_sAO, e_sAR, e_sPopI, e_sPopR, e_sCopy, e_mI, e_mZ, e_mR, e_mV, jx_L0, jAdd_n, jMul_n, z0, z1, kS3 h, qm]
  have c2 : fAnd (fC jEq (cV 5 (fAr (fLr 0) (fAi (fLd 2) (fNil))) G_E_modeOf) (fI 0)) (fC jEq (fLd 1) (cV 5 (fAr (fLr 0) (fAi (fLd 2) (fNil))) G_E_startOf)) [some (.ref (sa s 3)), some (.int (nI b)), some (.int (nI c))] (hs n σ) = some (jEq (σ (sa s 4) (32 + c * 4 + 2)) 0 && jEq (nI b) (σ (sa s 4) (32 + c * 4)), hs n σ) := fAnd_e (by simp [e_fI, e_fLd, e_fLr, e_fB, e_fD, e_fC, e_fT, e_fAnd, e_fOr, e_fNot, e_fCC, e_fIf, e_gI, e_gR, e_aI, e_aR, e_aN, e_cV, e_cS, e_fNil, e_fAi, e_fAr, e_sSeq, e_sSkip, e_sSt, e_sSr, e_sInc, e_sRI, e_sRR, e_sRV, e_sIf, e_sCall, e_sPI, e_sPZ, e_sPR, e_sPO, e_sAI, e_sAZ, e_sAO, e_sAR, e_sPopI, e_sPopR, e_sCopy, e_mI, e_mZ, e_mR, e_mV, jx_L0, jAdd_n, jMul_n, z0, z1, kS3 h, qm]) (by simp [e_fI, e_fLd, e_fLr, e_fB, e_fD, e_fC, e_fT, e_fAnd, e_fOr, e_fNot, e_fCC, e_fIf, e_gI, e_gR, e_aI, e_aR, e_aN, e_cV, e_cS, e_fNil, e_fAi, e_fAr, e_sSeq, e_sSkip, e_sSt, e_sSr, e_sInc, e_sRI, e_sRR, e_sRV, e_sIf, e_sCall, e_sPI, e_sPZ, e_sPR, e_sPO, e_sAI, e_sAZ, e_sAO, e_sAR, e_sPopI, e_sPopR, e_sCopy, e_mI, e_mZ, e_mR, e_mV, jx_L0, jAdd_n, jMul_n, z0, z1, kS3 h, qs])
  unfold bfr
  by_cases h1 : σ (sa s 4) (32 + c * 4 + 2) = nI 1
  · rw [if_pos h1]
    rw [jEq_t.mpr h1] at c1
    rw [sSeq_l (L1 := [some (.ref (sa s 3)), some (.int (nI b)), some (.int (nI c))]) (h1 := hs n (up σ (sa s 4) (48 + c) (nI 0))) ((sIf_t c1).trans (by simp [e_fI, e_fLd, e_fLr, e_fB, e_fD, e_fC, e_fT, e_fAnd, e_fOr, e_fNot, e_fCC, e_fIf, e_gI, e_gR, e_aI, e_aR, e_aN, e_cV, e_cS, e_fNil, e_fAi, e_fAr, e_sSeq, e_sSkip, e_sSt, e_sSr, e_sInc, e_sRI, e_sRR, e_sRV, e_sIf, e_sCall, e_sPI, e_sPZ, e_sPR, e_sPO, e_sAI, e_sAZ, e_sAO, e_sAR, e_sPopI, e_sPopR, e_sCopy, e_mI, e_mZ, e_mR, e_mV, jx_L0, jAdd_n, jMul_n, z0, z1, gS3_0 h, wS4 h (show 48 + c < 128 by omega)]))]
    rfl
  · rw [if_neg h1]
    rw [jEq_f.mpr h1] at c1
    by_cases h2 : σ (sa s 4) (32 + c * 4 + 2) = 0 ∧ nI b = σ (sa s 4) (32 + c * 4)
    · rw [if_pos h2]
      rw [jEq_t.mpr h2.1, jEq_t.mpr h2.2] at c2
      rw [sSeq_l (L1 := [some (.ref (sa s 3)), some (.int (nI b)), some (.int (nI c))]) (h1 := hs n (cpy σ (sa s (11 + c)) 0 (sa s (6 + c)) 0 8)) ((sIf_f c1).trans ((sIf_t c2).trans (sCopy_e (by simp [e_fI, e_fLd, e_fLr, e_fB, e_fD, e_fC, e_fT, e_fAnd, e_fOr, e_fNot, e_fCC, e_fIf, e_gI, e_gR, e_aI, e_aR, e_aN, e_cV, e_cS, e_fNil, e_fAi, e_fAr, e_sSeq, e_sSkip, e_sSt, e_sSr, e_sInc, e_sRI, e_sRR, e_sRV, e_sIf, e_sCall, e_sPI, e_sPZ, e_sPR, e_sPO, e_sAI, e_sAZ, e_sAO, e_sAR, e_sPopI, e_sPopR, e_sCopy, e_mI, e_mZ, e_mR, e_mV, jx_L0, jAdd_n, jMul_n, z0, z1, gS3_1 h, gS3_2 h, iS5 h hc, iS10 h hc]) (cp_row h (by omega) (by omega)))))]
      rfl
    · rw [if_neg h2]
      have c3 : (jEq (σ (sa s 4) (32 + c * 4 + 2)) 0 && jEq (nI b) (σ (sa s 4) (32 + c * 4))) = false := by
        by_cases q : σ (sa s 4) (32 + c * 4 + 2) = 0
        · rw [jEq_f.mpr (fun q2 => h2 ⟨q, q2⟩), Bool.and_false]
        · rw [jEq_f.mpr q, Bool.false_and]
      rw [c3] at c2
      rw [sSeq_l (L1 := [some (.ref (sa s 3)), some (.int (nI b)), some (.int (nI c))]) (h1 := hs n σ) ((sIf_f c1).trans ((sIf_f c2).trans rfl))]
      rfl
end BYT
