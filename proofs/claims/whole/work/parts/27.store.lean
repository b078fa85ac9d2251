/-! a byte is stored -/
theorem up_ne {σ : sg} {k i a : Nat} {x : Int32} (h : a ≠ k) : up σ k i x a = σ a := by
  funext j
  unfold up
  rw [if_neg (fun q => h q.1)]
theorem cpy_ne {σ : sg} {a0 sp a1 dp k a : Nat} (h : a ≠ a1) : cpy σ a0 sp a1 dp k a = σ a := by
  funext j
  unfold cpy
  rw [if_neg (fun q => h q.1)]
theorem clr_ne {σ : sg} {s c k a : Nat} (h1 : a ≠ sa s (6 + c)) (h2 : a ≠ sa s (11 + c)) : clr σ s c k a = σ a := by
  funext j
  unfold clr
  rw [if_neg (fun q => q.1.elim h1 h2)]
theorem sa_ne {s j j' : Nat} (h : j ≠ j') : sa s j ≠ sa s j' := by unfold sa; omega
section STO
variable {n s : Nat} {σ : sg}
def sic (σ : sg) (s c i q : Nat) (v : Int32) : sg :=
  if σ (sa s 4) (32 + c * 4 + 2) = nI 3 then up (up σ (sa s (11 + c)) i v) (sa s 4) (48 + c) (nI 1) else
  if i + 1 = q then (if c = 2 then up (up (up (cpy (up σ (sa s (6 + c)) i v) (sa s (6 + c)) 0 (sa s (11 + c)) 0 8) (sa s 15) c (nI 1)) (sa s 3) 8 (nI 1)) (sa s 3) 9 (nI 0) else up (cpy (up σ (sa s (6 + c)) i v) (sa s (6 + c)) 0 (sa s (11 + c)) 0 8) (sa s 15) c (nI 1)) else up σ (sa s (6 + c)) i v
theorem q_E_storeInChannel {b c p q : Nat} {v : Int32} (h : okS n s) (hc : c < 4) (hp : σ (sa s 4) (32 + c * 4) = nI p) (hq : σ (sa s 4) (32 + c * 4 + 1) = nI q) (h1 : p ≤ b) (h2 : b < p + 8) (hb : b < 128) (hq1 : 1 ≤ q) (hq8 : q ≤ 8) : G_E_storeInChannel [.ref (sa s 3), .int (nI b), .int (nI c), .int v] (hs n σ) = some (hs n (sic σ s c (b - p) q v)) := by
  refine mV_e (Nat.le_of_ble_eq_true rfl) ?_
  unfold P_E_storeInChannel
  have qs := q_E_startOf (σ := σ) h hc
  have qm := q_E_modeOf (σ := σ) h hc
  rw [hp] at qs
  have e3 : jSub (nI b) (nI p) = nI (b - p) := pk_sub h1
  have e4 : jSub (nI q) (nI 1) = nI (q - 1) := pk_sub hq1
  rw [sSeq_l (L1 := [some (.ref (sa s 3)), some (.int (nI b)), some (.int (nI c)), some (.int v), some (.int (nI (b - p)))]) (h1 := hs n σ) (by simp [e_fI, e_fLd, e_fLr, e_fB, e_fD, e_fC, e_fT, e_fAnd, e_fOr, e_fNot, e_fCC, e_fIf, e_gI, e_gR, e_aI, e_aR, e_aN, e_cV, e_cS, e_fNil, e_fAi, e_fAr, e_sSeq, e_sSkip, e_sSt, e_sSr, e_sInc, e_sRI, e_sRR, e_sRV, e_sIf, e_sCall, e_sPI, e_sPZ, e_sPR, e_sPO, e_sAI, e_sAZ, e_sAO, e_sAR, e_sPopI, e_sPopR, e_sCopy, e_mI, e_mZ, e_mR, e_mV, jx_L0, jAdd_n, jMul_n, z0, z1, List.replicate, kS3 h, qs, e3])]
  have c1 : fC jEq (cV 5 (fAr (fLr 0) (fAi (fLd 2) (fNil))) G_E_modeOf) (fI (nI 3)) [some (.ref (sa s 3)), some (.int (nI b)), some (.int (nI c)), some (.int v), some (.int (nI (b - p)))] (hs n σ) = some (jEq (σ (sa s 4) (32 + c * 4 + 2)) (nI 3), hs n σ) := by
    simp [e_fI, e_fLd, e_fLr, e_fB, e_fD, e_fC, e_fT, e_fAnd, e_fOr, e_fNot, e_fCC, e_fIf, e_gI, e_gR, e_aI, e_aR, e_aN, e_cV, e_cS, e_fNil, e_fAi, e_fAr, e_sSeq, e_sSkip, e_sSt, e_sSr, e_sInc, e_sRI, e_sRR, e_sRV, e_sIf, e_sCall, e_sPI, e_sPZ, e_sPR, e_sPO, e_sAI, e_sAZ, e_sAO, e_sAR, e_sPopI, e_sPopR, e_sCopy, e_mI, e_mZ, e_mR, e_mV, jx_L0, jAdd_n, jMul_n, z0, z1, kS3 h, qm]
  unfold sic
  by_cases hm : σ (sa s 4) (32 + c * 4 + 2) = nI 3
  · rw [if_pos hm]
    rw [jEq_t.mpr hm] at c1
    refine sSeq_r ((sIf_t c1).trans ?_)
    rw [sSeq_l (L1 := [some (.ref (sa s 3)), some (.int (nI b)), some (.int (nI c)), some (.int v), some (.int (nI (b - p)))]) (h1 := hs n (up σ (sa s (11 + c)) (b - p) v)) (by simp [e_fI, e_fLd, e_fLr, e_fB, e_fD, e_fC, e_fT, e_fAnd, e_fOr, e_fNot, e_fCC, e_fIf, e_gI, e_gR, e_aI, e_aR, e_aN, e_cV, e_cS, e_fNil, e_fAi, e_fAr, e_sSeq, e_sSkip, e_sSt, e_sSr, e_sInc, e_sRI, e_sRR, e_sRV, e_sIf, e_sCall, e_sPI, e_sPZ, e_sPR, e_sPO, e_sAI, e_sAZ, e_sAO, e_sAR, e_sPopI, e_sPopR, e_sCopy, e_mI, e_mZ, e_mR, e_mV, jx_L0, jAdd_n, jMul_n, z0, z1, gS3_2 h, iS10 h hc, w_dn h hc (show b - p < 8 by omega)])]
    rw [sSeq_l (L1 := [some (.ref (sa s 3)), some (.int (nI b)), some (.int (nI c)), some (.int v), some (.int (nI (b - p)))]) (h1 := hs n (up (up σ (sa s (11 + c)) (b - p) v) (sa s 4) (48 + c) (nI 1))) (by simp [e_fI, e_fLd, e_fLr, e_fB, e_fD, e_fC, e_fT, e_fAnd, e_fOr, e_fNot, e_fCC, e_fIf, e_gI, e_gR, e_aI, e_aR, e_aN, e_cV, e_cS, e_fNil, e_fAi, e_fAr, e_sSeq, e_sSkip, e_sSt, e_sSr, e_sInc, e_sRI, e_sRR, e_sRV, e_sIf, e_sCall, e_sPI, e_sPZ, e_sPR, e_sPO, e_sAI, e_sAZ, e_sAO, e_sAR, e_sPopI, e_sPopR, e_sCopy, e_mI, e_mZ, e_mR, e_mV, jx_L0, jAdd_n, jMul_n, z0, z1, gS3_0 h, wS4 h (show 48 + c < 128 by omega)])]
    rfl
  · rw [if_neg hm]
    rw [jEq_f.mpr hm] at c1
    rw [sSeq_l ((sIf_f c1).trans rfl)]
    rw [sSeq_l (L1 := [some (.ref (sa s 3)), some (.int (nI b)), some (.int (nI c)), some (.int v), some (.int (nI (b - p)))]) (h1 := hs n (up σ (sa s (6 + c)) (b - p) v)) (by simp [e_fI, e_fLd, e_fLr, e_fB, e_fD, e_fC, e_fT, e_fAnd, e_fOr, e_fNot, e_fCC, e_fIf, e_gI, e_gR, e_aI, e_aR, e_aN, e_cV, e_cS, e_fNil, e_fAi, e_fAr, e_sSeq, e_sSkip, e_sSt, e_sSr, e_sInc, e_sRI, e_sRR, e_sRV, e_sIf, e_sCall, e_sPI, e_sPZ, e_sPR, e_sPO, e_sAI, e_sAZ, e_sAO, e_sAR, e_sPopI, e_sPopR, e_sCopy, e_mI, e_mZ, e_mR, e_mV, jx_L0, jAdd_n, jMul_n, z0, z1, gS3_1 h, iS5 h hc, w_fr h hc (show b - p < 8 by omega)])]
    have ql := q_E_lengthOf (σ := up σ (sa s (6 + c)) (b - p) v) h hc
    rw [up_ne (sa_ne (by omega)), hq] at ql
    have c2 : fC jEq (fLd 4) (fB jSub (cV 5 (fAr (fLr 0) (fAi (fLd 2) (fNil))) G_E_lengthOf) (fI (nI 1))) [some (.ref (sa s 3)), some (.int (nI b)), some (.int (nI c)), some (.int v), some (.int (nI (b - p)))] (hs n (up σ (sa s (6 + c)) (b - p) v)) = some (jEq (nI (b - p)) (nI (q - 1)), hs n (up σ (sa s (6 + c)) (b - p) v)) := by
      simp [e_fI, e_fLd, e_fLr, e_fB, e_fD, e_fC, e_fT, e_fAnd, e_fOr, e_fNot, e_fCC, e_fIf, e_gI, e_gR, e_aI, e_aR, e_aN, e_cV, e_cS, e_fNil, e_fAi, e_fAr, e_sSeq, e_sSkip, e_sSt, e_sSr, e_sInc, e_sRI, e_sRR, e_sRV, e_sIf, e_sCall, e_sPI, e_sPZ, e_sPR, e_sPO, e_sAI, e_sAZ, e_sAO, e_sAR, e_sPopI, e_sPopR, e_sCopy, e_mI, e_mZ, e_mR, e_mV, jx_L0, jAdd_n, jMul_n, z0, z1, kS3 h, ql, e4]
    by_cases hlast : b - p + 1 = q
    · rw [if_pos hlast]
      rw [jEq_t.mpr (by rw [show b - p = q - 1 by omega])] at c2
      have hcp := cp_row (σ := up σ (sa s (6 + c)) (b - p) v) (a0 := 6 + c) (a1 := 11 + c) h (by omega) (by omega)
      have c3 : fC jEq (fLd 2) (fI (nI 2)) [some (.ref (sa s 3)), some (.int (nI b)), some (.int (nI c)), some (.int v), some (.int (nI (b - p)))] (hs n (up (cpy (up σ (sa s (6 + c)) (b - p) v) (sa s (6 + c)) 0 (sa s (11 + c)) 0 8) (sa s 15) c (nI 1))) = some (decide (c = 2), hs n (up (cpy (up σ (sa s (6 + c)) (b - p) v) (sa s (6 + c)) 0 (sa s (11 + c)) 0 8) (sa s 15) c (nI 1))) := by
        simp [e_fI, e_fLd, e_fLr, e_fB, e_fD, e_fC, e_fT, e_fAnd, e_fOr, e_fNot, e_fCC, e_fIf, e_gI, e_gR, e_aI, e_aR, e_aN, e_cV, e_cS, e_fNil, e_fAi, e_fAr, e_sSeq, e_sSkip, e_sSt, e_sSr, e_sInc, e_sRI, e_sRR, e_sRV, e_sIf, e_sCall, e_sPI, e_sPZ, e_sPR, e_sPO, e_sAI, e_sAZ, e_sAO, e_sAR, e_sPopI, e_sPopR, e_sCopy, e_mI, e_mZ, e_mR, e_mV, jx_L0, jAdd_n, jMul_n, z0, z1, jEq, nI_eq (show c < 2 ^ 31 by omega) (show 2 < 2 ^ 31 by omega)]
      have hthen : ∀ g, sSeq (sIf (fC jEq (fLd 4) (fB jSub (cV 5 (fAr (fLr 0) (fAi (fLd 2) (fNil))) G_E_lengthOf) (fI (nI 1)))) (sSeq (sCopy (fAr (aR 54 (gR 5 1 (fLr 0)) (fLd 2)) (fAi (fI (nI 0)) (fAr (aR 54 (gR 5 2 (fLr 0)) (fLd 2)) (fAi (fI (nI 0)) (fAi (fI (nI 8)) (fNil))))))) (sSeq (sAZ (gR 5 3 (fLr 0)) (fLd 2) (fI (nI 1))) (sIf (fC jEq (fLd 2) (fI (nI 2))) g sSkip))) sSkip) sRV [some (.ref (sa s 3)), some (.int (nI b)), some (.int (nI c)), some (.int v), some (.int (nI (b - p)))] (hs n (up σ (sa s (6 + c)) (b - p) v)) = sSeq (sIf (fC jEq (fLd 2) (fI (nI 2))) g sSkip) sRV [some (.ref (sa s 3)), some (.int (nI b)), some (.int (nI c)), some (.int v), some (.int (nI (b - p)))] (hs n (up (cpy (up σ (sa s (6 + c)) (b - p) v) (sa s (6 + c)) 0 (sa s (11 + c)) 0 8) (sa s 15) c (nI 1))) := fun g => by
        rw [e_sSeq, sIf_t c2, sSeq_l (sCopy_e (by simp [e_fI, e_fLd, e_fLr, e_fB, e_fD, e_fC, e_fT, e_fAnd, e_fOr, e_fNot, e_fCC, e_fIf, e_gI, e_gR, e_aI, e_aR, e_aN, e_cV, e_cS, e_fNil, e_fAi, e_fAr, e_sSeq, e_sSkip, e_sSt, e_sSr, e_sInc, e_sRI, e_sRR, e_sRV, e_sIf, e_sCall, e_sPI, e_sPZ, e_sPR, e_sPO, e_sAI, e_sAZ, e_sAO, e_sAR, e_sPopI, e_sPopR, e_sCopy, e_mI, e_mZ, e_mR, e_mV, jx_L0, jAdd_n, jMul_n, z0, z1, gS3_1 h, gS3_2 h, iS5 h hc, iS10 h hc]) hcp), sSeq_l (L1 := [some (.ref (sa s 3)), some (.int (nI b)), some (.int (nI c)), some (.int v), some (.int (nI (b - p)))]) (h1 := hs n (up (cpy (up σ (sa s (6 + c)) (b - p) v) (sa s (6 + c)) 0 (sa s (11 + c)) 0 8) (sa s 15) c (nI 1))) (by simp [e_fI, e_fLd, e_fLr, e_fB, e_fD, e_fC, e_fT, e_fAnd, e_fOr, e_fNot, e_fCC, e_fIf, e_gI, e_gR, e_aI, e_aR, e_aN, e_cV, e_cS, e_fNil, e_fAi, e_fAr, e_sSeq, e_sSkip, e_sSt, e_sSr, e_sInc, e_sRI, e_sRR, e_sRV, e_sIf, e_sCall, e_sPI, e_sPZ, e_sPR, e_sPO, e_sAI, e_sAZ, e_sAO, e_sAR, e_sPopI, e_sPopR, e_sCopy, e_mI, e_mZ, e_mR, e_mV, jx_L0, jAdd_n, jMul_n, z0, z1, gS3_3 h, wS15 h hc])]
        rfl
      rw [hthen]
      by_cases h2c : c = 2
      · rw [if_pos h2c]
        rw [decide_eq_true h2c] at c3
        rw [sSeq_l (L1 := [some (.ref (sa s 3)), some (.int (nI b)), some (.int (nI c)), some (.int v), some (.int (nI (b - p)))]) (h1 := hs n (up (up (up (cpy (up σ (sa s (6 + c)) (b - p) v) (sa s (6 + c)) 0 (sa s (11 + c)) 0 8) (sa s 15) c (nI 1)) (sa s 3) 8 (nI 1)) (sa s 3) 9 (nI 0))) ((sIf_t c3).trans (by simp [e_fI, e_fLd, e_fLr, e_fB, e_fD, e_fC, e_fT, e_fAnd, e_fOr, e_fNot, e_fCC, e_fIf, e_gI, e_gR, e_aI, e_aR, e_aN, e_cV, e_cS, e_fNil, e_fAi, e_fAr, e_sSeq, e_sSkip, e_sSt, e_sSr, e_sInc, e_sRI, e_sRR, e_sRV, e_sIf, e_sCall, e_sPI, e_sPZ, e_sPR, e_sPO, e_sAI, e_sAZ, e_sAO, e_sAR, e_sPopI, e_sPopR, e_sCopy, e_mI, e_mZ, e_mR, e_mV, jx_L0, jAdd_n, jMul_n, z0, z1, pS3_8 h, pS3_9 h]))]
        rfl
      · rw [if_neg h2c]
        rw [decide_eq_false h2c] at c3
        rw [sSeq_l ((sIf_f c3).trans rfl)]
        rfl
    · rw [if_neg hlast]
      rw [jEq_f.mpr (nI_ne (by omega) (by omega) (by omega))] at c2
      rw [sSeq_l ((sIf_f c2).trans rfl)]
      rfl
/-- a byte that no channel has -/
def spl (σ : sg) (s b : Nat) (v : Int32) : sg := if b = 2 ∨ b = 3 ∨ 48 ≤ b ∧ b < 52 then σ else if b = 1 then up (up σ (sa s 4) b v) (sa s 3) 7 (nI 1) else if 32 ≤ b ∧ b < 48 then up (up (clr (up σ (sa s 4) b v) s ((b - 32) / 4) 8) (sa s 15) ((b - 32) / 4) (nI 0)) (sa s 4) (48 + (b - 32) / 4) (nI 0) else up σ (sa s 4) b v
theorem q_E_storePlain {b : Nat} {v : Int32} (h : okS n s) (hb : b < 128) : G_E_storePlain [.ref (sa s 3), .int (nI b), .int v] (hs n σ) = some (hs n (spl σ s b v)) := by
  refine mV_e (Nat.le_of_ble_eq_true rfl) ?_
  unfold P_E_storePlain
  show sSeq _ _ [some (.ref (sa s 3)), some (.int (nI b)), some (.int v)] (hs n σ) = _
  have hn : ∀ k, k < 1000 → (jEq (nI b) (nI k) = decide (b = k)) ∧ (jGe (nI b) (nI k) = decide (k ≤ b)) ∧ jLt (nI b) (nI k) = decide (b < k) := fun k hk => by
    refine ⟨?_, ?_, ?_⟩
    · unfold jEq; exact decide_eq_decide.mpr (nI_eq (by omega) (by omega))
    · unfold jGe; exact decide_eq_decide.mpr (nI_leI (by omega) (by omega))
    · unfold jLt; exact decide_eq_decide.mpr (nI_ltI (by omega) (by omega))
  have c1 : ∀ τ, fOr (fOr (fC jEq (fLd 1) (fI (nI 2))) (fC jEq (fLd 1) (fI (nI 3)))) (fAnd (fC jGe (fLd 1) (fI (nI 48))) (fC jLt (fLd 1) (fI (nI 52)))) [some (.ref (sa s 3)), some (.int (nI b)), some (.int v)] (hs n τ) = some ((decide (b = 2) || decide (b = 3)) || (decide (48 ≤ b) && decide (b < 52)), hs n τ) := fun τ => fOr_e (fOr_e (by simp [e_fI, e_fLd, e_fLr, e_fB, e_fD, e_fC, e_fT, e_fAnd, e_fOr, e_fNot, e_fCC, e_fIf, e_gI, e_gR, e_aI, e_aR, e_aN, e_cV, e_cS, e_fNil, e_fAi, e_fAr, e_sSeq, e_sSkip, e_sSt, e_sSr, e_sInc, e_sRI, e_sRR, e_sRV, e_sIf, e_sCall, e_sPI, e_sPZ, e_sPR, e_sPO, e_sAI, e_sAZ, e_sAO, e_sAR, e_sPopI, e_sPopR, e_sCopy, e_mI, e_mZ, e_mR, e_mV, jx_L0, jAdd_n, jMul_n, z0, z1, hn]) (by simp [e_fI, e_fLd, e_fLr, e_fB, e_fD, e_fC, e_fT, e_fAnd, e_fOr, e_fNot, e_fCC, e_fIf, e_gI, e_gR, e_aI, e_aR, e_aN, e_cV, e_cS, e_fNil, e_fAi, e_fAr, e_sSeq, e_sSkip, e_sSt, e_sSr, e_sInc, e_sRI, e_sRR, e_sRV, e_sIf, e_sCall, e_sPI, e_sPZ, e_sPR, e_sPO, e_sAI, e_sAZ, e_sAO, e_sAR, e_sPopI, e_sPopR, e_sCopy, e_mI, e_mZ, e_mR, e_mV, jx_L0, jAdd_n, jMul_n, z0, z1, hn])) (fAnd_e (by simp [e_fI, e_fLd, e_fLr, e_fB, e_fD, e_fC, e_fT, e_fAnd, e_fOr, e_fNot, e_fCC, e_fIf, e_gI, e_gR, e_aI, e_aR, e_aN, e_cV, e_cS, e_fNil, e_fAi, e_fAr, e_sSeq, e_sSkip, e_sSt, e_sSr, e_sInc, e_sRI, e_sRR, e_sRV, e_sIf, e_sCall, e_sPI, e_sPZ, e_sPR, e_sPO, e_sAI, e_sAZ, e_sAO, e_sAR, e_sPopI, e_sPopR, e_sCopy, e_mI, e_mZ, e_mR, e_mV, jx_L0, jAdd_n, jMul_n, z0, z1, hn]) (by simp [e_fI, e_fLd, e_fLr, e_fB, e_fD, e_fC, e_fT, e_fAnd, e_fOr, e_fNot, e_fCC, e_fIf, e_gI, e_gR, e_aI, e_aR, e_aN, e_cV, e_cS, e_fNil, e_fAi, e_fAr, e_sSeq, e_sSkip, e_sSt, e_sSr, e_sInc, e_sRI, e_sRR, e_sRV, e_sIf, e_sCall, e_sPI, e_sPZ, e_sPR, e_sPO, e_sAI, e_sAZ, e_sAO, e_sAR, e_sPopI, e_sPopR, e_sCopy, e_mI, e_mZ, e_mR, e_mV, jx_L0, jAdd_n, jMul_n, z0, z1, hn]))
  have c2 : ∀ τ, fC jEq (fLd 1) (fI (nI 1)) [some (.ref (sa s 3)), some (.int (nI b)), some (.int v)] (hs n τ) = some (decide (b = 1), hs n τ) := fun τ => by simp [e_fI, e_fLd, e_fLr, e_fB, e_fD, e_fC, e_fT, e_fAnd, e_fOr, e_fNot, e_fCC, e_fIf, e_gI, e_gR, e_aI, e_aR, e_aN, e_cV, e_cS, e_fNil, e_fAi, e_fAr, e_sSeq, e_sSkip, e_sSt, e_sSr, e_sInc, e_sRI, e_sRR, e_sRV, e_sIf, e_sCall, e_sPI, e_sPZ, e_sPR, e_sPO, e_sAI, e_sAZ, e_sAO, e_sAR, e_sPopI, e_sPopR, e_sCopy, e_mI, e_mZ, e_mR, e_mV, jx_L0, jAdd_n, jMul_n, z0, z1, hn]
  have c3 : ∀ τ, fAnd (fC jGe (fLd 1) (fI (nI 32))) (fC jLt (fLd 1) (fI (nI 48))) [some (.ref (sa s 3)), some (.int (nI b)), some (.int v)] (hs n τ) = some (decide (32 ≤ b) && decide (b < 48), hs n τ) := fun τ => fAnd_e (by simp [e_fI, e_fLd, e_fLr, e_fB, e_fD, e_fC, e_fT, e_fAnd, e_fOr, e_fNot, e_fCC, e_fIf, e_gI, e_gR, e_aI, e_aR, e_aN, e_cV, e_cS, e_fNil, e_fAi, e_fAr, e_sSeq, e_sSkip, e_sSt, e_sSr, e_sInc, e_sRI, e_sRR, e_sRV, e_sIf, e_sCall, e_sPI, e_sPZ, e_sPR, e_sPO, e_sAI, e_sAZ, e_sAO, e_sAR, e_sPopI, e_sPopR, e_sCopy, e_mI, e_mZ, e_mR, e_mV, jx_L0, jAdd_n, jMul_n, z0, z1, hn]) (by simp [e_fI, e_fLd, e_fLr, e_fB, e_fD, e_fC, e_fT, e_fAnd, e_fOr, e_fNot, e_fCC, e_fIf, e_gI, e_gR, e_aI, e_aR, e_aN, e_cV, e_cS, e_fNil, e_fAi, e_fAr, e_sSeq, e_sSkip, e_sSt, e_sSr, e_sInc, e_sRI, e_sRR, e_sRV, e_sIf, e_sCall, e_sPI, e_sPZ, e_sPR, e_sPO, e_sAI, e_sAZ, e_sAO, e_sAR, e_sPopI, e_sPopR, e_sCopy, e_mI, e_mZ, e_mR, e_mV, jx_L0, jAdd_n, jMul_n, z0, z1, hn])
  unfold spl
  by_cases h1 : b = 2 ∨ b = 3 ∨ 48 ≤ b ∧ b < 52
  · rw [if_pos h1]
    refine sSeq_r ((sIf_t (h1 := hs n σ) ?_).trans rfl)
    rw [c1, show ((decide (b = 2) || decide (b = 3)) || (decide (48 ≤ b) && decide (b < 52))) = true by simp; omega]
  · rw [if_neg h1]
    rw [sSeq_l ((sIf_f (h1 := hs n σ) (by rw [c1, show ((decide (b = 2) || decide (b = 3)) || (decide (48 ≤ b) && decide (b < 52))) = false by simp; omega])).trans rfl)]
    rw [sSeq_l (L1 := [some (.ref (sa s 3)), some (.int (nI b)), some (.int v)]) (h1 := hs n (up σ (sa s 4) b v)) (by simp [e_fI, e_fLd, e_fLr, e_fB, e_fD, e_fC, e_fT, e_fAnd, e_fOr, e_fNot, e_fCC, e_fIf, e_gI, e_gR, e_aI, e_aR, e_aN, e_cV, e_cS, e_fNil, e_fAi, e_fAr, e_sSeq, e_sSkip, e_sSt, e_sSr, e_sInc, e_sRI, e_sRR, e_sRV, e_sIf, e_sCall, e_sPI, e_sPZ, e_sPR, e_sPO, e_sAI, e_sAZ, e_sAO, e_sAR, e_sPopI, e_sPopR, e_sCopy, e_mI, e_mZ, e_mR, e_mV, jx_L0, jAdd_n, jMul_n, z0, z1, gS3_0 h, wS4 h hb])]
    by_cases h2 : b = 1
    · rw [if_pos h2]
      rw [sSeq_l (L1 := [some (.ref (sa s 3)), some (.int (nI b)), some (.int v)]) (h1 := hs n (up (up σ (sa s 4) b v) (sa s 3) 7 (nI 1))) ((sIf_t (h1 := hs n (up σ (sa s 4) b v)) (by rw [c2, decide_eq_true h2])).trans (by simp [e_fI, e_fLd, e_fLr, e_fB, e_fD, e_fC, e_fT, e_fAnd, e_fOr, e_fNot, e_fCC, e_fIf, e_gI, e_gR, e_aI, e_aR, e_aN, e_cV, e_cS, e_fNil, e_fAi, e_fAr, e_sSeq, e_sSkip, e_sSt, e_sSr, e_sInc, e_sRI, e_sRR, e_sRV, e_sIf, e_sCall, e_sPI, e_sPZ, e_sPR, e_sPO, e_sAI, e_sAZ, e_sAO, e_sAR, e_sPopI, e_sPopR, e_sCopy, e_mI, e_mZ, e_mR, e_mV, jx_L0, jAdd_n, jMul_n, z0, z1, pS3_7 h]))]
      rw [sSeq_l ((sIf_f (h1 := hs n (up (up σ (sa s 4) b v) (sa s 3) 7 (nI 1))) (by rw [c3, show (decide (32 ≤ b) && decide (b < 48)) = false by simp; omega])).trans rfl)]
      rfl
    · rw [if_neg h2]
      rw [sSeq_l ((sIf_f (h1 := hs n (up σ (sa s 4) b v)) (by rw [c2, decide_eq_false h2])).trans rfl)]
      by_cases h3 : 32 ≤ b ∧ b < 48
      · rw [if_pos h3]
        have e1 : jSub (nI b) (nI 32) = nI (b - 32) := pk_sub h3.1
        have e2 : jDiv (nI (b - 32)) (nI 4) = nI ((b - 32) / 4) := pk_div (by omega) (by decide) (by decide)
        have e0 : ¬ nI 4 = 0 := by decide
        have qc := q_E_clearChannel (σ := up σ (sa s 4) b v) h (show (b - 32) / 4 < 4 by omega)
        rw [sSeq_l (L1 := [some (.ref (sa s 3)), some (.int (nI b)), some (.int v)]) (h1 := hs n (up (up (clr (up σ (sa s 4) b v) s ((b - 32) / 4) 8) (sa s 15) ((b - 32) / 4) (nI 0)) (sa s 4) (48 + (b - 32) / 4) (nI 0))) ((sIf_t (h1 := hs n (up σ (sa s 4) b v)) (by rw [c3, show (decide (32 ≤ b) && decide (b < 48)) = true by simp; omega])).trans (by simp [e_fI, e_fLd, e_fLr, e_fB, e_fD, e_fC, e_fT, e_fAnd, e_fOr, e_fNot, e_fCC, e_fIf, e_gI, e_gR, e_aI, e_aR, e_aN, e_cV, e_cS, e_fNil, e_fAi, e_fAr, e_sSeq, e_sSkip, e_sSt, e_sSr, e_sInc, e_sRI, e_sRR, e_sRV, e_sIf, e_sCall, e_sPI, e_sPZ, e_sPR, e_sPO, e_sAI, e_sAZ, e_sAO, e_sAR, e_sPopI, e_sPopR, e_sCopy, e_mI, e_mZ, e_mR, e_mV, jx_L0, jAdd_n, jMul_n, z0, z1, e0, e1, e2, kS3 h, qc]))]
        rfl
      · rw [if_neg h3]
        rw [sSeq_l ((sIf_f (h1 := hs n (up σ (sa s 4) b v)) (by rw [c3, show (decide (32 ≤ b) && decide (b < 48)) = false by simp; omega])).trans rfl)]
        rfl
end STO
