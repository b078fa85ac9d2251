/-! the reference: a map of a station, from its beginning -/
section MAP4
variable {n s d : Nat} {σ : sg}
theorem q_R_map {m a k : Nat} {T : mpT} {C : Nat → Int32} {w : Int32} (h : okB n) (hs6 : s < 6) (hd : d < 9) (hm : m < 4) (hM : RM σ s d T) (hok : okA T.1) (hf : okF T.1) (hC : ∀ j, j < 8 → σ 51 j = C j) (ew : σ 44 d = w) (ea : σ 45 d = nI a) (ek : σ 47 d = nI k) (ha : a < 65536) (hk1 : 1 ≤ k) (hk : k ≤ 8) : ∃ τ, G_R_map [.ref 26, .int (nI s), .int (nI d), .int (nI m)] (hs n σ) = some (hs n τ) ∧ RM τ s d (mpA C w a k m T) ∧ FX (MC s d) σ τ := by
  have hM' := hM
  obtain ⟨hR, -⟩ := hM
  have e6 : 6 * m = m * 6 := Nat.mul_comm 6 m
  have b0 := mN_e (hok.1 (8 + m * 6) (by omega))
  have b1 := mN_e (hok.1 (8 + m * 6 + 1) (by omega))
  have b2 := mN_e (hok.1 (8 + m * 6 + 2) (by omega))
  have b3 := mN_e (hok.1 (8 + m * 6 + 3) (by omega))
  have b4 := mN_e (hok.1 (8 + m * 6 + 4) (by omega))
  have enb : T.1 4 (8 + m * 6 + 2) = nI (nB (T.1 4) m) := b2.1
  have hnb : nB (T.1 4) m < 256 := b2.2
  have hlg : lgB (T.1 4) m < 3000 := by unfold lgB; omega
  have hph : phB (T.1 4) m < 3000 := by unfold phB; omega
  have hlo : loB (T.1 4) m a < 600000 ∧ 8 * a ≤ loB (T.1 4) m a ∧ lgB (T.1 4) m ≤ loB (T.1 4) m a := by unfold loB; omega
  have hhi : hiB (T.1 4) m a k < 600000 ∧ hiB (T.1 4) m a k = min (lgB (T.1 4) m + nB (T.1 4) m) (8 * a + 8 * k) := by unfold hiB; omega
  have no : fnB (T.1 4) m a k = false → mpA C w a k m T = T := fun q => by unfold mpA; rw [q, if_neg Bool.false_ne_true]
  have n8 : ¬ nI 8 = 0 := by decide
  refine mV_s (Nat.le_of_ble_eq_true rfl) ?_
  simp only [jx_L0, List.map_cons, List.map_nil, List.length_cons, List.length_nil, Nat.reduceAdd, Nat.reduceSub, List.replicate, List.cons_append, List.nil_append]
  unfold P_R_map
  refine wSeq (wS_l (by simp only [e_fI, e_fLd, e_fLr, e_fB, e_fD, e_fC, e_fT, e_fAnd, e_fOr, e_fNot, e_fCC, e_fIf, e_gI, e_gR, e_aI, e_aR, e_aN, e_cV, e_cS, e_fNil, e_fAi, e_fAr, e_sSeq, e_sSkip, e_sSt, e_sSr, e_sInc, e_sRI, e_sRR, e_sRV, e_sIf, e_sCall, e_sPI, e_sPZ, e_sPR, e_sPO, e_sAI, e_sAZ, e_sAO, e_sAR, e_sPopI, e_sPopR, e_sCopy, e_mI, e_mZ, e_mR, e_mV, jAdd_n, jMul_n, z0, z1, Option.bind_some, List.getElem?_cons_zero, List.getElem?_cons_succ, List.set_cons_zero, List.set_cons_succ, eq_self, if_true, ite_and, ite_or, ite_I, ite_bI, ite_bJ, bI_ne, bI_01, List.cons_append, List.nil_append, Bool.false_eq_true, if_false, e6]; rfl) ?_)
  refine wSeq (wS_l (by simp only [e_fI, e_fLd, e_fLr, e_fB, e_fD, e_fC, e_fT, e_fAnd, e_fOr, e_fNot, e_fCC, e_fIf, e_gI, e_gR, e_aI, e_aR, e_aN, e_cV, e_cS, e_fNil, e_fAi, e_fAr, e_sSeq, e_sSkip, e_sSt, e_sSr, e_sInc, e_sRI, e_sRR, e_sRV, e_sIf, e_sCall, e_sPI, e_sPZ, e_sPR, e_sPO, e_sAI, e_sAZ, e_sAO, e_sAR, e_sPopI, e_sPopR, e_sCopy, e_mI, e_mZ, e_mR, e_mV, jAdd_n, jMul_n, z0, z1, Option.bind_some, List.getElem?_cons_zero, List.getElem?_cons_succ, List.set_cons_zero, List.set_cons_succ, eq_self, if_true, ite_and, ite_or, ite_I, ite_bI, ite_bJ, bI_ne, bI_01, List.cons_append, List.nil_append, Bool.false_eq_true, if_false, kT26 h, q_R_at h hR hs6 (show 8 + m * 6 + 2 < 128 by omega), enb]; rfl) ?_)
  refine wSeq (wIf (by simp only [e_fI, e_fLd, e_fLr, e_fB, e_fD, e_fC, e_fT, e_fAnd, e_fOr, e_fNot, e_fCC, e_fIf, e_gI, e_gR, e_aI, e_aR, e_aN, e_cV, e_cS, e_fNil, e_fAi, e_fAr, e_sSeq, e_sSkip, e_sSt, e_sSr, e_sInc, e_sRI, e_sRR, e_sRV, e_sIf, e_sCall, e_sPI, e_sPZ, e_sPR, e_sPO, e_sAI, e_sAZ, e_sAO, e_sAR, e_sPopI, e_sPopR, e_sCopy, e_mI, e_mZ, e_mR, e_mV, jAdd_n, jMul_n, z0, z1, Option.bind_some, List.getElem?_cons_zero, List.getElem?_cons_succ, List.set_cons_zero, List.set_cons_succ, eq_self, if_true, ite_and, ite_or, ite_I, ite_bI, ite_bJ, bI_ne, bI_01, List.cons_append, List.nil_append, Bool.false_eq_true, if_false, jLt, jGt, nI_ltI (show nB (T.1 4) m < 2 ^ 31 by omega) (show 1 < 2 ^ 31 by omega), nI_ltI (show 64 < 2 ^ 31 by omega) (show nB (T.1 4) m < 2 ^ 31 by omega)]; rfl) (fun hb => ?_) (fun hb => ?_))
  · rw [no (decide_eq_false (fun q => by
      rcases Bool.or_eq_true_iff.mp hb with c | c
      · have := of_decide_eq_true c; omega
      · have := of_decide_eq_true c; omega))]
    exact wS_r rfl ⟨rfl, σ, rfl, hM', FX.r _ σ⟩
  have c1 : 1 ≤ nB (T.1 4) m ∧ nB (T.1 4) m ≤ 64 := by
    have h1 := of_decide_eq_false (Bool.or_eq_false_iff.mp hb).1
    have h2 := of_decide_eq_false (Bool.or_eq_false_iff.mp hb).2
    omega
  clear hb
  refine wS_l rfl ?_
  have elg : 8 * mN (T.1 4) (8 + m * 6) + mN (T.1 4) (8 + m * 6 + 1) % 8 = lgB (T.1 4) m := rfl
  have eph : 8 * mN (T.1 4) (8 + m * 6 + 3) + mN (T.1 4) (8 + m * 6 + 4) % 8 = phB (T.1 4) m := rfl
  refine wSeq (wS_l (by simp only [e_fI, e_fLd, e_fLr, e_fB, e_fD, e_fC, e_fT, e_fAnd, e_fOr, e_fNot, e_fCC, e_fIf, e_gI, e_gR, e_aI, e_aR, e_aN, e_cV, e_cS, e_fNil, e_fAi, e_fAr, e_sSeq, e_sSkip, e_sSt, e_sSr, e_sInc, e_sRI, e_sRR, e_sRV, e_sIf, e_sCall, e_sPI, e_sPZ, e_sPR, e_sPO, e_sAI, e_sAZ, e_sAO, e_sAR, e_sPopI, e_sPopR, e_sCopy, e_mI, e_mZ, e_mR, e_mV, jAdd_n, jMul_n, z0, z1, Option.bind_some, List.getElem?_cons_zero, List.getElem?_cons_succ, List.set_cons_zero, List.set_cons_succ, eq_self, if_true, ite_and, ite_or, ite_I, ite_bI, ite_bJ, bI_ne, bI_01, List.cons_append, List.nil_append, Bool.false_eq_true, if_false, kT26 h, q_R_at h hR hs6 (show 8 + m * 6 < 128 by omega), q_R_at h hR hs6 (show 8 + m * 6 + 1 < 128 by omega), b0.1, b1.1, and7 (show mN (T.1 4) (8 + m * 6 + 1) < 2 ^ 31 by omega), elg]; rfl) ?_)
  refine wSeq (wS_l (by simp only [e_fI, e_fLd, e_fLr, e_fB, e_fD, e_fC, e_fT, e_fAnd, e_fOr, e_fNot, e_fCC, e_fIf, e_gI, e_gR, e_aI, e_aR, e_aN, e_cV, e_cS, e_fNil, e_fAi, e_fAr, e_sSeq, e_sSkip, e_sSt, e_sSr, e_sInc, e_sRI, e_sRR, e_sRV, e_sIf, e_sCall, e_sPI, e_sPZ, e_sPR, e_sPO, e_sAI, e_sAZ, e_sAO, e_sAR, e_sPopI, e_sPopR, e_sCopy, e_mI, e_mZ, e_mR, e_mV, jAdd_n, jMul_n, z0, z1, Option.bind_some, List.getElem?_cons_zero, List.getElem?_cons_succ, List.set_cons_zero, List.set_cons_succ, eq_self, if_true, ite_and, ite_or, ite_I, ite_bI, ite_bJ, bI_ne, bI_01, List.cons_append, List.nil_append, Bool.false_eq_true, if_false, kT26 h, q_R_at h hR hs6 (show 8 + m * 6 + 3 < 128 by omega), q_R_at h hR hs6 (show 8 + m * 6 + 4 < 128 by omega), b3.1, b4.1, and7 (show mN (T.1 4) (8 + m * 6 + 4) < 2 ^ 31 by omega), eph]; rfl) ?_)
  refine wSeq (wS_l (by simp only [e_fI, e_fLd, e_fLr, e_fB, e_fD, e_fC, e_fT, e_fAnd, e_fOr, e_fNot, e_fCC, e_fIf, e_gI, e_gR, e_aI, e_aR, e_aN, e_cV, e_cS, e_fNil, e_fAi, e_fAr, e_sSeq, e_sSkip, e_sSt, e_sSr, e_sInc, e_sRI, e_sRR, e_sRV, e_sIf, e_sCall, e_sPI, e_sPZ, e_sPR, e_sPO, e_sAI, e_sAZ, e_sAO, e_sAR, e_sPopI, e_sPopR, e_sCopy, e_mI, e_mZ, e_mR, e_mV, jAdd_n, jMul_n, z0, z1, Option.bind_some, List.getElem?_cons_zero, List.getElem?_cons_succ, List.set_cons_zero, List.set_cons_succ, eq_self, if_true, ite_and, ite_or, ite_I, ite_bI, ite_bJ, bI_ne, bI_01, List.cons_append, List.nil_append, Bool.false_eq_true, if_false, gT26_23 h, iT45 h hd, ea]; rfl) ?_)
  have elo : max (lgB (T.1 4) m) (8 * a) = loB (T.1 4) m a := rfl
  refine wSeq (wS_l (by simp only [e_fI, e_fLd, e_fLr, e_fB, e_fD, e_fC, e_fT, e_fAnd, e_fOr, e_fNot, e_fCC, e_fIf, e_gI, e_gR, e_aI, e_aR, e_aN, e_cV, e_cS, e_fNil, e_fAi, e_fAr, e_sSeq, e_sSkip, e_sSt, e_sSr, e_sInc, e_sRI, e_sRR, e_sRV, e_sIf, e_sCall, e_sPI, e_sPZ, e_sPR, e_sPO, e_sAI, e_sAZ, e_sAO, e_sAR, e_sPopI, e_sPopR, e_sCopy, e_mI, e_mZ, e_mR, e_mV, jAdd_n, jMul_n, z0, z1, Option.bind_some, List.getElem?_cons_zero, List.getElem?_cons_succ, List.set_cons_zero, List.set_cons_succ, eq_self, if_true, ite_and, ite_or, ite_I, ite_bI, ite_bJ, bI_ne, bI_01, List.cons_append, List.nil_append, Bool.false_eq_true, if_false, imax (show lgB (T.1 4) m < 2 ^ 31 by omega) (show 8 * a < 2 ^ 31 by omega), elo]; rfl) ?_)
  refine wSeq (wS_l (by simp only [e_fI, e_fLd, e_fLr, e_fB, e_fD, e_fC, e_fT, e_fAnd, e_fOr, e_fNot, e_fCC, e_fIf, e_gI, e_gR, e_aI, e_aR, e_aN, e_cV, e_cS, e_fNil, e_fAi, e_fAr, e_sSeq, e_sSkip, e_sSt, e_sSr, e_sInc, e_sRI, e_sRR, e_sRV, e_sIf, e_sCall, e_sPI, e_sPZ, e_sPR, e_sPO, e_sAI, e_sAZ, e_sAO, e_sAR, e_sPopI, e_sPopR, e_sCopy, e_mI, e_mZ, e_mR, e_mV, jAdd_n, jMul_n, z0, z1, Option.bind_some, List.getElem?_cons_zero, List.getElem?_cons_succ, List.set_cons_zero, List.set_cons_succ, eq_self, if_true, ite_and, ite_or, ite_I, ite_bI, ite_bJ, bI_ne, bI_01, List.cons_append, List.nil_append, Bool.false_eq_true, if_false, gT26_25 h, iT47 h hd, ek]; rfl) ?_)
  refine wSeq (wS_l (by simp only [e_fI, e_fLd, e_fLr, e_fB, e_fD, e_fC, e_fT, e_fAnd, e_fOr, e_fNot, e_fCC, e_fIf, e_gI, e_gR, e_aI, e_aR, e_aN, e_cV, e_cS, e_fNil, e_fAi, e_fAr, e_sSeq, e_sSkip, e_sSt, e_sSr, e_sInc, e_sRI, e_sRR, e_sRV, e_sIf, e_sCall, e_sPI, e_sPZ, e_sPR, e_sPO, e_sAI, e_sAZ, e_sAO, e_sAR, e_sPopI, e_sPopR, e_sCopy, e_mI, e_mZ, e_mR, e_mV, jAdd_n, jMul_n, z0, z1, Option.bind_some, List.getElem?_cons_zero, List.getElem?_cons_succ, List.set_cons_zero, List.set_cons_succ, eq_self, if_true, ite_and, ite_or, ite_I, ite_bI, ite_bJ, bI_ne, bI_01, List.cons_append, List.nil_append, Bool.false_eq_true, if_false, imin (show lgB (T.1 4) m + nB (T.1 4) m < 2 ^ 31 by omega) (show 8 * a + 8 * k < 2 ^ 31 by omega), ← hhi.2]; rfl) ?_)
  refine wSeq (wIf (by simp only [e_fI, e_fLd, e_fLr, e_fB, e_fD, e_fC, e_fT, e_fAnd, e_fOr, e_fNot, e_fCC, e_fIf, e_gI, e_gR, e_aI, e_aR, e_aN, e_cV, e_cS, e_fNil, e_fAi, e_fAr, e_sSeq, e_sSkip, e_sSt, e_sSr, e_sInc, e_sRI, e_sRR, e_sRV, e_sIf, e_sCall, e_sPI, e_sPZ, e_sPR, e_sPO, e_sAI, e_sAZ, e_sAO, e_sAR, e_sPopI, e_sPopR, e_sCopy, e_mI, e_mZ, e_mR, e_mV, jAdd_n, jMul_n, z0, z1, Option.bind_some, List.getElem?_cons_zero, List.getElem?_cons_succ, List.set_cons_zero, List.set_cons_succ, eq_self, if_true, ite_and, ite_or, ite_I, ite_bI, ite_bJ, bI_ne, bI_01, List.cons_append, List.nil_append, Bool.false_eq_true, if_false, jGe, nI_leI (show hiB (T.1 4) m a k < 2 ^ 31 by omega) (show loB (T.1 4) m a < 2 ^ 31 by omega)]; rfl) (fun hb => ?_) (fun hb => ?_))
  · rw [no (decide_eq_false (fun q => by have := of_decide_eq_true hb; omega))]
    exact wS_r rfl ⟨rfl, σ, rfl, hM', FX.r _ σ⟩
  have c2 : loB (T.1 4) m a < hiB (T.1 4) m a k := by have := of_decide_eq_false hb; omega
  clear hb
  refine wS_l rfl ?_
  have hmb : mbB (T.1 4) m a = phB (T.1 4) m + loB (T.1 4) m a - lgB (T.1 4) m := rfl
  have hct : ctB (T.1 4) m a k = hiB (T.1 4) m a k - loB (T.1 4) m a := rfl
  have j12 : jDiv (nI (phB (T.1 4) m + loB (T.1 4) m a - lgB (T.1 4) m)) (nI 8) = nI (mfB (T.1 4) m a) := pk_div (by omega) (by decide) (by decide)
  refine wSeq (wS_l (by simp only [e_fI, e_fLd, e_fLr, e_fB, e_fD, e_fC, e_fT, e_fAnd, e_fOr, e_fNot, e_fCC, e_fIf, e_gI, e_gR, e_aI, e_aR, e_aN, e_cV, e_cS, e_fNil, e_fAi, e_fAr, e_sSeq, e_sSkip, e_sSt, e_sSr, e_sInc, e_sRI, e_sRR, e_sRV, e_sIf, e_sCall, e_sPI, e_sPZ, e_sPR, e_sPO, e_sAI, e_sAZ, e_sAO, e_sAR, e_sPopI, e_sPopR, e_sCopy, e_mI, e_mZ, e_mR, e_mV, jAdd_n, jMul_n, z0, z1, Option.bind_some, List.getElem?_cons_zero, List.getElem?_cons_succ, List.set_cons_zero, List.set_cons_succ, eq_self, if_true, ite_and, ite_or, ite_I, ite_bI, ite_bJ, bI_ne, bI_01, List.cons_append, List.nil_append, Bool.false_eq_true, if_false, n8, jSub_n (show lgB (T.1 4) m ≤ phB (T.1 4) m + loB (T.1 4) m a by omega), j12]; rfl) ?_)
  have j13 : jDiv (nI (phB (T.1 4) m + hiB (T.1 4) m a k - 1 - lgB (T.1 4) m)) (nI 8) = nI (mlB (T.1 4) m a k) := by
    rw [show phB (T.1 4) m + hiB (T.1 4) m a k - 1 - lgB (T.1 4) m = mbB (T.1 4) m a + ctB (T.1 4) m a k - 1 by omega]
    exact pk_div (by omega) (by decide) (by decide)
  refine wSeq (wS_l (by simp only [e_fI, e_fLd, e_fLr, e_fB, e_fD, e_fC, e_fT, e_fAnd, e_fOr, e_fNot, e_fCC, e_fIf, e_gI, e_gR, e_aI, e_aR, e_aN, e_cV, e_cS, e_fNil, e_fAi, e_fAr, e_sSeq, e_sSkip, e_sSt, e_sSr, e_sInc, e_sRI, e_sRR, e_sRV, e_sIf, e_sCall, e_sPI, e_sPZ, e_sPR, e_sPO, e_sAI, e_sAZ, e_sAO, e_sAR, e_sPopI, e_sPopR, e_sCopy, e_mI, e_mZ, e_mR, e_mV, jAdd_n, jMul_n, z0, z1, Option.bind_some, List.getElem?_cons_zero, List.getElem?_cons_succ, List.set_cons_zero, List.set_cons_succ, eq_self, if_true, ite_and, ite_or, ite_I, ite_bI, ite_bJ, bI_ne, bI_01, List.cons_append, List.nil_append, Bool.false_eq_true, if_false, n8, jSub_n (show 1 ≤ phB (T.1 4) m + hiB (T.1 4) m a k by omega), jSub_n (show lgB (T.1 4) m ≤ phB (T.1 4) m + hiB (T.1 4) m a k - 1 by omega), j13]; rfl) ?_)
  have hml : mlB (T.1 4) m a k = (mbB (T.1 4) m a + ctB (T.1 4) m a k - 1) / 8 := rfl
  refine wSeq (wIf (by simp only [e_fI, e_fLd, e_fLr, e_fB, e_fD, e_fC, e_fT, e_fAnd, e_fOr, e_fNot, e_fCC, e_fIf, e_gI, e_gR, e_aI, e_aR, e_aN, e_cV, e_cS, e_fNil, e_fAi, e_fAr, e_sSeq, e_sSkip, e_sSt, e_sSr, e_sInc, e_sRI, e_sRR, e_sRV, e_sIf, e_sCall, e_sPI, e_sPZ, e_sPR, e_sPO, e_sAI, e_sAZ, e_sAO, e_sAR, e_sPopI, e_sPopR, e_sCopy, e_mI, e_mZ, e_mR, e_mV, jAdd_n, jMul_n, z0, z1, Option.bind_some, List.getElem?_cons_zero, List.getElem?_cons_succ, List.set_cons_zero, List.set_cons_succ, eq_self, if_true, ite_and, ite_or, ite_I, ite_bI, ite_bJ, bI_ne, bI_01, List.cons_append, List.nil_append, Bool.false_eq_true, if_false, jGt, nI_ltI (show 127 < 2 ^ 31 by omega) (show mlB (T.1 4) m a k < 2 ^ 31 by omega)]; rfl) (fun hb => ?_) (fun hb => ?_))
  · rw [no (decide_eq_false (fun q => by have := of_decide_eq_true hb; omega))]
    exact wS_r rfl ⟨rfl, σ, rfl, hM', FX.r _ σ⟩
  have hfn : fnB (T.1 4) m a k = true := decide_eq_true ⟨c1.1, c1.2, c2, by have := of_decide_eq_false hb; omega⟩
  clear hb
  refine wS_l rfl ?_
  refine wSeq (wS_l (by simp only [e_fI, e_fLd, e_fLr, e_fB, e_fD, e_fC, e_fT, e_fAnd, e_fOr, e_fNot, e_fCC, e_fIf, e_gI, e_gR, e_aI, e_aR, e_aN, e_cV, e_cS, e_fNil, e_fAi, e_fAr, e_sSeq, e_sSkip, e_sSt, e_sSr, e_sInc, e_sRI, e_sRR, e_sRV, e_sIf, e_sCall, e_sPI, e_sPZ, e_sPR, e_sPO, e_sAI, e_sAZ, e_sAO, e_sAR, e_sPopI, e_sPopR, e_sCopy, e_mI, e_mZ, e_mR, e_mV, jAdd_n, jMul_n, z0, z1, Option.bind_some, List.getElem?_cons_zero, List.getElem?_cons_succ, List.set_cons_zero, List.set_cons_succ, eq_self, if_true, ite_and, ite_or, ite_I, ite_bI, ite_bJ, bI_ne, bI_01, List.cons_append, List.nil_append, Bool.false_eq_true, if_false]; rfl) ?_)
  have eA : mpA C w a k m T = mpW C (T.1 4) (wtsA T.1 w m) a k m (mpR w a k m T) := by unfold mpA; rw [hfn, if_pos rfl]
  rw [eA]
  refine wSeq ?_
  refine map_rd (F := T.1 4) (T := T) (w := w) h hs6 hd hm hM' hok hf ew rfl hfn hk rfl rfl rfl rfl ha (fun τ y15 y16 y17 y18 hM1 hF1 => ?_)
  refine wSeq ?_
  refine map_wr (F := T.1 4) (T := mpR w a k m T) (C := C) (w := w) (wt := wtsA T.1 w m) h hs6 hd hm hM1 (mpR_A hok) (mpR_F hf) (fun j hj => ?_) ?_ ?_ hfn hk rfl rfl rfl rfl ha (fun τ2 z15 z16 z17 z18 hM2 hF2 => ?_)
  · rw [hF1 51 j (fun q => by
      rcases q with q | q | q | q
      · have := q.b; omega
      all_goals omega)]
    exact hC j hj
  · rw [hF1 44 d (fun q => by
      rcases q with q | q | q | q
      · have := q.b; omega
      all_goals omega)]
    exact ew
  · rw [mpR_lo (by omega)]
    rfl
  · exact wS_r rfl ⟨rfl, τ2, rfl, hM2, hF1.t hF2⟩
end MAP4
