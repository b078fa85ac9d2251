/-! cycle, the reference's side -/
section SGC
variable {n : Nat} {σ : sg} {w : wd}
theorem imn {x : Nat} (hx : x < 2 ^ 31) : (if jLt (nI x) (nI 8) = true then nI x else nI 8) = nI (min 8 x) := by
  rw [imin hx (by omega), Nat.min_comm]
theorem r_cycle (h : okB n) (hR : CPr σ w) (hW : okW w) : ∃ τ, G_R_cycle [.ref 26] (hs n σ) = some (a_cycle w, hs n τ) ∧ CPr τ (cyW w) ∧ FL σ τ := by
  have hsw := sW_e hW
  have hm := mW_e hW
  have es := hR.cs.trans hsw.1
  have em := hR.cm.trans hm.1
  have hp3 := ptC_3 hW
  have hq : ptC w = (sW w + 7) / 8 := rfl
  refine mI_t (Nat.le_of_ble_eq_true rfl) ?_
  simp only [jx_L0, List.map_cons, List.map_nil, List.length_cons, List.length_nil, Nat.reduceAdd, Nat.reduceSub, List.replicate, List.cons_append, List.nil_append]
  unfold P_R_cycle a_cycle cyW
  have e0 : (jEq (nI (mW w)) 0 || jEq (nI (sW w)) 0) = decide (sW w = 0) := by
    rw [← nI_0, jEq_n (by omega) (by omega), jEq_n (by omega) (by omega), ← Bool.decide_or]
    exact decide_eq_decide.mpr ⟨fun k => by rcases k with k | k; exact hm.2.2 k; exact k, Or.inr⟩
  refine wSeq (wIf (by simp only [e_fI, e_fLd, e_fLr, e_fB, e_fD, e_fC, e_fT, e_fAnd, e_fOr, e_fNot, e_fCC, e_fIf, e_gI, e_gR, e_aI, e_aR, e_aN, e_cV, e_cS, e_fNil, e_fAi, e_fAr, e_sSeq, e_sSkip, e_sSt, e_sSr, e_sInc, e_sRI, e_sRR, e_sRV, e_sIf, e_sCall, e_sPI, e_sPZ, e_sPR, e_sPO, e_sAI, e_sAZ, e_sAO, e_sAR, e_sPopI, e_sPopR, e_sCopy, e_mI, e_mZ, e_mR, e_mV, jAdd_n, jMul_n, z0, z1, Option.bind_some, List.getElem?_cons_zero, List.getElem?_cons_succ, List.set_cons_zero, List.set_cons_succ, eq_self, if_true, ite_and, ite_or, ite_I, ite_bI, ite_bJ, bI_ne, bI_01, List.cons_append, List.nil_append, Bool.false_eq_true, if_false, gT26_33 h, gT26_34 h, em, es, e0]; rfl) (fun hb => ?_) (fun hb => ?_))
  · rw [if_pos (of_decide_eq_true hb), if_pos (of_decide_eq_true hb)]
    exact wS_r rfl ⟨rfl, σ, rfl, hR, FL.r σ⟩
  have s0 := of_decide_eq_false hb
  rw [if_neg s0, if_neg s0]
  clear hb
  refine wS_l rfl ?_
  have n8 : ¬ nI 8 = 0 := by decide
  have jd : jDiv (nI (sW w + 7)) (nI 8) = nI (ptC w) := pk_div (by omega) (by decide) (by decide)
  refine wSeq (wS_l (by simp only [e_fI, e_fLd, e_fLr, e_fB, e_fD, e_fC, e_fT, e_fAnd, e_fOr, e_fNot, e_fCC, e_fIf, e_gI, e_gR, e_aI, e_aR, e_aN, e_cV, e_cS, e_fNil, e_fAi, e_fAr, e_sSeq, e_sSkip, e_sSt, e_sSr, e_sInc, e_sRI, e_sRR, e_sRV, e_sIf, e_sCall, e_sPI, e_sPZ, e_sPR, e_sPO, e_sAI, e_sAZ, e_sAO, e_sAR, e_sPopI, e_sPopR, e_sCopy, e_mI, e_mZ, e_mR, e_mV, jAdd_n, jMul_n, z0, z1, Option.bind_some, List.getElem?_cons_zero, List.getElem?_cons_succ, List.set_cons_zero, List.set_cons_succ, eq_self, if_true, ite_and, ite_or, ite_I, ite_bI, ite_bJ, bI_ne, bI_01, List.cons_append, List.nil_append, Bool.false_eq_true, if_false, n8, gT26_34 h, es, jd]; rfl) ?_)
  refine wSeq (wSeq (wS_l (by simp only [e_fI, e_fLd, e_fLr, e_fB, e_fD, e_fC, e_fT, e_fAnd, e_fOr, e_fNot, e_fCC, e_fIf, e_gI, e_gR, e_aI, e_aR, e_aN, e_cV, e_cS, e_fNil, e_fAi, e_fAr, e_sSeq, e_sSkip, e_sSt, e_sSr, e_sInc, e_sRI, e_sRR, e_sRV, e_sIf, e_sCall, e_sPI, e_sPZ, e_sPR, e_sPO, e_sAI, e_sAZ, e_sAO, e_sAR, e_sPopI, e_sPopR, e_sCopy, e_mI, e_mZ, e_mR, e_mV, jAdd_n, jMul_n, z0, z1, Option.bind_some, List.getElem?_cons_zero, List.getElem?_cons_succ, List.set_cons_zero, List.set_cons_succ, eq_self, if_true, ite_and, ite_or, ite_I, ite_bI, ite_bJ, bI_ne, bI_01, List.cons_append, List.nil_append, Bool.false_eq_true, if_false]; rfl) ?_))
  refine wWh (I := fun d L H => ∃ τ x3, L = [some (.ref 26), some (.int (nI (ptC w))), some (.int (nI d)), x3] ∧ H = hs n τ ∧ (∀ e, e < d → RG τ (3 + e) (nwG (nI 12) (nI (8 * e)) (nI 0) (nI (lnC (sW w) e)))) ∧ FX PC σ τ) (e := ptC w) ?_ ?_ ?_ 600 0 _ _ (by omega) (by omega) ⟨σ, none, rfl, rfl, fun e he => by omega, FX.r _ σ⟩
  · rintro d _ _ ⟨τ, x3, rfl, rfl, -⟩ hi
    simp only [e_fI, e_fLd, e_fLr, e_fB, e_fD, e_fC, e_fT, e_fAnd, e_fOr, e_fNot, e_fCC, e_fIf, e_gI, e_gR, e_aI, e_aR, e_aN, e_cV, e_cS, e_fNil, e_fAi, e_fAr, e_sSeq, e_sSkip, e_sSt, e_sSr, e_sInc, e_sRI, e_sRR, e_sRV, e_sIf, e_sCall, e_sPI, e_sPZ, e_sPR, e_sPO, e_sAI, e_sAZ, e_sAO, e_sAR, e_sPopI, e_sPopR, e_sCopy, e_mI, e_mZ, e_mR, e_mV, jAdd_n, jMul_n, z0, z1, Option.bind_some, List.getElem?_cons_zero, List.getElem?_cons_succ, List.set_cons_zero, List.set_cons_succ, eq_self, if_true, ite_and, ite_or, ite_I, ite_bI, ite_bJ, bI_ne, bI_01, List.cons_append, List.nil_append, Bool.false_eq_true, if_false, jLt, nI_ltI (show d < 2 ^ 31 by omega) (show ptC w < 2 ^ 31 by omega)]
  · rintro d _ _ ⟨τ, x3, rfl, rfl, hG, hF⟩ hi
    have e34 : τ 26 34 = nI (sW w) := by rw [hF 26 34 (fun k => by unfold PC at k; omega)]; exact es
    have eln : min 8 (sW w - 8 * d) = lnC (sW w) d := rfl
    refine wSeq (wSeq (wS_l (by simp only [e_fI, e_fLd, e_fLr, e_fB, e_fD, e_fC, e_fT, e_fAnd, e_fOr, e_fNot, e_fCC, e_fIf, e_gI, e_gR, e_aI, e_aR, e_aN, e_cV, e_cS, e_fNil, e_fAi, e_fAr, e_sSeq, e_sSkip, e_sSt, e_sSr, e_sInc, e_sRI, e_sRR, e_sRV, e_sIf, e_sCall, e_sPI, e_sPZ, e_sPR, e_sPO, e_sAI, e_sAZ, e_sAO, e_sAR, e_sPopI, e_sPopR, e_sCopy, e_mI, e_mZ, e_mR, e_mV, jAdd_n, jMul_n, z0, z1, Option.bind_some, List.getElem?_cons_zero, List.getElem?_cons_succ, List.set_cons_zero, List.set_cons_succ, eq_self, if_true, ite_and, ite_or, ite_I, ite_bI, ite_bJ, bI_ne, bI_01, List.cons_append, List.nil_append, Bool.false_eq_true, if_false, gT26_34 h, e34, jSub_n (show 8 * d ≤ sW w by omega)]; rfl) ?_))
    obtain ⟨ρ, eg, r1, r2⟩ := q_R_gram (σ := τ) (d := 3 + d) (c := nI 12) (a := nI (8 * d)) (o := nI 0) (l := nI (lnC (sW w) d)) h (by omega)
    refine wS_l (by simp only [e_fI, e_fLd, e_fLr, e_fB, e_fD, e_fC, e_fT, e_fAnd, e_fOr, e_fNot, e_fCC, e_fIf, e_gI, e_gR, e_aI, e_aR, e_aN, e_cV, e_cS, e_fNil, e_fAi, e_fAr, e_sSeq, e_sSkip, e_sSt, e_sSr, e_sInc, e_sRI, e_sRR, e_sRV, e_sIf, e_sCall, e_sPI, e_sPZ, e_sPR, e_sPO, e_sAI, e_sAZ, e_sAO, e_sAR, e_sPopI, e_sPopR, e_sCopy, e_mI, e_mZ, e_mR, e_mV, jAdd_n, jMul_n, z0, z1, Option.bind_some, List.getElem?_cons_zero, List.getElem?_cons_succ, List.set_cons_zero, List.set_cons_succ, eq_self, if_true, ite_and, ite_or, ite_I, ite_bI, ite_bJ, bI_ne, bI_01, List.cons_append, List.nil_append, Bool.false_eq_true, if_false, kT26 h, imn (show sW w - 8 * d < 2 ^ 31 by omega), eln, eg]; rfl) ?_
    refine wS_l (by simp only [e_fI, e_fLd, e_fLr, e_fB, e_fD, e_fC, e_fT, e_fAnd, e_fOr, e_fNot, e_fCC, e_fIf, e_gI, e_gR, e_aI, e_aR, e_aN, e_cV, e_cS, e_fNil, e_fAi, e_fAr, e_sSeq, e_sSkip, e_sSt, e_sSr, e_sInc, e_sRI, e_sRR, e_sRV, e_sIf, e_sCall, e_sPI, e_sPZ, e_sPR, e_sPO, e_sAI, e_sAZ, e_sAO, e_sAR, e_sPopI, e_sPopR, e_sCopy, e_mI, e_mZ, e_mR, e_mV, jAdd_n, jMul_n, z0, z1, Option.bind_some, List.getElem?_cons_zero, List.getElem?_cons_succ, List.set_cons_zero, List.set_cons_succ, eq_self, if_true, ite_and, ite_or, ite_I, ite_bI, ite_bJ, bI_ne, bI_01, List.cons_append, List.nil_append, Bool.false_eq_true, if_false, nI_add]; rfl) ?_
    refine ⟨ρ, _, rfl, rfl, fun e he => ?_, hF.t (r2.d (by omega) (by omega))⟩
    by_cases q : e = d
    · rw [q]; exact r1
    · exact (hG e (by omega)).o r2 (fun a i k1 k2 => by rcases k1 with k1 | k1 <;> rcases k2 with k2 | k2 <;> omega)
  rintro _ _ ⟨τ, x3, rfl, rfl, hG, hF⟩
  refine wSeq (wSeq (wS_l (by simp only [e_fI, e_fLd, e_fLr, e_fB, e_fD, e_fC, e_fT, e_fAnd, e_fOr, e_fNot, e_fCC, e_fIf, e_gI, e_gR, e_aI, e_aR, e_aN, e_cV, e_cS, e_fNil, e_fAi, e_fAr, e_sSeq, e_sSkip, e_sSt, e_sSr, e_sInc, e_sRI, e_sRR, e_sRV, e_sIf, e_sCall, e_sPI, e_sPZ, e_sPR, e_sPO, e_sAI, e_sAZ, e_sAO, e_sAR, e_sPopI, e_sPopR, e_sCopy, e_mI, e_mZ, e_mR, e_mV, jAdd_n, jMul_n, z0, z1, Option.bind_some, List.getElem?_cons_zero, List.getElem?_cons_succ, List.set_cons_zero, List.set_cons_succ, eq_self, if_true, ite_and, ite_or, ite_I, ite_bI, ite_bJ, bI_ne, bI_01, List.cons_append, List.nil_append, Bool.false_eq_true, if_false]; rfl) ?_))
  refine wWh (I := fun i L H => ∃ ρ, L = [some (.ref 26), some (.int (nI (ptC w))), some (.int (nI i)), x3] ∧ H = hs n ρ ∧ (∀ j, j < i → ρ 49 (24 + j) = vW w 2 j) ∧ FX (fun a j => a = 49 ∧ 24 ≤ j ∧ j < 24 + i) τ ρ) (e := sW w) ?_ ?_ ?_ 600 0 _ _ (by omega) (by omega) ⟨τ, rfl, rfl, fun j hj => by omega, FX.r _ τ⟩
  · rintro i _ _ ⟨ρ, rfl, rfl, -, hFρ⟩ hi
    have e34 : ρ 26 34 = nI (sW w) := by rw [hFρ 26 34 (by omega), hF 26 34 (fun k => by unfold PC at k; omega)]; exact es
    simp only [e_fI, e_fLd, e_fLr, e_fB, e_fD, e_fC, e_fT, e_fAnd, e_fOr, e_fNot, e_fCC, e_fIf, e_gI, e_gR, e_aI, e_aR, e_aN, e_cV, e_cS, e_fNil, e_fAi, e_fAr, e_sSeq, e_sSkip, e_sSt, e_sSr, e_sInc, e_sRI, e_sRR, e_sRV, e_sIf, e_sCall, e_sPI, e_sPZ, e_sPR, e_sPO, e_sAI, e_sAZ, e_sAO, e_sAR, e_sPopI, e_sPopR, e_sCopy, e_mI, e_mZ, e_mR, e_mV, jAdd_n, jMul_n, z0, z1, Option.bind_some, List.getElem?_cons_zero, List.getElem?_cons_succ, List.set_cons_zero, List.set_cons_succ, eq_self, if_true, ite_and, ite_or, ite_I, ite_bI, ite_bJ, bI_ne, bI_01, List.cons_append, List.nil_append, Bool.false_eq_true, if_false, gT26_34 h, e34, jLt, nI_ltI (show i < 2 ^ 31 by omega) (show sW w < 2 ^ 31 by omega)]
  · rintro i _ _ ⟨ρ, rfl, rfl, hV, hFρ⟩ hi
    have k56 : ρ 56 i = vW w 2 i := by rw [hFρ 56 i (by omega), hF 56 i (fun k => by unfold PC at k; omega)]; exact hR.st hi
    refine wSeq (wS_l (by simp only [e_fI, e_fLd, e_fLr, e_fB, e_fD, e_fC, e_fT, e_fAnd, e_fOr, e_fNot, e_fCC, e_fIf, e_gI, e_gR, e_aI, e_aR, e_aN, e_cV, e_cS, e_fNil, e_fAi, e_fAr, e_sSeq, e_sSkip, e_sSt, e_sSr, e_sInc, e_sRI, e_sRR, e_sRV, e_sIf, e_sCall, e_sPI, e_sPZ, e_sPR, e_sPO, e_sAI, e_sAZ, e_sAO, e_sAR, e_sPopI, e_sPopR, e_sCopy, e_mI, e_mZ, e_mR, e_mV, jAdd_n, jMul_n, z0, z1, Option.bind_some, List.getElem?_cons_zero, List.getElem?_cons_succ, List.set_cons_zero, List.set_cons_succ, eq_self, if_true, ite_and, ite_or, ite_I, ite_bI, ite_bJ, bI_ne, bI_01, List.cons_append, List.nil_append, Bool.false_eq_true, if_false, gT26_27 h, gT26_39 h, iT56 h (show i < 24 by omega), k56, wT49 h (show 24 + i < 72 by omega)]; rfl) ?_)
    refine wS_l (by simp only [e_fI, e_fLd, e_fLr, e_fB, e_fD, e_fC, e_fT, e_fAnd, e_fOr, e_fNot, e_fCC, e_fIf, e_gI, e_gR, e_aI, e_aR, e_aN, e_cV, e_cS, e_fNil, e_fAi, e_fAr, e_sSeq, e_sSkip, e_sSt, e_sSr, e_sInc, e_sRI, e_sRR, e_sRV, e_sIf, e_sCall, e_sPI, e_sPZ, e_sPR, e_sPO, e_sAI, e_sAZ, e_sAO, e_sAR, e_sPopI, e_sPopR, e_sCopy, e_mI, e_mZ, e_mR, e_mV, jAdd_n, jMul_n, z0, z1, Option.bind_some, List.getElem?_cons_zero, List.getElem?_cons_succ, List.set_cons_zero, List.set_cons_succ, eq_self, if_true, ite_and, ite_or, ite_I, ite_bI, ite_bJ, bI_ne, bI_01, List.cons_append, List.nil_append, Bool.false_eq_true, if_false, nI_add]; rfl) ?_
    refine ⟨_, rfl, rfl, fun j hj => ?_, FX.u (hFρ.m (fun a j q => by omega)) (by omega)⟩
    unfold up
    by_cases q : j = i
    · rw [if_pos ⟨rfl, by omega⟩, q]
    · rw [if_neg (by omega)]
      exact hV j (by omega)
  rintro _ _ ⟨ρ, rfl, rfl, hV, hFρ⟩
  have hG1 : ∀ e, e < ptC w → RG ρ (3 + e) (cyG w e) := fun e he => by
    refine ⟨fun i hi => ?_, fun i hi => ?_⟩
    · rw [hFρ _ _ (by omega)]
      exact (hG e he).1 i hi
    · show _ = if i < lnC (sW w) e then vW w 2 (8 * e + i) else nI 0
      by_cases q : i < lnC (sW w) e
      · rw [if_pos q, show 8 * (3 + e) + i = 24 + (8 * e + i) by omega]
        exact hV _ (by unfold lnC at q; omega)
      · rw [if_neg q, hFρ _ _ (by unfold lnC at q; omega)]
        exact (hG e he).2 i hi
  have hF1 : FX PC σ ρ := hF.t (hFρ.m (fun a j q => by unfold PC; omega))
  refine wSeq (wS_l (by simp only [e_fI, e_fLd, e_fLr, e_fB, e_fD, e_fC, e_fT, e_fAnd, e_fOr, e_fNot, e_fCC, e_fIf, e_gI, e_gR, e_aI, e_aR, e_aN, e_cV, e_cS, e_fNil, e_fAi, e_fAr, e_sSeq, e_sSkip, e_sSt, e_sSr, e_sInc, e_sRI, e_sRR, e_sRV, e_sIf, e_sCall, e_sPI, e_sPZ, e_sPR, e_sPO, e_sAI, e_sAZ, e_sAO, e_sAR, e_sPopI, e_sPopR, e_sCopy, e_mI, e_mZ, e_mR, e_mV, jAdd_n, jMul_n, z0, z1, Option.bind_some, List.getElem?_cons_zero, List.getElem?_cons_succ, List.set_cons_zero, List.set_cons_succ, eq_self, if_true, ite_and, ite_or, ite_I, ite_bI, ite_bJ, bI_ne, bI_01, List.cons_append, List.nil_append, Bool.false_eq_true, if_false, pT26_19 h]; rfl) ?_)
  have hF2 : FX PC σ (up ρ 26 19 (nI (ptC w))) := hF1.u (Or.inr (Or.inr ⟨rfl, rfl⟩))
  have hG2 : ∀ e, e < ptC w → RG (up ρ 26 19 (nI (ptC w))) (3 + e) (cyG w e) := fun e he => (hG1 e he).o ((FX.r (fun a _ => a = 26) _).u rfl) (fun a i q k => by rcases q with q | q <;> omega)
  obtain ⟨υ, et, q1, q2⟩ := r_travel (z := ptC w) (G := cyG w) h (hR.p hF2 hW.y.2) hW hG2 (fun e he => cyG_ok hW he) rfl hp3
  have q1' : CPr υ (w1C w) := q1
  have hFu : FL σ υ := (hF2.L (fun a i k => by unfold PC at k; omega)).t q2
  have ok1 := w1C_ok hW
  have et' : tW w = bW (w1C w) := (bW_s (w := frW w (ptC w) (cyG w))).symm
  rw [et'] at et
  clear q1 q2
  refine wSeq (wIf (by simp only [e_fI, e_fLd, e_fLr, e_fB, e_fD, e_fC, e_fT, e_fAnd, e_fOr, e_fNot, e_fCC, e_fIf, e_gI, e_gR, e_aI, e_aR, e_aN, e_cV, e_cS, e_fNil, e_fAi, e_fAr, e_sSeq, e_sSkip, e_sSt, e_sSr, e_sInc, e_sRI, e_sRR, e_sRV, e_sIf, e_sCall, e_sPI, e_sPZ, e_sPR, e_sPO, e_sAI, e_sAZ, e_sAO, e_sAR, e_sPopI, e_sPopR, e_sCopy, e_mI, e_mZ, e_mR, e_mV, jAdd_n, jMul_n, z0, z1, Option.bind_some, List.getElem?_cons_zero, List.getElem?_cons_succ, List.set_cons_zero, List.set_cons_succ, eq_self, if_true, ite_and, ite_or, ite_I, ite_bI, ite_bJ, bI_ne, bI_01, List.cons_append, List.nil_append, Bool.false_eq_true, if_false, kT26 h, et]; rfl) (fun hb => ?_) (fun hb => ?_))
  · have e : bW (w1C w) = false := by cases q : bW (w1C w); rfl; rw [q] at hb; cases hb
    rw [e, if_neg Bool.false_ne_true, if_neg Bool.false_ne_true]
    exact wS_r rfl ⟨rfl, υ, rfl, q1', hFu⟩
  have e : bW (w1C w) = true := by cases q : bW (w1C w); rw [q] at hb; cases hb; rfl
  clear hb
  rw [e, if_pos rfl, if_pos rfl]
  refine wS_l rfl ?_
  have ez1 : zW (w1C w) = ptC w := zW_sf hp3
  have em1 : mW (w1C w) = mW w := rfl
  have es1 : υ 26 34 = nI (sW w) := q1'.cs.trans hsw.1
  have exe : ∀ d, d < 3 → G_R_expected [.ref 26, .int (nI d)] (hs n υ) = some (nI (exA w d (mW w)), hs n υ) := fun d hd => by
    have := q_R_expected h q1' ok1 hd
    rw [exA_e (w := w) (fun j i hj => w1C_v (by omega)), em1] at this
    exact this
  have hRG : ∀ e', e' < ptC w → RG υ (6 + e') ((w1C w).2.2.1 e') := fun e' he => q1'.2.2.2.2.2 e e' (by omega)
  refine wSeq (wSeq (wS_l (by simp only [e_fI, e_fLd, e_fLr, e_fB, e_fD, e_fC, e_fT, e_fAnd, e_fOr, e_fNot, e_fCC, e_fIf, e_gI, e_gR, e_aI, e_aR, e_aN, e_cV, e_cS, e_fNil, e_fAi, e_fAr, e_sSeq, e_sSkip, e_sSt, e_sSr, e_sInc, e_sRI, e_sRR, e_sRV, e_sIf, e_sCall, e_sPI, e_sPZ, e_sPR, e_sPO, e_sAI, e_sAZ, e_sAO, e_sAR, e_sPopI, e_sPopR, e_sCopy, e_mI, e_mZ, e_mR, e_mV, jAdd_n, jMul_n, z0, z1, Option.bind_some, List.getElem?_cons_zero, List.getElem?_cons_succ, List.set_cons_zero, List.set_cons_succ, eq_self, if_true, ite_and, ite_or, ite_I, ite_bI, ite_bJ, bI_ne, bI_01, List.cons_append, List.nil_append, Bool.false_eq_true, if_false]; rfl) ?_))
  refine wWh (I := fun d L H => L = [some (.ref 26), some (.int (nI (ptC w))), some (.int (nI d)), x3] ∧ H = hs n υ ∧ ∀ e, e < d → jNe ((w1C w).2.2.1 e 0 4) (nI (exA w e (mW w))) = false) (e := ptC w) ?_ ?_ ?_ 600 0 _ _ (by omega) (by omega) ⟨rfl, rfl, fun e he => by omega⟩
  · rintro d _ _ ⟨rfl, rfl, -⟩ hi
    simp only [e_fI, e_fLd, e_fLr, e_fB, e_fD, e_fC, e_fT, e_fAnd, e_fOr, e_fNot, e_fCC, e_fIf, e_gI, e_gR, e_aI, e_aR, e_aN, e_cV, e_cS, e_fNil, e_fAi, e_fAr, e_sSeq, e_sSkip, e_sSt, e_sSr, e_sInc, e_sRI, e_sRR, e_sRV, e_sIf, e_sCall, e_sPI, e_sPZ, e_sPR, e_sPO, e_sAI, e_sAZ, e_sAO, e_sAR, e_sPopI, e_sPopR, e_sCopy, e_mI, e_mZ, e_mR, e_mV, jAdd_n, jMul_n, z0, z1, Option.bind_some, List.getElem?_cons_zero, List.getElem?_cons_succ, List.set_cons_zero, List.set_cons_succ, eq_self, if_true, ite_and, ite_or, ite_I, ite_bI, ite_bJ, bI_ne, bI_01, List.cons_append, List.nil_append, Bool.false_eq_true, if_false, jLt, nI_ltI (show d < 2 ^ 31 by omega) (show ptC w < 2 ^ 31 by omega)]
  · rintro d _ _ ⟨rfl, rfl, ha⟩ hi
    have d4 : υ 48 (6 + d) = (w1C w).2.2.1 d 0 4 := (hRG d hi).1 4 (by omega)
    refine wSeq (wIf (by simp only [e_fI, e_fLd, e_fLr, e_fB, e_fD, e_fC, e_fT, e_fAnd, e_fOr, e_fNot, e_fCC, e_fIf, e_gI, e_gR, e_aI, e_aR, e_aN, e_cV, e_cS, e_fNil, e_fAi, e_fAr, e_sSeq, e_sSkip, e_sSt, e_sSr, e_sInc, e_sRI, e_sRR, e_sRV, e_sIf, e_sCall, e_sPI, e_sPZ, e_sPR, e_sPO, e_sAI, e_sAZ, e_sAO, e_sAR, e_sPopI, e_sPopR, e_sCopy, e_mI, e_mZ, e_mR, e_mV, jAdd_n, jMul_n, z0, z1, Option.bind_some, List.getElem?_cons_zero, List.getElem?_cons_succ, List.set_cons_zero, List.set_cons_succ, eq_self, if_true, ite_and, ite_or, ite_I, ite_bI, ite_bJ, bI_ne, bI_01, List.cons_append, List.nil_append, Bool.false_eq_true, if_false, kT26 h, gT26_26 h, iT48 h (show 6 + d < 9 by omega), d4, exe d (by omega)]; rfl) (fun hb => ?_) (fun hb => ?_))
    · refine wS_r (by simp only [e_fI, e_fLd, e_fLr, e_fB, e_fD, e_fC, e_fT, e_fAnd, e_fOr, e_fNot, e_fCC, e_fIf, e_gI, e_gR, e_aI, e_aR, e_aN, e_cV, e_cS, e_fNil, e_fAi, e_fAr, e_sSeq, e_sSkip, e_sSt, e_sSr, e_sInc, e_sRI, e_sRR, e_sRV, e_sIf, e_sCall, e_sPI, e_sPZ, e_sPR, e_sPO, e_sAI, e_sAZ, e_sAO, e_sAR, e_sPopI, e_sPopR, e_sCopy, e_mI, e_mZ, e_mR, e_mV, jAdd_n, jMul_n, z0, z1, Option.bind_some, List.getElem?_cons_zero, List.getElem?_cons_succ, List.set_cons_zero, List.set_cons_succ, eq_self, if_true, ite_and, ite_or, ite_I, ite_bI, ite_bJ, bI_ne, bI_01, List.cons_append, List.nil_append, Bool.false_eq_true, if_false]; rfl) ?_
      rw [baC_s hi ha hb]
      exact ⟨rfl, υ, rfl, q1', hFu⟩
    · refine wS_l rfl ?_
      refine wS_l (by simp only [e_fI, e_fLd, e_fLr, e_fB, e_fD, e_fC, e_fT, e_fAnd, e_fOr, e_fNot, e_fCC, e_fIf, e_gI, e_gR, e_aI, e_aR, e_aN, e_cV, e_cS, e_fNil, e_fAi, e_fAr, e_sSeq, e_sSkip, e_sSt, e_sSr, e_sInc, e_sRI, e_sRR, e_sRV, e_sIf, e_sCall, e_sPI, e_sPZ, e_sPR, e_sPO, e_sAI, e_sAZ, e_sAO, e_sAR, e_sPopI, e_sPopR, e_sCopy, e_mI, e_mZ, e_mR, e_mV, jAdd_n, jMul_n, z0, z1, Option.bind_some, List.getElem?_cons_zero, List.getElem?_cons_succ, List.set_cons_zero, List.set_cons_succ, eq_self, if_true, ite_and, ite_or, ite_I, ite_bI, ite_bJ, bI_ne, bI_01, List.cons_append, List.nil_append, Bool.false_eq_true, if_false, nI_add]; rfl) ?_
      refine ⟨rfl, rfl, fun e' he => ?_⟩
      rcases Nat.lt_succ_iff_lt_or_eq.mp he with c | c
      · exact ha e' c
      · rw [c]; exact hb
  rintro _ _ ⟨rfl, rfl, ha⟩
  rw [baC_n ha]
  refine wSeq (wSeq (wS_l (by simp only [e_fI, e_fLd, e_fLr, e_fB, e_fD, e_fC, e_fT, e_fAnd, e_fOr, e_fNot, e_fCC, e_fIf, e_gI, e_gR, e_aI, e_aR, e_aN, e_cV, e_cS, e_fNil, e_fAi, e_fAr, e_sSeq, e_sSkip, e_sSt, e_sSr, e_sInc, e_sRI, e_sRR, e_sRV, e_sIf, e_sCall, e_sPI, e_sPZ, e_sPR, e_sPO, e_sAI, e_sAZ, e_sAO, e_sAR, e_sPopI, e_sPopR, e_sCopy, e_mI, e_mZ, e_mR, e_mV, jAdd_n, jMul_n, z0, z1, Option.bind_some, List.getElem?_cons_zero, List.getElem?_cons_succ, List.set_cons_zero, List.set_cons_succ, eq_self, if_true, ite_and, ite_or, ite_I, ite_bI, ite_bJ, bI_ne, bI_01, List.cons_append, List.nil_append, Bool.false_eq_true, if_false]; rfl) ?_))
  refine wWh (I := fun i L H => ∃ ω, L = [some (.ref 26), some (.int (nI (ptC w))), some (.int (nI i)), x3] ∧ H = hs n ω ∧ (∀ j, j < i → ω 57 j = (w1C w).2.2.1 (j / 8) 1 (j % 8)) ∧ FX (fun a _ => a = 57) υ ω) (e := sW w) ?_ ?_ ?_ 600 0 _ _ (by omega) (by omega) ⟨υ, rfl, rfl, fun j hj => by omega, FX.r _ υ⟩
  · rintro i _ _ ⟨ω, rfl, rfl, -, hFw⟩ hi
    have e34 : ω 26 34 = nI (sW w) := by rw [hFw 26 34 (by omega)]; exact es1
    simp only [e_fI, e_fLd, e_fLr, e_fB, e_fD, e_fC, e_fT, e_fAnd, e_fOr, e_fNot, e_fCC, e_fIf, e_gI, e_gR, e_aI, e_aR, e_aN, e_cV, e_cS, e_fNil, e_fAi, e_fAr, e_sSeq, e_sSkip, e_sSt, e_sSr, e_sInc, e_sRI, e_sRR, e_sRV, e_sIf, e_sCall, e_sPI, e_sPZ, e_sPR, e_sPO, e_sAI, e_sAZ, e_sAO, e_sAR, e_sPopI, e_sPopR, e_sCopy, e_mI, e_mZ, e_mR, e_mV, jAdd_n, jMul_n, z0, z1, Option.bind_some, List.getElem?_cons_zero, List.getElem?_cons_succ, List.set_cons_zero, List.set_cons_succ, eq_self, if_true, ite_and, ite_or, ite_I, ite_bI, ite_bJ, bI_ne, bI_01, List.cons_append, List.nil_append, Bool.false_eq_true, if_false, gT26_34 h, e34, jLt, nI_ltI (show i < 2 ^ 31 by omega) (show sW w < 2 ^ 31 by omega)]
  · rintro i _ _ ⟨ω, rfl, rfl, hV', hFw⟩ hi
    have k49 : ω 49 (48 + i) = (w1C w).2.2.1 (i / 8) 1 (i % 8) := by
      rw [hFw 49 _ (by omega), show 48 + i = 8 * (6 + i / 8) + i % 8 by omega]
      exact (hRG (i / 8) (by omega)).2 (i % 8) (by omega)
    refine wSeq (wS_l (by simp only [e_fI, e_fLd, e_fLr, e_fB, e_fD, e_fC, e_fT, e_fAnd, e_fOr, e_fNot, e_fCC, e_fIf, e_gI, e_gR, e_aI, e_aR, e_aN, e_cV, e_cS, e_fNil, e_fAi, e_fAr, e_sSeq, e_sSkip, e_sSt, e_sSr, e_sInc, e_sRI, e_sRR, e_sRV, e_sIf, e_sCall, e_sPI, e_sPZ, e_sPR, e_sPO, e_sAI, e_sAZ, e_sAO, e_sAR, e_sPopI, e_sPopR, e_sCopy, e_mI, e_mZ, e_mR, e_mV, jAdd_n, jMul_n, z0, z1, Option.bind_some, List.getElem?_cons_zero, List.getElem?_cons_succ, List.set_cons_zero, List.set_cons_succ, eq_self, if_true, ite_and, ite_or, ite_I, ite_bI, ite_bJ, bI_ne, bI_01, List.cons_append, List.nil_append, Bool.false_eq_true, if_false, gT26_27 h, gT26_40 h, iT49 h (show 48 + i < 72 by omega), k49, wT57 h (show i < 24 by omega)]; rfl) ?_)
    refine wS_l (by simp only [e_fI, e_fLd, e_fLr, e_fB, e_fD, e_fC, e_fT, e_fAnd, e_fOr, e_fNot, e_fCC, e_fIf, e_gI, e_gR, e_aI, e_aR, e_aN, e_cV, e_cS, e_fNil, e_fAi, e_fAr, e_sSeq, e_sSkip, e_sSt, e_sSr, e_sInc, e_sRI, e_sRR, e_sRV, e_sIf, e_sCall, e_sPI, e_sPZ, e_sPR, e_sPO, e_sAI, e_sAZ, e_sAO, e_sAR, e_sPopI, e_sPopR, e_sCopy, e_mI, e_mZ, e_mR, e_mV, jAdd_n, jMul_n, z0, z1, Option.bind_some, List.getElem?_cons_zero, List.getElem?_cons_succ, List.set_cons_zero, List.set_cons_succ, eq_self, if_true, ite_and, ite_or, ite_I, ite_bI, ite_bJ, bI_ne, bI_01, List.cons_append, List.nil_append, Bool.false_eq_true, if_false, nI_add]; rfl) ?_
    refine ⟨_, rfl, rfl, fun j hj => ?_, hFw.u rfl⟩
    unfold up
    by_cases q : j = i
    · rw [if_pos ⟨rfl, q⟩, q]
    · rw [if_neg (fun k => q k.2)]
      exact hV' j (by omega)
  · rintro _ _ ⟨ω, rfl, rfl, hV', hFw⟩
    refine wS_r rfl ⟨rfl, ω, rfl, ?_, hFu.t (hFw.L (fun a i k => by omega))⟩
    obtain ⟨h1, h2, h3, h4, h5, h6⟩ := q1'
    refine ⟨fun j i hc => ?_, by rw [hFw 26 20 (by omega)]; exact h2, fun t ht => ?_, fun t g1 g2 => ?_, fun e' he => (h5 e' he).o hFw (fun a m q k => by rcases q with q | q <;> omega), fun q e' he => (h6 q e' he).o hFw (fun a m q k => by rcases q with q | q <;> omega)⟩
    · have hc2 : celQ (w1C w) j i := hc
      have c := rv_c hc2
      show _ = if j = 3 ∧ i < sW w then (w1C w).2.2.1 (i / 8) 1 (i % 8) else vW (w1C w) j i
      by_cases q3 : j = 3
      · subst q3
        have hi : i < sW w := by
          unfold celQ at hc2
          have : sW (w1C w) = sW w := rfl
          omega
        rw [if_pos ⟨rfl, hi⟩]
        exact hV' i hi
      · rw [if_neg (fun k => q3 k.1), ← h1 j i hc2]
        exact hFw _ _ (by omega)
    · obtain ⟨r, m, c, hm', ha'⟩ := h3 t ht
      exact ⟨r.o hFw (fun a m q k => by have := q.b; omega), m, c, hm'.o (s := 0) hFw (fun a _ _ q => by omega), ha'⟩
    · obtain ⟨r, e5, e6⟩ := h4 t g1 g2
      rw [hFw 35 t (by omega), hFw 36 t (by omega)]
      exact ⟨r.o hFw (fun a m q k => by have := q.b; omega), e5, e6⟩
theorem cyW_ok (hW : okW w) : okW (cyW w) := by
  have ok1 := w1C_ok hW
  unfold cyW
  split
  · exact hW
  split
  · split
    · exact ok1
    · obtain ⟨h1, h2, h3, h4, h5, h6, h7, h8, h9, h10, h11, h12, h13, h14, h15, h16, h17, h18, h19, h20⟩ := ok1
      exact ⟨h1, h2, h3, h4, h5, h6, h7, h8, h9, h10, h11, h12, h13, h14, h15, h16, h17, h18, h19, h20⟩
  · exact ok1
end SGC
