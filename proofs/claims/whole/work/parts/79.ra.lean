/-! the reference's calls: the short ones -/
section CAR
variable {n : Nat} {σ : sg} {w : wd}
theorem CPr.ck (h : CPr σ w) : σ 26 0 = vW w 0 0 := h.1 0 0 (by unfold celQ; omega)
theorem CPr.cp (h : CPr σ w) : σ 26 21 = vW w 0 1 := h.1 0 1 (by unfold celQ; omega)
theorem CPr.cf (h : CPr σ w) : σ 26 32 = vW w 0 3 := h.1 0 3 (by unfold celQ; omega)
theorem CPr.cy (h : CPr σ w) : σ 26 18 = vW w 0 4 := h.1 0 4 (by unfold celQ; omega)
theorem CPr.cm (h : CPr σ w) : σ 26 33 = vW w 0 6 := h.1 0 6 (by unfold celQ; omega)
theorem CPr.cs (h : CPr σ w) : σ 26 34 = vW w 0 7 := h.1 0 7 (by unfold celQ; omega)
theorem CPr.br {i : Nat} (h : CPr σ w) (hi : i < 6) : σ 29 i = vW w 1 i := h.1 1 i (by unfold celQ; omega)
theorem CPr.st {i : Nat} (h : CPr σ w) (hi : i < sW w) : σ 56 i = vW w 2 i := h.1 2 i (by unfold celQ; omega)
theorem CPr.gt {i : Nat} (h : CPr σ w) (hi : i < sW w) : σ 57 i = vW w 3 i := h.1 3 i (by unfold celQ; omega)
theorem CPr.rr {t : Nat} (h : CPr σ w) (ht : t < kW w) : RR σ t (w.1 t) := (h.2.2.1 t ht).1
theorem q_R_isStation {a : Int32} (h : okB n) (hR : CPr σ w) : G_R_isStation [.ref 26, .int a] (hs n σ) = some (bI (inS w a), hs n σ) := by
  refine mZ_q (Nat.le_of_ble_eq_true rfl) ?_
  simp only [jx_L0, List.map_cons, List.map_nil, List.length_cons, List.length_nil, Nat.reduceAdd, Nat.reduceSub, List.replicate, List.cons_append, List.nil_append]
  unfold P_R_isStation
  refine wS_r (by simp only [e_fI, e_fLd, e_fLr, e_fB, e_fD, e_fC, e_fT, e_fAnd, e_fOr, e_fNot, e_fCC, e_fIf, e_gI, e_gR, e_aI, e_aR, e_aN, e_cV, e_cS, e_fNil, e_fAi, e_fAr, e_sSeq, e_sSkip, e_sSt, e_sSr, e_sInc, e_sRI, e_sRR, e_sRV, e_sIf, e_sCall, e_sPI, e_sPZ, e_sPR, e_sPO, e_sAI, e_sAZ, e_sAO, e_sAR, e_sPopI, e_sPopR, e_sCopy, e_mI, e_mZ, e_mR, e_mV, jAdd_n, jMul_n, z0, z1, Option.bind_some, List.getElem?_cons_zero, List.getElem?_cons_succ, List.set_cons_zero, List.set_cons_succ, eq_self, if_true, ite_and, ite_or, ite_I, ite_bI, ite_bJ, bI_ne, bI_01, List.cons_append, List.nil_append, Bool.false_eq_true, if_false, gT26_0 h, hR.ck]; rfl) ?_
  exact ⟨rfl, rfl⟩
theorem FL.u {τ : sg} {a i : Nat} {v : Int32} (h : FL σ τ) (k : 26 ≤ a ∧ a < 58) : FL σ (up τ a i v) := fun b h1 => (up_ne (by omega)).trans (h b h1)
theorem r_cut {a : Int32} {b : Bool} (h : okB n) (hR : CPr σ w) (hW : okW w) : ∃ τ, G_R_cut [.ref 26, .int a, .int (bI b)] (hs n σ) = some (bI (inS w a), hs n τ) ∧ CPr τ (if inS w a = true then setV w 1 a.toNatClampNeg (bI b) else w) ∧ FL σ τ := by
  refine mZ_t (Nat.le_of_ble_eq_true rfl) ?_
  simp only [jx_L0, List.map_cons, List.map_nil, List.length_cons, List.length_nil, Nat.reduceAdd, Nat.reduceSub, List.replicate, List.cons_append, List.nil_append]
  unfold P_R_cut
  refine wSeq (wIf (by simp only [e_fI, e_fLd, e_fLr, e_fB, e_fD, e_fC, e_fT, e_fAnd, e_fOr, e_fNot, e_fCC, e_fIf, e_gI, e_gR, e_aI, e_aR, e_aN, e_cV, e_cS, e_fNil, e_fAi, e_fAr, e_sSeq, e_sSkip, e_sSt, e_sSr, e_sInc, e_sRI, e_sRR, e_sRV, e_sIf, e_sCall, e_sPI, e_sPZ, e_sPR, e_sPO, e_sAI, e_sAZ, e_sAO, e_sAR, e_sPopI, e_sPopR, e_sCopy, e_mI, e_mZ, e_mR, e_mV, jAdd_n, jMul_n, z0, z1, Option.bind_some, List.getElem?_cons_zero, List.getElem?_cons_succ, List.set_cons_zero, List.set_cons_succ, eq_self, if_true, ite_and, ite_or, ite_I, ite_bI, ite_bJ, bI_ne, bI_01, List.cons_append, List.nil_append, Bool.false_eq_true, if_false, kT26 h, q_R_isStation h hR]; rfl) (fun hb => ?_) (fun hb => ?_))
  · have e : inS w a = false := by cases q : inS w a; rfl; rw [q] at hb; cases hb
    rw [e, if_neg Bool.false_ne_true]
    exact wS_r rfl ⟨rfl, σ, rfl, hR, FL.r σ⟩
  · have e : inS w a = true := by cases q : inS w a; rw [q] at hb; cases hb; rfl
    rw [e, if_pos rfl]
    obtain ⟨t, ht, rfl⟩ := inS_i hW e
    have := hW.2.1
    rw [nC_n (by omega)]
    refine wS_l rfl ?_
    refine wSeq (wS_l (by simp only [e_fI, e_fLd, e_fLr, e_fB, e_fD, e_fC, e_fT, e_fAnd, e_fOr, e_fNot, e_fCC, e_fIf, e_gI, e_gR, e_aI, e_aR, e_aN, e_cV, e_cS, e_fNil, e_fAi, e_fAr, e_sSeq, e_sSkip, e_sSt, e_sSr, e_sInc, e_sRI, e_sRR, e_sRV, e_sIf, e_sCall, e_sPI, e_sPZ, e_sPR, e_sPO, e_sAI, e_sAZ, e_sAO, e_sAR, e_sPopI, e_sPopR, e_sCopy, e_mI, e_mZ, e_mR, e_mV, jAdd_n, jMul_n, z0, z1, Option.bind_some, List.getElem?_cons_zero, List.getElem?_cons_succ, List.set_cons_zero, List.set_cons_succ, eq_self, if_true, ite_and, ite_or, ite_I, ite_bI, ite_bJ, bI_ne, bI_01, List.cons_append, List.nil_append, Bool.false_eq_true, if_false, gT26_3 h, wT29 h (show t < 6 by omega)]; rfl) ?_)
    exact wS_r rfl ⟨rfl, _, rfl, hR.u (j := 1) (i := t) (by unfold celQ; omega) (by omega), (FL.r σ).u (by omega)⟩
theorem r_spoil {a : Int32} (h : okB n) (hR : CPr σ w) : ∃ τ, G_R_spoil [.ref 26, .int a] (hs n σ) = some (bI (inP w a), hs n τ) ∧ CPr τ (if inP w a = true then setV w 0 1 a else w) ∧ FL σ τ := by
  refine mZ_t (Nat.le_of_ble_eq_true rfl) ?_
  simp only [jx_L0, List.map_cons, List.map_nil, List.length_cons, List.length_nil, Nat.reduceAdd, Nat.reduceSub, List.replicate, List.cons_append, List.nil_append]
  unfold P_R_spoil inP
  refine wSeq (wIf (by simp only [e_fI, e_fLd, e_fLr, e_fB, e_fD, e_fC, e_fT, e_fAnd, e_fOr, e_fNot, e_fCC, e_fIf, e_gI, e_gR, e_aI, e_aR, e_aN, e_cV, e_cS, e_fNil, e_fAi, e_fAr, e_sSeq, e_sSkip, e_sSt, e_sSr, e_sInc, e_sRI, e_sRR, e_sRV, e_sIf, e_sCall, e_sPI, e_sPZ, e_sPR, e_sPO, e_sAI, e_sAZ, e_sAO, e_sAR, e_sPopI, e_sPopR, e_sCopy, e_mI, e_mZ, e_mR, e_mV, jAdd_n, jMul_n, z0, z1, Option.bind_some, List.getElem?_cons_zero, List.getElem?_cons_succ, List.set_cons_zero, List.set_cons_succ, eq_self, if_true, ite_and, ite_or, ite_I, ite_bI, ite_bJ, bI_ne, bI_01, List.cons_append, List.nil_append, Bool.false_eq_true, if_false, gT26_0 h, hR.ck]; rfl) (fun hb => ?_) (fun hb => ?_))
  · rw [hb]
    exact wS_r rfl ⟨rfl, σ, rfl, hR, FL.r σ⟩
  · rw [hb]
    refine wS_l rfl ?_
    refine wSeq (wS_l (by simp only [e_fI, e_fLd, e_fLr, e_fB, e_fD, e_fC, e_fT, e_fAnd, e_fOr, e_fNot, e_fCC, e_fIf, e_gI, e_gR, e_aI, e_aR, e_aN, e_cV, e_cS, e_fNil, e_fAi, e_fAr, e_sSeq, e_sSkip, e_sSt, e_sSr, e_sInc, e_sRI, e_sRR, e_sRV, e_sIf, e_sCall, e_sPI, e_sPZ, e_sPR, e_sPO, e_sAI, e_sAZ, e_sAO, e_sAR, e_sPopI, e_sPopR, e_sCopy, e_mI, e_mZ, e_mR, e_mV, jAdd_n, jMul_n, z0, z1, Option.bind_some, List.getElem?_cons_zero, List.getElem?_cons_succ, List.set_cons_zero, List.set_cons_succ, eq_self, if_true, ite_and, ite_or, ite_I, ite_bI, ite_bJ, bI_ne, bI_01, List.cons_append, List.nil_append, Bool.false_eq_true, if_false, pT26_21 h]; rfl) ?_)
    exact wS_r rfl ⟨rfl, _, rfl, hR.u (j := 0) (i := 1) (by unfold celQ; omega) (by omega), (FL.r σ).u (by omega)⟩
theorem mW_e (hW : okW w) : vW w 0 6 = nI (mW w) ∧ mW w ≤ 6 ∧ (mW w = 0 → sW w = 0) := ⟨hW.2.2.2.2.2.2.2.2.2.2.1, hW.2.2.2.2.2.2.2.2.2.2.2.1, hW.2.2.2.2.2.2.2.2.2.2.2.2.2.2.1⟩
theorem inI_r {a : Int32} (hW : okW w) : (jEq (vW w 0 6) 0 || jLt a 0 || jGe a (vW w 0 7)) = !inI w a := by
  have e := nio_e (a := a) (b := vW w 0 7)
  have e2 : (jLt a 0 || jGe a (vW w 0 7)) = !inI w a := e
  rw [Bool.or_assoc, e2, (mW_e hW).1, ← nI_0, jEq_n (by have := (mW_e hW).2.1; omega) (by omega)]
  by_cases q : mW w = 0
  · have : inI w a = false := by
      cases k : inI w a with
      | false => rfl
      | true =>
        obtain ⟨t, ht, -⟩ := inI_i hW k
        have := (mW_e hW).2.2 q
        omega
    rw [this, decide_eq_true q]
    rfl
  · rw [decide_eq_false q, Bool.false_or]
theorem r_output {a v : Int32} (h : okB n) (hR : CPr σ w) (hW : okW w) : ∃ τ, G_R_output [.ref 26, .int a, .int v] (hs n σ) = some (bI (inI w a), hs n τ) ∧ CPr τ (if inI w a = true then setV w 2 a.toNatClampNeg (jAnd v (nI 255)) else w) ∧ FL σ τ := by
  refine mZ_t (Nat.le_of_ble_eq_true rfl) ?_
  simp only [jx_L0, List.map_cons, List.map_nil, List.length_cons, List.length_nil, Nat.reduceAdd, Nat.reduceSub, List.replicate, List.cons_append, List.nil_append]
  unfold P_R_output
  refine wSeq (wIf (by simp only [e_fI, e_fLd, e_fLr, e_fB, e_fD, e_fC, e_fT, e_fAnd, e_fOr, e_fNot, e_fCC, e_fIf, e_gI, e_gR, e_aI, e_aR, e_aN, e_cV, e_cS, e_fNil, e_fAi, e_fAr, e_sSeq, e_sSkip, e_sSt, e_sSr, e_sInc, e_sRI, e_sRR, e_sRV, e_sIf, e_sCall, e_sPI, e_sPZ, e_sPR, e_sPO, e_sAI, e_sAZ, e_sAO, e_sAR, e_sPopI, e_sPopR, e_sCopy, e_mI, e_mZ, e_mR, e_mV, jAdd_n, jMul_n, z0, z1, Option.bind_some, List.getElem?_cons_zero, List.getElem?_cons_succ, List.set_cons_zero, List.set_cons_succ, eq_self, if_true, ite_and, ite_or, ite_I, ite_bI, ite_bJ, bI_ne, bI_01, List.cons_append, List.nil_append, Bool.false_eq_true, if_false, gT26_33 h, gT26_34 h, hR.cm, hR.cs, inI_r hW]; rfl) (fun hb => ?_) (fun hb => ?_))
  · have e : inI w a = false := by cases q : inI w a; rfl; rw [q] at hb; cases hb
    rw [e, if_neg Bool.false_ne_true]
    exact wS_r rfl ⟨rfl, σ, rfl, hR, FL.r σ⟩
  · have e : inI w a = true := by cases q : inI w a; rw [q] at hb; cases hb; rfl
    rw [e, if_pos rfl]
    obtain ⟨t, ht, rfl⟩ := inI_i hW e
    have := (sW_e hW).2
    rw [nC_n (by omega)]
    refine wS_l rfl ?_
    refine wSeq (wS_l (by simp only [e_fI, e_fLd, e_fLr, e_fB, e_fD, e_fC, e_fT, e_fAnd, e_fOr, e_fNot, e_fCC, e_fIf, e_gI, e_gR, e_aI, e_aR, e_aN, e_cV, e_cS, e_fNil, e_fAi, e_fAr, e_sSeq, e_sSkip, e_sSt, e_sSr, e_sInc, e_sRI, e_sRR, e_sRV, e_sIf, e_sCall, e_sPI, e_sPZ, e_sPR, e_sPO, e_sAI, e_sAZ, e_sAO, e_sAR, e_sPopI, e_sPopR, e_sCopy, e_mI, e_mZ, e_mR, e_mV, jAdd_n, jMul_n, z0, z1, Option.bind_some, List.getElem?_cons_zero, List.getElem?_cons_succ, List.set_cons_zero, List.set_cons_succ, eq_self, if_true, ite_and, ite_or, ite_I, ite_bI, ite_bJ, bI_ne, bI_01, List.cons_append, List.nil_append, Bool.false_eq_true, if_false, gT26_39 h, wT56 h (show t < 24 by omega)]; rfl) ?_)
    exact wS_r rfl ⟨rfl, _, rfl, hR.u (j := 2) (i := t) (by unfold celQ; omega) (by omega), (FL.r σ).u (by omega)⟩
theorem r_input {a : Int32} (h : okB n) (hR : CPr σ w) (hW : okW w) : G_R_input [.ref 26, .int a] (hs n σ) = some (a_input w a, hs n σ) := by
  refine mI_q (Nat.le_of_ble_eq_true rfl) ?_
  simp only [jx_L0, List.map_cons, List.map_nil, List.length_cons, List.length_nil, Nat.reduceAdd, Nat.reduceSub, List.replicate, List.cons_append, List.nil_append]
  unfold P_R_input a_input
  have hm := mW_e hW
  have hsw := sW_e hW
  have g : jGt (nI (mW w)) 0 = !jEq (nI (mW w)) 0 := jGt0 (by omega)
  have en : (jGt (nI (mW w)) 0 && jGe a 0 && jLt a (nI (sW w))) = inI w a := by
    have := inI_r (a := a) hW
    rw [Bool.or_assoc, nio_e, hm.1, hsw.1] at this
    rw [g, Bool.and_assoc]
    cases q : inI w a with
    | true =>
      rw [q] at this
      have := Bool.or_eq_false_iff.mp this
      rw [this.1]
      cases k : (jGe a 0 && jLt a (nI (sW w)))
      · rw [k] at this; cases this.2
      · rfl
    | false =>
      rw [q] at this
      cases k1 : jEq (nI (mW w)) 0
      · rw [k1] at this
        cases k2 : (jGe a 0 && jLt a (nI (sW w)))
        · rfl
        · rw [k2] at this; cases this
      · rfl
  cases e : inI w a with
  | true =>
    obtain ⟨t, ht, rfl⟩ := inI_i hW e
    refine wS_r (by simp only [e_fI, e_fLd, e_fLr, e_fB, e_fD, e_fC, e_fT, e_fAnd, e_fOr, e_fNot, e_fCC, e_fIf, e_gI, e_gR, e_aI, e_aR, e_aN, e_cV, e_cS, e_fNil, e_fAi, e_fAr, e_sSeq, e_sSkip, e_sSt, e_sSr, e_sInc, e_sRI, e_sRR, e_sRV, e_sIf, e_sCall, e_sPI, e_sPZ, e_sPR, e_sPO, e_sAI, e_sAZ, e_sAO, e_sAR, e_sPopI, e_sPopR, e_sCopy, e_mI, e_mZ, e_mR, e_mV, jAdd_n, jMul_n, z0, z1, Option.bind_some, List.getElem?_cons_zero, List.getElem?_cons_succ, List.set_cons_zero, List.set_cons_succ, eq_self, if_true, ite_and, ite_or, ite_I, ite_bI, ite_bJ, bI_ne, bI_01, List.cons_append, List.nil_append, Bool.false_eq_true, if_false, gT26_33 h, gT26_34 h, hR.cm, hR.cs, hm.1, hsw.1, en, e, gT26_40 h, iT57 h (show t < 24 by omega), hR.gt ht]; rfl) ?_
    rw [if_pos rfl, nC_n (by omega)]
    exact ⟨rfl, rfl⟩
  | false =>
    refine wS_r (by simp only [e_fI, e_fLd, e_fLr, e_fB, e_fD, e_fC, e_fT, e_fAnd, e_fOr, e_fNot, e_fCC, e_fIf, e_gI, e_gR, e_aI, e_aR, e_aN, e_cV, e_cS, e_fNil, e_fAi, e_fAr, e_sSeq, e_sSkip, e_sSt, e_sSr, e_sInc, e_sRI, e_sRR, e_sRV, e_sIf, e_sCall, e_sPI, e_sPZ, e_sPR, e_sPO, e_sAI, e_sAZ, e_sAO, e_sAR, e_sPopI, e_sPopR, e_sCopy, e_mI, e_mZ, e_mR, e_mV, jAdd_n, jMul_n, z0, z1, Option.bind_some, List.getElem?_cons_zero, List.getElem?_cons_succ, List.set_cons_zero, List.set_cons_succ, eq_self, if_true, ite_and, ite_or, ite_I, ite_bI, ite_bJ, bI_ne, bI_01, List.cons_append, List.nil_append, Bool.false_eq_true, if_false, gT26_33 h, gT26_34 h, hR.cm, hR.cs, hm.1, hsw.1, en, e]; rfl) ?_
    exact ⟨rfl, rfl⟩
theorem CPr.sa {τ B : sg} {t : Nat} (h : CPr σ w) (hB : RR τ t B) (hM : ∃ m k, MD τ t m k ∧ mdA B m k) (hF : FX (NC t) σ τ) (ht : t < kW w) : CPr τ (setA w t B) := by
  obtain ⟨h1, h2, h3, h4, h5, h6⟩ := h
  have nb : ∀ a i, NC t a i → 27 ≤ a ∧ a ≤ 43 ∧ a ≠ 29 := fun a i q => by
    rcases q with q | q
    · have := q.b; omega
    · omega
  have ot : ∀ e A, e ≠ t → RR σ e A → RR τ e A := fun e A hne q => q.o hF (fun a i k1 k2 => by
    rcases k2 with k2 | k2
    · exact hne (k1.s k2)
    · have := k1.b; omega)
  have om : ∀ e a, e ≠ t → 34 ≤ a → a ≤ 36 → τ a e = σ a e := fun e a hne g1 g2 => hF a e (fun k => by
    rcases k with k | k
    · have := k.b; omega
    · omega)
  refine ⟨fun j i hc => ?_, ?_, fun e he => ?_, fun e g1 g2 => ?_, fun e he => (h5 e he).o hF (fun a i k1 k2 => by have := nb a i k2; rcases k1 with k1 | k1 <;> omega), fun q e he => (h6 q e he).o hF (fun a i k1 k2 => by have := nb a i k2; rcases k1 with k1 | k1 <;> omega)⟩
  · have hc2 : celQ w j i := hc
    rw [hF _ _ (fun k => by have := nb _ _ k; have := rv_c hc2; omega)]
    exact h1 j i hc2
  · rw [hF 26 20 (fun k => by have := nb _ _ k; omega)]
    exact h2
  · show RR τ e (if e = t then B else w.1 e) ∧ ∃ m k, MD τ e m k ∧ mdA (if e = t then B else w.1 e) m k
    by_cases q : e = t
    · rw [if_pos q, q]
      exact ⟨hB, hM⟩
    · rw [if_neg q]
      obtain ⟨r, m, c, hm, ha⟩ := h3 e he
      refine ⟨ot e _ q r, m, c, ?_, ha⟩
      unfold MD
      rw [om e 34 q (by omega) (by omega), om e 35 q (by omega) (by omega), om e 36 q (by omega) (by omega)]
      exact hm
  · have g1' : kW w ≤ e := g1
    obtain ⟨r, e5, e6⟩ := h4 e g1' g2
    rw [om e 35 (by omega) (by omega) (by omega), om e 36 (by omega) (by omega) (by omega)]
    exact ⟨ot e _ (by omega) r, e5, e6⟩
theorem NC.L {t : Nat} {τ : sg} (h : FX (NC t) σ τ) : FL σ τ := h.L (fun a i q => by
  rcases q with q | q
  · have := q.b; omega
  · omega)
theorem r_sense {a i v : Int32} (h : okB n) (hR : CPr σ w) (hW : okW w) : ∃ τ, G_R_sense [.ref 26, .int a, .int i, .int v] (hs n σ) = some (bI (inO w 1 a i), hs n τ) ∧ CPr τ (if inO w 1 a i = true then setA w a.toNatClampNeg (up (w.1 a.toNatClampNeg) 1 i.toNatClampNeg (jAnd v (nI 255))) else w) ∧ FL σ τ := by
  refine mZ_t (Nat.le_of_ble_eq_true rfl) ?_
  simp only [jx_L0, List.map_cons, List.map_nil, List.length_cons, List.length_nil, Nat.reduceAdd, Nat.reduceSub, List.replicate, List.cons_append, List.nil_append]
  unfold P_R_sense
  cases e : inS w a with
  | false =>
    have e2 : inO w 1 a i = false := by unfold inO; rw [e]; rfl
    rw [e2, if_neg Bool.false_ne_true]
    refine wSeq (wIf (by simp only [e_fI, e_fLd, e_fLr, e_fB, e_fD, e_fC, e_fT, e_fAnd, e_fOr, e_fNot, e_fCC, e_fIf, e_gI, e_gR, e_aI, e_aR, e_aN, e_cV, e_cS, e_fNil, e_fAi, e_fAr, e_sSeq, e_sSkip, e_sSt, e_sSr, e_sInc, e_sRI, e_sRR, e_sRV, e_sIf, e_sCall, e_sPI, e_sPZ, e_sPR, e_sPO, e_sAI, e_sAZ, e_sAO, e_sAR, e_sPopI, e_sPopR, e_sCopy, e_mI, e_mZ, e_mR, e_mV, jAdd_n, jMul_n, z0, z1, Option.bind_some, List.getElem?_cons_zero, List.getElem?_cons_succ, List.set_cons_zero, List.set_cons_succ, eq_self, if_true, ite_and, ite_or, ite_I, ite_bI, ite_bJ, bI_ne, bI_01, List.cons_append, List.nil_append, Bool.false_eq_true, if_false, kT26 h, q_R_isStation h hR, e, Bool.not_false]; rfl) (fun hb => ?_) (fun hb => ?_))
    · exact wS_r rfl ⟨rfl, σ, rfl, hR, FL.r σ⟩
    · cases hb
  | true =>
    obtain ⟨t, ht, rfl⟩ := inS_i hW e
    have hk := hW.2.1
    have hr := hR.rr ht
    have e0 := inO_e (w := w) (o := 1) (a := nI t) (i := i)
    rw [e] at e0
    rw [nC_n (show t < 2 ^ 31 by omega)] at e0 ⊢
    refine wSeq (wIf (by simp only [e_fI, e_fLd, e_fLr, e_fB, e_fD, e_fC, e_fT, e_fAnd, e_fOr, e_fNot, e_fCC, e_fIf, e_gI, e_gR, e_aI, e_aR, e_aN, e_cV, e_cS, e_fNil, e_fAi, e_fAr, e_sSeq, e_sSkip, e_sSt, e_sSr, e_sInc, e_sRI, e_sRR, e_sRV, e_sIf, e_sCall, e_sPI, e_sPZ, e_sPR, e_sPO, e_sAI, e_sAZ, e_sAO, e_sAR, e_sPopI, e_sPopR, e_sCopy, e_mI, e_mZ, e_mR, e_mV, jAdd_n, jMul_n, z0, z1, Option.bind_some, List.getElem?_cons_zero, List.getElem?_cons_succ, List.set_cons_zero, List.set_cons_succ, eq_self, if_true, ite_and, ite_or, ite_I, ite_bI, ite_bJ, bI_ne, bI_01, List.cons_append, List.nil_append, Bool.false_eq_true, if_false, kT26 h, q_R_isStation h hR, e, gT26_2 h, iT28 h (show t < 6 by omega), hr.k1, e0]; rfl) (fun hb => ?_) (fun hb => ?_))
    · have e2 : inO w 1 (nI t) i = false := by cases q : inO w 1 (nI t) i; rfl; rw [q] at hb; cases hb
      rw [e2, if_neg Bool.false_ne_true]
      exact wS_r rfl ⟨rfl, σ, rfl, hR, FL.r σ⟩
    · have e2 : inO w 1 (nI t) i = true := by cases q : inO w 1 (nI t) i; rw [q] at hb; cases hb; rfl
      have oT := (hW.u ht).t
      have e3 : (jGe i 0 && jLt i (nI (iN (w.1 t)))) = true := by
        unfold inO at e2
        rw [nC_n (show t < 2 ^ 31 by omega), oT.2.2.1, e, Bool.true_and] at e2
        exact e2
      obtain ⟨x, hx, rfl⟩ := idx (by have := oT.2.2.2; omega) e3
      have hx2 := oT.2.2.2
      rw [e2, if_pos rfl, nC_n (show x < 2 ^ 31 by omega)]
      refine wS_l rfl ?_
      refine wSeq (wS_l (by simp only [e_fI, e_fLd, e_fLr, e_fB, e_fD, e_fC, e_fT, e_fAnd, e_fOr, e_fNot, e_fCC, e_fIf, e_gI, e_gR, e_aI, e_aR, e_aN, e_cV, e_cS, e_fNil, e_fAi, e_fAr, e_sSeq, e_sSkip, e_sSt, e_sSr, e_sInc, e_sRI, e_sRR, e_sRV, e_sIf, e_sCall, e_sPI, e_sPZ, e_sPR, e_sPO, e_sAI, e_sAZ, e_sAO, e_sAR, e_sPopI, e_sPopR, e_sCopy, e_mI, e_mZ, e_mR, e_mV, jAdd_n, jMul_n, z0, z1, Option.bind_some, List.getElem?_cons_zero, List.getElem?_cons_succ, List.set_cons_zero, List.set_cons_succ, eq_self, if_true, ite_and, ite_or, ite_I, ite_bI, ite_bJ, bI_ne, bI_01, List.cons_append, List.nil_append, Bool.false_eq_true, if_false, gT26_16 h, wT42 h (show 2 * t + x < 12 by omega)]; rfl) ?_)
      have hc : celR 1 x := by unfold celR; omega
      have hF : FX (SC t) σ (up σ 42 (2 * t + x) (jAnd v (nI 255))) := (FX.r _ σ).u (SC.c (j := 1) (i := x) hc)
      obtain ⟨m, k, hM, hmd⟩ := (hR.2.2.1 t ht).2
      exact wS_r rfl ⟨rfl, _, rfl, hR.sa (hr.u (j := 1) (i := x) hc) ⟨m, k, hM.sc hF, md_up hmd (by omega)⟩ (hF.m (fun _ _ => Or.inl)) ht, NC.L (hF.m (fun _ _ => Or.inl))⟩
theorem r_actuator {a i : Int32} (h : okB n) (hR : CPr σ w) (hW : okW w) : G_R_actuator [.ref 26, .int a, .int i] (hs n σ) = some (a_actuator w a i, hs n σ) := by
  refine mI_q (Nat.le_of_ble_eq_true rfl) ?_
  simp only [jx_L0, List.map_cons, List.map_nil, List.length_cons, List.length_nil, Nat.reduceAdd, Nat.reduceSub, List.replicate, List.cons_append, List.nil_append]
  unfold P_R_actuator a_actuator
  cases e : inS w a with
  | false =>
    have e2 : inO w 0 a i = false := by unfold inO; rw [e]; rfl
    rw [e2, if_neg Bool.false_ne_true]
    refine wS_r (by simp only [e_fI, e_fLd, e_fLr, e_fB, e_fD, e_fC, e_fT, e_fAnd, e_fOr, e_fNot, e_fCC, e_fIf, e_gI, e_gR, e_aI, e_aR, e_aN, e_cV, e_cS, e_fNil, e_fAi, e_fAr, e_sSeq, e_sSkip, e_sSt, e_sSr, e_sInc, e_sRI, e_sRR, e_sRV, e_sIf, e_sCall, e_sPI, e_sPZ, e_sPR, e_sPO, e_sAI, e_sAZ, e_sAO, e_sAR, e_sPopI, e_sPopR, e_sCopy, e_mI, e_mZ, e_mR, e_mV, jAdd_n, jMul_n, z0, z1, Option.bind_some, List.getElem?_cons_zero, List.getElem?_cons_succ, List.set_cons_zero, List.set_cons_succ, eq_self, if_true, ite_and, ite_or, ite_I, ite_bI, ite_bJ, bI_ne, bI_01, List.cons_append, List.nil_append, Bool.false_eq_true, if_false, kT26 h, q_R_isStation h hR, e]; rfl) ?_
    exact ⟨rfl, rfl⟩
  | true =>
    obtain ⟨t, ht, rfl⟩ := inS_i hW e
    have hk := hW.2.1
    have hr := hR.rr ht
    have e0 : (true && jGe i 0 && jLt i (w.1 t 0 0)) = inO w 0 (nI t) i := by
      unfold inO
      rw [e, nC_n (show t < 2 ^ 31 by omega)]
    rw [nC_n (show t < 2 ^ 31 by omega)]
    cases e2 : inO w 0 (nI t) i with
    | false =>
      refine wS_r (by simp only [e_fI, e_fLd, e_fLr, e_fB, e_fD, e_fC, e_fT, e_fAnd, e_fOr, e_fNot, e_fCC, e_fIf, e_gI, e_gR, e_aI, e_aR, e_aN, e_cV, e_cS, e_fNil, e_fAi, e_fAr, e_sSeq, e_sSkip, e_sSt, e_sSr, e_sInc, e_sRI, e_sRR, e_sRV, e_sIf, e_sCall, e_sPI, e_sPZ, e_sPR, e_sPO, e_sAI, e_sAZ, e_sAO, e_sAR, e_sPopI, e_sPopR, e_sCopy, e_mI, e_mZ, e_mR, e_mV, jAdd_n, jMul_n, z0, z1, Option.bind_some, List.getElem?_cons_zero, List.getElem?_cons_succ, List.set_cons_zero, List.set_cons_succ, eq_self, if_true, ite_and, ite_or, ite_I, ite_bI, ite_bJ, bI_ne, bI_01, List.cons_append, List.nil_append, Bool.false_eq_true, if_false, kT26 h, q_R_isStation h hR, e, gT26_1 h, iT27 h (show t < 6 by omega), hr.k0, e0, e2]; rfl) ?_
      exact ⟨rfl, rfl⟩
    | true =>
      have oT := (hW.u ht).t
      have e3 : (jGe i 0 && jLt i (nI (oN (w.1 t)))) = true := by rw [← oT.1, ← Bool.true_and (jGe i 0), e0]; exact e2
      obtain ⟨x, hx, rfl⟩ := idx (by have := oT.2.1; omega) e3
      have hx2 := oT.2.1
      have o2 : σ 43 (2 * t + x) = w.1 t 2 x := hr 2 x (by unfold celR; omega)
      refine wS_r (by simp only [e_fI, e_fLd, e_fLr, e_fB, e_fD, e_fC, e_fT, e_fAnd, e_fOr, e_fNot, e_fCC, e_fIf, e_gI, e_gR, e_aI, e_aR, e_aN, e_cV, e_cS, e_fNil, e_fAi, e_fAr, e_sSeq, e_sSkip, e_sSt, e_sSr, e_sInc, e_sRI, e_sRR, e_sRV, e_sIf, e_sCall, e_sPI, e_sPZ, e_sPR, e_sPO, e_sAI, e_sAZ, e_sAO, e_sAR, e_sPopI, e_sPopR, e_sCopy, e_mI, e_mZ, e_mR, e_mV, jAdd_n, jMul_n, z0, z1, Option.bind_some, List.getElem?_cons_zero, List.getElem?_cons_succ, List.set_cons_zero, List.set_cons_succ, eq_self, if_true, ite_and, ite_or, ite_I, ite_bI, ite_bJ, bI_ne, bI_01, List.cons_append, List.nil_append, Bool.false_eq_true, if_false, kT26 h, q_R_isStation h hR, e, gT26_1 h, iT27 h (show t < 6 by omega), hr.k0, e0, e2, gT26_17 h, iT43 h (show 2 * t + x < 12 by omega), o2]; rfl) ?_
      rw [if_pos rfl, nC_n (show x < 2 ^ 31 by omega)]
      exact ⟨rfl, rfl⟩
theorem r_state {a : Int32} (h : okB n) (hR : CPr σ w) (hW : okW w) : G_R_state [.ref 26, .int a] (hs n σ) = some (a_state w a, hs n σ) := by
  refine mI_q (Nat.le_of_ble_eq_true rfl) ?_
  simp only [jx_L0, List.map_cons, List.map_nil, List.length_cons, List.length_nil, Nat.reduceAdd, Nat.reduceSub, List.replicate, List.cons_append, List.nil_append]
  unfold P_R_state a_state
  cases e : inS w a with
  | false =>
    refine wS_r (by simp only [e_fI, e_fLd, e_fLr, e_fB, e_fD, e_fC, e_fT, e_fAnd, e_fOr, e_fNot, e_fCC, e_fIf, e_gI, e_gR, e_aI, e_aR, e_aN, e_cV, e_cS, e_fNil, e_fAi, e_fAr, e_sSeq, e_sSkip, e_sSt, e_sSr, e_sInc, e_sRI, e_sRR, e_sRV, e_sIf, e_sCall, e_sPI, e_sPZ, e_sPR, e_sPO, e_sAI, e_sAZ, e_sAO, e_sAR, e_sPopI, e_sPopR, e_sCopy, e_mI, e_mZ, e_mR, e_mV, jAdd_n, jMul_n, z0, z1, Option.bind_some, List.getElem?_cons_zero, List.getElem?_cons_succ, List.set_cons_zero, List.set_cons_succ, eq_self, if_true, ite_and, ite_or, ite_I, ite_bI, ite_bJ, bI_ne, bI_01, List.cons_append, List.nil_append, Bool.false_eq_true, if_false, kT26 h, q_R_isStation h hR, e]; rfl) ?_
    exact ⟨rfl, rfl⟩
  | true =>
    obtain ⟨t, ht, rfl⟩ := inS_i hW e
    have hk := hW.2.1
    have hr := hR.rr ht
    refine wS_r (by simp only [e_fI, e_fLd, e_fLr, e_fB, e_fD, e_fC, e_fT, e_fAnd, e_fOr, e_fNot, e_fCC, e_fIf, e_gI, e_gR, e_aI, e_aR, e_aN, e_cV, e_cS, e_fNil, e_fAi, e_fAr, e_sSeq, e_sSkip, e_sSt, e_sSr, e_sInc, e_sRI, e_sRR, e_sRV, e_sIf, e_sCall, e_sPI, e_sPZ, e_sPR, e_sPO, e_sAI, e_sAZ, e_sAO, e_sAR, e_sPopI, e_sPopR, e_sCopy, e_mI, e_mZ, e_mR, e_mV, jAdd_n, jMul_n, z0, z1, Option.bind_some, List.getElem?_cons_zero, List.getElem?_cons_succ, List.set_cons_zero, List.set_cons_succ, eq_self, if_true, ite_and, ite_or, ite_I, ite_bI, ite_bJ, bI_ne, bI_01, List.cons_append, List.nil_append, Bool.false_eq_true, if_false, kT26 h, q_R_isStation h hR, e, q_R_at h hr (show t < 6 by omega) (show 2 < 128 by omega), q_R_at h hr (show t < 6 by omega) (show 3 < 128 by omega)]; rfl) ?_
    rw [if_pos rfl, nC_n (show t < 2 ^ 31 by omega)]
    exact ⟨rfl, rfl⟩
end CAR
