/-! the program's calls: the short ones -/
section CAC
variable {n X : Nat} {σ : sg} {w : wd}
theorem CPc.B (h : CPc n X σ w) : okB n := by unfold okB; have := h.1; omega
theorem CPc.ck (h : CPc n X σ w) : σ 1 2 = vW w 0 0 := h.2.2.2.2.1 0 0 (by unfold celV; omega)
theorem CPc.cp (h : CPc n X σ w) : σ 1 3 = vW w 0 1 := h.2.2.2.2.1 0 1 (by unfold celV; omega)
theorem CPc.cb (h : CPc n X σ w) : σ 0 4 = vW w 0 2 := h.2.2.2.2.1 0 2 (by unfold celV; omega)
theorem CPc.cf (h : CPc n X σ w) : σ 0 5 = vW w 0 3 := h.2.2.2.2.1 0 3 (by unfold celV; omega)
theorem CPc.cy (h : CPc n X σ w) : σ (28 - X) 1 = vW w 0 4 := h.2.2.2.2.1 0 4 (by unfold celV; omega)
theorem CPc.cz (h : CPc n X σ w) : σ X 1 = vW w 0 5 := h.2.2.2.2.1 0 5 (by unfold celV; omega)
theorem CPc.cm (h : CPc n X σ w) : σ 4 5 = vW w 0 6 := h.2.2.2.2.1 0 6 (by unfold celV; omega)
theorem CPc.cs (h : CPc n X σ w) : σ 4 6 = vW w 0 7 := h.2.2.2.2.1 0 7 (by unfold celV; omega)
theorem CPc.br {i : Nat} (h : CPc n X σ w) (hi : i < 6) : σ 3 i = vW w 1 i := h.2.2.2.2.1 1 i (by unfold celV; omega)
theorem CPc.st {i : Nat} (h : CPc n X σ w) (hi : i < 24) : σ 5 i = vW w 2 i := h.2.2.2.2.1 2 i (by unfold celV; omega)
theorem CPc.gt {i : Nat} (h : CPc n X σ w) (hi : i < 24) : σ 6 i = vW w 3 i := h.2.2.2.2.1 3 i (by unfold celV; omega)
/-- a station's number; a place of the image -/
def inS (w : wd) (a : Int32) : Bool := jGe a 0 && jLt a (vW w 0 0)
def inI (w : wd) (a : Int32) : Bool := jGe a 0 && jLt a (vW w 0 7)
theorem inS_i {a : Int32} (hW : okW w) (h : inS w a = true) : ∃ t, t < kW w ∧ a = nI t := by
  unfold inS at h
  rw [hW.1] at h
  exact idx (by have := hW.2.1; omega) h
theorem sW_e (hW : okW w) : vW w 0 7 = nI (sW w) ∧ sW w ≤ 24 := ⟨hW.2.2.2.2.2.2.2.2.2.2.2.2.1, hW.2.2.2.2.2.2.2.2.2.2.2.2.2.1⟩
theorem inI_i {a : Int32} (hW : okW w) (h : inI w a = true) : ∃ t, t < sW w ∧ a = nI t := by
  unfold inI at h
  rw [(sW_e hW).1] at h
  exact idx (by have := (sW_e hW).2; omega) h
theorem nio_e {a b : Int32} : (jLt a 0 || jGe a b) = !(jGe a 0 && jLt a b) := by
  have e1 : jGe a 0 = !jLt a 0 := by
    unfold jGe jLt
    rw [← decide_not]
    exact decide_eq_decide.mpr (by rw [Int32.not_lt])
  have e2 : jLt a b = !jGe a b := by
    unfold jGe jLt
    rw [← decide_not]
    exact decide_eq_decide.mpr (by rw [Int32.not_le])
  rw [e1, e2]
  cases jLt a 0 <;> cases jGe a b <;> rfl
theorem q_N_hasStation {a : Int32} (hC : CPc n X σ w) : G_N_hasStation [.ref 1, .int a] (hs n σ) = some (bI (inS w a), hs n σ) := by
  refine mZ_q (Nat.le_of_ble_eq_true rfl) ?_
  simp only [jx_L0, List.map_cons, List.map_nil, List.length_cons, List.length_nil, Nat.reduceAdd, Nat.reduceSub, List.replicate, List.cons_append, List.nil_append]
  unfold P_N_hasStation
  refine wS_r (by simp only [e_fI, e_fLd, e_fLr, e_fB, e_fD, e_fC, e_fT, e_fAnd, e_fOr, e_fNot, e_fCC, e_fIf, e_gI, e_gR, e_aI, e_aR, e_aN, e_cV, e_cS, e_fNil, e_fAi, e_fAr, e_sSeq, e_sSkip, e_sSt, e_sSr, e_sInc, e_sRI, e_sRR, e_sRV, e_sIf, e_sCall, e_sPI, e_sPZ, e_sPR, e_sPO, e_sAI, e_sAZ, e_sAO, e_sAR, e_sPopI, e_sPopR, e_sCopy, e_mI, e_mZ, e_mR, e_mV, jAdd_n, jMul_n, z0, z1, Option.bind_some, List.getElem?_cons_zero, List.getElem?_cons_succ, List.set_cons_zero, List.set_cons_succ, eq_self, if_true, ite_and, ite_or, ite_I, ite_bI, ite_bJ, bI_ne, bI_01, List.cons_append, List.nil_append, Bool.false_eq_true, if_false, gT1_2 hC.B, hC.ck]; rfl) ?_
  exact ⟨rfl, rfl⟩
theorem c_cut {a : Int32} {b : Bool} (hC : CPc n X σ w) (hW : okW w) : ∃ τ, G_L_cut [.ref 0, .int a, .int (bI b)] (hs n σ) = some (bI (inS w a), hs n τ) ∧ CPc n X τ (if inS w a = true then setV w 1 a.toNatClampNeg (bI b) else w) ∧ FK σ τ := by
  have h := hC.B
  refine mZ_t (Nat.le_of_ble_eq_true rfl) ?_
  simp only [jx_L0, List.map_cons, List.map_nil, List.length_cons, List.length_nil, Nat.reduceAdd, Nat.reduceSub, List.replicate, List.cons_append, List.nil_append]
  unfold P_L_cut
  refine wSeq (wIf (by simp only [e_fI, e_fLd, e_fLr, e_fB, e_fD, e_fC, e_fT, e_fAnd, e_fOr, e_fNot, e_fCC, e_fIf, e_gI, e_gR, e_aI, e_aR, e_aN, e_cV, e_cS, e_fNil, e_fAi, e_fAr, e_sSeq, e_sSkip, e_sSt, e_sSr, e_sInc, e_sRI, e_sRR, e_sRV, e_sIf, e_sCall, e_sPI, e_sPZ, e_sPR, e_sPO, e_sAI, e_sAZ, e_sAO, e_sAR, e_sPopI, e_sPopR, e_sCopy, e_mI, e_mZ, e_mR, e_mV, jAdd_n, jMul_n, z0, z1, Option.bind_some, List.getElem?_cons_zero, List.getElem?_cons_succ, List.set_cons_zero, List.set_cons_succ, eq_self, if_true, ite_and, ite_or, ite_I, ite_bI, ite_bJ, bI_ne, bI_01, List.cons_append, List.nil_append, Bool.false_eq_true, if_false, gT0_0 h, kT1 h, q_N_hasStation hC]; rfl) (fun hb => ?_) (fun hb => ?_))
  · have e : inS w a = false := by cases q : inS w a; rfl; rw [q] at hb; cases hb
    rw [e, if_neg Bool.false_ne_true]
    exact wS_r rfl ⟨rfl, σ, rfl, hC, FK.r σ⟩
  · have e : inS w a = true := by cases q : inS w a; rw [q] at hb; cases hb; rfl
    rw [e, if_pos rfl]
    obtain ⟨t, ht, rfl⟩ := inS_i hW e
    have := hW.2.1
    rw [nC_n (by omega)]
    refine wS_l rfl ?_
    refine wSeq (wS_l (by simp only [e_fI, e_fLd, e_fLr, e_fB, e_fD, e_fC, e_fT, e_fAnd, e_fOr, e_fNot, e_fCC, e_fIf, e_gI, e_gR, e_aI, e_aR, e_aN, e_cV, e_cS, e_fNil, e_fAi, e_fAr, e_sSeq, e_sSkip, e_sSt, e_sSr, e_sInc, e_sRI, e_sRR, e_sRV, e_sIf, e_sCall, e_sPI, e_sPZ, e_sPR, e_sPO, e_sAI, e_sAZ, e_sAO, e_sAR, e_sPopI, e_sPopR, e_sCopy, e_mI, e_mZ, e_mR, e_mV, jAdd_n, jMul_n, z0, z1, Option.bind_some, List.getElem?_cons_zero, List.getElem?_cons_succ, List.set_cons_zero, List.set_cons_succ, eq_self, if_true, ite_and, ite_or, ite_I, ite_bI, ite_bJ, bI_ne, bI_01, List.cons_append, List.nil_append, Bool.false_eq_true, if_false, gT0_0 h, gT1_1 h, wT3 h (show t < 6 by omega)]; rfl) ?_)
    exact wS_r rfl ⟨rfl, _, rfl, hC.u (j := 1) (i := t) (by unfold celV; omega) (by omega), (FK.r σ).u (by omega)⟩
def inP (w : wd) (a : Int32) : Bool := !(jLt a 0 || jGt a (vW w 0 0))
theorem c_spoil {a : Int32} (hC : CPc n X σ w) : ∃ τ, G_L_spoil [.ref 0, .int a] (hs n σ) = some (bI (inP w a), hs n τ) ∧ CPc n X τ (if inP w a = true then setV w 0 1 a else w) ∧ FK σ τ := by
  have h := hC.B
  refine mZ_t (Nat.le_of_ble_eq_true rfl) ?_
  simp only [jx_L0, List.map_cons, List.map_nil, List.length_cons, List.length_nil, Nat.reduceAdd, Nat.reduceSub, List.replicate, List.cons_append, List.nil_append]
  unfold P_L_spoil inP
  refine wSeq (wIf (by simp only [e_fI, e_fLd, e_fLr, e_fB, e_fD, e_fC, e_fT, e_fAnd, e_fOr, e_fNot, e_fCC, e_fIf, e_gI, e_gR, e_aI, e_aR, e_aN, e_cV, e_cS, e_fNil, e_fAi, e_fAr, e_sSeq, e_sSkip, e_sSt, e_sSr, e_sInc, e_sRI, e_sRR, e_sRV, e_sIf, e_sCall, e_sPI, e_sPZ, e_sPR, e_sPO, e_sAI, e_sAZ, e_sAO, e_sAR, e_sPopI, e_sPopR, e_sCopy, e_mI, e_mZ, e_mR, e_mV, jAdd_n, jMul_n, z0, z1, Option.bind_some, List.getElem?_cons_zero, List.getElem?_cons_succ, List.set_cons_zero, List.set_cons_succ, eq_self, if_true, ite_and, ite_or, ite_I, ite_bI, ite_bJ, bI_ne, bI_01, List.cons_append, List.nil_append, Bool.false_eq_true, if_false, gT0_0 h, gT1_2 h, hC.ck]; rfl) (fun hb => ?_) (fun hb => ?_))
  · rw [hb]
    exact wS_r rfl ⟨rfl, σ, rfl, hC, FK.r σ⟩
  · rw [hb]
    refine wS_l rfl ?_
    refine wSeq (wS_l (by simp only [e_fI, e_fLd, e_fLr, e_fB, e_fD, e_fC, e_fT, e_fAnd, e_fOr, e_fNot, e_fCC, e_fIf, e_gI, e_gR, e_aI, e_aR, e_aN, e_cV, e_cS, e_fNil, e_fAi, e_fAr, e_sSeq, e_sSkip, e_sSt, e_sSr, e_sInc, e_sRI, e_sRR, e_sRV, e_sIf, e_sCall, e_sPI, e_sPZ, e_sPR, e_sPO, e_sAI, e_sAZ, e_sAO, e_sAR, e_sPopI, e_sPopR, e_sCopy, e_mI, e_mZ, e_mR, e_mV, jAdd_n, jMul_n, z0, z1, Option.bind_some, List.getElem?_cons_zero, List.getElem?_cons_succ, List.set_cons_zero, List.set_cons_succ, eq_self, if_true, ite_and, ite_or, ite_I, ite_bI, ite_bJ, bI_ne, bI_01, List.cons_append, List.nil_append, Bool.false_eq_true, if_false, gT0_0 h, pT1_3 h]; rfl) ?_)
    exact wS_r rfl ⟨rfl, _, rfl, hC.u (j := 0) (i := 1) (by unfold celV; omega) (by omega), (FK.r σ).u (by omega)⟩
theorem c_output {a v : Int32} (hC : CPc n X σ w) (hW : okW w) : ∃ τ, G_L_output [.ref 0, .int a, .int v] (hs n σ) = some (bI (inI w a), hs n τ) ∧ CPc n X τ (if inI w a = true then setV w 2 a.toNatClampNeg (jAnd v (nI 255)) else w) ∧ FK σ τ := by
  have h := hC.B
  refine mZ_t (Nat.le_of_ble_eq_true rfl) ?_
  simp only [jx_L0, List.map_cons, List.map_nil, List.length_cons, List.length_nil, Nat.reduceAdd, Nat.reduceSub, List.replicate, List.cons_append, List.nil_append]
  unfold P_L_output
  have en : (jLt a 0 || jGe a (vW w 0 7)) = !inI w a := nio_e
  refine wSeq (wIf (by simp only [e_fI, e_fLd, e_fLr, e_fB, e_fD, e_fC, e_fT, e_fAnd, e_fOr, e_fNot, e_fCC, e_fIf, e_gI, e_gR, e_aI, e_aR, e_aN, e_cV, e_cS, e_fNil, e_fAi, e_fAr, e_sSeq, e_sSkip, e_sSt, e_sSr, e_sInc, e_sRI, e_sRR, e_sRV, e_sIf, e_sCall, e_sPI, e_sPZ, e_sPR, e_sPO, e_sAI, e_sAZ, e_sAO, e_sAR, e_sPopI, e_sPopR, e_sCopy, e_mI, e_mZ, e_mR, e_mV, jAdd_n, jMul_n, z0, z1, Option.bind_some, List.getElem?_cons_zero, List.getElem?_cons_succ, List.set_cons_zero, List.set_cons_succ, eq_self, if_true, ite_and, ite_or, ite_I, ite_bI, ite_bJ, bI_ne, bI_01, List.cons_append, List.nil_append, Bool.false_eq_true, if_false, gT0_1 h, gT4_6 h, hC.cs, en]; rfl) (fun hb => ?_) (fun hb => ?_))
  · have e : inI w a = false := by cases q : inI w a; rfl; rw [q] at hb; cases hb
    rw [e, if_neg Bool.false_ne_true]
    exact wS_r rfl ⟨rfl, σ, rfl, hC, FK.r σ⟩
  · have e : inI w a = true := by cases q : inI w a; rw [q] at hb; cases hb; rfl
    rw [e, if_pos rfl]
    obtain ⟨t, ht, rfl⟩ := inI_i hW e
    have := (sW_e hW).2
    rw [nC_n (by omega)]
    refine wS_l rfl ?_
    refine wSeq (wS_l (by simp only [e_fI, e_fLd, e_fLr, e_fB, e_fD, e_fC, e_fT, e_fAnd, e_fOr, e_fNot, e_fCC, e_fIf, e_gI, e_gR, e_aI, e_aR, e_aN, e_cV, e_cS, e_fNil, e_fAi, e_fAr, e_sSeq, e_sSkip, e_sSt, e_sSr, e_sInc, e_sRI, e_sRR, e_sRV, e_sIf, e_sCall, e_sPI, e_sPZ, e_sPR, e_sPO, e_sAI, e_sAZ, e_sAO, e_sAR, e_sPopI, e_sPopR, e_sCopy, e_mI, e_mZ, e_mR, e_mV, jAdd_n, jMul_n, z0, z1, Option.bind_some, List.getElem?_cons_zero, List.getElem?_cons_succ, List.set_cons_zero, List.set_cons_succ, eq_self, if_true, ite_and, ite_or, ite_I, ite_bI, ite_bJ, bI_ne, bI_01, List.cons_append, List.nil_append, Bool.false_eq_true, if_false, gT0_1 h, gT4_0 h, wT5 h (show t < 24 by omega)]; rfl) ?_)
    exact wS_r rfl ⟨rfl, _, rfl, hC.u (j := 2) (i := t) (by unfold celV; omega) (by omega), (FK.r σ).u (by omega)⟩
def a_input (w : wd) (a : Int32) : Int32 := if inI w a = true then vW w 3 a.toNatClampNeg else -1
theorem c_input {a : Int32} (hC : CPc n X σ w) (hW : okW w) : G_L_input [.ref 0, .int a] (hs n σ) = some (a_input w a, hs n σ) := by
  have h := hC.B
  refine mI_q (Nat.le_of_ble_eq_true rfl) ?_
  simp only [jx_L0, List.map_cons, List.map_nil, List.length_cons, List.length_nil, Nat.reduceAdd, Nat.reduceSub, List.replicate, List.cons_append, List.nil_append]
  unfold P_L_input a_input
  have en : (jGe a 0 && jLt a (vW w 0 7)) = inI w a := rfl
  cases e : inI w a with
  | true =>
    obtain ⟨t, ht, rfl⟩ := inI_i hW e
    have := (sW_e hW).2
    refine wS_r (by simp only [e_fI, e_fLd, e_fLr, e_fB, e_fD, e_fC, e_fT, e_fAnd, e_fOr, e_fNot, e_fCC, e_fIf, e_gI, e_gR, e_aI, e_aR, e_aN, e_cV, e_cS, e_fNil, e_fAi, e_fAr, e_sSeq, e_sSkip, e_sSt, e_sSr, e_sInc, e_sRI, e_sRR, e_sRV, e_sIf, e_sCall, e_sPI, e_sPZ, e_sPR, e_sPO, e_sAI, e_sAZ, e_sAO, e_sAR, e_sPopI, e_sPopR, e_sCopy, e_mI, e_mZ, e_mR, e_mV, jAdd_n, jMul_n, z0, z1, Option.bind_some, List.getElem?_cons_zero, List.getElem?_cons_succ, List.set_cons_zero, List.set_cons_succ, eq_self, if_true, ite_and, ite_or, ite_I, ite_bI, ite_bJ, bI_ne, bI_01, List.cons_append, List.nil_append, Bool.false_eq_true, if_false, gT0_1 h, gT4_6 h, hC.cs, en, e, gT4_1 h, iT6 h (show t < 24 by omega), hC.gt (show t < 24 by omega)]; rfl) ?_
    rw [if_pos rfl, nC_n (by omega)]
    exact ⟨rfl, rfl⟩
  | false =>
    refine wS_r (by simp only [e_fI, e_fLd, e_fLr, e_fB, e_fD, e_fC, e_fT, e_fAnd, e_fOr, e_fNot, e_fCC, e_fIf, e_gI, e_gR, e_aI, e_aR, e_aN, e_cV, e_cS, e_fNil, e_fAi, e_fAr, e_sSeq, e_sSkip, e_sSt, e_sSr, e_sInc, e_sRI, e_sRR, e_sRV, e_sIf, e_sCall, e_sPI, e_sPZ, e_sPR, e_sPO, e_sAI, e_sAZ, e_sAO, e_sAR, e_sPopI, e_sPopR, e_sCopy, e_mI, e_mZ, e_mR, e_mV, jAdd_n, jMul_n, z0, z1, Option.bind_some, List.getElem?_cons_zero, List.getElem?_cons_succ, List.set_cons_zero, List.set_cons_succ, eq_self, if_true, ite_and, ite_or, ite_I, ite_bI, ite_bJ, bI_ne, bI_01, List.cons_append, List.nil_append, Bool.false_eq_true, if_false, gT0_1 h, gT4_6 h, hC.cs, en, e]; rfl) ?_
    exact ⟨rfl, rfl⟩
theorem CPc.rc {t : Nat} (h : CPc n X σ w) (ht : t < kW w) : RC σ t (w.1 t) := h.2.2.2.2.2.1 t ht
theorem CPc.oS {t : Nat} (h : CPc n X σ w) (ht : t < kW w) : okS n t := by unfold okS; have := h.1; omega
theorem CPc.it {t : Nat} (h : CPc n X σ w) (hW : okW w) (ht : t < kW w) : hp_i (hs n σ) 2 53 (nI t) = some (.ref (sa t 0)) := iTs h.B (h.ck.trans hW.1) hW.2.1 ht
def setA (w : wd) (t : Nat) (B : sg) : wd := (fun e => if e = t then B else w.1 e, w.2.1, w.2.2.1, w.2.2.2)
theorem CPc.sa {τ B : sg} {t : Nat} (h : CPc n X σ w) (hB : RC τ t B) (hF : FS t σ τ) : CPc n X τ (setA w t B) := by
  obtain ⟨h1, ⟨hX, hy, hz⟩, h2, h3, h4, h5, h6, h7⟩ := h
  have hb : X = 10 ∨ X = 18 := hX
  have lo : ∀ a, a < 58 → τ a = σ a := fun a ha => hF a (fun j _ => by have := sa_ge t j; omega)
  refine ⟨h1, ⟨hX, hy, hz⟩, by rw [lo 0 (by omega)]; exact h2, by rw [lo 0 (by omega)]; exact h3, fun j i hc => ?_, fun e he => ?_, fun e he => (h6 e he).keep (lo _ (by have : e < yW w := he; omega)) (lo _ (by have : e < yW w := he; omega)), fun e he => (h7 e he).keep (lo _ (by have : e < zW w := he; omega)) (lo _ (by have : e < zW w := he; omega))⟩
  · rw [lo _ (by have := cva_b hX hc; omega)]
    exact h4 j i hc
  · show RC τ e (if e = t then B else w.1 e)
    by_cases q : e = t
    · rw [if_pos q, q]
      exact hB
    · rw [if_neg q]
      exact (h5 e he).ot (fun j hj => hF _ (fun j' hj' => by rw [Ne, sa_inj hj hj']; omega))
theorem FS.K {t : Nat} {τ : sg} (h : FS t σ τ) : FK σ τ := fun a _ h2 => h a (fun j _ => by have := sa_ge t j; omega)
def inO (w : wd) (o : Nat) (a i : Int32) : Bool := inS w a && jGe i 0 && jLt i (w.1 a.toNatClampNeg 0 o)
theorem inO_e {o : Nat} {a i : Int32} : (!inS w a || jLt i 0 || jGe i (w.1 a.toNatClampNeg 0 o)) = !inO w o a i := by
  unfold inO
  have := nio_e (a := i) (b := w.1 a.toNatClampNeg 0 o)
  rw [Bool.or_assoc, this]
  cases inS w a <;> cases jGe i 0 <;> cases jLt i (w.1 a.toNatClampNeg 0 o) <;> rfl
theorem okU.t {A : sg} (h : okU A) : okT A := h.2.2.1
theorem okW.u {t : Nat} (h : okW w) (ht : t < kW w) : okU (w.1 t) := h.2.2.2.2.2.2.2.2.2.2.2.2.2.2.2.1 t ht
theorem c_sense {a i v : Int32} (hC : CPc n X σ w) (hW : okW w) : ∃ τ, G_L_sense [.ref 0, .int a, .int i, .int v] (hs n σ) = some (bI (inO w 1 a i), hs n τ) ∧ CPc n X τ (if inO w 1 a i = true then setA w a.toNatClampNeg (up (w.1 a.toNatClampNeg) 1 i.toNatClampNeg (jAnd v (nI 255))) else w) ∧ FK σ τ := by
  have h := hC.B
  refine mZ_t (Nat.le_of_ble_eq_true rfl) ?_
  simp only [jx_L0, List.map_cons, List.map_nil, List.length_cons, List.length_nil, Nat.reduceAdd, Nat.reduceSub, List.replicate, List.cons_append, List.nil_append]
  unfold P_L_sense
  cases e : inS w a with
  | false =>
    have e2 : inO w 1 a i = false := by unfold inO; rw [e]; rfl
    rw [e2, if_neg Bool.false_ne_true]
    refine wSeq (wIf (by simp only [e_fI, e_fLd, e_fLr, e_fB, e_fD, e_fC, e_fT, e_fAnd, e_fOr, e_fNot, e_fCC, e_fIf, e_gI, e_gR, e_aI, e_aR, e_aN, e_cV, e_cS, e_fNil, e_fAi, e_fAr, e_sSeq, e_sSkip, e_sSt, e_sSr, e_sInc, e_sRI, e_sRR, e_sRV, e_sIf, e_sCall, e_sPI, e_sPZ, e_sPR, e_sPO, e_sAI, e_sAZ, e_sAO, e_sAR, e_sPopI, e_sPopR, e_sCopy, e_mI, e_mZ, e_mR, e_mV, jAdd_n, jMul_n, z0, z1, Option.bind_some, List.getElem?_cons_zero, List.getElem?_cons_succ, List.set_cons_zero, List.set_cons_succ, eq_self, if_true, ite_and, ite_or, ite_I, ite_bI, ite_bJ, bI_ne, bI_01, List.cons_append, List.nil_append, Bool.false_eq_true, if_false, gT0_0 h, kT1 h, q_N_hasStation hC, e, Bool.not_false]; rfl) (fun hb => ?_) (fun hb => ?_))
    · exact wS_r rfl ⟨rfl, σ, rfl, hC, FK.r σ⟩
    · cases hb
  | true =>
    obtain ⟨t, ht, rfl⟩ := inS_i hW e
    have hk := hW.2.1
    have hS := hC.oS ht
    have hR := hC.rc ht
    have e0 := inO_e (w := w) (o := 1) (a := nI t) (i := i)
    rw [e] at e0
    rw [nC_n (show t < 2 ^ 31 by omega)] at e0 ⊢
    have o1 : σ (sa t 0) 1 = w.1 t 0 1 := hR.at (j := 0) 1 (by omega)
    refine wSeq (wIf (by simp only [e_fI, e_fLd, e_fLr, e_fB, e_fD, e_fC, e_fT, e_fAnd, e_fOr, e_fNot, e_fCC, e_fIf, e_gI, e_gR, e_aI, e_aR, e_aN, e_cV, e_cS, e_fNil, e_fAi, e_fAr, e_sSeq, e_sSkip, e_sSt, e_sSr, e_sInc, e_sRI, e_sRR, e_sRV, e_sIf, e_sCall, e_sPI, e_sPZ, e_sPR, e_sPO, e_sAI, e_sAZ, e_sAO, e_sAR, e_sPopI, e_sPopR, e_sCopy, e_mI, e_mZ, e_mR, e_mV, jAdd_n, jMul_n, z0, z1, Option.bind_some, List.getElem?_cons_zero, List.getElem?_cons_succ, List.set_cons_zero, List.set_cons_succ, eq_self, if_true, ite_and, ite_or, ite_I, ite_bI, ite_bJ, bI_ne, bI_01, List.cons_append, List.nil_append, Bool.false_eq_true, if_false, gT0_0 h, kT1 h, q_N_hasStation hC, e, gT1_0 h, hC.it hW ht, gS0_1 hS, o1, e0]; rfl) (fun hb => ?_) (fun hb => ?_))
    · have e2 : inO w 1 (nI t) i = false := by cases q : inO w 1 (nI t) i; rfl; rw [q] at hb; cases hb
      rw [e2, if_neg Bool.false_ne_true]
      exact wS_r rfl ⟨rfl, σ, rfl, hC, FK.r σ⟩
    · have e2 : inO w 1 (nI t) i = true := by cases q : inO w 1 (nI t) i; rw [q] at hb; cases hb; rfl
      have oT := (hW.u ht).t
      have e3 : (jGe i 0 && jLt i (nI (iN (w.1 t)))) = true := by
        unfold inO at e2
        rw [nC_n (show t < 2 ^ 31 by omega), oT.2.2.1, e, Bool.true_and] at e2
        exact e2
      obtain ⟨x, hx, rfl⟩ := idx (by have := oT.2.2.2; omega) e3
      have hx2 := oT.2.2.2
      rw [e2, if_pos rfl, nC_n (show x < 2 ^ 31 by omega)]
      refine wS_l rfl ?_
      refine wSeq (wS_l (by simp only [e_fI, e_fLd, e_fLr, e_fB, e_fD, e_fC, e_fT, e_fAnd, e_fOr, e_fNot, e_fCC, e_fIf, e_gI, e_gR, e_aI, e_aR, e_aN, e_cV, e_cS, e_fNil, e_fAi, e_fAr, e_sSeq, e_sSkip, e_sSt, e_sSr, e_sInc, e_sRI, e_sRR, e_sRV, e_sIf, e_sCall, e_sPI, e_sPZ, e_sPR, e_sPO, e_sAI, e_sAZ, e_sAO, e_sAR, e_sPopI, e_sPopR, e_sCopy, e_mI, e_mZ, e_mR, e_mV, jAdd_n, jMul_n, z0, z1, Option.bind_some, List.getElem?_cons_zero, List.getElem?_cons_succ, List.set_cons_zero, List.set_cons_succ, eq_self, if_true, ite_and, ite_or, ite_I, ite_bI, ite_bJ, bI_ne, bI_01, List.cons_append, List.nil_append, Bool.false_eq_true, if_false, gT0_0 h, gT1_0 h, hC.it hW ht, gS0_2 hS, wS1 hS (show x < 2 by omega)]; rfl) ?_)
      have hF : FS t σ (up σ (sa t 1) x (jAnd v (nI 255))) := (FS.r t σ).u (by omega)
      exact wS_r rfl ⟨rfl, _, rfl, hC.sa hR.u hF, hF.K⟩
def a_actuator (w : wd) (a i : Int32) : Int32 := if inO w 0 a i = true then w.1 a.toNatClampNeg 2 i.toNatClampNeg else -1
theorem c_actuator {a i : Int32} (hC : CPc n X σ w) (hW : okW w) : G_L_actuator [.ref 0, .int a, .int i] (hs n σ) = some (a_actuator w a i, hs n σ) := by
  have h := hC.B
  refine mI_q (Nat.le_of_ble_eq_true rfl) ?_
  simp only [jx_L0, List.map_cons, List.map_nil, List.length_cons, List.length_nil, Nat.reduceAdd, Nat.reduceSub, List.replicate, List.cons_append, List.nil_append]
  unfold P_L_actuator a_actuator
  cases e : inS w a with
  | false =>
    have e2 : inO w 0 a i = false := by unfold inO; rw [e]; rfl
    rw [e2, if_neg Bool.false_ne_true]
    refine wSeq (wIf (by simp only [e_fI, e_fLd, e_fLr, e_fB, e_fD, e_fC, e_fT, e_fAnd, e_fOr, e_fNot, e_fCC, e_fIf, e_gI, e_gR, e_aI, e_aR, e_aN, e_cV, e_cS, e_fNil, e_fAi, e_fAr, e_sSeq, e_sSkip, e_sSt, e_sSr, e_sInc, e_sRI, e_sRR, e_sRV, e_sIf, e_sCall, e_sPI, e_sPZ, e_sPR, e_sPO, e_sAI, e_sAZ, e_sAO, e_sAR, e_sPopI, e_sPopR, e_sCopy, e_mI, e_mZ, e_mR, e_mV, jAdd_n, jMul_n, z0, z1, Option.bind_some, List.getElem?_cons_zero, List.getElem?_cons_succ, List.set_cons_zero, List.set_cons_succ, eq_self, if_true, ite_and, ite_or, ite_I, ite_bI, ite_bJ, bI_ne, bI_01, List.cons_append, List.nil_append, Bool.false_eq_true, if_false, gT0_0 h, kT1 h, q_N_hasStation hC, e, Bool.not_false]; rfl) (fun hb => ?_) (fun hb => ?_))
    · exact wS_r rfl ⟨rfl, rfl⟩
    · cases hb
  | true =>
    obtain ⟨t, ht, rfl⟩ := inS_i hW e
    have hk := hW.2.1
    have hS := hC.oS ht
    have hR := hC.rc ht
    have e0 := inO_e (w := w) (o := 0) (a := nI t) (i := i)
    rw [e] at e0
    rw [nC_n (show t < 2 ^ 31 by omega)] at e0 ⊢
    have o1 : σ (sa t 0) 0 = w.1 t 0 0 := hR.at (j := 0) 0 (by omega)
    refine wSeq (wIf (by simp only [e_fI, e_fLd, e_fLr, e_fB, e_fD, e_fC, e_fT, e_fAnd, e_fOr, e_fNot, e_fCC, e_fIf, e_gI, e_gR, e_aI, e_aR, e_aN, e_cV, e_cS, e_fNil, e_fAi, e_fAr, e_sSeq, e_sSkip, e_sSt, e_sSr, e_sInc, e_sRI, e_sRR, e_sRV, e_sIf, e_sCall, e_sPI, e_sPZ, e_sPR, e_sPO, e_sAI, e_sAZ, e_sAO, e_sAR, e_sPopI, e_sPopR, e_sCopy, e_mI, e_mZ, e_mR, e_mV, jAdd_n, jMul_n, z0, z1, Option.bind_some, List.getElem?_cons_zero, List.getElem?_cons_succ, List.set_cons_zero, List.set_cons_succ, eq_self, if_true, ite_and, ite_or, ite_I, ite_bI, ite_bJ, bI_ne, bI_01, List.cons_append, List.nil_append, Bool.false_eq_true, if_false, gT0_0 h, kT1 h, q_N_hasStation hC, e, gT1_0 h, hC.it hW ht, gS0_0 hS, o1, e0]; rfl) (fun hb => ?_) (fun hb => ?_))
    · have e2 : inO w 0 (nI t) i = false := by cases q : inO w 0 (nI t) i; rfl; rw [q] at hb; cases hb
      rw [e2, if_neg Bool.false_ne_true]
      exact wS_r rfl ⟨rfl, rfl⟩
    · have e2 : inO w 0 (nI t) i = true := by cases q : inO w 0 (nI t) i; rw [q] at hb; cases hb; rfl
      have oT := (hW.u ht).t
      have e3 : (jGe i 0 && jLt i (nI (oN (w.1 t)))) = true := by
        unfold inO at e2
        rw [nC_n (show t < 2 ^ 31 by omega), oT.1, e, Bool.true_and] at e2
        exact e2
      obtain ⟨x, hx, rfl⟩ := idx (by have := oT.2.1; omega) e3
      have hx2 := oT.2.1
      have o2 : σ (sa t 2) x = w.1 t 2 x := hR.at (j := 2) x (by omega)
      rw [e2, if_pos rfl, nC_n (show x < 2 ^ 31 by omega)]
      refine wS_l rfl ?_
      refine wS_r (by simp only [e_fI, e_fLd, e_fLr, e_fB, e_fD, e_fC, e_fT, e_fAnd, e_fOr, e_fNot, e_fCC, e_fIf, e_gI, e_gR, e_aI, e_aR, e_aN, e_cV, e_cS, e_fNil, e_fAi, e_fAr, e_sSeq, e_sSkip, e_sSt, e_sSr, e_sInc, e_sRI, e_sRR, e_sRV, e_sIf, e_sCall, e_sPI, e_sPZ, e_sPR, e_sPO, e_sAI, e_sAZ, e_sAO, e_sAR, e_sPopI, e_sPopR, e_sCopy, e_mI, e_mZ, e_mR, e_mV, jAdd_n, jMul_n, z0, z1, Option.bind_some, List.getElem?_cons_zero, List.getElem?_cons_succ, List.set_cons_zero, List.set_cons_succ, eq_self, if_true, ite_and, ite_or, ite_I, ite_bI, ite_bJ, bI_ne, bI_01, List.cons_append, List.nil_append, Bool.false_eq_true, if_false, gT0_0 h, gT1_0 h, hC.it hW ht, gS0_3 hS, iS2 hS (show x < 2 by omega), o2]; rfl) ?_
      exact ⟨rfl, rfl⟩
def a_state (w : wd) (a : Int32) : Int32 := if inS w a = true then jAdd (w.1 a.toNatClampNeg 4 2) (jMul (nI 256) (w.1 a.toNatClampNeg 4 3)) else -1
theorem c_state {a : Int32} (hC : CPc n X σ w) (hW : okW w) : G_L_state [.ref 0, .int a] (hs n σ) = some (a_state w a, hs n σ) := by
  have h := hC.B
  refine mI_q (Nat.le_of_ble_eq_true rfl) ?_
  simp only [jx_L0, List.map_cons, List.map_nil, List.length_cons, List.length_nil, Nat.reduceAdd, Nat.reduceSub, List.replicate, List.cons_append, List.nil_append]
  unfold P_L_state a_state
  cases e : inS w a with
  | false =>
    rw [if_neg Bool.false_ne_true]
    refine wSeq (wIf (by simp only [e_fI, e_fLd, e_fLr, e_fB, e_fD, e_fC, e_fT, e_fAnd, e_fOr, e_fNot, e_fCC, e_fIf, e_gI, e_gR, e_aI, e_aR, e_aN, e_cV, e_cS, e_fNil, e_fAi, e_fAr, e_sSeq, e_sSkip, e_sSt, e_sSr, e_sInc, e_sRI, e_sRR, e_sRV, e_sIf, e_sCall, e_sPI, e_sPZ, e_sPR, e_sPO, e_sAI, e_sAZ, e_sAO, e_sAR, e_sPopI, e_sPopR, e_sCopy, e_mI, e_mZ, e_mR, e_mV, jAdd_n, jMul_n, z0, z1, Option.bind_some, List.getElem?_cons_zero, List.getElem?_cons_succ, List.set_cons_zero, List.set_cons_succ, eq_self, if_true, ite_and, ite_or, ite_I, ite_bI, ite_bJ, bI_ne, bI_01, List.cons_append, List.nil_append, Bool.false_eq_true, if_false, gT0_0 h, kT1 h, q_N_hasStation hC, e, Bool.not_false]; rfl) (fun hb => ?_) (fun hb => ?_))
    · exact wS_r rfl ⟨rfl, rfl⟩
    · cases hb
  | true =>
    obtain ⟨t, ht, rfl⟩ := inS_i hW e
    have hk := hW.2.1
    have hS := hC.oS ht
    have hR := hC.rc ht
    rw [if_pos rfl, nC_n (show t < 2 ^ 31 by omega)]
    refine wSeq (wIf (by simp only [e_fI, e_fLd, e_fLr, e_fB, e_fD, e_fC, e_fT, e_fAnd, e_fOr, e_fNot, e_fCC, e_fIf, e_gI, e_gR, e_aI, e_aR, e_aN, e_cV, e_cS, e_fNil, e_fAi, e_fAr, e_sSeq, e_sSkip, e_sSt, e_sSr, e_sInc, e_sRI, e_sRR, e_sRV, e_sIf, e_sCall, e_sPI, e_sPZ, e_sPR, e_sPO, e_sAI, e_sAZ, e_sAO, e_sAR, e_sPopI, e_sPopR, e_sCopy, e_mI, e_mZ, e_mR, e_mV, jAdd_n, jMul_n, z0, z1, Option.bind_some, List.getElem?_cons_zero, List.getElem?_cons_succ, List.set_cons_zero, List.set_cons_succ, eq_self, if_true, ite_and, ite_or, ite_I, ite_bI, ite_bJ, bI_ne, bI_01, List.cons_append, List.nil_append, Bool.false_eq_true, if_false, gT0_0 h, kT1 h, q_N_hasStation hC, e, Bool.not_true]; rfl) (fun hb => ?_) (fun hb => ?_))
    · cases hb
    · refine wS_l rfl ?_
      refine wSeq (wS_l (by simp only [e_fI, e_fLd, e_fLr, e_fB, e_fD, e_fC, e_fT, e_fAnd, e_fOr, e_fNot, e_fCC, e_fIf, e_gI, e_gR, e_aI, e_aR, e_aN, e_cV, e_cS, e_fNil, e_fAi, e_fAr, e_sSeq, e_sSkip, e_sSt, e_sSr, e_sInc, e_sRI, e_sRR, e_sRV, e_sIf, e_sCall, e_sPI, e_sPZ, e_sPR, e_sPO, e_sAI, e_sAZ, e_sAO, e_sAR, e_sPopI, e_sPopR, e_sCopy, e_mI, e_mZ, e_mR, e_mV, jAdd_n, jMul_n, z0, z1, Option.bind_some, List.getElem?_cons_zero, List.getElem?_cons_succ, List.set_cons_zero, List.set_cons_succ, eq_self, if_true, ite_and, ite_or, ite_I, ite_bI, ite_bJ, bI_ne, bI_01, List.cons_append, List.nil_append, Bool.false_eq_true, if_false, gT0_0 h, gT1_0 h, hC.it hW ht, gS0_4 hS, gS3_0 hS]; rfl) ?_)
      refine wS_r (by simp only [e_fI, e_fLd, e_fLr, e_fB, e_fD, e_fC, e_fT, e_fAnd, e_fOr, e_fNot, e_fCC, e_fIf, e_gI, e_gR, e_aI, e_aR, e_aN, e_cV, e_cS, e_fNil, e_fAi, e_fAr, e_sSeq, e_sSkip, e_sSt, e_sSr, e_sInc, e_sRI, e_sRR, e_sRV, e_sIf, e_sCall, e_sPI, e_sPZ, e_sPR, e_sPO, e_sAI, e_sAZ, e_sAO, e_sAR, e_sPopI, e_sPopR, e_sCopy, e_mI, e_mZ, e_mR, e_mV, jAdd_n, jMul_n, z0, z1, Option.bind_some, List.getElem?_cons_zero, List.getElem?_cons_succ, List.set_cons_zero, List.set_cons_succ, eq_self, if_true, ite_and, ite_or, ite_I, ite_bI, ite_bJ, bI_ne, bI_01, List.cons_append, List.nil_append, Bool.false_eq_true, if_false, iS4 hS (show 2 < 128 by omega), iS4 hS (show 3 < 128 by omega), hR.mem]; rfl) ?_
      exact ⟨rfl, rfl⟩
end CAC
