/-! setup, the program's side -/
section SIC
variable {n X : Nat} {σ : sg} {w u : wd}
def wc (σ : sg) (a p : Nat) (s l m : Int32) : sg := up (up (up (up σ a p s) a (p + 1) l) a (p + 2) m) a (p + 3) (bI (jGt l 0))
theorem wc_ne {a b p : Nat} {s l m : Int32} (h : b ≠ a) : wc σ a p s l m b = σ b := by
  unfold wc
  rw [up_ne h, up_ne h, up_ne h, up_ne h]
theorem q_L_writeChannel {D p : Nat} {s l m : Int32} (h : okB n) (hD : isD D) (hp : p + 3 < 8) : G_L_writeChannel [.ref (D + 1), .int (nI p), .int s, .int l, .int m] (hs n σ) = some (hs n (wc σ (D + 1) p s l m)) := by
  refine mV_q (Nat.le_of_ble_eq_true rfl) ?_
  simp only [jx_L0, List.map_cons, List.map_nil, List.length_cons, List.length_nil, Nat.reduceAdd, Nat.reduceSub, List.replicate, List.cons_append, List.nil_append]
  unfold P_L_writeChannel
  refine wSeq (wS_l (by simp only [e_fI, e_fLd, e_fLr, e_fB, e_fD, e_fC, e_fT, e_fAnd, e_fOr, e_fNot, e_fCC, e_fIf, e_gI, e_gR, e_aI, e_aR, e_aN, e_cV, e_cS, e_fNil, e_fAi, e_fAr, e_sSeq, e_sSkip, e_sSt, e_sSr, e_sInc, e_sRI, e_sRR, e_sRV, e_sIf, e_sCall, e_sPI, e_sPZ, e_sPR, e_sPO, e_sAI, e_sAZ, e_sAO, e_sAR, e_sPopI, e_sPopR, e_sCopy, e_mI, e_mZ, e_mR, e_mV, jAdd_n, jMul_n, z0, z1, Option.bind_some, List.getElem?_cons_zero, List.getElem?_cons_succ, List.set_cons_zero, List.set_cons_succ, eq_self, if_true, ite_and, ite_or, ite_I, ite_bI, ite_bJ, bI_ne, bI_01, List.cons_append, List.nil_append, Bool.false_eq_true, if_false, wD h hD (show p < 8 by omega)]; rfl) ?_)
  refine wSeq (wS_l (by simp only [e_fI, e_fLd, e_fLr, e_fB, e_fD, e_fC, e_fT, e_fAnd, e_fOr, e_fNot, e_fCC, e_fIf, e_gI, e_gR, e_aI, e_aR, e_aN, e_cV, e_cS, e_fNil, e_fAi, e_fAr, e_sSeq, e_sSkip, e_sSt, e_sSr, e_sInc, e_sRI, e_sRR, e_sRV, e_sIf, e_sCall, e_sPI, e_sPZ, e_sPR, e_sPO, e_sAI, e_sAZ, e_sAO, e_sAR, e_sPopI, e_sPopR, e_sCopy, e_mI, e_mZ, e_mR, e_mV, jAdd_n, jMul_n, z0, z1, Option.bind_some, List.getElem?_cons_zero, List.getElem?_cons_succ, List.set_cons_zero, List.set_cons_succ, eq_self, if_true, ite_and, ite_or, ite_I, ite_bI, ite_bJ, bI_ne, bI_01, List.cons_append, List.nil_append, Bool.false_eq_true, if_false, wD h hD (show p + 1 < 8 by omega)]; rfl) ?_)
  refine wSeq (wS_l (by simp only [e_fI, e_fLd, e_fLr, e_fB, e_fD, e_fC, e_fT, e_fAnd, e_fOr, e_fNot, e_fCC, e_fIf, e_gI, e_gR, e_aI, e_aR, e_aN, e_cV, e_cS, e_fNil, e_fAi, e_fAr, e_sSeq, e_sSkip, e_sSt, e_sSr, e_sInc, e_sRI, e_sRR, e_sRV, e_sIf, e_sCall, e_sPI, e_sPZ, e_sPR, e_sPO, e_sAI, e_sAZ, e_sAO, e_sAR, e_sPopI, e_sPopR, e_sCopy, e_mI, e_mZ, e_mR, e_mV, jAdd_n, jMul_n, z0, z1, Option.bind_some, List.getElem?_cons_zero, List.getElem?_cons_succ, List.set_cons_zero, List.set_cons_succ, eq_self, if_true, ite_and, ite_or, ite_I, ite_bI, ite_bJ, bI_ne, bI_01, List.cons_append, List.nil_append, Bool.false_eq_true, if_false, wD h hD (show p + 2 < 8 by omega)]; rfl) ?_)
  refine wSeq (wS_l (by simp only [e_fI, e_fLd, e_fLr, e_fB, e_fD, e_fC, e_fT, e_fAnd, e_fOr, e_fNot, e_fCC, e_fIf, e_gI, e_gR, e_aI, e_aR, e_aN, e_cV, e_cS, e_fNil, e_fAi, e_fAr, e_sSeq, e_sSkip, e_sSt, e_sSr, e_sInc, e_sRI, e_sRR, e_sRV, e_sIf, e_sCall, e_sPI, e_sPZ, e_sPR, e_sPO, e_sAI, e_sAZ, e_sAO, e_sAR, e_sPopI, e_sPopR, e_sCopy, e_mI, e_mZ, e_mR, e_mV, jAdd_n, jMul_n, z0, z1, Option.bind_some, List.getElem?_cons_zero, List.getElem?_cons_succ, List.set_cons_zero, List.set_cons_succ, eq_self, if_true, ite_and, ite_or, ite_I, ite_bI, ite_bJ, bI_ne, bI_01, List.cons_append, List.nil_append, Bool.false_eq_true, if_false, wD h hD (show p + 3 < 8 by omega)]; rfl) ?_)
  exact wS_r rfl ⟨rfl, rfl⟩
theorem q_L_writeMap {D l : Nat} {p s t : Int32} (h : okB n) (hD : isD D) : G_L_writeMap [.ref (D + 1), .int p, .int (nI l), .int s, .int t] (hs n σ) = some (hs n (up (up (up (up (up (up σ (D + 1) 0 p) (D + 1) 1 (nI 0)) (D + 1) 2 (nI (8 * l))) (D + 1) 3 s) (D + 1) 4 (nI 0)) (D + 1) 5 t)) := by
  refine mV_q (Nat.le_of_ble_eq_true rfl) ?_
  simp only [jx_L0, List.map_cons, List.map_nil, List.length_cons, List.length_nil, Nat.reduceAdd, Nat.reduceSub, List.replicate, List.cons_append, List.nil_append]
  unfold P_L_writeMap
  refine wSeq (wS_l (by simp only [e_fI, e_fLd, e_fLr, e_fB, e_fD, e_fC, e_fT, e_fAnd, e_fOr, e_fNot, e_fCC, e_fIf, e_gI, e_gR, e_aI, e_aR, e_aN, e_cV, e_cS, e_fNil, e_fAi, e_fAr, e_sSeq, e_sSkip, e_sSt, e_sSr, e_sInc, e_sRI, e_sRR, e_sRV, e_sIf, e_sCall, e_sPI, e_sPZ, e_sPR, e_sPO, e_sAI, e_sAZ, e_sAO, e_sAR, e_sPopI, e_sPopR, e_sCopy, e_mI, e_mZ, e_mR, e_mV, jAdd_n, jMul_n, z0, z1, Option.bind_some, List.getElem?_cons_zero, List.getElem?_cons_succ, List.set_cons_zero, List.set_cons_succ, eq_self, if_true, ite_and, ite_or, ite_I, ite_bI, ite_bJ, bI_ne, bI_01, List.cons_append, List.nil_append, Bool.false_eq_true, if_false, wD h hD (show 0 < 8 by omega)]; rfl) ?_)
  refine wSeq (wS_l (by simp only [e_fI, e_fLd, e_fLr, e_fB, e_fD, e_fC, e_fT, e_fAnd, e_fOr, e_fNot, e_fCC, e_fIf, e_gI, e_gR, e_aI, e_aR, e_aN, e_cV, e_cS, e_fNil, e_fAi, e_fAr, e_sSeq, e_sSkip, e_sSt, e_sSr, e_sInc, e_sRI, e_sRR, e_sRV, e_sIf, e_sCall, e_sPI, e_sPZ, e_sPR, e_sPO, e_sAI, e_sAZ, e_sAO, e_sAR, e_sPopI, e_sPopR, e_sCopy, e_mI, e_mZ, e_mR, e_mV, jAdd_n, jMul_n, z0, z1, Option.bind_some, List.getElem?_cons_zero, List.getElem?_cons_succ, List.set_cons_zero, List.set_cons_succ, eq_self, if_true, ite_and, ite_or, ite_I, ite_bI, ite_bJ, bI_ne, bI_01, List.cons_append, List.nil_append, Bool.false_eq_true, if_false, wD h hD (show 1 < 8 by omega)]; rfl) ?_)
  refine wSeq (wS_l (by simp only [e_fI, e_fLd, e_fLr, e_fB, e_fD, e_fC, e_fT, e_fAnd, e_fOr, e_fNot, e_fCC, e_fIf, e_gI, e_gR, e_aI, e_aR, e_aN, e_cV, e_cS, e_fNil, e_fAi, e_fAr, e_sSeq, e_sSkip, e_sSt, e_sSr, e_sInc, e_sRI, e_sRR, e_sRV, e_sIf, e_sCall, e_sPI, e_sPZ, e_sPR, e_sPO, e_sAI, e_sAZ, e_sAO, e_sAR, e_sPopI, e_sPopR, e_sCopy, e_mI, e_mZ, e_mR, e_mV, jAdd_n, jMul_n, z0, z1, Option.bind_some, List.getElem?_cons_zero, List.getElem?_cons_succ, List.set_cons_zero, List.set_cons_succ, eq_self, if_true, ite_and, ite_or, ite_I, ite_bI, ite_bJ, bI_ne, bI_01, List.cons_append, List.nil_append, Bool.false_eq_true, if_false, wD h hD (show 2 < 8 by omega)]; rfl) ?_)
  refine wSeq (wS_l (by simp only [e_fI, e_fLd, e_fLr, e_fB, e_fD, e_fC, e_fT, e_fAnd, e_fOr, e_fNot, e_fCC, e_fIf, e_gI, e_gR, e_aI, e_aR, e_aN, e_cV, e_cS, e_fNil, e_fAi, e_fAr, e_sSeq, e_sSkip, e_sSt, e_sSr, e_sInc, e_sRI, e_sRR, e_sRV, e_sIf, e_sCall, e_sPI, e_sPZ, e_sPR, e_sPO, e_sAI, e_sAZ, e_sAO, e_sAR, e_sPopI, e_sPopR, e_sCopy, e_mI, e_mZ, e_mR, e_mV, jAdd_n, jMul_n, z0, z1, Option.bind_some, List.getElem?_cons_zero, List.getElem?_cons_succ, List.set_cons_zero, List.set_cons_succ, eq_self, if_true, ite_and, ite_or, ite_I, ite_bI, ite_bJ, bI_ne, bI_01, List.cons_append, List.nil_append, Bool.false_eq_true, if_false, wD h hD (show 3 < 8 by omega)]; rfl) ?_)
  refine wSeq (wS_l (by simp only [e_fI, e_fLd, e_fLr, e_fB, e_fD, e_fC, e_fT, e_fAnd, e_fOr, e_fNot, e_fCC, e_fIf, e_gI, e_gR, e_aI, e_aR, e_aN, e_cV, e_cS, e_fNil, e_fAi, e_fAr, e_sSeq, e_sSkip, e_sSt, e_sSr, e_sInc, e_sRI, e_sRR, e_sRV, e_sIf, e_sCall, e_sPI, e_sPZ, e_sPR, e_sPO, e_sAI, e_sAZ, e_sAO, e_sAR, e_sPopI, e_sPopR, e_sCopy, e_mI, e_mZ, e_mR, e_mV, jAdd_n, jMul_n, z0, z1, Option.bind_some, List.getElem?_cons_zero, List.getElem?_cons_succ, List.set_cons_zero, List.set_cons_succ, eq_self, if_true, ite_and, ite_or, ite_I, ite_bI, ite_bJ, bI_ne, bI_01, List.cons_append, List.nil_append, Bool.false_eq_true, if_false, wD h hD (show 4 < 8 by omega)]; rfl) ?_)
  refine wSeq (wS_l (by simp only [e_fI, e_fLd, e_fLr, e_fB, e_fD, e_fC, e_fT, e_fAnd, e_fOr, e_fNot, e_fCC, e_fIf, e_gI, e_gR, e_aI, e_aR, e_aN, e_cV, e_cS, e_fNil, e_fAi, e_fAr, e_sSeq, e_sSkip, e_sSt, e_sSr, e_sInc, e_sRI, e_sRR, e_sRV, e_sIf, e_sCall, e_sPI, e_sPZ, e_sPR, e_sPO, e_sAI, e_sAZ, e_sAO, e_sAR, e_sPopI, e_sPopR, e_sCopy, e_mI, e_mZ, e_mR, e_mV, jAdd_n, jMul_n, z0, z1, Option.bind_some, List.getElem?_cons_zero, List.getElem?_cons_succ, List.set_cons_zero, List.set_cons_succ, eq_self, if_true, ite_and, ite_or, ite_I, ite_bI, ite_bJ, bI_ne, bI_01, List.cons_append, List.nil_append, Bool.false_eq_true, if_false, wD h hD (show 5 < 8 by omega)]; rfl) ?_)
  exact wS_r rfl ⟨rfl, rfl⟩
theorem RD.wc {D p : Nat} {G : sg} {s l m : Int32} (h : RD σ D G) : RD (wc σ (D + 1) p s l m) D (up (up (up (up G 1 p s) 1 (p + 1) l) 1 (p + 2) m) 1 (p + 3) (bI (jGt l 0))) := h.u1.u1.u1.u1
theorem q_I_append {s : Nat} (hC : CPc n X σ (imP w u s)) (hW : okW w) (hk : kW u = kW w) (hs' : s < kW w) (e0 : u.1 s 0 = w.1 s 0) : ∃ τ, G_I_append [.ref 4, .ref (sa s 0)] (hs n σ) = some (hs n τ) ∧ CPc n X τ (imP w u (s + 1)) ∧ FK σ τ := by
  have h := hC.B
  have hX := hC.ix
  have hb10 : X = 10 ∨ X = 18 := hX
  have hk6 := hW.2.1
  have hp := Pw_b hW s (by omega)
  have tt := (hW.u hs').t
  have hS : okS n s := hC.oS (by show s < kW u; omega)
  have hR : RC σ s (u.1 s) := hC.rc (by show s < kW u; omega)
  have o0 : σ (sa s 0) 0 = nI (oN (w.1 s)) := by rw [hR.at (j := 0) 0 (by omega), e0]; exact tt.1
  have o1 : σ (sa s 0) 1 = nI (iN (w.1 s)) := by rw [hR.at (j := 0) 1 (by omega), e0]; exact tt.2.2.1
  have c5 : σ 4 5 = nI s := hC.cm
  have c6 : σ 4 6 = nI (Pw w s) := hC.cs
  have ho := tt.2.1
  have hi := tt.2.2.2
  refine mV_s (Nat.le_of_ble_eq_true rfl) ?_
  simp only [jx_L0, List.map_cons, List.map_nil, List.length_cons, List.length_nil, Nat.reduceAdd, Nat.reduceSub, List.replicate, List.cons_append, List.nil_append]
  unfold P_I_append
  refine wSeq (wS_l (by simp only [e_fI, e_fLd, e_fLr, e_fB, e_fD, e_fC, e_fT, e_fAnd, e_fOr, e_fNot, e_fCC, e_fIf, e_gI, e_gR, e_aI, e_aR, e_aN, e_cV, e_cS, e_fNil, e_fAi, e_fAr, e_sSeq, e_sSkip, e_sSt, e_sSr, e_sInc, e_sRI, e_sRR, e_sRV, e_sIf, e_sCall, e_sPI, e_sPZ, e_sPR, e_sPO, e_sAI, e_sAZ, e_sAO, e_sAR, e_sPopI, e_sPopR, e_sCopy, e_mI, e_mZ, e_mR, e_mV, jAdd_n, jMul_n, z0, z1, Option.bind_some, List.getElem?_cons_zero, List.getElem?_cons_succ, List.set_cons_zero, List.set_cons_succ, eq_self, if_true, ite_and, ite_or, ite_I, ite_bI, ite_bJ, bI_ne, bI_01, List.cons_append, List.nil_append, Bool.false_eq_true, if_false, gT4_2 h, gT4_5 h, gT4_6 h, c5, c6, wT7 h (show s < 6 by omega)]; rfl) ?_)
  have c5a : up σ 7 s (nI (Pw w s)) 4 5 = nI s := c5
  have c6a : up σ 7 s (nI (Pw w s)) 4 6 = nI (Pw w s) := c6
  have o0a : up σ 7 s (nI (Pw w s)) (sa s 0) 0 = nI (oN (w.1 s)) := by rw [up_ne (by have := sa_ge s 0; omega)]; exact o0
  refine wSeq (wS_l (by simp only [e_fI, e_fLd, e_fLr, e_fB, e_fD, e_fC, e_fT, e_fAnd, e_fOr, e_fNot, e_fCC, e_fIf, e_gI, e_gR, e_aI, e_aR, e_aN, e_cV, e_cS, e_fNil, e_fAi, e_fAr, e_sSeq, e_sSkip, e_sSt, e_sSr, e_sInc, e_sRI, e_sRR, e_sRV, e_sIf, e_sCall, e_sPI, e_sPZ, e_sPR, e_sPO, e_sAI, e_sAZ, e_sAO, e_sAR, e_sPopI, e_sPopR, e_sCopy, e_mI, e_mZ, e_mR, e_mV, jAdd_n, jMul_n, z0, z1, Option.bind_some, List.getElem?_cons_zero, List.getElem?_cons_succ, List.set_cons_zero, List.set_cons_succ, eq_self, if_true, ite_and, ite_or, ite_I, ite_bI, ite_bJ, bI_ne, bI_01, List.cons_append, List.nil_append, Bool.false_eq_true, if_false, gT4_3 h, gT4_5 h, gT4_6 h, c5a, c6a, gS0_0 hS, o0a, wT8 h (show s < 6 by omega)]; rfl) ?_)
  have c5b : up (up σ 7 s (nI (Pw w s))) 8 s (nI (Pw w s + oN (w.1 s))) 4 5 = nI s := c5
  have c6b : up (up σ 7 s (nI (Pw w s))) 8 s (nI (Pw w s + oN (w.1 s))) 4 6 = nI (Pw w s) := c6
  have o0b : up (up σ 7 s (nI (Pw w s))) 8 s (nI (Pw w s + oN (w.1 s))) (sa s 0) 0 = nI (oN (w.1 s)) := by rw [up_ne (by have := sa_ge s 0; omega)]; exact o0a
  have o1b : up (up σ 7 s (nI (Pw w s))) 8 s (nI (Pw w s + oN (w.1 s))) (sa s 0) 1 = nI (iN (w.1 s)) := by rw [up_ne (by have := sa_ge s 0; omega), up_ne (by have := sa_ge s 0; omega)]; exact o1
  have e1 : Pw w (s + 1) = Pw w s + oN (w.1 s) + iN (w.1 s) := (Nat.add_assoc _ _ _).symm
  refine wSeq (wS_l (by simp only [e_fI, e_fLd, e_fLr, e_fB, e_fD, e_fC, e_fT, e_fAnd, e_fOr, e_fNot, e_fCC, e_fIf, e_gI, e_gR, e_aI, e_aR, e_aN, e_cV, e_cS, e_fNil, e_fAi, e_fAr, e_sSeq, e_sSkip, e_sSt, e_sSr, e_sInc, e_sRI, e_sRR, e_sRV, e_sIf, e_sCall, e_sPI, e_sPZ, e_sPR, e_sPO, e_sAI, e_sAZ, e_sAO, e_sAR, e_sPopI, e_sPopR, e_sCopy, e_mI, e_mZ, e_mR, e_mV, jAdd_n, jMul_n, z0, z1, Option.bind_some, List.getElem?_cons_zero, List.getElem?_cons_succ, List.set_cons_zero, List.set_cons_succ, eq_self, if_true, ite_and, ite_or, ite_I, ite_bI, ite_bJ, bI_ne, bI_01, List.cons_append, List.nil_append, Bool.false_eq_true, if_false, gT4_4 h, gT4_5 h, gT4_6 h, c5b, c6b, gS0_0 hS, gS0_1 hS, o0b, o1b, ← e1, wT9 h (show s < 6 by omega)]; rfl) ?_)
  have c5c : up (up (up σ 7 s (nI (Pw w s))) 8 s (nI (Pw w s + oN (w.1 s)))) 9 s (nI (Pw w (s + 1))) 4 5 = nI s := c5
  have k9 : up (up (up σ 7 s (nI (Pw w s))) 8 s (nI (Pw w s + oN (w.1 s)))) 9 s (nI (Pw w (s + 1))) 9 s = nI (Pw w (s + 1)) := by unfold up; rw [if_pos ⟨rfl, rfl⟩]
  refine wSeq (wS_l (by simp only [e_fI, e_fLd, e_fLr, e_fB, e_fD, e_fC, e_fT, e_fAnd, e_fOr, e_fNot, e_fCC, e_fIf, e_gI, e_gR, e_aI, e_aR, e_aN, e_cV, e_cS, e_fNil, e_fAi, e_fAr, e_sSeq, e_sSkip, e_sSt, e_sSr, e_sInc, e_sRI, e_sRR, e_sRV, e_sIf, e_sCall, e_sPI, e_sPZ, e_sPR, e_sPO, e_sAI, e_sAZ, e_sAO, e_sAR, e_sPopI, e_sPopR, e_sCopy, e_mI, e_mZ, e_mR, e_mV, jAdd_n, jMul_n, z0, z1, Option.bind_some, List.getElem?_cons_zero, List.getElem?_cons_succ, List.set_cons_zero, List.set_cons_succ, eq_self, if_true, ite_and, ite_or, ite_I, ite_bI, ite_bJ, bI_ne, bI_01, List.cons_append, List.nil_append, Bool.false_eq_true, if_false, gT4_4 h, gT4_5 h, c5c, iT9 h (show s < 6 by omega), k9, pT4_6 h]; rfl) ?_)
  have c5d : up (up (up (up σ 7 s (nI (Pw w s))) 8 s (nI (Pw w s + oN (w.1 s)))) 9 s (nI (Pw w (s + 1)))) 4 6 (nI (Pw w (s + 1))) 4 5 = nI s := c5
  refine wSeq (wS_l (by simp only [e_fI, e_fLd, e_fLr, e_fB, e_fD, e_fC, e_fT, e_fAnd, e_fOr, e_fNot, e_fCC, e_fIf, e_gI, e_gR, e_aI, e_aR, e_aN, e_cV, e_cS, e_fNil, e_fAi, e_fAr, e_sSeq, e_sSkip, e_sSt, e_sSr, e_sInc, e_sRI, e_sRR, e_sRV, e_sIf, e_sCall, e_sPI, e_sPZ, e_sPR, e_sPO, e_sAI, e_sAZ, e_sAO, e_sAR, e_sPopI, e_sPopR, e_sCopy, e_mI, e_mZ, e_mR, e_mV, jAdd_n, jMul_n, z0, z1, Option.bind_some, List.getElem?_cons_zero, List.getElem?_cons_succ, List.set_cons_zero, List.set_cons_succ, eq_self, if_true, ite_and, ite_or, ite_I, ite_bI, ite_bJ, bI_ne, bI_01, List.cons_append, List.nil_append, Bool.false_eq_true, if_false, gT4_5 h, c5d, pT4_5 h]; rfl) ?_)
  obtain ⟨h1, ⟨-, hy3, hz3⟩, h2, h3, h4, h5, h6, h7⟩ := hC
  have ot : ∀ a, a ≠ 4 → a ≠ 7 → a ≠ 8 → a ≠ 9 → up (up (up (up (up σ 7 s (nI (Pw w s))) 8 s (nI (Pw w s + oN (w.1 s)))) 9 s (nI (Pw w (s + 1)))) 4 6 (nI (Pw w (s + 1)))) 4 5 (nI (s + 1)) a = σ a := fun a g4 g7 g8 g9 => by rw [up_ne g4, up_ne g4, up_ne g9, up_ne g8, up_ne g7]
  have hcv := ((((h4.u (v := nI (Pw w s)) hX (show celV 4 s by unfold celV; omega)).u (v := nI (Pw w s + oN (w.1 s))) hX (show celV 5 s by unfold celV; omega)).u (v := nI (Pw w (s + 1))) hX (show celV 8 s by unfold celV; omega)).u (v := nI (Pw w (s + 1))) hX (show celV 0 7 by unfold celV; omega)).u (v := nI (s + 1)) hX (show celV 0 6 by unfold celV; omega)
  refine wS_r rfl ⟨rfl, _, rfl, ⟨h1, ⟨hX, hy3, hz3⟩, by rw [ot 0 (by omega) (by omega) (by omega) (by omega)]; exact h2, by rw [ot 0 (by omega) (by omega) (by omega) (by omega)]; exact h3, fun j i hc => (hcv j i hc).trans ?_, fun t ht => (h5 t ht).ot (fun j _ => ot _ (by have := sa_ge t j; omega) (by have := sa_ge t j; omega) (by have := sa_ge t j; omega) (by have := sa_ge t j; omega)), fun e he => ?_, fun e he => ?_⟩, fun a g1 g2 => ot a (by omega) (by omega) (by omega) (by omega)⟩
  · have hj : j ≠ 6 ∧ j ≠ 7 := by unfold celV at hc; omega
    unfold imP vW up
    dsimp only
    by_cases q6 : j = 0 ∧ i = 6
    · rw [if_pos q6, if_neg (show ¬ (j = 2 ∨ j = 3) by omega), if_pos q6]
    rw [if_neg q6]
    by_cases q7 : j = 0 ∧ i = 7
    · rw [if_pos q7, if_neg (show ¬ (j = 2 ∨ j = 3) by omega), if_neg q6, if_pos q7]
    rw [if_neg q7]
    by_cases q8 : j = 8 ∧ i = s
    · obtain ⟨rfl, rfl⟩ := q8
      rw [if_pos ⟨rfl, rfl⟩, if_neg (by omega), if_neg (by omega), if_neg (by omega), if_neg (by omega), if_neg (by omega), if_neg (by omega), if_neg (by omega), if_pos ⟨rfl, by omega⟩]
    rw [if_neg q8]
    by_cases q5 : j = 5 ∧ i = s
    · obtain ⟨rfl, rfl⟩ := q5
      rw [if_pos ⟨rfl, rfl⟩, if_neg (by omega), if_neg (by omega), if_neg (by omega), if_neg (by omega), if_pos ⟨rfl, by omega⟩]
    rw [if_neg q5]
    by_cases q4 : j = 4 ∧ i = s
    · obtain ⟨rfl, rfl⟩ := q4
      rw [if_pos ⟨rfl, rfl⟩, if_neg (by omega), if_neg (by omega), if_neg (by omega), if_pos ⟨rfl, by omega⟩]
    rw [if_neg q4]
    have p4 : (j = 4 ∧ i < s) = (j = 4 ∧ i < s + 1) := propext (by omega)
    have p5 : (j = 5 ∧ i < s) = (j = 5 ∧ i < s + 1) := propext (by omega)
    have p6 : (j = 6 ∧ i < s) = (j = 6 ∧ i < s + 1) := propext (by omega)
    have p7 : (j = 7 ∧ i < s) = (j = 7 ∧ i < s + 1) := propext (by omega)
    have p8 : (j = 8 ∧ i < s) = (j = 8 ∧ i < s + 1) := propext (by omega)
    simp only [if_neg q6, if_neg q7, p4, p5, p6, p7, p8]
  · have he' : e < yW u := he
    have hy' : yW u ≤ 3 := hy3
    exact (h6 e he).keep (ot _ (by omega) (by omega) (by omega) (by omega)) (ot _ (by omega) (by omega) (by omega) (by omega))
  · have he' : e < zW u := he
    have hz' : zW u ≤ 3 := hz3
    exact (h7 e he).keep (ot _ (by omega) (by omega) (by omega) (by omega)) (ot _ (by omega) (by omega) (by omega) (by omega))
end SIC
