/-! the law: one call on both sides -/
def lwL (t : Nat) : hp_L := [none, some (.ref 0), some (.ref 26), some (.int (nI (5 * t)))]
def lwI (t : Nat) (L : hp_L) (H : hp_H) : Prop := ∃ n X σ w, L = lwL t ∧ H = hs n σ ∧ CPc n X σ w ∧ CPr σ w ∧ okW w
section SPC
variable {n X t LN : Nat} {σ : sg} {w : wd} {LX : Nat → Int32} {R : Option Value → hp_H → Prop}
theorem lw_if {fx fm : jx_fI} {n' X' : Nat} {τ1 : sg} {w' : wd} {v : Int32} (hR : CPr σ w) (e1 : fx (lwL t) (hs n σ) = some (v, hs n' τ1)) (c1 : CPc n' X' τ1 w') (f1 : FK σ τ1) (e2 : CPr τ1 w → ∃ τ2, fm (lwL t) (hs n' τ1) = some (v, hs n' τ2) ∧ CPr τ2 w' ∧ FL τ1 τ2) (ok : okW w') : wS (sIf (fC jNe fx fm) (sRI (fI (nI 0))) sSkip) (lwL t) (hs n σ) (fun L' H' => lwI t L' H') R := by
  obtain ⟨τ2, e2, r2, f2⟩ := e2 (hR.K f1)
  refine wIf (b := false) (h1 := hs n' τ2) ?_ (fun q => by cases q) (fun _ => wS_l rfl ⟨n', X', τ2, w', rfl, rfl, c1.L f2, r2, ok⟩)
  rw [e_fC, e1, Option.bind_some]
  dsimp only
  rw [e2, Option.bind_some]
  have : jNe v v = false := decide_eq_false (fun q => q rfl)
  rw [this]
theorem sk (h5 : 5 * t + 5 ≤ LN) (hL : LN ≤ 2560) {j : Nat} (hj : j < 5) {H : hp_H} : fSk LN LX 3 (nI j) (lwL t) H = some (LX (5 * t + j), H) := by
  unfold fSk lwL
  show (if ¬ (nI (5 * t) + nI j < 0 ∨ LN ≤ (nI (5 * t) + nI j).toNatClampNeg) then some (LX (nI (5 * t) + nI j).toNatClampNeg, H) else none) = _
  rw [nI_add, if_pos (nI_ix (by omega) (by omega)), nC_n (by omega)]
theorem s0 (h5 : 5 * t + 5 ≤ LN) (hL : LN ≤ 2560) {H : hp_H} : fSc0 LN LX 3 (lwL t) H = some (LX (5 * t), H) := by
  unfold fSc0 lwL
  show (if ¬ (nI (5 * t) < 0 ∨ LN ≤ (nI (5 * t)).toNatClampNeg) then some (LX (nI (5 * t)).toNatClampNeg, H) else none) = _
  rw [if_pos (nI_ix (by omega) (by omega)), nC_n (by omega)]
theorem l1 : (lwL t)[1]? = some (some (.ref 0)) := rfl
theorem l2 : (lwL t)[2]? = some (some (.ref 26)) := rfl
theorem and31 (x : Int32) : ∃ m, m < 32 ∧ jAnd x (nI 31) = nI m := by
  have e : (jAnd x (nI 31)).toBitVec.toNat = x.toBitVec.toNat % 32 := by
    unfold jAnd
    rw [Int32.toBitVec_and, BitVec.toNat_and, nI_nat (by decide)]
    exact Nat.and_two_pow_sub_one_eq_mod _ 5
  refine ⟨x.toBitVec.toNat % 32, by omega, Int32.toBitVec_inj.mp (BitVec.eq_of_toNat_eq ?_)⟩
  rw [e, nI_nat (by omega)]
theorem lw_station (h5 : 5 * t + 5 ≤ LN) (hL : LN ≤ 2560) (hC : CPc n X σ w) (hR : CPr σ w) (hW : okW w) : wS (sIf (fC jNe (cV 7 (fAr (fLr 1) (fAi (fSk LN LX 3 (nI 1)) (fAi (fSk LN LX 3 (nI 2)) (fNil)))) G_L_station) (cV 8 (fAr (fLr 2) (fAi (fSk LN LX 3 (nI 1)) (fAi (fSk LN LX 3 (nI 2)) (fNil)))) G_R_station)) (sRI (fI (nI 0))) sSkip) (lwL t) (hs n σ) (fun L' H' => lwI t L' H') R := by
  have h := hC.B
  obtain ⟨n', τ1, e, c1, f1⟩ := c_station (o := (LX (5 * t + 1))) (i := (LX (5 * t + 2))) hC hW
  refine lw_if hR (by simp only [e_fI, e_fLd, e_fLr, e_fB, e_fD, e_fC, e_fT, e_fAnd, e_fOr, e_fNot, e_fCC, e_fIf, e_gI, e_gR, e_aI, e_aR, e_aN, e_cV, e_cS, e_fNil, e_fAi, e_fAr, e_sSeq, e_sSkip, e_sSt, e_sSr, e_sInc, e_sRI, e_sRR, e_sRV, e_sIf, e_sCall, e_sPI, e_sPZ, e_sPR, e_sPO, e_sAI, e_sAZ, e_sAO, e_sAR, e_sPopI, e_sPopR, e_sCopy, e_mI, e_mZ, e_mR, e_mV, jAdd_n, jMul_n, z0, z1, Option.bind_some, List.getElem?_cons_zero, List.getElem?_cons_succ, List.set_cons_zero, List.set_cons_succ, eq_self, if_true, ite_and, ite_or, ite_I, ite_bI, ite_bJ, bI_ne, bI_01, List.cons_append, List.nil_append, Bool.false_eq_true, if_false, l1, kT0 h, sk h5 hL (show 1 < 5 by omega), sk h5 hL (show 2 < 5 by omega), e]; rfl) c1 f1 (fun r => ?_) (by
    split
    · rename_i q
      obtain ⟨x, y, hx, hy, ex, ey, hk⟩ := inN_i hW q
      rw [ex, ey]
      exact newW_ok hW hx hy hk
    · exact hW)
  have h' := c1.B
  obtain ⟨τ2, e', r2, f2⟩ := r_station (o := (LX (5 * t + 1))) (i := (LX (5 * t + 2))) h' r hW
  exact ⟨τ2, by simp only [e_fI, e_fLd, e_fLr, e_fB, e_fD, e_fC, e_fT, e_fAnd, e_fOr, e_fNot, e_fCC, e_fIf, e_gI, e_gR, e_aI, e_aR, e_aN, e_cV, e_cS, e_fNil, e_fAi, e_fAr, e_sSeq, e_sSkip, e_sSt, e_sSr, e_sInc, e_sRI, e_sRR, e_sRV, e_sIf, e_sCall, e_sPI, e_sPZ, e_sPR, e_sPO, e_sAI, e_sAZ, e_sAO, e_sAR, e_sPopI, e_sPopR, e_sCopy, e_mI, e_mZ, e_mR, e_mV, jAdd_n, jMul_n, z0, z1, Option.bind_some, List.getElem?_cons_zero, List.getElem?_cons_succ, List.set_cons_zero, List.set_cons_succ, eq_self, if_true, ite_and, ite_or, ite_I, ite_bI, ite_bJ, bI_ne, bI_01, List.cons_append, List.nil_append, Bool.false_eq_true, if_false, l2, kT26 h', sk h5 hL (show 1 < 5 by omega), sk h5 hL (show 2 < 5 by omega), e'], r2, f2⟩
theorem lw_datagram (h5 : 5 * t + 5 ≤ LN) (hL : LN ≤ 2560) (hC : CPc n X σ w) (hR : CPr σ w) (hW : okW w) : wS (sIf (fC jNe (cV 7 (fAr (fLr 1) (fAi (fSk LN LX 3 (nI 1)) (fAi (fSk LN LX 3 (nI 2)) (fAi (fSk LN LX 3 (nI 3)) (fAi (fSk LN LX 3 (nI 4)) (fNil)))))) G_L_datagram) (cV 8 (fAr (fLr 2) (fAi (fSk LN LX 3 (nI 1)) (fAi (fSk LN LX 3 (nI 2)) (fAi (fSk LN LX 3 (nI 3)) (fAi (fSk LN LX 3 (nI 4)) (fNil)))))) G_R_datagram)) (sRI (fI (nI 0))) sSkip) (lwL t) (hs n σ) (fun L' H' => lwI t L' H') R := by
  have h := hC.B
  obtain ⟨τ1, e, c1, f1⟩ := c_datagram (c := (LX (5 * t + 1))) (a := (LX (5 * t + 2))) (o := (LX (5 * t + 3))) (l := (LX (5 * t + 4))) hC hW
  refine lw_if hR (by simp only [e_fI, e_fLd, e_fLr, e_fB, e_fD, e_fC, e_fT, e_fAnd, e_fOr, e_fNot, e_fCC, e_fIf, e_gI, e_gR, e_aI, e_aR, e_aN, e_cV, e_cS, e_fNil, e_fAi, e_fAr, e_sSeq, e_sSkip, e_sSt, e_sSr, e_sInc, e_sRI, e_sRR, e_sRV, e_sIf, e_sCall, e_sPI, e_sPZ, e_sPR, e_sPO, e_sAI, e_sAZ, e_sAO, e_sAR, e_sPopI, e_sPopR, e_sCopy, e_mI, e_mZ, e_mR, e_mV, jAdd_n, jMul_n, z0, z1, Option.bind_some, List.getElem?_cons_zero, List.getElem?_cons_succ, List.set_cons_zero, List.set_cons_succ, eq_self, if_true, ite_and, ite_or, ite_I, ite_bI, ite_bJ, bI_ne, bI_01, List.cons_append, List.nil_append, Bool.false_eq_true, if_false, l1, kT0 h, sk h5 hL (show 1 < 5 by omega), sk h5 hL (show 2 < 5 by omega), sk h5 hL (show 3 < 5 by omega), sk h5 hL (show 4 < 5 by omega), e]; rfl) c1 f1 (fun r => ?_) (by
    split
    · rename_i q
      exact hW.adG (okDg_y hW q) (okDg_ok q)
    · exact hW)
  have h' := c1.B
  obtain ⟨τ2, e', r2, f2⟩ := r_datagram (c := (LX (5 * t + 1))) (a := (LX (5 * t + 2))) (o := (LX (5 * t + 3))) (l := (LX (5 * t + 4))) h' r hW
  exact ⟨τ2, by simp only [e_fI, e_fLd, e_fLr, e_fB, e_fD, e_fC, e_fT, e_fAnd, e_fOr, e_fNot, e_fCC, e_fIf, e_gI, e_gR, e_aI, e_aR, e_aN, e_cV, e_cS, e_fNil, e_fAi, e_fAr, e_sSeq, e_sSkip, e_sSt, e_sSr, e_sInc, e_sRI, e_sRR, e_sRV, e_sIf, e_sCall, e_sPI, e_sPZ, e_sPR, e_sPO, e_sAI, e_sAZ, e_sAO, e_sAR, e_sPopI, e_sPopR, e_sCopy, e_mI, e_mZ, e_mR, e_mV, jAdd_n, jMul_n, z0, z1, Option.bind_some, List.getElem?_cons_zero, List.getElem?_cons_succ, List.set_cons_zero, List.set_cons_succ, eq_self, if_true, ite_and, ite_or, ite_I, ite_bI, ite_bJ, bI_ne, bI_01, List.cons_append, List.nil_append, Bool.false_eq_true, if_false, l2, kT26 h', sk h5 hL (show 1 < 5 by omega), sk h5 hL (show 2 < 5 by omega), sk h5 hL (show 3 < 5 by omega), sk h5 hL (show 4 < 5 by omega), e'], r2, f2⟩
theorem lw_data (h5 : 5 * t + 5 ≤ LN) (hL : LN ≤ 2560) (hC : CPc n X σ w) (hR : CPr σ w) (hW : okW w) : wS (sIf (fC jNe (cV 7 (fAr (fLr 1) (fAi (fSk LN LX 3 (nI 1)) (fAi (fSk LN LX 3 (nI 2)) (fAi (fSk LN LX 3 (nI 3)) (fNil))))) G_L_data) (cV 8 (fAr (fLr 2) (fAi (fSk LN LX 3 (nI 1)) (fAi (fSk LN LX 3 (nI 2)) (fAi (fSk LN LX 3 (nI 3)) (fNil))))) G_R_data)) (sRI (fI (nI 0))) sSkip) (lwL t) (hs n σ) (fun L' H' => lwI t L' H') R := by
  have h := hC.B
  obtain ⟨τ1, e, c1, f1⟩ := c_data (d := (LX (5 * t + 1))) (i := (LX (5 * t + 2))) (v := (LX (5 * t + 3))) hC hW
  refine lw_if hR (by simp only [e_fI, e_fLd, e_fLr, e_fB, e_fD, e_fC, e_fT, e_fAnd, e_fOr, e_fNot, e_fCC, e_fIf, e_gI, e_gR, e_aI, e_aR, e_aN, e_cV, e_cS, e_fNil, e_fAi, e_fAr, e_sSeq, e_sSkip, e_sSt, e_sSr, e_sInc, e_sRI, e_sRR, e_sRV, e_sIf, e_sCall, e_sPI, e_sPZ, e_sPR, e_sPO, e_sAI, e_sAZ, e_sAO, e_sAR, e_sPopI, e_sPopR, e_sCopy, e_mI, e_mZ, e_mR, e_mV, jAdd_n, jMul_n, z0, z1, Option.bind_some, List.getElem?_cons_zero, List.getElem?_cons_succ, List.set_cons_zero, List.set_cons_succ, eq_self, if_true, ite_and, ite_or, ite_I, ite_bI, ite_bJ, bI_ne, bI_01, List.cons_append, List.nil_append, Bool.false_eq_true, if_false, l1, kT0 h, sk h5 hL (show 1 < 5 by omega), sk h5 hL (show 2 < 5 by omega), sk h5 hL (show 3 < 5 by omega), e]; rfl) c1 f1 (fun r => ?_) (by
    split
    · rename_i q
      obtain ⟨e', x, he, ed, hx, ei, h8⟩ := inD_i hW q
      rw [ed, nC_n (show e' < 2 ^ 31 by have := hW.y.2; omega)]
      exact hW.sG (hW.py he).dat
    · exact hW)
  have h' := c1.B
  obtain ⟨τ2, e', r2, f2⟩ := r_data (d := (LX (5 * t + 1))) (i := (LX (5 * t + 2))) (v := (LX (5 * t + 3))) h' r hW
  exact ⟨τ2, by simp only [e_fI, e_fLd, e_fLr, e_fB, e_fD, e_fC, e_fT, e_fAnd, e_fOr, e_fNot, e_fCC, e_fIf, e_gI, e_gR, e_aI, e_aR, e_aN, e_cV, e_cS, e_fNil, e_fAi, e_fAr, e_sSeq, e_sSkip, e_sSt, e_sSr, e_sInc, e_sRI, e_sRR, e_sRV, e_sIf, e_sCall, e_sPI, e_sPZ, e_sPR, e_sPO, e_sAI, e_sAZ, e_sAO, e_sAR, e_sPopI, e_sPopR, e_sCopy, e_mI, e_mZ, e_mR, e_mV, jAdd_n, jMul_n, z0, z1, Option.bind_some, List.getElem?_cons_zero, List.getElem?_cons_succ, List.set_cons_zero, List.set_cons_succ, eq_self, if_true, ite_and, ite_or, ite_I, ite_bI, ite_bJ, bI_ne, bI_01, List.cons_append, List.nil_append, Bool.false_eq_true, if_false, l2, kT26 h', sk h5 hL (show 1 < 5 by omega), sk h5 hL (show 2 < 5 by omega), sk h5 hL (show 3 < 5 by omega), e'], r2, f2⟩
theorem lw_send (h5 : 5 * t + 5 ≤ LN) (hL : LN ≤ 2560) (hC : CPc n X σ w) (hR : CPr σ w) (hW : okW w) : wS (sIf (fC jNe (cV 7 (fAr (fLr 1) (fNil)) G_L_send) (cV 8 (fAr (fLr 2) (fNil)) G_R_send)) (sRI (fI (nI 0))) sSkip) (lwL t) (hs n σ) (fun L' H' => lwI t L' H') R := by
  have h := hC.B
  obtain ⟨τ1, Y, e, c1, f1⟩ := c_send hC hW
  refine lw_if hR (by simp only [e_fI, e_fLd, e_fLr, e_fB, e_fD, e_fC, e_fT, e_fAnd, e_fOr, e_fNot, e_fCC, e_fIf, e_gI, e_gR, e_aI, e_aR, e_aN, e_cV, e_cS, e_fNil, e_fAi, e_fAr, e_sSeq, e_sSkip, e_sSt, e_sSr, e_sInc, e_sRI, e_sRR, e_sRV, e_sIf, e_sCall, e_sPI, e_sPZ, e_sPR, e_sPO, e_sAI, e_sAZ, e_sAO, e_sAR, e_sPopI, e_sPopR, e_sCopy, e_mI, e_mZ, e_mR, e_mV, jAdd_n, jMul_n, z0, z1, Option.bind_some, List.getElem?_cons_zero, List.getElem?_cons_succ, List.set_cons_zero, List.set_cons_succ, eq_self, if_true, ite_and, ite_or, ite_I, ite_bI, ite_bJ, bI_ne, bI_01, List.cons_append, List.nil_append, Bool.false_eq_true, if_false, l1, kT0 h, e]; rfl) c1 f1 (fun r => ?_) (by
    split
    · exact hW
    · exact (hW.y0.fr hW.y.2 (fun e he => hW.py he)).sn)
  have h' := c1.B
  obtain ⟨τ2, e', r2, f2⟩ := r_send h' r hW
  exact ⟨τ2, by simp only [e_fI, e_fLd, e_fLr, e_fB, e_fD, e_fC, e_fT, e_fAnd, e_fOr, e_fNot, e_fCC, e_fIf, e_gI, e_gR, e_aI, e_aR, e_aN, e_cV, e_cS, e_fNil, e_fAi, e_fAr, e_sSeq, e_sSkip, e_sSt, e_sSr, e_sInc, e_sRI, e_sRR, e_sRV, e_sIf, e_sCall, e_sPI, e_sPZ, e_sPR, e_sPO, e_sAI, e_sAZ, e_sAO, e_sAR, e_sPopI, e_sPopR, e_sCopy, e_mI, e_mZ, e_mR, e_mV, jAdd_n, jMul_n, z0, z1, Option.bind_some, List.getElem?_cons_zero, List.getElem?_cons_succ, List.set_cons_zero, List.set_cons_succ, eq_self, if_true, ite_and, ite_or, ite_I, ite_bI, ite_bJ, bI_ne, bI_01, List.cons_append, List.nil_append, Bool.false_eq_true, if_false, l2, kT26 h', e'], r2, f2⟩
theorem lw_returned (h5 : 5 * t + 5 ≤ LN) (hL : LN ≤ 2560) (hC : CPc n X σ w) (hR : CPr σ w) (hW : okW w) : wS (sIf (fC jNe (cV 7 (fAr (fLr 1) (fAi (fSk LN LX 3 (nI 1)) (fAi (fSk LN LX 3 (nI 2)) (fNil)))) G_L_returned) (cV 8 (fAr (fLr 2) (fAi (fSk LN LX 3 (nI 1)) (fAi (fSk LN LX 3 (nI 2)) (fNil)))) G_R_returned)) (sRI (fI (nI 0))) sSkip) (lwL t) (hs n σ) (fun L' H' => lwI t L' H') R := by
  have h := hC.B
  have e := c_returned (d := (LX (5 * t + 1))) (i := (LX (5 * t + 2))) hC hW
  refine lw_if hR (by simp only [e_fI, e_fLd, e_fLr, e_fB, e_fD, e_fC, e_fT, e_fAnd, e_fOr, e_fNot, e_fCC, e_fIf, e_gI, e_gR, e_aI, e_aR, e_aN, e_cV, e_cS, e_fNil, e_fAi, e_fAr, e_sSeq, e_sSkip, e_sSt, e_sSr, e_sInc, e_sRI, e_sRR, e_sRV, e_sIf, e_sCall, e_sPI, e_sPZ, e_sPR, e_sPO, e_sAI, e_sAZ, e_sAO, e_sAR, e_sPopI, e_sPopR, e_sCopy, e_mI, e_mZ, e_mR, e_mV, jAdd_n, jMul_n, z0, z1, Option.bind_some, List.getElem?_cons_zero, List.getElem?_cons_succ, List.set_cons_zero, List.set_cons_succ, eq_self, if_true, ite_and, ite_or, ite_I, ite_bI, ite_bJ, bI_ne, bI_01, List.cons_append, List.nil_append, Bool.false_eq_true, if_false, l1, kT0 h, sk h5 hL (show 1 < 5 by omega), sk h5 hL (show 2 < 5 by omega), e]; rfl) hC (FK.r σ) (fun r => ⟨σ, ?_, hR, FL.r σ⟩) hW
  have e' := r_returned (d := (LX (5 * t + 1))) (i := (LX (5 * t + 2))) h hR hW
  simp only [e_fI, e_fLd, e_fLr, e_fB, e_fD, e_fC, e_fT, e_fAnd, e_fOr, e_fNot, e_fCC, e_fIf, e_gI, e_gR, e_aI, e_aR, e_aN, e_cV, e_cS, e_fNil, e_fAi, e_fAr, e_sSeq, e_sSkip, e_sSt, e_sSr, e_sInc, e_sRI, e_sRR, e_sRV, e_sIf, e_sCall, e_sPI, e_sPZ, e_sPR, e_sPO, e_sAI, e_sAZ, e_sAO, e_sAR, e_sPopI, e_sPopR, e_sCopy, e_mI, e_mZ, e_mR, e_mV, jAdd_n, jMul_n, z0, z1, Option.bind_some, List.getElem?_cons_zero, List.getElem?_cons_succ, List.set_cons_zero, List.set_cons_succ, eq_self, if_true, ite_and, ite_or, ite_I, ite_bI, ite_bJ, bI_ne, bI_01, List.cons_append, List.nil_append, Bool.false_eq_true, if_false, l2, kT26 h, sk h5 hL (show 1 < 5 by omega), sk h5 hL (show 2 < 5 by omega), e']
theorem lw_cut (h5 : 5 * t + 5 ≤ LN) (hL : LN ≤ 2560) (hC : CPc n X σ w) (hR : CPr σ w) (hW : okW w) : wS (sIf (fC jNe (cV 7 (fAr (fLr 1) (fAi (fSk LN LX 3 (nI 1)) (fAi (fIf (fC jNe (fSk LN LX 3 (nI 2)) (fI 0)) (fI (nI 1)) (fI (nI 0))) (fNil)))) G_L_cut) (cV 8 (fAr (fLr 2) (fAi (fSk LN LX 3 (nI 1)) (fAi (fIf (fC jNe (fSk LN LX 3 (nI 2)) (fI 0)) (fI (nI 1)) (fI (nI 0))) (fNil)))) G_R_cut)) (sRI (fI (nI 0))) sSkip) (lwL t) (hs n σ) (fun L' H' => lwI t L' H') R := by
  have h := hC.B
  obtain ⟨τ1, e, c1, f1⟩ := c_cut (a := LX (5 * t + 1)) (b := jNe (LX (5 * t + 2)) 0) hC hW
  refine lw_if hR (by simp only [e_fI, e_fLd, e_fLr, e_fB, e_fD, e_fC, e_fT, e_fAnd, e_fOr, e_fNot, e_fCC, e_fIf, e_gI, e_gR, e_aI, e_aR, e_aN, e_cV, e_cS, e_fNil, e_fAi, e_fAr, e_sSeq, e_sSkip, e_sSt, e_sSr, e_sInc, e_sRI, e_sRR, e_sRV, e_sIf, e_sCall, e_sPI, e_sPZ, e_sPR, e_sPO, e_sAI, e_sAZ, e_sAO, e_sAR, e_sPopI, e_sPopR, e_sCopy, e_mI, e_mZ, e_mR, e_mV, jAdd_n, jMul_n, z0, z1, Option.bind_some, List.getElem?_cons_zero, List.getElem?_cons_succ, List.set_cons_zero, List.set_cons_succ, eq_self, if_true, ite_and, ite_or, ite_I, ite_bI, ite_bJ, bI_ne, bI_01, List.cons_append, List.nil_append, Bool.false_eq_true, if_false, l1, kT0 h, sk h5 hL (show 1 < 5 by omega), sk h5 hL (show 2 < 5 by omega), e]; rfl) c1 f1 (fun r => ?_) (by
    split
    · exact hW.cut
    · exact hW)
  have h' := c1.B
  obtain ⟨τ2, e', r2, f2⟩ := r_cut (a := LX (5 * t + 1)) (b := jNe (LX (5 * t + 2)) 0) h' r hW
  exact ⟨τ2, by simp only [e_fI, e_fLd, e_fLr, e_fB, e_fD, e_fC, e_fT, e_fAnd, e_fOr, e_fNot, e_fCC, e_fIf, e_gI, e_gR, e_aI, e_aR, e_aN, e_cV, e_cS, e_fNil, e_fAi, e_fAr, e_sSeq, e_sSkip, e_sSt, e_sSr, e_sInc, e_sRI, e_sRR, e_sRV, e_sIf, e_sCall, e_sPI, e_sPZ, e_sPR, e_sPO, e_sAI, e_sAZ, e_sAO, e_sAR, e_sPopI, e_sPopR, e_sCopy, e_mI, e_mZ, e_mR, e_mV, jAdd_n, jMul_n, z0, z1, Option.bind_some, List.getElem?_cons_zero, List.getElem?_cons_succ, List.set_cons_zero, List.set_cons_succ, eq_self, if_true, ite_and, ite_or, ite_I, ite_bI, ite_bJ, bI_ne, bI_01, List.cons_append, List.nil_append, Bool.false_eq_true, if_false, l2, kT26 h', sk h5 hL (show 1 < 5 by omega), sk h5 hL (show 2 < 5 by omega), e'], r2, f2⟩
theorem lw_spoil (h5 : 5 * t + 5 ≤ LN) (hL : LN ≤ 2560) (hC : CPc n X σ w) (hR : CPr σ w) (hW : okW w) : wS (sIf (fC jNe (cV 7 (fAr (fLr 1) (fAi (fSk LN LX 3 (nI 1)) (fNil))) G_L_spoil) (cV 8 (fAr (fLr 2) (fAi (fSk LN LX 3 (nI 1)) (fNil))) G_R_spoil)) (sRI (fI (nI 0))) sSkip) (lwL t) (hs n σ) (fun L' H' => lwI t L' H') R := by
  have h := hC.B
  obtain ⟨τ1, e, c1, f1⟩ := c_spoil (a := (LX (5 * t + 1))) hC
  refine lw_if hR (by simp only [e_fI, e_fLd, e_fLr, e_fB, e_fD, e_fC, e_fT, e_fAnd, e_fOr, e_fNot, e_fCC, e_fIf, e_gI, e_gR, e_aI, e_aR, e_aN, e_cV, e_cS, e_fNil, e_fAi, e_fAr, e_sSeq, e_sSkip, e_sSt, e_sSr, e_sInc, e_sRI, e_sRR, e_sRV, e_sIf, e_sCall, e_sPI, e_sPZ, e_sPR, e_sPO, e_sAI, e_sAZ, e_sAO, e_sAR, e_sPopI, e_sPopR, e_sCopy, e_mI, e_mZ, e_mR, e_mV, jAdd_n, jMul_n, z0, z1, Option.bind_some, List.getElem?_cons_zero, List.getElem?_cons_succ, List.set_cons_zero, List.set_cons_succ, eq_self, if_true, ite_and, ite_or, ite_I, ite_bI, ite_bJ, bI_ne, bI_01, List.cons_append, List.nil_append, Bool.false_eq_true, if_false, l1, kT0 h, sk h5 hL (show 1 < 5 by omega), e]; rfl) c1 f1 (fun r => ?_) (by
    split
    · rename_i q
      exact hW.spl q
    · exact hW)
  have h' := c1.B
  obtain ⟨τ2, e', r2, f2⟩ := r_spoil (a := (LX (5 * t + 1))) h' r
  exact ⟨τ2, by simp only [e_fI, e_fLd, e_fLr, e_fB, e_fD, e_fC, e_fT, e_fAnd, e_fOr, e_fNot, e_fCC, e_fIf, e_gI, e_gR, e_aI, e_aR, e_aN, e_cV, e_cS, e_fNil, e_fAi, e_fAr, e_sSeq, e_sSkip, e_sSt, e_sSr, e_sInc, e_sRI, e_sRR, e_sRV, e_sIf, e_sCall, e_sPI, e_sPZ, e_sPR, e_sPO, e_sAI, e_sAZ, e_sAO, e_sAR, e_sPopI, e_sPopR, e_sCopy, e_mI, e_mZ, e_mR, e_mV, jAdd_n, jMul_n, z0, z1, Option.bind_some, List.getElem?_cons_zero, List.getElem?_cons_succ, List.set_cons_zero, List.set_cons_succ, eq_self, if_true, ite_and, ite_or, ite_I, ite_bI, ite_bJ, bI_ne, bI_01, List.cons_append, List.nil_append, Bool.false_eq_true, if_false, l2, kT26 h', sk h5 hL (show 1 < 5 by omega), e'], r2, f2⟩
theorem lw_tick (h5 : 5 * t + 5 ≤ LN) (hL : LN ≤ 2560) (hC : CPc n X σ w) (hR : CPr σ w) (hW : okW w) : wS (sSeq (sCall (cV 7 (fAr (fLr 1) (fNil)) G_L_tick)) (sCall (cV 8 (fAr (fLr 2) (fNil)) G_R_tick))) (lwL t) (hs n σ) (fun L' H' => lwI t L' H') R := by
  have h := hC.B
  obtain ⟨τ1, e, c1, f1⟩ := c_tick hC hW
  obtain ⟨τ2, e', r2, f2⟩ := r_tick h (hR.K f1) hW
  refine wSeq (wS_l (by simp only [e_fI, e_fLd, e_fLr, e_fB, e_fD, e_fC, e_fT, e_fAnd, e_fOr, e_fNot, e_fCC, e_fIf, e_gI, e_gR, e_aI, e_aR, e_aN, e_cV, e_cS, e_fNil, e_fAi, e_fAr, e_sSeq, e_sSkip, e_sSt, e_sSr, e_sInc, e_sRI, e_sRR, e_sRV, e_sIf, e_sCall, e_sPI, e_sPZ, e_sPR, e_sPO, e_sAI, e_sAZ, e_sAO, e_sAR, e_sPopI, e_sPopR, e_sCopy, e_mI, e_mZ, e_mR, e_mV, jAdd_n, jMul_n, z0, z1, Option.bind_some, List.getElem?_cons_zero, List.getElem?_cons_succ, List.set_cons_zero, List.set_cons_succ, eq_self, if_true, ite_and, ite_or, ite_I, ite_bI, ite_bJ, bI_ne, bI_01, List.cons_append, List.nil_append, Bool.false_eq_true, if_false, l1, kT0 h, e]; rfl) ?_)
  refine wS_l (by simp only [e_fI, e_fLd, e_fLr, e_fB, e_fD, e_fC, e_fT, e_fAnd, e_fOr, e_fNot, e_fCC, e_fIf, e_gI, e_gR, e_aI, e_aR, e_aN, e_cV, e_cS, e_fNil, e_fAi, e_fAr, e_sSeq, e_sSkip, e_sSt, e_sSr, e_sInc, e_sRI, e_sRR, e_sRV, e_sIf, e_sCall, e_sPI, e_sPZ, e_sPR, e_sPO, e_sAI, e_sAZ, e_sAO, e_sAR, e_sPopI, e_sPopR, e_sCopy, e_mI, e_mZ, e_mR, e_mV, jAdd_n, jMul_n, z0, z1, Option.bind_some, List.getElem?_cons_zero, List.getElem?_cons_succ, List.set_cons_zero, List.set_cons_succ, eq_self, if_true, ite_and, ite_or, ite_I, ite_bI, ite_bJ, bI_ne, bI_01, List.cons_append, List.nil_append, Bool.false_eq_true, if_false, l2, kT26 h, e']; rfl) ?_
  refine ⟨n, X, τ2, _, rfl, rfl, c1.L f2, r2, hW.tk (fun s hs' => ?_)⟩
  have := (r2.2.2.1 s hs').2
  unfold tickI at this
  dsimp only at this
  rw [if_pos hs'] at this
  obtain ⟨m, k, -, q⟩ := this
  exact ⟨m, k, q⟩
theorem lw_sense (h5 : 5 * t + 5 ≤ LN) (hL : LN ≤ 2560) (hC : CPc n X σ w) (hR : CPr σ w) (hW : okW w) : wS (sIf (fC jNe (cV 7 (fAr (fLr 1) (fAi (fSk LN LX 3 (nI 1)) (fAi (fSk LN LX 3 (nI 2)) (fAi (fSk LN LX 3 (nI 3)) (fNil))))) G_L_sense) (cV 8 (fAr (fLr 2) (fAi (fSk LN LX 3 (nI 1)) (fAi (fSk LN LX 3 (nI 2)) (fAi (fSk LN LX 3 (nI 3)) (fNil))))) G_R_sense)) (sRI (fI (nI 0))) sSkip) (lwL t) (hs n σ) (fun L' H' => lwI t L' H') R := by
  have h := hC.B
  obtain ⟨τ1, e, c1, f1⟩ := c_sense (a := (LX (5 * t + 1))) (i := (LX (5 * t + 2))) (v := (LX (5 * t + 3))) hC hW
  refine lw_if hR (by simp only [e_fI, e_fLd, e_fLr, e_fB, e_fD, e_fC, e_fT, e_fAnd, e_fOr, e_fNot, e_fCC, e_fIf, e_gI, e_gR, e_aI, e_aR, e_aN, e_cV, e_cS, e_fNil, e_fAi, e_fAr, e_sSeq, e_sSkip, e_sSt, e_sSr, e_sInc, e_sRI, e_sRR, e_sRV, e_sIf, e_sCall, e_sPI, e_sPZ, e_sPR, e_sPO, e_sAI, e_sAZ, e_sAO, e_sAR, e_sPopI, e_sPopR, e_sCopy, e_mI, e_mZ, e_mR, e_mV, jAdd_n, jMul_n, z0, z1, Option.bind_some, List.getElem?_cons_zero, List.getElem?_cons_succ, List.set_cons_zero, List.set_cons_succ, eq_self, if_true, ite_and, ite_or, ite_I, ite_bI, ite_bJ, bI_ne, bI_01, List.cons_append, List.nil_append, Bool.false_eq_true, if_false, l1, kT0 h, sk h5 hL (show 1 < 5 by omega), sk h5 hL (show 2 < 5 by omega), sk h5 hL (show 3 < 5 by omega), e]; rfl) c1 f1 (fun r => ?_) (by
    split
    · rename_i q
      have q' : inS w (LX (5 * t + 1)) = true := by
        unfold inO at q
        exact (Bool.and_eq_true_iff.mp (Bool.and_eq_true_iff.mp q).1).1
      obtain ⟨s, hs', es⟩ := inS_i hW q'
      rw [es, nC_n (show s < 2 ^ 31 by have := hW.2.1; omega)]
      exact hW.sA (hW.u hs').sen
    · exact hW)
  have h' := c1.B
  obtain ⟨τ2, e', r2, f2⟩ := r_sense (a := (LX (5 * t + 1))) (i := (LX (5 * t + 2))) (v := (LX (5 * t + 3))) h' r hW
  exact ⟨τ2, by simp only [e_fI, e_fLd, e_fLr, e_fB, e_fD, e_fC, e_fT, e_fAnd, e_fOr, e_fNot, e_fCC, e_fIf, e_gI, e_gR, e_aI, e_aR, e_aN, e_cV, e_cS, e_fNil, e_fAi, e_fAr, e_sSeq, e_sSkip, e_sSt, e_sSr, e_sInc, e_sRI, e_sRR, e_sRV, e_sIf, e_sCall, e_sPI, e_sPZ, e_sPR, e_sPO, e_sAI, e_sAZ, e_sAO, e_sAR, e_sPopI, e_sPopR, e_sCopy, e_mI, e_mZ, e_mR, e_mV, jAdd_n, jMul_n, z0, z1, Option.bind_some, List.getElem?_cons_zero, List.getElem?_cons_succ, List.set_cons_zero, List.set_cons_succ, eq_self, if_true, ite_and, ite_or, ite_I, ite_bI, ite_bJ, bI_ne, bI_01, List.cons_append, List.nil_append, Bool.false_eq_true, if_false, l2, kT26 h', sk h5 hL (show 1 < 5 by omega), sk h5 hL (show 2 < 5 by omega), sk h5 hL (show 3 < 5 by omega), e'], r2, f2⟩
theorem lw_actuator (h5 : 5 * t + 5 ≤ LN) (hL : LN ≤ 2560) (hC : CPc n X σ w) (hR : CPr σ w) (hW : okW w) : wS (sIf (fC jNe (cV 7 (fAr (fLr 1) (fAi (fSk LN LX 3 (nI 1)) (fAi (fSk LN LX 3 (nI 2)) (fNil)))) G_L_actuator) (cV 8 (fAr (fLr 2) (fAi (fSk LN LX 3 (nI 1)) (fAi (fSk LN LX 3 (nI 2)) (fNil)))) G_R_actuator)) (sRI (fI (nI 0))) sSkip) (lwL t) (hs n σ) (fun L' H' => lwI t L' H') R := by
  have h := hC.B
  have e := c_actuator (a := (LX (5 * t + 1))) (i := (LX (5 * t + 2))) hC hW
  refine lw_if hR (by simp only [e_fI, e_fLd, e_fLr, e_fB, e_fD, e_fC, e_fT, e_fAnd, e_fOr, e_fNot, e_fCC, e_fIf, e_gI, e_gR, e_aI, e_aR, e_aN, e_cV, e_cS, e_fNil, e_fAi, e_fAr, e_sSeq, e_sSkip, e_sSt, e_sSr, e_sInc, e_sRI, e_sRR, e_sRV, e_sIf, e_sCall, e_sPI, e_sPZ, e_sPR, e_sPO, e_sAI, e_sAZ, e_sAO, e_sAR, e_sPopI, e_sPopR, e_sCopy, e_mI, e_mZ, e_mR, e_mV, jAdd_n, jMul_n, z0, z1, Option.bind_some, List.getElem?_cons_zero, List.getElem?_cons_succ, List.set_cons_zero, List.set_cons_succ, eq_self, if_true, ite_and, ite_or, ite_I, ite_bI, ite_bJ, bI_ne, bI_01, List.cons_append, List.nil_append, Bool.false_eq_true, if_false, l1, kT0 h, sk h5 hL (show 1 < 5 by omega), sk h5 hL (show 2 < 5 by omega), e]; rfl) hC (FK.r σ) (fun r => ⟨σ, ?_, hR, FL.r σ⟩) hW
  have e' := r_actuator (a := (LX (5 * t + 1))) (i := (LX (5 * t + 2))) h hR hW
  simp only [e_fI, e_fLd, e_fLr, e_fB, e_fD, e_fC, e_fT, e_fAnd, e_fOr, e_fNot, e_fCC, e_fIf, e_gI, e_gR, e_aI, e_aR, e_aN, e_cV, e_cS, e_fNil, e_fAi, e_fAr, e_sSeq, e_sSkip, e_sSt, e_sSr, e_sInc, e_sRI, e_sRR, e_sRV, e_sIf, e_sCall, e_sPI, e_sPZ, e_sPR, e_sPO, e_sAI, e_sAZ, e_sAO, e_sAR, e_sPopI, e_sPopR, e_sCopy, e_mI, e_mZ, e_mR, e_mV, jAdd_n, jMul_n, z0, z1, Option.bind_some, List.getElem?_cons_zero, List.getElem?_cons_succ, List.set_cons_zero, List.set_cons_succ, eq_self, if_true, ite_and, ite_or, ite_I, ite_bI, ite_bJ, bI_ne, bI_01, List.cons_append, List.nil_append, Bool.false_eq_true, if_false, l2, kT26 h, sk h5 hL (show 1 < 5 by omega), sk h5 hL (show 2 < 5 by omega), e']
theorem lw_state (h5 : 5 * t + 5 ≤ LN) (hL : LN ≤ 2560) (hC : CPc n X σ w) (hR : CPr σ w) (hW : okW w) : wS (sIf (fC jNe (cV 7 (fAr (fLr 1) (fAi (fSk LN LX 3 (nI 1)) (fNil))) G_L_state) (cV 8 (fAr (fLr 2) (fAi (fSk LN LX 3 (nI 1)) (fNil))) G_R_state)) (sRI (fI (nI 0))) sSkip) (lwL t) (hs n σ) (fun L' H' => lwI t L' H') R := by
  have h := hC.B
  have e := c_state (a := (LX (5 * t + 1))) hC hW
  refine lw_if hR (by simp only [e_fI, e_fLd, e_fLr, e_fB, e_fD, e_fC, e_fT, e_fAnd, e_fOr, e_fNot, e_fCC, e_fIf, e_gI, e_gR, e_aI, e_aR, e_aN, e_cV, e_cS, e_fNil, e_fAi, e_fAr, e_sSeq, e_sSkip, e_sSt, e_sSr, e_sInc, e_sRI, e_sRR, e_sRV, e_sIf, e_sCall, e_sPI, e_sPZ, e_sPR, e_sPO, e_sAI, e_sAZ, e_sAO, e_sAR, e_sPopI, e_sPopR, e_sCopy, e_mI, e_mZ, e_mR, e_mV, jAdd_n, jMul_n, z0, z1, Option.bind_some, List.getElem?_cons_zero, List.getElem?_cons_succ, List.set_cons_zero, List.set_cons_succ, eq_self, if_true, ite_and, ite_or, ite_I, ite_bI, ite_bJ, bI_ne, bI_01, List.cons_append, List.nil_append, Bool.false_eq_true, if_false, l1, kT0 h, sk h5 hL (show 1 < 5 by omega), e]; rfl) hC (FK.r σ) (fun r => ⟨σ, ?_, hR, FL.r σ⟩) hW
  have e' := r_state (a := (LX (5 * t + 1))) h hR hW
  simp only [e_fI, e_fLd, e_fLr, e_fB, e_fD, e_fC, e_fT, e_fAnd, e_fOr, e_fNot, e_fCC, e_fIf, e_gI, e_gR, e_aI, e_aR, e_aN, e_cV, e_cS, e_fNil, e_fAi, e_fAr, e_sSeq, e_sSkip, e_sSt, e_sSr, e_sInc, e_sRI, e_sRR, e_sRV, e_sIf, e_sCall, e_sPI, e_sPZ, e_sPR, e_sPO, e_sAI, e_sAZ, e_sAO, e_sAR, e_sPopI, e_sPopR, e_sCopy, e_mI, e_mZ, e_mR, e_mV, jAdd_n, jMul_n, z0, z1, Option.bind_some, List.getElem?_cons_zero, List.getElem?_cons_succ, List.set_cons_zero, List.set_cons_succ, eq_self, if_true, ite_and, ite_or, ite_I, ite_bI, ite_bJ, bI_ne, bI_01, List.cons_append, List.nil_append, Bool.false_eq_true, if_false, l2, kT26 h, sk h5 hL (show 1 < 5 by omega), e']
theorem lw_scan (h5 : 5 * t + 5 ≤ LN) (hL : LN ≤ 2560) (hC : CPc n X σ w) (hR : CPr σ w) (hW : okW w) : wS (sIf (fC jNe (cV 7 (fAr (fLr 1) (fNil)) G_L_scan) (cV 8 (fAr (fLr 2) (fNil)) G_R_scan)) (sRI (fI (nI 0))) sSkip) (lwL t) (hs n σ) (fun L' H' => lwI t L' H') R := by
  have h := hC.B
  obtain ⟨τ1, e, c1, f1⟩ := c_scan hC hW
  refine lw_if hR (by simp only [e_fI, e_fLd, e_fLr, e_fB, e_fD, e_fC, e_fT, e_fAnd, e_fOr, e_fNot, e_fCC, e_fIf, e_gI, e_gR, e_aI, e_aR, e_aN, e_cV, e_cS, e_fNil, e_fAi, e_fAr, e_sSeq, e_sSkip, e_sSt, e_sSr, e_sInc, e_sRI, e_sRR, e_sRV, e_sIf, e_sCall, e_sPI, e_sPZ, e_sPR, e_sPO, e_sAI, e_sAZ, e_sAO, e_sAR, e_sPopI, e_sPopR, e_sCopy, e_mI, e_mZ, e_mR, e_mV, jAdd_n, jMul_n, z0, z1, Option.bind_some, List.getElem?_cons_zero, List.getElem?_cons_succ, List.set_cons_zero, List.set_cons_succ, eq_self, if_true, ite_and, ite_or, ite_I, ite_bI, ite_bJ, bI_ne, bI_01, List.cons_append, List.nil_append, Bool.false_eq_true, if_false, l1, kT0 h, e]; rfl) c1 f1 (fun r => ?_) (scW_ok hW)
  have h' := c1.B
  obtain ⟨τ2, e', r2, f2⟩ := r_scan h' r hW
  exact ⟨τ2, by simp only [e_fI, e_fLd, e_fLr, e_fB, e_fD, e_fC, e_fT, e_fAnd, e_fOr, e_fNot, e_fCC, e_fIf, e_gI, e_gR, e_aI, e_aR, e_aN, e_cV, e_cS, e_fNil, e_fAi, e_fAr, e_sSeq, e_sSkip, e_sSt, e_sSr, e_sInc, e_sRI, e_sRR, e_sRV, e_sIf, e_sCall, e_sPI, e_sPZ, e_sPR, e_sPO, e_sAI, e_sAZ, e_sAO, e_sAR, e_sPopI, e_sPopR, e_sCopy, e_mI, e_mZ, e_mR, e_mV, jAdd_n, jMul_n, z0, z1, Option.bind_some, List.getElem?_cons_zero, List.getElem?_cons_succ, List.set_cons_zero, List.set_cons_succ, eq_self, if_true, ite_and, ite_or, ite_I, ite_bI, ite_bJ, bI_ne, bI_01, List.cons_append, List.nil_append, Bool.false_eq_true, if_false, l2, kT26 h', e'], r2, f2⟩
theorem lw_setup (h5 : 5 * t + 5 ≤ LN) (hL : LN ≤ 2560) (hC : CPc n X σ w) (hR : CPr σ w) (hW : okW w) : wS (sIf (fC jNe (cV 7 (fAr (fLr 1) (fNil)) G_L_setup) (cV 8 (fAr (fLr 2) (fNil)) G_R_setup)) (sRI (fI (nI 0))) sSkip) (lwL t) (hs n σ) (fun L' H' => lwI t L' H') R := by
  have h := hC.B
  obtain ⟨τ1, e, c1, f1⟩ := c_setup hC hW
  refine lw_if hR (by simp only [e_fI, e_fLd, e_fLr, e_fB, e_fD, e_fC, e_fT, e_fAnd, e_fOr, e_fNot, e_fCC, e_fIf, e_gI, e_gR, e_aI, e_aR, e_aN, e_cV, e_cS, e_fNil, e_fAi, e_fAr, e_sSeq, e_sSkip, e_sSt, e_sSr, e_sInc, e_sRI, e_sRR, e_sRV, e_sIf, e_sCall, e_sPI, e_sPZ, e_sPR, e_sPO, e_sAI, e_sAZ, e_sAO, e_sAR, e_sPopI, e_sPopR, e_sCopy, e_mI, e_mZ, e_mR, e_mV, jAdd_n, jMul_n, z0, z1, Option.bind_some, List.getElem?_cons_zero, List.getElem?_cons_succ, List.set_cons_zero, List.set_cons_succ, eq_self, if_true, ite_and, ite_or, ite_I, ite_bI, ite_bJ, bI_ne, bI_01, List.cons_append, List.nil_append, Bool.false_eq_true, if_false, l1, kT0 h, e]; rfl) c1 f1 (fun r => ?_) (suW_ok hW)
  have h' := c1.B
  obtain ⟨τ2, e', r2, f2⟩ := r_setup h' r hW
  exact ⟨τ2, by simp only [e_fI, e_fLd, e_fLr, e_fB, e_fD, e_fC, e_fT, e_fAnd, e_fOr, e_fNot, e_fCC, e_fIf, e_gI, e_gR, e_aI, e_aR, e_aN, e_cV, e_cS, e_fNil, e_fAi, e_fAr, e_sSeq, e_sSkip, e_sSt, e_sSr, e_sInc, e_sRI, e_sRR, e_sRV, e_sIf, e_sCall, e_sPI, e_sPZ, e_sPR, e_sPO, e_sAI, e_sAZ, e_sAO, e_sAR, e_sPopI, e_sPopR, e_sCopy, e_mI, e_mZ, e_mR, e_mV, jAdd_n, jMul_n, z0, z1, Option.bind_some, List.getElem?_cons_zero, List.getElem?_cons_succ, List.set_cons_zero, List.set_cons_succ, eq_self, if_true, ite_and, ite_or, ite_I, ite_bI, ite_bJ, bI_ne, bI_01, List.cons_append, List.nil_append, Bool.false_eq_true, if_false, l2, kT26 h', e'], r2, f2⟩
theorem lw_request (h5 : 5 * t + 5 ≤ LN) (hL : LN ≤ 2560) (hC : CPc n X σ w) (hR : CPr σ w) (hW : okW w) : wS (sIf (fC jNe (cV 7 (fAr (fLr 1) (fAi (fSk LN LX 3 (nI 1)) (fNil))) G_L_request) (cV 8 (fAr (fLr 2) (fAi (fSk LN LX 3 (nI 1)) (fNil))) G_R_request)) (sRI (fI (nI 0))) sSkip) (lwL t) (hs n σ) (fun L' H' => lwI t L' H') R := by
  have h := hC.B
  obtain ⟨τ1, e, c1, f1⟩ := c_request (v := (LX (5 * t + 1))) hC hW
  refine lw_if hR (by simp only [e_fI, e_fLd, e_fLr, e_fB, e_fD, e_fC, e_fT, e_fAnd, e_fOr, e_fNot, e_fCC, e_fIf, e_gI, e_gR, e_aI, e_aR, e_aN, e_cV, e_cS, e_fNil, e_fAi, e_fAr, e_sSeq, e_sSkip, e_sSt, e_sSr, e_sInc, e_sRI, e_sRR, e_sRV, e_sIf, e_sCall, e_sPI, e_sPZ, e_sPR, e_sPO, e_sAI, e_sAZ, e_sAO, e_sAR, e_sPopI, e_sPopR, e_sCopy, e_mI, e_mZ, e_mR, e_mV, jAdd_n, jMul_n, z0, z1, Option.bind_some, List.getElem?_cons_zero, List.getElem?_cons_succ, List.set_cons_zero, List.set_cons_succ, eq_self, if_true, ite_and, ite_or, ite_I, ite_bI, ite_bJ, bI_ne, bI_01, List.cons_append, List.nil_append, Bool.false_eq_true, if_false, l1, kT0 h, sk h5 hL (show 1 < 5 by omega), e]; rfl) c1 f1 (fun r => ?_) ((hW.fr (by omega) (fun _ _ => okP_sg (by omega) (by omega) (by omega))).sn)
  have h' := c1.B
  obtain ⟨τ2, e', r2, f2⟩ := r_request (v := (LX (5 * t + 1))) h' r hW
  exact ⟨τ2, by simp only [e_fI, e_fLd, e_fLr, e_fB, e_fD, e_fC, e_fT, e_fAnd, e_fOr, e_fNot, e_fCC, e_fIf, e_gI, e_gR, e_aI, e_aR, e_aN, e_cV, e_cS, e_fNil, e_fAi, e_fAr, e_sSeq, e_sSkip, e_sSt, e_sSr, e_sInc, e_sRI, e_sRR, e_sRV, e_sIf, e_sCall, e_sPI, e_sPZ, e_sPR, e_sPO, e_sAI, e_sAZ, e_sAO, e_sAR, e_sPopI, e_sPopR, e_sCopy, e_mI, e_mZ, e_mR, e_mV, jAdd_n, jMul_n, z0, z1, Option.bind_some, List.getElem?_cons_zero, List.getElem?_cons_succ, List.set_cons_zero, List.set_cons_succ, eq_self, if_true, ite_and, ite_or, ite_I, ite_bI, ite_bJ, bI_ne, bI_01, List.cons_append, List.nil_append, Bool.false_eq_true, if_false, l2, kT26 h', sk h5 hL (show 1 < 5 by omega), e'], r2, f2⟩
theorem lw_output (h5 : 5 * t + 5 ≤ LN) (hL : LN ≤ 2560) (hC : CPc n X σ w) (hR : CPr σ w) (hW : okW w) : wS (sIf (fC jNe (cV 7 (fAr (fLr 1) (fAi (fSk LN LX 3 (nI 1)) (fAi (fSk LN LX 3 (nI 2)) (fNil)))) G_L_output) (cV 8 (fAr (fLr 2) (fAi (fSk LN LX 3 (nI 1)) (fAi (fSk LN LX 3 (nI 2)) (fNil)))) G_R_output)) (sRI (fI (nI 0))) sSkip) (lwL t) (hs n σ) (fun L' H' => lwI t L' H') R := by
  have h := hC.B
  obtain ⟨τ1, e, c1, f1⟩ := c_output (a := (LX (5 * t + 1))) (v := (LX (5 * t + 2))) hC hW
  refine lw_if hR (by simp only [e_fI, e_fLd, e_fLr, e_fB, e_fD, e_fC, e_fT, e_fAnd, e_fOr, e_fNot, e_fCC, e_fIf, e_gI, e_gR, e_aI, e_aR, e_aN, e_cV, e_cS, e_fNil, e_fAi, e_fAr, e_sSeq, e_sSkip, e_sSt, e_sSr, e_sInc, e_sRI, e_sRR, e_sRV, e_sIf, e_sCall, e_sPI, e_sPZ, e_sPR, e_sPO, e_sAI, e_sAZ, e_sAO, e_sAR, e_sPopI, e_sPopR, e_sCopy, e_mI, e_mZ, e_mR, e_mV, jAdd_n, jMul_n, z0, z1, Option.bind_some, List.getElem?_cons_zero, List.getElem?_cons_succ, List.set_cons_zero, List.set_cons_succ, eq_self, if_true, ite_and, ite_or, ite_I, ite_bI, ite_bJ, bI_ne, bI_01, List.cons_append, List.nil_append, Bool.false_eq_true, if_false, l1, kT0 h, sk h5 hL (show 1 < 5 by omega), sk h5 hL (show 2 < 5 by omega), e]; rfl) c1 f1 (fun r => ?_) (by
    split
    · exact hW.out
    · exact hW)
  have h' := c1.B
  obtain ⟨τ2, e', r2, f2⟩ := r_output (a := (LX (5 * t + 1))) (v := (LX (5 * t + 2))) h' r hW
  exact ⟨τ2, by simp only [e_fI, e_fLd, e_fLr, e_fB, e_fD, e_fC, e_fT, e_fAnd, e_fOr, e_fNot, e_fCC, e_fIf, e_gI, e_gR, e_aI, e_aR, e_aN, e_cV, e_cS, e_fNil, e_fAi, e_fAr, e_sSeq, e_sSkip, e_sSt, e_sSr, e_sInc, e_sRI, e_sRR, e_sRV, e_sIf, e_sCall, e_sPI, e_sPZ, e_sPR, e_sPO, e_sAI, e_sAZ, e_sAO, e_sAR, e_sPopI, e_sPopR, e_sCopy, e_mI, e_mZ, e_mR, e_mV, jAdd_n, jMul_n, z0, z1, Option.bind_some, List.getElem?_cons_zero, List.getElem?_cons_succ, List.set_cons_zero, List.set_cons_succ, eq_self, if_true, ite_and, ite_or, ite_I, ite_bI, ite_bJ, bI_ne, bI_01, List.cons_append, List.nil_append, Bool.false_eq_true, if_false, l2, kT26 h', sk h5 hL (show 1 < 5 by omega), sk h5 hL (show 2 < 5 by omega), e'], r2, f2⟩
theorem lw_cycle (h5 : 5 * t + 5 ≤ LN) (hL : LN ≤ 2560) (hC : CPc n X σ w) (hR : CPr σ w) (hW : okW w) : wS (sIf (fC jNe (cV 7 (fAr (fLr 1) (fNil)) G_L_cycle) (cV 8 (fAr (fLr 2) (fNil)) G_R_cycle)) (sRI (fI (nI 0))) sSkip) (lwL t) (hs n σ) (fun L' H' => lwI t L' H') R := by
  have h := hC.B
  obtain ⟨τ1, e, c1, f1⟩ := c_cycle hC hW
  refine lw_if hR (by simp only [e_fI, e_fLd, e_fLr, e_fB, e_fD, e_fC, e_fT, e_fAnd, e_fOr, e_fNot, e_fCC, e_fIf, e_gI, e_gR, e_aI, e_aR, e_aN, e_cV, e_cS, e_fNil, e_fAi, e_fAr, e_sSeq, e_sSkip, e_sSt, e_sSr, e_sInc, e_sRI, e_sRR, e_sRV, e_sIf, e_sCall, e_sPI, e_sPZ, e_sPR, e_sPO, e_sAI, e_sAZ, e_sAO, e_sAR, e_sPopI, e_sPopR, e_sCopy, e_mI, e_mZ, e_mR, e_mV, jAdd_n, jMul_n, z0, z1, Option.bind_some, List.getElem?_cons_zero, List.getElem?_cons_succ, List.set_cons_zero, List.set_cons_succ, eq_self, if_true, ite_and, ite_or, ite_I, ite_bI, ite_bJ, bI_ne, bI_01, List.cons_append, List.nil_append, Bool.false_eq_true, if_false, l1, kT0 h, e]; rfl) c1 f1 (fun r => ?_) (cyW_ok hW)
  have h' := c1.B
  obtain ⟨τ2, e', r2, f2⟩ := r_cycle h' r hW
  exact ⟨τ2, by simp only [e_fI, e_fLd, e_fLr, e_fB, e_fD, e_fC, e_fT, e_fAnd, e_fOr, e_fNot, e_fCC, e_fIf, e_gI, e_gR, e_aI, e_aR, e_aN, e_cV, e_cS, e_fNil, e_fAi, e_fAr, e_sSeq, e_sSkip, e_sSt, e_sSr, e_sInc, e_sRI, e_sRR, e_sRV, e_sIf, e_sCall, e_sPI, e_sPZ, e_sPR, e_sPO, e_sAI, e_sAZ, e_sAO, e_sAR, e_sPopI, e_sPopR, e_sCopy, e_mI, e_mZ, e_mR, e_mV, jAdd_n, jMul_n, z0, z1, Option.bind_some, List.getElem?_cons_zero, List.getElem?_cons_succ, List.set_cons_zero, List.set_cons_succ, eq_self, if_true, ite_and, ite_or, ite_I, ite_bI, ite_bJ, bI_ne, bI_01, List.cons_append, List.nil_append, Bool.false_eq_true, if_false, l2, kT26 h', e'], r2, f2⟩
theorem lw_input (h5 : 5 * t + 5 ≤ LN) (hL : LN ≤ 2560) (hC : CPc n X σ w) (hR : CPr σ w) (hW : okW w) : wS (sIf (fC jNe (cV 7 (fAr (fLr 1) (fAi (fSk LN LX 3 (nI 1)) (fNil))) G_L_input) (cV 8 (fAr (fLr 2) (fAi (fSk LN LX 3 (nI 1)) (fNil))) G_R_input)) (sRI (fI (nI 0))) sSkip) (lwL t) (hs n σ) (fun L' H' => lwI t L' H') R := by
  have h := hC.B
  have e := c_input (a := (LX (5 * t + 1))) hC hW
  refine lw_if hR (by simp only [e_fI, e_fLd, e_fLr, e_fB, e_fD, e_fC, e_fT, e_fAnd, e_fOr, e_fNot, e_fCC, e_fIf, e_gI, e_gR, e_aI, e_aR, e_aN, e_cV, e_cS, e_fNil, e_fAi, e_fAr, e_sSeq, e_sSkip, e_sSt, e_sSr, e_sInc, e_sRI, e_sRR, e_sRV, e_sIf, e_sCall, e_sPI, e_sPZ, e_sPR, e_sPO, e_sAI, e_sAZ, e_sAO, e_sAR, e_sPopI, e_sPopR, e_sCopy, e_mI, e_mZ, e_mR, e_mV, jAdd_n, jMul_n, z0, z1, Option.bind_some, List.getElem?_cons_zero, List.getElem?_cons_succ, List.set_cons_zero, List.set_cons_succ, eq_self, if_true, ite_and, ite_or, ite_I, ite_bI, ite_bJ, bI_ne, bI_01, List.cons_append, List.nil_append, Bool.false_eq_true, if_false, l1, kT0 h, sk h5 hL (show 1 < 5 by omega), e]; rfl) hC (FK.r σ) (fun r => ⟨σ, ?_, hR, FL.r σ⟩) hW
  have e' := r_input (a := (LX (5 * t + 1))) h hR hW
  simp only [e_fI, e_fLd, e_fLr, e_fB, e_fD, e_fC, e_fT, e_fAnd, e_fOr, e_fNot, e_fCC, e_fIf, e_gI, e_gR, e_aI, e_aR, e_aN, e_cV, e_cS, e_fNil, e_fAi, e_fAr, e_sSeq, e_sSkip, e_sSt, e_sSr, e_sInc, e_sRI, e_sRR, e_sRV, e_sIf, e_sCall, e_sPI, e_sPZ, e_sPR, e_sPO, e_sAI, e_sAZ, e_sAO, e_sAR, e_sPopI, e_sPopR, e_sCopy, e_mI, e_mZ, e_mR, e_mV, jAdd_n, jMul_n, z0, z1, Option.bind_some, List.getElem?_cons_zero, List.getElem?_cons_succ, List.set_cons_zero, List.set_cons_succ, eq_self, if_true, ite_and, ite_or, ite_I, ite_bI, ite_bJ, bI_ne, bI_01, List.cons_append, List.nil_append, Bool.false_eq_true, if_false, l2, kT26 h, sk h5 hL (show 1 < 5 by omega), e']
theorem lw_ask (h5 : 5 * t + 5 ≤ LN) (hL : LN ≤ 2560) (hC : CPc n X σ w) (hR : CPr σ w) (hW : okW w) : wS (sIf (fC jNe (cV 7 (fAr (fLr 1) (fAi (fSk LN LX 3 (nI 1)) (fAi (fSk LN LX 3 (nI 2)) (fAi (fSk LN LX 3 (nI 3)) (fAi (fSk LN LX 3 (nI 4)) (fNil)))))) G_L_ask) (cV 8 (fAr (fLr 2) (fAi (fSk LN LX 3 (nI 1)) (fAi (fSk LN LX 3 (nI 2)) (fAi (fSk LN LX 3 (nI 3)) (fAi (fSk LN LX 3 (nI 4)) (fNil)))))) G_R_ask)) (sRI (fI (nI 0))) sSkip) (lwL t) (hs n σ) (fun L' H' => lwI t L' H') R := by
  have h := hC.B
  obtain ⟨τ1, e, c1, f1⟩ := c_ask (a := (LX (5 * t + 1))) (k := (LX (5 * t + 2))) (i := (LX (5 * t + 3))) (v := (LX (5 * t + 4))) hC hW
  refine lw_if hR (by simp only [e_fI, e_fLd, e_fLr, e_fB, e_fD, e_fC, e_fT, e_fAnd, e_fOr, e_fNot, e_fCC, e_fIf, e_gI, e_gR, e_aI, e_aR, e_aN, e_cV, e_cS, e_fNil, e_fAi, e_fAr, e_sSeq, e_sSkip, e_sSt, e_sSr, e_sInc, e_sRI, e_sRR, e_sRV, e_sIf, e_sCall, e_sPI, e_sPZ, e_sPR, e_sPO, e_sAI, e_sAZ, e_sAO, e_sAR, e_sPopI, e_sPopR, e_sCopy, e_mI, e_mZ, e_mR, e_mV, jAdd_n, jMul_n, z0, z1, Option.bind_some, List.getElem?_cons_zero, List.getElem?_cons_succ, List.set_cons_zero, List.set_cons_succ, eq_self, if_true, ite_and, ite_or, ite_I, ite_bI, ite_bJ, bI_ne, bI_01, List.cons_append, List.nil_append, Bool.false_eq_true, if_false, l1, kT0 h, sk h5 hL (show 1 < 5 by omega), sk h5 hL (show 2 < 5 by omega), sk h5 hL (show 3 < 5 by omega), sk h5 hL (show 4 < 5 by omega), e]; rfl) c1 f1 (fun r => ?_) (by
    split
    · rename_i q
      obtain ⟨s, hs', es⟩ := inS_i hW q
      rw [es, nC_n (show s < 2 ^ 31 by have := hW.2.1; omega)]
      exact (hW.fr (by omega) (fun _ _ => akG_ok (by have := hW.2.1; omega))).sn
    · exact hW)
  have h' := c1.B
  obtain ⟨τ2, e', r2, f2⟩ := r_ask (a := (LX (5 * t + 1))) (k := (LX (5 * t + 2))) (i := (LX (5 * t + 3))) (v := (LX (5 * t + 4))) h' r hW
  exact ⟨τ2, by simp only [e_fI, e_fLd, e_fLr, e_fB, e_fD, e_fC, e_fT, e_fAnd, e_fOr, e_fNot, e_fCC, e_fIf, e_gI, e_gR, e_aI, e_aR, e_aN, e_cV, e_cS, e_fNil, e_fAi, e_fAr, e_sSeq, e_sSkip, e_sSt, e_sSr, e_sInc, e_sRI, e_sRR, e_sRV, e_sIf, e_sCall, e_sPI, e_sPZ, e_sPR, e_sPO, e_sAI, e_sAZ, e_sAO, e_sAR, e_sPopI, e_sPopR, e_sCopy, e_mI, e_mZ, e_mR, e_mV, jAdd_n, jMul_n, z0, z1, Option.bind_some, List.getElem?_cons_zero, List.getElem?_cons_succ, List.set_cons_zero, List.set_cons_succ, eq_self, if_true, ite_and, ite_or, ite_I, ite_bI, ite_bJ, bI_ne, bI_01, List.cons_append, List.nil_append, Bool.false_eq_true, if_false, l2, kT26 h', sk h5 hL (show 1 < 5 by omega), sk h5 hL (show 2 < 5 by omega), sk h5 hL (show 3 < 5 by omega), sk h5 hL (show 4 < 5 by omega), e'], r2, f2⟩
theorem lw_answer (h5 : 5 * t + 5 ≤ LN) (hL : LN ≤ 2560) (hC : CPc n X σ w) (hR : CPr σ w) (hW : okW w) : wS (sIf (fC jNe (cV 7 (fAr (fLr 1) (fAi (fSk LN LX 3 (nI 1)) (fNil))) G_L_answer) (cV 8 (fAr (fLr 2) (fAi (fSk LN LX 3 (nI 1)) (fNil))) G_R_answer)) (sRI (fI (nI 0))) sSkip) (lwL t) (hs n σ) (fun L' H' => lwI t L' H') R := by
  have h := hC.B
  obtain ⟨τ1, e, c1, f1⟩ := c_answer (a := (LX (5 * t + 1))) hC hW
  refine lw_if hR (by simp only [e_fI, e_fLd, e_fLr, e_fB, e_fD, e_fC, e_fT, e_fAnd, e_fOr, e_fNot, e_fCC, e_fIf, e_gI, e_gR, e_aI, e_aR, e_aN, e_cV, e_cS, e_fNil, e_fAi, e_fAr, e_sSeq, e_sSkip, e_sSt, e_sSr, e_sInc, e_sRI, e_sRR, e_sRV, e_sIf, e_sCall, e_sPI, e_sPZ, e_sPR, e_sPO, e_sAI, e_sAZ, e_sAO, e_sAR, e_sPopI, e_sPopR, e_sCopy, e_mI, e_mZ, e_mR, e_mV, jAdd_n, jMul_n, z0, z1, Option.bind_some, List.getElem?_cons_zero, List.getElem?_cons_succ, List.set_cons_zero, List.set_cons_succ, eq_self, if_true, ite_and, ite_or, ite_I, ite_bI, ite_bJ, bI_ne, bI_01, List.cons_append, List.nil_append, Bool.false_eq_true, if_false, l1, kT0 h, sk h5 hL (show 1 < 5 by omega), e]; rfl) c1 f1 (fun r => ?_) (by
    split
    · rename_i q
      obtain ⟨s, hs', es⟩ := inS_i hW q
      rw [es, nC_n (show s < 2 ^ 31 by have := hW.2.1; omega)]
      exact (hW.fr (by omega) (fun _ _ => anG_ok (by have := hW.2.1; omega))).sn
    · exact hW)
  have h' := c1.B
  obtain ⟨τ2, e', r2, f2⟩ := r_answer (a := (LX (5 * t + 1))) h' r hW
  exact ⟨τ2, by simp only [e_fI, e_fLd, e_fLr, e_fB, e_fD, e_fC, e_fT, e_fAnd, e_fOr, e_fNot, e_fCC, e_fIf, e_gI, e_gR, e_aI, e_aR, e_aN, e_cV, e_cS, e_fNil, e_fAi, e_fAr, e_sSeq, e_sSkip, e_sSt, e_sSr, e_sInc, e_sRI, e_sRR, e_sRV, e_sIf, e_sCall, e_sPI, e_sPZ, e_sPR, e_sPO, e_sAI, e_sAZ, e_sAO, e_sAR, e_sPopI, e_sPopR, e_sCopy, e_mI, e_mZ, e_mR, e_mV, jAdd_n, jMul_n, z0, z1, Option.bind_some, List.getElem?_cons_zero, List.getElem?_cons_succ, List.set_cons_zero, List.set_cons_succ, eq_self, if_true, ite_and, ite_or, ite_I, ite_bI, ite_bJ, bI_ne, bI_01, List.cons_append, List.nil_append, Bool.false_eq_true, if_false, l2, kT26 h', sk h5 hL (show 1 < 5 by omega), e'], r2, f2⟩
end SPC
