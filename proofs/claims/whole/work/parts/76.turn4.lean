/-! the reference: a tick of a station, the end -/
section TU5
variable {n s m k : Nat} {σ A : sg} {y2 y3 : Int32}
theorem gt_1 {m : Nat} (hm : m = 1 ∨ m = 2 ∨ m = 4 ∨ m = 8) : jGt (nI m) (nI 1) = jNe (nI m) (nI 1) := by
  rcases hm with rfl | rfl | rfl | rfl <;> decide
theorem tk1_e (hmd : mdA A m k) (hf : okF A) : tk1 A = if (jGt (nI m) (nI 1) && mbA A && jEq (A 4 48) (nI 1) && !jEq (A 4 49) (nI 1)) = true then rpZ (dmA A (A 11 0) (A 11 1).toNatClampNeg (vlA A)) else A := by
  unfold tk1 rpA
  rw [md_pr hmd, gt_1 hmd.1]
  have e1 : jEq (A 4 48) (nI 1) = !jNe (A 4 48) (nI 1) := by
    unfold jEq jNe
    rw [decide_not, Bool.not_not]
  have e2 : (!jEq (A 4 49) (nI 1)) = !jNe (A 4 49) 0 := by
    rw [hf.ne (c := 1) (by omega), nNe]
  rw [e1, e2]
  cases jNe (nI m) (nI 1) <;> cases mbA A <;> cases jNe (A 4 48) (nI 1) <;> cases jNe (A 4 49) 0 <;> rfl
theorem dm_4 {q v : Int32} {x : Nat} : dmA A q x v 4 = A 4 := dm_j (by omega) (by omega)
theorem wm_4 {i : Nat} (h : i < 48) : rpZ A 4 i = A 4 i := by
  unfold rpZ up
  rw [if_neg (by omega), if_neg (by omega), if_neg (by omega)]
theorem tk1_4 {i : Nat} (h : i < 48) : tk1 A 4 i = A 4 i := by
  unfold tk1
  split
  · unfold rpA
    split
    · rfl
    · rw [wm_4 h, dm_4]
  · rfl
theorem q_R_turn (h : okB n) (hA : RR σ s A) (hs6 : s < 6) (hok : okA A) (hf : okF A) (hT : okT A) (hO : okO A) (h37 : A 3 7 = nI 0 ∨ A 3 7 = nI 1) (hM : MD σ s m k) (hmd : mdA A m k) : ∃ τ, G_R_turn [.ref 26, .int (nI s)] (hs n σ) = some (hs n τ) ∧ RR τ s (tkA A) ∧ (∃ m' k', MD τ s m' k' ∧ mdA (tkA A) m' k') ∧ FX (NC s) σ τ := by
  have hB0 : RR σ s (st23 A (A 4 2) (A 4 3)) := by rw [s23_id]; exact hA
  have by2 : byt (A 4 2) := hok.1 2 (by omega)
  have by3 : byt (A 4 3) := hok.1 3 (by omega)
  generalize A 4 2 = y2 at hB0 by2
  generalize A 4 3 = y3 at hB0 by3
  have c37 : σ 37 s = A 3 7 := by have := hA.at3 (i := 7) (by omega) (by omega); exact this
  refine mV_s (Nat.le_of_ble_eq_true rfl) ?_
  simp only [jx_L0, List.map_cons, List.map_nil, List.length_cons, List.length_nil, Nat.reduceAdd, Nat.reduceSub, List.replicate, List.cons_append, List.nil_append]
  unfold P_R_turn tkA
  refine wSeq (wMono (Q' := fun L1 h1 => L1 = [some (.ref 26), some (.int (nI s)), none] ∧ ∃ τ, h1 = hs n τ ∧ RR τ s (st23 (if jNe (A 3 7) 0 = true then ob1 A else A) y2 y3) ∧ (∃ m' k', MD τ s m' k' ∧ mdA (if jNe (A 3 7) 0 = true then ob1 A else A) m' k') ∧ FX (NC s) σ τ) ?_ ?_ (fun _ _ q => q))
  · refine wIf (by simp only [e_fI, e_fLd, e_fLr, e_fB, e_fD, e_fC, e_fT, e_fAnd, e_fOr, e_fNot, e_fCC, e_fIf, e_gI, e_gR, e_aI, e_aR, e_aN, e_cV, e_cS, e_fNil, e_fAi, e_fAr, e_sSeq, e_sSkip, e_sSt, e_sSr, e_sInc, e_sRI, e_sRR, e_sRV, e_sIf, e_sCall, e_sPI, e_sPZ, e_sPR, e_sPO, e_sAI, e_sAZ, e_sAO, e_sAR, e_sPopI, e_sPopR, e_sCopy, e_mI, e_mZ, e_mR, e_mV, jAdd_n, jMul_n, z0, z1, Option.bind_some, List.getElem?_cons_zero, List.getElem?_cons_succ, List.set_cons_zero, List.set_cons_succ, eq_self, if_true, ite_and, ite_or, ite_I, ite_bI, ite_bJ, bI_ne, bI_01, List.cons_append, List.nil_append, Bool.false_eq_true, if_false, gT26_11 h, iT37 h hs6, c37]; rfl) (fun hb => ?_) (fun hb => ?_)
    · rw [if_pos hb]
      obtain ⟨τ, e, r1, r2, r3⟩ := q_R_control h hB0 hs6 hok hT hM hmd
      refine wS_l (by simp only [e_fI, e_fLd, e_fLr, e_fB, e_fD, e_fC, e_fT, e_fAnd, e_fOr, e_fNot, e_fCC, e_fIf, e_gI, e_gR, e_aI, e_aR, e_aN, e_cV, e_cS, e_fNil, e_fAi, e_fAr, e_sSeq, e_sSkip, e_sSt, e_sSr, e_sInc, e_sRI, e_sRR, e_sRV, e_sIf, e_sCall, e_sPI, e_sPZ, e_sPR, e_sPO, e_sAI, e_sAZ, e_sAO, e_sAR, e_sPopI, e_sPopR, e_sCopy, e_mI, e_mZ, e_mR, e_mV, jAdd_n, jMul_n, z0, z1, Option.bind_some, List.getElem?_cons_zero, List.getElem?_cons_succ, List.set_cons_zero, List.set_cons_succ, eq_self, if_true, ite_and, ite_or, ite_I, ite_bI, ite_bJ, bI_ne, bI_01, List.cons_append, List.nil_append, Bool.false_eq_true, if_false, kT26 h, e]; rfl) ?_
      exact ⟨rfl, τ, rfl, r1, r2, r3⟩
    · rw [hb, if_neg Bool.false_ne_true]
      exact wS_l rfl ⟨rfl, σ, rfl, hB0, ⟨m, k, hM, hmd⟩, FX.r _ σ⟩
  rintro _ _ ⟨rfl, τ0, rfl, hB1, ⟨m1, k1, hM1, hmd1⟩, hF1⟩
  have eob := ob_e h37
  generalize (if jNe (A 3 7) 0 = true then ob1 A else A) = X at hB1 hmd1 eob
  refine wSeq (wS_l (by simp only [e_fI, e_fLd, e_fLr, e_fB, e_fD, e_fC, e_fT, e_fAnd, e_fOr, e_fNot, e_fCC, e_fIf, e_gI, e_gR, e_aI, e_aR, e_aN, e_cV, e_cS, e_fNil, e_fAi, e_fAr, e_sSeq, e_sSkip, e_sSt, e_sSr, e_sInc, e_sRI, e_sRR, e_sRV, e_sIf, e_sCall, e_sPI, e_sPZ, e_sPR, e_sPO, e_sAI, e_sAZ, e_sAO, e_sAR, e_sPopI, e_sPopR, e_sCopy, e_mI, e_mZ, e_mR, e_mV, jAdd_n, jMul_n, z0, z1, Option.bind_some, List.getElem?_cons_zero, List.getElem?_cons_succ, List.set_cons_zero, List.set_cons_succ, eq_self, if_true, ite_and, ite_or, ite_I, ite_bI, ite_bJ, bI_ne, bI_01, List.cons_append, List.nil_append, Bool.false_eq_true, if_false, gT26_11 h, wT37 h hs6]; rfl) ?_)
  have hB2 : RR (up τ0 37 s (nI 0)) s (st23 (obA A) y2 y3) := by
    rw [eob, s23_u (by omega)]
    exact hB1.u37
  have hM2 : MD (up τ0 37 s (nI 0)) s m1 k1 := hM1.sc (s := s) ((FX.r _ τ0).u SC.x7)
  have hF2 : FX (NC s) σ (up τ0 37 s (nI 0)) := hF1.u (Or.inl SC.x7)
  have hmd2 : mdA (obA A) m1 k1 := by rw [eob]; exact md_up hmd1 (by omega)
  have ok2 := hok.ob
  have of2 := hf.ob
  have oT2 : okT (obA A) := hT.e (ob_j (by omega) (by omega))
  have oO2 : okO (obA A) := hO.e (ob_j (by omega) (by omega)) (by rw [ob_j (by omega) (by omega)])
  generalize obA A = A2 at hB2 hmd2 ok2 of2 oT2 oO2 ⊢
  generalize up τ0 37 s (nI 0) = τ2 at hB2 hM2 hF2 ⊢
  clear hB1 hmd1 eob hM1 hF1
  -- the mailbox
  refine wSeq (wMono (Q' := fun L1 h1 => L1 = [some (.ref 26), some (.int (nI s)), none] ∧ ∃ τ, h1 = hs n τ ∧ RR τ s (st23 (tk1 A2) y2 y3) ∧ MD τ s m1 k1 ∧ FX (NC s) σ τ) ?_ ?_ (fun _ _ q => q))
  · rw [tk1_e hmd2 of2]
    have f0 : st23 A2 y2 y3 4 (48 + 0) = A2 4 48 := s23_4 (by omega) (by omega)
    have f1 : st23 A2 y2 y3 4 (48 + 1) = A2 4 49 := s23_4 (by omega) (by omega)
    refine wIf (by simp only [e_fI, e_fLd, e_fLr, e_fB, e_fD, e_fC, e_fT, e_fAnd, e_fOr, e_fNot, e_fCC, e_fIf, e_gI, e_gR, e_aI, e_aR, e_aN, e_cV, e_cS, e_fNil, e_fAi, e_fAr, e_sSeq, e_sSkip, e_sSt, e_sSr, e_sInc, e_sRI, e_sRR, e_sRV, e_sIf, e_sCall, e_sPI, e_sPZ, e_sPR, e_sPO, e_sAI, e_sAZ, e_sAO, e_sAR, e_sPopI, e_sPopR, e_sCopy, e_mI, e_mZ, e_mR, e_mV, jAdd_n, jMul_n, z0, z1, Option.bind_some, List.getElem?_cons_zero, List.getElem?_cons_succ, List.set_cons_zero, List.set_cons_succ, eq_self, if_true, ite_and, ite_or, ite_I, ite_bI, ite_bJ, bI_ne, bI_01, List.cons_append, List.nil_append, Bool.false_eq_true, if_false, kT26 h, gT26_8 h, iT34 h hs6, hM2.1, q_R_mailed h hB2 hs6, q_R_full h hB2 hs6 (show 0 < 4 by omega), q_R_full h hB2 hs6 (show 1 < 4 by omega), f0, f1]; rfl) (fun hb => ?_) (fun hb => ?_)
    · rw [if_pos hb]
      have okB2 : okA (st23 A2 y2 y3) := (ok2.u4 by2).u4 by3
      obtain ⟨τ, e, r1, r2⟩ := q_R_message h hB2 hs6 okB2 (oO2.e (s23_j (by omega)) (by rw [s23_j (by omega)]))
      rw [s23_j (show 11 ≠ 4 by omega), s23_vl, ← s23_dm, ← s23_r2] at r1
      refine wS_l (by simp only [e_fI, e_fLd, e_fLr, e_fB, e_fD, e_fC, e_fT, e_fAnd, e_fOr, e_fNot, e_fCC, e_fIf, e_gI, e_gR, e_aI, e_aR, e_aN, e_cV, e_cS, e_fNil, e_fAi, e_fAr, e_sSeq, e_sSkip, e_sSt, e_sSr, e_sInc, e_sRI, e_sRR, e_sRV, e_sIf, e_sCall, e_sPI, e_sPZ, e_sPR, e_sPO, e_sAI, e_sAZ, e_sAO, e_sAR, e_sPopI, e_sPopR, e_sCopy, e_mI, e_mZ, e_mR, e_mV, jAdd_n, jMul_n, z0, z1, Option.bind_some, List.getElem?_cons_zero, List.getElem?_cons_succ, List.set_cons_zero, List.set_cons_succ, eq_self, if_true, ite_and, ite_or, ite_I, ite_bI, ite_bJ, bI_ne, bI_01, List.cons_append, List.nil_append, Bool.false_eq_true, if_false, kT26 h, e]; rfl) ?_
      exact ⟨rfl, τ, rfl, r1, hM2.sc r2, hF2.t (r2.m (fun _ _ => Or.inl))⟩
    · rw [hb, if_neg Bool.false_ne_true]
      exact wS_l rfl ⟨rfl, τ2, rfl, hB2, hM2, hF2⟩
  rintro _ _ ⟨rfl, τ3, rfl, hB3, hM3, hF3⟩
  have hmd3 : mdA (tk1 A2) m1 k1 := hmd2.e (fun i hi => tk1_4 (by omega))
  have oT3 : okT (tk1 A2) := oT2.e (t1_j (by omega) (by omega) (by omega))
  generalize tk1 A2 = A3 at hB3 hmd3 oT3 ⊢
  refine wSeq (turn_sens h hB3 hs6 oT3 hM3 hmd3 (fun τ4 x2 hB4 hM4 hF4 => ?_))
  have hmd4 : mdA (tsA A3) m1 k1 := hmd3.e (fun i hi => by rw [ts_j (by omega) (by omega)])
  have oT4 : okT (tsA A3) := oT3.e (ts_j (by omega) (by omega))
  generalize tsA A3 = A4 at hB4 hmd4 oT4 ⊢
  refine turn_act h hB4 hs6 oT4 hM4 hmd4 (fun τ5 y2' hB5 hM5 hF5 => ?_)
  have hmd5 : mdA (mvA A4) m1 k1 := hmd4.e (fun i hi => by rw [mv_j (by omega)])
  have oT5 : okT (mvA A4) := oT4.e (mv_j (by omega))
  generalize mvA A4 = A5 at hB5 hmd5 oT5 ⊢
  have hF6 : FX (NC s) σ τ5 := hF3.t (hF4.t hF5)
  clear hB0 hB2 hB3 hB4 hM2 hM3 hM4 hF2 hF3 hF4 hF5
  unfold waA
  have c39 : τ5 39 s = A5 3 9 := by have := hB5.at3 (i := 9) (by omega) (by omega); rw [s23_j (by omega)] at this; exact this
  refine wSeq (wS_l (by simp only [e_fI, e_fLd, e_fLr, e_fB, e_fD, e_fC, e_fT, e_fAnd, e_fOr, e_fNot, e_fCC, e_fIf, e_gI, e_gR, e_aI, e_aR, e_aN, e_cV, e_cS, e_fNil, e_fAi, e_fAr, e_sSeq, e_sSkip, e_sSt, e_sSr, e_sInc, e_sRI, e_sRR, e_sRV, e_sIf, e_sCall, e_sPI, e_sPZ, e_sPR, e_sPO, e_sAI, e_sAZ, e_sAO, e_sAR, e_sPopI, e_sPopR, e_sCopy, e_mI, e_mZ, e_mR, e_mV, jAdd_n, jMul_n, z0, z1, Option.bind_some, List.getElem?_cons_zero, List.getElem?_cons_succ, List.set_cons_zero, List.set_cons_succ, eq_self, if_true, ite_and, ite_or, ite_I, ite_bI, ite_bJ, bI_ne, bI_01, List.cons_append, List.nil_append, Bool.false_eq_true, if_false, gT26_13 h, iT39 h hs6, c39, wT39 h hs6]; rfl) ?_)
  have hB6 : RR (up τ5 39 s (jAdd (A5 3 9) (nI 1))) s (st23 (up A5 3 9 (jAdd (A5 3 9) (nI 1))) y2 y3) := by rw [s23_u (by omega)]; exact hB5.u39
  have hM6 : MD (up τ5 39 s (jAdd (A5 3 9) (nI 1))) s m1 k1 := hM5.sc (s := s) ((FX.r _ τ5).u SC.x9)
  have hF7 : FX (NC s) σ (up τ5 39 s (jAdd (A5 3 9) (nI 1))) := hF6.u (Or.inl SC.x9)
  have hmd6 : mdA (up A5 3 9 (jAdd (A5 3 9) (nI 1))) m1 k1 := md_up hmd5 (by omega)
  have oT6 : okT (up A5 3 9 (jAdd (A5 3 9) (nI 1))) := oT5.e (up_ne (by omega))
  generalize up A5 3 9 (jAdd (A5 3 9) (nI 1)) = A6 at hB6 hmd6 oT6 ⊢
  generalize up τ5 39 s (jAdd (A5 3 9) (nI 1)) = τ6 at hB6 hM6 hF7 ⊢
  have d39 : τ6 39 s = A6 3 9 := by have := hB6.at3 (i := 9) (by omega) (by omega); rw [s23_j (by omega)] at this; exact this
  have d27 : τ6 27 s = A6 0 0 := by rw [hB6.k0, s23_j (by omega)]
  have f4 : st23 A6 y2 y3 4 4 = A6 4 4 := s23_4 (by omega) (by omega)
  refine wSeq (wMono (Q' := fun L1 h1 => ∃ x2, L1 = [some (.ref 26), some (.int (nI s)), x2] ∧ ∃ τ, h1 = hs n τ ∧ RR τ s (st23 (wa1 A6) y2 y3) ∧ (∃ m' k', MD τ s m' k' ∧ mdA (wa1 A6) m' k') ∧ FX (NC s) σ τ) ?_ ?_ (fun _ _ q => q))
  · unfold wa1
    rw [md_pr hmd6]
    refine wIf (by simp only [e_fI, e_fLd, e_fLr, e_fB, e_fD, e_fC, e_fT, e_fAnd, e_fOr, e_fNot, e_fCC, e_fIf, e_gI, e_gR, e_aI, e_aR, e_aN, e_cV, e_cS, e_fNil, e_fAi, e_fAr, e_sSeq, e_sSkip, e_sSt, e_sSr, e_sInc, e_sRI, e_sRR, e_sRV, e_sIf, e_sCall, e_sPI, e_sPZ, e_sPR, e_sPO, e_sAI, e_sAZ, e_sAO, e_sAR, e_sPopI, e_sPopR, e_sCopy, e_mI, e_mZ, e_mR, e_mV, jAdd_n, jMul_n, z0, z1, Option.bind_some, List.getElem?_cons_zero, List.getElem?_cons_succ, List.set_cons_zero, List.set_cons_succ, eq_self, if_true, ite_and, ite_or, ite_I, ite_bI, ite_bJ, bI_ne, bI_01, List.cons_append, List.nil_append, Bool.false_eq_true, if_false, kT26 h, gT26_8 h, iT34 h hs6, hM6.1, gT26_1 h, iT27 h hs6, d27, q_R_at h hB6 hs6 (show 4 < 128 by omega), f4, gT26_13 h, iT39 h hs6, d39]; rfl) (fun hb => ?_) (fun hb => ?_)
    · rw [if_pos hb]
      refine wSeq (wS_l (by simp only [e_fI, e_fLd, e_fLr, e_fB, e_fD, e_fC, e_fT, e_fAnd, e_fOr, e_fNot, e_fCC, e_fIf, e_gI, e_gR, e_aI, e_aR, e_aN, e_cV, e_cS, e_fNil, e_fAi, e_fAr, e_sSeq, e_sSkip, e_sSt, e_sSr, e_sInc, e_sRI, e_sRR, e_sRV, e_sIf, e_sCall, e_sPI, e_sPZ, e_sPR, e_sPO, e_sAI, e_sAZ, e_sAO, e_sAR, e_sPopI, e_sPopR, e_sCopy, e_mI, e_mZ, e_mR, e_mV, jAdd_n, jMul_n, z0, z1, Option.bind_some, List.getElem?_cons_zero, List.getElem?_cons_succ, List.set_cons_zero, List.set_cons_succ, eq_self, if_true, ite_and, ite_or, ite_I, ite_bI, ite_bJ, bI_ne, bI_01, List.cons_append, List.nil_append, Bool.false_eq_true, if_false, gT26_8 h, wT34 h hs6]; rfl) ?_)
      refine wSeq (wS_l (by simp only [e_fI, e_fLd, e_fLr, e_fB, e_fD, e_fC, e_fT, e_fAnd, e_fOr, e_fNot, e_fCC, e_fIf, e_gI, e_gR, e_aI, e_aR, e_aN, e_cV, e_cS, e_fNil, e_fAi, e_fAr, e_sSeq, e_sSkip, e_sSt, e_sSr, e_sInc, e_sRI, e_sRR, e_sRV, e_sIf, e_sCall, e_sPI, e_sPZ, e_sPR, e_sPO, e_sAI, e_sAZ, e_sAO, e_sAR, e_sPopI, e_sPopR, e_sCopy, e_mI, e_mZ, e_mR, e_mV, jAdd_n, jMul_n, z0, z1, Option.bind_some, List.getElem?_cons_zero, List.getElem?_cons_succ, List.set_cons_zero, List.set_cons_succ, eq_self, if_true, ite_and, ite_or, ite_I, ite_bI, ite_bJ, bI_ne, bI_01, List.cons_append, List.nil_append, Bool.false_eq_true, if_false, kT26 h, q_R_fail h hs6]; rfl) ?_)
      refine wSeq (wS_l (by simp only [e_fI, e_fLd, e_fLr, e_fB, e_fD, e_fC, e_fT, e_fAnd, e_fOr, e_fNot, e_fCC, e_fIf, e_gI, e_gR, e_aI, e_aR, e_aN, e_cV, e_cS, e_fNil, e_fAi, e_fAr, e_sSeq, e_sSkip, e_sSt, e_sSr, e_sInc, e_sRI, e_sRR, e_sRV, e_sIf, e_sCall, e_sPI, e_sPZ, e_sPR, e_sPO, e_sAI, e_sAZ, e_sAO, e_sAR, e_sPopI, e_sPopR, e_sCopy, e_mI, e_mZ, e_mR, e_mV, jAdd_n, jMul_n, z0, z1, Option.bind_some, List.getElem?_cons_zero, List.getElem?_cons_succ, List.set_cons_zero, List.set_cons_succ, eq_self, if_true, ite_and, ite_or, ite_I, ite_bI, ite_bJ, bI_ne, bI_01, List.cons_append, List.nil_append, Bool.false_eq_true, if_false, gT26_12 h, wT38 h hs6]; rfl) ?_)
      have hFn : FX (fun a i => 34 ≤ a ∧ a ≤ 36 ∧ i = s) τ6 (up (up (up τ6 34 s (nI 4)) 35 s (nI 1)) 36 s (nI 27)) := (((FX.r _ τ6).u ⟨by omega, by omega, rfl⟩).u ⟨by omega, by omega, rfl⟩).u ⟨by omega, by omega, rfl⟩
      have hMn : MD (up (up (up τ6 34 s (nI 4)) 35 s (nI 1)) 36 s (nI 27)) s 4 27 := ⟨by simp [up], by simp [up, bI, nI_1e], by simp [up]⟩
      have hBn := hB6.nn hFn
      generalize up (up (up τ6 34 s (nI 4)) 35 s (nI 1)) 36 s (nI 27) = ρ at hFn hMn hBn ⊢
      obtain ⟨τ, e, r1, r2⟩ := q_R_rest h (hBn.u38 (v := nI 0)) hs6
      refine wS_l (by simp only [e_fI, e_fLd, e_fLr, e_fB, e_fD, e_fC, e_fT, e_fAnd, e_fOr, e_fNot, e_fCC, e_fIf, e_gI, e_gR, e_aI, e_aR, e_aN, e_cV, e_cS, e_fNil, e_fAi, e_fAr, e_sSeq, e_sSkip, e_sSt, e_sSr, e_sInc, e_sRI, e_sRR, e_sRV, e_sIf, e_sCall, e_sPI, e_sPZ, e_sPR, e_sPO, e_sAI, e_sAZ, e_sAO, e_sAR, e_sPopI, e_sPopR, e_sCopy, e_mI, e_mZ, e_mR, e_mV, jAdd_n, jMul_n, z0, z1, Option.bind_some, List.getElem?_cons_zero, List.getElem?_cons_succ, List.set_cons_zero, List.set_cons_succ, eq_self, if_true, ite_and, ite_or, ite_I, ite_bI, ite_bJ, bI_ne, bI_01, List.cons_append, List.nil_append, Bool.false_eq_true, if_false, kT26 h, e]; rfl) ?_
      refine ⟨_, rfl, τ, rfl, ?_, ⟨4, 27, ?_, ?_⟩, ((hF7.t (hFn.m (fun _ _ => Or.inr))).u (Or.inl SC.x8)).t (r2.m (fun _ _ => Or.inl))⟩
      · rw [s23_f (by omega), s23_u (by omega), s23_bc]
        exact r1
      · exact (hMn.sc (s := s) ((FX.r _ ρ).u SC.x8)).sc r2
      · refine mdA.e (A := bcA A6 (nI 4) (nI 27)) (md_bc (m := 4) (k := 0) (by omega) (by omega)) (fun i hi => ?_)
        rw [fil_ne (by omega), up_ne (by omega)]
    · rw [hb, if_neg Bool.false_ne_true]
      exact wS_l rfl ⟨_, rfl, τ6, rfl, hB6, ⟨m1, k1, hM6, hmd6⟩, hF7⟩
  rintro _ _ ⟨x2', rfl, τ7, rfl, hB7, ⟨m7, k7, hM7, hmd7⟩, hF8⟩
  generalize wa1 A6 = A7 at hB7 hmd7 ⊢
  have hm7 := hmd7.1
  have e2 : jAdd (nI m7) (if decide (¬ k7 = 0) = true then nI 16 else nI 0) = A7 4 2 := by
    rw [hmd7.2.2.1]
    by_cases q : k7 = 0
    · rw [decide_eq_false (by omega), if_neg Bool.false_ne_true, if_pos q, jAdd_n]
      rfl
    · rw [decide_eq_true q, if_pos rfl, if_neg q, jAdd_n]
  refine wSeq (wS_l (by simp only [e_fI, e_fLd, e_fLr, e_fB, e_fD, e_fC, e_fT, e_fAnd, e_fOr, e_fNot, e_fCC, e_fIf, e_gI, e_gR, e_aI, e_aR, e_aN, e_cV, e_cS, e_fNil, e_fAi, e_fAr, e_sSeq, e_sSkip, e_sSt, e_sSr, e_sInc, e_sRI, e_sRR, e_sRV, e_sIf, e_sCall, e_sPI, e_sPZ, e_sPR, e_sPO, e_sAI, e_sAZ, e_sAO, e_sAR, e_sPopI, e_sPopR, e_sCopy, e_mI, e_mZ, e_mR, e_mV, jAdd_n, jMul_n, z0, z1, Option.bind_some, List.getElem?_cons_zero, List.getElem?_cons_succ, List.set_cons_zero, List.set_cons_succ, eq_self, if_true, ite_and, ite_or, ite_I, ite_bI, ite_bJ, bI_ne, bI_01, List.cons_append, List.nil_append, Bool.false_eq_true, if_false, gT26_4 h, gT26_8 h, iT34 h hs6, hM7.1, gT26_9 h, iT35 h hs6, hM7.2.1, e2, wT30 h (show 128 * s + 2 < 768 by omega)]; rfl) ?_)
  have k36 : up τ7 30 (128 * s + 2) (A7 4 2) 36 s = A7 4 3 := by rw [up_ne (by omega), hM7.2.2, hmd7.2.2.2]
  refine wSeq (wS_l (by simp only [e_fI, e_fLd, e_fLr, e_fB, e_fD, e_fC, e_fT, e_fAnd, e_fOr, e_fNot, e_fCC, e_fIf, e_gI, e_gR, e_aI, e_aR, e_aN, e_cV, e_cS, e_fNil, e_fAi, e_fAr, e_sSeq, e_sSkip, e_sSt, e_sSr, e_sInc, e_sRI, e_sRR, e_sRV, e_sIf, e_sCall, e_sPI, e_sPZ, e_sPR, e_sPO, e_sAI, e_sAZ, e_sAO, e_sAR, e_sPopI, e_sPopR, e_sCopy, e_mI, e_mZ, e_mR, e_mV, jAdd_n, jMul_n, z0, z1, Option.bind_some, List.getElem?_cons_zero, List.getElem?_cons_succ, List.set_cons_zero, List.set_cons_succ, eq_self, if_true, ite_and, ite_or, ite_I, ite_bI, ite_bJ, bI_ne, bI_01, List.cons_append, List.nil_append, Bool.false_eq_true, if_false, gT26_4 h, gT26_10 h, iT36 h hs6, k36, wT30 h (show 128 * s + 3 < 768 by omega)]; rfl) ?_)
  refine wS_r rfl ⟨rfl, _, rfl, ?_, ⟨m7, k7, ?_, hmd7⟩, (hF8.u (Or.inl (SC.m (by omega)))).u (Or.inl (SC.m (by omega)))⟩
  · have := (hB7.u4 (i := 2) (v := A7 4 2) (by omega)).u4 (i := 3) (v := A7 4 3) (by omega)
    rw [s23_fin rfl rfl] at this
    exact this
  · exact (hM7.sc (s := s) ((FX.r _ τ7).u (SC.m (by omega)))).sc (s := s) ((FX.r _ _).u (SC.m (by omega)))
end TU5
