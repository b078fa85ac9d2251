/-! the reference: a tick of a station, second half -/
theorem shk : ∀ k : Nat, k < 25 → ∀ x : BitVec 32, (x.sshiftRight k) &&& 255#32 = (x >>> k) &&& 255#32 := fun k hk x => by
    apply BitVec.eq_of_getLsbD_eq
    intro j hj
    rw [BitVec.getLsbD_and, BitVec.getLsbD_and, BitVec.getLsbD_sshiftRight, BitVec.getLsbD_ushiftRight]
    by_cases q : j < 8
    · have : k + j < 32 := by omega
      simp [this, show ¬ 32 ≤ j by omega]
    · have : (255#32).getLsbD j = false := by
        rw [BitVec.getLsbD_ofNat]
        have : Nat.testBit 255 j = false := Nat.testBit_lt_two_pow (Nat.lt_of_lt_of_le (show 255 < 2 ^ 8 by decide) (Nat.pow_le_pow_right (by omega) (by omega)))
        rw [this, Bool.and_false]
      rw [this, Bool.and_false, Bool.and_false]
theorem shr_b {v : Int32} {k : Nat} {y : Int32} (h : ((y &&& 31).toBitVec.smod 32).toNat = k) : (jShr v y).toBitVec = v.toBitVec.sshiftRight k := by
  unfold jShr
  rw [Int32.toBitVec_shiftRight, BitVec.sshiftRight_eq', h]
theorem ush_b {v : Int32} {k : Nat} {y : Int32} (h : ((y.toUInt32 &&& Int32.toUInt32 31).toBitVec % 32).toNat = k) : (jUsh v y).toBitVec = v.toBitVec >>> k := by
  unfold jUsh
  show (v.toUInt32 >>> (y.toUInt32 &&& Int32.toUInt32 31)).toBitVec = _
  rw [UInt32.toBitVec_shiftRight, BitVec.ushiftRight_eq', h]
  rfl
theorem sh_u {v : Int32} {i : Nat} (hi : i < 4) : jAnd (jShr v (nI (8 * i))) (nI 255) = jAnd (jUsh v (nI (8 * i))) (nI 255) := by
  unfold jAnd
  apply Int32.toBitVec_inj.mp
  rw [Int32.toBitVec_and, Int32.toBitVec_and, show (nI 255).toBitVec = 255#32 by decide]
  have a1 : (jShr v (nI (8 * i))).toBitVec = v.toBitVec.sshiftRight (8 * i) := shr_b ((show ∀ i, i < 4 → ((nI (8 * i) &&& 31).toBitVec.smod 32).toNat = 8 * i by decide) i hi)
  have a2 : (jUsh v (nI (8 * i))).toBitVec = v.toBitVec >>> (8 * i) := ush_b ((show ∀ i, i < 4 → (((nI (8 * i)).toUInt32 &&& Int32.toUInt32 31).toBitVec % 32).toNat = 8 * i by decide) i hi)
  rw [a1, a2]
  exact shk (8 * i) (by omega) _
section MSG
variable {n s m k : Nat} {σ A : sg} {y2 y3 : Int32}
theorem q_R_rest (h : okB n) (hA : RR σ s A) (hs6 : s < 6) : ∃ τ, G_R_rest [.ref 26, .int (nI s)] (hs n σ) = some (hs n τ) ∧ RR τ s (fil A 2 2 (nI 0)) ∧ FX (SC s) σ τ := by
  refine mV_s (Nat.le_of_ble_eq_true rfl) ?_
  simp only [jx_L0, List.map_cons, List.map_nil, List.length_cons, List.length_nil, Nat.reduceAdd, Nat.reduceSub, List.replicate, List.cons_append, List.nil_append]
  unfold P_R_rest
  refine wSeq (wSeq (wS_l (by simp only [e_fI, e_fLd, e_fLr, e_fB, e_fD, e_fC, e_fT, e_fAnd, e_fOr, e_fNot, e_fCC, e_fIf, e_gI, e_gR, e_aI, e_aR, e_aN, e_cV, e_cS, e_fNil, e_fAi, e_fAr, e_sSeq, e_sSkip, e_sSt, e_sSr, e_sInc, e_sRI, e_sRR, e_sRV, e_sIf, e_sCall, e_sPI, e_sPZ, e_sPR, e_sPO, e_sAI, e_sAZ, e_sAO, e_sAR, e_sPopI, e_sPopR, e_sCopy, e_mI, e_mZ, e_mR, e_mV, jAdd_n, jMul_n, z0, z1, Option.bind_some, List.getElem?_cons_zero, List.getElem?_cons_succ, List.set_cons_zero, List.set_cons_succ, eq_self, if_true, ite_and, ite_or, ite_I, ite_bI, ite_bJ, bI_ne, bI_01, List.cons_append, List.nil_append, Bool.false_eq_true, if_false]; rfl) ?_))
  refine wWh (I := fun i L H => ∃ τ, L = [some (.ref 26), some (.int (nI s)), some (.int (nI i))] ∧ H = hs n τ ∧ RR τ s (fil A 2 i (nI 0)) ∧ FX (SC s) σ τ) (e := 2) ?_ ?_ ?_ 600 0 _ _ (by omega) (by omega) ⟨σ, rfl, rfl, ?_, FX.r _ σ⟩
  · rintro i _ _ ⟨τ, rfl, rfl, -⟩ hi
    simp only [e_fI, e_fLd, e_fLr, e_fB, e_fD, e_fC, e_fT, e_fAnd, e_fOr, e_fNot, e_fCC, e_fIf, e_gI, e_gR, e_aI, e_aR, e_aN, e_cV, e_cS, e_fNil, e_fAi, e_fAr, e_sSeq, e_sSkip, e_sSt, e_sSr, e_sInc, e_sRI, e_sRR, e_sRV, e_sIf, e_sCall, e_sPI, e_sPZ, e_sPR, e_sPO, e_sAI, e_sAZ, e_sAO, e_sAR, e_sPopI, e_sPopR, e_sCopy, e_mI, e_mZ, e_mR, e_mV, jAdd_n, jMul_n, z0, z1, Option.bind_some, List.getElem?_cons_zero, List.getElem?_cons_succ, List.set_cons_zero, List.set_cons_succ, eq_self, if_true, ite_and, ite_or, ite_I, ite_bI, ite_bJ, bI_ne, bI_01, List.cons_append, List.nil_append, Bool.false_eq_true, if_false, jLt, nI_ltI (show i < 2 ^ 31 by omega) (show 2 < 2 ^ 31 by omega)]
  · rintro i _ _ ⟨τ, rfl, rfl, hR, hF⟩ hi
    refine wSeq (wS_l (by simp only [e_fI, e_fLd, e_fLr, e_fB, e_fD, e_fC, e_fT, e_fAnd, e_fOr, e_fNot, e_fCC, e_fIf, e_gI, e_gR, e_aI, e_aR, e_aN, e_cV, e_cS, e_fNil, e_fAi, e_fAr, e_sSeq, e_sSkip, e_sSt, e_sSr, e_sInc, e_sRI, e_sRR, e_sRV, e_sIf, e_sCall, e_sPI, e_sPZ, e_sPR, e_sPO, e_sAI, e_sAZ, e_sAO, e_sAR, e_sPopI, e_sPopR, e_sCopy, e_mI, e_mZ, e_mR, e_mV, jAdd_n, jMul_n, z0, z1, Option.bind_some, List.getElem?_cons_zero, List.getElem?_cons_succ, List.set_cons_zero, List.set_cons_succ, eq_self, if_true, ite_and, ite_or, ite_I, ite_bI, ite_bJ, bI_ne, bI_01, List.cons_append, List.nil_append, Bool.false_eq_true, if_false, gT26_17 h, wT43 h (show 2 * s + i < 12 by omega)]; rfl) ?_)
    refine wS_l (by simp only [e_fI, e_fLd, e_fLr, e_fB, e_fD, e_fC, e_fT, e_fAnd, e_fOr, e_fNot, e_fCC, e_fIf, e_gI, e_gR, e_aI, e_aR, e_aN, e_cV, e_cS, e_fNil, e_fAi, e_fAr, e_sSeq, e_sSkip, e_sSt, e_sSr, e_sInc, e_sRI, e_sRR, e_sRV, e_sIf, e_sCall, e_sPI, e_sPZ, e_sPR, e_sPO, e_sAI, e_sAZ, e_sAO, e_sAR, e_sPopI, e_sPopR, e_sCopy, e_mI, e_mZ, e_mR, e_mV, jAdd_n, jMul_n, z0, z1, Option.bind_some, List.getElem?_cons_zero, List.getElem?_cons_succ, List.set_cons_zero, List.set_cons_succ, eq_self, if_true, ite_and, ite_or, ite_I, ite_bI, ite_bJ, bI_ne, bI_01, List.cons_append, List.nil_append, Bool.false_eq_true, if_false, nI_add]; rfl) ?_
    have hc : celR 2 i := by unfold celR; omega
    refine ⟨_, rfl, rfl, ?_, hF.u (SC.c (j := 2) (i := i) hc)⟩
    have : fil A 2 (i + 1) (nI 0) = up (fil A 2 i (nI 0)) 2 i (nI 0) := by
      funext a j
      unfold up fil
      by_cases h1 : a = 2 <;> by_cases h2 : j = i <;> by_cases h3 : j < i <;> simp [h1, h2, h3] <;> omega
    rw [this]
    exact hR.u (j := 2) (i := i) hc
  · rintro _ _ ⟨τ, rfl, rfl, hR, hF⟩
    exact wS_r rfl ⟨rfl, τ, rfl, hR, hF⟩
  · have : fil A 2 0 (nI 0) = A := by
      funext a j
      unfold fil
      rw [if_neg (by omega)]
    rw [this]
    exact hA
/-- what stands in a station's first object -/
def okO (A : sg) : Prop := A 21 0 = jAdd (jAdd (nI 1000) (jMul (nI 16) (A 0 0))) (A 0 1)
def mtA (A : sg) (k : Int32) (x : Nat) : Int32 := if (jEq k (nI 1) && decide (x = 1 ∨ x = 2)) = true then nI 1 else if (jEq k (nI 2) && decide (x ≤ 3)) = true then nI 2 else nI 3
def mvV (A : sg) (k : Int32) (x : Nat) : Int32 := if (jEq k (nI 1) && decide (x = 1 ∨ x = 2)) = true then nI 0 else if (jEq k (nI 2) && decide (x ≤ 3)) = true then A 21 x else if (jNe k (nI 1) && jNe k (nI 2)) = true then nI 1 else if 3 < x then nI 2 else nI 3
def moA (A : sg) (k : Int32) (x : Nat) (v : Int32) : sg := if (jEq k (nI 1) && decide (x = 1 ∨ x = 2)) = true then up A 21 x v else A
theorem dm_e {k v : Int32} {x : Nat} : dmA A k x v = wm (moA A k x v) 12 (mtA A k x) (nI x) (mvV A k x) := by
  unfold dmA moA mtA mvV
  have fin : ∀ p q r s : Bool, jEq k (nI 1) = p → jEq k (nI 2) = q → jNe k (nI 1) = r → jNe k (nI 2) = s → (p = true ∧ q = false ∧ r = false ∧ s = true) ∨ (p = false ∧ q = true ∧ r = true ∧ s = false) ∨ (p = false ∧ q = false ∧ r = true ∧ s = true) := fun p q r s e1 e2 e3 e4 => by
    subst e1 e2 e3 e4
    by_cases k1 : k = nI 1
    · subst k1
      decide
    · by_cases k2 : k = nI 2
      · subst k2
        decide
      · refine Or.inr (Or.inr ⟨decide_eq_false k1, decide_eq_false k2, decide_eq_true k1, decide_eq_true k2⟩)
  rcases fin _ _ _ _ rfl rfl rfl rfl with ⟨j11, j12, n11, n12⟩ | ⟨j11, j12, n11, n12⟩ | ⟨j11, j12, n11, n12⟩
  · rcases (show (4 ≤ x ∧ ¬ (x = 1 ∨ x = 2) ∧ 3 < x) ∨ (¬ 4 ≤ x ∧ (x = 1 ∨ x = 2) ∧ ¬ 3 < x) ∨ (¬ 4 ≤ x ∧ ¬ (x = 1 ∨ x = 2) ∧ ¬ 3 < x) by omega) with ⟨x4, x12, x3⟩ | ⟨x4, x12, x3⟩ | ⟨x4, x12, x3⟩ <;> simp only [j11, j12, n11, n12, x4, x12, x3, decide_true, decide_false, Bool.and_false, Bool.false_and, Bool.and_true, Bool.true_and, Bool.false_eq_true, if_false, if_true]
  · rcases (show (4 ≤ x ∧ ¬ x ≤ 3 ∧ 3 < x) ∨ (¬ 4 ≤ x ∧ x ≤ 3 ∧ ¬ 3 < x) by omega) with ⟨x4, x12, x3⟩ | ⟨x4, x12, x3⟩ <;> simp only [j11, j12, n11, n12, x4, x12, x3, decide_true, decide_false, Bool.and_false, Bool.false_and, Bool.and_true, Bool.true_and, Bool.false_eq_true, if_false, if_true]
  · rcases (show (4 ≤ x ∧ ¬ x ≤ 3 ∧ 3 < x) ∨ (¬ 4 ≤ x ∧ x ≤ 3 ∧ ¬ 3 < x) by omega) with ⟨x4, x12, x3⟩ | ⟨x4, x12, x3⟩ <;> simp only [j11, j12, n11, n12, x4, x12, x3, decide_true, decide_false, Bool.and_false, Bool.false_and, Bool.and_true, Bool.true_and, Bool.false_eq_true, if_false, if_true]
theorem RR.b21 (h : RR σ s A) {x : Nat} (h1 : x = 1 ∨ x = 2) : σ 41 (2 * s + x - 1) = A 21 x := by
  have := h 21 x (by unfold celR; omega)
  rcases h1 with rfl | rfl <;> exact this
theorem RR.m21 (h : RR σ s A) : σ 40 s = A 21 3 := h 21 3 (by unfold celR; omega)
theorem RR.u21 {v : Int32} (h : RR σ s A) {x : Nat} (h1 : x = 1 ∨ x = 2) : RR (up σ 41 (2 * s + x - 1) v) s (up A 21 x v) := by
  have := h.u (j := 21) (i := x) (v := v) (by unfold celR; omega)
  rcases h1 with rfl | rfl <;> exact this
theorem RR.v21 {v : Int32} (h : RR σ s A) : RR (up σ 40 s v) s (up A 21 3 v) := h.u (j := 21) (i := 3) (by unfold celR; omega)
theorem SC.o {x : Nat} (h1 : x = 1 ∨ x = 2) : SC s 41 (2 * s + x - 1) := by
  have := SC.c (s := s) (j := 21) (i := x) (by unfold celR; omega)
  rcases h1 with rfl | rfl <;> exact this
theorem SC.g : SC s 40 s := SC.c (j := 21) (i := 3) (by unfold celR; omega)
theorem q_R_message (h : okB n) (hB : RR σ s A) (hs6 : s < 6) (hok : okA A) (hO : okO A) : ∃ τ, G_R_message [.ref 26, .int (nI s)] (hs n σ) = some (hs n τ) ∧ RR τ s (rpZ (dmA A (A 11 0) (A 11 1).toNatClampNeg (vlA A))) ∧ FX (SC s) σ τ := by
  obtain ⟨x, hx, ex⟩ := (hok.2 0 (by omega) 1 (by omega)).2
  have ex1 : A 11 1 = nI x := ex
  rw [ex1, nC_n (show x < 2 ^ 31 by omega), dm_e]
  have d : ∀ i, i < 8 → σ 32 (32 * s + i) = A 11 i := fun i hi => by
    have := hB.dn (c := 0) (i := i) (by omega) hi
    rw [show 8 * (4 * s + 0) + i = 32 * s + i by omega] at this
    exact this
  have d0 : σ 32 (32 * s) = A 11 0 := d 0 (by omega)
  refine mV_s (Nat.le_of_ble_eq_true rfl) ?_
  simp only [jx_L0, List.map_cons, List.map_nil, List.length_cons, List.length_nil, Nat.reduceAdd, Nat.reduceSub, List.replicate, List.cons_append, List.nil_append]
  unfold P_R_message
  refine wSeq (wS_l (by simp only [e_fI, e_fLd, e_fLr, e_fB, e_fD, e_fC, e_fT, e_fAnd, e_fOr, e_fNot, e_fCC, e_fIf, e_gI, e_gR, e_aI, e_aR, e_aN, e_cV, e_cS, e_fNil, e_fAi, e_fAr, e_sSeq, e_sSkip, e_sSt, e_sSr, e_sInc, e_sRI, e_sRR, e_sRV, e_sIf, e_sCall, e_sPI, e_sPZ, e_sPR, e_sPO, e_sAI, e_sAZ, e_sAO, e_sAR, e_sPopI, e_sPopR, e_sCopy, e_mI, e_mZ, e_mR, e_mV, jAdd_n, jMul_n, z0, z1, Option.bind_some, List.getElem?_cons_zero, List.getElem?_cons_succ, List.set_cons_zero, List.set_cons_succ, eq_self, if_true, ite_and, ite_or, ite_I, ite_bI, ite_bJ, bI_ne, bI_01, List.cons_append, List.nil_append, Bool.false_eq_true, if_false]; rfl) ?_)
  refine wSeq (wS_l (by simp only [e_fI, e_fLd, e_fLr, e_fB, e_fD, e_fC, e_fT, e_fAnd, e_fOr, e_fNot, e_fCC, e_fIf, e_gI, e_gR, e_aI, e_aR, e_aN, e_cV, e_cS, e_fNil, e_fAi, e_fAr, e_sSeq, e_sSkip, e_sSt, e_sSr, e_sInc, e_sRI, e_sRR, e_sRV, e_sIf, e_sCall, e_sPI, e_sPZ, e_sPR, e_sPO, e_sAI, e_sAZ, e_sAO, e_sAR, e_sPopI, e_sPopR, e_sCopy, e_mI, e_mZ, e_mR, e_mV, jAdd_n, jMul_n, z0, z1, Option.bind_some, List.getElem?_cons_zero, List.getElem?_cons_succ, List.set_cons_zero, List.set_cons_succ, eq_self, if_true, ite_and, ite_or, ite_I, ite_bI, ite_bJ, bI_ne, bI_01, List.cons_append, List.nil_append, Bool.false_eq_true, if_false]; rfl) ?_)
  refine wSeq (wS_l (by simp only [e_fI, e_fLd, e_fLr, e_fB, e_fD, e_fC, e_fT, e_fAnd, e_fOr, e_fNot, e_fCC, e_fIf, e_gI, e_gR, e_aI, e_aR, e_aN, e_cV, e_cS, e_fNil, e_fAi, e_fAr, e_sSeq, e_sSkip, e_sSt, e_sSr, e_sInc, e_sRI, e_sRR, e_sRV, e_sIf, e_sCall, e_sPI, e_sPZ, e_sPR, e_sPO, e_sAI, e_sAZ, e_sAO, e_sAR, e_sPopI, e_sPopR, e_sCopy, e_mI, e_mZ, e_mR, e_mV, jAdd_n, jMul_n, z0, z1, Option.bind_some, List.getElem?_cons_zero, List.getElem?_cons_succ, List.set_cons_zero, List.set_cons_succ, eq_self, if_true, ite_and, ite_or, ite_I, ite_bI, ite_bJ, bI_ne, bI_01, List.cons_append, List.nil_append, Bool.false_eq_true, if_false, gT26_6 h, iT32 h (show 32 * s < 192 by omega), d0]; rfl) ?_)
  refine wSeq (wS_l (by simp only [e_fI, e_fLd, e_fLr, e_fB, e_fD, e_fC, e_fT, e_fAnd, e_fOr, e_fNot, e_fCC, e_fIf, e_gI, e_gR, e_aI, e_aR, e_aN, e_cV, e_cS, e_fNil, e_fAi, e_fAr, e_sSeq, e_sSkip, e_sSt, e_sSr, e_sInc, e_sRI, e_sRR, e_sRV, e_sIf, e_sCall, e_sPI, e_sPZ, e_sPR, e_sPO, e_sAI, e_sAZ, e_sAO, e_sAR, e_sPopI, e_sPopR, e_sCopy, e_mI, e_mZ, e_mR, e_mV, jAdd_n, jMul_n, z0, z1, Option.bind_some, List.getElem?_cons_zero, List.getElem?_cons_succ, List.set_cons_zero, List.set_cons_succ, eq_self, if_true, ite_and, ite_or, ite_I, ite_bI, ite_bJ, bI_ne, bI_01, List.cons_append, List.nil_append, Bool.false_eq_true, if_false, gT26_6 h, iT32 h (show 32 * s + 1 < 192 by omega), d 1 (by omega), ex1]; rfl) ?_)
  have ev : jOr (jOr (jOr (A 11 2) (jShl (A 11 3) (nI 8))) (jShl (A 11 4) (nI 16))) (jShl (A 11 5) (nI 24)) = vlA A := rfl
  refine wSeq (wS_l (by simp only [e_fI, e_fLd, e_fLr, e_fB, e_fD, e_fC, e_fT, e_fAnd, e_fOr, e_fNot, e_fCC, e_fIf, e_gI, e_gR, e_aI, e_aR, e_aN, e_cV, e_cS, e_fNil, e_fAi, e_fAr, e_sSeq, e_sSkip, e_sSt, e_sSr, e_sInc, e_sRI, e_sRR, e_sRV, e_sIf, e_sCall, e_sPI, e_sPZ, e_sPR, e_sPO, e_sAI, e_sAZ, e_sAO, e_sAR, e_sPopI, e_sPopR, e_sCopy, e_mI, e_mZ, e_mR, e_mV, jAdd_n, jMul_n, z0, z1, Option.bind_some, List.getElem?_cons_zero, List.getElem?_cons_succ, List.set_cons_zero, List.set_cons_succ, eq_self, if_true, ite_and, ite_or, ite_I, ite_bI, ite_bJ, bI_ne, bI_01, List.cons_append, List.nil_append, Bool.false_eq_true, if_false, gT26_6 h, iT32 h (show 32 * s + 2 < 192 by omega), iT32 h (show 32 * s + 3 < 192 by omega), iT32 h (show 32 * s + 4 < 192 by omega), iT32 h (show 32 * s + 5 < 192 by omega), d 2 (by omega), d 3 (by omega), d 4 (by omega), d 5 (by omega), ev]; rfl) ?_)
  refine wSeq (wS_l (by simp only [e_fI, e_fLd, e_fLr, e_fB, e_fD, e_fC, e_fT, e_fAnd, e_fOr, e_fNot, e_fCC, e_fIf, e_gI, e_gR, e_aI, e_aR, e_aN, e_cV, e_cS, e_fNil, e_fAi, e_fAr, e_sSeq, e_sSkip, e_sSt, e_sSr, e_sInc, e_sRI, e_sRR, e_sRV, e_sIf, e_sCall, e_sPI, e_sPZ, e_sPR, e_sPO, e_sAI, e_sAZ, e_sAO, e_sAR, e_sPopI, e_sPopR, e_sCopy, e_mI, e_mZ, e_mR, e_mV, jAdd_n, jMul_n, z0, z1, Option.bind_some, List.getElem?_cons_zero, List.getElem?_cons_succ, List.set_cons_zero, List.set_cons_succ, eq_self, if_true, ite_and, ite_or, ite_I, ite_bI, ite_bJ, bI_ne, bI_01, List.cons_append, List.nil_append, Bool.false_eq_true, if_false]; rfl) ?_)
  refine wSeq (wS_l (by simp only [e_fI, e_fLd, e_fLr, e_fB, e_fD, e_fC, e_fT, e_fAnd, e_fOr, e_fNot, e_fCC, e_fIf, e_gI, e_gR, e_aI, e_aR, e_aN, e_cV, e_cS, e_fNil, e_fAi, e_fAr, e_sSeq, e_sSkip, e_sSt, e_sSr, e_sInc, e_sRI, e_sRR, e_sRV, e_sIf, e_sCall, e_sPI, e_sPZ, e_sPR, e_sPO, e_sAI, e_sAZ, e_sAO, e_sAR, e_sPopI, e_sPopR, e_sCopy, e_mI, e_mZ, e_mR, e_mV, jAdd_n, jMul_n, z0, z1, Option.bind_some, List.getElem?_cons_zero, List.getElem?_cons_succ, List.set_cons_zero, List.set_cons_succ, eq_self, if_true, ite_and, ite_or, ite_I, ite_bI, ite_bJ, bI_ne, bI_01, List.cons_append, List.nil_append, Bool.false_eq_true, if_false, jGt, nI_ltI (show 3 < 2 ^ 31 by omega) (show x < 2 ^ 31 by omega)]; rfl) ?_)
  generalize vlA A = v
  generalize hk : A 11 0 = k
  have eo : (jEq (nI x) (nI 1) || jEq (nI x) (nI 2)) = decide (x = 1 ∨ x = 2) := by
    rw [jEq_n (by omega) (by omega), jEq_n (by omega) (by omega), ← Bool.decide_or]
  refine wSeq (wMono (Q' := fun L1 h1 => ∃ τ, L1 = [some (.ref 26), some (.int (nI s)), some (.int (nI (32 * s))), some (.int (nI (32 * s + 8))), some (.int k), some (.int (nI x)), some (.int v), some (.int (mtA A k x)), some (.int (mvV A k x)), none] ∧ h1 = hs n τ ∧ RR τ s (moA A k x v) ∧ FX (SC s) σ τ) ?_ ?_ (fun _ _ q => q))
  · unfold mtA mvV moA
    refine wIf (by simp only [e_fI, e_fLd, e_fLr, e_fB, e_fD, e_fC, e_fT, e_fAnd, e_fOr, e_fNot, e_fCC, e_fIf, e_gI, e_gR, e_aI, e_aR, e_aN, e_cV, e_cS, e_fNil, e_fAi, e_fAr, e_sSeq, e_sSkip, e_sSt, e_sSr, e_sInc, e_sRI, e_sRR, e_sRV, e_sIf, e_sCall, e_sPI, e_sPZ, e_sPR, e_sPO, e_sAI, e_sAZ, e_sAO, e_sAR, e_sPopI, e_sPopR, e_sCopy, e_mI, e_mZ, e_mR, e_mV, jAdd_n, jMul_n, z0, z1, Option.bind_some, List.getElem?_cons_zero, List.getElem?_cons_succ, List.set_cons_zero, List.set_cons_succ, eq_self, if_true, ite_and, ite_or, ite_I, ite_bI, ite_bJ, bI_ne, bI_01, List.cons_append, List.nil_append, Bool.false_eq_true, if_false, eo]; rfl) (fun hb => ?_) (fun hb => ?_)
    · rw [hb, if_pos rfl, if_pos rfl, if_pos rfl]
      have x12 := of_decide_eq_true (Bool.and_eq_true_iff.mp hb).2
      refine wSeq (wS_l (by simp only [e_fI, e_fLd, e_fLr, e_fB, e_fD, e_fC, e_fT, e_fAnd, e_fOr, e_fNot, e_fCC, e_fIf, e_gI, e_gR, e_aI, e_aR, e_aN, e_cV, e_cS, e_fNil, e_fAi, e_fAr, e_sSeq, e_sSkip, e_sSt, e_sSr, e_sInc, e_sRI, e_sRR, e_sRV, e_sIf, e_sCall, e_sPI, e_sPZ, e_sPR, e_sPO, e_sAI, e_sAZ, e_sAO, e_sAR, e_sPopI, e_sPopR, e_sCopy, e_mI, e_mZ, e_mR, e_mV, jAdd_n, jMul_n, z0, z1, Option.bind_some, List.getElem?_cons_zero, List.getElem?_cons_succ, List.set_cons_zero, List.set_cons_succ, eq_self, if_true, ite_and, ite_or, ite_I, ite_bI, ite_bJ, bI_ne, bI_01, List.cons_append, List.nil_append, Bool.false_eq_true, if_false, gT26_15 h, jSub_n (show 1 ≤ 2 * s + x by omega), wT41 h (show 2 * s + x - 1 < 12 by omega)]; rfl) ?_)
      refine wSeq (wS_l (by simp only [e_fI, e_fLd, e_fLr, e_fB, e_fD, e_fC, e_fT, e_fAnd, e_fOr, e_fNot, e_fCC, e_fIf, e_gI, e_gR, e_aI, e_aR, e_aN, e_cV, e_cS, e_fNil, e_fAi, e_fAr, e_sSeq, e_sSkip, e_sSt, e_sSr, e_sInc, e_sRI, e_sRR, e_sRV, e_sIf, e_sCall, e_sPI, e_sPZ, e_sPR, e_sPO, e_sAI, e_sAZ, e_sAO, e_sAR, e_sPopI, e_sPopR, e_sCopy, e_mI, e_mZ, e_mR, e_mV, jAdd_n, jMul_n, z0, z1, Option.bind_some, List.getElem?_cons_zero, List.getElem?_cons_succ, List.set_cons_zero, List.set_cons_succ, eq_self, if_true, ite_and, ite_or, ite_I, ite_bI, ite_bJ, bI_ne, bI_01, List.cons_append, List.nil_append, Bool.false_eq_true, if_false]; rfl) ?_)
      refine wS_l (by simp only [e_fI, e_fLd, e_fLr, e_fB, e_fD, e_fC, e_fT, e_fAnd, e_fOr, e_fNot, e_fCC, e_fIf, e_gI, e_gR, e_aI, e_aR, e_aN, e_cV, e_cS, e_fNil, e_fAi, e_fAr, e_sSeq, e_sSkip, e_sSt, e_sSr, e_sInc, e_sRI, e_sRR, e_sRV, e_sIf, e_sCall, e_sPI, e_sPZ, e_sPR, e_sPO, e_sAI, e_sAZ, e_sAO, e_sAR, e_sPopI, e_sPopR, e_sCopy, e_mI, e_mZ, e_mR, e_mV, jAdd_n, jMul_n, z0, z1, Option.bind_some, List.getElem?_cons_zero, List.getElem?_cons_succ, List.set_cons_zero, List.set_cons_succ, eq_self, if_true, ite_and, ite_or, ite_I, ite_bI, ite_bJ, bI_ne, bI_01, List.cons_append, List.nil_append, Bool.false_eq_true, if_false]; rfl) ?_
      exact ⟨_, rfl, rfl, hB.u21 x12, (FX.r _ σ).u (SC.o x12)⟩
    rw [hb, if_neg Bool.false_ne_true, if_neg Bool.false_ne_true, if_neg Bool.false_ne_true]
    clear hb
    refine wIf (by simp only [e_fI, e_fLd, e_fLr, e_fB, e_fD, e_fC, e_fT, e_fAnd, e_fOr, e_fNot, e_fCC, e_fIf, e_gI, e_gR, e_aI, e_aR, e_aN, e_cV, e_cS, e_fNil, e_fAi, e_fAr, e_sSeq, e_sSkip, e_sSt, e_sSr, e_sInc, e_sRI, e_sRR, e_sRV, e_sIf, e_sCall, e_sPI, e_sPZ, e_sPR, e_sPO, e_sAI, e_sAZ, e_sAO, e_sAR, e_sPopI, e_sPopR, e_sCopy, e_mI, e_mZ, e_mR, e_mV, jAdd_n, jMul_n, z0, z1, Option.bind_some, List.getElem?_cons_zero, List.getElem?_cons_succ, List.set_cons_zero, List.set_cons_succ, eq_self, if_true, ite_and, ite_or, ite_I, ite_bI, ite_bJ, bI_ne, bI_01, List.cons_append, List.nil_append, Bool.false_eq_true, if_false, jLe, nI_leI (show x < 2 ^ 31 by omega) (show 3 < 2 ^ 31 by omega)]; rfl) (fun hb => ?_) (fun hb => ?_)
    · rw [hb, if_pos rfl, if_pos rfl]
      have x3 := of_decide_eq_true (Bool.and_eq_true_iff.mp hb).2
      refine wSeq (wS_l (by simp only [e_fI, e_fLd, e_fLr, e_fB, e_fD, e_fC, e_fT, e_fAnd, e_fOr, e_fNot, e_fCC, e_fIf, e_gI, e_gR, e_aI, e_aR, e_aN, e_cV, e_cS, e_fNil, e_fAi, e_fAr, e_sSeq, e_sSkip, e_sSt, e_sSr, e_sInc, e_sRI, e_sRR, e_sRV, e_sIf, e_sCall, e_sPI, e_sPZ, e_sPR, e_sPO, e_sAI, e_sAZ, e_sAO, e_sAR, e_sPopI, e_sPopR, e_sCopy, e_mI, e_mZ, e_mR, e_mV, jAdd_n, jMul_n, z0, z1, Option.bind_some, List.getElem?_cons_zero, List.getElem?_cons_succ, List.set_cons_zero, List.set_cons_succ, eq_self, if_true, ite_and, ite_or, ite_I, ite_bI, ite_bJ, bI_ne, bI_01, List.cons_append, List.nil_append, Bool.false_eq_true, if_false]; rfl) ?_)
      have i27 := iT27 (σ := σ) h hs6
      have i28 := iT28 (σ := σ) h hs6
      have i40 := iT40 (σ := σ) h hs6
      rw [hB.k0] at i27
      rw [hB.k1] at i28
      rw [hB.m21] at i40
      rcases (show x = 0 ∨ x = 3 ∨ (x = 1 ∨ x = 2) by omega) with rfl | rfl | x12
      · refine wS_l (by simp only [e_fI, e_fLd, e_fLr, e_fB, e_fD, e_fC, e_fT, e_fAnd, e_fOr, e_fNot, e_fCC, e_fIf, e_gI, e_gR, e_aI, e_aR, e_aN, e_cV, e_cS, e_fNil, e_fAi, e_fAr, e_sSeq, e_sSkip, e_sSt, e_sSr, e_sInc, e_sRI, e_sRR, e_sRV, e_sIf, e_sCall, e_sPI, e_sPZ, e_sPR, e_sPO, e_sAI, e_sAZ, e_sAO, e_sAR, e_sPopI, e_sPopR, e_sCopy, e_mI, e_mZ, e_mR, e_mV, jAdd_n, jMul_n, z0, z1, Option.bind_some, List.getElem?_cons_zero, List.getElem?_cons_succ, List.set_cons_zero, List.set_cons_succ, eq_self, if_true, ite_and, ite_or, ite_I, ite_bI, ite_bJ, bI_ne, bI_01, List.cons_append, List.nil_append, Bool.false_eq_true, if_false, (show jEq (nI 0) 0 = true by decide), gT26_1 h, gT26_2 h, i27, i28]; rfl) ?_
        exact ⟨σ, by rw [hO], rfl, hB, FX.r _ σ⟩
      · refine wS_l (by simp only [e_fI, e_fLd, e_fLr, e_fB, e_fD, e_fC, e_fT, e_fAnd, e_fOr, e_fNot, e_fCC, e_fIf, e_gI, e_gR, e_aI, e_aR, e_aN, e_cV, e_cS, e_fNil, e_fAi, e_fAr, e_sSeq, e_sSkip, e_sSt, e_sSr, e_sInc, e_sRI, e_sRR, e_sRV, e_sIf, e_sCall, e_sPI, e_sPZ, e_sPR, e_sPO, e_sAI, e_sAZ, e_sAO, e_sAR, e_sPopI, e_sPopR, e_sCopy, e_mI, e_mZ, e_mR, e_mV, jAdd_n, jMul_n, z0, z1, Option.bind_some, List.getElem?_cons_zero, List.getElem?_cons_succ, List.set_cons_zero, List.set_cons_succ, eq_self, if_true, ite_and, ite_or, ite_I, ite_bI, ite_bJ, bI_ne, bI_01, List.cons_append, List.nil_append, Bool.false_eq_true, if_false, (show jEq (nI 3) 0 = false by decide), (show jEq (nI 3) (nI 3) = true by decide), gT26_14 h, i40]; rfl) ?_
        exact ⟨σ, rfl, rfl, hB, FX.r _ σ⟩
      · have z0 : jEq (nI x) 0 = false := by rcases x12 with rfl | rfl <;> decide
        have z3 : jEq (nI x) (nI 3) = false := by rcases x12 with rfl | rfl <;> decide
        refine wS_l (by simp only [e_fI, e_fLd, e_fLr, e_fB, e_fD, e_fC, e_fT, e_fAnd, e_fOr, e_fNot, e_fCC, e_fIf, e_gI, e_gR, e_aI, e_aR, e_aN, e_cV, e_cS, e_fNil, e_fAi, e_fAr, e_sSeq, e_sSkip, e_sSt, e_sSr, e_sInc, e_sRI, e_sRR, e_sRV, e_sIf, e_sCall, e_sPI, e_sPZ, e_sPR, e_sPO, e_sAI, e_sAZ, e_sAO, e_sAR, e_sPopI, e_sPopR, e_sCopy, e_mI, e_mZ, e_mR, e_mV, jAdd_n, jMul_n, z0, z1, Option.bind_some, List.getElem?_cons_zero, List.getElem?_cons_succ, List.set_cons_zero, List.set_cons_succ, eq_self, if_true, ite_and, ite_or, ite_I, ite_bI, ite_bJ, bI_ne, bI_01, List.cons_append, List.nil_append, Bool.false_eq_true, if_false, z0, z3, gT26_15 h, jSub_n (show 1 ≤ 2 * s + x by omega), iT41 h (show 2 * s + x - 1 < 12 by omega), hB.b21 x12]; rfl) ?_
        exact ⟨σ, rfl, rfl, hB, FX.r _ σ⟩
    · rw [hb, if_neg Bool.false_ne_true, if_neg Bool.false_ne_true]
      refine wS_l rfl ⟨σ, ?_, rfl, hB, FX.r _ σ⟩
      simp only [decide_eq_true_eq]
  rintro _ _ ⟨τ, rfl, rfl, hR, hF⟩
  generalize moA A k x v = C at hR ⊢
  generalize mtA A k x = ty
  generalize mvV A k x = rv
  have e8 : 32 * s + 8 = 8 * (4 * s + 1) + 0 := by omega
  have e9 : 32 * s + 8 + 1 = 8 * (4 * s + 1) + 1 := by omega
  refine wSeq (wS_l (by simp only [e_fI, e_fLd, e_fLr, e_fB, e_fD, e_fC, e_fT, e_fAnd, e_fOr, e_fNot, e_fCC, e_fIf, e_gI, e_gR, e_aI, e_aR, e_aN, e_cV, e_cS, e_fNil, e_fAi, e_fAr, e_sSeq, e_sSkip, e_sSt, e_sSr, e_sInc, e_sRI, e_sRR, e_sRV, e_sIf, e_sCall, e_sPI, e_sPZ, e_sPR, e_sPO, e_sAI, e_sAZ, e_sAO, e_sAR, e_sPopI, e_sPopR, e_sCopy, e_mI, e_mZ, e_mR, e_mV, jAdd_n, jMul_n, z0, z1, Option.bind_some, List.getElem?_cons_zero, List.getElem?_cons_succ, List.set_cons_zero, List.set_cons_succ, eq_self, if_true, ite_and, ite_or, ite_I, ite_bI, ite_bJ, bI_ne, bI_01, List.cons_append, List.nil_append, Bool.false_eq_true, if_false, gT26_6 h, wT32 h (show 32 * s + 8 < 192 by omega)]; rfl) ?_)
  refine wSeq (wS_l (by simp only [e_fI, e_fLd, e_fLr, e_fB, e_fD, e_fC, e_fT, e_fAnd, e_fOr, e_fNot, e_fCC, e_fIf, e_gI, e_gR, e_aI, e_aR, e_aN, e_cV, e_cS, e_fNil, e_fAi, e_fAr, e_sSeq, e_sSkip, e_sSt, e_sSr, e_sInc, e_sRI, e_sRR, e_sRV, e_sIf, e_sCall, e_sPI, e_sPZ, e_sPR, e_sPO, e_sAI, e_sAZ, e_sAO, e_sAR, e_sPopI, e_sPopR, e_sCopy, e_mI, e_mZ, e_mR, e_mV, jAdd_n, jMul_n, z0, z1, Option.bind_some, List.getElem?_cons_zero, List.getElem?_cons_succ, List.set_cons_zero, List.set_cons_succ, eq_self, if_true, ite_and, ite_or, ite_I, ite_bI, ite_bJ, bI_ne, bI_01, List.cons_append, List.nil_append, Bool.false_eq_true, if_false, gT26_6 h, wT32 h (show 32 * s + 8 + 1 < 192 by omega)]; rfl) ?_)
  have hR1 : RR (up (up τ 32 (32 * s + 8) ty) 32 (32 * s + 8 + 1) (nI x)) s (up (up C 12 0 ty) 12 1 (nI x)) := by
    rw [e9, e8]
    exact (hR.u11 (c := 1) (i := 0) (by omega) (by omega)).u11 (c := 1) (i := 1) (by omega) (by omega)
  have hF1 : FX (SC s) σ (up (up τ 32 (32 * s + 8) ty) 32 (32 * s + 8 + 1) (nI x)) := by
    rw [e9, e8]
    exact (hF.u (SC.d (by omega) (by omega))).u (SC.d (by omega) (by omega))
  generalize up (up τ 32 (32 * s + 8) ty) 32 (32 * s + 8 + 1) (nI x) = τ1 at hR1 hF1 ⊢
  refine wSeq (wSeq (wS_l (by simp only [e_fI, e_fLd, e_fLr, e_fB, e_fD, e_fC, e_fT, e_fAnd, e_fOr, e_fNot, e_fCC, e_fIf, e_gI, e_gR, e_aI, e_aR, e_aN, e_cV, e_cS, e_fNil, e_fAi, e_fAr, e_sSeq, e_sSkip, e_sSt, e_sSr, e_sInc, e_sRI, e_sRR, e_sRV, e_sIf, e_sCall, e_sPI, e_sPZ, e_sPR, e_sPO, e_sAI, e_sAZ, e_sAO, e_sAR, e_sPopI, e_sPopR, e_sCopy, e_mI, e_mZ, e_mR, e_mV, jAdd_n, jMul_n, z0, z1, Option.bind_some, List.getElem?_cons_zero, List.getElem?_cons_succ, List.set_cons_zero, List.set_cons_succ, eq_self, if_true, ite_and, ite_or, ite_I, ite_bI, ite_bJ, bI_ne, bI_01, List.cons_append, List.nil_append, Bool.false_eq_true, if_false]; rfl) ?_))
  refine wWh (I := fun i L H => ∃ τ, L = [some (.ref 26), some (.int (nI s)), some (.int (nI (32 * s))), some (.int (nI (32 * s + 8))), some (.int k), some (.int (nI x)), some (.int v), some (.int ty), some (.int rv), some (.int (nI i))] ∧ H = hs n τ ∧ RR τ s (wmk (up (up C 12 0 ty) 12 1 (nI x)) 12 rv i) ∧ FX (SC s) σ τ) (e := 4) ?_ ?_ ?_ 600 0 _ _ (by omega) (by omega) ⟨τ1, rfl, rfl, hR1, hF1⟩
  · rintro i _ _ ⟨τ, rfl, rfl, -⟩ hi
    simp only [e_fI, e_fLd, e_fLr, e_fB, e_fD, e_fC, e_fT, e_fAnd, e_fOr, e_fNot, e_fCC, e_fIf, e_gI, e_gR, e_aI, e_aR, e_aN, e_cV, e_cS, e_fNil, e_fAi, e_fAr, e_sSeq, e_sSkip, e_sSt, e_sSr, e_sInc, e_sRI, e_sRR, e_sRV, e_sIf, e_sCall, e_sPI, e_sPZ, e_sPR, e_sPO, e_sAI, e_sAZ, e_sAO, e_sAR, e_sPopI, e_sPopR, e_sCopy, e_mI, e_mZ, e_mR, e_mV, jAdd_n, jMul_n, z0, z1, Option.bind_some, List.getElem?_cons_zero, List.getElem?_cons_succ, List.set_cons_zero, List.set_cons_succ, eq_self, if_true, ite_and, ite_or, ite_I, ite_bI, ite_bJ, bI_ne, bI_01, List.cons_append, List.nil_append, Bool.false_eq_true, if_false, jLt, nI_ltI (show i < 2 ^ 31 by omega) (show 4 < 2 ^ 31 by omega)]
  · rintro i _ _ ⟨τ, rfl, rfl, hR, hF⟩ hi
    have ei : 32 * s + 8 + 2 + i = 8 * (4 * s + 1) + (2 + i) := by omega
    refine wSeq (wS_l (by simp only [e_fI, e_fLd, e_fLr, e_fB, e_fD, e_fC, e_fT, e_fAnd, e_fOr, e_fNot, e_fCC, e_fIf, e_gI, e_gR, e_aI, e_aR, e_aN, e_cV, e_cS, e_fNil, e_fAi, e_fAr, e_sSeq, e_sSkip, e_sSt, e_sSr, e_sInc, e_sRI, e_sRR, e_sRV, e_sIf, e_sCall, e_sPI, e_sPZ, e_sPR, e_sPO, e_sAI, e_sAZ, e_sAO, e_sAR, e_sPopI, e_sPopR, e_sCopy, e_mI, e_mZ, e_mR, e_mV, jAdd_n, jMul_n, z0, z1, Option.bind_some, List.getElem?_cons_zero, List.getElem?_cons_succ, List.set_cons_zero, List.set_cons_succ, eq_self, if_true, ite_and, ite_or, ite_I, ite_bI, ite_bJ, bI_ne, bI_01, List.cons_append, List.nil_append, Bool.false_eq_true, if_false, gT26_6 h, ei, wT32 h (show 8 * (4 * s + 1) + (2 + i) < 192 by omega), sh_u hi]; rfl) ?_)
    refine wS_l (by simp only [e_fI, e_fLd, e_fLr, e_fB, e_fD, e_fC, e_fT, e_fAnd, e_fOr, e_fNot, e_fCC, e_fIf, e_gI, e_gR, e_aI, e_aR, e_aN, e_cV, e_cS, e_fNil, e_fAi, e_fAr, e_sSeq, e_sSkip, e_sSt, e_sSr, e_sInc, e_sRI, e_sRR, e_sRV, e_sIf, e_sCall, e_sPI, e_sPZ, e_sPR, e_sPO, e_sAI, e_sAZ, e_sAO, e_sAR, e_sPopI, e_sPopR, e_sCopy, e_mI, e_mZ, e_mR, e_mV, jAdd_n, jMul_n, z0, z1, Option.bind_some, List.getElem?_cons_zero, List.getElem?_cons_succ, List.set_cons_zero, List.set_cons_succ, eq_self, if_true, ite_and, ite_or, ite_I, ite_bI, ite_bJ, bI_ne, bI_01, List.cons_append, List.nil_append, Bool.false_eq_true, if_false, nI_add]; rfl) ?_
    exact ⟨_, rfl, rfl, hR.u11 (c := 1) (by omega) (by omega), hF.u (SC.d (by omega) (by omega))⟩
  rintro _ _ ⟨τ2, rfl, rfl, hR2, hF2⟩
  have hR2' : RR τ2 s (wm C 12 ty (nI x) rv) := hR2
  generalize wm C 12 ty (nI x) rv = D at hR2' ⊢
  unfold rpZ
  refine wSeq (wS_l (by simp only [e_fI, e_fLd, e_fLr, e_fB, e_fD, e_fC, e_fT, e_fAnd, e_fOr, e_fNot, e_fCC, e_fIf, e_gI, e_gR, e_aI, e_aR, e_aN, e_cV, e_cS, e_fNil, e_fAi, e_fAr, e_sSeq, e_sSkip, e_sSt, e_sSr, e_sInc, e_sRI, e_sRR, e_sRV, e_sIf, e_sCall, e_sPI, e_sPZ, e_sPR, e_sPO, e_sAI, e_sAZ, e_sAO, e_sAR, e_sPopI, e_sPopR, e_sCopy, e_mI, e_mZ, e_mR, e_mV, jAdd_n, jMul_n, z0, z1, Option.bind_some, List.getElem?_cons_zero, List.getElem?_cons_succ, List.set_cons_zero, List.set_cons_succ, eq_self, if_true, ite_and, ite_or, ite_I, ite_bI, ite_bJ, bI_ne, bI_01, List.cons_append, List.nil_append, Bool.false_eq_true, if_false, gT26_14 h, iT40 h hs6, hR2'.m21, wT40 h hs6]; rfl) ?_)
  obtain ⟨τ4, e4, hR4, hF4⟩ := q_R_fill (c := 0) (v := nI 0) h (hR2'.v21 (v := jAdd (D 21 3) (nI 1))) hs6 (by omega)
  refine wSeq (wS_l (by simp only [e_fI, e_fLd, e_fLr, e_fB, e_fD, e_fC, e_fT, e_fAnd, e_fOr, e_fNot, e_fCC, e_fIf, e_gI, e_gR, e_aI, e_aR, e_aN, e_cV, e_cS, e_fNil, e_fAi, e_fAr, e_sSeq, e_sSkip, e_sSt, e_sSr, e_sInc, e_sRI, e_sRR, e_sRV, e_sIf, e_sCall, e_sPI, e_sPZ, e_sPR, e_sPO, e_sAI, e_sAZ, e_sAO, e_sAR, e_sPopI, e_sPopR, e_sCopy, e_mI, e_mZ, e_mR, e_mV, jAdd_n, jMul_n, z0, z1, Option.bind_some, List.getElem?_cons_zero, List.getElem?_cons_succ, List.set_cons_zero, List.set_cons_succ, eq_self, if_true, ite_and, ite_or, ite_I, ite_bI, ite_bJ, bI_ne, bI_01, List.cons_append, List.nil_append, Bool.false_eq_true, if_false, kT26 h, e4]; rfl) ?_)
  obtain ⟨τ5, e5, hR5, hF5⟩ := q_R_fill (c := 1) (v := nI 1) h hR4 hs6 (by omega)
  refine wSeq (wS_l (by simp only [e_fI, e_fLd, e_fLr, e_fB, e_fD, e_fC, e_fT, e_fAnd, e_fOr, e_fNot, e_fCC, e_fIf, e_gI, e_gR, e_aI, e_aR, e_aN, e_cV, e_cS, e_fNil, e_fAi, e_fAr, e_sSeq, e_sSkip, e_sSt, e_sSr, e_sInc, e_sRI, e_sRR, e_sRV, e_sIf, e_sCall, e_sPI, e_sPZ, e_sPR, e_sPO, e_sAI, e_sAZ, e_sAO, e_sAR, e_sPopI, e_sPopR, e_sCopy, e_mI, e_mZ, e_mR, e_mV, jAdd_n, jMul_n, z0, z1, Option.bind_some, List.getElem?_cons_zero, List.getElem?_cons_succ, List.set_cons_zero, List.set_cons_succ, eq_self, if_true, ite_and, ite_or, ite_I, ite_bI, ite_bJ, bI_ne, bI_01, List.cons_append, List.nil_append, Bool.false_eq_true, if_false, kT26 h, e5]; rfl) ?_)
  exact wS_r rfl ⟨rfl, τ5, rfl, hR5, ((hF2.u SC.g).t hF4).t hF5⟩
end MSG
