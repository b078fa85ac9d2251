/-! the reference's calls: the frame that is made ready, what came back, ticks -/
section CBR
variable {n : Nat} {σ : sg} {w : wd}
theorem r_data {d i v : Int32} (h : okB n) (hR : CPr σ w) (hW : okW w) : ∃ τ, G_R_data [.ref 26, .int d, .int i, .int v] (hs n σ) = some (bI (inD w d i), hs n τ) ∧ CPr τ (if inD w d i = true then setG w d.toNatClampNeg (up (w.2.1 d.toNatClampNeg) 1 i.toNatClampNeg (jAnd v (nI 255))) else w) ∧ FL σ τ := by
  have hy := hW.y
  refine mZ_t (Nat.le_of_ble_eq_true rfl) ?_
  simp only [jx_L0, List.map_cons, List.map_nil, List.length_cons, List.length_nil, Nat.reduceAdd, Nat.reduceSub, List.replicate, List.cons_append, List.nil_append]
  unfold P_R_data
  have no : ∀ L, inD w d i = false → wS (sRI (fI (nI 0))) L (hs n σ) (fun L1 h1 => False) (fun v' h' => v' = some (.int (bI (inD w d i))) ∧ ∃ τ, h' = hs n τ ∧ CPr τ (if inD w d i = true then setG w d.toNatClampNeg (up (w.2.1 d.toNatClampNeg) 1 i.toNatClampNeg (jAnd v (nI 255))) else w) ∧ FL σ τ) := fun L q => by
    rw [q, if_neg Bool.false_ne_true]
    exact wS_r rfl ⟨rfl, σ, rfl, hR, FL.r σ⟩
  cases e : (jGe d 0 && jLt d (nI (yW w))) with
  | false =>
    have e1 : (jLt d 0 || jGe d (nI (yW w))) = true := by rw [nio_e, e]; rfl
    have e2 : inD w d i = false := by unfold inD; rw [hy.1, e]; rfl
    refine wSeq (wIf (by simp only [e_fI, e_fLd, e_fLr, e_fB, e_fD, e_fC, e_fT, e_fAnd, e_fOr, e_fNot, e_fCC, e_fIf, e_gI, e_gR, e_aI, e_aR, e_aN, e_cV, e_cS, e_fNil, e_fAi, e_fAr, e_sSeq, e_sSkip, e_sSt, e_sSr, e_sInc, e_sRI, e_sRR, e_sRV, e_sIf, e_sCall, e_sPI, e_sPZ, e_sPR, e_sPO, e_sAI, e_sAZ, e_sAO, e_sAR, e_sPopI, e_sPopR, e_sCopy, e_mI, e_mZ, e_mR, e_mV, jAdd_n, jMul_n, z0, z1, Option.bind_some, List.getElem?_cons_zero, List.getElem?_cons_succ, List.set_cons_zero, List.set_cons_succ, eq_self, if_true, ite_and, ite_or, ite_I, ite_bI, ite_bJ, bI_ne, bI_01, List.cons_append, List.nil_append, Bool.false_eq_true, if_false, gT26_18 h, hR.cy, hy.1, e1, Bool.true_or]; rfl) (fun hb => ?_) (fun hb => ?_))
    · exact wMono (no _ e2) (fun _ _ q => q.elim) (fun _ _ q => q)
    · cases hb
  | true =>
    have e1 : (jLt d 0 || jGe d (nI (yW w))) = false := by rw [nio_e, e]; rfl
    obtain ⟨x, hx, rfl⟩ := idx (by omega) e
    have hG := hR.2.2.2.2.1 x hx
    have c3 : σ 47 x = w.2.1 x 0 3 := hG.1 3 (by omega)
    have e3 : (false || jLt i 0 || jGe i (w.2.1 x 0 3)) = !inD w (nI x) i := by
      unfold inD
      rw [hy.1, e, nC_n (show x < 2 ^ 31 by omega), Bool.false_or, nio_e, Bool.true_and]
    refine wSeq (wIf (by simp only [e_fI, e_fLd, e_fLr, e_fB, e_fD, e_fC, e_fT, e_fAnd, e_fOr, e_fNot, e_fCC, e_fIf, e_gI, e_gR, e_aI, e_aR, e_aN, e_cV, e_cS, e_fNil, e_fAi, e_fAr, e_sSeq, e_sSkip, e_sSt, e_sSr, e_sInc, e_sRI, e_sRR, e_sRV, e_sIf, e_sCall, e_sPI, e_sPZ, e_sPR, e_sPO, e_sAI, e_sAZ, e_sAO, e_sAR, e_sPopI, e_sPopR, e_sCopy, e_mI, e_mZ, e_mR, e_mV, jAdd_n, jMul_n, z0, z1, Option.bind_some, List.getElem?_cons_zero, List.getElem?_cons_succ, List.set_cons_zero, List.set_cons_succ, eq_self, if_true, ite_and, ite_or, ite_I, ite_bI, ite_bJ, bI_ne, bI_01, List.cons_append, List.nil_append, Bool.false_eq_true, if_false, gT26_18 h, hR.cy, hy.1, e1, gT26_25 h, iT47 h (show x < 9 by omega), c3, e3]; rfl) (fun hb => ?_) (fun hb => ?_))
    · exact wMono (no _ (by cases q : inD w (nI x) i; rfl; rw [q] at hb; cases hb)) (fun _ _ q => q.elim) (fun _ _ q => q)
    · have e4 : inD w (nI x) i = true := by cases q : inD w (nI x) i; rw [q] at hb; cases hb; rfl
      obtain ⟨x', y, hx', ex, hy8, rfl, h8⟩ := inD_i hW e4
      have : x = x' := (nI_eq (by omega) (by omega)).mp ex
      subst this
      rw [e4, if_pos rfl, nC_n (show x < 2 ^ 31 by omega), nC_n (show y < 2 ^ 31 by omega)]
      refine wS_l rfl ?_
      refine wSeq (wS_l (by simp only [e_fI, e_fLd, e_fLr, e_fB, e_fD, e_fC, e_fT, e_fAnd, e_fOr, e_fNot, e_fCC, e_fIf, e_gI, e_gR, e_aI, e_aR, e_aN, e_cV, e_cS, e_fNil, e_fAi, e_fAr, e_sSeq, e_sSkip, e_sSt, e_sSr, e_sInc, e_sRI, e_sRR, e_sRV, e_sIf, e_sCall, e_sPI, e_sPZ, e_sPR, e_sPO, e_sAI, e_sAZ, e_sAO, e_sAR, e_sPopI, e_sPopR, e_sCopy, e_mI, e_mZ, e_mR, e_mV, jAdd_n, jMul_n, z0, z1, Option.bind_some, List.getElem?_cons_zero, List.getElem?_cons_succ, List.set_cons_zero, List.set_cons_succ, eq_self, if_true, ite_and, ite_or, ite_I, ite_bI, ite_bJ, bI_ne, bI_01, List.cons_append, List.nil_append, Bool.false_eq_true, if_false, gT26_27 h, wT49 h (show 8 * x + y < 72 by omega)]; rfl) ?_)
      have hF : FX (DC x) σ (up σ 49 (8 * x + y) (jAnd v (nI 255))) := (FX.r _ σ).u (Or.inr ⟨rfl, by omega⟩)
      obtain ⟨h1, h2, h3, h4, h5, h6⟩ := hR
      refine wS_r rfl ⟨rfl, _, rfl, ⟨fun j m hc => ?_, ?_, fun t ht => ?_, fun t g1 g2 => ?_, fun e' he => ?_, fun q e' he => (h6 q e' he).o hF (fun a m k1 k2 => by rcases k1 with k1 | k1 <;> rcases k2 with k2 | k2 <;> omega)⟩, (FL.r σ).u (by omega)⟩
      · have hc2 : celQ w j m := hc
        rw [hF _ _ (fun k => by have := rv_c hc2; rcases k with k | k <;> omega)]
        exact h1 j m hc2
      · rw [hF 26 20 (fun k => by rcases k with k | k <;> omega)]
        exact h2
      · obtain ⟨r, m, c, hm, ha⟩ := h3 t ht
        exact ⟨r.o hF (fun a i q k => by have := q.b; rcases k with k | k <;> omega), m, c, hm.o (s := 0) hF (fun a _ _ q => by rcases q with q | q <;> omega), ha⟩
      · obtain ⟨r, e5, e6⟩ := h4 t g1 g2
        rw [hF 35 t (fun k => by rcases k with k | k <;> omega), hF 36 t (fun k => by rcases k with k | k <;> omega)]
        exact ⟨r.o hF (fun a i q k => by have := q.b; rcases k with k | k <;> omega), e5, e6⟩
      · show RG _ e' (if e' = x then _ else _)
        have he2 : e' < yW w := he
        by_cases q : e' = x
        · rw [if_pos q, q]
          exact hG.u1
        · rw [if_neg q]
          exact (h5 e' he2).o hF (fun a m k1 k2 => by rcases k1 with k1 | k1 <;> rcases k2 with k2 | k2 <;> omega)
theorem r_tick (h : okB n) (hR : CPr σ w) (hW : okW w) : ∃ τ, G_R_tick [.ref 26] (hs n σ) = some (hs n τ) ∧ CPr τ (tickI w (kW w)) ∧ FL σ τ := by
  have hk := hW.2.1
  refine mV_s (Nat.le_of_ble_eq_true rfl) ?_
  simp only [jx_L0, List.map_cons, List.map_nil, List.length_cons, List.length_nil, Nat.reduceAdd, Nat.reduceSub, List.replicate, List.cons_append, List.nil_append]
  unfold P_R_tick
  refine wSeq (wSeq (wS_l (by simp only [e_fI, e_fLd, e_fLr, e_fB, e_fD, e_fC, e_fT, e_fAnd, e_fOr, e_fNot, e_fCC, e_fIf, e_gI, e_gR, e_aI, e_aR, e_aN, e_cV, e_cS, e_fNil, e_fAi, e_fAr, e_sSeq, e_sSkip, e_sSt, e_sSr, e_sInc, e_sRI, e_sRR, e_sRV, e_sIf, e_sCall, e_sPI, e_sPZ, e_sPR, e_sPO, e_sAI, e_sAZ, e_sAO, e_sAR, e_sPopI, e_sPopR, e_sCopy, e_mI, e_mZ, e_mR, e_mV, jAdd_n, jMul_n, z0, z1, Option.bind_some, List.getElem?_cons_zero, List.getElem?_cons_succ, List.set_cons_zero, List.set_cons_succ, eq_self, if_true, ite_and, ite_or, ite_I, ite_bI, ite_bJ, bI_ne, bI_01, List.cons_append, List.nil_append, Bool.false_eq_true, if_false]; rfl) ?_))
  refine wWh (I := fun i L H => ∃ τ, L = [some (.ref 26), some (.int (nI i))] ∧ H = hs n τ ∧ CPr τ (tickI w i) ∧ FL σ τ) (e := kW w) ?_ ?_ ?_ 600 0 _ _ (by omega) (by omega) ⟨σ, rfl, rfl, ?_, FL.r σ⟩
  · rintro i _ _ ⟨τ, rfl, rfl, hCi, -⟩ hi
    have ek : τ 26 0 = nI (kW w) := hCi.ck.trans hW.1
    simp only [e_fI, e_fLd, e_fLr, e_fB, e_fD, e_fC, e_fT, e_fAnd, e_fOr, e_fNot, e_fCC, e_fIf, e_gI, e_gR, e_aI, e_aR, e_aN, e_cV, e_cS, e_fNil, e_fAi, e_fAr, e_sSeq, e_sSkip, e_sSt, e_sSr, e_sInc, e_sRI, e_sRR, e_sRV, e_sIf, e_sCall, e_sPI, e_sPZ, e_sPR, e_sPO, e_sAI, e_sAZ, e_sAO, e_sAR, e_sPopI, e_sPopR, e_sCopy, e_mI, e_mZ, e_mR, e_mV, jAdd_n, jMul_n, z0, z1, Option.bind_some, List.getElem?_cons_zero, List.getElem?_cons_succ, List.set_cons_zero, List.set_cons_succ, eq_self, if_true, ite_and, ite_or, ite_I, ite_bI, ite_bJ, bI_ne, bI_01, List.cons_append, List.nil_append, Bool.false_eq_true, if_false, gT26_0 h, ek, jLt, nI_ltI (show i < 2 ^ 31 by omega) (show kW w < 2 ^ 31 by omega)]
  · rintro i _ _ ⟨τ, rfl, rfl, hCi, hF⟩ hi
    have hr : RR τ i (w.1 i) ∧ ∃ m k, MD τ i m k ∧ mdA (w.1 i) m k := by
      have := hCi.2.2.1 i hi
      unfold tickI at this
      dsimp only at this
      rw [if_neg (by omega)] at this
      exact this
    obtain ⟨hr1, m, k, hM, hmd⟩ := hr
    obtain ⟨u1, u2, u3, u4, u5, u6, -⟩ := hW.u hi
    obtain ⟨ρ, e, r1, r2, r3⟩ := q_R_turn h hr1 (by omega) u1 u2 u3 u4 u6 hM hmd
    refine wSeq (wS_l (by simp only [e_fI, e_fLd, e_fLr, e_fB, e_fD, e_fC, e_fT, e_fAnd, e_fOr, e_fNot, e_fCC, e_fIf, e_gI, e_gR, e_aI, e_aR, e_aN, e_cV, e_cS, e_fNil, e_fAi, e_fAr, e_sSeq, e_sSkip, e_sSt, e_sSr, e_sInc, e_sRI, e_sRR, e_sRV, e_sIf, e_sCall, e_sPI, e_sPZ, e_sPR, e_sPO, e_sAI, e_sAZ, e_sAO, e_sAR, e_sPopI, e_sPopR, e_sCopy, e_mI, e_mZ, e_mR, e_mV, jAdd_n, jMul_n, z0, z1, Option.bind_some, List.getElem?_cons_zero, List.getElem?_cons_succ, List.set_cons_zero, List.set_cons_succ, eq_self, if_true, ite_and, ite_or, ite_I, ite_bI, ite_bJ, bI_ne, bI_01, List.cons_append, List.nil_append, Bool.false_eq_true, if_false, kT26 h, e]; rfl) ?_)
    refine wS_l (by simp only [e_fI, e_fLd, e_fLr, e_fB, e_fD, e_fC, e_fT, e_fAnd, e_fOr, e_fNot, e_fCC, e_fIf, e_gI, e_gR, e_aI, e_aR, e_aN, e_cV, e_cS, e_fNil, e_fAi, e_fAr, e_sSeq, e_sSkip, e_sSt, e_sSr, e_sInc, e_sRI, e_sRR, e_sRV, e_sIf, e_sCall, e_sPI, e_sPZ, e_sPR, e_sPO, e_sAI, e_sAZ, e_sAO, e_sAR, e_sPopI, e_sPopR, e_sCopy, e_mI, e_mZ, e_mR, e_mV, jAdd_n, jMul_n, z0, z1, Option.bind_some, List.getElem?_cons_zero, List.getElem?_cons_succ, List.set_cons_zero, List.set_cons_succ, eq_self, if_true, ite_and, ite_or, ite_I, ite_bI, ite_bJ, bI_ne, bI_01, List.cons_append, List.nil_append, Bool.false_eq_true, if_false, nI_add]; rfl) ?_
    refine ⟨ρ, rfl, rfl, ?_, hF.t (NC.L r3)⟩
    rw [← tickI_s]
    exact hCi.sa r1 r2 r3 hi
  · rintro _ _ ⟨τ, rfl, rfl, hCi, hF⟩
    exact wS_r rfl ⟨rfl, τ, rfl, hCi, hF⟩
  · have : tickI w 0 = w := rfl
    rw [this]
    exact hR
theorem r_returned {d i : Int32} (h : okB n) (hR : CPr σ w) (hW : okW w) : G_R_returned [.ref 26, .int d, .int i] (hs n σ) = some (a_returned w d i, hs n σ) := by
  have hz := hW.z
  refine mI_q (Nat.le_of_ble_eq_true rfl) ?_
  simp only [jx_L0, List.map_cons, List.map_nil, List.length_cons, List.length_nil, Nat.reduceAdd, Nat.reduceSub, List.replicate, List.cons_append, List.nil_append]
  unfold P_R_returned a_returned
  generalize hzb : (if bW w = true then zW w else 0) = zb
  have ezb : σ 26 20 = nI zb := by rw [← hzb]; exact hR.2.1
  have hzb3 : zb ≤ 3 := by rw [← hzb]; split <;> omega
  have e0 : (bW w && (jGe d 0 && jLt d (nI (zW w)))) = (jGe d 0 && jLt d (nI zb)) := by
    cases q : bW w with
    | true => rw [q, if_pos rfl] at hzb; rw [hzb, Bool.true_and]
    | false =>
      rw [q, if_neg Bool.false_ne_true] at hzb
      rw [Bool.false_and, ← hzb]
      cases k : (jGe d 0 && jLt d (nI 0)) with
      | false => rfl
      | true =>
        obtain ⟨x, hx, -⟩ := idx (by omega) k
        omega
  rw [e0]
  cases e : (jGe d 0 && jLt d (nI zb)) with
  | false =>
    have e1 : (jLt d 0 || jGe d (nI zb)) = true := by rw [nio_e, e]; rfl
    rw [if_neg Bool.false_ne_true]
    refine wSeq (wIf (by simp only [e_fI, e_fLd, e_fLr, e_fB, e_fD, e_fC, e_fT, e_fAnd, e_fOr, e_fNot, e_fCC, e_fIf, e_gI, e_gR, e_aI, e_aR, e_aN, e_cV, e_cS, e_fNil, e_fAi, e_fAr, e_sSeq, e_sSkip, e_sSt, e_sSr, e_sInc, e_sRI, e_sRR, e_sRV, e_sIf, e_sCall, e_sPI, e_sPZ, e_sPR, e_sPO, e_sAI, e_sAZ, e_sAO, e_sAR, e_sPopI, e_sPopR, e_sCopy, e_mI, e_mZ, e_mR, e_mV, jAdd_n, jMul_n, z0, z1, Option.bind_some, List.getElem?_cons_zero, List.getElem?_cons_succ, List.set_cons_zero, List.set_cons_succ, eq_self, if_true, ite_and, ite_or, ite_I, ite_bI, ite_bJ, bI_ne, bI_01, List.cons_append, List.nil_append, Bool.false_eq_true, if_false, gT26_20 h, ezb, e1, Bool.true_or]; rfl) (fun hb => ?_) (fun hb => ?_))
    · exact wS_r rfl ⟨rfl, rfl⟩
    · cases hb
  | true =>
    have e1 : (jLt d 0 || jGe d (nI zb)) = false := by rw [nio_e, e]; rfl
    rw [if_pos rfl]
    have hbt : bW w = true := by
      cases q : bW w with
      | true => rfl
      | false =>
        rw [q, Bool.false_and, e] at e0
        cases e0
    rw [hbt, if_pos rfl] at hzb
    subst hzb
    obtain ⟨x, hx, rfl⟩ := idx (by omega) e
    rw [nC_n (show x < 2 ^ 31 by omega)]
    have hG := hR.2.2.2.2.2 hbt x hx
    have hl := (hW.pz hx).l
    have c3 : σ 47 (6 + x) = nI (kN (w.2.2.1 x)) := (hG.1 3 (by omega)).trans hl.1
    have c1 : σ 45 (6 + x) = w.2.2.1 x 0 1 := hG.1 1 (by omega)
    have c4 : σ 48 (6 + x) = w.2.2.1 x 0 4 := hG.1 4 (by omega)
    rw [hl.1]
    by_cases i1 : i = -1
    · subst i1
      have f1 : jLt (-1) (-2) = false := by decide
      have f2 : jGe (-1) (nI (kN (w.2.2.1 x))) = false := decide_eq_false (fun q => by
        rw [Int32.le_iff_toInt_le, nI_toInt (by omega)] at q
        have : (-1 : Int32).toInt = -1 := by decide
        omega)
      refine wSeq (wIf (by simp only [e_fI, e_fLd, e_fLr, e_fB, e_fD, e_fC, e_fT, e_fAnd, e_fOr, e_fNot, e_fCC, e_fIf, e_gI, e_gR, e_aI, e_aR, e_aN, e_cV, e_cS, e_fNil, e_fAi, e_fAr, e_sSeq, e_sSkip, e_sSt, e_sSr, e_sInc, e_sRI, e_sRR, e_sRV, e_sIf, e_sCall, e_sPI, e_sPZ, e_sPR, e_sPO, e_sAI, e_sAZ, e_sAO, e_sAR, e_sPopI, e_sPopR, e_sCopy, e_mI, e_mZ, e_mR, e_mV, jAdd_n, jMul_n, z0, z1, Option.bind_some, List.getElem?_cons_zero, List.getElem?_cons_succ, List.set_cons_zero, List.set_cons_succ, eq_self, if_true, ite_and, ite_or, ite_I, ite_bI, ite_bJ, bI_ne, bI_01, List.cons_append, List.nil_append, Bool.false_eq_true, if_false, gT26_20 h, ezb, e1, f1, gT26_25 h, iT47 h (show 6 + x < 9 by omega), c3, f2]; rfl) (fun hb => ?_) (fun hb => ?_))
      · cases hb
      refine wS_l rfl ?_
      refine wS_r (by simp only [e_fI, e_fLd, e_fLr, e_fB, e_fD, e_fC, e_fT, e_fAnd, e_fOr, e_fNot, e_fCC, e_fIf, e_gI, e_gR, e_aI, e_aR, e_aN, e_cV, e_cS, e_fNil, e_fAi, e_fAr, e_sSeq, e_sSkip, e_sSt, e_sSr, e_sInc, e_sRI, e_sRR, e_sRV, e_sIf, e_sCall, e_sPI, e_sPZ, e_sPR, e_sPO, e_sAI, e_sAZ, e_sAO, e_sAR, e_sPopI, e_sPopR, e_sCopy, e_mI, e_mZ, e_mR, e_mV, jAdd_n, jMul_n, z0, z1, Option.bind_some, List.getElem?_cons_zero, List.getElem?_cons_succ, List.set_cons_zero, List.set_cons_succ, eq_self, if_true, ite_and, ite_or, ite_I, ite_bI, ite_bJ, bI_ne, bI_01, List.cons_append, List.nil_append, Bool.false_eq_true, if_false, (show jEq (-1) (-1) = true by decide), gT26_26 h, iT48 h (show 6 + x < 9 by omega), c4]; rfl) ?_
      exact ⟨rfl, rfl⟩
    by_cases i2 : i = -2
    · subst i2
      have f1 : jLt (-2) (-2) = false := by decide
      have f2 : jGe (-2) (nI (kN (w.2.2.1 x))) = false := decide_eq_false (fun q => by
        rw [Int32.le_iff_toInt_le, nI_toInt (by omega)] at q
        have : (-2 : Int32).toInt = -2 := by decide
        omega)
      refine wSeq (wIf (by simp only [e_fI, e_fLd, e_fLr, e_fB, e_fD, e_fC, e_fT, e_fAnd, e_fOr, e_fNot, e_fCC, e_fIf, e_gI, e_gR, e_aI, e_aR, e_aN, e_cV, e_cS, e_fNil, e_fAi, e_fAr, e_sSeq, e_sSkip, e_sSt, e_sSr, e_sInc, e_sRI, e_sRR, e_sRV, e_sIf, e_sCall, e_sPI, e_sPZ, e_sPR, e_sPO, e_sAI, e_sAZ, e_sAO, e_sAR, e_sPopI, e_sPopR, e_sCopy, e_mI, e_mZ, e_mR, e_mV, jAdd_n, jMul_n, z0, z1, Option.bind_some, List.getElem?_cons_zero, List.getElem?_cons_succ, List.set_cons_zero, List.set_cons_succ, eq_self, if_true, ite_and, ite_or, ite_I, ite_bI, ite_bJ, bI_ne, bI_01, List.cons_append, List.nil_append, Bool.false_eq_true, if_false, gT26_20 h, ezb, e1, f1, gT26_25 h, iT47 h (show 6 + x < 9 by omega), c3, f2]; rfl) (fun hb => ?_) (fun hb => ?_))
      · cases hb
      refine wS_l rfl ?_
      refine wS_r (by simp only [e_fI, e_fLd, e_fLr, e_fB, e_fD, e_fC, e_fT, e_fAnd, e_fOr, e_fNot, e_fCC, e_fIf, e_gI, e_gR, e_aI, e_aR, e_aN, e_cV, e_cS, e_fNil, e_fAi, e_fAr, e_sSeq, e_sSkip, e_sSt, e_sSr, e_sInc, e_sRI, e_sRR, e_sRV, e_sIf, e_sCall, e_sPI, e_sPZ, e_sPR, e_sPO, e_sAI, e_sAZ, e_sAO, e_sAR, e_sPopI, e_sPopR, e_sCopy, e_mI, e_mZ, e_mR, e_mV, jAdd_n, jMul_n, z0, z1, Option.bind_some, List.getElem?_cons_zero, List.getElem?_cons_succ, List.set_cons_zero, List.set_cons_succ, eq_self, if_true, ite_and, ite_or, ite_I, ite_bI, ite_bJ, bI_ne, bI_01, List.cons_append, List.nil_append, Bool.false_eq_true, if_false, (show jEq (-2) (-1) = false by decide), (show jEq (-2) (-2) = true by decide), gT26_23 h, iT45 h (show 6 + x < 9 by omega), c1]; rfl) ?_
      exact ⟨rfl, rfl⟩
    have g1 : jEq i (-1) = false := decide_eq_false i1
    have g2 : jEq i (-2) = false := decide_eq_false i2
    rw [g1, g2, if_neg Bool.false_ne_true, if_neg Bool.false_ne_true]
    have f1 : jLt i (-2) = jLt i 0 := by
      unfold jLt
      rw [decide_eq_decide, Int32.lt_iff_toInt_lt, Int32.lt_iff_toInt_lt]
      have a1 : (-2 : Int32).toInt = -2 := by decide
      have a2 : (0 : Int32).toInt = 0 := by decide
      have n1 : i.toInt ≠ -1 := fun q => i1 (Int32.toInt_inj.mp (q.trans (by decide)))
      have n2 : i.toInt ≠ -2 := fun q => i2 (Int32.toInt_inj.mp (q.trans (by decide)))
      omega
    have f3 : (false || jLt i 0 || jGe i (nI (kN (w.2.2.1 x)))) = !(jGe i 0 && jLt i (nI (kN (w.2.2.1 x)))) := by rw [Bool.false_or, nio_e]
    cases e3 : (jGe i 0 && jLt i (nI (kN (w.2.2.1 x)))) with
    | false =>
      refine wSeq (wIf (by simp only [e_fI, e_fLd, e_fLr, e_fB, e_fD, e_fC, e_fT, e_fAnd, e_fOr, e_fNot, e_fCC, e_fIf, e_gI, e_gR, e_aI, e_aR, e_aN, e_cV, e_cS, e_fNil, e_fAi, e_fAr, e_sSeq, e_sSkip, e_sSt, e_sSr, e_sInc, e_sRI, e_sRR, e_sRV, e_sIf, e_sCall, e_sPI, e_sPZ, e_sPR, e_sPO, e_sAI, e_sAZ, e_sAO, e_sAR, e_sPopI, e_sPopR, e_sCopy, e_mI, e_mZ, e_mR, e_mV, jAdd_n, jMul_n, z0, z1, Option.bind_some, List.getElem?_cons_zero, List.getElem?_cons_succ, List.set_cons_zero, List.set_cons_succ, eq_self, if_true, ite_and, ite_or, ite_I, ite_bI, ite_bJ, bI_ne, bI_01, List.cons_append, List.nil_append, Bool.false_eq_true, if_false, gT26_20 h, ezb, e1, f1, gT26_25 h, iT47 h (show 6 + x < 9 by omega), c3, f3, e3, Bool.not_false]; rfl) (fun hb => ?_) (fun hb => ?_))
      · exact wS_r rfl ⟨rfl, rfl⟩
      · cases hb
    | true =>
      obtain ⟨y, hy, rfl⟩ := idx (by omega) e3
      refine wSeq (wIf (by simp only [e_fI, e_fLd, e_fLr, e_fB, e_fD, e_fC, e_fT, e_fAnd, e_fOr, e_fNot, e_fCC, e_fIf, e_gI, e_gR, e_aI, e_aR, e_aN, e_cV, e_cS, e_fNil, e_fAi, e_fAr, e_sSeq, e_sSkip, e_sSt, e_sSr, e_sInc, e_sRI, e_sRR, e_sRV, e_sIf, e_sCall, e_sPI, e_sPZ, e_sPR, e_sPO, e_sAI, e_sAZ, e_sAO, e_sAR, e_sPopI, e_sPopR, e_sCopy, e_mI, e_mZ, e_mR, e_mV, jAdd_n, jMul_n, z0, z1, Option.bind_some, List.getElem?_cons_zero, List.getElem?_cons_succ, List.set_cons_zero, List.set_cons_succ, eq_self, if_true, ite_and, ite_or, ite_I, ite_bI, ite_bJ, bI_ne, bI_01, List.cons_append, List.nil_append, Bool.false_eq_true, if_false, gT26_20 h, ezb, e1, f1, gT26_25 h, iT47 h (show 6 + x < 9 by omega), c3, f3, e3, Bool.not_true]; rfl) (fun hb => ?_) (fun hb => ?_))
      · cases hb
      refine wS_l rfl ?_
      refine wS_r (by simp only [e_fI, e_fLd, e_fLr, e_fB, e_fD, e_fC, e_fT, e_fAnd, e_fOr, e_fNot, e_fCC, e_fIf, e_gI, e_gR, e_aI, e_aR, e_aN, e_cV, e_cS, e_fNil, e_fAi, e_fAr, e_sSeq, e_sSkip, e_sSt, e_sSr, e_sInc, e_sRI, e_sRR, e_sRV, e_sIf, e_sCall, e_sPI, e_sPZ, e_sPR, e_sPO, e_sAI, e_sAZ, e_sAO, e_sAR, e_sPopI, e_sPopR, e_sCopy, e_mI, e_mZ, e_mR, e_mV, jAdd_n, jMul_n, z0, z1, Option.bind_some, List.getElem?_cons_zero, List.getElem?_cons_succ, List.set_cons_zero, List.set_cons_succ, eq_self, if_true, ite_and, ite_or, ite_I, ite_bI, ite_bJ, bI_ne, bI_01, List.cons_append, List.nil_append, Bool.false_eq_true, if_false, g1, g2, gT26_27 h, iT49 h (show 8 * (6 + x) + y < 72 by omega), hG.2 y (by omega)]; rfl) ?_
      rw [if_pos rfl, nC_n (show y < 2 ^ 31 by omega)]
      exact ⟨rfl, rfl⟩
theorem r_datagram {c a o l : Int32} (h : okB n) (hR : CPr σ w) (hW : okW w) : ∃ τ, G_R_datagram [.ref 26, .int c, .int a, .int o, .int l] (hs n σ) = some (if okDg w c a o l = true then vW w 0 4 else -1, hs n τ) ∧ CPr τ (if okDg w c a o l = true then addG w (nwG c a o l) else w) ∧ FL σ τ := by
  have hy := hW.y
  refine mI_t (Nat.le_of_ble_eq_true rfl) ?_
  simp only [jx_L0, List.map_cons, List.map_nil, List.length_cons, List.length_nil, Nat.reduceAdd, Nat.reduceSub, List.replicate, List.cons_append, List.nil_append]
  unfold P_R_datagram
  have ec : (jEq c (nI 1) || jEq c (nI 2) || jEq c (nI 4) || jEq c (nI 5) || jEq c (nI 7) || jEq c (nI 8) || (jGe c (nI 10) && jLe c (nI 12))) = isC c := rfl
  refine wSeq (wS_l (by simp only [e_fI, e_fLd, e_fLr, e_fB, e_fD, e_fC, e_fT, e_fAnd, e_fOr, e_fNot, e_fCC, e_fIf, e_gI, e_gR, e_aI, e_aR, e_aN, e_cV, e_cS, e_fNil, e_fAi, e_fAr, e_sSeq, e_sSkip, e_sSt, e_sSr, e_sInc, e_sRI, e_sRR, e_sRV, e_sIf, e_sCall, e_sPI, e_sPZ, e_sPR, e_sPO, e_sAI, e_sAZ, e_sAO, e_sAR, e_sPopI, e_sPopR, e_sCopy, e_mI, e_mZ, e_mR, e_mV, jAdd_n, jMul_n, z0, z1, Option.bind_some, List.getElem?_cons_zero, List.getElem?_cons_succ, List.set_cons_zero, List.set_cons_succ, eq_self, if_true, ite_and, ite_or, ite_I, ite_bI, ite_bJ, bI_ne, bI_01, List.cons_append, List.nil_append, Bool.false_eq_true, if_false, ec]; rfl) ?_)
  have e3 : jEq (nI (yW w)) (nI 3) = jGe (nI (yW w)) (nI 3) := by
    rw [jEq_n (by omega) (by omega)]
    unfold jGe
    rw [decide_eq_decide, nI_leI (by omega) (by omega)]
    omega
  have e127 : jGt o (nI 127) = jGe o (nI 128) := by
    unfold jGt jGe
    rw [decide_eq_decide, Int32.lt_iff_toInt_lt, Int32.le_iff_toInt_le, nI_toInt (by omega), nI_toInt (by omega)]
    omega
  have eo : (jGe (nI (yW w)) (nI 3) || !isC c || jLt a 0 || jGt a (nI 65535) || (jLt c (nI 10) && (jLt o 0 || jGe o (nI 128))) || jLt l (nI 1) || jGt l (nI 8)) = !okDg w c a o l := by
    unfold okDg
    rw [hy.1]
    cases jGe (nI (yW w)) (nI 3) <;> cases isC c <;> cases jLt a 0 <;> cases jGt a (nI 65535) <;> cases (jLt c (nI 10) && (jLt o 0 || jGe o (nI 128))) <;> cases jLt l (nI 1) <;> cases jGt l (nI 8) <;> rfl
  refine wSeq (wIf (by simp only [e_fI, e_fLd, e_fLr, e_fB, e_fD, e_fC, e_fT, e_fAnd, e_fOr, e_fNot, e_fCC, e_fIf, e_gI, e_gR, e_aI, e_aR, e_aN, e_cV, e_cS, e_fNil, e_fAi, e_fAr, e_sSeq, e_sSkip, e_sSt, e_sSr, e_sInc, e_sRI, e_sRR, e_sRV, e_sIf, e_sCall, e_sPI, e_sPZ, e_sPR, e_sPO, e_sAI, e_sAZ, e_sAO, e_sAR, e_sPopI, e_sPopR, e_sCopy, e_mI, e_mZ, e_mR, e_mV, jAdd_n, jMul_n, z0, z1, Option.bind_some, List.getElem?_cons_zero, List.getElem?_cons_succ, List.set_cons_zero, List.set_cons_succ, eq_self, if_true, ite_and, ite_or, ite_I, ite_bI, ite_bJ, bI_ne, bI_01, List.cons_append, List.nil_append, Bool.false_eq_true, if_false, gT26_18 h, hR.cy, hy.1, e3, e127, eo]; rfl) (fun hb => ?_) (fun hb => ?_))
  · have e : okDg w c a o l = false := by cases q : okDg w c a o l; rfl; rw [q] at hb; cases hb
    rw [e, if_neg Bool.false_ne_true, if_neg Bool.false_ne_true]
    exact wS_r rfl ⟨rfl, σ, rfl, hR, FL.r σ⟩
  have e : okDg w c a o l = true := by cases q : okDg w c a o l; rw [q] at hb; cases hb; rfl
  clear hb
  rw [e, if_pos rfl, if_pos rfl]
  have hlt : yW w < 3 := by
    unfold okDg at e
    rw [hy.1] at e
    cases q : jGe (nI (yW w)) (nI 3) with
    | true => rw [q] at e; cases e
    | false =>
      have := of_decide_eq_false q
      rw [nI_leI (by omega) (by omega)] at this
      omega
  refine wS_l rfl ?_
  obtain ⟨τ, eg, r1, r2⟩ := q_R_gram (σ := σ) (d := yW w) (c := c) (a := a) (o := o) (l := l) h (by omega)
  refine wSeq (wS_l (by simp only [e_fI, e_fLd, e_fLr, e_fB, e_fD, e_fC, e_fT, e_fAnd, e_fOr, e_fNot, e_fCC, e_fIf, e_gI, e_gR, e_aI, e_aR, e_aN, e_cV, e_cS, e_fNil, e_fAi, e_fAr, e_sSeq, e_sSkip, e_sSt, e_sSr, e_sInc, e_sRI, e_sRR, e_sRV, e_sIf, e_sCall, e_sPI, e_sPZ, e_sPR, e_sPO, e_sAI, e_sAZ, e_sAO, e_sAR, e_sPopI, e_sPopR, e_sCopy, e_mI, e_mZ, e_mR, e_mV, jAdd_n, jMul_n, z0, z1, Option.bind_some, List.getElem?_cons_zero, List.getElem?_cons_succ, List.set_cons_zero, List.set_cons_succ, eq_self, if_true, ite_and, ite_or, ite_I, ite_bI, ite_bJ, bI_ne, bI_01, List.cons_append, List.nil_append, Bool.false_eq_true, if_false, kT26 h, gT26_18 h, hR.cy, hy.1, eg]; rfl) ?_)
  have k18 : τ 26 18 = nI (yW w) := by rw [r2 26 18 (fun k => by rcases k with k | k <;> omega)]; exact hR.cy.trans hy.1
  refine wSeq (wS_l (by simp only [e_fI, e_fLd, e_fLr, e_fB, e_fD, e_fC, e_fT, e_fAnd, e_fOr, e_fNot, e_fCC, e_fIf, e_gI, e_gR, e_aI, e_aR, e_aN, e_cV, e_cS, e_fNil, e_fAi, e_fAr, e_sSeq, e_sSkip, e_sSt, e_sSr, e_sInc, e_sRI, e_sRR, e_sRV, e_sIf, e_sCall, e_sPI, e_sPZ, e_sPR, e_sPO, e_sAI, e_sAZ, e_sAO, e_sAR, e_sPopI, e_sPopR, e_sCopy, e_mI, e_mZ, e_mR, e_mV, jAdd_n, jMul_n, z0, z1, Option.bind_some, List.getElem?_cons_zero, List.getElem?_cons_succ, List.set_cons_zero, List.set_cons_succ, eq_self, if_true, ite_and, ite_or, ite_I, ite_bI, ite_bJ, bI_ne, bI_01, List.cons_append, List.nil_append, Bool.false_eq_true, if_false, gT26_18 h, k18, pT26_18 h]; rfl) ?_)
  have k18' : up τ 26 18 (nI (yW w + 1)) 26 18 = nI (yW w + 1) := rfl
  refine wS_r (by simp only [e_fI, e_fLd, e_fLr, e_fB, e_fD, e_fC, e_fT, e_fAnd, e_fOr, e_fNot, e_fCC, e_fIf, e_gI, e_gR, e_aI, e_aR, e_aN, e_cV, e_cS, e_fNil, e_fAi, e_fAr, e_sSeq, e_sSkip, e_sSt, e_sSr, e_sInc, e_sRI, e_sRR, e_sRV, e_sIf, e_sCall, e_sPI, e_sPZ, e_sPR, e_sPO, e_sAI, e_sAZ, e_sAO, e_sAR, e_sPopI, e_sPopR, e_sCopy, e_mI, e_mZ, e_mR, e_mV, jAdd_n, jMul_n, z0, z1, Option.bind_some, List.getElem?_cons_zero, List.getElem?_cons_succ, List.set_cons_zero, List.set_cons_succ, eq_self, if_true, ite_and, ite_or, ite_I, ite_bI, ite_bJ, bI_ne, bI_01, List.cons_append, List.nil_append, Bool.false_eq_true, if_false, gT26_18 h, k18', jSub_n (show 1 ≤ yW w + 1 by omega), Nat.add_sub_cancel]; rfl) ?_
  have hF : FX (fun a i => DC (yW w) a i ∨ a = 26 ∧ i = 18) σ (up τ 26 18 (nI (yW w + 1))) := FX.u (r2.m (fun _ _ => Or.inl)) (Or.inr ⟨rfl, rfl⟩)
  have hG : RG (up τ 26 18 (nI (yW w + 1))) (yW w) (nwG c a o l) := r1.o ((FX.r (fun a _ => a = 26) τ).u rfl) (fun a i q k => by rcases q with q | q <;> omega)
  rw [hy.1]
  refine ⟨rfl, _, rfl, ?_, hF.L (fun a i q => by rcases q with (q | q) | q <;> omega)⟩
  obtain ⟨h1, h2, h3, h4, h5, h6⟩ := hR
  generalize up τ 26 18 (nI (yW w + 1)) = υ at hF hG k18' ⊢
  have ey : yW (addG w (nwG c a o l)) = yW w + 1 := by
    unfold yW addG vW
    show (nI (yW w + 1)).toNatClampNeg = _
    exact nC_n (by omega)
  have ek : kW (addG w (nwG c a o l)) = kW w := rfl
  have ez : zW (addG w (nwG c a o l)) = zW w := rfl
  have eb : bW (addG w (nwG c a o l)) = bW w := rfl
  unfold CPr
  rw [ey, ek, ez, eb]
  refine ⟨fun j m hc => ?_, ?_, fun t ht => ?_, fun t g1 g2 => ?_, fun e' he => ?_, fun q e' he => (h6 q e' he).o hF (fun a m k1 k2 => by rcases k1 with k1 | k1 <;> rcases k2 with (k2 | k2) | k2 <;> omega)⟩
  · have hc2 : celQ w j m := hc
    show _ = up (vW w) 0 4 (nI (yW w + 1)) j m
    by_cases q : j = 0 ∧ m = 4
    · obtain ⟨rfl, rfl⟩ := q
      exact k18'
    · unfold up
      rw [if_neg q, hF _ _ (fun k => by have := rv_c hc2; rcases k with (k | k) | k <;> omega)]
      exact h1 j m hc2
  · rw [hF 26 20 (fun k => by rcases k with (k | k) | k <;> omega)]
    exact h2
  · obtain ⟨r, m, c, hm, ha⟩ := h3 t ht
    exact ⟨r.o hF (fun a i q k => by have := q.b; rcases k with (k | k) | k <;> omega), m, c, hm.o (s := 0) hF (fun a _ _ q => by rcases q with (q | q) | q <;> omega), ha⟩
  · obtain ⟨r, e5, e6⟩ := h4 t g1 g2
    rw [hF 35 t (fun k => by rcases k with (k | k) | k <;> omega), hF 36 t (fun k => by rcases k with (k | k) | k <;> omega)]
    exact ⟨r.o hF (fun a i q k => by have := q.b; rcases k with (k | k) | k <;> omega), e5, e6⟩
  · show RG υ e' (if e' = yW w then _ else _)
    by_cases q : e' = yW w
    · rw [if_pos q, q]
      exact hG
    · rw [if_neg q]
      exact (h5 e' (by omega)).o hF (fun a m k1 k2 => by rcases k1 with k1 | k1 <;> rcases k2 with (k2 | k2) | k2 <;> omega)
end CBR
