/-! station: a new one -/
def nwA (o i : Int32) : sg := fun j m => if j = 0 ∧ m = 0 then o else if j = 0 ∧ m = 1 then i else if j = 4 ∧ m = 2 then nI 1 else if j = 21 ∧ m = 0 then jAdd (jAdd (nI 1000) (jMul (nI 16) o)) i else nI 0
def inN (w : wd) (o i : Int32) : Bool := !(jLt o 0 || jGt o (nI 2) || jLt i 0 || jGt i (nI 2)) && !jGe (vW w 0 0) (nI 6)
def newW (w : wd) (o i : Int32) : wd := (fun t => if t = kW w then nwA o i else w.1 t, w.2.1, w.2.2.1, up (vW w) 0 0 (nI (kW w + 1)))
theorem in2 {o : Int32} (h : (jLt o 0 || jGt o (nI 2)) = false) : ∃ x, x ≤ 2 ∧ o = nI x := by
  have h1 := of_decide_eq_false (Bool.or_eq_false_iff.mp h).1
  have h2 := of_decide_eq_false (Bool.or_eq_false_iff.mp h).2
  obtain ⟨x, hx, rfl⟩ := nI_of h1
  rw [nI_ltI (by omega) hx] at h2
  exact ⟨x, by omega, rfl⟩
theorem inN_i {w : wd} {o i : Int32} (hW : okW w) (h : inN w o i = true) : ∃ x y, x ≤ 2 ∧ y ≤ 2 ∧ o = nI x ∧ i = nI y ∧ kW w < 6 := by
  unfold inN at h
  rw [Bool.and_eq_true_iff, Bool.not_eq_true', Bool.not_eq_true'] at h
  obtain ⟨h1, h2⟩ := h
  rw [Bool.or_assoc, Bool.or_assoc, ← Bool.or_assoc] at h1
  obtain ⟨h3, h4⟩ := Bool.or_eq_false_iff.mp h1
  obtain ⟨x, hx, rfl⟩ := in2 h3
  obtain ⟨y, hy, rfl⟩ := in2 h4
  have hk := hW.2.1
  have := of_decide_eq_false h2
  rw [hW.1, nI_leI (by omega) (by omega)] at this
  exact ⟨x, y, hx, hy, rfl, rfl, by omega⟩
theorem kW_n {w : wd} {o i : Int32} (h : kW w < 6) : kW (newW w o i) = kW w + 1 := nC_n (show kW w + 1 < 2 ^ 31 by omega)
theorem nwA_ok {x y : Nat} (hx : x ≤ 2) (hy : y ≤ 2) : okU (nwA (nI x) (nI y)) := by
  have z : ∀ j m, ¬ (j = 0 ∨ j = 21) → ¬ (j = 4 ∧ m = 2) → nwA (nI x) (nI y) j m = nI 0 := fun j m h1 h2 => by
    unfold nwA
    rw [if_neg (by omega), if_neg (by omega), if_neg h2, if_neg (by omega)]
  have b : ∀ j m, ¬ (j = 0 ∨ j = 21) → byt (nwA (nI x) (nI y) j m) := fun j m h1 => by
    by_cases q : j = 4 ∧ m = 2
    · obtain ⟨rfl, rfl⟩ := q
      exact byt_n (m := 1) (by omega)
    · rw [z j m h1 q]
      exact byt_n (by omega)
  have eo : oN (nwA (nI x) (nI y)) = x := nC_n (by omega)
  have ei : iN (nwA (nI x) (nI y)) = y := nC_n (by omega)
  refine ⟨⟨fun j _ => b 4 j (by omega), fun c hc i _ => ⟨b _ _ (by omega), b _ _ (by omega)⟩⟩, fun c hc => Or.inl (z _ _ (by omega) (by omega)), ⟨by rw [eo]; rfl, by rw [eo]; exact hx, by rw [ei]; rfl, by rw [ei]; exact hy⟩, rfl, fun i _ => b 1 i (by omega), Or.inl rfl, 1, 0, Or.inl rfl, by omega, rfl, rfl⟩
theorem newW_ok {w : wd} {x y : Nat} (hW : okW w) (hx : x ≤ 2) (hy : y ≤ 2) (hk : kW w < 6) : okW (newW w (nI x) (nI y)) := by
  obtain ⟨h1, h2, h3, h4, h5, h6, h7, h8, h9, h10, h11, h12, h13, h14, h15, h16, h17, h18, h19, h20⟩ := hW
  have ek : kW (newW w (nI x) (nI y)) = kW w + 1 := kW_n hk
  have ef : fW (newW w (nI x) (nI y)) = fW w := rfl
  refine ⟨by rw [ek]; rfl, by rw [ek]; omega, h3, h4, h5, by rw [ek, ef]; omega, h7, h8, h9, h10, h11, h12, h13, h14, h15, fun t ht => ?_, h17, h18, h19, h20⟩
  rw [ek] at ht
  show okU (if t = kW w then nwA (nI x) (nI y) else w.1 t)
  by_cases q : t = kW w
  · rw [if_pos q]
    exact nwA_ok hx hy
  · rw [if_neg q]
    exact h16 t (by omega)
section SLC
variable {n : Nat} {σ : sg} {w : wd}
theorem r_station {o i : Int32} (h : okB n) (hR : CPr σ w) (hW : okW w) : ∃ τ, G_R_station [.ref 26, .int o, .int i] (hs n σ) = some (if inN w o i = true then vW w 0 0 else -1, hs n τ) ∧ CPr τ (if inN w o i = true then newW w o i else w) ∧ FL σ τ := by
  have hk := hW.2.1
  have ek := hR.ck.trans hW.1
  refine mI_t (Nat.le_of_ble_eq_true rfl) ?_
  simp only [jx_L0, List.map_cons, List.map_nil, List.length_cons, List.length_nil, Nat.reduceAdd, Nat.reduceSub, List.replicate, List.cons_append, List.nil_append]
  unfold P_R_station
  have e6 : jEq (nI (kW w)) (nI 6) = jGe (nI (kW w)) (nI 6) := by
    rw [jEq_n (by omega) (by omega)]
    unfold jGe
    rw [decide_eq_decide, nI_leI (by omega) (by omega)]
    omega
  have e0 : (jGe (nI (kW w)) (nI 6) || jLt o 0 || jGt o (nI 2) || jLt i 0 || jGt i (nI 2)) = !inN w o i := by
    unfold inN
    rw [hW.1]
    cases jGe (nI (kW w)) (nI 6) <;> cases jLt o 0 <;> cases jGt o (nI 2) <;> cases jLt i 0 <;> cases jGt i (nI 2) <;> rfl
  refine wSeq (wIf (by simp only [e_fI, e_fLd, e_fLr, e_fB, e_fD, e_fC, e_fT, e_fAnd, e_fOr, e_fNot, e_fCC, e_fIf, e_gI, e_gR, e_aI, e_aR, e_aN, e_cV, e_cS, e_fNil, e_fAi, e_fAr, e_sSeq, e_sSkip, e_sSt, e_sSr, e_sInc, e_sRI, e_sRR, e_sRV, e_sIf, e_sCall, e_sPI, e_sPZ, e_sPR, e_sPO, e_sAI, e_sAZ, e_sAO, e_sAR, e_sPopI, e_sPopR, e_sCopy, e_mI, e_mZ, e_mR, e_mV, jAdd_n, jMul_n, z0, z1, Option.bind_some, List.getElem?_cons_zero, List.getElem?_cons_succ, List.set_cons_zero, List.set_cons_succ, eq_self, if_true, ite_and, ite_or, ite_I, ite_bI, ite_bJ, bI_ne, bI_01, List.cons_append, List.nil_append, Bool.false_eq_true, if_false, gT26_0 h, ek, e6, e0]; rfl) (fun hb => ?_) (fun hb => ?_))
  · have e : inN w o i = false := by cases q : inN w o i; rfl; rw [q] at hb; cases hb
    rw [e, if_neg Bool.false_ne_true, if_neg Bool.false_ne_true]
    exact wS_r rfl ⟨rfl, σ, rfl, hR, FL.r σ⟩
  have e : inN w o i = true := by cases q : inN w o i; rw [q] at hb; cases hb; rfl
  clear hb
  obtain ⟨x, y, hx, hy, rfl, rfl, hk6⟩ := inN_i hW e
  rw [e, if_pos rfl, if_pos rfl]
  refine wS_l rfl ?_
  generalize hke : kW w = k at *
  refine wSeq (wS_l (by simp only [e_fI, e_fLd, e_fLr, e_fB, e_fD, e_fC, e_fT, e_fAnd, e_fOr, e_fNot, e_fCC, e_fIf, e_gI, e_gR, e_aI, e_aR, e_aN, e_cV, e_cS, e_fNil, e_fAi, e_fAr, e_sSeq, e_sSkip, e_sSt, e_sSr, e_sInc, e_sRI, e_sRR, e_sRV, e_sIf, e_sCall, e_sPI, e_sPZ, e_sPR, e_sPO, e_sAI, e_sAZ, e_sAO, e_sAR, e_sPopI, e_sPopR, e_sCopy, e_mI, e_mZ, e_mR, e_mV, jAdd_n, jMul_n, z0, z1, Option.bind_some, List.getElem?_cons_zero, List.getElem?_cons_succ, List.set_cons_zero, List.set_cons_succ, eq_self, if_true, ite_and, ite_or, ite_I, ite_bI, ite_bJ, bI_ne, bI_01, List.cons_append, List.nil_append, Bool.false_eq_true, if_false, gT26_1 h, gT26_0 h, ek, wT27 h hk6]; rfl) ?_)
  have ek1 : up σ 27 k (nI x) 26 0 = nI k := ek
  refine wSeq (wS_l (by simp only [e_fI, e_fLd, e_fLr, e_fB, e_fD, e_fC, e_fT, e_fAnd, e_fOr, e_fNot, e_fCC, e_fIf, e_gI, e_gR, e_aI, e_aR, e_aN, e_cV, e_cS, e_fNil, e_fAi, e_fAr, e_sSeq, e_sSkip, e_sSt, e_sSr, e_sInc, e_sRI, e_sRR, e_sRV, e_sIf, e_sCall, e_sPI, e_sPZ, e_sPR, e_sPO, e_sAI, e_sAZ, e_sAO, e_sAR, e_sPopI, e_sPopR, e_sCopy, e_mI, e_mZ, e_mR, e_mV, jAdd_n, jMul_n, z0, z1, Option.bind_some, List.getElem?_cons_zero, List.getElem?_cons_succ, List.set_cons_zero, List.set_cons_succ, eq_self, if_true, ite_and, ite_or, ite_I, ite_bI, ite_bJ, bI_ne, bI_01, List.cons_append, List.nil_append, Bool.false_eq_true, if_false, gT26_2 h, gT26_0 h, ek1, wT28 h hk6]; rfl) ?_)
  have ek2 : up (up σ 27 k (nI x)) 28 k (nI y) 26 0 = nI k := ek
  refine wSeq (wS_l (by simp only [e_fI, e_fLd, e_fLr, e_fB, e_fD, e_fC, e_fT, e_fAnd, e_fOr, e_fNot, e_fCC, e_fIf, e_gI, e_gR, e_aI, e_aR, e_aN, e_cV, e_cS, e_fNil, e_fAi, e_fAr, e_sSeq, e_sSkip, e_sSt, e_sSr, e_sInc, e_sRI, e_sRR, e_sRV, e_sIf, e_sCall, e_sPI, e_sPZ, e_sPR, e_sPO, e_sAI, e_sAZ, e_sAO, e_sAR, e_sPopI, e_sPopR, e_sCopy, e_mI, e_mZ, e_mR, e_mV, jAdd_n, jMul_n, z0, z1, Option.bind_some, List.getElem?_cons_zero, List.getElem?_cons_succ, List.set_cons_zero, List.set_cons_succ, eq_self, if_true, ite_and, ite_or, ite_I, ite_bI, ite_bJ, bI_ne, bI_01, List.cons_append, List.nil_append, Bool.false_eq_true, if_false, gT26_8 h, gT26_0 h, ek2, wT34 h hk6]; rfl) ?_)
  have ek3 : up (up (up σ 27 k (nI x)) 28 k (nI y)) 34 k (nI 1) 26 0 = nI k := ek
  refine wSeq (wS_l (by simp only [e_fI, e_fLd, e_fLr, e_fB, e_fD, e_fC, e_fT, e_fAnd, e_fOr, e_fNot, e_fCC, e_fIf, e_gI, e_gR, e_aI, e_aR, e_aN, e_cV, e_cS, e_fNil, e_fAi, e_fAr, e_sSeq, e_sSkip, e_sSt, e_sSr, e_sInc, e_sRI, e_sRR, e_sRV, e_sIf, e_sCall, e_sPI, e_sPZ, e_sPR, e_sPO, e_sAI, e_sAZ, e_sAO, e_sAR, e_sPopI, e_sPopR, e_sCopy, e_mI, e_mZ, e_mR, e_mV, jAdd_n, jMul_n, z0, z1, Option.bind_some, List.getElem?_cons_zero, List.getElem?_cons_succ, List.set_cons_zero, List.set_cons_succ, eq_self, if_true, ite_and, ite_or, ite_I, ite_bI, ite_bJ, bI_ne, bI_01, List.cons_append, List.nil_append, Bool.false_eq_true, if_false, gT26_4 h, gT26_0 h, ek3, wT30 h (show 128 * k + 2 < 768 by omega)]; rfl) ?_)
  have ek4 : up (up (up (up σ 27 k (nI x)) 28 k (nI y)) 34 k (nI 1)) 30 (128 * k + 2) (nI 1) 26 0 = nI k := ek
  refine wSeq (wS_l (by simp only [e_fI, e_fLd, e_fLr, e_fB, e_fD, e_fC, e_fT, e_fAnd, e_fOr, e_fNot, e_fCC, e_fIf, e_gI, e_gR, e_aI, e_aR, e_aN, e_cV, e_cS, e_fNil, e_fAi, e_fAr, e_sSeq, e_sSkip, e_sSt, e_sSr, e_sInc, e_sRI, e_sRR, e_sRV, e_sIf, e_sCall, e_sPI, e_sPZ, e_sPR, e_sPO, e_sAI, e_sAZ, e_sAO, e_sAR, e_sPopI, e_sPopR, e_sCopy, e_mI, e_mZ, e_mR, e_mV, jAdd_n, jMul_n, z0, z1, Option.bind_some, List.getElem?_cons_zero, List.getElem?_cons_succ, List.set_cons_zero, List.set_cons_succ, eq_self, if_true, ite_and, ite_or, ite_I, ite_bI, ite_bJ, bI_ne, bI_01, List.cons_append, List.nil_append, Bool.false_eq_true, if_false, gT26_0 h, ek4, pT26_0 h]; rfl) ?_)
  have ek5 : up (up (up (up (up σ 27 k (nI x)) 28 k (nI y)) 34 k (nI 1)) 30 (128 * k + 2) (nI 1)) 26 0 (nI (k + 1)) 26 0 = nI (k + 1) := rfl
  refine wS_r (by simp only [e_fI, e_fLd, e_fLr, e_fB, e_fD, e_fC, e_fT, e_fAnd, e_fOr, e_fNot, e_fCC, e_fIf, e_gI, e_gR, e_aI, e_aR, e_aN, e_cV, e_cS, e_fNil, e_fAi, e_fAr, e_sSeq, e_sSkip, e_sSt, e_sSr, e_sInc, e_sRI, e_sRR, e_sRV, e_sIf, e_sCall, e_sPI, e_sPZ, e_sPR, e_sPO, e_sAI, e_sAZ, e_sAO, e_sAR, e_sPopI, e_sPopR, e_sCopy, e_mI, e_mZ, e_mR, e_mV, jAdd_n, jMul_n, z0, z1, Option.bind_some, List.getElem?_cons_zero, List.getElem?_cons_succ, List.set_cons_zero, List.set_cons_succ, eq_self, if_true, ite_and, ite_or, ite_I, ite_bI, ite_bJ, bI_ne, bI_01, List.cons_append, List.nil_append, Bool.false_eq_true, if_false, gT26_0 h, ek5, jSub_n (show 1 ≤ k + 1 by omega), Nat.add_sub_cancel]; rfl) ?_
  have hF : FX (fun a m => NC k a m ∨ a = 26 ∧ m = 0) σ (up (up (up (up (up σ 27 k (nI x)) 28 k (nI y)) 34 k (nI 1)) 30 (128 * k + 2) (nI 1)) 26 0 (nI (k + 1))) := by
    refine ((((FX.u (FX.r _ σ) (Or.inl (Or.inl (SC.c (j := 0) (i := 0) (by unfold celR; omega))))).u (Or.inl (Or.inl (SC.c (j := 0) (i := 1) (by unfold celR; omega))))).u (Or.inl (Or.inr ⟨by omega, by omega, rfl⟩))).u (Or.inl (Or.inl (SC.m (by omega))))).u (Or.inr ⟨rfl, rfl⟩)
  obtain ⟨h1, h2, h3, h4, h5, h6⟩ := hR
  obtain ⟨r0, z35, z36⟩ := h4 k (by omega) hk6
  have rk : RR (up (up (up (up (up σ 27 k (nI x)) 28 k (nI y)) 34 k (nI 1)) 30 (128 * k + 2) (nI 1)) 26 0 (nI (k + 1))) k (nwA (nI x) (nI y)) := by
    have a1 : RR (up (up σ 27 k (nI x)) 28 k (nI y)) k (up (up (fun _ _ => nI 0) 0 0 (nI x)) 0 1 (nI y)) := (r0.u (j := 0) (i := 0) (by unfold celR; omega)).u (j := 0) (i := 1) (by unfold celR; omega)
    have a2 := a1.o ((FX.r (fun a _ => a = 34) _).u (a := 34) (i := k) (v := nI 1) rfl) (fun a m q k => by have := q.b; omega)
    have a3 := a2.u4 (i := 2) (v := nI 1) (by omega)
    have a4 := a3.o ((FX.r (fun a _ => a = 26) _).u (a := 26) (i := 0) (v := nI (k + 1)) rfl) (fun a m q k => by have := q.b; omega)
    intro j m hc
    rw [a4 j m hc]
    unfold up nwA
    unfold celR at hc
    by_cases q1 : j = 4 ∧ m = 2
    · rw [if_pos q1, if_neg (by omega), if_neg (by omega), if_pos q1]
    rw [if_neg q1]
    by_cases q2 : j = 0 ∧ m = 1
    · rw [if_pos q2, if_neg (by omega), if_pos q2]
    rw [if_neg q2]
    by_cases q3 : j = 0 ∧ m = 0
    · rw [if_pos q3, if_pos q3]
    · rw [if_neg q3, if_neg q3, if_neg q2, if_neg q1, if_neg (by omega)]
  have m34 : up (up (up (up (up σ 27 k (nI x)) 28 k (nI y)) 34 k (nI 1)) 30 (128 * k + 2) (nI 1)) 26 0 (nI (k + 1)) 34 k = nI 1 := by
    rw [up_ne (by omega), up_ne (by omega)]
    unfold up
    rw [if_pos ⟨rfl, rfl⟩]
  have ot : ∀ a m, a = 35 ∨ a = 36 ∨ 44 ≤ a ∨ a = 29 ∨ a = 26 ∧ m ≠ 0 ∨ a = 34 ∧ m ≠ k → up (up (up (up (up σ 27 k (nI x)) 28 k (nI y)) 34 k (nI 1)) 30 (128 * k + 2) (nI 1)) 26 0 (nI (k + 1)) a m = σ a m := fun a m q => by
    unfold up
    rw [if_neg (by omega), if_neg (by omega), if_neg (by omega), if_neg (by omega), if_neg (by omega)]
  generalize up (up (up (up (up σ 27 k (nI x)) 28 k (nI y)) 34 k (nI 1)) 30 (128 * k + 2) (nI 1)) 26 0 (nI (k + 1)) = τ at hF rk m34 ot ek5 ⊢
  rw [hW.1, hke]
  refine ⟨rfl, τ, rfl, ?_, hF.L (fun a m q => by
    rcases q with (q | q) | q
    · have := q.b; omega
    · omega
    · omega)⟩
  have ekn : kW (newW w (nI x) (nI y)) = k + 1 := by rw [kW_n (by omega), hke]
  have rg : ∀ d G, RG σ d G → RG τ d G := fun d G q => ⟨fun m hm => by rw [ot _ _ (by omega)]; exact q.1 m hm, fun m hm => by rw [ot _ _ (by omega)]; exact q.2 m hm⟩
  have ro : ∀ t A, t ≠ k → RR σ t A → RR τ t A := fun t A hne q => q.o hF (fun a m k1 k2 => by
    rcases k2 with (k2 | k2) | k2
    · exact hne (k1.s k2)
    · have := k1.b; omega
    · have := k1.b; omega)
  refine ⟨fun j m hc => ?_, ?_, fun t ht => ?_, fun t g1 g2 => ?_, fun e he => rg _ _ (h5 e he), fun q e he => rg _ _ (h6 q e he)⟩
  · have hc2 : celQ w j m := hc
    show τ (rva j) (rvi j m) = up (vW w) 0 0 (nI (kW w + 1)) j m
    by_cases q : j = 0 ∧ m = 0
    · obtain ⟨rfl, rfl⟩ := q
      rw [hke]
      exact ek5
    · have c := rv_c hc2
      unfold up
      rw [if_neg q, ot _ _ (by omega)]
      exact h1 j m hc2
  · rw [ot 26 20 (by omega)]
    exact h2
  · rw [ekn] at ht
    show RR τ t (if t = kW w then nwA (nI x) (nI y) else w.1 t) ∧ ∃ m c, MD τ t m c ∧ mdA (if t = kW w then nwA (nI x) (nI y) else w.1 t) m c
    rw [hke]
    by_cases q : t = k
    · rw [if_pos q, q]
      refine ⟨rk, 1, 0, ⟨m34, ?_, ?_⟩, Or.inl rfl, by omega, rfl, rfl⟩
      · rw [ot 35 k (by omega), z35]
        rfl
      · rw [ot 36 k (by omega)]
        exact z36
    · rw [if_neg q]
      obtain ⟨r, m, c, hm, ha⟩ := h3 t (by omega)
      refine ⟨ro t _ q r, m, c, ?_, ha⟩
      unfold MD
      rw [ot 34 t (by omega), ot 35 t (by omega), ot 36 t (by omega)]
      exact hm
  · rw [ekn] at g1
    obtain ⟨r, e5, e6⟩ := h4 t (by omega) g2
    rw [ot 35 t (by omega), ot 36 t (by omega)]
    exact ⟨ro t _ (by omega) r, e5, e6⟩
end SLC
