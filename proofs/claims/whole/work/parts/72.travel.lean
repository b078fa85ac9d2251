/-! the reference: a frame passes the stations -/
section GRM
variable {n d : Nat} {σ G : sg}
theorem q_R_gram {c a o l : Int32} (h : okB n) (hd : d < 9) : ∃ τ, G_R_gram [.ref 26, .int (nI d), .int c, .int a, .int o, .int l] (hs n σ) = some (hs n τ) ∧ RG τ d (nwG c a o l) ∧ FX (DC d) σ τ := by
  refine mV_s (Nat.le_of_ble_eq_true rfl) ?_
  simp only [jx_L0, List.map_cons, List.map_nil, List.length_cons, List.length_nil, Nat.reduceAdd, Nat.reduceSub, List.replicate, List.cons_append, List.nil_append]
  unfold P_R_gram
  refine wSeq (wS_l (by simp only [e_fI, e_fLd, e_fLr, e_fB, e_fD, e_fC, e_fT, e_fAnd, e_fOr, e_fNot, e_fCC, e_fIf, e_gI, e_gR, e_aI, e_aR, e_aN, e_cV, e_cS, e_fNil, e_fAi, e_fAr, e_sSeq, e_sSkip, e_sSt, e_sSr, e_sInc, e_sRI, e_sRR, e_sRV, e_sIf, e_sCall, e_sPI, e_sPZ, e_sPR, e_sPO, e_sAI, e_sAZ, e_sAO, e_sAR, e_sPopI, e_sPopR, e_sCopy, e_mI, e_mZ, e_mR, e_mV, jAdd_n, jMul_n, z0, z1, Option.bind_some, List.getElem?_cons_zero, List.getElem?_cons_succ, List.set_cons_zero, List.set_cons_succ, eq_self, if_true, ite_and, ite_or, ite_I, ite_bI, ite_bJ, bI_ne, bI_01, List.cons_append, List.nil_append, Bool.false_eq_true, if_false, gT26_22 h, wT44 h hd]; rfl) ?_)
  refine wSeq (wS_l (by simp only [e_fI, e_fLd, e_fLr, e_fB, e_fD, e_fC, e_fT, e_fAnd, e_fOr, e_fNot, e_fCC, e_fIf, e_gI, e_gR, e_aI, e_aR, e_aN, e_cV, e_cS, e_fNil, e_fAi, e_fAr, e_sSeq, e_sSkip, e_sSt, e_sSr, e_sInc, e_sRI, e_sRR, e_sRV, e_sIf, e_sCall, e_sPI, e_sPZ, e_sPR, e_sPO, e_sAI, e_sAZ, e_sAO, e_sAR, e_sPopI, e_sPopR, e_sCopy, e_mI, e_mZ, e_mR, e_mV, jAdd_n, jMul_n, z0, z1, Option.bind_some, List.getElem?_cons_zero, List.getElem?_cons_succ, List.set_cons_zero, List.set_cons_succ, eq_self, if_true, ite_and, ite_or, ite_I, ite_bI, ite_bJ, bI_ne, bI_01, List.cons_append, List.nil_append, Bool.false_eq_true, if_false, gT26_23 h, wT45 h hd]; rfl) ?_)
  refine wSeq (wS_l (by simp only [e_fI, e_fLd, e_fLr, e_fB, e_fD, e_fC, e_fT, e_fAnd, e_fOr, e_fNot, e_fCC, e_fIf, e_gI, e_gR, e_aI, e_aR, e_aN, e_cV, e_cS, e_fNil, e_fAi, e_fAr, e_sSeq, e_sSkip, e_sSt, e_sSr, e_sInc, e_sRI, e_sRR, e_sRV, e_sIf, e_sCall, e_sPI, e_sPZ, e_sPR, e_sPO, e_sAI, e_sAZ, e_sAO, e_sAR, e_sPopI, e_sPopR, e_sCopy, e_mI, e_mZ, e_mR, e_mV, jAdd_n, jMul_n, z0, z1, Option.bind_some, List.getElem?_cons_zero, List.getElem?_cons_succ, List.set_cons_zero, List.set_cons_succ, eq_self, if_true, ite_and, ite_or, ite_I, ite_bI, ite_bJ, bI_ne, bI_01, List.cons_append, List.nil_append, Bool.false_eq_true, if_false, gT26_24 h, wT46 h hd]; rfl) ?_)
  refine wSeq (wS_l (by simp only [e_fI, e_fLd, e_fLr, e_fB, e_fD, e_fC, e_fT, e_fAnd, e_fOr, e_fNot, e_fCC, e_fIf, e_gI, e_gR, e_aI, e_aR, e_aN, e_cV, e_cS, e_fNil, e_fAi, e_fAr, e_sSeq, e_sSkip, e_sSt, e_sSr, e_sInc, e_sRI, e_sRR, e_sRV, e_sIf, e_sCall, e_sPI, e_sPZ, e_sPR, e_sPO, e_sAI, e_sAZ, e_sAO, e_sAR, e_sPopI, e_sPopR, e_sCopy, e_mI, e_mZ, e_mR, e_mV, jAdd_n, jMul_n, z0, z1, Option.bind_some, List.getElem?_cons_zero, List.getElem?_cons_succ, List.set_cons_zero, List.set_cons_succ, eq_self, if_true, ite_and, ite_or, ite_I, ite_bI, ite_bJ, bI_ne, bI_01, List.cons_append, List.nil_append, Bool.false_eq_true, if_false, gT26_25 h, wT47 h hd]; rfl) ?_)
  refine wSeq (wS_l (by simp only [e_fI, e_fLd, e_fLr, e_fB, e_fD, e_fC, e_fT, e_fAnd, e_fOr, e_fNot, e_fCC, e_fIf, e_gI, e_gR, e_aI, e_aR, e_aN, e_cV, e_cS, e_fNil, e_fAi, e_fAr, e_sSeq, e_sSkip, e_sSt, e_sSr, e_sInc, e_sRI, e_sRR, e_sRV, e_sIf, e_sCall, e_sPI, e_sPZ, e_sPR, e_sPO, e_sAI, e_sAZ, e_sAO, e_sAR, e_sPopI, e_sPopR, e_sCopy, e_mI, e_mZ, e_mR, e_mV, jAdd_n, jMul_n, z0, z1, Option.bind_some, List.getElem?_cons_zero, List.getElem?_cons_succ, List.set_cons_zero, List.set_cons_succ, eq_self, if_true, ite_and, ite_or, ite_I, ite_bI, ite_bJ, bI_ne, bI_01, List.cons_append, List.nil_append, Bool.false_eq_true, if_false, gT26_26 h, wT48 h hd]; rfl) ?_)
  have hF : FX (DC d) σ (up (up (up (up (up σ 44 d c) 45 d a) 46 d o) 47 d l) 48 d (nI 0)) := (((((FX.r _ σ).u (Or.inl ⟨by omega, by omega, rfl⟩)).u (Or.inl ⟨by omega, by omega, rfl⟩)).u (Or.inl ⟨by omega, by omega, rfl⟩)).u (Or.inl ⟨by omega, by omega, rfl⟩)).u (Or.inl ⟨by omega, by omega, rfl⟩)
  have h0 : ∀ i, i < 5 → up (up (up (up (up σ 44 d c) 45 d a) 46 d o) 47 d l) 48 d (nI 0) (44 + i) d = nwG c a o l 0 i := fun i hi => by
    rcases (show i = 0 ∨ i = 1 ∨ i = 2 ∨ i = 3 ∨ i = 4 by omega) with rfl | rfl | rfl | rfl | rfl <;> simp [up, nwG]
  generalize up (up (up (up (up σ 44 d c) 45 d a) 46 d o) 47 d l) 48 d (nI 0) = τ at hF h0 ⊢
  refine wSeq (wSeq (wS_l (by simp only [e_fI, e_fLd, e_fLr, e_fB, e_fD, e_fC, e_fT, e_fAnd, e_fOr, e_fNot, e_fCC, e_fIf, e_gI, e_gR, e_aI, e_aR, e_aN, e_cV, e_cS, e_fNil, e_fAi, e_fAr, e_sSeq, e_sSkip, e_sSt, e_sSr, e_sInc, e_sRI, e_sRR, e_sRV, e_sIf, e_sCall, e_sPI, e_sPZ, e_sPR, e_sPO, e_sAI, e_sAZ, e_sAO, e_sAR, e_sPopI, e_sPopR, e_sCopy, e_mI, e_mZ, e_mR, e_mV, jAdd_n, jMul_n, z0, z1, Option.bind_some, List.getElem?_cons_zero, List.getElem?_cons_succ, List.set_cons_zero, List.set_cons_succ, eq_self, if_true, ite_and, ite_or, ite_I, ite_bI, ite_bJ, bI_ne, bI_01, List.cons_append, List.nil_append, Bool.false_eq_true, if_false]; rfl) ?_))
  refine wWh (I := fun i L H => ∃ ρ, L = [some (.ref 26), some (.int (nI d)), some (.int c), some (.int a), some (.int o), some (.int l), some (.int (nI i))] ∧ H = hs n ρ ∧ (∀ j, j < i → ρ 49 (8 * d + j) = nI 0) ∧ FX (fun a i => a = 49 ∧ i / 8 = d) τ ρ) (e := 8) ?_ ?_ ?_ 600 0 _ _ (by omega) (by omega) ⟨τ, rfl, rfl, fun j hj => by omega, FX.r _ τ⟩
  · rintro i _ _ ⟨ρ, rfl, rfl, -⟩ hi
    simp only [e_fI, e_fLd, e_fLr, e_fB, e_fD, e_fC, e_fT, e_fAnd, e_fOr, e_fNot, e_fCC, e_fIf, e_gI, e_gR, e_aI, e_aR, e_aN, e_cV, e_cS, e_fNil, e_fAi, e_fAr, e_sSeq, e_sSkip, e_sSt, e_sSr, e_sInc, e_sRI, e_sRR, e_sRV, e_sIf, e_sCall, e_sPI, e_sPZ, e_sPR, e_sPO, e_sAI, e_sAZ, e_sAO, e_sAR, e_sPopI, e_sPopR, e_sCopy, e_mI, e_mZ, e_mR, e_mV, jAdd_n, jMul_n, z0, z1, Option.bind_some, List.getElem?_cons_zero, List.getElem?_cons_succ, List.set_cons_zero, List.set_cons_succ, eq_self, if_true, ite_and, ite_or, ite_I, ite_bI, ite_bJ, bI_ne, bI_01, List.cons_append, List.nil_append, Bool.false_eq_true, if_false, jLt, nI_ltI (show i < 2 ^ 31 by omega) (show 8 < 2 ^ 31 by omega)]
  · rintro i _ _ ⟨ρ, rfl, rfl, hV, hFρ⟩ hi
    refine wSeq (wS_l (by simp only [e_fI, e_fLd, e_fLr, e_fB, e_fD, e_fC, e_fT, e_fAnd, e_fOr, e_fNot, e_fCC, e_fIf, e_gI, e_gR, e_aI, e_aR, e_aN, e_cV, e_cS, e_fNil, e_fAi, e_fAr, e_sSeq, e_sSkip, e_sSt, e_sSr, e_sInc, e_sRI, e_sRR, e_sRV, e_sIf, e_sCall, e_sPI, e_sPZ, e_sPR, e_sPO, e_sAI, e_sAZ, e_sAO, e_sAR, e_sPopI, e_sPopR, e_sCopy, e_mI, e_mZ, e_mR, e_mV, jAdd_n, jMul_n, z0, z1, Option.bind_some, List.getElem?_cons_zero, List.getElem?_cons_succ, List.set_cons_zero, List.set_cons_succ, eq_self, if_true, ite_and, ite_or, ite_I, ite_bI, ite_bJ, bI_ne, bI_01, List.cons_append, List.nil_append, Bool.false_eq_true, if_false, gT26_27 h, wT49 h (show 8 * d + i < 72 by omega)]; rfl) ?_)
    refine wS_l (by simp only [e_fI, e_fLd, e_fLr, e_fB, e_fD, e_fC, e_fT, e_fAnd, e_fOr, e_fNot, e_fCC, e_fIf, e_gI, e_gR, e_aI, e_aR, e_aN, e_cV, e_cS, e_fNil, e_fAi, e_fAr, e_sSeq, e_sSkip, e_sSt, e_sSr, e_sInc, e_sRI, e_sRR, e_sRV, e_sIf, e_sCall, e_sPI, e_sPZ, e_sPR, e_sPO, e_sAI, e_sAZ, e_sAO, e_sAR, e_sPopI, e_sPopR, e_sCopy, e_mI, e_mZ, e_mR, e_mV, jAdd_n, jMul_n, z0, z1, Option.bind_some, List.getElem?_cons_zero, List.getElem?_cons_succ, List.set_cons_zero, List.set_cons_succ, eq_self, if_true, ite_and, ite_or, ite_I, ite_bI, ite_bJ, bI_ne, bI_01, List.cons_append, List.nil_append, Bool.false_eq_true, if_false, nI_add]; rfl) ?_
    refine ⟨_, rfl, rfl, fun j hj => ?_, hFρ.u ⟨rfl, by omega⟩⟩
    unfold up
    by_cases qj : j = i
    · rw [if_pos ⟨rfl, by omega⟩]
    · rw [if_neg (by omega)]
      exact hV j (by omega)
  · rintro _ _ ⟨ρ, rfl, rfl, hV, hFρ⟩
    refine wS_r rfl ⟨rfl, ρ, rfl, ⟨fun i hi => ?_, fun i hi => ?_⟩, hF.t (hFρ.m (fun _ _ q => Or.inr q))⟩
    · rw [hFρ _ _ (by omega)]
      exact h0 i hi
    · exact hV i hi
theorem q_R_copyGram {e : Nat} (h : okB n) (hd : d < 9) (he : e < 9) (hne : d ≠ e) (hG : RG σ d G) : ∃ τ, G_R_copyGram [.ref 26, .int (nI d), .int (nI e)] (hs n σ) = some (hs n τ) ∧ RG τ e G ∧ FX (DC e) σ τ := by
  have v : ∀ i, i < 5 → σ (44 + i) d = G 0 i := hG.1
  have v0 : σ 44 d = G 0 0 := v 0 (by omega)
  have v1 : σ 45 d = G 0 1 := v 1 (by omega)
  have v2 : σ 46 d = G 0 2 := v 2 (by omega)
  have v3 : σ 47 d = G 0 3 := v 3 (by omega)
  have v4 : σ 48 d = G 0 4 := v 4 (by omega)
  refine mV_s (Nat.le_of_ble_eq_true rfl) ?_
  simp only [jx_L0, List.map_cons, List.map_nil, List.length_cons, List.length_nil, Nat.reduceAdd, Nat.reduceSub, List.replicate, List.cons_append, List.nil_append]
  unfold P_R_copyGram
  refine wSeq (wS_l (by simp only [e_fI, e_fLd, e_fLr, e_fB, e_fD, e_fC, e_fT, e_fAnd, e_fOr, e_fNot, e_fCC, e_fIf, e_gI, e_gR, e_aI, e_aR, e_aN, e_cV, e_cS, e_fNil, e_fAi, e_fAr, e_sSeq, e_sSkip, e_sSt, e_sSr, e_sInc, e_sRI, e_sRR, e_sRV, e_sIf, e_sCall, e_sPI, e_sPZ, e_sPR, e_sPO, e_sAI, e_sAZ, e_sAO, e_sAR, e_sPopI, e_sPopR, e_sCopy, e_mI, e_mZ, e_mR, e_mV, jAdd_n, jMul_n, z0, z1, Option.bind_some, List.getElem?_cons_zero, List.getElem?_cons_succ, List.set_cons_zero, List.set_cons_succ, eq_self, if_true, ite_and, ite_or, ite_I, ite_bI, ite_bJ, bI_ne, bI_01, List.cons_append, List.nil_append, Bool.false_eq_true, if_false, gT26_22 h, iT44 h hd, v0, wT44 h he]; rfl) ?_)
  have u1 : up σ 44 e (G 0 0) 45 d = G 0 1 := v1
  refine wSeq (wS_l (by simp only [e_fI, e_fLd, e_fLr, e_fB, e_fD, e_fC, e_fT, e_fAnd, e_fOr, e_fNot, e_fCC, e_fIf, e_gI, e_gR, e_aI, e_aR, e_aN, e_cV, e_cS, e_fNil, e_fAi, e_fAr, e_sSeq, e_sSkip, e_sSt, e_sSr, e_sInc, e_sRI, e_sRR, e_sRV, e_sIf, e_sCall, e_sPI, e_sPZ, e_sPR, e_sPO, e_sAI, e_sAZ, e_sAO, e_sAR, e_sPopI, e_sPopR, e_sCopy, e_mI, e_mZ, e_mR, e_mV, jAdd_n, jMul_n, z0, z1, Option.bind_some, List.getElem?_cons_zero, List.getElem?_cons_succ, List.set_cons_zero, List.set_cons_succ, eq_self, if_true, ite_and, ite_or, ite_I, ite_bI, ite_bJ, bI_ne, bI_01, List.cons_append, List.nil_append, Bool.false_eq_true, if_false, gT26_23 h, iT45 h hd, u1, wT45 h he]; rfl) ?_)
  have u2 : up (up σ 44 e (G 0 0)) 45 e (G 0 1) 46 d = G 0 2 := v2
  refine wSeq (wS_l (by simp only [e_fI, e_fLd, e_fLr, e_fB, e_fD, e_fC, e_fT, e_fAnd, e_fOr, e_fNot, e_fCC, e_fIf, e_gI, e_gR, e_aI, e_aR, e_aN, e_cV, e_cS, e_fNil, e_fAi, e_fAr, e_sSeq, e_sSkip, e_sSt, e_sSr, e_sInc, e_sRI, e_sRR, e_sRV, e_sIf, e_sCall, e_sPI, e_sPZ, e_sPR, e_sPO, e_sAI, e_sAZ, e_sAO, e_sAR, e_sPopI, e_sPopR, e_sCopy, e_mI, e_mZ, e_mR, e_mV, jAdd_n, jMul_n, z0, z1, Option.bind_some, List.getElem?_cons_zero, List.getElem?_cons_succ, List.set_cons_zero, List.set_cons_succ, eq_self, if_true, ite_and, ite_or, ite_I, ite_bI, ite_bJ, bI_ne, bI_01, List.cons_append, List.nil_append, Bool.false_eq_true, if_false, gT26_24 h, iT46 h hd, u2, wT46 h he]; rfl) ?_)
  have u3 : up (up (up σ 44 e (G 0 0)) 45 e (G 0 1)) 46 e (G 0 2) 47 d = G 0 3 := v3
  refine wSeq (wS_l (by simp only [e_fI, e_fLd, e_fLr, e_fB, e_fD, e_fC, e_fT, e_fAnd, e_fOr, e_fNot, e_fCC, e_fIf, e_gI, e_gR, e_aI, e_aR, e_aN, e_cV, e_cS, e_fNil, e_fAi, e_fAr, e_sSeq, e_sSkip, e_sSt, e_sSr, e_sInc, e_sRI, e_sRR, e_sRV, e_sIf, e_sCall, e_sPI, e_sPZ, e_sPR, e_sPO, e_sAI, e_sAZ, e_sAO, e_sAR, e_sPopI, e_sPopR, e_sCopy, e_mI, e_mZ, e_mR, e_mV, jAdd_n, jMul_n, z0, z1, Option.bind_some, List.getElem?_cons_zero, List.getElem?_cons_succ, List.set_cons_zero, List.set_cons_succ, eq_self, if_true, ite_and, ite_or, ite_I, ite_bI, ite_bJ, bI_ne, bI_01, List.cons_append, List.nil_append, Bool.false_eq_true, if_false, gT26_25 h, iT47 h hd, u3, wT47 h he]; rfl) ?_)
  have u4 : up (up (up (up σ 44 e (G 0 0)) 45 e (G 0 1)) 46 e (G 0 2)) 47 e (G 0 3) 48 d = G 0 4 := v4
  refine wSeq (wS_l (by simp only [e_fI, e_fLd, e_fLr, e_fB, e_fD, e_fC, e_fT, e_fAnd, e_fOr, e_fNot, e_fCC, e_fIf, e_gI, e_gR, e_aI, e_aR, e_aN, e_cV, e_cS, e_fNil, e_fAi, e_fAr, e_sSeq, e_sSkip, e_sSt, e_sSr, e_sInc, e_sRI, e_sRR, e_sRV, e_sIf, e_sCall, e_sPI, e_sPZ, e_sPR, e_sPO, e_sAI, e_sAZ, e_sAO, e_sAR, e_sPopI, e_sPopR, e_sCopy, e_mI, e_mZ, e_mR, e_mV, jAdd_n, jMul_n, z0, z1, Option.bind_some, List.getElem?_cons_zero, List.getElem?_cons_succ, List.set_cons_zero, List.set_cons_succ, eq_self, if_true, ite_and, ite_or, ite_I, ite_bI, ite_bJ, bI_ne, bI_01, List.cons_append, List.nil_append, Bool.false_eq_true, if_false, gT26_26 h, iT48 h hd, u4, wT48 h he]; rfl) ?_)
  have hF : FX (DC e) σ (up (up (up (up (up σ 44 e (G 0 0)) 45 e (G 0 1)) 46 e (G 0 2)) 47 e (G 0 3)) 48 e (G 0 4)) := (((((FX.r _ σ).u (Or.inl ⟨by omega, by omega, rfl⟩)).u (Or.inl ⟨by omega, by omega, rfl⟩)).u (Or.inl ⟨by omega, by omega, rfl⟩)).u (Or.inl ⟨by omega, by omega, rfl⟩)).u (Or.inl ⟨by omega, by omega, rfl⟩)
  have h0 : ∀ i, i < 5 → up (up (up (up (up σ 44 e (G 0 0)) 45 e (G 0 1)) 46 e (G 0 2)) 47 e (G 0 3)) 48 e (G 0 4) (44 + i) e = G 0 i := fun i hi => by
    rcases (show i = 0 ∨ i = 1 ∨ i = 2 ∨ i = 3 ∨ i = 4 by omega) with rfl | rfl | rfl | rfl | rfl <;> simp [up]
  have h1 : ∀ i, i < 8 → up (up (up (up (up σ 44 e (G 0 0)) 45 e (G 0 1)) 46 e (G 0 2)) 47 e (G 0 3)) 48 e (G 0 4) 49 (8 * d + i) = G 1 i := hG.2
  generalize up (up (up (up (up σ 44 e (G 0 0)) 45 e (G 0 1)) 46 e (G 0 2)) 47 e (G 0 3)) 48 e (G 0 4) = τ at hF h0 h1 ⊢
  refine wSeq (wSeq (wS_l (by simp only [e_fI, e_fLd, e_fLr, e_fB, e_fD, e_fC, e_fT, e_fAnd, e_fOr, e_fNot, e_fCC, e_fIf, e_gI, e_gR, e_aI, e_aR, e_aN, e_cV, e_cS, e_fNil, e_fAi, e_fAr, e_sSeq, e_sSkip, e_sSt, e_sSr, e_sInc, e_sRI, e_sRR, e_sRV, e_sIf, e_sCall, e_sPI, e_sPZ, e_sPR, e_sPO, e_sAI, e_sAZ, e_sAO, e_sAR, e_sPopI, e_sPopR, e_sCopy, e_mI, e_mZ, e_mR, e_mV, jAdd_n, jMul_n, z0, z1, Option.bind_some, List.getElem?_cons_zero, List.getElem?_cons_succ, List.set_cons_zero, List.set_cons_succ, eq_self, if_true, ite_and, ite_or, ite_I, ite_bI, ite_bJ, bI_ne, bI_01, List.cons_append, List.nil_append, Bool.false_eq_true, if_false]; rfl) ?_))
  refine wWh (I := fun i L H => ∃ ρ, L = [some (.ref 26), some (.int (nI d)), some (.int (nI e)), some (.int (nI i))] ∧ H = hs n ρ ∧ (∀ j, j < i → ρ 49 (8 * e + j) = G 1 j) ∧ FX (fun a i => a = 49 ∧ i / 8 = e) τ ρ) (e := 8) ?_ ?_ ?_ 600 0 _ _ (by omega) (by omega) ⟨τ, rfl, rfl, fun j hj => by omega, FX.r _ τ⟩
  · rintro i _ _ ⟨ρ, rfl, rfl, -⟩ hi
    simp only [e_fI, e_fLd, e_fLr, e_fB, e_fD, e_fC, e_fT, e_fAnd, e_fOr, e_fNot, e_fCC, e_fIf, e_gI, e_gR, e_aI, e_aR, e_aN, e_cV, e_cS, e_fNil, e_fAi, e_fAr, e_sSeq, e_sSkip, e_sSt, e_sSr, e_sInc, e_sRI, e_sRR, e_sRV, e_sIf, e_sCall, e_sPI, e_sPZ, e_sPR, e_sPO, e_sAI, e_sAZ, e_sAO, e_sAR, e_sPopI, e_sPopR, e_sCopy, e_mI, e_mZ, e_mR, e_mV, jAdd_n, jMul_n, z0, z1, Option.bind_some, List.getElem?_cons_zero, List.getElem?_cons_succ, List.set_cons_zero, List.set_cons_succ, eq_self, if_true, ite_and, ite_or, ite_I, ite_bI, ite_bJ, bI_ne, bI_01, List.cons_append, List.nil_append, Bool.false_eq_true, if_false, jLt, nI_ltI (show i < 2 ^ 31 by omega) (show 8 < 2 ^ 31 by omega)]
  · rintro i _ _ ⟨ρ, rfl, rfl, hV, hFρ⟩ hi
    have k49 : ρ 49 (8 * d + i) = G 1 i := by rw [hFρ 49 _ (by omega)]; exact h1 i hi
    refine wSeq (wS_l (by simp only [e_fI, e_fLd, e_fLr, e_fB, e_fD, e_fC, e_fT, e_fAnd, e_fOr, e_fNot, e_fCC, e_fIf, e_gI, e_gR, e_aI, e_aR, e_aN, e_cV, e_cS, e_fNil, e_fAi, e_fAr, e_sSeq, e_sSkip, e_sSt, e_sSr, e_sInc, e_sRI, e_sRR, e_sRV, e_sIf, e_sCall, e_sPI, e_sPZ, e_sPR, e_sPO, e_sAI, e_sAZ, e_sAO, e_sAR, e_sPopI, e_sPopR, e_sCopy, e_mI, e_mZ, e_mR, e_mV, jAdd_n, jMul_n, z0, z1, Option.bind_some, List.getElem?_cons_zero, List.getElem?_cons_succ, List.set_cons_zero, List.set_cons_succ, eq_self, if_true, ite_and, ite_or, ite_I, ite_bI, ite_bJ, bI_ne, bI_01, List.cons_append, List.nil_append, Bool.false_eq_true, if_false, gT26_27 h, iT49 h (show 8 * d + i < 72 by omega), k49, wT49 h (show 8 * e + i < 72 by omega)]; rfl) ?_)
    refine wS_l (by simp only [e_fI, e_fLd, e_fLr, e_fB, e_fD, e_fC, e_fT, e_fAnd, e_fOr, e_fNot, e_fCC, e_fIf, e_gI, e_gR, e_aI, e_aR, e_aN, e_cV, e_cS, e_fNil, e_fAi, e_fAr, e_sSeq, e_sSkip, e_sSt, e_sSr, e_sInc, e_sRI, e_sRR, e_sRV, e_sIf, e_sCall, e_sPI, e_sPZ, e_sPR, e_sPO, e_sAI, e_sAZ, e_sAO, e_sAR, e_sPopI, e_sPopR, e_sCopy, e_mI, e_mZ, e_mR, e_mV, jAdd_n, jMul_n, z0, z1, Option.bind_some, List.getElem?_cons_zero, List.getElem?_cons_succ, List.set_cons_zero, List.set_cons_succ, eq_self, if_true, ite_and, ite_or, ite_I, ite_bI, ite_bJ, bI_ne, bI_01, List.cons_append, List.nil_append, Bool.false_eq_true, if_false, nI_add]; rfl) ?_
    refine ⟨_, rfl, rfl, fun j hj => ?_, hFρ.u ⟨rfl, by omega⟩⟩
    unfold up
    by_cases qj : j = i
    · rw [if_pos ⟨rfl, by omega⟩, qj]
    · rw [if_neg (by omega)]
      exact hV j (by omega)
  · rintro _ _ ⟨ρ, rfl, rfl, hV, hFρ⟩
    refine wS_r rfl ⟨rfl, ρ, rfl, ⟨fun i hi => ?_, fun i hi => ?_⟩, hF.t (hFρ.m (fun _ _ q => Or.inr q))⟩
    · rw [hFρ _ _ (by omega)]
      exact h0 i hi
    · exact hV i hi
end GRM
/-- what a frame may change in the reference -/
def TC (k a i : Nat) : Prop := (∃ s, s < k ∧ SC s a i) ∨ (44 ≤ a ∧ a ≤ 48 ∧ 3 ≤ i) ∨ (a = 49 ∧ 24 ≤ i) ∨ a = 50 ∨ a = 51 ∨ a = 26 ∧ (i = 19 ∨ i = 20 ∨ i = 21 ∨ i = 30 ∨ i = 31)
theorem TC.h {k s d a i : Nat} (hs6 : s < k) (hd : 3 ≤ d) (h : HC s d a i) : TC k a i := by
  rcases h with h | h | h | h | h
  · exact Or.inl ⟨s, hs6, h⟩
  · rcases h with h | h
    · exact Or.inr (Or.inl (by omega))
    · exact Or.inr (Or.inr (Or.inl (by omega)))
  · exact Or.inr (Or.inr (Or.inr (Or.inl h)))
  · exact Or.inr (Or.inr (Or.inr (Or.inr (Or.inl h))))
  · exact Or.inr (Or.inr (Or.inr (Or.inr (Or.inr (by omega)))))
theorem TC.d {k d a i : Nat} (hd : 3 ≤ d) (h : DC d a i) : TC k a i := by
  rcases h with h | h
  · exact Or.inr (Or.inl (by omega))
  · exact Or.inr (Or.inr (Or.inl (by omega)))
theorem TC.n {k a i : Nat} (h : TC k a i) : 26 ≤ a ∧ a ≤ 51 ∧ a ≠ 29 ∧ a ≠ 34 ∧ a ≠ 35 ∧ a ≠ 36 ∧ (a = 26 → i = 19 ∨ i = 20 ∨ i = 21 ∨ i = 30 ∨ i = 31) := by
  rcases h with ⟨s, -, h⟩ | h | h | h | h | h
  · have := h.b; omega
  all_goals omega
theorem RR.h {σ τ A : sg} {s t d : Nat} (h : RR σ t A) (hF : FX (HC s d) σ τ) (hne : t ≠ s) : RR τ t A := h.o hF (fun a i q k => by
  have := q.b
  rcases k with k | k | k | k | k
  · exact hne (q.s k)
  · rcases k with k | k <;> omega
  all_goals omega)
theorem RG.h {σ τ G : sg} {s d e : Nat} (h : RG σ e G) (hF : FX (HC s d) σ τ) (hne : d ≠ e) : RG τ e G := h.o hF (fun _ _ q => HC.nd hne q)
theorem runS_F {A : sg} {G : Nat → sg} {z : Nat} (hf : okF A) (h : okA A) (hg : ∀ e, e < z → okP (G e)) : ∀ d, d ≤ z → okF (runS A G d).1
  | 0, _ => hf
  | d + 1, hd => by
    have ok := runS_ok h hg d (by omega)
    exact pf_F (runS_F hf h hg d (by omega)) ok.1 (ok.2 d (by omega))
theorem runL_F {A G : Nat → sg} {k z : Nat} (hf : ∀ t, t < k → okF (A t)) (h : ∀ t, t < k → okA (A t)) (hg : ∀ e, e < z → okP (G e)) : ∀ s, s ≤ k → ∀ t, t < k → okF ((runL A G z s).1 t)
  | 0, _ => hf
  | s + 1, hs => fun t ht => by
    have ok := runL_ok (z := z) h hg s (by omega)
    show okF (if t = s then _ else _)
    split
    · exact runS_F (runL_F hf h hg s (by omega) s (by omega)) (ok.1 s (by omega)) ok.2 z (Nat.le_refl _)
    · exact runL_F hf h hg s (by omega) t ht
section TRV
variable {n k z : Nat} {σ : sg}
theorem travel_in {τ : sg} {B H : Nat → sg} {s : Nat} {x1 x2 x3 x4 : Option Value} (h : okB n) (hsk : s < k) (hk : k ≤ 6) (ez : τ 26 19 = nI z) (hz : z ≤ 3) (hB : ∀ t, t < k → RR τ t (B t)) (hok : okA (B s)) (hof : okF (B s)) (hH : ∀ e, e < z → RG τ (3 + e) (H e)) (hgk : ∀ e, e < z → okP (H e)) {Q : hp_L → hp_H → Prop} {R : Option Value → hp_H → Prop} (hQ : ∀ τ' x6, FX (fun a i => TC k a i ∧ ¬ (a = 26 ∧ (i = 19 ∨ i = 20 ∨ i = 21))) τ τ' → (∀ t, t < k → RR τ' t (if t = s then (runS (B s) H z).1 else B t)) → (∀ e, e < z → RG τ' (3 + e) ((runS (B s) H z).2 e)) → Q [some (.ref 26), x1, x2, x3, x4, some (.int (nI s)), x6] (hs n τ')) : wS (sWh (fC jLt (fLd 6) (fB jAdd (fI (nI 3)) (gI 8 19 (fLr 0)))) (sSeq (sCall (cV 8 (fAr (fLr 0) (fAi (fLd 5) (fAi (fLd 6) (fNil)))) G_R_handle)) (sInc 6 (nI 1))) 600) [some (.ref 26), x1, x2, x3, x4, some (.int (nI s)), some (.int (nI 3))] (hs n τ) Q R := by
  refine wWh (I := fun d L H' => ∃ τ', L = [some (.ref 26), x1, x2, x3, x4, some (.int (nI s)), some (.int (nI (3 + d)))] ∧ H' = hs n τ' ∧ FX (fun a i => TC k a i ∧ ¬ (a = 26 ∧ (i = 19 ∨ i = 20 ∨ i = 21))) τ τ' ∧ (∀ t, t < k → RR τ' t (if t = s then (runS (B s) H d).1 else B t)) ∧ (∀ e, e < z → RG τ' (3 + e) ((runS (B s) H d).2 e))) (e := z) ?_ ?_ ?_ 600 0 _ _ (by omega) (by omega) ⟨τ, rfl, rfl, FX.r _ τ, fun t ht => ?_, hH⟩
  · rintro d _ _ ⟨τ', rfl, rfl, hF, -⟩ hd
    have : τ' 26 19 = nI z := by rw [hF 26 19 (fun q => q.2 ⟨rfl, Or.inl rfl⟩)]; exact ez
    simp only [e_fI, e_fLd, e_fLr, e_fB, e_fD, e_fC, e_fT, e_fAnd, e_fOr, e_fNot, e_fCC, e_fIf, e_gI, e_gR, e_aI, e_aR, e_aN, e_cV, e_cS, e_fNil, e_fAi, e_fAr, e_sSeq, e_sSkip, e_sSt, e_sSr, e_sInc, e_sRI, e_sRR, e_sRV, e_sIf, e_sCall, e_sPI, e_sPZ, e_sPR, e_sPO, e_sAI, e_sAZ, e_sAO, e_sAR, e_sPopI, e_sPopR, e_sCopy, e_mI, e_mZ, e_mR, e_mV, jAdd_n, jMul_n, z0, z1, Option.bind_some, List.getElem?_cons_zero, List.getElem?_cons_succ, List.set_cons_zero, List.set_cons_succ, eq_self, if_true, ite_and, ite_or, ite_I, ite_bI, ite_bJ, bI_ne, bI_01, List.cons_append, List.nil_append, Bool.false_eq_true, if_false, gT26_19 h, this, jLt, nI_ltI (show 3 + d < 2 ^ 31 by omega) (show 3 + z < 2 ^ 31 by omega), Nat.add_lt_add_iff_left]
  · rintro d _ _ ⟨τ', rfl, rfl, hF, hR, hD⟩ hd
    have ok := runS_ok hok hgk d (by omega)
    have okf := runS_F hof hok hgk d (by omega)
    have hRs := hR s hsk
    rw [if_pos rfl] at hRs
    obtain ⟨ρ, e, r1, r2, r3⟩ := q_R_handle (d := 3 + d) h hRs (by omega) ok.1 okf (hD d hd) (by omega) (ok.2 d hd)
    refine wSeq (wS_l (by simp only [e_fI, e_fLd, e_fLr, e_fB, e_fD, e_fC, e_fT, e_fAnd, e_fOr, e_fNot, e_fCC, e_fIf, e_gI, e_gR, e_aI, e_aR, e_aN, e_cV, e_cS, e_fNil, e_fAi, e_fAr, e_sSeq, e_sSkip, e_sSt, e_sSr, e_sInc, e_sRI, e_sRR, e_sRV, e_sIf, e_sCall, e_sPI, e_sPZ, e_sPR, e_sPO, e_sAI, e_sAZ, e_sAO, e_sAR, e_sPopI, e_sPopR, e_sCopy, e_mI, e_mZ, e_mR, e_mV, jAdd_n, jMul_n, z0, z1, Option.bind_some, List.getElem?_cons_zero, List.getElem?_cons_succ, List.set_cons_zero, List.set_cons_succ, eq_self, if_true, ite_and, ite_or, ite_I, ite_bI, ite_bJ, bI_ne, bI_01, List.cons_append, List.nil_append, Bool.false_eq_true, if_false, kT26 h, e]; rfl) ?_)
    refine wS_l (by simp only [e_fI, e_fLd, e_fLr, e_fB, e_fD, e_fC, e_fT, e_fAnd, e_fOr, e_fNot, e_fCC, e_fIf, e_gI, e_gR, e_aI, e_aR, e_aN, e_cV, e_cS, e_fNil, e_fAi, e_fAr, e_sSeq, e_sSkip, e_sSt, e_sSr, e_sInc, e_sRI, e_sRR, e_sRV, e_sIf, e_sCall, e_sPI, e_sPZ, e_sPR, e_sPO, e_sAI, e_sAZ, e_sAO, e_sAR, e_sPopI, e_sPopR, e_sCopy, e_mI, e_mZ, e_mR, e_mV, jAdd_n, jMul_n, z0, z1, Option.bind_some, List.getElem?_cons_zero, List.getElem?_cons_succ, List.set_cons_zero, List.set_cons_succ, eq_self, if_true, ite_and, ite_or, ite_I, ite_bI, ite_bJ, bI_ne, bI_01, List.cons_append, List.nil_append, Bool.false_eq_true, if_false, nI_add]; rfl) ?_
    refine ⟨ρ, rfl, rfl, hF.t (r3.m (fun a i q => ⟨TC.h (by omega) (by omega) q, fun k => ?_⟩)), fun t ht => ?_, fun e' he => ?_⟩
    · rcases q with q | q | q | q | q
      · have := q.b; omega
      · rcases q with q | q <;> omega
      all_goals omega
    · by_cases q : t = s
      · subst q
        rw [if_pos rfl]
        exact r1
      · rw [if_neg q]
        have := hR t ht
        rw [if_neg q] at this
        exact this.h r3 q
    · show RG ρ _ (if e' = d then _ else _)
      by_cases q : e' = d
      · subst q
        rw [if_pos rfl]
        exact r2
      · rw [if_neg q]
        exact (hD e' he).h r3 (by omega)
  · rintro _ _ ⟨τ', rfl, rfl, hF, hR, hD⟩
    exact hQ τ' _ hF hR hD
  · by_cases q : t = s
    · rw [if_pos q, q]
      exact hB s hsk
    · rw [if_neg q]
      exact hB t ht
theorem rtn_r {p : Int32} {r : Nat} (hk : k ≤ 6) (hr : r ≤ k) : (!lst p r k && (jEq (nI k) 0 || jGt (nI r) 0)) = rtn p r k := by
  unfold rtn
  congr 1
  rw [← nI_0, jEq_n (by omega) (by omega)]
  unfold jGt
  rw [show (decide (nI 0 < nI r)) = decide (0 < r) from decide_eq_decide.mpr (nI_ltI (by omega) (by omega)), ← Bool.decide_or]
theorem q_R_travel {A G : Nat → sg} {p : Int32} {r : Nat} (h : okB n) (ek : σ 26 0 = nI k) (hk : k ≤ 6) (ep : σ 26 21 = p) (hp : p = -1 ∨ ∃ q, q < 7 ∧ p = nI q) (ez : σ 26 19 = nI z) (hz : z ≤ 3) (hr : isR (σ 29) k r) (hA : ∀ t, t < k → RR σ t (A t)) (hok : ∀ t, t < k → okA (A t)) (hof : ∀ t, t < k → okF (A t)) (hG : ∀ e, e < z → RG σ (3 + e) (G e)) (hg : ∀ e, e < z → okP (G e)) : ∃ τ, G_R_travel [.ref 26] (hs n σ) = some (bI (rtn p r k), hs n τ) ∧ FX (TC k) σ τ ∧ (∀ t, t < k → RR τ t ((runL A G z (dng p r k)).1 t)) ∧ (rtn p r k = true → ∀ e, e < z → RG τ (6 + e) ((runL A G z (dng p r k)).2 e)) ∧ τ 26 20 = nI (if rtn p r k = true then z else 0) ∧ τ 26 21 = -1 := by
  obtain ⟨ed, hd⟩ := dng_e hr.1 hk hp
  have hrk := hr.1
  refine mZ_t (Nat.le_of_ble_eq_true rfl) ?_
  simp only [jx_L0, List.map_cons, List.map_nil, List.length_cons, List.length_nil, Nat.reduceAdd, Nat.reduceSub, List.replicate, List.cons_append, List.nil_append]
  unfold P_R_travel
  refine wSeq (wS_l (by simp only [e_fI, e_fLd, e_fLr, e_fB, e_fD, e_fC, e_fT, e_fAnd, e_fOr, e_fNot, e_fCC, e_fIf, e_gI, e_gR, e_aI, e_aR, e_aN, e_cV, e_cS, e_fNil, e_fAi, e_fAr, e_sSeq, e_sSkip, e_sSt, e_sSr, e_sInc, e_sRI, e_sRR, e_sRV, e_sIf, e_sCall, e_sPI, e_sPZ, e_sPR, e_sPO, e_sAI, e_sAZ, e_sAO, e_sAR, e_sPopI, e_sPopR, e_sCopy, e_mI, e_mZ, e_mR, e_mV, jAdd_n, jMul_n, z0, z1, Option.bind_some, List.getElem?_cons_zero, List.getElem?_cons_succ, List.set_cons_zero, List.set_cons_succ, eq_self, if_true, ite_and, ite_or, ite_I, ite_bI, ite_bJ, bI_ne, bI_01, List.cons_append, List.nil_append, Bool.false_eq_true, if_false]; rfl) ?_)
  refine wSeq ?_
  refine wWh (I := fun i L H => L = [some (.ref 26), some (.int (nI i)), none, none, none, none, none] ∧ H = hs n σ) (e := r) ?_ ?_ ?_ 600 0 _ _ (by omega) (by omega) ⟨rfl, rfl⟩
  · rintro i _ _ ⟨rfl, rfl⟩ hi
    by_cases q : i < k
    · have e1 : jNe (σ 29 i) 0 = decide (i = r) := by
        by_cases q2 : i < r
        · rw [hr.2.1 i q2, decide_eq_false (by omega)]
        · have : i = r := by omega
          subst this
          rw [hr.2.2 q, decide_eq_true rfl]
      have e2 : (decide (i < k) && !decide (i = r)) = decide (i < r) := by
        rw [decide_eq_true q, Bool.true_and, ← decide_not]
        exact decide_eq_decide.mpr (by omega)
      simp only [e_fI, e_fLd, e_fLr, e_fB, e_fD, e_fC, e_fT, e_fAnd, e_fOr, e_fNot, e_fCC, e_fIf, e_gI, e_gR, e_aI, e_aR, e_aN, e_cV, e_cS, e_fNil, e_fAi, e_fAr, e_sSeq, e_sSkip, e_sSt, e_sSr, e_sInc, e_sRI, e_sRR, e_sRV, e_sIf, e_sCall, e_sPI, e_sPZ, e_sPR, e_sPO, e_sAI, e_sAZ, e_sAO, e_sAR, e_sPopI, e_sPopR, e_sCopy, e_mI, e_mZ, e_mR, e_mV, jAdd_n, jMul_n, z0, z1, Option.bind_some, List.getElem?_cons_zero, List.getElem?_cons_succ, List.set_cons_zero, List.set_cons_succ, eq_self, if_true, ite_and, ite_or, ite_I, ite_bI, ite_bJ, bI_ne, bI_01, List.cons_append, List.nil_append, Bool.false_eq_true, if_false, gT26_0 h, ek, jLt, nI_ltI (show i < 2 ^ 31 by omega) (show k < 2 ^ 31 by omega), gT26_3 h, iT29 h (show i < 6 by omega), e1, e2]
    · have e2 : decide (i < k) = false := decide_eq_false q
      have e3 : decide (i < r) = false := decide_eq_false (by omega)
      simp only [e_fI, e_fLd, e_fLr, e_fB, e_fD, e_fC, e_fT, e_fAnd, e_fOr, e_fNot, e_fCC, e_fIf, e_gI, e_gR, e_aI, e_aR, e_aN, e_cV, e_cS, e_fNil, e_fAi, e_fAr, e_sSeq, e_sSkip, e_sSt, e_sSr, e_sInc, e_sRI, e_sRR, e_sRV, e_sIf, e_sCall, e_sPI, e_sPZ, e_sPR, e_sPO, e_sAI, e_sAZ, e_sAO, e_sAR, e_sPopI, e_sPopR, e_sCopy, e_mI, e_mZ, e_mR, e_mV, jAdd_n, jMul_n, z0, z1, Option.bind_some, List.getElem?_cons_zero, List.getElem?_cons_succ, List.set_cons_zero, List.set_cons_succ, eq_self, if_true, ite_and, ite_or, ite_I, ite_bI, ite_bJ, bI_ne, bI_01, List.cons_append, List.nil_append, Bool.false_eq_true, if_false, gT26_0 h, ek, jLt, nI_ltI (show i < 2 ^ 31 by omega) (show k < 2 ^ 31 by omega), e2, e3]
  · rintro i _ _ ⟨rfl, rfl⟩ hi
    refine wS_l (by simp only [e_fI, e_fLd, e_fLr, e_fB, e_fD, e_fC, e_fT, e_fAnd, e_fOr, e_fNot, e_fCC, e_fIf, e_gI, e_gR, e_aI, e_aR, e_aN, e_cV, e_cS, e_fNil, e_fAi, e_fAr, e_sSeq, e_sSkip, e_sSt, e_sSr, e_sInc, e_sRI, e_sRR, e_sRV, e_sIf, e_sCall, e_sPI, e_sPZ, e_sPR, e_sPO, e_sAI, e_sAZ, e_sAO, e_sAR, e_sPopI, e_sPopR, e_sCopy, e_mI, e_mZ, e_mR, e_mV, jAdd_n, jMul_n, z0, z1, Option.bind_some, List.getElem?_cons_zero, List.getElem?_cons_succ, List.set_cons_zero, List.set_cons_succ, eq_self, if_true, ite_and, ite_or, ite_I, ite_bI, ite_bJ, bI_ne, bI_01, List.cons_append, List.nil_append, Bool.false_eq_true, if_false, nI_add]; rfl) ?_
    exact ⟨rfl, rfl⟩
  rintro _ _ ⟨rfl, rfl⟩
  refine wSeq (wS_l (by simp only [e_fI, e_fLd, e_fLr, e_fB, e_fD, e_fC, e_fT, e_fAnd, e_fOr, e_fNot, e_fCC, e_fIf, e_gI, e_gR, e_aI, e_aR, e_aN, e_cV, e_cS, e_fNil, e_fAi, e_fAr, e_sSeq, e_sSkip, e_sSt, e_sSr, e_sInc, e_sRI, e_sRR, e_sRV, e_sIf, e_sCall, e_sPI, e_sPZ, e_sPR, e_sPO, e_sAI, e_sAZ, e_sAO, e_sAR, e_sPopI, e_sPopR, e_sCopy, e_mI, e_mZ, e_mR, e_mV, jAdd_n, jMul_n, z0, z1, Option.bind_some, List.getElem?_cons_zero, List.getElem?_cons_succ, List.set_cons_zero, List.set_cons_succ, eq_self, if_true, ite_and, ite_or, ite_I, ite_bI, ite_bJ, bI_ne, bI_01, List.cons_append, List.nil_append, Bool.false_eq_true, if_false, gT26_21 h, ep]; rfl) ?_)
  refine wSeq (wS_l (by simp only [e_fI, e_fLd, e_fLr, e_fB, e_fD, e_fC, e_fT, e_fAnd, e_fOr, e_fNot, e_fCC, e_fIf, e_gI, e_gR, e_aI, e_aR, e_aN, e_cV, e_cS, e_fNil, e_fAi, e_fAr, e_sSeq, e_sSkip, e_sSt, e_sSr, e_sInc, e_sRI, e_sRR, e_sRV, e_sIf, e_sCall, e_sPI, e_sPZ, e_sPR, e_sPO, e_sAI, e_sAZ, e_sAO, e_sAR, e_sPopI, e_sPopR, e_sCopy, e_mI, e_mZ, e_mR, e_mV, jAdd_n, jMul_n, z0, z1, Option.bind_some, List.getElem?_cons_zero, List.getElem?_cons_succ, List.set_cons_zero, List.set_cons_succ, eq_self, if_true, ite_and, ite_or, ite_I, ite_bI, ite_bJ, bI_ne, bI_01, List.cons_append, List.nil_append, Bool.false_eq_true, if_false, kT26 h, pT26_21 h]; rfl) ?_)
  have hF0 : FX (fun a i => a = 26 ∧ i = 21) σ (up σ 26 21 (-1)) := (FX.r _ σ).u ⟨rfl, rfl⟩
  have f0 : up σ 26 21 (-1) 26 0 = nI k := ek
  have f19 : up σ 26 21 (-1) 26 19 = nI z := ez
  have f21 : up σ 26 21 (-1) 26 21 = -1 := rfl
  generalize up σ 26 21 (-1) = ρ at hF0 f0 f19 f21 ⊢
  have hA1 : ∀ t, t < k → RR ρ t (A t) := fun t ht => (hA t ht).o hF0 (fun a i q k => by have := q.b; omega)
  have hG1 : ∀ e, e < z → RG ρ (3 + e) (G e) := fun e he => (hG e he).o hF0 (fun a i q k => by rcases q with q | q <;> omega)
  have el : (jGe p 0 && (jLt p (nI r) || (jEq p (nI r) && jEq (nI r) (nI k)))) = lst p r k := rfl
  refine wSeq (wS_l (by simp only [e_fI, e_fLd, e_fLr, e_fB, e_fD, e_fC, e_fT, e_fAnd, e_fOr, e_fNot, e_fCC, e_fIf, e_gI, e_gR, e_aI, e_aR, e_aN, e_cV, e_cS, e_fNil, e_fAi, e_fAr, e_sSeq, e_sSkip, e_sSt, e_sSr, e_sInc, e_sRI, e_sRR, e_sRV, e_sIf, e_sCall, e_sPI, e_sPZ, e_sPR, e_sPO, e_sAI, e_sAZ, e_sAO, e_sAR, e_sPopI, e_sPopR, e_sCopy, e_mI, e_mZ, e_mR, e_mV, jAdd_n, jMul_n, z0, z1, Option.bind_some, List.getElem?_cons_zero, List.getElem?_cons_succ, List.set_cons_zero, List.set_cons_succ, eq_self, if_true, ite_and, ite_or, ite_I, ite_bI, ite_bJ, bI_ne, bI_01, List.cons_append, List.nil_append, Bool.false_eq_true, if_false, gT26_0 h, f0, el]; rfl) ?_)
  refine wSeq (wS_l (by simp only [e_fI, e_fLd, e_fLr, e_fB, e_fD, e_fC, e_fT, e_fAnd, e_fOr, e_fNot, e_fCC, e_fIf, e_gI, e_gR, e_aI, e_aR, e_aN, e_cV, e_cS, e_fNil, e_fAi, e_fAr, e_sSeq, e_sSkip, e_sSt, e_sSr, e_sInc, e_sRI, e_sRR, e_sRV, e_sIf, e_sCall, e_sPI, e_sPZ, e_sPR, e_sPO, e_sAI, e_sAZ, e_sAO, e_sAR, e_sPopI, e_sPopR, e_sCopy, e_mI, e_mZ, e_mR, e_mV, jAdd_n, jMul_n, z0, z1, Option.bind_some, List.getElem?_cons_zero, List.getElem?_cons_succ, List.set_cons_zero, List.set_cons_succ, eq_self, if_true, ite_and, ite_or, ite_I, ite_bI, ite_bJ, bI_ne, bI_01, List.cons_append, List.nil_append, Bool.false_eq_true, if_false, ed]; rfl) ?_)
  refine wSeq (wSeq (wS_l (by simp only [e_fI, e_fLd, e_fLr, e_fB, e_fD, e_fC, e_fT, e_fAnd, e_fOr, e_fNot, e_fCC, e_fIf, e_gI, e_gR, e_aI, e_aR, e_aN, e_cV, e_cS, e_fNil, e_fAi, e_fAr, e_sSeq, e_sSkip, e_sSt, e_sSr, e_sInc, e_sRI, e_sRR, e_sRV, e_sIf, e_sCall, e_sPI, e_sPZ, e_sPR, e_sPO, e_sAI, e_sAZ, e_sAO, e_sAR, e_sPopI, e_sPopR, e_sCopy, e_mI, e_mZ, e_mR, e_mV, jAdd_n, jMul_n, z0, z1, Option.bind_some, List.getElem?_cons_zero, List.getElem?_cons_succ, List.set_cons_zero, List.set_cons_succ, eq_self, if_true, ite_and, ite_or, ite_I, ite_bI, ite_bJ, bI_ne, bI_01, List.cons_append, List.nil_append, Bool.false_eq_true, if_false]; rfl) ?_))
  refine wWh (I := fun s L H => ∃ τ x6, L = [some (.ref 26), some (.int (nI r)), some (.int p), some (.int (bI (lst p r k))), some (.int (nI (dng p r k))), some (.int (nI s)), x6] ∧ H = hs n τ ∧ FX (fun a i => TC k a i ∧ ¬ (a = 26 ∧ (i = 19 ∨ i = 20 ∨ i = 21))) ρ τ ∧ (∀ t, t < k → RR τ t ((runL A G z s).1 t)) ∧ (∀ e, e < z → RG τ (3 + e) ((runL A G z s).2 e))) (e := dng p r k) ?_ ?_ ?_ 600 0 _ _ (by omega) (by omega) ⟨ρ, _, rfl, rfl, FX.r _ ρ, hA1, hG1⟩
  · rintro s _ _ ⟨τ, x6, rfl, rfl, -⟩ hs'
    simp only [e_fI, e_fLd, e_fLr, e_fB, e_fD, e_fC, e_fT, e_fAnd, e_fOr, e_fNot, e_fCC, e_fIf, e_gI, e_gR, e_aI, e_aR, e_aN, e_cV, e_cS, e_fNil, e_fAi, e_fAr, e_sSeq, e_sSkip, e_sSt, e_sSr, e_sInc, e_sRI, e_sRR, e_sRV, e_sIf, e_sCall, e_sPI, e_sPZ, e_sPR, e_sPO, e_sAI, e_sAZ, e_sAO, e_sAR, e_sPopI, e_sPopR, e_sCopy, e_mI, e_mZ, e_mR, e_mV, jAdd_n, jMul_n, z0, z1, Option.bind_some, List.getElem?_cons_zero, List.getElem?_cons_succ, List.set_cons_zero, List.set_cons_succ, eq_self, if_true, ite_and, ite_or, ite_I, ite_bI, ite_bJ, bI_ne, bI_01, List.cons_append, List.nil_append, Bool.false_eq_true, if_false, jLt, nI_ltI (show s < 2 ^ 31 by omega) (show dng p r k < 2 ^ 31 by omega)]
  · rintro s _ _ ⟨τ, x6, rfl, rfl, hF, hR, hD⟩ hs'
    have ok := runL_ok (z := z) hok hg s (by omega)
    refine wSeq (wSeq (wS_l (by simp only [e_fI, e_fLd, e_fLr, e_fB, e_fD, e_fC, e_fT, e_fAnd, e_fOr, e_fNot, e_fCC, e_fIf, e_gI, e_gR, e_aI, e_aR, e_aN, e_cV, e_cS, e_fNil, e_fAi, e_fAr, e_sSeq, e_sSkip, e_sSt, e_sSr, e_sInc, e_sRI, e_sRR, e_sRV, e_sIf, e_sCall, e_sPI, e_sPZ, e_sPR, e_sPO, e_sAI, e_sAZ, e_sAO, e_sAR, e_sPopI, e_sPopR, e_sCopy, e_mI, e_mZ, e_mR, e_mV, jAdd_n, jMul_n, z0, z1, Option.bind_some, List.getElem?_cons_zero, List.getElem?_cons_succ, List.set_cons_zero, List.set_cons_succ, eq_self, if_true, ite_and, ite_or, ite_I, ite_bI, ite_bJ, bI_ne, bI_01, List.cons_append, List.nil_append, Bool.false_eq_true, if_false]; rfl) ?_))
    refine travel_in (k := k) (z := z) h (by omega) hk (by rw [hF 26 19 (fun q => q.2 ⟨rfl, Or.inl rfl⟩)]; exact f19) hz hR (ok.1 s (by omega)) (runL_F hof hok hg s (by omega) s (by omega)) hD ok.2 (fun τ' y6 hF' hR' hD' => ?_)
    refine wS_l (by simp only [e_fI, e_fLd, e_fLr, e_fB, e_fD, e_fC, e_fT, e_fAnd, e_fOr, e_fNot, e_fCC, e_fIf, e_gI, e_gR, e_aI, e_aR, e_aN, e_cV, e_cS, e_fNil, e_fAi, e_fAr, e_sSeq, e_sSkip, e_sSt, e_sSr, e_sInc, e_sRI, e_sRR, e_sRV, e_sIf, e_sCall, e_sPI, e_sPZ, e_sPR, e_sPO, e_sAI, e_sAZ, e_sAO, e_sAR, e_sPopI, e_sPopR, e_sCopy, e_mI, e_mZ, e_mR, e_mV, jAdd_n, jMul_n, z0, z1, Option.bind_some, List.getElem?_cons_zero, List.getElem?_cons_succ, List.set_cons_zero, List.set_cons_succ, eq_self, if_true, ite_and, ite_or, ite_I, ite_bI, ite_bJ, bI_ne, bI_01, List.cons_append, List.nil_append, Bool.false_eq_true, if_false, nI_add]; rfl) ?_
    exact ⟨τ', _, rfl, rfl, hF.t hF', hR', hD'⟩
  · rintro _ _ ⟨τ, x6, rfl, rfl, hF, hR, hD⟩
    have g0 : τ 26 0 = nI k := by rw [hF 26 0 (fun q => by have := q.1.n; omega)]; exact f0
    have g19 : τ 26 19 = nI z := by rw [hF 26 19 (fun q => q.2 ⟨rfl, Or.inl rfl⟩)]; exact f19
    have g21 : τ 26 21 = -1 := by rw [hF 26 21 (fun q => q.2 ⟨rfl, Or.inr (Or.inr rfl)⟩)]; exact f21
    have hF1 : FX (TC k) σ τ := (hF0.m (fun a i q => Or.inr (Or.inr (Or.inr (Or.inr (Or.inr ⟨q.1, Or.inr (Or.inr (Or.inl q.2))⟩)))))).t (hF.m (fun a i q => q.1))
    refine wSeq (wS_l (by simp only [e_fI, e_fLd, e_fLr, e_fB, e_fD, e_fC, e_fT, e_fAnd, e_fOr, e_fNot, e_fCC, e_fIf, e_gI, e_gR, e_aI, e_aR, e_aN, e_cV, e_cS, e_fNil, e_fAi, e_fAr, e_sSeq, e_sSkip, e_sSt, e_sSr, e_sInc, e_sRI, e_sRR, e_sRV, e_sIf, e_sCall, e_sPI, e_sPZ, e_sPR, e_sPO, e_sAI, e_sAZ, e_sAO, e_sAR, e_sPopI, e_sPopR, e_sCopy, e_mI, e_mZ, e_mR, e_mV, jAdd_n, jMul_n, z0, z1, Option.bind_some, List.getElem?_cons_zero, List.getElem?_cons_succ, List.set_cons_zero, List.set_cons_succ, eq_self, if_true, ite_and, ite_or, ite_I, ite_bI, ite_bJ, bI_ne, bI_01, List.cons_append, List.nil_append, Bool.false_eq_true, if_false, gT26_0 h, g0, rtn_r (p := p) hk hrk]; rfl) ?_)
    generalize hW : runL A G z (dng p r k) = W at hR hD ⊢
    have eb : (if rtn p r k = true then nI z else nI 0) = nI (if rtn p r k = true then z else 0) := by split <;> rfl
    refine wSeq (wS_l (by simp only [e_fI, e_fLd, e_fLr, e_fB, e_fD, e_fC, e_fT, e_fAnd, e_fOr, e_fNot, e_fCC, e_fIf, e_gI, e_gR, e_aI, e_aR, e_aN, e_cV, e_cS, e_fNil, e_fAi, e_fAr, e_sSeq, e_sSkip, e_sSt, e_sSr, e_sInc, e_sRI, e_sRR, e_sRV, e_sIf, e_sCall, e_sPI, e_sPZ, e_sPR, e_sPO, e_sAI, e_sAZ, e_sAO, e_sAR, e_sPopI, e_sPopR, e_sCopy, e_mI, e_mZ, e_mR, e_mV, jAdd_n, jMul_n, z0, z1, Option.bind_some, List.getElem?_cons_zero, List.getElem?_cons_succ, List.set_cons_zero, List.set_cons_succ, eq_self, if_true, ite_and, ite_or, ite_I, ite_bI, ite_bJ, bI_ne, bI_01, List.cons_append, List.nil_append, Bool.false_eq_true, if_false, kT26 h, gT26_19 h, g19, eb, pT26_20 h]; rfl) ?_)
    generalize hzb : (if rtn p r k = true then z else 0) = zb
    have hzb3 : zb ≤ 3 ∧ zb ≤ z := by rw [← hzb]; split <;> omega
    have hF2 : FX (fun a i => a = 26 ∧ i = 20) τ (up τ 26 20 (nI zb)) := (FX.r _ τ).u ⟨rfl, rfl⟩
    have g20 : up τ 26 20 (nI zb) 26 20 = nI zb := rfl
    have g21' : up τ 26 20 (nI zb) 26 21 = -1 := g21
    generalize up τ 26 20 (nI zb) = υ at hF2 g20 g21' ⊢
    have hR2 : ∀ t, t < k → RR υ t (W.1 t) := fun t ht => (hR t ht).o hF2 (fun a i q k => by have := q.b; omega)
    have hD2 : ∀ e, e < z → RG υ (3 + e) (W.2 e) := fun e he => (hD e he).o hF2 (fun a i q k => by rcases q with q | q <;> omega)
    have hF3 : FX (TC k) σ υ := hF1.t (hF2.m (fun a i q => Or.inr (Or.inr (Or.inr (Or.inr (Or.inr ⟨q.1, Or.inr (Or.inl q.2)⟩))))))
    refine wSeq (wSeq (wS_l (by simp only [e_fI, e_fLd, e_fLr, e_fB, e_fD, e_fC, e_fT, e_fAnd, e_fOr, e_fNot, e_fCC, e_fIf, e_gI, e_gR, e_aI, e_aR, e_aN, e_cV, e_cS, e_fNil, e_fAi, e_fAr, e_sSeq, e_sSkip, e_sSt, e_sSr, e_sInc, e_sRI, e_sRR, e_sRV, e_sIf, e_sCall, e_sPI, e_sPZ, e_sPR, e_sPO, e_sAI, e_sAZ, e_sAO, e_sAR, e_sPopI, e_sPopR, e_sCopy, e_mI, e_mZ, e_mR, e_mV, jAdd_n, jMul_n, z0, z1, Option.bind_some, List.getElem?_cons_zero, List.getElem?_cons_succ, List.set_cons_zero, List.set_cons_succ, eq_self, if_true, ite_and, ite_or, ite_I, ite_bI, ite_bJ, bI_ne, bI_01, List.cons_append, List.nil_append, Bool.false_eq_true, if_false]; rfl) ?_))
    refine wWh (I := fun d L H => ∃ ω, L = [some (.ref 26), some (.int (nI r)), some (.int p), some (.int (bI (lst p r k))), some (.int (nI (dng p r k))), some (.int (bI (rtn p r k))), some (.int (nI d))] ∧ H = hs n ω ∧ (∀ e, e < d → RG ω (6 + e) (W.2 e)) ∧ FX (fun a i => ∃ e, e < 3 ∧ DC (6 + e) a i) υ ω) (e := zb) ?_ ?_ ?_ 600 0 _ _ (by omega) (by omega) ⟨υ, rfl, rfl, fun e he => by omega, FX.r _ υ⟩
    · rintro d _ _ ⟨ω, rfl, rfl, -, hFw⟩ hi
      have : ω 26 20 = nI zb := by rw [hFw 26 20 (fun ⟨e, _, q⟩ => by rcases q with q | q <;> omega)]; exact g20
      simp only [e_fI, e_fLd, e_fLr, e_fB, e_fD, e_fC, e_fT, e_fAnd, e_fOr, e_fNot, e_fCC, e_fIf, e_gI, e_gR, e_aI, e_aR, e_aN, e_cV, e_cS, e_fNil, e_fAi, e_fAr, e_sSeq, e_sSkip, e_sSt, e_sSr, e_sInc, e_sRI, e_sRR, e_sRV, e_sIf, e_sCall, e_sPI, e_sPZ, e_sPR, e_sPO, e_sAI, e_sAZ, e_sAO, e_sAR, e_sPopI, e_sPopR, e_sCopy, e_mI, e_mZ, e_mR, e_mV, jAdd_n, jMul_n, z0, z1, Option.bind_some, List.getElem?_cons_zero, List.getElem?_cons_succ, List.set_cons_zero, List.set_cons_succ, eq_self, if_true, ite_and, ite_or, ite_I, ite_bI, ite_bJ, bI_ne, bI_01, List.cons_append, List.nil_append, Bool.false_eq_true, if_false, gT26_20 h, this, jLt, nI_ltI (show d < 2 ^ 31 by omega) (show zb < 2 ^ 31 by omega)]
    · rintro d _ _ ⟨ω, rfl, rfl, hGw, hFw⟩ hi
      obtain ⟨ω', e, r1, r2⟩ := q_R_copyGram (d := 3 + d) (e := 6 + d) h (by omega) (by omega) (by omega) ((hD2 d (by omega)).o hFw (fun a i q ⟨e, he, k⟩ => by rcases q with q | q <;> rcases k with k | k <;> omega))
      refine wSeq (wS_l (by simp only [e_fI, e_fLd, e_fLr, e_fB, e_fD, e_fC, e_fT, e_fAnd, e_fOr, e_fNot, e_fCC, e_fIf, e_gI, e_gR, e_aI, e_aR, e_aN, e_cV, e_cS, e_fNil, e_fAi, e_fAr, e_sSeq, e_sSkip, e_sSt, e_sSr, e_sInc, e_sRI, e_sRR, e_sRV, e_sIf, e_sCall, e_sPI, e_sPZ, e_sPR, e_sPO, e_sAI, e_sAZ, e_sAO, e_sAR, e_sPopI, e_sPopR, e_sCopy, e_mI, e_mZ, e_mR, e_mV, jAdd_n, jMul_n, z0, z1, Option.bind_some, List.getElem?_cons_zero, List.getElem?_cons_succ, List.set_cons_zero, List.set_cons_succ, eq_self, if_true, ite_and, ite_or, ite_I, ite_bI, ite_bJ, bI_ne, bI_01, List.cons_append, List.nil_append, Bool.false_eq_true, if_false, kT26 h, e]; rfl) ?_)
      refine wS_l (by simp only [e_fI, e_fLd, e_fLr, e_fB, e_fD, e_fC, e_fT, e_fAnd, e_fOr, e_fNot, e_fCC, e_fIf, e_gI, e_gR, e_aI, e_aR, e_aN, e_cV, e_cS, e_fNil, e_fAi, e_fAr, e_sSeq, e_sSkip, e_sSt, e_sSr, e_sInc, e_sRI, e_sRR, e_sRV, e_sIf, e_sCall, e_sPI, e_sPZ, e_sPR, e_sPO, e_sAI, e_sAZ, e_sAO, e_sAR, e_sPopI, e_sPopR, e_sCopy, e_mI, e_mZ, e_mR, e_mV, jAdd_n, jMul_n, z0, z1, Option.bind_some, List.getElem?_cons_zero, List.getElem?_cons_succ, List.set_cons_zero, List.set_cons_succ, eq_self, if_true, ite_and, ite_or, ite_I, ite_bI, ite_bJ, bI_ne, bI_01, List.cons_append, List.nil_append, Bool.false_eq_true, if_false, nI_add]; rfl) ?_
      refine ⟨ω', rfl, rfl, fun e' he => ?_, hFw.t (r2.m (fun a i q => ⟨d, by omega, q⟩))⟩
      by_cases q : e' = d
      · rw [q]; exact r1
      · exact (hGw e' (by omega)).o r2 (fun a i k1 k2 => by rcases k1 with k1 | k1 <;> rcases k2 with k2 | k2 <;> omega)
    · rintro _ _ ⟨ω, rfl, rfl, hGw, hFw⟩
      refine wSeq (wS_l (by simp only [e_fI, e_fLd, e_fLr, e_fB, e_fD, e_fC, e_fT, e_fAnd, e_fOr, e_fNot, e_fCC, e_fIf, e_gI, e_gR, e_aI, e_aR, e_aN, e_cV, e_cS, e_fNil, e_fAi, e_fAr, e_sSeq, e_sSkip, e_sSt, e_sSr, e_sInc, e_sRI, e_sRR, e_sRV, e_sIf, e_sCall, e_sPI, e_sPZ, e_sPR, e_sPO, e_sAI, e_sAZ, e_sAO, e_sAR, e_sPopI, e_sPopR, e_sCopy, e_mI, e_mZ, e_mR, e_mV, jAdd_n, jMul_n, z0, z1, Option.bind_some, List.getElem?_cons_zero, List.getElem?_cons_succ, List.set_cons_zero, List.set_cons_succ, eq_self, if_true, ite_and, ite_or, ite_I, ite_bI, ite_bJ, bI_ne, bI_01, List.cons_append, List.nil_append, Bool.false_eq_true, if_false, kT26 h, pT26_19 h]; rfl) ?_)
      have hF4 : FX (fun a i => a = 26 ∧ i = 19) ω (up ω 26 19 (nI 0)) := (FX.r _ ω).u ⟨rfl, rfl⟩
      have nw : ∀ i, (fun a i => ∃ e, e < 3 ∧ DC (6 + e) a i) 26 i → False := fun i ⟨e, _, q⟩ => by rcases q with q | q <;> omega
      have w20 : up ω 26 19 (nI 0) 26 20 = nI zb := by
        rw [hF4 26 20 (by omega), hFw 26 20 (nw 20)]
        exact g20
      have w21 : up ω 26 19 (nI 0) 26 21 = -1 := by
        rw [hF4 26 21 (by omega), hFw 26 21 (nw 21)]
        exact g21'
      refine wS_r rfl ⟨rfl, _, rfl, (hF3.t (hFw.m (fun a i ⟨e, _, q⟩ => TC.d (by omega) q))).t (hF4.m (fun a i q => Or.inr (Or.inr (Or.inr (Or.inr (Or.inr ⟨q.1, Or.inl q.2⟩)))))), fun t ht => ?_, fun hq e he => ?_, w20, w21⟩
      · exact ((hR2 t ht).o hFw (fun a i q ⟨e, _, k⟩ => by have := q.b; rcases k with k | k <;> omega)).o hF4 (fun a i q k => by have := q.b; omega)
      · rw [hq, if_pos rfl] at hzb
        exact (hGw e (by omega)).o hF4 (fun a i q k => by rcases q with q | q <;> omega)
end TRV
