/-! setup, the reference's side -/
section SKC
variable {n : Nat} {σ τ : sg} {w u : wd}
theorem CP0.m {P : Nat → Nat → Prop} (h : CP0 σ w) (hF : FX P σ τ) (hP : ∀ a i, P a i → a = 26 ∧ 32 ≤ i ∨ 52 ≤ a) : CP0 τ w := by
  obtain ⟨⟨a1, a2, a3, a4⟩, h2, h3, h4, h5, h6⟩ := h
  have z : ∀ a i, a < 52 → ¬ (a = 26 ∧ 32 ≤ i) → τ a i = σ a i := fun a i g1 g2 => hF a i (fun k => by have := hP a i k; omega)
  have rr : ∀ t A, RR σ t A → RR τ t A := fun t A q => q.o hF (fun a i k1 k2 => by have := k1.b; have := hP a i k2; omega)
  have rg : ∀ d G, RG σ d G → RG τ d G := fun d G q => q.o hF (fun a i k1 k2 => by have := hP a i k2; rcases k1 with k1 | k1 <;> omega)
  refine ⟨⟨by rw [z 26 0 (by omega) (by omega)]; exact a1, by rw [z 26 18 (by omega) (by omega)]; exact a2, by rw [z 26 21 (by omega) (by omega)]; exact a3, fun i hi => by rw [z 29 i (by omega) (by omega)]; exact a4 i hi⟩, by rw [z 26 20 (by omega) (by omega)]; exact h2, fun t ht => ?_, fun t g1 g2 => ?_, fun e he => rg _ _ (h5 e he), fun q e he => rg _ _ (h6 q e he)⟩
  · obtain ⟨r, m, c, hm, ha⟩ := h3 t ht
    refine ⟨rr _ _ r, m, c, ?_, ha⟩
    unfold MD
    rw [z 34 t (by omega) (by omega), z 35 t (by omega) (by omega), z 36 t (by omega) (by omega)]
    exact hm
  · obtain ⟨r, e5, e6⟩ := h4 t g1 g2
    rw [z 35 t (by omega) (by omega), z 36 t (by omega) (by omega)]
    exact ⟨rr _ _ r, e5, e6⟩
def EC (k a i : Nat) : Prop := TC k a i ∨ PC a i
theorem EC.nb {k a i : Nat} (h : EC k a i) : 26 ≤ a ∧ a ≤ 51 ∧ (a = 26 → i < 32) := by
  rcases h with h | h
  · have := h.n; omega
  · unfold PC at h; omega
theorem DCo {d e : Nat} {G : sg} (h : RG σ d G) (hF : FX (DC e) σ τ) (hne : d ≠ e) : RG τ d G := h.o hF (fun a i k1 k2 => by rcases k1 with k1 | k1 <;> rcases k2 with k2 | k2 <;> omega)
theorem q_R_equip {k o i p : Nat} (h : okB n) (hR : CP0 σ u) (hu : okW u) (hk : k < 6) (ho : o ≤ 2) (hi : i ≤ 2) (hp : p < 100) (c52 : σ 52 k = nI p) (c53 : σ 53 k = nI (p + o)) (c54 : σ 54 k = nI o) (c55 : σ 55 k = nI i) : ∃ τ, G_R_equip [.ref 26, .int (nI k)] (hs n σ) = some (bI (gd1 u k o i p && gd2 u k o i p), hs n τ) ∧ CP0 τ (st2 u k o i p) ∧ FX (EC (kW u)) σ τ := by
  have hy := hu.y.2
  refine mZ_t (Nat.le_of_ble_eq_true rfl) ?_
  simp only [jx_L0, List.map_cons, List.map_nil, List.length_cons, List.length_nil, Nat.reduceAdd, Nat.reduceSub, List.replicate, List.cons_append, List.nil_append]
  unfold P_R_equip
  refine wSeq (wS_l (by simp only [e_fI, e_fLd, e_fLr, e_fB, e_fD, e_fC, e_fT, e_fAnd, e_fOr, e_fNot, e_fCC, e_fIf, e_gI, e_gR, e_aI, e_aR, e_aN, e_cV, e_cS, e_fNil, e_fAi, e_fAr, e_sSeq, e_sSkip, e_sSt, e_sSr, e_sInc, e_sRI, e_sRR, e_sRV, e_sIf, e_sCall, e_sPI, e_sPZ, e_sPR, e_sPO, e_sAI, e_sAZ, e_sAO, e_sAR, e_sPopI, e_sPopR, e_sCopy, e_mI, e_mZ, e_mR, e_mV, jAdd_n, jMul_n, z0, z1, Option.bind_some, List.getElem?_cons_zero, List.getElem?_cons_succ, List.set_cons_zero, List.set_cons_succ, eq_self, if_true, ite_and, ite_or, ite_I, ite_bI, ite_bJ, bI_ne, bI_01, List.cons_append, List.nil_append, Bool.false_eq_true, if_false, gT26_37 h, iT54 h hk, c54]; rfl) ?_)
  refine wSeq (wS_l (by simp only [e_fI, e_fLd, e_fLr, e_fB, e_fD, e_fC, e_fT, e_fAnd, e_fOr, e_fNot, e_fCC, e_fIf, e_gI, e_gR, e_aI, e_aR, e_aN, e_cV, e_cS, e_fNil, e_fAi, e_fAr, e_sSeq, e_sSkip, e_sSt, e_sSr, e_sInc, e_sRI, e_sRR, e_sRV, e_sIf, e_sCall, e_sPI, e_sPZ, e_sPR, e_sPO, e_sAI, e_sAZ, e_sAO, e_sAR, e_sPopI, e_sPopR, e_sCopy, e_mI, e_mZ, e_mR, e_mV, jAdd_n, jMul_n, z0, z1, Option.bind_some, List.getElem?_cons_zero, List.getElem?_cons_succ, List.set_cons_zero, List.set_cons_succ, eq_self, if_true, ite_and, ite_or, ite_I, ite_bI, ite_bJ, bI_ne, bI_01, List.cons_append, List.nil_append, Bool.false_eq_true, if_false, gT26_38 h, iT55 h hk, c55]; rfl) ?_)
  -- the mailbox
  obtain ⟨τ1, a1, g1, f1⟩ := q_R_gram (σ := σ) (d := 3) (c := nI 5) (a := nI (k + 1)) (o := nI 32) (l := nI 8) h (by omega)
  refine wSeq (wS_l (by simp only [e_fI, e_fLd, e_fLr, e_fB, e_fD, e_fC, e_fT, e_fAnd, e_fOr, e_fNot, e_fCC, e_fIf, e_gI, e_gR, e_aI, e_aR, e_aN, e_cV, e_cS, e_fNil, e_fAi, e_fAr, e_sSeq, e_sSkip, e_sSt, e_sSr, e_sInc, e_sRI, e_sRR, e_sRV, e_sIf, e_sCall, e_sPI, e_sPZ, e_sPR, e_sPO, e_sAI, e_sAZ, e_sAO, e_sAR, e_sPopI, e_sPopR, e_sCopy, e_mI, e_mZ, e_mR, e_mV, jAdd_n, jMul_n, z0, z1, Option.bind_some, List.getElem?_cons_zero, List.getElem?_cons_succ, List.set_cons_zero, List.set_cons_succ, eq_self, if_true, ite_and, ite_or, ite_I, ite_bI, ite_bJ, bI_ne, bI_01, List.cons_append, List.nil_append, Bool.false_eq_true, if_false, kT26 h, a1]; rfl) ?_)
  obtain ⟨τ2, a2, g2, f2⟩ := q_R_six (a := nI 64) (b := nI 6) (c := nI 3) (e := nI 1) (f := nI 72) (g := nI 6) h (by omega) g1
  refine wSeq (wS_l (by simp only [e_fI, e_fLd, e_fLr, e_fB, e_fD, e_fC, e_fT, e_fAnd, e_fOr, e_fNot, e_fCC, e_fIf, e_gI, e_gR, e_aI, e_aR, e_aN, e_cV, e_cS, e_fNil, e_fAi, e_fAr, e_sSeq, e_sSkip, e_sSt, e_sSr, e_sInc, e_sRI, e_sRR, e_sRV, e_sIf, e_sCall, e_sPI, e_sPZ, e_sPR, e_sPO, e_sAI, e_sAZ, e_sAO, e_sAR, e_sPopI, e_sPopR, e_sCopy, e_mI, e_mZ, e_mR, e_mV, jAdd_n, jMul_n, z0, z1, Option.bind_some, List.getElem?_cons_zero, List.getElem?_cons_succ, List.set_cons_zero, List.set_cons_succ, eq_self, if_true, ite_and, ite_or, ite_I, ite_bI, ite_bJ, bI_ne, bI_01, List.cons_append, List.nil_append, Bool.false_eq_true, if_false, kT26 h, a2]; rfl) ?_)
  refine wSeq (wS_l (by simp only [e_fI, e_fLd, e_fLr, e_fB, e_fD, e_fC, e_fT, e_fAnd, e_fOr, e_fNot, e_fCC, e_fIf, e_gI, e_gR, e_aI, e_aR, e_aN, e_cV, e_cS, e_fNil, e_fAi, e_fAr, e_sSeq, e_sSkip, e_sSt, e_sSr, e_sInc, e_sRI, e_sRR, e_sRV, e_sIf, e_sCall, e_sPI, e_sPZ, e_sPR, e_sPO, e_sAI, e_sAZ, e_sAO, e_sAR, e_sPopI, e_sPopR, e_sCopy, e_mI, e_mZ, e_mR, e_mV, jAdd_n, jMul_n, z0, z1, Option.bind_some, List.getElem?_cons_zero, List.getElem?_cons_succ, List.set_cons_zero, List.set_cons_succ, eq_self, if_true, ite_and, ite_or, ite_I, ite_bI, ite_bJ, bI_ne, bI_01, List.cons_append, List.nil_append, Bool.false_eq_true, if_false, gT26_27 h, wT49 h (show 30 < 72 by omega)]; rfl) ?_)
  refine wSeq (wS_l (by simp only [e_fI, e_fLd, e_fLr, e_fB, e_fD, e_fC, e_fT, e_fAnd, e_fOr, e_fNot, e_fCC, e_fIf, e_gI, e_gR, e_aI, e_aR, e_aN, e_cV, e_cS, e_fNil, e_fAi, e_fAr, e_sSeq, e_sSkip, e_sSt, e_sSr, e_sInc, e_sRI, e_sRR, e_sRV, e_sIf, e_sCall, e_sPI, e_sPZ, e_sPR, e_sPO, e_sAI, e_sAZ, e_sAO, e_sAR, e_sPopI, e_sPopR, e_sCopy, e_mI, e_mZ, e_mR, e_mV, jAdd_n, jMul_n, z0, z1, Option.bind_some, List.getElem?_cons_zero, List.getElem?_cons_succ, List.set_cons_zero, List.set_cons_succ, eq_self, if_true, ite_and, ite_or, ite_I, ite_bI, ite_bJ, bI_ne, bI_01, List.cons_append, List.nil_append, Bool.false_eq_true, if_false, gT26_27 h, wT49 h (show 31 < 72 by omega)]; rfl) ?_)
  have g3 : RG (up (up τ2 49 30 (nI 1)) 49 31 (nI 1)) 3 (e0G k) := (g2.u1 (i := 6)).u1 (i := 7)
  have F3 : FX PC σ (up (up τ2 49 30 (nI 1)) 49 31 (nI 1)) := FX.u (FX.u ((f1.d (by omega) (by omega)).t (f2.d (by omega) (by omega))) (Or.inr (Or.inl (by omega)))) (Or.inr (Or.inl (by omega)))
  generalize up (up τ2 49 30 (nI 1)) 49 31 (nI 1) = τ3 at g3 F3 ⊢
  -- the process data
  obtain ⟨τ4, a4, g4, f4⟩ := q_R_gram (σ := τ3) (d := 4) (c := nI 5) (a := nI (k + 1)) (o := nI 40) (l := nI 8) h (by omega)
  refine wSeq (wS_l (by simp only [e_fI, e_fLd, e_fLr, e_fB, e_fD, e_fC, e_fT, e_fAnd, e_fOr, e_fNot, e_fCC, e_fIf, e_gI, e_gR, e_aI, e_aR, e_aN, e_cV, e_cS, e_fNil, e_fAi, e_fAr, e_sSeq, e_sSkip, e_sSt, e_sSr, e_sInc, e_sRI, e_sRR, e_sRV, e_sIf, e_sCall, e_sPI, e_sPZ, e_sPR, e_sPO, e_sAI, e_sAZ, e_sAO, e_sAR, e_sPopI, e_sPopR, e_sCopy, e_mI, e_mZ, e_mR, e_mV, jAdd_n, jMul_n, z0, z1, Option.bind_some, List.getElem?_cons_zero, List.getElem?_cons_succ, List.set_cons_zero, List.set_cons_succ, eq_self, if_true, ite_and, ite_or, ite_I, ite_bI, ite_bJ, bI_ne, bI_01, List.cons_append, List.nil_append, Bool.false_eq_true, if_false, kT26 h, a4]; rfl) ?_)
  obtain ⟨τ5, a5, g5, f5⟩ := q_R_six (a := nI 80) (b := nI o) (c := nI 2) (e := bI (jGt (nI o) 0)) (f := nI 96) (g := nI i) h (by omega) g4
  refine wSeq (wS_l (by simp only [e_fI, e_fLd, e_fLr, e_fB, e_fD, e_fC, e_fT, e_fAnd, e_fOr, e_fNot, e_fCC, e_fIf, e_gI, e_gR, e_aI, e_aR, e_aN, e_cV, e_cS, e_fNil, e_fAi, e_fAr, e_sSeq, e_sSkip, e_sSt, e_sSr, e_sInc, e_sRI, e_sRR, e_sRV, e_sIf, e_sCall, e_sPI, e_sPZ, e_sPR, e_sPO, e_sAI, e_sAZ, e_sAO, e_sAR, e_sPopI, e_sPopR, e_sCopy, e_mI, e_mZ, e_mR, e_mV, jAdd_n, jMul_n, z0, z1, Option.bind_some, List.getElem?_cons_zero, List.getElem?_cons_succ, List.set_cons_zero, List.set_cons_succ, eq_self, if_true, ite_and, ite_or, ite_I, ite_bI, ite_bJ, bI_ne, bI_01, List.cons_append, List.nil_append, Bool.false_eq_true, if_false, kT26 h, a5]; rfl) ?_)
  refine wSeq (wS_l (by simp only [e_fI, e_fLd, e_fLr, e_fB, e_fD, e_fC, e_fT, e_fAnd, e_fOr, e_fNot, e_fCC, e_fIf, e_gI, e_gR, e_aI, e_aR, e_aN, e_cV, e_cS, e_fNil, e_fAi, e_fAr, e_sSeq, e_sSkip, e_sSt, e_sSr, e_sInc, e_sRI, e_sRR, e_sRV, e_sIf, e_sCall, e_sPI, e_sPZ, e_sPR, e_sPO, e_sAI, e_sAZ, e_sAO, e_sAR, e_sPopI, e_sPopR, e_sCopy, e_mI, e_mZ, e_mR, e_mV, jAdd_n, jMul_n, z0, z1, Option.bind_some, List.getElem?_cons_zero, List.getElem?_cons_succ, List.set_cons_zero, List.set_cons_succ, eq_self, if_true, ite_and, ite_or, ite_I, ite_bI, ite_bJ, bI_ne, bI_01, List.cons_append, List.nil_append, Bool.false_eq_true, if_false, gT26_27 h, wT49 h (show 38 < 72 by omega)]; rfl) ?_)
  refine wSeq (wS_l (by simp only [e_fI, e_fLd, e_fLr, e_fB, e_fD, e_fC, e_fT, e_fAnd, e_fOr, e_fNot, e_fCC, e_fIf, e_gI, e_gR, e_aI, e_aR, e_aN, e_cV, e_cS, e_fNil, e_fAi, e_fAr, e_sSeq, e_sSkip, e_sSt, e_sSr, e_sInc, e_sRI, e_sRR, e_sRV, e_sIf, e_sCall, e_sPI, e_sPZ, e_sPR, e_sPO, e_sAI, e_sAZ, e_sAO, e_sAR, e_sPopI, e_sPopR, e_sCopy, e_mI, e_mZ, e_mR, e_mV, jAdd_n, jMul_n, z0, z1, Option.bind_some, List.getElem?_cons_zero, List.getElem?_cons_succ, List.set_cons_zero, List.set_cons_succ, eq_self, if_true, ite_and, ite_or, ite_I, ite_bI, ite_bJ, bI_ne, bI_01, List.cons_append, List.nil_append, Bool.false_eq_true, if_false, gT26_27 h, wT49 h (show 39 < 72 by omega)]; rfl) ?_)
  have g6 : RG (up (up τ5 49 38 (nI 0)) 49 39 (bI (jGt (nI i) 0))) 4 (e1G k o i) := (g5.u1 (i := 6)).u1 (i := 7)
  have f6 : FX (DC 4) τ3 (up (up τ5 49 38 (nI 0)) 49 39 (bI (jGt (nI i) 0))) := FX.u (FX.u (f4.t f5) (Or.inr ⟨rfl, by omega⟩)) (Or.inr ⟨rfl, by omega⟩)
  generalize up (up τ5 49 38 (nI 0)) 49 39 (bI (jGt (nI i) 0)) = τ6 at g6 f6 ⊢
  have g36 := DCo g3 f6 (by omega)
  have F6 : FX PC σ τ6 := F3.t (f6.d (by omega) (by omega))
  -- the map
  obtain ⟨τ7, a7, g7, f7⟩ := q_R_gram (σ := τ6) (d := 5) (c := nI 5) (a := nI (k + 1)) (o := nI 8) (l := nI 6) h (by omega)
  refine wSeq (wS_l (by simp only [e_fI, e_fLd, e_fLr, e_fB, e_fD, e_fC, e_fT, e_fAnd, e_fOr, e_fNot, e_fCC, e_fIf, e_gI, e_gR, e_aI, e_aR, e_aN, e_cV, e_cS, e_fNil, e_fAi, e_fAr, e_sSeq, e_sSkip, e_sSt, e_sSr, e_sInc, e_sRI, e_sRR, e_sRV, e_sIf, e_sCall, e_sPI, e_sPZ, e_sPR, e_sPO, e_sAI, e_sAZ, e_sAO, e_sAR, e_sPopI, e_sPopR, e_sCopy, e_mI, e_mZ, e_mR, e_mV, jAdd_n, jMul_n, z0, z1, Option.bind_some, List.getElem?_cons_zero, List.getElem?_cons_succ, List.set_cons_zero, List.set_cons_succ, eq_self, if_true, ite_and, ite_or, ite_I, ite_bI, ite_bJ, bI_ne, bI_01, List.cons_append, List.nil_append, Bool.false_eq_true, if_false, kT26 h, a7]; rfl) ?_)
  obtain ⟨τ8, a8, g8, f8⟩ := q_R_six (a := nI p) (b := nI 0) (c := nI (8 * o)) (e := nI 80) (f := nI 0) (g := nI 2) h (by omega) g7
  have k52 : τ7 52 k = nI p := by rw [f7 52 k (fun q => by rcases q with q | q <;> omega), F6 52 k (fun q => by unfold PC at q; omega)]; exact c52
  refine wSeq (wS_l (by simp only [e_fI, e_fLd, e_fLr, e_fB, e_fD, e_fC, e_fT, e_fAnd, e_fOr, e_fNot, e_fCC, e_fIf, e_gI, e_gR, e_aI, e_aR, e_aN, e_cV, e_cS, e_fNil, e_fAi, e_fAr, e_sSeq, e_sSkip, e_sSt, e_sSr, e_sInc, e_sRI, e_sRR, e_sRV, e_sIf, e_sCall, e_sPI, e_sPZ, e_sPR, e_sPO, e_sAI, e_sAZ, e_sAO, e_sAR, e_sPopI, e_sPopR, e_sCopy, e_mI, e_mZ, e_mR, e_mV, jAdd_n, jMul_n, z0, z1, Option.bind_some, List.getElem?_cons_zero, List.getElem?_cons_succ, List.set_cons_zero, List.set_cons_succ, eq_self, if_true, ite_and, ite_or, ite_I, ite_bI, ite_bJ, bI_ne, bI_01, List.cons_append, List.nil_append, Bool.false_eq_true, if_false, kT26 h, gT26_35 h, iT52 h hk, k52, a8]; rfl) ?_)
  have F8 : FX PC σ τ8 := F6.t ((f7.t f8).d (by omega) (by omega))
  have g38 := DCo g36 (f7.t f8) (by omega)
  have g48 := DCo g6 (f7.t f8) (by omega)
  refine wSeq (wS_l (by simp only [e_fI, e_fLd, e_fLr, e_fB, e_fD, e_fC, e_fT, e_fAnd, e_fOr, e_fNot, e_fCC, e_fIf, e_gI, e_gR, e_aI, e_aR, e_aN, e_cV, e_cS, e_fNil, e_fAi, e_fAr, e_sSeq, e_sSkip, e_sSt, e_sSr, e_sInc, e_sRI, e_sRR, e_sRV, e_sIf, e_sCall, e_sPI, e_sPZ, e_sPR, e_sPO, e_sAI, e_sAZ, e_sAO, e_sAR, e_sPopI, e_sPopR, e_sCopy, e_mI, e_mZ, e_mR, e_mV, jAdd_n, jMul_n, z0, z1, Option.bind_some, List.getElem?_cons_zero, List.getElem?_cons_succ, List.set_cons_zero, List.set_cons_succ, eq_self, if_true, ite_and, ite_or, ite_I, ite_bI, ite_bJ, bI_ne, bI_01, List.cons_append, List.nil_append, Bool.false_eq_true, if_false, pT26_19 h]; rfl) ?_)
  have F9 : FX PC σ (up τ8 26 19 (nI 3)) := F8.u (Or.inr (Or.inr ⟨rfl, rfl⟩))
  have o26 : ∀ d G, RG τ8 d G → RG (up τ8 26 19 (nI 3)) d G := fun d G q => q.o ((FX.r (fun a _ => a = 26) τ8).u rfl) (fun a i q k => by rcases q with q | q <;> omega)
  obtain ⟨υ, et, q1, q2⟩ := r_travel0 (z := 3) (G := chF k o i p) h (hR.p F9 hy) hu (fun e he => by
    unfold chF
    rcases (show e = 0 ∨ e = 1 ∨ e = 2 by omega) with rfl | rfl | rfl
    · rw [if_pos rfl]
      exact o26 _ _ g38
    · rw [if_neg (by omega), if_pos rfl]
      exact o26 _ _ g48
    · rw [if_neg (by omega), if_neg (by omega)]
      exact o26 _ _ g8) (fun e he => chF_ok (by omega) ho hi (by omega) e) rfl (by omega)
  have q1' : CP0 υ (st1 u k o i p) := q1
  have ok1 : okW (st1 u k o i p) := st1_ok hu (by omega) ho hi (by omega)
  have eb1 : tW u = bW (st1 u k o i p) := (bW_s (w := frW u 3 (chF k o i p))).symm
  have z3 : zW (st1 u k o i p) = 3 := zW_sf (by omega)
  rw [eb1] at et
  have F10 : FX (EC (kW u)) σ υ := (F9.m (fun _ _ => Or.inr)).t (q2.m (fun _ _ => Or.inl))
  have hg1 : (List.range 3).all (fun e => jEq ((st1 u k o i p).2.2.1 e 0 4) (nI 1)) = (jEq ((st1 u k o i p).2.2.1 0 0 4) (nI 1) && jEq ((st1 u k o i p).2.2.1 1 0 4) (nI 1) && jEq ((st1 u k o i p).2.2.1 2 0 4) (nI 1)) := by
    show (jEq _ _ && (jEq _ _ && (jEq _ _ && true))) = _
    rw [Bool.and_true, Bool.and_assoc]
  have step1 : ∀ (L : hp_L), L[0]? = some (some (.ref 26)) → fAnd (fAnd (fAnd (fT (cV 8 (fAr (fLr 0) (fNil)) G_R_travel)) (fC jEq (aI 50 (gR 8 26 (fLr 0)) (fI (nI 6))) (fI (nI 1)))) (fC jEq (aI 50 (gR 8 26 (fLr 0)) (fI (nI 7))) (fI (nI 1)))) (fC jEq (aI 50 (gR 8 26 (fLr 0)) (fI (nI 8))) (fI (nI 1))) L (hs n (up τ8 26 19 (nI 3))) = some (gd1 u k o i p, hs n υ) := fun L hL => by
    unfold gd1
    rw [hg1]
    cases b : bW (st1 u k o i p) with
    | false =>
      rw [b] at et
      simp only [e_fI, e_fLd, e_fLr, e_fB, e_fD, e_fC, e_fT, e_fAnd, e_fOr, e_fNot, e_fCC, e_fIf, e_gI, e_gR, e_aI, e_aR, e_aN, e_cV, e_cS, e_fNil, e_fAi, e_fAr, e_sSeq, e_sSkip, e_sSt, e_sSr, e_sInc, e_sRI, e_sRR, e_sRV, e_sIf, e_sCall, e_sPI, e_sPZ, e_sPR, e_sPO, e_sAI, e_sAZ, e_sAO, e_sAR, e_sPopI, e_sPopR, e_sCopy, e_mI, e_mZ, e_mR, e_mV, jAdd_n, jMul_n, z0, z1, Option.bind_some, List.getElem?_cons_zero, List.getElem?_cons_succ, List.set_cons_zero, List.set_cons_succ, eq_self, if_true, ite_and, ite_or, ite_I, ite_bI, ite_bJ, bI_ne, bI_01, List.cons_append, List.nil_append, Bool.false_eq_true, if_false, hL, kT26 h, et, Bool.false_and]
    | true =>
      rw [b] at et
      have c0 : υ 48 6 = (st1 u k o i p).2.2.1 0 0 4 := (q1'.2.2.2.2.2 b 0 (by omega)).1 4 (by omega)
      have c1 : υ 48 7 = (st1 u k o i p).2.2.1 1 0 4 := (q1'.2.2.2.2.2 b 1 (by omega)).1 4 (by omega)
      have c2 : υ 48 8 = (st1 u k o i p).2.2.1 2 0 4 := (q1'.2.2.2.2.2 b 2 (by omega)).1 4 (by omega)
      simp only [e_fI, e_fLd, e_fLr, e_fB, e_fD, e_fC, e_fT, e_fAnd, e_fOr, e_fNot, e_fCC, e_fIf, e_gI, e_gR, e_aI, e_aR, e_aN, e_cV, e_cS, e_fNil, e_fAi, e_fAr, e_sSeq, e_sSkip, e_sSt, e_sSr, e_sInc, e_sRI, e_sRR, e_sRV, e_sIf, e_sCall, e_sPI, e_sPZ, e_sPR, e_sPO, e_sAI, e_sAZ, e_sAO, e_sAR, e_sPopI, e_sPopR, e_sCopy, e_mI, e_mZ, e_mR, e_mV, jAdd_n, jMul_n, z0, z1, Option.bind_some, List.getElem?_cons_zero, List.getElem?_cons_succ, List.set_cons_zero, List.set_cons_succ, eq_self, if_true, ite_and, ite_or, ite_I, ite_bI, ite_bJ, bI_ne, bI_01, List.cons_append, List.nil_append, Bool.false_eq_true, if_false, hL, kT26 h, et, gT26_26 h, iT48 h (show 6 < 9 by omega), iT48 h (show 7 < 9 by omega), iT48 h (show 8 < 9 by omega), c0, c1, c2, Bool.true_and]
  refine wSeq (wS_l (sSt_e (fIf_b (step1 _ rfl))) ?_)
  simp only [List.set_cons_succ, List.set_cons_zero]
  -- the map of the inputs
  obtain ⟨ρ1, b1, h1, m1⟩ := q_R_gram (σ := υ) (d := 3) (c := nI 5) (a := nI (k + 1)) (o := nI 14) (l := nI 6) h (by omega)
  refine wSeq (wS_l (by simp only [e_fI, e_fLd, e_fLr, e_fB, e_fD, e_fC, e_fT, e_fAnd, e_fOr, e_fNot, e_fCC, e_fIf, e_gI, e_gR, e_aI, e_aR, e_aN, e_cV, e_cS, e_fNil, e_fAi, e_fAr, e_sSeq, e_sSkip, e_sSt, e_sSr, e_sInc, e_sRI, e_sRR, e_sRV, e_sIf, e_sCall, e_sPI, e_sPZ, e_sPR, e_sPO, e_sAI, e_sAZ, e_sAO, e_sAR, e_sPopI, e_sPopR, e_sCopy, e_mI, e_mZ, e_mR, e_mV, jAdd_n, jMul_n, z0, z1, Option.bind_some, List.getElem?_cons_zero, List.getElem?_cons_succ, List.set_cons_zero, List.set_cons_succ, eq_self, if_true, ite_and, ite_or, ite_I, ite_bI, ite_bJ, bI_ne, bI_01, List.cons_append, List.nil_append, Bool.false_eq_true, if_false, kT26 h, b1]; rfl) ?_)
  obtain ⟨ρ2, b2, h2, m2⟩ := q_R_six (a := nI (p + o)) (b := nI 0) (c := nI (8 * i)) (e := nI 96) (f := nI 0) (g := nI 1) h (by omega) h1
  have k53 : ρ1 53 k = nI (p + o) := by rw [m1 53 k (fun q => by rcases q with q | q <;> omega), F10 53 k (fun q => by have := q.nb; omega)]; exact c53
  refine wSeq (wS_l (by simp only [e_fI, e_fLd, e_fLr, e_fB, e_fD, e_fC, e_fT, e_fAnd, e_fOr, e_fNot, e_fCC, e_fIf, e_gI, e_gR, e_aI, e_aR, e_aN, e_cV, e_cS, e_fNil, e_fAi, e_fAr, e_sSeq, e_sSkip, e_sSt, e_sSr, e_sInc, e_sRI, e_sRR, e_sRV, e_sIf, e_sCall, e_sPI, e_sPZ, e_sPR, e_sPO, e_sAI, e_sAZ, e_sAO, e_sAR, e_sPopI, e_sPopR, e_sCopy, e_mI, e_mZ, e_mR, e_mV, jAdd_n, jMul_n, z0, z1, Option.bind_some, List.getElem?_cons_zero, List.getElem?_cons_succ, List.set_cons_zero, List.set_cons_succ, eq_self, if_true, ite_and, ite_or, ite_I, ite_bI, ite_bJ, bI_ne, bI_01, List.cons_append, List.nil_append, Bool.false_eq_true, if_false, kT26 h, gT26_36 h, iT53 h hk, k53, b2]; rfl) ?_)
  refine wSeq (wS_l (by simp only [e_fI, e_fLd, e_fLr, e_fB, e_fD, e_fC, e_fT, e_fAnd, e_fOr, e_fNot, e_fCC, e_fIf, e_gI, e_gR, e_aI, e_aR, e_aN, e_cV, e_cS, e_fNil, e_fAi, e_fAr, e_sSeq, e_sSkip, e_sSt, e_sSr, e_sInc, e_sRI, e_sRR, e_sRV, e_sIf, e_sCall, e_sPI, e_sPZ, e_sPR, e_sPO, e_sAI, e_sAZ, e_sAO, e_sAR, e_sPopI, e_sPopR, e_sCopy, e_mI, e_mZ, e_mR, e_mV, jAdd_n, jMul_n, z0, z1, Option.bind_some, List.getElem?_cons_zero, List.getElem?_cons_succ, List.set_cons_zero, List.set_cons_succ, eq_self, if_true, ite_and, ite_or, ite_I, ite_bI, ite_bJ, bI_ne, bI_01, List.cons_append, List.nil_append, Bool.false_eq_true, if_false, pT26_19 h]; rfl) ?_)
  have M : FX PC υ (up ρ2 26 19 (nI 1)) := FX.u ((m1.t m2).d (by omega) (by omega)) (Or.inr (Or.inr ⟨rfl, rfl⟩))
  have h3 : RG (up ρ2 26 19 (nI 1)) 3 (e3G k i (p + o)) := h2.o ((FX.r (fun a _ => a = 26) ρ2).u rfl) (fun a i q k => by rcases q with q | q <;> omega)
  obtain ⟨ω, et2, p1, p2⟩ := r_travel0 (z := 1) (G := fun _ => e3G k i (p + o)) h (q1'.p M ok1.y.2) ok1 (fun e he => by rw [show 3 + e = 3 by omega]; exact h3) (fun _ _ => e3_ok (by omega) hi (by omega)) rfl (by omega)
  have p1' : CP0 ω (st2 u k o i p) := p1
  have eb2 : tW (st1 u k o i p) = bW (st2 u k o i p) := (bW_s (w := frW (st1 u k o i p) 1 (fun _ => e3G k i (p + o)))).symm
  have z1 : zW (st2 u k o i p) = 1 := zW_sf (by omega)
  rw [eb2] at et2
  have hg2 : (List.range 1).all (fun e => jEq ((st2 u k o i p).2.2.1 e 0 4) (nI 1)) = jEq ((st2 u k o i p).2.2.1 0 0 4) (nI 1) := by
    show (jEq _ _ && true) = _
    rw [Bool.and_true]
  have step2 : ∀ (L : hp_L), L[0]? = some (some (.ref 26)) → fAnd (fT (cV 8 (fAr (fLr 0) (fNil)) G_R_travel)) (fC jEq (aI 50 (gR 8 26 (fLr 0)) (fI (nI 6))) (fI (nI 1))) L (hs n (up ρ2 26 19 (nI 1))) = some (gd2 u k o i p, hs n ω) := fun L hL => by
    unfold gd2
    rw [hg2]
    cases b : bW (st2 u k o i p) with
    | false =>
      rw [b] at et2
      simp only [e_fI, e_fLd, e_fLr, e_fB, e_fD, e_fC, e_fT, e_fAnd, e_fOr, e_fNot, e_fCC, e_fIf, e_gI, e_gR, e_aI, e_aR, e_aN, e_cV, e_cS, e_fNil, e_fAi, e_fAr, e_sSeq, e_sSkip, e_sSt, e_sSr, e_sInc, e_sRI, e_sRR, e_sRV, e_sIf, e_sCall, e_sPI, e_sPZ, e_sPR, e_sPO, e_sAI, e_sAZ, e_sAO, e_sAR, e_sPopI, e_sPopR, e_sCopy, e_mI, e_mZ, e_mR, e_mV, jAdd_n, jMul_n, z0, z1, Option.bind_some, List.getElem?_cons_zero, List.getElem?_cons_succ, List.set_cons_zero, List.set_cons_succ, eq_self, if_true, ite_and, ite_or, ite_I, ite_bI, ite_bJ, bI_ne, bI_01, List.cons_append, List.nil_append, Bool.false_eq_true, if_false, hL, kT26 h, et2, Bool.false_and]
    | true =>
      rw [b] at et2
      have c0 : ω 48 6 = (st2 u k o i p).2.2.1 0 0 4 := (p1'.2.2.2.2.2 b 0 (by omega)).1 4 (by omega)
      simp only [e_fI, e_fLd, e_fLr, e_fB, e_fD, e_fC, e_fT, e_fAnd, e_fOr, e_fNot, e_fCC, e_fIf, e_gI, e_gR, e_aI, e_aR, e_aN, e_cV, e_cS, e_fNil, e_fAi, e_fAr, e_sSeq, e_sSkip, e_sSt, e_sSr, e_sInc, e_sRI, e_sRR, e_sRV, e_sIf, e_sCall, e_sPI, e_sPZ, e_sPR, e_sPO, e_sAI, e_sAZ, e_sAO, e_sAR, e_sPopI, e_sPopR, e_sCopy, e_mI, e_mZ, e_mR, e_mV, jAdd_n, jMul_n, z0, z1, Option.bind_some, List.getElem?_cons_zero, List.getElem?_cons_succ, List.set_cons_zero, List.set_cons_succ, eq_self, if_true, ite_and, ite_or, ite_I, ite_bI, ite_bJ, bI_ne, bI_01, List.cons_append, List.nil_append, Bool.false_eq_true, if_false, hL, kT26 h, et2, gT26_26 h, iT48 h (show 6 < 9 by omega), c0, Bool.true_and]
  refine wSeq (wS_l (sSt_e (fIf_b (step2 _ rfl))) ?_)
  simp only [List.set_cons_succ, List.set_cons_zero]
  refine wS_r (by simp only [e_fI, e_fLd, e_fLr, e_fB, e_fD, e_fC, e_fT, e_fAnd, e_fOr, e_fNot, e_fCC, e_fIf, e_gI, e_gR, e_aI, e_aR, e_aN, e_cV, e_cS, e_fNil, e_fAi, e_fAr, e_sSeq, e_sSkip, e_sSt, e_sSr, e_sInc, e_sRI, e_sRR, e_sRV, e_sIf, e_sCall, e_sPI, e_sPZ, e_sPR, e_sPO, e_sAI, e_sAZ, e_sAO, e_sAR, e_sPopI, e_sPopR, e_sCopy, e_mI, e_mZ, e_mR, e_mV, jAdd_n, jMul_n, z0, z1, Option.bind_some, List.getElem?_cons_zero, List.getElem?_cons_succ, List.set_cons_zero, List.set_cons_succ, eq_self, if_true, ite_and, ite_or, ite_I, ite_bI, ite_bJ, bI_ne, bI_01, List.cons_append, List.nil_append, Bool.false_eq_true, if_false]; rfl) ?_
  exact ⟨rfl, ω, rfl, p1', F10.t ((M.m (fun _ _ => Or.inr)).t (p2.m (fun _ _ => Or.inl)))⟩
theorem r_setup (h : okB n) (hR : CPr σ w) (hW : okW w) : ∃ τ, G_R_setup [.ref 26] (hs n σ) = some (nI (suL w (fW w)).2, hs n τ) ∧ CPr τ (suW w) ∧ FL σ τ := by
  have hk6 := hW.2.1
  have hf := hW.2.2.2.2.2.1
  have ef : σ 26 32 = nI (fW w) := hR.cf.trans hW.2.2.2.2.1
  refine mI_t (Nat.le_of_ble_eq_true rfl) ?_
  simp only [jx_L0, List.map_cons, List.map_nil, List.length_cons, List.length_nil, Nat.reduceAdd, Nat.reduceSub, List.replicate, List.cons_append, List.nil_append]
  unfold P_R_setup
  refine wSeq (wS_l (by simp only [e_fI, e_fLd, e_fLr, e_fB, e_fD, e_fC, e_fT, e_fAnd, e_fOr, e_fNot, e_fCC, e_fIf, e_gI, e_gR, e_aI, e_aR, e_aN, e_cV, e_cS, e_fNil, e_fAi, e_fAr, e_sSeq, e_sSkip, e_sSt, e_sSr, e_sInc, e_sRI, e_sRR, e_sRV, e_sIf, e_sCall, e_sPI, e_sPZ, e_sPR, e_sPO, e_sAI, e_sAZ, e_sAO, e_sAR, e_sPopI, e_sPopR, e_sCopy, e_mI, e_mZ, e_mR, e_mV, jAdd_n, jMul_n, z0, z1, Option.bind_some, List.getElem?_cons_zero, List.getElem?_cons_succ, List.set_cons_zero, List.set_cons_succ, eq_self, if_true, ite_and, ite_or, ite_I, ite_bI, ite_bJ, bI_ne, bI_01, List.cons_append, List.nil_append, Bool.false_eq_true, if_false, pT26_34 h]; rfl) ?_)
  refine wSeq (wSeq (wS_l (by simp only [e_fI, e_fLd, e_fLr, e_fB, e_fD, e_fC, e_fT, e_fAnd, e_fOr, e_fNot, e_fCC, e_fIf, e_gI, e_gR, e_aI, e_aR, e_aN, e_cV, e_cS, e_fNil, e_fAi, e_fAr, e_sSeq, e_sSkip, e_sSt, e_sSr, e_sInc, e_sRI, e_sRR, e_sRV, e_sIf, e_sCall, e_sPI, e_sPZ, e_sPR, e_sPO, e_sAI, e_sAZ, e_sAO, e_sAR, e_sPopI, e_sPopR, e_sCopy, e_mI, e_mZ, e_mR, e_mV, jAdd_n, jMul_n, z0, z1, Option.bind_some, List.getElem?_cons_zero, List.getElem?_cons_succ, List.set_cons_zero, List.set_cons_succ, eq_self, if_true, ite_and, ite_or, ite_I, ite_bI, ite_bJ, bI_ne, bI_01, List.cons_append, List.nil_append, Bool.false_eq_true, if_false]; rfl) ?_))
  refine wWh (I := fun s L H => ∃ τ, L = [some (.ref 26), some (.int (nI s)), none, none] ∧ H = hs n τ ∧ τ 26 34 = nI (Pw w s) ∧ (∀ e, e < s → τ 52 e = nI (Pw w e) ∧ τ 53 e = nI (Pw w e + oN (w.1 e)) ∧ τ 54 e = nI (oN (w.1 e)) ∧ τ 55 e = nI (iN (w.1 e))) ∧ FX (fun a i => 52 ≤ a ∧ a ≤ 55 ∨ a = 26 ∧ i = 34) σ τ) (e := fW w) ?_ ?_ ?_ 600 0 _ _ (by omega) (by omega) ⟨_, rfl, rfl, rfl, fun e he => by omega, (FX.r _ σ).u (Or.inr ⟨rfl, rfl⟩)⟩
  · rintro s _ _ ⟨τ, rfl, rfl, -, -, hF⟩ hi
    have : τ 26 32 = nI (fW w) := by rw [hF 26 32 (by omega)]; exact ef
    simp only [e_fI, e_fLd, e_fLr, e_fB, e_fD, e_fC, e_fT, e_fAnd, e_fOr, e_fNot, e_fCC, e_fIf, e_gI, e_gR, e_aI, e_aR, e_aN, e_cV, e_cS, e_fNil, e_fAi, e_fAr, e_sSeq, e_sSkip, e_sSt, e_sSr, e_sInc, e_sRI, e_sRR, e_sRV, e_sIf, e_sCall, e_sPI, e_sPZ, e_sPR, e_sPO, e_sAI, e_sAZ, e_sAO, e_sAR, e_sPopI, e_sPopR, e_sCopy, e_mI, e_mZ, e_mR, e_mV, jAdd_n, jMul_n, z0, z1, Option.bind_some, List.getElem?_cons_zero, List.getElem?_cons_succ, List.set_cons_zero, List.set_cons_succ, eq_self, if_true, ite_and, ite_or, ite_I, ite_bI, ite_bJ, bI_ne, bI_01, List.cons_append, List.nil_append, Bool.false_eq_true, if_false, gT26_32 h, this, jLt, nI_ltI (show s < 2 ^ 31 by omega) (show fW w < 2 ^ 31 by omega)]
  · rintro s _ _ ⟨τ, rfl, rfl, e34, ha, hF⟩ hi
    have tt := (hW.u (show s < kW w by omega)).t
    have hr := hR.rr (t := s) (by omega)
    have k27 : ∀ ρ : sg, (∀ a i, a < 52 → a ≠ 26 → ρ a i = τ a i) → ρ 27 s = nI (oN (w.1 s)) := fun ρ q => by rw [q 27 s (by omega) (by omega), hF 27 s (by omega), hr.k0]; exact tt.1
    have k28 : ∀ ρ : sg, (∀ a i, a < 52 → a ≠ 26 → ρ a i = τ a i) → ρ 28 s = nI (iN (w.1 s)) := fun ρ q => by rw [q 28 s (by omega) (by omega), hF 28 s (by omega), hr.k1]; exact tt.2.2.1
    have s6 : s < 6 := by omega
    refine wSeq (wSeq (wS_l (by simp only [e_fI, e_fLd, e_fLr, e_fB, e_fD, e_fC, e_fT, e_fAnd, e_fOr, e_fNot, e_fCC, e_fIf, e_gI, e_gR, e_aI, e_aR, e_aN, e_cV, e_cS, e_fNil, e_fAi, e_fAr, e_sSeq, e_sSkip, e_sSt, e_sSr, e_sInc, e_sRI, e_sRR, e_sRV, e_sIf, e_sCall, e_sPI, e_sPZ, e_sPR, e_sPO, e_sAI, e_sAZ, e_sAO, e_sAR, e_sPopI, e_sPopR, e_sCopy, e_mI, e_mZ, e_mR, e_mV, jAdd_n, jMul_n, z0, z1, Option.bind_some, List.getElem?_cons_zero, List.getElem?_cons_succ, List.set_cons_zero, List.set_cons_succ, eq_self, if_true, ite_and, ite_or, ite_I, ite_bI, ite_bJ, bI_ne, bI_01, List.cons_append, List.nil_append, Bool.false_eq_true, if_false, gT26_37 h, gT26_1 h, iT27 h s6, k27 τ (fun _ _ _ _ => rfl), wT54 h s6]; rfl) ?_))
    have q1 : ∀ a i, a < 52 → a ≠ 26 → up τ 54 s (nI (oN (w.1 s))) a i = τ a i := fun a i g1 g2 => by rw [up_ne (by omega)]
    refine wSeq (wS_l (by simp only [e_fI, e_fLd, e_fLr, e_fB, e_fD, e_fC, e_fT, e_fAnd, e_fOr, e_fNot, e_fCC, e_fIf, e_gI, e_gR, e_aI, e_aR, e_aN, e_cV, e_cS, e_fNil, e_fAi, e_fAr, e_sSeq, e_sSkip, e_sSt, e_sSr, e_sInc, e_sRI, e_sRR, e_sRV, e_sIf, e_sCall, e_sPI, e_sPZ, e_sPR, e_sPO, e_sAI, e_sAZ, e_sAO, e_sAR, e_sPopI, e_sPopR, e_sCopy, e_mI, e_mZ, e_mR, e_mV, jAdd_n, jMul_n, z0, z1, Option.bind_some, List.getElem?_cons_zero, List.getElem?_cons_succ, List.set_cons_zero, List.set_cons_succ, eq_self, if_true, ite_and, ite_or, ite_I, ite_bI, ite_bJ, bI_ne, bI_01, List.cons_append, List.nil_append, Bool.false_eq_true, if_false, gT26_38 h, gT26_2 h, iT28 h s6, k28 _ q1, wT55 h s6]; rfl) ?_)
    have e34a : up (up τ 54 s (nI (oN (w.1 s)))) 55 s (nI (iN (w.1 s))) 26 34 = nI (Pw w s) := e34
    refine wSeq (wS_l (by simp only [e_fI, e_fLd, e_fLr, e_fB, e_fD, e_fC, e_fT, e_fAnd, e_fOr, e_fNot, e_fCC, e_fIf, e_gI, e_gR, e_aI, e_aR, e_aN, e_cV, e_cS, e_fNil, e_fAi, e_fAr, e_sSeq, e_sSkip, e_sSt, e_sSr, e_sInc, e_sRI, e_sRR, e_sRV, e_sIf, e_sCall, e_sPI, e_sPZ, e_sPR, e_sPO, e_sAI, e_sAZ, e_sAO, e_sAR, e_sPopI, e_sPopR, e_sCopy, e_mI, e_mZ, e_mR, e_mV, jAdd_n, jMul_n, z0, z1, Option.bind_some, List.getElem?_cons_zero, List.getElem?_cons_succ, List.set_cons_zero, List.set_cons_succ, eq_self, if_true, ite_and, ite_or, ite_I, ite_bI, ite_bJ, bI_ne, bI_01, List.cons_append, List.nil_append, Bool.false_eq_true, if_false, gT26_35 h, gT26_34 h, e34a, wT52 h s6]; rfl) ?_)
    have q3 : ∀ a i, a < 52 → a ≠ 26 → up (up (up τ 54 s (nI (oN (w.1 s)))) 55 s (nI (iN (w.1 s)))) 52 s (nI (Pw w s)) a i = τ a i := fun a i g1 g2 => by rw [up_ne (by omega), up_ne (by omega), up_ne (by omega)]
    have e34b : up (up (up τ 54 s (nI (oN (w.1 s)))) 55 s (nI (iN (w.1 s)))) 52 s (nI (Pw w s)) 26 34 = nI (Pw w s) := e34
    refine wSeq (wS_l (by simp only [e_fI, e_fLd, e_fLr, e_fB, e_fD, e_fC, e_fT, e_fAnd, e_fOr, e_fNot, e_fCC, e_fIf, e_gI, e_gR, e_aI, e_aR, e_aN, e_cV, e_cS, e_fNil, e_fAi, e_fAr, e_sSeq, e_sSkip, e_sSt, e_sSr, e_sInc, e_sRI, e_sRR, e_sRV, e_sIf, e_sCall, e_sPI, e_sPZ, e_sPR, e_sPO, e_sAI, e_sAZ, e_sAO, e_sAR, e_sPopI, e_sPopR, e_sCopy, e_mI, e_mZ, e_mR, e_mV, jAdd_n, jMul_n, z0, z1, Option.bind_some, List.getElem?_cons_zero, List.getElem?_cons_succ, List.set_cons_zero, List.set_cons_succ, eq_self, if_true, ite_and, ite_or, ite_I, ite_bI, ite_bJ, bI_ne, bI_01, List.cons_append, List.nil_append, Bool.false_eq_true, if_false, gT26_36 h, gT26_34 h, e34b, gT26_1 h, iT27 h s6, k27 _ q3, wT53 h s6]; rfl) ?_)
    have q4 : ∀ a i, a < 52 → a ≠ 26 → up (up (up (up τ 54 s (nI (oN (w.1 s)))) 55 s (nI (iN (w.1 s)))) 52 s (nI (Pw w s))) 53 s (nI (Pw w s + oN (w.1 s))) a i = τ a i := fun a i g1 g2 => by rw [up_ne (by omega), up_ne (by omega), up_ne (by omega), up_ne (by omega)]
    have e34c : up (up (up (up τ 54 s (nI (oN (w.1 s)))) 55 s (nI (iN (w.1 s)))) 52 s (nI (Pw w s))) 53 s (nI (Pw w s + oN (w.1 s))) 26 34 = nI (Pw w s) := e34
    have hF4 : FX (fun a i => 52 ≤ a ∧ a ≤ 55 ∨ a = 26 ∧ i = 34) σ (up (up (up (up τ 54 s (nI (oN (w.1 s)))) 55 s (nI (iN (w.1 s)))) 52 s (nI (Pw w s))) 53 s (nI (Pw w s + oN (w.1 s)))) := (((hF.u (Or.inl (by omega))).u (Or.inl (by omega))).u (Or.inl (by omega))).u (Or.inl (by omega))
    have ha4 : ∀ e, e < s + 1 → up (up (up (up τ 54 s (nI (oN (w.1 s)))) 55 s (nI (iN (w.1 s)))) 52 s (nI (Pw w s))) 53 s (nI (Pw w s + oN (w.1 s))) 52 e = nI (Pw w e) ∧ up (up (up (up τ 54 s (nI (oN (w.1 s)))) 55 s (nI (iN (w.1 s)))) 52 s (nI (Pw w s))) 53 s (nI (Pw w s + oN (w.1 s))) 53 e = nI (Pw w e + oN (w.1 e)) ∧ up (up (up (up τ 54 s (nI (oN (w.1 s)))) 55 s (nI (iN (w.1 s)))) 52 s (nI (Pw w s))) 53 s (nI (Pw w s + oN (w.1 s))) 54 e = nI (oN (w.1 e)) ∧ up (up (up (up τ 54 s (nI (oN (w.1 s)))) 55 s (nI (iN (w.1 s)))) 52 s (nI (Pw w s))) 53 s (nI (Pw w s + oN (w.1 s))) 55 e = nI (iN (w.1 e)) := fun e he => by
      by_cases q : e = s
      · subst q
        refine ⟨?_, ?_, ?_, ?_⟩ <;> simp [up]
      · have a := ha e (by omega)
        refine ⟨?_, ?_, ?_, ?_⟩
        · rw [up_ne (by omega)]
          unfold up
          rw [if_neg (fun k => q k.2), if_neg (by omega), if_neg (by omega)]
          exact a.1
        · unfold up
          rw [if_neg (fun k => q k.2), if_neg (by omega), if_neg (by omega), if_neg (by omega)]
          exact a.2.1
        · rw [up_ne (by omega), up_ne (by omega), up_ne (by omega)]
          unfold up
          rw [if_neg (fun k => q k.2)]
          exact a.2.2.1
        · rw [up_ne (by omega), up_ne (by omega)]
          unfold up
          rw [if_neg (fun k => q k.2), if_neg (by omega)]
          exact a.2.2.2
    generalize up (up (up (up τ 54 s (nI (oN (w.1 s)))) 55 s (nI (iN (w.1 s)))) 52 s (nI (Pw w s))) 53 s (nI (Pw w s + oN (w.1 s))) = ρ at q4 e34c hF4 ha4 ⊢
    have e1 : Pw w s + (oN (w.1 s) + iN (w.1 s)) = Pw w (s + 1) := rfl
    refine wS_l (by simp only [e_fI, e_fLd, e_fLr, e_fB, e_fD, e_fC, e_fT, e_fAnd, e_fOr, e_fNot, e_fCC, e_fIf, e_gI, e_gR, e_aI, e_aR, e_aN, e_cV, e_cS, e_fNil, e_fAi, e_fAr, e_sSeq, e_sSkip, e_sSt, e_sSr, e_sInc, e_sRI, e_sRR, e_sRV, e_sIf, e_sCall, e_sPI, e_sPZ, e_sPR, e_sPO, e_sAI, e_sAZ, e_sAO, e_sAR, e_sPopI, e_sPopR, e_sCopy, e_mI, e_mZ, e_mR, e_mV, jAdd_n, jMul_n, z0, z1, Option.bind_some, List.getElem?_cons_zero, List.getElem?_cons_succ, List.set_cons_zero, List.set_cons_succ, eq_self, if_true, ite_and, ite_or, ite_I, ite_bI, ite_bJ, bI_ne, bI_01, List.cons_append, List.nil_append, Bool.false_eq_true, if_false, gT26_34 h, e34c, gT26_1 h, gT26_2 h, iT27 h s6, iT28 h s6, k27 ρ q4, k28 ρ q4, e1, pT26_34 h]; rfl) ?_
    refine wS_l (by simp only [e_fI, e_fLd, e_fLr, e_fB, e_fD, e_fC, e_fT, e_fAnd, e_fOr, e_fNot, e_fCC, e_fIf, e_gI, e_gR, e_aI, e_aR, e_aN, e_cV, e_cS, e_fNil, e_fAi, e_fAr, e_sSeq, e_sSkip, e_sSt, e_sSr, e_sInc, e_sRI, e_sRR, e_sRV, e_sIf, e_sCall, e_sPI, e_sPZ, e_sPR, e_sPO, e_sAI, e_sAZ, e_sAO, e_sAR, e_sPopI, e_sPopR, e_sCopy, e_mI, e_mZ, e_mR, e_mV, jAdd_n, jMul_n, z0, z1, Option.bind_some, List.getElem?_cons_zero, List.getElem?_cons_succ, List.set_cons_zero, List.set_cons_succ, eq_self, if_true, ite_and, ite_or, ite_I, ite_bI, ite_bJ, bI_ne, bI_01, List.cons_append, List.nil_append, Bool.false_eq_true, if_false, nI_add]; rfl) ?_
    refine ⟨_, rfl, rfl, rfl, fun e he => ?_, hF4.u (Or.inr ⟨rfl, rfl⟩)⟩
    rw [up_ne (by omega), up_ne (by omega), up_ne (by omega), up_ne (by omega)]
    exact ha4 e he
  rintro _ _ ⟨τ, rfl, rfl, e34, ha, hF⟩
  have hR1 : CP0 τ w := hR.s.1.m hF (fun a i k => by omega)
  have e32 : τ 26 32 = nI (fW w) := by rw [hF 26 32 (by omega)]; exact ef
  have hL1 : FL σ τ := hF.L (fun a i k => by omega)
  refine wSeq (wS_l (by simp only [e_fI, e_fLd, e_fLr, e_fB, e_fD, e_fC, e_fT, e_fAnd, e_fOr, e_fNot, e_fCC, e_fIf, e_gI, e_gR, e_aI, e_aR, e_aN, e_cV, e_cS, e_fNil, e_fAi, e_fAr, e_sSeq, e_sSkip, e_sSt, e_sSr, e_sInc, e_sRI, e_sRR, e_sRV, e_sIf, e_sCall, e_sPI, e_sPZ, e_sPR, e_sPO, e_sAI, e_sAZ, e_sAO, e_sAR, e_sPopI, e_sPopR, e_sCopy, e_mI, e_mZ, e_mR, e_mV, jAdd_n, jMul_n, z0, z1, Option.bind_some, List.getElem?_cons_zero, List.getElem?_cons_succ, List.set_cons_zero, List.set_cons_succ, eq_self, if_true, ite_and, ite_or, ite_I, ite_bI, ite_bJ, bI_ne, bI_01, List.cons_append, List.nil_append, Bool.false_eq_true, if_false]; rfl) ?_)
  refine wSeq (wSeq (wS_l (by simp only [e_fI, e_fLd, e_fLr, e_fB, e_fD, e_fC, e_fT, e_fAnd, e_fOr, e_fNot, e_fCC, e_fIf, e_gI, e_gR, e_aI, e_aR, e_aN, e_cV, e_cS, e_fNil, e_fAi, e_fAr, e_sSeq, e_sSkip, e_sSt, e_sSr, e_sInc, e_sRI, e_sRR, e_sRV, e_sIf, e_sCall, e_sPI, e_sPZ, e_sPR, e_sPO, e_sAI, e_sAZ, e_sAO, e_sAR, e_sPopI, e_sPopR, e_sCopy, e_mI, e_mZ, e_mR, e_mV, jAdd_n, jMul_n, z0, z1, Option.bind_some, List.getElem?_cons_zero, List.getElem?_cons_succ, List.set_cons_zero, List.set_cons_succ, eq_self, if_true, ite_and, ite_or, ite_I, ite_bI, ite_bJ, bI_ne, bI_01, List.cons_append, List.nil_append, Bool.false_eq_true, if_false]; rfl) ?_))
  refine wWh (I := fun s L H => ∃ ρ x3, L = [some (.ref 26), some (.int (nI (suL w s).2)), some (.int (nI s)), x3] ∧ H = hs n ρ ∧ CP0 ρ (suL w s).1 ∧ FX (EC (kW w)) τ ρ) (e := fW w) ?_ ?_ ?_ 600 0 _ _ (by omega) (by omega) ⟨τ, none, rfl, rfl, hR1, FX.r _ τ⟩
  · rintro s _ _ ⟨ρ, x3, rfl, rfl, -, hFρ⟩ hi
    have : ρ 26 32 = nI (fW w) := by rw [hFρ 26 32 (fun k => by have := k.nb; omega)]; exact e32
    simp only [e_fI, e_fLd, e_fLr, e_fB, e_fD, e_fC, e_fT, e_fAnd, e_fOr, e_fNot, e_fCC, e_fIf, e_gI, e_gR, e_aI, e_aR, e_aN, e_cV, e_cS, e_fNil, e_fAi, e_fAr, e_sSeq, e_sSkip, e_sSt, e_sSr, e_sInc, e_sRI, e_sRR, e_sRV, e_sIf, e_sCall, e_sPI, e_sPZ, e_sPR, e_sPO, e_sAI, e_sAZ, e_sAO, e_sAR, e_sPopI, e_sPopR, e_sCopy, e_mI, e_mZ, e_mR, e_mV, jAdd_n, jMul_n, z0, z1, Option.bind_some, List.getElem?_cons_zero, List.getElem?_cons_succ, List.set_cons_zero, List.set_cons_succ, eq_self, if_true, ite_and, ite_or, ite_I, ite_bI, ite_bJ, bI_ne, bI_01, List.cons_append, List.nil_append, Bool.false_eq_true, if_false, gT26_32 h, this, jLt, nI_ltI (show s < 2 ^ 31 by omega) (show fW w < 2 ^ 31 by omega)]
  · rintro s _ _ ⟨ρ, x3, rfl, rfl, hRi, hFρ⟩ hi
    obtain ⟨i1, i2, i3, i4, i5, i6⟩ := suL_ok hW s (by omega)
    have tt := (hW.u (show s < kW w by omega)).t
    have hp := Pw_b hW s (by omega)
    have a := ha s hi
    have k : ∀ b, 52 ≤ b → ρ b s = τ b s := fun b g => hFρ b s (fun k => by have := k.nb; omega)
    obtain ⟨υ, e, r1, r2⟩ := q_R_equip h hRi i1 (k := s) (o := oN (w.1 s)) (i := iN (w.1 s)) (p := Pw w s) (by omega) tt.2.1 tt.2.2.2 (by omega) (by rw [k 52 (by omega)]; exact a.1) (by rw [k 53 (by omega)]; exact a.2.1) (by rw [k 54 (by omega)]; exact a.2.2.1) (by rw [k 55 (by omega)]; exact a.2.2.2)
    refine wSeq (wSeq (wS_l (by simp only [e_fI, e_fLd, e_fLr, e_fB, e_fD, e_fC, e_fT, e_fAnd, e_fOr, e_fNot, e_fCC, e_fIf, e_gI, e_gR, e_aI, e_aR, e_aN, e_cV, e_cS, e_fNil, e_fAi, e_fAr, e_sSeq, e_sSkip, e_sSt, e_sSr, e_sInc, e_sRI, e_sRR, e_sRV, e_sIf, e_sCall, e_sPI, e_sPZ, e_sPR, e_sPO, e_sAI, e_sAZ, e_sAO, e_sAR, e_sPopI, e_sPopR, e_sCopy, e_mI, e_mZ, e_mR, e_mV, jAdd_n, jMul_n, z0, z1, Option.bind_some, List.getElem?_cons_zero, List.getElem?_cons_succ, List.set_cons_zero, List.set_cons_succ, eq_self, if_true, ite_and, ite_or, ite_I, ite_bI, ite_bJ, bI_ne, bI_01, List.cons_append, List.nil_append, Bool.false_eq_true, if_false, kT26 h, e]; rfl) ?_))
    have i1' : ∀ b : Bool, bI b = nI (if b = true then 1 else 0) := fun b => by cases b <;> rfl
    refine wS_l (by simp only [e_fI, e_fLd, e_fLr, e_fB, e_fD, e_fC, e_fT, e_fAnd, e_fOr, e_fNot, e_fCC, e_fIf, e_gI, e_gR, e_aI, e_aR, e_aN, e_cV, e_cS, e_fNil, e_fAi, e_fAr, e_sSeq, e_sSkip, e_sSt, e_sSr, e_sInc, e_sRI, e_sRR, e_sRV, e_sIf, e_sCall, e_sPI, e_sPZ, e_sPR, e_sPO, e_sAI, e_sAZ, e_sAO, e_sAR, e_sPopI, e_sPopR, e_sCopy, e_mI, e_mZ, e_mR, e_mV, jAdd_n, jMul_n, z0, z1, Option.bind_some, List.getElem?_cons_zero, List.getElem?_cons_succ, List.set_cons_zero, List.set_cons_succ, eq_self, if_true, ite_and, ite_or, ite_I, ite_bI, ite_bJ, bI_ne, bI_01, List.cons_append, List.nil_append, Bool.false_eq_true, if_false]; rfl) ?_
    refine wS_l (by simp only [e_fI, e_fLd, e_fLr, e_fB, e_fD, e_fC, e_fT, e_fAnd, e_fOr, e_fNot, e_fCC, e_fIf, e_gI, e_gR, e_aI, e_aR, e_aN, e_cV, e_cS, e_fNil, e_fAi, e_fAr, e_sSeq, e_sSkip, e_sSt, e_sSr, e_sInc, e_sRI, e_sRR, e_sRV, e_sIf, e_sCall, e_sPI, e_sPZ, e_sPR, e_sPO, e_sAI, e_sAZ, e_sAO, e_sAR, e_sPopI, e_sPopR, e_sCopy, e_mI, e_mZ, e_mR, e_mV, jAdd_n, jMul_n, z0, z1, Option.bind_some, List.getElem?_cons_zero, List.getElem?_cons_succ, List.set_cons_zero, List.set_cons_succ, eq_self, if_true, ite_and, ite_or, ite_I, ite_bI, ite_bJ, bI_ne, bI_01, List.cons_append, List.nil_append, Bool.false_eq_true, if_false, nI_add]; rfl) ?_
    rw [i2] at r2
    refine ⟨υ, some (.int (bI (gd1 (suL w s).1 s (oN (w.1 s)) (iN (w.1 s)) (Pw w s) && gd2 (suL w s).1 s (oN (w.1 s)) (iN (w.1 s)) (Pw w s)))), ?_, rfl, r1, hFρ.t r2⟩
    rw [i1' (gd1 (suL w s).1 s (oN (w.1 s)) (iN (w.1 s)) (Pw w s) && gd2 (suL w s).1 s (oN (w.1 s)) (iN (w.1 s)) (Pw w s)), jAdd_n]
    rfl
  rintro _ _ ⟨ρ, x3, rfl, rfl, hRf, hFρ⟩
  obtain ⟨i1, i2, i3, i4, i5, i6⟩ := suL_ok hW (fW w) hf
  have hp := Pw_b hW (fW w) hf
  have e32' : ρ 26 32 = nI (fW w) := by rw [hFρ 26 32 (fun k => by have := k.nb; omega)]; exact e32
  refine wSeq (wS_l (by simp only [e_fI, e_fLd, e_fLr, e_fB, e_fD, e_fC, e_fT, e_fAnd, e_fOr, e_fNot, e_fCC, e_fIf, e_gI, e_gR, e_aI, e_aR, e_aN, e_cV, e_cS, e_fNil, e_fAi, e_fAr, e_sSeq, e_sSkip, e_sSt, e_sSr, e_sInc, e_sRI, e_sRR, e_sRV, e_sIf, e_sCall, e_sPI, e_sPZ, e_sPR, e_sPO, e_sAI, e_sAZ, e_sAO, e_sAR, e_sPopI, e_sPopR, e_sCopy, e_mI, e_mZ, e_mR, e_mV, jAdd_n, jMul_n, z0, z1, Option.bind_some, List.getElem?_cons_zero, List.getElem?_cons_succ, List.set_cons_zero, List.set_cons_succ, eq_self, if_true, ite_and, ite_or, ite_I, ite_bI, ite_bJ, bI_ne, bI_01, List.cons_append, List.nil_append, Bool.false_eq_true, if_false, gT26_32 h, e32', pT26_33 h]; rfl) ?_)
  refine wSeq (wSeq (wS_l (by simp only [e_fI, e_fLd, e_fLr, e_fB, e_fD, e_fC, e_fT, e_fAnd, e_fOr, e_fNot, e_fCC, e_fIf, e_gI, e_gR, e_aI, e_aR, e_aN, e_cV, e_cS, e_fNil, e_fAi, e_fAr, e_sSeq, e_sSkip, e_sSt, e_sSr, e_sInc, e_sRI, e_sRR, e_sRV, e_sIf, e_sCall, e_sPI, e_sPZ, e_sPR, e_sPO, e_sAI, e_sAZ, e_sAO, e_sAR, e_sPopI, e_sPopR, e_sCopy, e_mI, e_mZ, e_mR, e_mV, jAdd_n, jMul_n, z0, z1, Option.bind_some, List.getElem?_cons_zero, List.getElem?_cons_succ, List.set_cons_zero, List.set_cons_succ, eq_self, if_true, ite_and, ite_or, ite_I, ite_bI, ite_bJ, bI_ne, bI_01, List.cons_append, List.nil_append, Bool.false_eq_true, if_false]; rfl) ?_))
  refine wWh (I := fun i L H => ∃ υ, L = [some (.ref 26), some (.int (nI (suL w (fW w)).2)), some (.int (nI i)), x3] ∧ H = hs n υ ∧ (∀ j, j < i → υ 56 j = nI 0 ∧ υ 57 j = nI 0) ∧ FX (fun a _ => 56 ≤ a ∧ a ≤ 57) (up ρ 26 33 (nI (fW w))) υ) (e := 24) ?_ ?_ ?_ 600 0 _ _ (by omega) (by omega) ⟨_, rfl, rfl, fun j hj => by omega, FX.r _ _⟩
  · rintro i _ _ ⟨υ, rfl, rfl, -⟩ hi
    simp only [e_fI, e_fLd, e_fLr, e_fB, e_fD, e_fC, e_fT, e_fAnd, e_fOr, e_fNot, e_fCC, e_fIf, e_gI, e_gR, e_aI, e_aR, e_aN, e_cV, e_cS, e_fNil, e_fAi, e_fAr, e_sSeq, e_sSkip, e_sSt, e_sSr, e_sInc, e_sRI, e_sRR, e_sRV, e_sIf, e_sCall, e_sPI, e_sPZ, e_sPR, e_sPO, e_sAI, e_sAZ, e_sAO, e_sAR, e_sPopI, e_sPopR, e_sCopy, e_mI, e_mZ, e_mR, e_mV, jAdd_n, jMul_n, z0, z1, Option.bind_some, List.getElem?_cons_zero, List.getElem?_cons_succ, List.set_cons_zero, List.set_cons_succ, eq_self, if_true, ite_and, ite_or, ite_I, ite_bI, ite_bJ, bI_ne, bI_01, List.cons_append, List.nil_append, Bool.false_eq_true, if_false, jLt, nI_ltI (show i < 2 ^ 31 by omega) (show 24 < 2 ^ 31 by omega)]
  · rintro i _ _ ⟨υ, rfl, rfl, hV, hFu⟩ hi
    refine wSeq (wSeq (wS_l (by simp only [e_fI, e_fLd, e_fLr, e_fB, e_fD, e_fC, e_fT, e_fAnd, e_fOr, e_fNot, e_fCC, e_fIf, e_gI, e_gR, e_aI, e_aR, e_aN, e_cV, e_cS, e_fNil, e_fAi, e_fAr, e_sSeq, e_sSkip, e_sSt, e_sSr, e_sInc, e_sRI, e_sRR, e_sRV, e_sIf, e_sCall, e_sPI, e_sPZ, e_sPR, e_sPO, e_sAI, e_sAZ, e_sAO, e_sAR, e_sPopI, e_sPopR, e_sCopy, e_mI, e_mZ, e_mR, e_mV, jAdd_n, jMul_n, z0, z1, Option.bind_some, List.getElem?_cons_zero, List.getElem?_cons_succ, List.set_cons_zero, List.set_cons_succ, eq_self, if_true, ite_and, ite_or, ite_I, ite_bI, ite_bJ, bI_ne, bI_01, List.cons_append, List.nil_append, Bool.false_eq_true, if_false, gT26_39 h, wT56 h (show i < 24 by omega)]; rfl) ?_))
    refine wS_l (by simp only [e_fI, e_fLd, e_fLr, e_fB, e_fD, e_fC, e_fT, e_fAnd, e_fOr, e_fNot, e_fCC, e_fIf, e_gI, e_gR, e_aI, e_aR, e_aN, e_cV, e_cS, e_fNil, e_fAi, e_fAr, e_sSeq, e_sSkip, e_sSt, e_sSr, e_sInc, e_sRI, e_sRR, e_sRV, e_sIf, e_sCall, e_sPI, e_sPZ, e_sPR, e_sPO, e_sAI, e_sAZ, e_sAO, e_sAR, e_sPopI, e_sPopR, e_sCopy, e_mI, e_mZ, e_mR, e_mV, jAdd_n, jMul_n, z0, z1, Option.bind_some, List.getElem?_cons_zero, List.getElem?_cons_succ, List.set_cons_zero, List.set_cons_succ, eq_self, if_true, ite_and, ite_or, ite_I, ite_bI, ite_bJ, bI_ne, bI_01, List.cons_append, List.nil_append, Bool.false_eq_true, if_false, gT26_40 h, wT57 h (show i < 24 by omega)]; rfl) ?_
    refine wS_l (by simp only [e_fI, e_fLd, e_fLr, e_fB, e_fD, e_fC, e_fT, e_fAnd, e_fOr, e_fNot, e_fCC, e_fIf, e_gI, e_gR, e_aI, e_aR, e_aN, e_cV, e_cS, e_fNil, e_fAi, e_fAr, e_sSeq, e_sSkip, e_sSt, e_sSr, e_sInc, e_sRI, e_sRR, e_sRV, e_sIf, e_sCall, e_sPI, e_sPZ, e_sPR, e_sPO, e_sAI, e_sAZ, e_sAO, e_sAR, e_sPopI, e_sPopR, e_sCopy, e_mI, e_mZ, e_mR, e_mV, jAdd_n, jMul_n, z0, z1, Option.bind_some, List.getElem?_cons_zero, List.getElem?_cons_succ, List.set_cons_zero, List.set_cons_succ, eq_self, if_true, ite_and, ite_or, ite_I, ite_bI, ite_bJ, bI_ne, bI_01, List.cons_append, List.nil_append, Bool.false_eq_true, if_false, nI_add]; rfl) ?_
    refine ⟨_, rfl, rfl, fun j hj => ?_, (hFu.u (by omega)).u (by omega)⟩
    by_cases q : j = i
    · subst q
      constructor <;> simp [up]
    · have := hV j (by omega)
      constructor
      · rw [up_ne (by omega)]
        unfold up
        rw [if_neg (fun k => q k.2)]
        exact this.1
      · unfold up
        rw [if_neg (fun k => q k.2), if_neg (by omega)]
        exact this.2
  · rintro _ _ ⟨υ, rfl, rfl, hV, hFu⟩
    have hFa : FX (fun a i => 56 ≤ a ∧ a ≤ 57 ∨ a = 26 ∧ i = 33) ρ υ := FX.t ((FX.r _ ρ).u (Or.inr ⟨rfl, rfl⟩)) (hFu.m (fun _ _ q => Or.inl q))
    have hRu : CP0 υ (suL w (fW w)).1 := hRf.m hFa (fun a i k => by omega)
    have hLu : FL σ υ := (hL1.t (hFρ.L (fun a i k => by have := k.nb; omega))).t (hFa.L (fun a i k => by omega))
    refine wS_r (by simp only [e_fI, e_fLd, e_fLr, e_fB, e_fD, e_fC, e_fT, e_fAnd, e_fOr, e_fNot, e_fCC, e_fIf, e_gI, e_gR, e_aI, e_aR, e_aN, e_cV, e_cS, e_fNil, e_fAi, e_fAr, e_sSeq, e_sSkip, e_sSt, e_sSr, e_sInc, e_sRI, e_sRR, e_sRV, e_sIf, e_sCall, e_sPI, e_sPZ, e_sPR, e_sPO, e_sAI, e_sAZ, e_sAO, e_sAR, e_sPopI, e_sPopR, e_sCopy, e_mI, e_mZ, e_mR, e_mV, jAdd_n, jMul_n, z0, z1, Option.bind_some, List.getElem?_cons_zero, List.getElem?_cons_succ, List.set_cons_zero, List.set_cons_succ, eq_self, if_true, ite_and, ite_or, ite_I, ite_bI, ite_bJ, bI_ne, bI_01, List.cons_append, List.nil_append, Bool.false_eq_true, if_false]; rfl) ?_
    refine ⟨rfl, υ, rfl, CP0.j (w := suW w) ?_ ?_, hLu⟩
    · exact hRu
    · obtain ⟨-, em, es⟩ := imP_ok hW i1 i2 hf
      intro j i hc g1 g2
      have hc' := hc
      unfold celQ at hc'
      rw [show sW (suW w) = Pw w (fW w) from es, show mW (suW w) = fW w from em] at hc'
      have old : ∀ a e, 52 ≤ a → a ≤ 55 → υ a e = τ a e := fun a e g3 g4 => by rw [hFa a e (by omega), hFρ a e (fun k => by have := k.nb; omega)]
      rcases (show j = 0 ∧ i = 3 ∨ j = 0 ∧ i = 6 ∨ j = 0 ∧ i = 7 ∨ (j = 2 ∨ j = 3) ∧ i < Pw w (fW w) ∨ 4 ≤ j ∧ j ≤ 7 ∧ i < fW w by omega) with ⟨rfl, rfl⟩ | ⟨rfl, rfl⟩ | ⟨rfl, rfl⟩ | ⟨q, hi⟩ | ⟨q1, q2, hi⟩
      · show υ 26 32 = vW (suL w (fW w)).1 0 3
        rw [hFa 26 32 (by omega), e32', i5 3 (by omega)]
        exact hW.2.2.2.2.1.symm
      · show υ 26 33 = nI (fW w)
        rw [hFu 26 33 (by omega)]
        rfl
      · show υ 26 34 = nI (Pw w (fW w))
        rw [hFa 26 34 (by omega), hFρ 26 34 (fun k => by have := k.nb; omega)]
        exact e34
      · rcases q with rfl | rfl
        · exact (hV i (by omega)).1
        · exact (hV i (by omega)).2
      · have a := ha i hi
        rcases (show j = 4 ∨ j = 5 ∨ j = 6 ∨ j = 7 by omega) with rfl | rfl | rfl | rfl
        · show υ 52 i = vW (imP w (suL w (fW w)).1 (fW w)) 4 i
          rw [old 52 i (by omega) (by omega), a.1]
          unfold imP vW
          dsimp only
          rw [if_neg (by omega), if_neg (by omega), if_neg (by omega), if_pos ⟨rfl, hi⟩]
        · show υ 53 i = vW (imP w (suL w (fW w)).1 (fW w)) 5 i
          rw [old 53 i (by omega) (by omega), a.2.1]
          unfold imP vW
          dsimp only
          rw [if_neg (by omega), if_neg (by omega), if_neg (by omega), if_neg (by omega), if_pos ⟨rfl, hi⟩]
        · show υ 54 i = vW (imP w (suL w (fW w)).1 (fW w)) 6 i
          rw [old 54 i (by omega) (by omega), a.2.2.1]
          unfold imP vW
          dsimp only
          rw [if_neg (by omega), if_neg (by omega), if_neg (by omega), if_neg (by omega), if_neg (by omega), if_pos ⟨rfl, hi⟩]
        · show υ 55 i = vW (imP w (suL w (fW w)).1 (fW w)) 7 i
          rw [old 55 i (by omega) (by omega), a.2.2.2]
          unfold imP vW
          dsimp only
          rw [if_neg (by omega), if_neg (by omega), if_neg (by omega), if_neg (by omega), if_neg (by omega), if_neg (by omega), if_pos ⟨rfl, hi⟩]
end SKC
