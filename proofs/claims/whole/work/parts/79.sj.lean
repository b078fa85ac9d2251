/-! setup, the program's side, all together -/
section SJC
variable {n X : Nat} {σ : sg} {w u : wd}
theorem q_L_startChannelsFrame {s : Nat} (hC : CPc n X σ (imP w u (s + 1))) (hW : okW w) (hu : okW u) (hk : kW u = kW w) (hs' : s < kW w) (e0 : u.1 s 0 = w.1 s 0) : ∃ τ, G_L_startChannelsFrame [.ref 0, .int (nI s)] (hs n σ) = some (hs n τ) ∧ CPc n X τ (frW (imP w u (s + 1)) 3 (chF s (oN (w.1 s)) (iN (w.1 s)) (Pw w s))) ∧ FK σ τ := by
  have h := hC.B
  have hX := hC.ix
  have hb10 : X = 10 ∨ X = 18 := hX
  have hk6 := hW.2.1
  have tt := (hW.u hs').t
  have hS : okS n s := hC.oS (by show s < kW u; omega)
  have hR : RC σ s (u.1 s) := hC.rc (by show s < kW u; omega)
  have o0 : σ (sa s 0) 0 = nI (oN (w.1 s)) := by rw [hR.at (j := 0) 0 (by omega), e0]; exact tt.1
  have o1 : σ (sa s 0) 1 = nI (iN (w.1 s)) := by rw [hR.at (j := 0) 1 (by omega), e0]; exact tt.2.2.1
  have ek : σ 1 2 = nI (kW w) := by
    have : vW (imP w u (s + 1)) 0 0 = vW u 0 0 := rfl
    rw [hC.ck, this, hu.1, hk]
  have hst : hp_i (hs n σ) 2 53 (nI s) = some (.ref (sa s 0)) := iTs h ek hk6 hs'
  have c7 : σ 7 s = nI (Pw w s) := by
    have := hC.2.2.2.2.1 4 s (by unfold celV; omega)
    refine this.trans ?_
    unfold imP vW
    dsimp only
    rw [if_neg (by omega), if_neg (by omega), if_neg (by omega), if_pos ⟨rfl, by omega⟩]
  have sab : ∀ j, 58 ≤ sa s j := fun j => sa_ge s j
  refine mV_s (Nat.le_of_ble_eq_true rfl) ?_
  simp only [jx_L0, List.map_cons, List.map_nil, List.length_cons, List.length_nil, Nat.reduceAdd, Nat.reduceSub, List.replicate, List.cons_append, List.nil_append]
  unfold P_L_startChannelsFrame
  refine wSeq (wS_l (by simp only [e_fI, e_fLd, e_fLr, e_fB, e_fD, e_fC, e_fT, e_fAnd, e_fOr, e_fNot, e_fCC, e_fIf, e_gI, e_gR, e_aI, e_aR, e_aN, e_cV, e_cS, e_fNil, e_fAi, e_fAr, e_sSeq, e_sSkip, e_sSt, e_sSr, e_sInc, e_sRI, e_sRR, e_sRV, e_sIf, e_sCall, e_sPI, e_sPZ, e_sPR, e_sPO, e_sAI, e_sAZ, e_sAO, e_sAR, e_sPopI, e_sPopR, e_sCopy, e_mI, e_mZ, e_mR, e_mV, jAdd_n, jMul_n, z0, z1, Option.bind_some, List.getElem?_cons_zero, List.getElem?_cons_succ, List.set_cons_zero, List.set_cons_succ, eq_self, if_true, ite_and, ite_or, ite_I, ite_bI, ite_bJ, bI_ne, bI_01, List.cons_append, List.nil_append, Bool.false_eq_true, if_false, gT0_0 h, gT1_0 h, hst]; rfl) ?_)
  -- the mailbox
  obtain ⟨τ1, e1, r1, z1, f1⟩ := q_L_startFrame (c := nI 5) (a := nI (s + 1)) (o := nI 32) (l := nI 8) hC
  have hD0 := hX.D0
  refine wSeq (wS_l (by simp only [e_fI, e_fLd, e_fLr, e_fB, e_fD, e_fC, e_fT, e_fAnd, e_fOr, e_fNot, e_fCC, e_fIf, e_gI, e_gR, e_aI, e_aR, e_aN, e_cV, e_cS, e_fNil, e_fAi, e_fAr, e_sSeq, e_sSkip, e_sSt, e_sSr, e_sInc, e_sRI, e_sRR, e_sRV, e_sIf, e_sCall, e_sPI, e_sPZ, e_sPR, e_sPO, e_sAI, e_sAZ, e_sAO, e_sAR, e_sPopI, e_sPopR, e_sCopy, e_mI, e_mZ, e_mR, e_mV, jAdd_n, jMul_n, z0, z1, Option.bind_some, List.getElem?_cons_zero, List.getElem?_cons_succ, List.set_cons_zero, List.set_cons_succ, eq_self, if_true, ite_and, ite_or, ite_I, ite_bI, ite_bJ, bI_ne, bI_01, List.cons_append, List.nil_append, Bool.false_eq_true, if_false, kT0 h, e1]; rfl) ?_)
  refine wSeq (wS_l (by simp only [e_fI, e_fLd, e_fLr, e_fB, e_fD, e_fC, e_fT, e_fAnd, e_fOr, e_fNot, e_fCC, e_fIf, e_gI, e_gR, e_aI, e_aR, e_aN, e_cV, e_cS, e_fNil, e_fAi, e_fAr, e_sSeq, e_sSkip, e_sSt, e_sSr, e_sInc, e_sRI, e_sRR, e_sRV, e_sIf, e_sCall, e_sPI, e_sPZ, e_sPR, e_sPO, e_sAI, e_sAZ, e_sAO, e_sAR, e_sPopI, e_sPopR, e_sCopy, e_mI, e_mZ, e_mR, e_mV, jAdd_n, jMul_n, z0, z1, Option.bind_some, List.getElem?_cons_zero, List.getElem?_cons_succ, List.set_cons_zero, List.set_cons_succ, eq_self, if_true, ite_and, ite_or, ite_I, ite_bI, ite_bJ, bI_ne, bI_01, List.cons_append, List.nil_append, Bool.false_eq_true, if_false, gD5 h hD0, q_L_writeChannel h hD0 (show 0 + 3 < 8 by omega)]; rfl) ?_)
  refine wSeq (wS_l (by simp only [e_fI, e_fLd, e_fLr, e_fB, e_fD, e_fC, e_fT, e_fAnd, e_fOr, e_fNot, e_fCC, e_fIf, e_gI, e_gR, e_aI, e_aR, e_aN, e_cV, e_cS, e_fNil, e_fAi, e_fAr, e_sSeq, e_sSkip, e_sSt, e_sSr, e_sInc, e_sRI, e_sRR, e_sRV, e_sIf, e_sCall, e_sPI, e_sPZ, e_sPR, e_sPO, e_sAI, e_sAZ, e_sAO, e_sAR, e_sPopI, e_sPopR, e_sCopy, e_mI, e_mZ, e_mR, e_mV, jAdd_n, jMul_n, z0, z1, Option.bind_some, List.getElem?_cons_zero, List.getElem?_cons_succ, List.set_cons_zero, List.set_cons_succ, eq_self, if_true, ite_and, ite_or, ite_I, ite_bI, ite_bJ, bI_ne, bI_01, List.cons_append, List.nil_append, Bool.false_eq_true, if_false, gD5 h hD0, q_L_writeChannel h hD0 (show 4 + 3 < 8 by omega)]; rfl) ?_)
  have g0 : RD (wc (wc τ1 (X + 2 + 1) 0 (nI 64) (nI 6) (nI 3)) (X + 2 + 1) 4 (nI 72) (nI 6) (nI 1)) (X + 2) (e0G s) := r1.wc.wc
  have z1' : wc (wc τ1 (X + 2 + 1) 0 (nI 64) (nI 6) (nI 3)) (X + 2 + 1) 4 (nI 72) (nI 6) (nI 1) X 1 = nI 1 := by rw [wc_ne (by omega), wc_ne (by omega)]; exact z1
  have f1' : ∀ b, b ≠ X → ¬ (X + 2 ≤ b ∧ b < X + 8) → wc (wc τ1 (X + 2 + 1) 0 (nI 64) (nI 6) (nI 3)) (X + 2 + 1) 4 (nI 72) (nI 6) (nI 1) b = σ b := fun b g1 g2 => by rw [wc_ne (by omega), wc_ne (by omega)]; exact f1 b g1 g2
  generalize wc (wc τ1 (X + 2 + 1) 0 (nI 64) (nI 6) (nI 3)) (X + 2 + 1) 4 (nI 72) (nI 6) (nI 1) = τ2 at g0 z1' f1' ⊢
  -- the process data
  obtain ⟨τ3, e3, r3, z3, f3⟩ := q_F_append (σ := τ2) (z := 1) (c := nI 5) (a := nI (s + 1)) (o := nI 40) (l := nI 8) h hX z1' (by omega)
  have g32 : τ2 0 3 = nI X := by rw [f1' 0 (by omega) (by omega)]; exact hC.2.2.2.1
  refine wSeq (wS_l (by simp only [e_fI, e_fLd, e_fLr, e_fB, e_fD, e_fC, e_fT, e_fAnd, e_fOr, e_fNot, e_fCC, e_fIf, e_gI, e_gR, e_aI, e_aR, e_aN, e_cV, e_cS, e_fNil, e_fAi, e_fAr, e_sSeq, e_sSkip, e_sSt, e_sSr, e_sInc, e_sRI, e_sRR, e_sRV, e_sIf, e_sCall, e_sPI, e_sPZ, e_sPR, e_sPO, e_sAI, e_sAZ, e_sAO, e_sAR, e_sPopI, e_sPopR, e_sCopy, e_mI, e_mZ, e_mR, e_mV, jAdd_n, jMul_n, z0, z1, Option.bind_some, List.getElem?_cons_zero, List.getElem?_cons_succ, List.set_cons_zero, List.set_cons_succ, eq_self, if_true, ite_and, ite_or, ite_I, ite_bI, ite_bJ, bI_ne, bI_01, List.cons_append, List.nil_append, Bool.false_eq_true, if_false, gL3 h g32 (show X < 2 ^ 31 by omega), kX h hX, e3]; rfl) ?_)
  have hD1 : isD (X + 2 + 2 * 1) := hX.D (by omega)
  have o03 : τ3 (sa s 0) 0 = nI (oN (w.1 s)) := by rw [f3 _ (by have := sab 0; omega) (by have := sab 0; omega) (by have := sab 0; omega), f1' _ (by have := sab 0; omega) (by have := sab 0; omega)]; exact o0
  have o13 : τ3 (sa s 0) 1 = nI (iN (w.1 s)) := by rw [f3 _ (by have := sab 0; omega) (by have := sab 0; omega) (by have := sab 0; omega), f1' _ (by have := sab 0; omega) (by have := sab 0; omega)]; exact o1
  refine wSeq (wS_l (by simp only [e_fI, e_fLd, e_fLr, e_fB, e_fD, e_fC, e_fT, e_fAnd, e_fOr, e_fNot, e_fCC, e_fIf, e_gI, e_gR, e_aI, e_aR, e_aN, e_cV, e_cS, e_fNil, e_fAi, e_fAr, e_sSeq, e_sSkip, e_sSt, e_sSr, e_sInc, e_sRI, e_sRR, e_sRV, e_sIf, e_sCall, e_sPI, e_sPZ, e_sPR, e_sPO, e_sAI, e_sAZ, e_sAO, e_sAR, e_sPopI, e_sPopR, e_sCopy, e_mI, e_mZ, e_mR, e_mV, jAdd_n, jMul_n, z0, z1, Option.bind_some, List.getElem?_cons_zero, List.getElem?_cons_succ, List.set_cons_zero, List.set_cons_succ, eq_self, if_true, ite_and, ite_or, ite_I, ite_bI, ite_bJ, bI_ne, bI_01, List.cons_append, List.nil_append, Bool.false_eq_true, if_false, gD5 h hD1, gS0_0 hS, o03, q_L_writeChannel h hD1 (show 0 + 3 < 8 by omega)]; rfl) ?_)
  have o14 : wc τ3 (X + 2 + 2 * 1 + 1) 0 (nI 80) (nI (oN (w.1 s))) (nI 2) (sa s 0) 1 = nI (iN (w.1 s)) := by rw [wc_ne (by have := sab 0; omega)]; exact o13
  refine wSeq (wS_l (by simp only [e_fI, e_fLd, e_fLr, e_fB, e_fD, e_fC, e_fT, e_fAnd, e_fOr, e_fNot, e_fCC, e_fIf, e_gI, e_gR, e_aI, e_aR, e_aN, e_cV, e_cS, e_fNil, e_fAi, e_fAr, e_sSeq, e_sSkip, e_sSt, e_sSr, e_sInc, e_sRI, e_sRR, e_sRV, e_sIf, e_sCall, e_sPI, e_sPZ, e_sPR, e_sPO, e_sAI, e_sAZ, e_sAO, e_sAR, e_sPopI, e_sPopR, e_sCopy, e_mI, e_mZ, e_mR, e_mV, jAdd_n, jMul_n, z0, z1, Option.bind_some, List.getElem?_cons_zero, List.getElem?_cons_succ, List.set_cons_zero, List.set_cons_succ, eq_self, if_true, ite_and, ite_or, ite_I, ite_bI, ite_bJ, bI_ne, bI_01, List.cons_append, List.nil_append, Bool.false_eq_true, if_false, gD5 h hD1, gS0_1 hS, o14, q_L_writeChannel h hD1 (show 4 + 3 < 8 by omega)]; rfl) ?_)
  have g1 : RD (wc (wc τ3 (X + 2 + 2 * 1 + 1) 0 (nI 80) (nI (oN (w.1 s))) (nI 2)) (X + 2 + 2 * 1 + 1) 4 (nI 96) (nI (iN (w.1 s))) (nI 0)) (X + 2 + 2 * 1) (e1G s (oN (w.1 s)) (iN (w.1 s))) := r3.wc.wc
  have f3' : ∀ b, b ≠ X → ¬ (X + 4 ≤ b ∧ b < X + 6) → wc (wc τ3 (X + 2 + 2 * 1 + 1) 0 (nI 80) (nI (oN (w.1 s))) (nI 2)) (X + 2 + 2 * 1 + 1) 4 (nI 96) (nI (iN (w.1 s))) (nI 0) b = τ2 b := fun b g1 g2 => by rw [wc_ne (by omega), wc_ne (by omega)]; exact f3 b g1 (by omega) (by omega)
  have z3' : wc (wc τ3 (X + 2 + 2 * 1 + 1) 0 (nI 80) (nI (oN (w.1 s))) (nI 2)) (X + 2 + 2 * 1 + 1) 4 (nI 96) (nI (iN (w.1 s))) (nI 0) X 1 = nI 2 := by rw [wc_ne (by omega), wc_ne (by omega)]; exact z3
  generalize wc (wc τ3 (X + 2 + 2 * 1 + 1) 0 (nI 80) (nI (oN (w.1 s))) (nI 2)) (X + 2 + 2 * 1 + 1) 4 (nI 96) (nI (iN (w.1 s))) (nI 0) = τ4 at g1 f3' z3' ⊢
  -- the map
  obtain ⟨τ5, e5, r5, z5, f5⟩ := q_F_append (σ := τ4) (z := 2) (c := nI 5) (a := nI (s + 1)) (o := nI 8) (l := nI 6) h hX z3' (by omega)
  have g34 : τ4 0 3 = nI X := by rw [f3' 0 (by omega) (by omega)]; exact g32
  refine wSeq (wS_l (by simp only [e_fI, e_fLd, e_fLr, e_fB, e_fD, e_fC, e_fT, e_fAnd, e_fOr, e_fNot, e_fCC, e_fIf, e_gI, e_gR, e_aI, e_aR, e_aN, e_cV, e_cS, e_fNil, e_fAi, e_fAr, e_sSeq, e_sSkip, e_sSt, e_sSr, e_sInc, e_sRI, e_sRR, e_sRV, e_sIf, e_sCall, e_sPI, e_sPZ, e_sPR, e_sPO, e_sAI, e_sAZ, e_sAO, e_sAR, e_sPopI, e_sPopR, e_sCopy, e_mI, e_mZ, e_mR, e_mV, jAdd_n, jMul_n, z0, z1, Option.bind_some, List.getElem?_cons_zero, List.getElem?_cons_succ, List.set_cons_zero, List.set_cons_succ, eq_self, if_true, ite_and, ite_or, ite_I, ite_bI, ite_bJ, bI_ne, bI_01, List.cons_append, List.nil_append, Bool.false_eq_true, if_false, gL3 h g34 (show X < 2 ^ 31 by omega), kX h hX, e5]; rfl) ?_)
  have hD2 : isD (X + 2 + 2 * 2) := hX.D (by omega)
  have o05 : τ5 (sa s 0) 0 = nI (oN (w.1 s)) := by rw [f5 _ (by have := sab 0; omega) (by have := sab 0; omega) (by have := sab 0; omega), f3' _ (by have := sab 0; omega) (by have := sab 0; omega), f1' _ (by have := sab 0; omega) (by have := sab 0; omega)]; exact o0
  have c75 : τ5 7 s = nI (Pw w s) := by rw [f5 7 (by omega) (by omega) (by omega), f3' 7 (by omega) (by omega), f1' 7 (by omega) (by omega)]; exact c7
  refine wSeq (wS_l (by simp only [e_fI, e_fLd, e_fLr, e_fB, e_fD, e_fC, e_fT, e_fAnd, e_fOr, e_fNot, e_fCC, e_fIf, e_gI, e_gR, e_aI, e_aR, e_aN, e_cV, e_cS, e_fNil, e_fAi, e_fAr, e_sSeq, e_sSkip, e_sSt, e_sSr, e_sInc, e_sRI, e_sRR, e_sRV, e_sIf, e_sCall, e_sPI, e_sPZ, e_sPR, e_sPO, e_sAI, e_sAZ, e_sAO, e_sAR, e_sPopI, e_sPopR, e_sCopy, e_mI, e_mZ, e_mR, e_mV, jAdd_n, jMul_n, z0, z1, Option.bind_some, List.getElem?_cons_zero, List.getElem?_cons_succ, List.set_cons_zero, List.set_cons_succ, eq_self, if_true, ite_and, ite_or, ite_I, ite_bI, ite_bJ, bI_ne, bI_01, List.cons_append, List.nil_append, Bool.false_eq_true, if_false, gD5 h hD2, gT0_1 h, gT4_2 h, iT7 h (show s < 6 by omega), c75, gS0_0 hS, o05, q_L_writeMap h hD2]; rfl) ?_)
  have g2 : RD (up (up (up (up (up (up τ5 (X + 2 + 2 * 2 + 1) 0 (nI (Pw w s))) (X + 2 + 2 * 2 + 1) 1 (nI 0)) (X + 2 + 2 * 2 + 1) 2 (nI (8 * oN (w.1 s)))) (X + 2 + 2 * 2 + 1) 3 (nI 80)) (X + 2 + 2 * 2 + 1) 4 (nI 0)) (X + 2 + 2 * 2 + 1) 5 (nI 2)) (X + 2 + 2 * 2) (e2G s (oN (w.1 s)) (Pw w s)) := r5.u1.u1.u1.u1.u1.u1
  have f5' : ∀ b, b ≠ X → ¬ (X + 6 ≤ b ∧ b < X + 8) → up (up (up (up (up (up τ5 (X + 2 + 2 * 2 + 1) 0 (nI (Pw w s))) (X + 2 + 2 * 2 + 1) 1 (nI 0)) (X + 2 + 2 * 2 + 1) 2 (nI (8 * oN (w.1 s)))) (X + 2 + 2 * 2 + 1) 3 (nI 80)) (X + 2 + 2 * 2 + 1) 4 (nI 0)) (X + 2 + 2 * 2 + 1) 5 (nI 2) b = τ4 b := fun b g1 g2 => by
    have q : b ≠ X + 2 + 2 * 2 + 1 := by omega
    rw [up_ne q, up_ne q, up_ne q, up_ne q, up_ne q, up_ne q]
    exact f5 b g1 (by omega) q
  have z5' : up (up (up (up (up (up τ5 (X + 2 + 2 * 2 + 1) 0 (nI (Pw w s))) (X + 2 + 2 * 2 + 1) 1 (nI 0)) (X + 2 + 2 * 2 + 1) 2 (nI (8 * oN (w.1 s)))) (X + 2 + 2 * 2 + 1) 3 (nI 80)) (X + 2 + 2 * 2 + 1) 4 (nI 0)) (X + 2 + 2 * 2 + 1) 5 (nI 2) X 1 = nI 3 := by
    have q : X ≠ X + 2 + 2 * 2 + 1 := by omega
    rw [up_ne q, up_ne q, up_ne q, up_ne q, up_ne q, up_ne q]
    exact z5
  generalize up (up (up (up (up (up τ5 (X + 2 + 2 * 2 + 1) 0 (nI (Pw w s))) (X + 2 + 2 * 2 + 1) 1 (nI 0)) (X + 2 + 2 * 2 + 1) 2 (nI (8 * oN (w.1 s)))) (X + 2 + 2 * 2 + 1) 3 (nI 80)) (X + 2 + 2 * 2 + 1) 4 (nI 0)) (X + 2 + 2 * 2 + 1) 5 (nI 2) = τ6 at g2 f5' z5' ⊢
  have fin : ∀ b, b ≠ X → ¬ (X + 2 ≤ b ∧ b < X + 8) → τ6 b = σ b := fun b g1 g2 => by rw [f5' b g1 (by omega), f3' b g1 (by omega)]; exact f1' b g1 g2
  refine wS_r rfl ⟨rfl, τ6, rfl, hC.fr fin z5' (by omega) (fun e he => ?_), FK.fr hX fin⟩
  unfold chF
  rcases (show e = 0 ∨ e = 1 ∨ e = 2 by omega) with rfl | rfl | rfl
  · rw [if_pos rfl]
    exact (g0.keep (f3' _ (by omega) (by omega)) (f3' _ (by omega) (by omega))).keep (f5' _ (by omega) (by omega)) (f5' _ (by omega) (by omega))
  · rw [if_neg (by omega), if_pos rfl]
    exact g1.keep (f5' _ (by omega) (by omega)) (f5' _ (by omega) (by omega))
  · rw [if_neg (by omega), if_neg (by omega)]
    exact g2
theorem q_L_startInputsFrame {s : Nat} (hC : CPc n X σ (imP w u (s + 1))) (hW : okW w) (hu : okW u) (hk : kW u = kW w) (hs' : s < kW w) (e0 : u.1 s 0 = w.1 s 0) : ∃ τ, G_L_startInputsFrame [.ref 0, .int (nI s)] (hs n σ) = some (hs n τ) ∧ CPc n X τ (frW (imP w u (s + 1)) 1 (fun _ => e3G s (iN (w.1 s)) (Pw w s + oN (w.1 s)))) ∧ FK σ τ := by
  have h := hC.B
  have hX := hC.ix
  have hb10 : X = 10 ∨ X = 18 := hX
  have hk6 := hW.2.1
  have tt := (hW.u hs').t
  have hS : okS n s := hC.oS (by show s < kW u; omega)
  have hR : RC σ s (u.1 s) := hC.rc (by show s < kW u; omega)
  have o1 : σ (sa s 0) 1 = nI (iN (w.1 s)) := by rw [hR.at (j := 0) 1 (by omega), e0]; exact tt.2.2.1
  have ek : σ 1 2 = nI (kW w) := by
    have : vW (imP w u (s + 1)) 0 0 = vW u 0 0 := rfl
    rw [hC.ck, this, hu.1, hk]
  have c8 : σ 8 s = nI (Pw w s + oN (w.1 s)) := by
    have := hC.2.2.2.2.1 5 s (by unfold celV; omega)
    refine this.trans ?_
    unfold imP vW
    dsimp only
    rw [if_neg (by omega), if_neg (by omega), if_neg (by omega), if_neg (by omega), if_pos ⟨rfl, by omega⟩]
  have sab : ∀ j, 58 ≤ sa s j := fun j => sa_ge s j
  refine mV_s (Nat.le_of_ble_eq_true rfl) ?_
  simp only [jx_L0, List.map_cons, List.map_nil, List.length_cons, List.length_nil, Nat.reduceAdd, Nat.reduceSub, List.replicate, List.cons_append, List.nil_append]
  unfold P_L_startInputsFrame
  obtain ⟨τ1, e1, r1, z1, f1⟩ := q_L_startFrame (c := nI 5) (a := nI (s + 1)) (o := nI 14) (l := nI 6) hC
  have hD0 := hX.D0
  refine wSeq (wS_l (by simp only [e_fI, e_fLd, e_fLr, e_fB, e_fD, e_fC, e_fT, e_fAnd, e_fOr, e_fNot, e_fCC, e_fIf, e_gI, e_gR, e_aI, e_aR, e_aN, e_cV, e_cS, e_fNil, e_fAi, e_fAr, e_sSeq, e_sSkip, e_sSt, e_sSr, e_sInc, e_sRI, e_sRR, e_sRV, e_sIf, e_sCall, e_sPI, e_sPZ, e_sPR, e_sPO, e_sAI, e_sAZ, e_sAO, e_sAR, e_sPopI, e_sPopR, e_sCopy, e_mI, e_mZ, e_mR, e_mV, jAdd_n, jMul_n, z0, z1, Option.bind_some, List.getElem?_cons_zero, List.getElem?_cons_succ, List.set_cons_zero, List.set_cons_succ, eq_self, if_true, ite_and, ite_or, ite_I, ite_bI, ite_bJ, bI_ne, bI_01, List.cons_append, List.nil_append, Bool.false_eq_true, if_false, kT0 h, e1]; rfl) ?_)
  have ek1 : τ1 1 2 = nI (kW w) := by rw [f1 1 (by omega) (by omega)]; exact ek
  have o11 : τ1 (sa s 0) 1 = nI (iN (w.1 s)) := by rw [f1 _ (by have := sab 0; omega) (by have := sab 0; omega)]; exact o1
  have c81 : τ1 8 s = nI (Pw w s + oN (w.1 s)) := by rw [f1 8 (by omega) (by omega)]; exact c8
  refine wSeq (wS_l (by simp only [e_fI, e_fLd, e_fLr, e_fB, e_fD, e_fC, e_fT, e_fAnd, e_fOr, e_fNot, e_fCC, e_fIf, e_gI, e_gR, e_aI, e_aR, e_aN, e_cV, e_cS, e_fNil, e_fAi, e_fAr, e_sSeq, e_sSkip, e_sSt, e_sSr, e_sInc, e_sRI, e_sRR, e_sRV, e_sIf, e_sCall, e_sPI, e_sPZ, e_sPR, e_sPO, e_sAI, e_sAZ, e_sAO, e_sAR, e_sPopI, e_sPopR, e_sCopy, e_mI, e_mZ, e_mR, e_mV, jAdd_n, jMul_n, z0, z1, Option.bind_some, List.getElem?_cons_zero, List.getElem?_cons_succ, List.set_cons_zero, List.set_cons_succ, eq_self, if_true, ite_and, ite_or, ite_I, ite_bI, ite_bJ, bI_ne, bI_01, List.cons_append, List.nil_append, Bool.false_eq_true, if_false, gD5 h hD0, gT0_1 h, gT4_3 h, iT8 h (show s < 6 by omega), c81, gT0_0 h, gT1_0 h, iTs h ek1 hk6 hs', gS0_1 hS, o11, q_L_writeMap h hD0]; rfl) ?_)
  have q : ∀ b, b ≠ X + 2 + 1 → up (up (up (up (up (up τ1 (X + 2 + 1) 0 (nI (Pw w s + oN (w.1 s)))) (X + 2 + 1) 1 (nI 0)) (X + 2 + 1) 2 (nI (8 * iN (w.1 s)))) (X + 2 + 1) 3 (nI 96)) (X + 2 + 1) 4 (nI 0)) (X + 2 + 1) 5 (nI 1) b = τ1 b := fun b g => by rw [up_ne g, up_ne g, up_ne g, up_ne g, up_ne g, up_ne g]
  have fin : ∀ b, b ≠ X → ¬ (X + 2 ≤ b ∧ b < X + 8) → up (up (up (up (up (up τ1 (X + 2 + 1) 0 (nI (Pw w s + oN (w.1 s)))) (X + 2 + 1) 1 (nI 0)) (X + 2 + 1) 2 (nI (8 * iN (w.1 s)))) (X + 2 + 1) 3 (nI 96)) (X + 2 + 1) 4 (nI 0)) (X + 2 + 1) 5 (nI 1) b = σ b := fun b g1 g2 => (q b (by omega)).trans (f1 b g1 g2)
  refine wS_r rfl ⟨rfl, _, rfl, hC.fr fin (by rw [q X (by omega)]; exact z1) (by omega) (fun e he => ?_), FK.fr hX fin⟩
  rw [show X + 2 + 2 * e = X + 2 by omega]
  exact r1.u1.u1.u1.u1.u1.u1
theorem c_setup (hC : CPc n X σ w) (hW : okW w) : ∃ τ, G_L_setup [.ref 0] (hs n σ) = some (nI (suL w (fW w)).2, hs n τ) ∧ CPc n X τ (suW w) ∧ FK σ τ := by
  have h := hC.B
  have hX := hC.ix
  have hk6 := hW.2.1
  have hf := hW.2.2.2.2.2.1
  have ef : vW w 0 3 = nI (fW w) := hW.2.2.2.2.1
  refine mI_t (Nat.le_of_ble_eq_true rfl) ?_
  simp only [jx_L0, List.map_cons, List.map_nil, List.length_cons, List.length_nil, Nat.reduceAdd, Nat.reduceSub, List.replicate, List.cons_append, List.nil_append]
  unfold P_L_setup
  obtain ⟨τ1, e1, r1, f1⟩ := q_I_forget hC
  rw [← imP_0] at r1
  refine wSeq (wS_l (by simp only [e_fI, e_fLd, e_fLr, e_fB, e_fD, e_fC, e_fT, e_fAnd, e_fOr, e_fNot, e_fCC, e_fIf, e_gI, e_gR, e_aI, e_aR, e_aN, e_cV, e_cS, e_fNil, e_fAi, e_fAr, e_sSeq, e_sSkip, e_sSt, e_sSr, e_sInc, e_sRI, e_sRR, e_sRV, e_sIf, e_sCall, e_sPI, e_sPZ, e_sPR, e_sPO, e_sAI, e_sAZ, e_sAO, e_sAR, e_sPopI, e_sPopR, e_sCopy, e_mI, e_mZ, e_mR, e_mV, jAdd_n, jMul_n, z0, z1, Option.bind_some, List.getElem?_cons_zero, List.getElem?_cons_succ, List.set_cons_zero, List.set_cons_succ, eq_self, if_true, ite_and, ite_or, ite_I, ite_bI, ite_bJ, bI_ne, bI_01, List.cons_append, List.nil_append, Bool.false_eq_true, if_false, gT0_1 h, kT4 h, e1]; rfl) ?_)
  refine wSeq (wS_l (by simp only [e_fI, e_fLd, e_fLr, e_fB, e_fD, e_fC, e_fT, e_fAnd, e_fOr, e_fNot, e_fCC, e_fIf, e_gI, e_gR, e_aI, e_aR, e_aN, e_cV, e_cS, e_fNil, e_fAi, e_fAr, e_sSeq, e_sSkip, e_sSt, e_sSr, e_sInc, e_sRI, e_sRR, e_sRV, e_sIf, e_sCall, e_sPI, e_sPZ, e_sPR, e_sPO, e_sAI, e_sAZ, e_sAO, e_sAR, e_sPopI, e_sPopR, e_sCopy, e_mI, e_mZ, e_mR, e_mV, jAdd_n, jMul_n, z0, z1, Option.bind_some, List.getElem?_cons_zero, List.getElem?_cons_succ, List.set_cons_zero, List.set_cons_succ, eq_self, if_true, ite_and, ite_or, ite_I, ite_bI, ite_bJ, bI_ne, bI_01, List.cons_append, List.nil_append, Bool.false_eq_true, if_false]; rfl) ?_)
  refine wSeq (wSeq (wS_l (by simp only [e_fI, e_fLd, e_fLr, e_fB, e_fD, e_fC, e_fT, e_fAnd, e_fOr, e_fNot, e_fCC, e_fIf, e_gI, e_gR, e_aI, e_aR, e_aN, e_cV, e_cS, e_fNil, e_fAi, e_fAr, e_sSeq, e_sSkip, e_sSt, e_sSr, e_sInc, e_sRI, e_sRR, e_sRV, e_sIf, e_sCall, e_sPI, e_sPZ, e_sPR, e_sPO, e_sAI, e_sAZ, e_sAO, e_sAR, e_sPopI, e_sPopR, e_sCopy, e_mI, e_mZ, e_mR, e_mV, jAdd_n, jMul_n, z0, z1, Option.bind_some, List.getElem?_cons_zero, List.getElem?_cons_succ, List.set_cons_zero, List.set_cons_succ, eq_self, if_true, ite_and, ite_or, ite_I, ite_bI, ite_bJ, bI_ne, bI_01, List.cons_append, List.nil_append, Bool.false_eq_true, if_false]; rfl) ?_))
  refine wWh (I := fun s L H => ∃ τ x3 x4, L = [some (.ref 0), some (.int (nI (suL w s).2)), some (.int (nI s)), x3, x4] ∧ H = hs n τ ∧ CPc n X τ (imP w (suL w s).1 s) ∧ FK σ τ) (e := fW w) ?_ ?_ ?_ 600 0 _ _ (by omega) (by omega) ⟨τ1, none, none, rfl, rfl, r1, f1⟩
  · rintro s _ _ ⟨τ, x3, x4, rfl, rfl, hCi, -⟩ hi
    obtain ⟨i1, i2, i3, i4, i5, i6⟩ := suL_ok hW s (by omega)
    have c5 : τ 0 5 = nI (fW w) := by
      have : vW (imP w (suL w s).1 s) 0 3 = vW (suL w s).1 0 3 := rfl
      rw [hCi.cf, this, i5 3 (by omega)]
      exact ef
    have c2 : τ 1 2 = nI (kW w) := by
      have : vW (imP w (suL w s).1 s) 0 0 = vW (suL w s).1 0 0 := rfl
      rw [hCi.ck, this, i5 0 (by omega)]
      exact hW.1
    have e2 : (decide (s < fW w) && decide (s < kW w)) = decide (s < fW w) := by
      by_cases q : s < fW w
      · rw [decide_eq_true q, decide_eq_true (show s < kW w by omega)]
        rfl
      · rw [decide_eq_false q, Bool.false_and]
    simp only [e_fI, e_fLd, e_fLr, e_fB, e_fD, e_fC, e_fT, e_fAnd, e_fOr, e_fNot, e_fCC, e_fIf, e_gI, e_gR, e_aI, e_aR, e_aN, e_cV, e_cS, e_fNil, e_fAi, e_fAr, e_sSeq, e_sSkip, e_sSt, e_sSr, e_sInc, e_sRI, e_sRR, e_sRV, e_sIf, e_sCall, e_sPI, e_sPZ, e_sPR, e_sPO, e_sAI, e_sAZ, e_sAO, e_sAR, e_sPopI, e_sPopR, e_sCopy, e_mI, e_mZ, e_mR, e_mV, jAdd_n, jMul_n, z0, z1, Option.bind_some, List.getElem?_cons_zero, List.getElem?_cons_succ, List.set_cons_zero, List.set_cons_succ, eq_self, if_true, ite_and, ite_or, ite_I, ite_bI, ite_bJ, bI_ne, bI_01, List.cons_append, List.nil_append, Bool.false_eq_true, if_false, gT0_5 h, gT0_0 h, gT1_2 h, c5, c2, jLt, nI_ltI (show s < 2 ^ 31 by omega) (show fW w < 2 ^ 31 by omega), nI_ltI (show s < 2 ^ 31 by omega) (show kW w < 2 ^ 31 by omega), e2]
  · rintro s _ _ ⟨τ, x3, x4, rfl, rfl, hCi, hF⟩ hi
    obtain ⟨i1, i2, i3, i4, i5, i6⟩ := suL_ok hW s (by omega)
    have tt := (hW.u (show s < kW w by omega)).t
    have hp := Pw_b hW s (by omega)
    have ho := tt.2.1
    have hin := tt.2.2.2
    have es : suL w (s + 1) = (st2 (suL w s).1 s (oN (w.1 s)) (iN (w.1 s)) (Pw w s), (suL w s).2 + (if (gd1 (suL w s).1 s (oN (w.1 s)) (iN (w.1 s)) (Pw w s) && gd2 (suL w s).1 s (oN (w.1 s)) (iN (w.1 s)) (Pw w s)) = true then 1 else 0)) := rfl
    rw [es]
    dsimp only
    have e00 := i3 s (by omega)
    generalize (suL w s).1 = u at *
    generalize (suL w s).2 = m at *
    clear es
    have c2 : τ 1 2 = nI (kW w) := by
      have : vW (imP w u s) 0 0 = vW u 0 0 := rfl
      rw [hCi.ck, this, i5 0 (by omega)]
      exact hW.1
    obtain ⟨ρ1, a1, b1, g1⟩ := q_I_append hCi hW i2 (by omega) e00
    refine wSeq (wSeq (wS_l (by simp only [e_fI, e_fLd, e_fLr, e_fB, e_fD, e_fC, e_fT, e_fAnd, e_fOr, e_fNot, e_fCC, e_fIf, e_gI, e_gR, e_aI, e_aR, e_aN, e_cV, e_cS, e_fNil, e_fAi, e_fAr, e_sSeq, e_sSkip, e_sSt, e_sSr, e_sInc, e_sRI, e_sRR, e_sRV, e_sIf, e_sCall, e_sPI, e_sPZ, e_sPR, e_sPO, e_sAI, e_sAZ, e_sAO, e_sAR, e_sPopI, e_sPopR, e_sCopy, e_mI, e_mZ, e_mR, e_mV, jAdd_n, jMul_n, z0, z1, Option.bind_some, List.getElem?_cons_zero, List.getElem?_cons_succ, List.set_cons_zero, List.set_cons_succ, eq_self, if_true, ite_and, ite_or, ite_I, ite_bI, ite_bJ, bI_ne, bI_01, List.cons_append, List.nil_append, Bool.false_eq_true, if_false, gT0_1 h, kT4 h, gT0_0 h, gT1_0 h, iTs h c2 hk6 (show s < kW w by omega), a1]; rfl) ?_))
    obtain ⟨ρ2, a2, b2, g2⟩ := q_L_startChannelsFrame b1 hW i1 i2 (by omega) e00
    refine wSeq (wS_l (by simp only [e_fI, e_fLd, e_fLr, e_fB, e_fD, e_fC, e_fT, e_fAnd, e_fOr, e_fNot, e_fCC, e_fIf, e_gI, e_gR, e_aI, e_aR, e_aN, e_cV, e_cS, e_fNil, e_fAi, e_fAr, e_sSeq, e_sSkip, e_sSt, e_sSr, e_sInc, e_sRI, e_sRR, e_sRV, e_sIf, e_sCall, e_sPI, e_sPZ, e_sPR, e_sPO, e_sAI, e_sAZ, e_sAO, e_sAR, e_sPopI, e_sPopR, e_sCopy, e_mI, e_mZ, e_mR, e_mV, jAdd_n, jMul_n, z0, z1, Option.bind_some, List.getElem?_cons_zero, List.getElem?_cons_succ, List.set_cons_zero, List.set_cons_succ, eq_self, if_true, ite_and, ite_or, ite_I, ite_bI, ite_bJ, bI_ne, bI_01, List.cons_append, List.nil_append, Bool.false_eq_true, if_false, kT0 h, a2]; rfl) ?_)
    have ok1 : okW (frW (imP w u (s + 1)) 3 (chF s (oN (w.1 s)) (iN (w.1 s)) (Pw w s))) := (imP_ok hW i1 i2 (by omega)).1.fr (by omega) (fun _ _ => chF_ok (by omega) ho hin (by omega) _)
    obtain ⟨ρ3, a3, b3, g3⟩ := c_carry (L := [some (.ref 0), some (.int (nI m)), some (.int (nI s)), x3, x4]) b2 ok1 rfl
    refine wSeq (wS_l a3 ?_)
    rw [imP_s] at b3
    have b3' : CPc n X ρ3 (imP w (st1 u s (oN (w.1 s)) (iN (w.1 s)) (Pw w s)) (s + 1)) := b3
    have okS1 : okW (st1 u s (oN (w.1 s)) (iN (w.1 s)) (Pw w s)) := st1_ok i1 (by omega) ho hin (by omega)
    have z3 : zW (st1 u s (oN (w.1 s)) (iN (w.1 s)) (Pw w s)) = 3 := zW_sf (by omega)
    have k3 : kW (st1 u s (oN (w.1 s)) (iN (w.1 s)) (Pw w s)) = kW w := i2
    have e01 : (st1 u s (oN (w.1 s)) (iN (w.1 s)) (Pw w s)).1 s 0 = w.1 s 0 := (sn_0 i1 (by omega) (fun _ _ => chF_ok (by omega) ho hin (by omega) _) (by omega)).trans e00
    have q3 : G_F_isCountedOnce [.ref X] (hs n ρ3) = some (bI ((List.range 3).all (fun e => jEq ((st1 u s (oN (w.1 s)) (iN (w.1 s)) (Pw w s)).2.2.1 e 0 4) (nI 1))), hs n ρ3) := by
      have cz : ρ3 X 1 = nI 3 := by
        have : vW (imP w (st1 u s (oN (w.1 s)) (iN (w.1 s)) (Pw w s)) (s + 1)) 0 5 = vW (st1 u s (oN (w.1 s)) (iN (w.1 s)) (Pw w s)) 0 5 := rfl
        rw [b3'.cz, this, okS1.z.1, z3]
      exact q_F_isCountedOnce (z := 3) h hX cz (by omega) (fun e he => b3'.2.2.2.2.2.2.2 e (by show e < zW (st1 u s (oN (w.1 s)) (iN (w.1 s)) (Pw w s)); omega))
    have cb3 : ρ3 0 4 = bI (bW (st1 u s (oN (w.1 s)) (iN (w.1 s)) (Pw w s))) := b3'.cb.trans okS1.b
    have eg1 : (bW (st1 u s (oN (w.1 s)) (iN (w.1 s)) (Pw w s)) && (List.range 3).all (fun e => jEq ((st1 u s (oN (w.1 s)) (iN (w.1 s)) (Pw w s)).2.2.1 e 0 4) (nI 1))) = gd1 u s (oN (w.1 s)) (iN (w.1 s)) (Pw w s) := rfl
    refine wSeq (wS_l (by simp only [e_fI, e_fLd, e_fLr, e_fB, e_fD, e_fC, e_fT, e_fAnd, e_fOr, e_fNot, e_fCC, e_fIf, e_gI, e_gR, e_aI, e_aR, e_aN, e_cV, e_cS, e_fNil, e_fAi, e_fAr, e_sSeq, e_sSkip, e_sSt, e_sSr, e_sInc, e_sRI, e_sRR, e_sRV, e_sIf, e_sCall, e_sPI, e_sPZ, e_sPR, e_sPO, e_sAI, e_sAZ, e_sAO, e_sAR, e_sPopI, e_sPopR, e_sCopy, e_mI, e_mZ, e_mR, e_mV, jAdd_n, jMul_n, z0, z1, Option.bind_some, List.getElem?_cons_zero, List.getElem?_cons_succ, List.set_cons_zero, List.set_cons_succ, eq_self, if_true, ite_and, ite_or, ite_I, ite_bI, ite_bJ, bI_ne, bI_01, List.cons_append, List.nil_append, Bool.false_eq_true, if_false, gT0_4 h, cb3, b3'.g3, kX h hX, q3, eg1]; rfl) ?_)
    obtain ⟨ρ4, a4, b4, g4⟩ := q_L_startInputsFrame b3' hW okS1 k3 (by omega) e01
    refine wSeq (wS_l (by simp only [e_fI, e_fLd, e_fLr, e_fB, e_fD, e_fC, e_fT, e_fAnd, e_fOr, e_fNot, e_fCC, e_fIf, e_gI, e_gR, e_aI, e_aR, e_aN, e_cV, e_cS, e_fNil, e_fAi, e_fAr, e_sSeq, e_sSkip, e_sSt, e_sSr, e_sInc, e_sRI, e_sRR, e_sRV, e_sIf, e_sCall, e_sPI, e_sPZ, e_sPR, e_sPO, e_sAI, e_sAZ, e_sAO, e_sAR, e_sPopI, e_sPopR, e_sCopy, e_mI, e_mZ, e_mR, e_mV, jAdd_n, jMul_n, z0, z1, Option.bind_some, List.getElem?_cons_zero, List.getElem?_cons_succ, List.set_cons_zero, List.set_cons_succ, eq_self, if_true, ite_and, ite_or, ite_I, ite_bI, ite_bJ, bI_ne, bI_01, List.cons_append, List.nil_append, Bool.false_eq_true, if_false, kT0 h, a4]; rfl) ?_)
    have ok2 : okW (frW (imP w (st1 u s (oN (w.1 s)) (iN (w.1 s)) (Pw w s)) (s + 1)) 1 (fun _ => e3G s (iN (w.1 s)) (Pw w s + oN (w.1 s)))) := (imP_ok hW okS1 k3 (by omega)).1.fr (by omega) (fun _ _ => e3_ok (by omega) hin (by omega))
    obtain ⟨ρ5, a5, b5, g5⟩ := c_carry (L := [some (.ref 0), some (.int (nI m)), some (.int (nI s)), some (.int (bI (gd1 u s (oN (w.1 s)) (iN (w.1 s)) (Pw w s)))), x4]) b4 ok2 rfl
    refine wSeq (wS_l a5 ?_)
    rw [imP_s] at b5
    have b5' : CPc n X ρ5 (imP w (st2 u s (oN (w.1 s)) (iN (w.1 s)) (Pw w s)) (s + 1)) := b5
    have okS2 : okW (st2 u s (oN (w.1 s)) (iN (w.1 s)) (Pw w s)) := st2_ok i1 (by omega) ho hin (by omega)
    have z5 : zW (st2 u s (oN (w.1 s)) (iN (w.1 s)) (Pw w s)) = 1 := zW_sf (by omega)
    have q5 : G_F_isCountedOnce [.ref X] (hs n ρ5) = some (bI ((List.range 1).all (fun e => jEq ((st2 u s (oN (w.1 s)) (iN (w.1 s)) (Pw w s)).2.2.1 e 0 4) (nI 1))), hs n ρ5) := by
      have cz : ρ5 X 1 = nI 1 := by
        have : vW (imP w (st2 u s (oN (w.1 s)) (iN (w.1 s)) (Pw w s)) (s + 1)) 0 5 = vW (st2 u s (oN (w.1 s)) (iN (w.1 s)) (Pw w s)) 0 5 := rfl
        rw [b5'.cz, this, okS2.z.1, z5]
      exact q_F_isCountedOnce (z := 1) h hX cz (by omega) (fun e he => b5'.2.2.2.2.2.2.2 e (by show e < zW (st2 u s (oN (w.1 s)) (iN (w.1 s)) (Pw w s)); omega))
    have cb5 : ρ5 0 4 = bI (bW (st2 u s (oN (w.1 s)) (iN (w.1 s)) (Pw w s))) := b5'.cb.trans okS2.b
    have eg2 : (bW (st2 u s (oN (w.1 s)) (iN (w.1 s)) (Pw w s)) && (List.range 1).all (fun e => jEq ((st2 u s (oN (w.1 s)) (iN (w.1 s)) (Pw w s)).2.2.1 e 0 4) (nI 1))) = gd2 u s (oN (w.1 s)) (iN (w.1 s)) (Pw w s) := rfl
    refine wSeq (wS_l (by simp only [e_fI, e_fLd, e_fLr, e_fB, e_fD, e_fC, e_fT, e_fAnd, e_fOr, e_fNot, e_fCC, e_fIf, e_gI, e_gR, e_aI, e_aR, e_aN, e_cV, e_cS, e_fNil, e_fAi, e_fAr, e_sSeq, e_sSkip, e_sSt, e_sSr, e_sInc, e_sRI, e_sRR, e_sRV, e_sIf, e_sCall, e_sPI, e_sPZ, e_sPR, e_sPO, e_sAI, e_sAZ, e_sAO, e_sAR, e_sPopI, e_sPopR, e_sCopy, e_mI, e_mZ, e_mR, e_mV, jAdd_n, jMul_n, z0, z1, Option.bind_some, List.getElem?_cons_zero, List.getElem?_cons_succ, List.set_cons_zero, List.set_cons_succ, eq_self, if_true, ite_and, ite_or, ite_I, ite_bI, ite_bJ, bI_ne, bI_01, List.cons_append, List.nil_append, Bool.false_eq_true, if_false, gT0_4 h, cb5, b5'.g3, kX h hX, q5, eg2]; rfl) ?_)
    have hFF : FK σ ρ5 := hF.t (g1.t (g2.t (g3.t (g4.t g5))))
    refine wIf (by simp only [e_fI, e_fLd, e_fLr, e_fB, e_fD, e_fC, e_fT, e_fAnd, e_fOr, e_fNot, e_fCC, e_fIf, e_gI, e_gR, e_aI, e_aR, e_aN, e_cV, e_cS, e_fNil, e_fAi, e_fAr, e_sSeq, e_sSkip, e_sSt, e_sSr, e_sInc, e_sRI, e_sRR, e_sRV, e_sIf, e_sCall, e_sPI, e_sPZ, e_sPR, e_sPO, e_sAI, e_sAZ, e_sAO, e_sAR, e_sPopI, e_sPopR, e_sCopy, e_mI, e_mZ, e_mR, e_mV, jAdd_n, jMul_n, z0, z1, Option.bind_some, List.getElem?_cons_zero, List.getElem?_cons_succ, List.set_cons_zero, List.set_cons_succ, eq_self, if_true, ite_and, ite_or, ite_I, ite_bI, ite_bJ, bI_ne, bI_01, List.cons_append, List.nil_append, Bool.false_eq_true, if_false]; rfl) (fun hb => ?_) (fun hb => ?_)
    · refine wS_l (by simp only [e_fI, e_fLd, e_fLr, e_fB, e_fD, e_fC, e_fT, e_fAnd, e_fOr, e_fNot, e_fCC, e_fIf, e_gI, e_gR, e_aI, e_aR, e_aN, e_cV, e_cS, e_fNil, e_fAi, e_fAr, e_sSeq, e_sSkip, e_sSt, e_sSr, e_sInc, e_sRI, e_sRR, e_sRV, e_sIf, e_sCall, e_sPI, e_sPZ, e_sPR, e_sPO, e_sAI, e_sAZ, e_sAO, e_sAR, e_sPopI, e_sPopR, e_sCopy, e_mI, e_mZ, e_mR, e_mV, jAdd_n, jMul_n, z0, z1, Option.bind_some, List.getElem?_cons_zero, List.getElem?_cons_succ, List.set_cons_zero, List.set_cons_succ, eq_self, if_true, ite_and, ite_or, ite_I, ite_bI, ite_bJ, bI_ne, bI_01, List.cons_append, List.nil_append, Bool.false_eq_true, if_false, nI_add]; rfl) ?_
      refine wS_l (by simp only [e_fI, e_fLd, e_fLr, e_fB, e_fD, e_fC, e_fT, e_fAnd, e_fOr, e_fNot, e_fCC, e_fIf, e_gI, e_gR, e_aI, e_aR, e_aN, e_cV, e_cS, e_fNil, e_fAi, e_fAr, e_sSeq, e_sSkip, e_sSt, e_sSr, e_sInc, e_sRI, e_sRR, e_sRV, e_sIf, e_sCall, e_sPI, e_sPZ, e_sPR, e_sPO, e_sAI, e_sAZ, e_sAO, e_sAR, e_sPopI, e_sPopR, e_sCopy, e_mI, e_mZ, e_mR, e_mV, jAdd_n, jMul_n, z0, z1, Option.bind_some, List.getElem?_cons_zero, List.getElem?_cons_succ, List.set_cons_zero, List.set_cons_succ, eq_self, if_true, ite_and, ite_or, ite_I, ite_bI, ite_bJ, bI_ne, bI_01, List.cons_append, List.nil_append, Bool.false_eq_true, if_false, nI_add]; rfl) ?_
      rw [if_pos hb]
      exact ⟨ρ5, _, _, rfl, rfl, b5', hFF⟩
    · refine wS_l rfl ?_
      refine wS_l (by simp only [e_fI, e_fLd, e_fLr, e_fB, e_fD, e_fC, e_fT, e_fAnd, e_fOr, e_fNot, e_fCC, e_fIf, e_gI, e_gR, e_aI, e_aR, e_aN, e_cV, e_cS, e_fNil, e_fAi, e_fAr, e_sSeq, e_sSkip, e_sSt, e_sSr, e_sInc, e_sRI, e_sRR, e_sRV, e_sIf, e_sCall, e_sPI, e_sPZ, e_sPR, e_sPO, e_sAI, e_sAZ, e_sAO, e_sAR, e_sPopI, e_sPopR, e_sCopy, e_mI, e_mZ, e_mR, e_mV, jAdd_n, jMul_n, z0, z1, Option.bind_some, List.getElem?_cons_zero, List.getElem?_cons_succ, List.set_cons_zero, List.set_cons_succ, eq_self, if_true, ite_and, ite_or, ite_I, ite_bI, ite_bJ, bI_ne, bI_01, List.cons_append, List.nil_append, Bool.false_eq_true, if_false, nI_add]; rfl) ?_
      rw [hb, if_neg Bool.false_ne_true]
      exact ⟨ρ5, _, _, rfl, rfl, b5', hFF⟩
  · rintro _ _ ⟨τ, x3, x4, rfl, rfl, hCi, hF⟩
    refine wS_r (by simp only [e_fI, e_fLd, e_fLr, e_fB, e_fD, e_fC, e_fT, e_fAnd, e_fOr, e_fNot, e_fCC, e_fIf, e_gI, e_gR, e_aI, e_aR, e_aN, e_cV, e_cS, e_fNil, e_fAi, e_fAr, e_sSeq, e_sSkip, e_sSt, e_sSr, e_sInc, e_sRI, e_sRR, e_sRV, e_sIf, e_sCall, e_sPI, e_sPZ, e_sPR, e_sPO, e_sAI, e_sAZ, e_sAO, e_sAR, e_sPopI, e_sPopR, e_sCopy, e_mI, e_mZ, e_mR, e_mV, jAdd_n, jMul_n, z0, z1, Option.bind_some, List.getElem?_cons_zero, List.getElem?_cons_succ, List.set_cons_zero, List.set_cons_succ, eq_self, if_true, ite_and, ite_or, ite_I, ite_bI, ite_bJ, bI_ne, bI_01, List.cons_append, List.nil_append, Bool.false_eq_true, if_false]; rfl) ?_
    exact ⟨rfl, τ, rfl, hCi, hF⟩
end SJC
