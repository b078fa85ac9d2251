/-! the program's calls that send one datagram, and send -/
section SAC
variable {n X : Nat} {σ : sg} {w : wd}
theorem c_last {τ : sg} {w' : wd} {L : hp_L} {j : Nat} {Q : hp_L → hp_H → Prop} (hC : CPc n X τ w') (hW : okW w') (hL : L[0]? = some (some (.ref 0))) (hj : L[j]? = some (some (.ref (X + 2)))) (hz : zW w' = 1) (hF : FK σ τ) : wS (sRI (fIf (fT (gI 7 4 (fLr 0))) (gI 0 4 (fLr j)) (fI (-1)))) L (hs n τ) Q (fun v h' => v = some (.int (ans1 w')) ∧ ∃ τ, h' = hs n τ ∧ CPc n X τ w' ∧ FK σ τ) := by
  have h := hC.B
  have e4 : τ 0 4 = bI (bW w') := hC.cb.trans hW.b
  have d4 : hp_g (hs n τ) (X + 2) 0 4 = some (.int (w'.2.2.1 0 0 4)) := hC.d4 (e := 0) hW (by omega)
  refine wS_r (by simp only [e_fI, e_fLd, e_fLr, e_fB, e_fD, e_fC, e_fT, e_fAnd, e_fOr, e_fNot, e_fCC, e_fIf, e_gI, e_gR, e_aI, e_aR, e_aN, e_cV, e_cS, e_fNil, e_fAi, e_fAr, e_sSeq, e_sSkip, e_sSt, e_sSr, e_sInc, e_sRI, e_sRR, e_sRV, e_sIf, e_sCall, e_sPI, e_sPZ, e_sPR, e_sPO, e_sAI, e_sAZ, e_sAO, e_sAR, e_sPopI, e_sPopR, e_sCopy, e_mI, e_mZ, e_mR, e_mV, jAdd_n, jMul_n, z0, z1, Option.bind_some, List.getElem?_cons_zero, List.getElem?_cons_succ, List.set_cons_zero, List.set_cons_succ, eq_self, if_true, ite_and, ite_or, ite_I, ite_bI, ite_bJ, bI_ne, bI_01, List.cons_append, List.nil_append, Bool.false_eq_true, if_false, hL, hj, gT0_4 h, e4, d4]; rfl) ?_
  unfold ans1
  exact ⟨rfl, τ, rfl, hC, hF⟩
theorem FK.fr {τ : sg} (hX : isX X) (r : ∀ b, b ≠ X → ¬ (X + 2 ≤ b ∧ b < X + 8) → τ b = σ b) : FK σ τ := fun a h1 h2 => r a (by unfold isX at hX; omega) (by unfold isX at hX; omega)
theorem isX.D0 (h : isX X) : isD (X + 2) := h.D (d := 0) (by omega)
theorem c_request {v : Int32} (hC : CPc n X σ w) (hW : okW w) : ∃ τ, G_L_request [.ref 0, .int v] (hs n σ) = some (ans1 (sndW (frW w 1 (fun _ => sgG (nI 8) (nI 0) (nI 1) v))), hs n τ) ∧ CPc n X τ (sndW (frW w 1 (fun _ => sgG (nI 8) (nI 0) (nI 1) v))) ∧ FK σ τ := by
  have h := hC.B
  have hX := hC.ix
  have hb10 : X = 10 ∨ X = 18 := hX
  refine mI_t (Nat.le_of_ble_eq_true rfl) ?_
  simp only [jx_L0, List.map_cons, List.map_nil, List.length_cons, List.length_nil, Nat.reduceAdd, Nat.reduceSub, List.replicate, List.cons_append, List.nil_append]
  unfold P_L_request
  obtain ⟨τ, e, r1, r2, r3⟩ := q_L_startFrame (c := nI 8) (a := nI 0) (o := nI 1) (l := nI 1) hC
  refine wSeq (wS_l (by simp only [e_fI, e_fLd, e_fLr, e_fB, e_fD, e_fC, e_fT, e_fAnd, e_fOr, e_fNot, e_fCC, e_fIf, e_gI, e_gR, e_aI, e_aR, e_aN, e_cV, e_cS, e_fNil, e_fAi, e_fAr, e_sSeq, e_sSkip, e_sSt, e_sSr, e_sInc, e_sRI, e_sRR, e_sRV, e_sIf, e_sCall, e_sPI, e_sPZ, e_sPR, e_sPO, e_sAI, e_sAZ, e_sAO, e_sAR, e_sPopI, e_sPopR, e_sCopy, e_mI, e_mZ, e_mR, e_mV, jAdd_n, jMul_n, z0, z1, Option.bind_some, List.getElem?_cons_zero, List.getElem?_cons_succ, List.set_cons_zero, List.set_cons_succ, eq_self, if_true, ite_and, ite_or, ite_I, ite_bI, ite_bJ, bI_ne, bI_01, List.cons_append, List.nil_append, Bool.false_eq_true, if_false, kT0 h, e]; rfl) ?_)
  refine wSeq (wS_l (by simp only [e_fI, e_fLd, e_fLr, e_fB, e_fD, e_fC, e_fT, e_fAnd, e_fOr, e_fNot, e_fCC, e_fIf, e_gI, e_gR, e_aI, e_aR, e_aN, e_cV, e_cS, e_fNil, e_fAi, e_fAr, e_sSeq, e_sSkip, e_sSt, e_sSr, e_sInc, e_sRI, e_sRR, e_sRV, e_sIf, e_sCall, e_sPI, e_sPZ, e_sPR, e_sPO, e_sAI, e_sAZ, e_sAO, e_sAR, e_sPopI, e_sPopR, e_sCopy, e_mI, e_mZ, e_mR, e_mV, jAdd_n, jMul_n, z0, z1, Option.bind_some, List.getElem?_cons_zero, List.getElem?_cons_succ, List.set_cons_zero, List.set_cons_succ, eq_self, if_true, ite_and, ite_or, ite_I, ite_bI, ite_bJ, bI_ne, bI_01, List.cons_append, List.nil_append, Bool.false_eq_true, if_false, gD5 h hX.D0, wD h hX.D0 (show 0 < 8 by omega)]; rfl) ?_)
  have r3' : ∀ b, b ≠ X → ¬ (X + 2 ≤ b ∧ b < X + 8) → up τ (X + 2 + 1) 0 (jAnd v (nI 255)) b = σ b := fun b g1 g2 => (up_ne (by omega)).trans (r3 b g1 g2)
  have hC1 : CPc n X (up τ (X + 2 + 1) 0 (jAnd v (nI 255))) (frW w 1 (fun _ => sgG (nI 8) (nI 0) (nI 1) v)) := hC.fr r3' (by rw [up_ne (by omega)]; exact r2) (by omega) (fun e he => by
    rw [show X + 2 + 2 * e = X + 2 by omega]
    exact r1.u1)
  have hW1 := hW.fr (z := 1) (G := fun _ => sgG (nI 8) (nI 0) (nI 1) v) (by omega) (fun _ _ => okP_sg (by omega) (by omega) (by omega))
  obtain ⟨ρ, ec, q1, q2⟩ := c_carry (L := [some (.ref 0), some (.int v), some (.ref (X + 2))]) hC1 hW1 rfl
  refine wSeq (wS_l ec ?_)
  exact c_last q1 hW1.sn rfl rfl (zW_sf (by omega)) ((FK.fr hX r3').t q2)
theorem c_answer {a : Int32} (hC : CPc n X σ w) (hW : okW w) : ∃ τ, G_L_answer [.ref 0, .int a] (hs n σ) = some (if inS w a = true then ans1 (sndW (frW w 1 (fun _ => anG a.toNatClampNeg))) else -1, hs n τ) ∧ CPc n X τ (if inS w a = true then sndW (frW w 1 (fun _ => anG a.toNatClampNeg)) else w) ∧ FK σ τ := by
  have h := hC.B
  have hX := hC.ix
  have hb10 : X = 10 ∨ X = 18 := hX
  refine mI_t (Nat.le_of_ble_eq_true rfl) ?_
  simp only [jx_L0, List.map_cons, List.map_nil, List.length_cons, List.length_nil, Nat.reduceAdd, Nat.reduceSub, List.replicate, List.cons_append, List.nil_append]
  unfold P_L_answer
  refine wSeq (wIf (by simp only [e_fI, e_fLd, e_fLr, e_fB, e_fD, e_fC, e_fT, e_fAnd, e_fOr, e_fNot, e_fCC, e_fIf, e_gI, e_gR, e_aI, e_aR, e_aN, e_cV, e_cS, e_fNil, e_fAi, e_fAr, e_sSeq, e_sSkip, e_sSt, e_sSr, e_sInc, e_sRI, e_sRR, e_sRV, e_sIf, e_sCall, e_sPI, e_sPZ, e_sPR, e_sPO, e_sAI, e_sAZ, e_sAO, e_sAR, e_sPopI, e_sPopR, e_sCopy, e_mI, e_mZ, e_mR, e_mV, jAdd_n, jMul_n, z0, z1, Option.bind_some, List.getElem?_cons_zero, List.getElem?_cons_succ, List.set_cons_zero, List.set_cons_succ, eq_self, if_true, ite_and, ite_or, ite_I, ite_bI, ite_bJ, bI_ne, bI_01, List.cons_append, List.nil_append, Bool.false_eq_true, if_false, gT0_0 h, kT1 h, q_N_hasStation hC]; rfl) (fun hb => ?_) (fun hb => ?_))
  · have e : inS w a = false := by cases q : inS w a; rfl; rw [q] at hb; cases hb
    rw [e, if_neg Bool.false_ne_true, if_neg Bool.false_ne_true]
    exact wS_r rfl ⟨rfl, σ, rfl, hC, FK.r σ⟩
  have e : inS w a = true := by cases q : inS w a; rw [q] at hb; cases hb; rfl
  clear hb
  obtain ⟨t, ht, rfl⟩ := inS_i hW e
  have hk := hW.2.1
  rw [e, if_pos rfl, if_pos rfl, nC_n (show t < 2 ^ 31 by omega)]
  refine wS_l rfl ?_
  obtain ⟨τ, e, r1, r2, r3⟩ := q_L_startFrame (c := nI 4) (a := nI (t + 1)) (o := nI 72) (l := nI 6) hC
  refine wSeq (wS_l (by simp only [e_fI, e_fLd, e_fLr, e_fB, e_fD, e_fC, e_fT, e_fAnd, e_fOr, e_fNot, e_fCC, e_fIf, e_gI, e_gR, e_aI, e_aR, e_aN, e_cV, e_cS, e_fNil, e_fAi, e_fAr, e_sSeq, e_sSkip, e_sSt, e_sSr, e_sInc, e_sRI, e_sRR, e_sRV, e_sIf, e_sCall, e_sPI, e_sPZ, e_sPR, e_sPO, e_sAI, e_sAZ, e_sAO, e_sAR, e_sPopI, e_sPopR, e_sCopy, e_mI, e_mZ, e_mR, e_mV, jAdd_n, jMul_n, z0, z1, Option.bind_some, List.getElem?_cons_zero, List.getElem?_cons_succ, List.set_cons_zero, List.set_cons_succ, eq_self, if_true, ite_and, ite_or, ite_I, ite_bI, ite_bJ, bI_ne, bI_01, List.cons_append, List.nil_append, Bool.false_eq_true, if_false, kT0 h, e]; rfl) ?_)
  have hC1 : CPc n X τ (frW w 1 (fun _ => anG t)) := hC.fr r3 r2 (by omega) (fun e he => by
    rw [show X + 2 + 2 * e = X + 2 by omega]
    exact r1)
  have hW1 := hW.fr (z := 1) (G := fun _ => anG t) (by omega) (fun _ _ => anG_ok (by omega))
  obtain ⟨ρ, ec, q1, q2⟩ := c_carry (L := [some (.ref 0), some (.int (nI t)), some (.ref (X + 2))]) hC1 hW1 rfl
  refine wSeq (wS_l ec ?_)
  exact c_last q1 hW1.sn rfl rfl (zW_sf (by omega)) ((FK.fr hX r3).t q2)
theorem wm_ak {t : Nat} {k i v : Int32} : wm (nwG (nI 5) (nI (t + 1)) (nI 64) (nI 6)) 1 (jAnd k (nI 255)) (jAnd i (nI 255)) v = akG t k i v := by
  have b0 : jAnd (jUsh v (nI (8 * 0))) (nI 255) = jAnd v (nI 255) := by
    rw [← sh_u (by omega)]
    have : jShr v (nI (8 * 0)) = v := by
      unfold jShr
      apply Int32.toBitVec_inj.mp
      have := shr_b (v := v) (y := nI (8 * 0)) (k := 0) (by decide)
      unfold jShr at this
      rw [this, BitVec.sshiftRight_zero]
    rw [this]
  have b1 : jAnd (jUsh v (nI (8 * 1))) (nI 255) = jAnd (jShr v (nI 8)) (nI 255) := (sh_u (i := 1) (by omega)).symm
  have b2 : jAnd (jUsh v (nI (8 * 2))) (nI 255) = jAnd (jShr v (nI 16)) (nI 255) := (sh_u (i := 2) (by omega)).symm
  have b3 : jAnd (jUsh v (nI (8 * 3))) (nI 255) = jAnd (jShr v (nI 24)) (nI 255) := (sh_u (i := 3) (by omega)).symm
  unfold akG sxG wm
  unfold wmk
  unfold wmk
  unfold wmk
  unfold wmk
  unfold wmk
  rw [b0, b1, b2, b3]
theorem RD.wm {G : sg} {D : Nat} {k x v : Int32} (h : RD σ D G) : RD (wm σ (D + 1) k x v) D (wm G 1 k x v) := by
  have go : ∀ i, RD (wmk (up (up σ (D + 1) 0 k) (D + 1) 1 x) (D + 1) v i) D (wmk (up (up G 1 0 k) 1 1 x) 1 v i) := fun i => by
    induction i with
    | zero => exact h.u1.u1
    | succ i ih => exact ih.u1
  exact go 4
theorem c_ask {a k i v : Int32} (hC : CPc n X σ w) (hW : okW w) : ∃ τ, G_L_ask [.ref 0, .int a, .int k, .int i, .int v] (hs n σ) = some (if inS w a = true then ans1 (sndW (frW w 1 (fun _ => akG a.toNatClampNeg k i v))) else -1, hs n τ) ∧ CPc n X τ (if inS w a = true then sndW (frW w 1 (fun _ => akG a.toNatClampNeg k i v)) else w) ∧ FK σ τ := by
  have h := hC.B
  have hX := hC.ix
  have hb10 : X = 10 ∨ X = 18 := hX
  refine mI_t (Nat.le_of_ble_eq_true rfl) ?_
  simp only [jx_L0, List.map_cons, List.map_nil, List.length_cons, List.length_nil, Nat.reduceAdd, Nat.reduceSub, List.replicate, List.cons_append, List.nil_append]
  unfold P_L_ask
  refine wSeq (wIf (by simp only [e_fI, e_fLd, e_fLr, e_fB, e_fD, e_fC, e_fT, e_fAnd, e_fOr, e_fNot, e_fCC, e_fIf, e_gI, e_gR, e_aI, e_aR, e_aN, e_cV, e_cS, e_fNil, e_fAi, e_fAr, e_sSeq, e_sSkip, e_sSt, e_sSr, e_sInc, e_sRI, e_sRR, e_sRV, e_sIf, e_sCall, e_sPI, e_sPZ, e_sPR, e_sPO, e_sAI, e_sAZ, e_sAO, e_sAR, e_sPopI, e_sPopR, e_sCopy, e_mI, e_mZ, e_mR, e_mV, jAdd_n, jMul_n, z0, z1, Option.bind_some, List.getElem?_cons_zero, List.getElem?_cons_succ, List.set_cons_zero, List.set_cons_succ, eq_self, if_true, ite_and, ite_or, ite_I, ite_bI, ite_bJ, bI_ne, bI_01, List.cons_append, List.nil_append, Bool.false_eq_true, if_false, gT0_0 h, kT1 h, q_N_hasStation hC]; rfl) (fun hb => ?_) (fun hb => ?_))
  · have e : inS w a = false := by cases q : inS w a; rfl; rw [q] at hb; cases hb
    rw [e, if_neg Bool.false_ne_true, if_neg Bool.false_ne_true]
    exact wS_r rfl ⟨rfl, σ, rfl, hC, FK.r σ⟩
  have e : inS w a = true := by cases q : inS w a; rw [q] at hb; cases hb; rfl
  clear hb
  obtain ⟨t, ht, rfl⟩ := inS_i hW e
  have hk := hW.2.1
  rw [e, if_pos rfl, if_pos rfl, nC_n (show t < 2 ^ 31 by omega)]
  refine wS_l rfl ?_
  obtain ⟨τ, e, r1, r2, r3⟩ := q_L_startFrame (c := nI 5) (a := nI (t + 1)) (o := nI 64) (l := nI 6) hC
  refine wSeq (wS_l (by simp only [e_fI, e_fLd, e_fLr, e_fB, e_fD, e_fC, e_fT, e_fAnd, e_fOr, e_fNot, e_fCC, e_fIf, e_gI, e_gR, e_aI, e_aR, e_aN, e_cV, e_cS, e_fNil, e_fAi, e_fAr, e_sSeq, e_sSkip, e_sSt, e_sSr, e_sInc, e_sRI, e_sRR, e_sRV, e_sIf, e_sCall, e_sPI, e_sPZ, e_sPR, e_sPO, e_sAI, e_sAZ, e_sAO, e_sAR, e_sPopI, e_sPopR, e_sCopy, e_mI, e_mZ, e_mR, e_mV, jAdd_n, jMul_n, z0, z1, Option.bind_some, List.getElem?_cons_zero, List.getElem?_cons_succ, List.set_cons_zero, List.set_cons_succ, eq_self, if_true, ite_and, ite_or, ite_I, ite_bI, ite_bJ, bI_ne, bI_01, List.cons_append, List.nil_append, Bool.false_eq_true, if_false, kT0 h, e]; rfl) ?_)
  have hD := hX.D0
  have wmq : ∀ (k y v : Int32), G_L_writeMessage [.ref (X + 2 + 1), .int k, .int y, .int v] (hs n τ) = some (hs n (wm τ (X + 2 + 1) k y v)) := fun k y v => q_L_writeMessage (by unfold okB at h; omega) ((kb (by omega)).trans hD.t.2.2.2.1) ((sb (by omega)).trans hD.t.2.2.2.2.1) (fun j _ => isF_D hD)
  refine wSeq (wS_l (by simp only [e_fI, e_fLd, e_fLr, e_fB, e_fD, e_fC, e_fT, e_fAnd, e_fOr, e_fNot, e_fCC, e_fIf, e_gI, e_gR, e_aI, e_aR, e_aN, e_cV, e_cS, e_fNil, e_fAi, e_fAr, e_sSeq, e_sSkip, e_sSt, e_sSr, e_sInc, e_sRI, e_sRR, e_sRV, e_sIf, e_sCall, e_sPI, e_sPZ, e_sPR, e_sPO, e_sAI, e_sAZ, e_sAO, e_sAR, e_sPopI, e_sPopR, e_sCopy, e_mI, e_mZ, e_mR, e_mV, jAdd_n, jMul_n, z0, z1, Option.bind_some, List.getElem?_cons_zero, List.getElem?_cons_succ, List.set_cons_zero, List.set_cons_succ, eq_self, if_true, ite_and, ite_or, ite_I, ite_bI, ite_bJ, bI_ne, bI_01, List.cons_append, List.nil_append, Bool.false_eq_true, if_false, gD5 h hD, wmq]; rfl) ?_)
  have r3' : ∀ b, b ≠ X → ¬ (X + 2 ≤ b ∧ b < X + 8) → wm τ (X + 2 + 1) (jAnd k (nI 255)) (jAnd i (nI 255)) v b = σ b := fun b g1 g2 => (wm_ne (by omega)).trans (r3 b g1 g2)
  have hC1 : CPc n X (wm τ (X + 2 + 1) (jAnd k (nI 255)) (jAnd i (nI 255)) v) (frW w 1 (fun _ => akG t k i v)) := hC.fr r3' (by rw [wm_ne (by omega)]; exact r2) (by omega) (fun e he => by
    rw [show X + 2 + 2 * e = X + 2 by omega, ← wm_ak]
    exact r1.wm)
  have hW1 := hW.fr (z := 1) (G := fun _ => akG t k i v) (by omega) (fun _ _ => akG_ok (by omega))
  obtain ⟨ρ, ec, q1, q2⟩ := c_carry (L := [some (.ref 0), some (.int (nI t)), some (.int k), some (.int i), some (.int v), some (.ref (X + 2))]) hC1 hW1 rfl
  refine wSeq (wS_l ec ?_)
  exact c_last q1 hW1.sn rfl rfl (zW_sf (by omega)) ((FK.fr hX r3').t q2)
end SAC
