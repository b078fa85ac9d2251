/-! scan, both sides -/
def w1W (w : wd) : wd := sndW (frW (setV (fgW w) 0 3 (nI 0)) 1 (fun _ => alG))
def cW1 (w : wd) : Nat := (w1W w |>.2.2.1 0 0 4).toNatClampNeg
def scW (w : wd) : wd := if bW (w1W w) = true then scL (setV (w1W w) 0 3 (nI (cW1 w))) (cW1 w) else w1W w
def a_scan (w : wd) : Int32 := if bW (w1W w) = true then nI (cW1 w) else -1
section SDC
variable {n X : Nat} {σ : sg} {w : wd}
theorem w1_ok (hW : okW w) : okW (w1W w) ∧ kW (w1W w) = kW w ∧ (w1W w).2.2.1 0 0 4 = nI (cW1 w) ∧ cW1 w ≤ kW w ∧ zW (w1W w) = 1 ∧ bW (w1W w) = tW w := by
  have h0 : okW (setV (fgW w) 0 3 (nI 0)) := hW.fg.1.v3 (by omega)
  have h1 := h0.fr (z := 1) (G := fun _ => alG) (by omega) (fun _ _ => alG_ok)
  have hd := dW_le h1
  have hk := hW.2.1
  have ek : kW (frW (setV (fgW w) 0 3 (nI 0)) 1 (fun _ => alG)) = kW w := rfl
  have ez : zW (frW (setV (fgW w) 0 3 (nI 0)) 1 (fun _ => alG)) = 1 := zW_f (by omega)
  obtain ⟨-, c, hc, e4⟩ := cnt_le (A := w.1) (dW (frW (setV (fgW w) 0 3 (nI 0)) 1 (fun _ => alG))) (by omega)
  have e4' : (w1W w).2.2.1 0 0 4 = nI c := by
    show (runL w.1 (fun _ => alG) (zW (frW (setV (fgW w) 0 3 (nI 0)) 1 (fun _ => alG))) (dW (frW (setV (fgW w) 0 3 (nI 0)) 1 (fun _ => alG)))).2 0 0 4 = nI c
    rw [ez]
    exact e4
  have ec : cW1 w = c := by
    unfold cW1
    rw [e4']
    exact nC_n (by omega)
  refine ⟨h1.sn, rfl, by rw [ec]; exact e4', by omega, zW_sf (by omega), ?_⟩
  exact bW_s
theorem c_scan (hC : CPc n X σ w) (hW : okW w) : ∃ τ, G_L_scan [.ref 0] (hs n σ) = some (a_scan w, hs n τ) ∧ CPc n X τ (scW w) ∧ FK σ τ := by
  have h := hC.B
  have hX := hC.ix
  have hb10 : X = 10 ∨ X = 18 := hX
  obtain ⟨ok1, ek1, e41, hc1, ez1, -⟩ := w1_ok hW
  have hk := hW.2.1
  have h0 : okW (setV (fgW w) 0 3 (nI 0)) := hW.fg.1.v3 (by omega)
  have h1 := h0.fr (z := 1) (G := fun _ => alG) (by omega) (fun _ _ => alG_ok)
  refine mI_t (Nat.le_of_ble_eq_true rfl) ?_
  simp only [jx_L0, List.map_cons, List.map_nil, List.length_cons, List.length_nil, Nat.reduceAdd, Nat.reduceSub, List.replicate, List.cons_append, List.nil_append]
  unfold P_L_scan
  obtain ⟨τ1, e1, r1, f1⟩ := q_I_forget hC
  refine wSeq (wS_l (by simp only [e_fI, e_fLd, e_fLr, e_fB, e_fD, e_fC, e_fT, e_fAnd, e_fOr, e_fNot, e_fCC, e_fIf, e_gI, e_gR, e_aI, e_aR, e_aN, e_cV, e_cS, e_fNil, e_fAi, e_fAr, e_sSeq, e_sSkip, e_sSt, e_sSr, e_sInc, e_sRI, e_sRR, e_sRV, e_sIf, e_sCall, e_sPI, e_sPZ, e_sPR, e_sPO, e_sAI, e_sAZ, e_sAO, e_sAR, e_sPopI, e_sPopR, e_sCopy, e_mI, e_mZ, e_mR, e_mV, jAdd_n, jMul_n, z0, z1, Option.bind_some, List.getElem?_cons_zero, List.getElem?_cons_succ, List.set_cons_zero, List.set_cons_succ, eq_self, if_true, ite_and, ite_or, ite_I, ite_bI, ite_bJ, bI_ne, bI_01, List.cons_append, List.nil_append, Bool.false_eq_true, if_false, gT0_1 h, kT4 h, e1]; rfl) ?_)
  refine wSeq (wS_l (by simp only [e_fI, e_fLd, e_fLr, e_fB, e_fD, e_fC, e_fT, e_fAnd, e_fOr, e_fNot, e_fCC, e_fIf, e_gI, e_gR, e_aI, e_aR, e_aN, e_cV, e_cS, e_fNil, e_fAi, e_fAr, e_sSeq, e_sSkip, e_sSt, e_sSr, e_sInc, e_sRI, e_sRR, e_sRV, e_sIf, e_sCall, e_sPI, e_sPZ, e_sPR, e_sPO, e_sAI, e_sAZ, e_sAO, e_sAR, e_sPopI, e_sPopR, e_sCopy, e_mI, e_mZ, e_mR, e_mV, jAdd_n, jMul_n, z0, z1, Option.bind_some, List.getElem?_cons_zero, List.getElem?_cons_succ, List.set_cons_zero, List.set_cons_succ, eq_self, if_true, ite_and, ite_or, ite_I, ite_bI, ite_bJ, bI_ne, bI_01, List.cons_append, List.nil_append, Bool.false_eq_true, if_false, pT0_5 h]; rfl) ?_)
  have r2 : CPc n X (up τ1 0 5 (nI 0)) (setV (fgW w) 0 3 (nI 0)) := r1.u (j := 0) (i := 3) (by unfold celV; omega) (by omega)
  have f2 : FK σ (up τ1 0 5 (nI 0)) := f1.u (by omega)
  generalize up τ1 0 5 (nI 0) = τ2 at r2 f2 ⊢
  obtain ⟨τ3, e3, q1, q2, q3⟩ := q_L_startFrame (c := nI 7) (a := nI 0) (o := nI 0) (l := nI 1) r2
  refine wSeq (wS_l (by simp only [e_fI, e_fLd, e_fLr, e_fB, e_fD, e_fC, e_fT, e_fAnd, e_fOr, e_fNot, e_fCC, e_fIf, e_gI, e_gR, e_aI, e_aR, e_aN, e_cV, e_cS, e_fNil, e_fAi, e_fAr, e_sSeq, e_sSkip, e_sSt, e_sSr, e_sInc, e_sRI, e_sRR, e_sRV, e_sIf, e_sCall, e_sPI, e_sPZ, e_sPR, e_sPO, e_sAI, e_sAZ, e_sAO, e_sAR, e_sPopI, e_sPopR, e_sCopy, e_mI, e_mZ, e_mR, e_mV, jAdd_n, jMul_n, z0, z1, Option.bind_some, List.getElem?_cons_zero, List.getElem?_cons_succ, List.set_cons_zero, List.set_cons_succ, eq_self, if_true, ite_and, ite_or, ite_I, ite_bI, ite_bJ, bI_ne, bI_01, List.cons_append, List.nil_append, Bool.false_eq_true, if_false, kT0 h, e3]; rfl) ?_)
  have r3 : CPc n X τ3 (frW (setV (fgW w) 0 3 (nI 0)) 1 (fun _ => alG)) := r2.fr q3 q2 (by omega) (fun e he => by
    rw [show X + 2 + 2 * e = X + 2 by omega]
    exact q1)
  obtain ⟨τ4, e4, r4, f4⟩ := c_carry (L := [some (.ref 0), some (.ref (X + 2)), none, none]) r3 h1 rfl
  refine wSeq (wS_l e4 ?_)
  have r4' : CPc n X τ4 (w1W w) := r4
  have f5 : FK σ τ4 := f2.t ((FK.fr hX q3).t f4)
  clear r4 e4 r3
  have eb : τ4 0 4 = bI (bW (w1W w)) := r4'.cb.trans ok1.b
  unfold a_scan scW
  generalize hwe : w1W w = w1 at *
  generalize hce : cW1 w = c at *
  refine wSeq (wIf (by simp only [e_fI, e_fLd, e_fLr, e_fB, e_fD, e_fC, e_fT, e_fAnd, e_fOr, e_fNot, e_fCC, e_fIf, e_gI, e_gR, e_aI, e_aR, e_aN, e_cV, e_cS, e_fNil, e_fAi, e_fAr, e_sSeq, e_sSkip, e_sSt, e_sSr, e_sInc, e_sRI, e_sRR, e_sRV, e_sIf, e_sCall, e_sPI, e_sPZ, e_sPR, e_sPO, e_sAI, e_sAZ, e_sAO, e_sAR, e_sPopI, e_sPopR, e_sCopy, e_mI, e_mZ, e_mR, e_mV, jAdd_n, jMul_n, z0, z1, Option.bind_some, List.getElem?_cons_zero, List.getElem?_cons_succ, List.set_cons_zero, List.set_cons_succ, eq_self, if_true, ite_and, ite_or, ite_I, ite_bI, ite_bJ, bI_ne, bI_01, List.cons_append, List.nil_append, Bool.false_eq_true, if_false, gT0_4 h, eb]; rfl) (fun hb => ?_) (fun hb => ?_))
  · have e : bW w1 = false := by cases q : bW w1; rfl; rw [q] at hb; cases hb
    rw [e, if_neg Bool.false_ne_true, if_neg Bool.false_ne_true]
    exact wS_r rfl ⟨rfl, τ4, rfl, r4', f5⟩
  have e : bW w1 = true := by cases q : bW w1; rw [q] at hb; cases hb; rfl
  clear hb
  rw [e, if_pos rfl, if_pos rfl]
  refine wS_l rfl ?_
  have d4 : hp_g (hs n τ4) (X + 2) 0 4 = some (.int (nI c)) := by
    rw [← e41]
    exact r4'.d4 (e := 0) ok1 (by omega)
  refine wSeq (wS_l (by simp only [e_fI, e_fLd, e_fLr, e_fB, e_fD, e_fC, e_fT, e_fAnd, e_fOr, e_fNot, e_fCC, e_fIf, e_gI, e_gR, e_aI, e_aR, e_aN, e_cV, e_cS, e_fNil, e_fAi, e_fAr, e_sSeq, e_sSkip, e_sSt, e_sSr, e_sInc, e_sRI, e_sRR, e_sRV, e_sIf, e_sCall, e_sPI, e_sPZ, e_sPR, e_sPO, e_sAI, e_sAZ, e_sAO, e_sAR, e_sPopI, e_sPopR, e_sCopy, e_mI, e_mZ, e_mR, e_mV, jAdd_n, jMul_n, z0, z1, Option.bind_some, List.getElem?_cons_zero, List.getElem?_cons_succ, List.set_cons_zero, List.set_cons_succ, eq_self, if_true, ite_and, ite_or, ite_I, ite_bI, ite_bJ, bI_ne, bI_01, List.cons_append, List.nil_append, Bool.false_eq_true, if_false, d4, pT0_5 h]; rfl) ?_)
  have r5 : CPc n X (up τ4 0 5 (nI c)) (setV w1 0 3 (nI c)) := r4'.u (j := 0) (i := 3) (by unfold celV; omega) (by omega)
  have ok2 : okW (setV w1 0 3 (nI c)) := ok1.v3 (by omega)
  have f6 : FK σ (up τ4 0 5 (nI c)) := f5.u (by omega)
  have v3 : vW (setV w1 0 3 (nI c)) 0 3 = nI c := rfl
  generalize up τ4 0 5 (nI c) = τ5 at r5 f6 ⊢
  generalize setV w1 0 3 (nI c) = w2 at r5 ok2 v3 ⊢
  refine wSeq (wSeq (wS_l (by simp only [e_fI, e_fLd, e_fLr, e_fB, e_fD, e_fC, e_fT, e_fAnd, e_fOr, e_fNot, e_fCC, e_fIf, e_gI, e_gR, e_aI, e_aR, e_aN, e_cV, e_cS, e_fNil, e_fAi, e_fAr, e_sSeq, e_sSkip, e_sSt, e_sSr, e_sInc, e_sRI, e_sRR, e_sRV, e_sIf, e_sCall, e_sPI, e_sPZ, e_sPR, e_sPO, e_sAI, e_sAZ, e_sAO, e_sAR, e_sPopI, e_sPopR, e_sCopy, e_mI, e_mZ, e_mR, e_mV, jAdd_n, jMul_n, z0, z1, Option.bind_some, List.getElem?_cons_zero, List.getElem?_cons_succ, List.set_cons_zero, List.set_cons_succ, eq_self, if_true, ite_and, ite_or, ite_I, ite_bI, ite_bJ, bI_ne, bI_01, List.cons_append, List.nil_append, Bool.false_eq_true, if_false]; rfl) ?_))
  refine wWh (I := fun s L H => ∃ τ x3, L = [some (.ref 0), some (.ref (X + 2)), some (.int (nI s)), x3] ∧ H = hs n τ ∧ CPc n X τ (scL w2 s) ∧ FK σ τ) (e := c) ?_ ?_ ?_ 600 0 _ _ (by omega) (by omega) ⟨τ5, none, rfl, rfl, r5, f6⟩
  · rintro s _ _ ⟨τ, x3, rfl, rfl, hCi, -⟩ hi
    have : τ 0 5 = nI c := by rw [hCi.cf, (scL_ok ok2 s).2.2, v3]
    simp only [e_fI, e_fLd, e_fLr, e_fB, e_fD, e_fC, e_fT, e_fAnd, e_fOr, e_fNot, e_fCC, e_fIf, e_gI, e_gR, e_aI, e_aR, e_aN, e_cV, e_cS, e_fNil, e_fAi, e_fAr, e_sSeq, e_sSkip, e_sSt, e_sSr, e_sInc, e_sRI, e_sRR, e_sRV, e_sIf, e_sCall, e_sPI, e_sPZ, e_sPR, e_sPO, e_sAI, e_sAZ, e_sAO, e_sAR, e_sPopI, e_sPopR, e_sCopy, e_mI, e_mZ, e_mR, e_mV, jAdd_n, jMul_n, z0, z1, Option.bind_some, List.getElem?_cons_zero, List.getElem?_cons_succ, List.set_cons_zero, List.set_cons_succ, eq_self, if_true, ite_and, ite_or, ite_I, ite_bI, ite_bJ, bI_ne, bI_01, List.cons_append, List.nil_append, Bool.false_eq_true, if_false, gT0_5 h, this, jLt, nI_ltI (show s < 2 ^ 31 by omega) (show c < 2 ^ 31 by omega)]
  · rintro s _ _ ⟨τ, x3, rfl, rfl, hCi, hF⟩ hi
    have oki := (scL_ok ok2 s).1
    have ea : jAnd (nI (65536 - s)) (nI 65535) = nI ((65536 - s) % 65536) := andF (by omega)
    obtain ⟨ρ, e6, p1, p2, p3⟩ := q_L_startFrame (c := nI 2) (a := nI ((65536 - s) % 65536)) (o := nI 0) (l := nI 1) hCi
    refine wSeq (wSeq (wS_l (by simp only [e_fI, e_fLd, e_fLr, e_fB, e_fD, e_fC, e_fT, e_fAnd, e_fOr, e_fNot, e_fCC, e_fIf, e_gI, e_gR, e_aI, e_aR, e_aN, e_cV, e_cS, e_fNil, e_fAi, e_fAr, e_sSeq, e_sSkip, e_sSt, e_sSr, e_sInc, e_sRI, e_sRR, e_sRV, e_sIf, e_sCall, e_sPI, e_sPZ, e_sPR, e_sPO, e_sAI, e_sAZ, e_sAO, e_sAR, e_sPopI, e_sPopR, e_sCopy, e_mI, e_mZ, e_mR, e_mV, jAdd_n, jMul_n, z0, z1, Option.bind_some, List.getElem?_cons_zero, List.getElem?_cons_succ, List.set_cons_zero, List.set_cons_succ, eq_self, if_true, ite_and, ite_or, ite_I, ite_bI, ite_bJ, bI_ne, bI_01, List.cons_append, List.nil_append, Bool.false_eq_true, if_false, kT0 h, jSub_n (show s ≤ 65536 by omega), ea, e6]; rfl) ?_))
    refine wSeq (wS_l (by simp only [e_fI, e_fLd, e_fLr, e_fB, e_fD, e_fC, e_fT, e_fAnd, e_fOr, e_fNot, e_fCC, e_fIf, e_gI, e_gR, e_aI, e_aR, e_aN, e_cV, e_cS, e_fNil, e_fAi, e_fAr, e_sSeq, e_sSkip, e_sSt, e_sSr, e_sInc, e_sRI, e_sRR, e_sRV, e_sIf, e_sCall, e_sPI, e_sPZ, e_sPR, e_sPO, e_sAI, e_sAZ, e_sAO, e_sAR, e_sPopI, e_sPopR, e_sCopy, e_mI, e_mZ, e_mR, e_mV, jAdd_n, jMul_n, z0, z1, Option.bind_some, List.getElem?_cons_zero, List.getElem?_cons_succ, List.set_cons_zero, List.set_cons_succ, eq_self, if_true, ite_and, ite_or, ite_I, ite_bI, ite_bJ, bI_ne, bI_01, List.cons_append, List.nil_append, Bool.false_eq_true, if_false, gD5 h hX.D0, wD h hX.D0 (show 0 < 8 by omega)]; rfl) ?_)
    have p3' : ∀ b, b ≠ X → ¬ (X + 2 ≤ b ∧ b < X + 8) → up ρ (X + 2 + 1) 0 (nI (s + 1)) b = τ b := fun b g1 g2 => (up_ne (by omega)).trans (p3 b g1 g2)
    have hC1 : CPc n X (up ρ (X + 2 + 1) 0 (nI (s + 1))) (frW (scL w2 s) 1 (fun _ => pwG s)) := hCi.fr p3' (by rw [up_ne (by omega)]; exact p2) (by omega) (fun e he => by
      rw [show X + 2 + 2 * e = X + 2 by omega]
      unfold pwG sgG
      rw [and255 (by omega), show (s + 1) % 256 = s + 1 by omega]
      exact p1.u1)
    obtain ⟨υ, e7, q1', q2'⟩ := c_carry (L := [some (.ref 0), some (.ref (X + 2)), some (.int (nI s)), some (.ref (X + 2))]) hC1 (oki.fr (by omega) (fun _ _ => pwG_ok)) rfl
    refine wS_l e7 ?_
    refine wS_l (by simp only [e_fI, e_fLd, e_fLr, e_fB, e_fD, e_fC, e_fT, e_fAnd, e_fOr, e_fNot, e_fCC, e_fIf, e_gI, e_gR, e_aI, e_aR, e_aN, e_cV, e_cS, e_fNil, e_fAi, e_fAr, e_sSeq, e_sSkip, e_sSt, e_sSr, e_sInc, e_sRI, e_sRR, e_sRV, e_sIf, e_sCall, e_sPI, e_sPZ, e_sPR, e_sPO, e_sAI, e_sAZ, e_sAO, e_sAR, e_sPopI, e_sPopR, e_sCopy, e_mI, e_mZ, e_mR, e_mV, jAdd_n, jMul_n, z0, z1, Option.bind_some, List.getElem?_cons_zero, List.getElem?_cons_succ, List.set_cons_zero, List.set_cons_succ, eq_self, if_true, ite_and, ite_or, ite_I, ite_bI, ite_bJ, bI_ne, bI_01, List.cons_append, List.nil_append, Bool.false_eq_true, if_false, nI_add]; rfl) ?_
    exact ⟨υ, _, rfl, rfl, q1', hF.t ((FK.fr hX p3').t q2')⟩
  · rintro _ _ ⟨τ, x3, rfl, rfl, hCi, hF⟩
    have : τ 0 5 = nI c := by rw [hCi.cf, (scL_ok ok2 c).2.2, v3]
    refine wS_r (by simp only [e_fI, e_fLd, e_fLr, e_fB, e_fD, e_fC, e_fT, e_fAnd, e_fOr, e_fNot, e_fCC, e_fIf, e_gI, e_gR, e_aI, e_aR, e_aN, e_cV, e_cS, e_fNil, e_fAi, e_fAr, e_sSeq, e_sSkip, e_sSt, e_sSr, e_sInc, e_sRI, e_sRR, e_sRV, e_sIf, e_sCall, e_sPI, e_sPZ, e_sPR, e_sPO, e_sAI, e_sAZ, e_sAO, e_sAR, e_sPopI, e_sPopR, e_sCopy, e_mI, e_mZ, e_mR, e_mV, jAdd_n, jMul_n, z0, z1, Option.bind_some, List.getElem?_cons_zero, List.getElem?_cons_succ, List.set_cons_zero, List.set_cons_succ, eq_self, if_true, ite_and, ite_or, ite_I, ite_bI, ite_bJ, bI_ne, bI_01, List.cons_append, List.nil_append, Bool.false_eq_true, if_false, gT0_5 h, this]; rfl) ?_
    exact ⟨rfl, τ, rfl, hCi, hF⟩
theorem r_scan (h : okB n) (hR : CPr σ w) (hW : okW w) : ∃ τ, G_R_scan [.ref 26] (hs n σ) = some (a_scan w, hs n τ) ∧ CPr τ (scW w) ∧ FL σ τ := by
  obtain ⟨ok1, ek1, e41, hc1, ez1, -⟩ := w1_ok hW
  have hk := hW.2.1
  have h0 : okW (setV (fgW w) 0 3 (nI 0)) := hW.fg.1.v3 (by omega)
  refine mI_t (Nat.le_of_ble_eq_true rfl) ?_
  simp only [jx_L0, List.map_cons, List.map_nil, List.length_cons, List.length_nil, Nat.reduceAdd, Nat.reduceSub, List.replicate, List.cons_append, List.nil_append]
  unfold P_R_scan
  refine wSeq (wS_l (by simp only [e_fI, e_fLd, e_fLr, e_fB, e_fD, e_fC, e_fT, e_fAnd, e_fOr, e_fNot, e_fCC, e_fIf, e_gI, e_gR, e_aI, e_aR, e_aN, e_cV, e_cS, e_fNil, e_fAi, e_fAr, e_sSeq, e_sSkip, e_sSt, e_sSr, e_sInc, e_sRI, e_sRR, e_sRV, e_sIf, e_sCall, e_sPI, e_sPZ, e_sPR, e_sPO, e_sAI, e_sAZ, e_sAO, e_sAR, e_sPopI, e_sPopR, e_sCopy, e_mI, e_mZ, e_mR, e_mV, jAdd_n, jMul_n, z0, z1, Option.bind_some, List.getElem?_cons_zero, List.getElem?_cons_succ, List.set_cons_zero, List.set_cons_succ, eq_self, if_true, ite_and, ite_or, ite_I, ite_bI, ite_bJ, bI_ne, bI_01, List.cons_append, List.nil_append, Bool.false_eq_true, if_false, pT26_32 h]; rfl) ?_)
  refine wSeq (wS_l (by simp only [e_fI, e_fLd, e_fLr, e_fB, e_fD, e_fC, e_fT, e_fAnd, e_fOr, e_fNot, e_fCC, e_fIf, e_gI, e_gR, e_aI, e_aR, e_aN, e_cV, e_cS, e_fNil, e_fAi, e_fAr, e_sSeq, e_sSkip, e_sSt, e_sSr, e_sInc, e_sRI, e_sRR, e_sRV, e_sIf, e_sCall, e_sPI, e_sPZ, e_sPR, e_sPO, e_sAI, e_sAZ, e_sAO, e_sAR, e_sPopI, e_sPopR, e_sCopy, e_mI, e_mZ, e_mR, e_mV, jAdd_n, jMul_n, z0, z1, Option.bind_some, List.getElem?_cons_zero, List.getElem?_cons_succ, List.set_cons_zero, List.set_cons_succ, eq_self, if_true, ite_and, ite_or, ite_I, ite_bI, ite_bJ, bI_ne, bI_01, List.cons_append, List.nil_append, Bool.false_eq_true, if_false, pT26_33 h]; rfl) ?_)
  refine wSeq (wS_l (by simp only [e_fI, e_fLd, e_fLr, e_fB, e_fD, e_fC, e_fT, e_fAnd, e_fOr, e_fNot, e_fCC, e_fIf, e_gI, e_gR, e_aI, e_aR, e_aN, e_cV, e_cS, e_fNil, e_fAi, e_fAr, e_sSeq, e_sSkip, e_sSt, e_sSr, e_sInc, e_sRI, e_sRR, e_sRV, e_sIf, e_sCall, e_sPI, e_sPZ, e_sPR, e_sPO, e_sAI, e_sAZ, e_sAO, e_sAR, e_sPopI, e_sPopR, e_sCopy, e_mI, e_mZ, e_mR, e_mV, jAdd_n, jMul_n, z0, z1, Option.bind_some, List.getElem?_cons_zero, List.getElem?_cons_succ, List.set_cons_zero, List.set_cons_succ, eq_self, if_true, ite_and, ite_or, ite_I, ite_bI, ite_bJ, bI_ne, bI_01, List.cons_append, List.nil_append, Bool.false_eq_true, if_false, pT26_34 h]; rfl) ?_)
  have hF : FX (fun a i => a = 26 ∧ 32 ≤ i) σ (up (up (up σ 26 32 (nI 0)) 26 33 (nI 0)) 26 34 (nI 0)) := (((FX.r _ σ).u ⟨rfl, by omega⟩).u ⟨rfl, by omega⟩).u ⟨rfl, by omega⟩
  have r0 : CPr (up (up (up σ 26 32 (nI 0)) 26 33 (nI 0)) 26 34 (nI 0)) (setV (fgW w) 0 3 (nI 0)) := by
    have e32 : up (up (up σ 26 32 (nI 0)) 26 33 (nI 0)) 26 34 (nI 0) 26 32 = nI 0 := rfl
    have e33 : up (up (up σ 26 32 (nI 0)) 26 33 (nI 0)) 26 34 (nI 0) 26 33 = nI 0 := rfl
    have e34 : up (up (up σ 26 32 (nI 0)) 26 33 (nI 0)) 26 34 (nI 0) 26 34 = nI 0 := rfl
    generalize up (up (up σ 26 32 (nI 0)) 26 33 (nI 0)) 26 34 (nI 0) = τ at hF e32 e33 e34 ⊢
    obtain ⟨h1, h2, h3, h4, h5, h6⟩ := hR
    refine ⟨fun j i hc => ?_, by rw [hF 26 20 (by omega)]; exact h2, fun t ht => ?_, fun t h7 h8 => ?_, fun e he => (h5 e he).o hF (fun a m q k => by rcases q with q | q <;> omega), fun q e he => (h6 q e he).o hF (fun a m q k => by rcases q with q | q <;> omega)⟩
    · have es : sW (setV (fgW w) 0 3 (nI 0)) = 0 := hW.fg.2.1
      have em : mW (setV (fgW w) 0 3 (nI 0)) = 0 := hW.fg.2.2
      unfold celQ at hc
      rw [es, em] at hc
      by_cases q3 : j = 0 ∧ i = 3
      · obtain ⟨rfl, rfl⟩ := q3
        exact e32
      by_cases q6 : j = 0 ∧ i = 6
      · obtain ⟨rfl, rfl⟩ := q6
        exact e33
      by_cases q7 : j = 0 ∧ i = 7
      · obtain ⟨rfl, rfl⟩ := q7
        exact e34
      have hc2 : celQ w j i := by unfold celQ; omega
      have ev : vW (setV (fgW w) 0 3 (nI 0)) j i = vW w j i := by
        show up (vW (fgW w)) 0 3 (nI 0) j i = _
        unfold up
        rw [if_neg q3, vW_fg (by omega) (by omega)]
      rw [ev, ← h1 j i hc2]
      exact hF _ _ (fun k => by have := rv_c hc2; omega)
    · obtain ⟨r, m, c, hm, ha⟩ := h3 t ht
      exact ⟨r.o hF (fun a m q k => by have := q.b; omega), m, c, hm.o (s := 0) hF (fun a _ _ q => by omega), ha⟩
    · obtain ⟨r, e5, e6⟩ := h4 t h7 h8
      rw [hF 35 t (by omega), hF 36 t (by omega)]
      exact ⟨r.o hF (fun a m q k => by have := q.b; omega), e5, e6⟩
  have f0 := hF.L (fun a i k => by omega)
  generalize up (up (up σ 26 32 (nI 0)) 26 33 (nI 0)) 26 34 (nI 0) = τ0 at r0 f0 ⊢
  obtain ⟨τ1, e1, r1, f1⟩ := r_single (c := nI 7) (a := nI 0) (o := nI 0) (v := nI 0) h r0 h0 (okP_sg (by omega) (by omega) (by omega))
  rw [sgG_0] at r1
  have r1' : CPr τ1 (w1W w) := r1
  have et : tW (setV (fgW w) 0 3 (nI 0)) = bW (w1W w) := by
    rw [(w1_ok hW).2.2.2.2.2]
    rfl
  rw [et] at e1
  clear r1
  unfold a_scan scW
  generalize hwe : w1W w = w1 at *
  generalize hce : cW1 w = c at *
  refine wSeq (wIf (by simp only [e_fI, e_fLd, e_fLr, e_fB, e_fD, e_fC, e_fT, e_fAnd, e_fOr, e_fNot, e_fCC, e_fIf, e_gI, e_gR, e_aI, e_aR, e_aN, e_cV, e_cS, e_fNil, e_fAi, e_fAr, e_sSeq, e_sSkip, e_sSt, e_sSr, e_sInc, e_sRI, e_sRR, e_sRV, e_sIf, e_sCall, e_sPI, e_sPZ, e_sPR, e_sPO, e_sAI, e_sAZ, e_sAO, e_sAR, e_sPopI, e_sPopR, e_sCopy, e_mI, e_mZ, e_mR, e_mV, jAdd_n, jMul_n, z0, z1, Option.bind_some, List.getElem?_cons_zero, List.getElem?_cons_succ, List.set_cons_zero, List.set_cons_succ, eq_self, if_true, ite_and, ite_or, ite_I, ite_bI, ite_bJ, bI_ne, bI_01, List.cons_append, List.nil_append, Bool.false_eq_true, if_false, kT26 h, e1]; rfl) (fun hb => ?_) (fun hb => ?_))
  · have e : bW w1 = false := by cases q : bW w1; rfl; rw [q] at hb; cases hb
    rw [e, if_neg Bool.false_ne_true, if_neg Bool.false_ne_true]
    exact wS_r rfl ⟨rfl, τ1, rfl, r1', f0.t f1⟩
  have e : bW w1 = true := by cases q : bW w1; rw [q] at hb; cases hb; rfl
  clear hb
  rw [e, if_pos rfl, if_pos rfl, scL_3]
  refine wS_l rfl ?_
  have d4 : hp_i (hs n τ1) 48 50 (nI 6) = some (.int (nI c)) := by
    rw [r_ans h r1' ez1 e]
    unfold ans1
    rw [e, if_pos rfl, e41]
  refine wSeq (wS_l (by simp only [e_fI, e_fLd, e_fLr, e_fB, e_fD, e_fC, e_fT, e_fAnd, e_fOr, e_fNot, e_fCC, e_fIf, e_gI, e_gR, e_aI, e_aR, e_aN, e_cV, e_cS, e_fNil, e_fAi, e_fAr, e_sSeq, e_sSkip, e_sSt, e_sSr, e_sInc, e_sRI, e_sRR, e_sRV, e_sIf, e_sCall, e_sPI, e_sPZ, e_sPR, e_sPO, e_sAI, e_sAZ, e_sAO, e_sAR, e_sPopI, e_sPopR, e_sCopy, e_mI, e_mZ, e_mR, e_mV, jAdd_n, jMul_n, z0, z1, Option.bind_some, List.getElem?_cons_zero, List.getElem?_cons_succ, List.set_cons_zero, List.set_cons_succ, eq_self, if_true, ite_and, ite_or, ite_I, ite_bI, ite_bJ, bI_ne, bI_01, List.cons_append, List.nil_append, Bool.false_eq_true, if_false, gT26_26 h, d4]; rfl) ?_)
  refine wSeq (wSeq (wS_l (by simp only [e_fI, e_fLd, e_fLr, e_fB, e_fD, e_fC, e_fT, e_fAnd, e_fOr, e_fNot, e_fCC, e_fIf, e_gI, e_gR, e_aI, e_aR, e_aN, e_cV, e_cS, e_fNil, e_fAi, e_fAr, e_sSeq, e_sSkip, e_sSt, e_sSr, e_sInc, e_sRI, e_sRR, e_sRV, e_sIf, e_sCall, e_sPI, e_sPZ, e_sPR, e_sPO, e_sAI, e_sAZ, e_sAO, e_sAR, e_sPopI, e_sPopR, e_sCopy, e_mI, e_mZ, e_mR, e_mV, jAdd_n, jMul_n, z0, z1, Option.bind_some, List.getElem?_cons_zero, List.getElem?_cons_succ, List.set_cons_zero, List.set_cons_succ, eq_self, if_true, ite_and, ite_or, ite_I, ite_bI, ite_bJ, bI_ne, bI_01, List.cons_append, List.nil_append, Bool.false_eq_true, if_false]; rfl) ?_))
  refine wWh (I := fun s L H => ∃ τ, L = [some (.ref 26), some (.int (nI c)), some (.int (nI s))] ∧ H = hs n τ ∧ CPr τ (scL w1 s) ∧ FL σ τ) (e := c) ?_ ?_ ?_ 600 0 _ _ (by omega) (by omega) ⟨τ1, rfl, rfl, r1', f0.t f1⟩
  · rintro s _ _ ⟨τ, rfl, rfl, -⟩ hi
    simp only [e_fI, e_fLd, e_fLr, e_fB, e_fD, e_fC, e_fT, e_fAnd, e_fOr, e_fNot, e_fCC, e_fIf, e_gI, e_gR, e_aI, e_aR, e_aN, e_cV, e_cS, e_fNil, e_fAi, e_fAr, e_sSeq, e_sSkip, e_sSt, e_sSr, e_sInc, e_sRI, e_sRR, e_sRV, e_sIf, e_sCall, e_sPI, e_sPZ, e_sPR, e_sPO, e_sAI, e_sAZ, e_sAO, e_sAR, e_sPopI, e_sPopR, e_sCopy, e_mI, e_mZ, e_mR, e_mV, jAdd_n, jMul_n, z0, z1, Option.bind_some, List.getElem?_cons_zero, List.getElem?_cons_succ, List.set_cons_zero, List.set_cons_succ, eq_self, if_true, ite_and, ite_or, ite_I, ite_bI, ite_bJ, bI_ne, bI_01, List.cons_append, List.nil_append, Bool.false_eq_true, if_false, jLt, nI_ltI (show s < 2 ^ 31 by omega) (show c < 2 ^ 31 by omega)]
  · rintro s _ _ ⟨τ, rfl, rfl, hCi, hF'⟩ hi
    have oki := (scL_ok ok1 s).1
    have ea : jAnd (nI (65536 - s)) (nI 65535) = nI ((65536 - s) % 65536) := andF (by omega)
    obtain ⟨ρ, e6, p1, p2⟩ := r_single (c := nI 2) (a := nI ((65536 - s) % 65536)) (o := nI 0) (v := nI (s + 1)) h hCi oki pwG_ok
    refine wSeq (wS_l (by simp only [e_fI, e_fLd, e_fLr, e_fB, e_fD, e_fC, e_fT, e_fAnd, e_fOr, e_fNot, e_fCC, e_fIf, e_gI, e_gR, e_aI, e_aR, e_aN, e_cV, e_cS, e_fNil, e_fAi, e_fAr, e_sSeq, e_sSkip, e_sSt, e_sSr, e_sInc, e_sRI, e_sRR, e_sRV, e_sIf, e_sCall, e_sPI, e_sPZ, e_sPR, e_sPO, e_sAI, e_sAZ, e_sAO, e_sAR, e_sPopI, e_sPopR, e_sCopy, e_mI, e_mZ, e_mR, e_mV, jAdd_n, jMul_n, z0, z1, Option.bind_some, List.getElem?_cons_zero, List.getElem?_cons_succ, List.set_cons_zero, List.set_cons_succ, eq_self, if_true, ite_and, ite_or, ite_I, ite_bI, ite_bJ, bI_ne, bI_01, List.cons_append, List.nil_append, Bool.false_eq_true, if_false, kT26 h, jSub_n (show s ≤ 65536 by omega), ea, e6]; rfl) ?_)
    refine wS_l (by simp only [e_fI, e_fLd, e_fLr, e_fB, e_fD, e_fC, e_fT, e_fAnd, e_fOr, e_fNot, e_fCC, e_fIf, e_gI, e_gR, e_aI, e_aR, e_aN, e_cV, e_cS, e_fNil, e_fAi, e_fAr, e_sSeq, e_sSkip, e_sSt, e_sSr, e_sInc, e_sRI, e_sRR, e_sRV, e_sIf, e_sCall, e_sPI, e_sPZ, e_sPR, e_sPO, e_sAI, e_sAZ, e_sAO, e_sAR, e_sPopI, e_sPopR, e_sCopy, e_mI, e_mZ, e_mR, e_mV, jAdd_n, jMul_n, z0, z1, Option.bind_some, List.getElem?_cons_zero, List.getElem?_cons_succ, List.set_cons_zero, List.set_cons_succ, eq_self, if_true, ite_and, ite_or, ite_I, ite_bI, ite_bJ, bI_ne, bI_01, List.cons_append, List.nil_append, Bool.false_eq_true, if_false, nI_add]; rfl) ?_
    exact ⟨ρ, rfl, rfl, p1, hF'.t p2⟩
  · rintro _ _ ⟨τ, rfl, rfl, hCi, hF'⟩
    refine wSeq (wS_l (by simp only [e_fI, e_fLd, e_fLr, e_fB, e_fD, e_fC, e_fT, e_fAnd, e_fOr, e_fNot, e_fCC, e_fIf, e_gI, e_gR, e_aI, e_aR, e_aN, e_cV, e_cS, e_fNil, e_fAi, e_fAr, e_sSeq, e_sSkip, e_sSt, e_sSr, e_sInc, e_sRI, e_sRR, e_sRV, e_sIf, e_sCall, e_sPI, e_sPZ, e_sPR, e_sPO, e_sAI, e_sAZ, e_sAO, e_sAR, e_sPopI, e_sPopR, e_sCopy, e_mI, e_mZ, e_mR, e_mV, jAdd_n, jMul_n, z0, z1, Option.bind_some, List.getElem?_cons_zero, List.getElem?_cons_succ, List.set_cons_zero, List.set_cons_succ, eq_self, if_true, ite_and, ite_or, ite_I, ite_bI, ite_bJ, bI_ne, bI_01, List.cons_append, List.nil_append, Bool.false_eq_true, if_false, pT26_32 h]; rfl) ?_)
    exact wS_r rfl ⟨rfl, _, rfl, hCi.u (j := 0) (i := 3) (by unfold celQ; omega) (by omega), hF'.u (by omega)⟩
theorem scW_ok (hW : okW w) : okW (scW w) := by
  obtain ⟨ok1, ek1, e41, hc1, ez1, -⟩ := w1_ok hW
  unfold scW
  split
  · exact (scL_ok (ok1.v3 (by omega)) _).1
  · exact ok1
end SDC
