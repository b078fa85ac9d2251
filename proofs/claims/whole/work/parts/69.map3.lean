/-! the reference: a map of a station writes -/
section MAP3
variable {n s d : Nat} {σ : sg}
theorem map_wr {m a k : Nat} {T : mpT} {C : Nat → Int32} {w sh : Int32} {F : Nat → Int32} {wt : Bool} {lg ph en hi l nb : Nat} {x15 x16 x17 x18 : Option Value} (h : okB n) (hs6 : s < 6) (hd : d < 9) (hm : m < 4) (hM : RM σ s d T) (hok : okA T.1) (hf : okF T.1) (hC : ∀ j, j < 8 → σ 51 j = C j) (ew : σ 44 d = w) (ewt : (jNe (jAnd (T.1 4 (8 + m * 6 + 5)) (nI 2)) 0 && jNe w (nI 10)) = wt) (hfn : fnB F m a k = true) (hk : k ≤ 8) (esh : sh = jSub (nI (phB F m)) (nI (lgB F m))) (elg : lg = lgB F m) (ehi : hi = hiB F m a k) (el : l = mlB F m a k) (ha : a < 65536) {Q : hp_L → hp_H → Prop} {R : Option Value → hp_H → Prop} (hQ : ∀ τ x15 x16 x17 x18, RM τ s d (mpW C F wt a k m T) → FX (MC s d) σ τ → Q (mL s d m nb lg ph (8 * a) (loB F m a) en hi (mfB F m a) l sh x15 x16 x17 x18) (hs n τ)) : wS (sIf (fAnd (fAnd (fC jEq (fB jAnd (cV 8 (fAr (fLr 0) (fAi (fLd 1) (fAi (fB jAdd (fLd 4) (fI (nI 5))) (fNil)))) G_R_at) (fI (nI 2))) (fI (nI 2))) (fC jNe (aI 50 (gR 8 22 (fLr 0)) (fLd 2)) (fI (nI 10)))) (fT (cV 8 (fAr (fLr 0) (fAi (fLd 1) (fAi (fLd 12) (fAi (fLd 13) (fAi (fI (nI 1)) (fNil)))))) G_R_allowed))) (sSeq (sPZ 8 31 (fLr 0) (fI (nI 1))) (sSeq (sSeq (sSt 15 (fLd 12)) (sWh (fC jLe (fLd 15) (fLd 13)) (sSeq (sAI (gR 8 28 (fLr 0)) (fB jSub (fLd 15) (fLd 12)) (cV 8 (fAr (fLr 0) (fAi (fLd 1) (fAi (fLd 15) (fNil)))) G_R_stays)) (sInc 15 (nI 1))) 600)) (sSeq (sSeq (sSt 15 (fLd 9)) (sWh (fC jLt (fLd 15) (fLd 11)) (sSeq (sSeq (sSt 16 (fB jAdd (fLd 15) (fLd 14))) (sSeq (sSt 17 (fB jAnd (fB jShr (aI 50 (gR 8 29 (fLr 0)) (fD jDiv (fB jSub (fLd 15) (fLd 8)) (fI (nI 8)))) (fD jRem (fB jSub (fLd 15) (fLd 8)) (fI (nI 8)))) (fI (nI 1)))) (sAI (gR 8 28 (fLr 0)) (fB jSub (fD jDiv (fLd 16) (fI (nI 8))) (fLd 12)) (fB jOr (fB jAnd (aI 50 (gR 8 28 (fLr 0)) (fB jSub (fD jDiv (fLd 16) (fI (nI 8))) (fLd 12))) (fB jXor (fB jShl (fI (nI 1)) (fD jRem (fLd 16) (fI (nI 8)))) (fI (-1)))) (fB jShl (fLd 17) (fD jRem (fLd 16) (fI (nI 8)))))))) (sInc 15 (nI 1))) 600)) (sCall (cV 8 (fAr (fLr 0) (fAi (fLd 1) (fAi (fLd 12) (fAi (fLd 13) (fNil))))) G_R_writes))))) sSkip) (mL s d m nb lg ph (8 * a) (loB F m a) en hi (mfB F m a) l sh x15 x16 x17 x18) (hs n σ) Q R := by
  obtain ⟨hR, hB49, h30, h31⟩ := hM
  obtain ⟨fb1, fb2, fb3, fb4, fb5⟩ := fnB_b hk hfn
  obtain ⟨rw1, rw2, rw3⟩ := mrow hk hfn
  have hlo : 8 * a ≤ loB F m a ∧ lgB F m ≤ loB F m a := by unfold loB; omega
  have hmb : mbB F m a = phB F m + loB F m a - lgB F m := rfl
  have hdb : dbB F m a = loB F m a - 8 * a := rfl
  have hct : ctB F m a k = hiB F m a k - loB F m a := rfl
  have hmf : mfB F m a = mbB F m a / 8 := rfl
  have hml : mlB F m a k = (mbB F m a + ctB F m a k - 1) / 8 := rfl
  have hloB : loB F m a < 600000 := by omega
  subst elg ehi el esh
  have n8 : ¬ nI 8 = 0 := by decide
  have qa := q_R_allowed (f := mfB F m a) (l := mlB F m a k) (w := true) h hR hs6 hok hf rw1 rw3 (by omega)
  rw [bI_t, decide_eq_true rw2, Bool.true_and] at qa
  refine wIf (by simp only [e_fI, e_fLd, e_fLr, e_fB, e_fD, e_fC, e_fT, e_fAnd, e_fOr, e_fNot, e_fCC, e_fIf, e_gI, e_gR, e_aI, e_aR, e_aN, e_cV, e_cS, e_fNil, e_fAi, e_fAr, e_sSeq, e_sSkip, e_sSt, e_sSr, e_sInc, e_sRI, e_sRR, e_sRV, e_sIf, e_sCall, e_sPI, e_sPZ, e_sPR, e_sPO, e_sAI, e_sAZ, e_sAO, e_sAR, e_sPopI, e_sPopR, e_sCopy, e_mI, e_mZ, e_mR, e_mV, jAdd_n, jMul_n, z0, z1, Option.bind_some, List.getElem?_cons_zero, List.getElem?_cons_succ, List.set_cons_zero, List.set_cons_succ, eq_self, if_true, ite_and, ite_or, ite_I, ite_bI, ite_bJ, bI_ne, bI_01, List.cons_append, List.nil_append, Bool.false_eq_true, if_false, mL, kT26 h, q_R_at h hR hs6 (show 8 + m * 6 + 5 < 128 by omega), e2and, gT26_22 h, iT44 h hd, ew, ewt, qa]; rfl) (fun hb => ?_) (fun hb => ?_)
  · have eT : mpW C F wt a k m T = (cW T.1 (mfB F m a) (pir C (dbB F m a) (mbB F m a % 8) (ctB F m a k)) (pim (mbB F m a % 8) (ctB F m a k)) (mlB F m a k + 1 - mfB F m a), T.2.1, T.2.2.1, true) := by
      unfold mpW
      rw [hb, if_pos rfl]
    have hal := (Bool.and_eq_true_iff.mp hb).2
    have hmo := wr_mo hal
    refine wSeq (wS_l (by simp only [e_fI, e_fLd, e_fLr, e_fB, e_fD, e_fC, e_fT, e_fAnd, e_fOr, e_fNot, e_fCC, e_fIf, e_gI, e_gR, e_aI, e_aR, e_aN, e_cV, e_cS, e_fNil, e_fAi, e_fAr, e_sSeq, e_sSkip, e_sSt, e_sSr, e_sInc, e_sRI, e_sRR, e_sRV, e_sIf, e_sCall, e_sPI, e_sPZ, e_sPR, e_sPO, e_sAI, e_sAZ, e_sAO, e_sAR, e_sPopI, e_sPopR, e_sCopy, e_mI, e_mZ, e_mR, e_mV, jAdd_n, jMul_n, z0, z1, Option.bind_some, List.getElem?_cons_zero, List.getElem?_cons_succ, List.set_cons_zero, List.set_cons_succ, eq_self, if_true, ite_and, ite_or, ite_I, ite_bI, ite_bJ, bI_ne, bI_01, List.cons_append, List.nil_append, Bool.false_eq_true, if_false, mL, pT26_31 h]; rfl) ?_)
    have hF0 : FX (fun a i => a = 26 ∧ (i = 30 ∨ i = 31)) σ (up σ 26 31 (nI 1)) := (FX.r _ σ).u ⟨rfl, Or.inr rfl⟩
    have hR1 : RR (up σ 26 31 (nI 1)) s T.1 := hR.o hF0 (fun a i q k => by have := q.b; omega)
    have e49 : ∀ j, j < 8 → up σ 26 31 (nI 1) 49 (8 * d + j) = T.2.1 j := fun j hj => by rw [up_ne (by omega)]; exact hB49 j hj
    have e30 : up σ 26 31 (nI 1) 26 30 = bI T.2.2.1 := by
      unfold up
      rw [if_neg (by omega)]
      exact h30
    have e31 : up σ 26 31 (nI 1) 26 31 = bI true := by
      unfold up
      rw [if_pos ⟨rfl, rfl⟩]
      rfl
    have e51 : ∀ j, j < 8 → up σ 26 31 (nI 1) 51 j = C j := fun j hj => by rw [up_ne (by omega)]; exact hC j hj
    have hF1 : FX (MC s d) σ (up σ 26 31 (nI 1)) := hF0.m (fun a i q => Or.inr (Or.inr (Or.inr q)))
    generalize up σ 26 31 (nI 1) = τ at hR1 e49 e30 e31 e51 hF1 ⊢
    refine wSeq (wSeq (wS_l (by simp only [e_fI, e_fLd, e_fLr, e_fB, e_fD, e_fC, e_fT, e_fAnd, e_fOr, e_fNot, e_fCC, e_fIf, e_gI, e_gR, e_aI, e_aR, e_aN, e_cV, e_cS, e_fNil, e_fAi, e_fAr, e_sSeq, e_sSkip, e_sSt, e_sSr, e_sInc, e_sRI, e_sRR, e_sRV, e_sIf, e_sCall, e_sPI, e_sPZ, e_sPR, e_sPO, e_sAI, e_sAZ, e_sAO, e_sAR, e_sPopI, e_sPopR, e_sCopy, e_mI, e_mZ, e_mR, e_mV, jAdd_n, jMul_n, z0, z1, Option.bind_some, List.getElem?_cons_zero, List.getElem?_cons_succ, List.set_cons_zero, List.set_cons_succ, eq_self, if_true, ite_and, ite_or, ite_I, ite_bI, ite_bJ, bI_ne, bI_01, List.cons_append, List.nil_append, Bool.false_eq_true, if_false]; rfl) ?_))
    refine wWh (I := fun b L H => mfB F m a ≤ b ∧ ∃ ρ x16 x17 x18, L = mL s d m nb (lgB F m) ph (8 * a) (loB F m a) en (hiB F m a k) (mfB F m a) (mlB F m a k) (jSub (nI (phB F m)) (nI (lgB F m))) (some (.int (nI b))) x16 x17 x18 ∧ H = hs n ρ ∧ (∀ j, mfB F m a + j < b → ρ 50 j = hldA T.1 (mfB F m a + j)) ∧ FX (fun a _ => a = 50) τ ρ) (e := mlB F m a k + 1) ?_ ?_ ?_ 600 (mfB F m a) _ _ (by omega) (by omega) ⟨Nat.le_refl _, τ, _, _, _, rfl, rfl, fun j hj => by omega, FX.r _ τ⟩
    · rintro b _ _ ⟨-, ρ, y16, y17, y18, rfl, rfl, -⟩ hi
      simp only [e_fI, e_fLd, e_fLr, e_fB, e_fD, e_fC, e_fT, e_fAnd, e_fOr, e_fNot, e_fCC, e_fIf, e_gI, e_gR, e_aI, e_aR, e_aN, e_cV, e_cS, e_fNil, e_fAi, e_fAr, e_sSeq, e_sSkip, e_sSt, e_sSr, e_sInc, e_sRI, e_sRR, e_sRV, e_sIf, e_sCall, e_sPI, e_sPZ, e_sPR, e_sPO, e_sAI, e_sAZ, e_sAO, e_sAR, e_sPopI, e_sPopR, e_sCopy, e_mI, e_mZ, e_mR, e_mV, jAdd_n, jMul_n, z0, z1, Option.bind_some, List.getElem?_cons_zero, List.getElem?_cons_succ, List.set_cons_zero, List.set_cons_succ, eq_self, if_true, ite_and, ite_or, ite_I, ite_bI, ite_bJ, bI_ne, bI_01, List.cons_append, List.nil_append, Bool.false_eq_true, if_false, mL, jLe, nI_leI (show b < 2 ^ 31 by omega) (show mlB F m a k < 2 ^ 31 by omega), Nat.lt_succ_iff]
    · rintro b _ _ ⟨hfb, ρ, y16, y17, y18, rfl, rfl, hV, hFρ⟩ hi
      have hRρ : RR ρ s T.1 := hR1.o hFρ (fun a i q k => by have := q.b; omega)
      have st := q_R_stays (b := b) h hRρ hs6 hok (by omega) (fun c hc o => hmo b c hfb hi hc o)
      refine wSeq (wS_l (by simp only [e_fI, e_fLd, e_fLr, e_fB, e_fD, e_fC, e_fT, e_fAnd, e_fOr, e_fNot, e_fCC, e_fIf, e_gI, e_gR, e_aI, e_aR, e_aN, e_cV, e_cS, e_fNil, e_fAi, e_fAr, e_sSeq, e_sSkip, e_sSt, e_sSr, e_sInc, e_sRI, e_sRR, e_sRV, e_sIf, e_sCall, e_sPI, e_sPZ, e_sPR, e_sPO, e_sAI, e_sAZ, e_sAO, e_sAR, e_sPopI, e_sPopR, e_sCopy, e_mI, e_mZ, e_mR, e_mV, jAdd_n, jMul_n, z0, z1, Option.bind_some, List.getElem?_cons_zero, List.getElem?_cons_succ, List.set_cons_zero, List.set_cons_succ, eq_self, if_true, ite_and, ite_or, ite_I, ite_bI, ite_bJ, bI_ne, bI_01, List.cons_append, List.nil_append, Bool.false_eq_true, if_false, mL, kT26 h, jSub_n hfb, st, gT26_28 h, wT50 h (show b - mfB F m a < 9 by omega)]; rfl) ?_)
      refine wS_l (by simp only [e_fI, e_fLd, e_fLr, e_fB, e_fD, e_fC, e_fT, e_fAnd, e_fOr, e_fNot, e_fCC, e_fIf, e_gI, e_gR, e_aI, e_aR, e_aN, e_cV, e_cS, e_fNil, e_fAi, e_fAr, e_sSeq, e_sSkip, e_sSt, e_sSr, e_sInc, e_sRI, e_sRR, e_sRV, e_sIf, e_sCall, e_sPI, e_sPZ, e_sPR, e_sPO, e_sAI, e_sAZ, e_sAO, e_sAR, e_sPopI, e_sPopR, e_sCopy, e_mI, e_mZ, e_mR, e_mV, jAdd_n, jMul_n, z0, z1, Option.bind_some, List.getElem?_cons_zero, List.getElem?_cons_succ, List.set_cons_zero, List.set_cons_succ, eq_self, if_true, ite_and, ite_or, ite_I, ite_bI, ite_bJ, bI_ne, bI_01, List.cons_append, List.nil_append, Bool.false_eq_true, if_false, nI_add]; rfl) ?_
      refine ⟨by omega, _, _, _, _, rfl, rfl, fun j hj => ?_, hFρ.u rfl⟩
      unfold up
      by_cases q : j = b - mfB F m a
      · rw [if_pos ⟨rfl, q⟩, q, show mfB F m a + (b - mfB F m a) = b by omega]
      · rw [if_neg (fun k => q k.2)]
        exact hV j (by omega)
    · rintro _ _ ⟨-, ρ, y16, y17, y18, rfl, rfl, hV, hFρ⟩
      refine wSeq (wSeq (wS_l (by simp only [e_fI, e_fLd, e_fLr, e_fB, e_fD, e_fC, e_fT, e_fAnd, e_fOr, e_fNot, e_fCC, e_fIf, e_gI, e_gR, e_aI, e_aR, e_aN, e_cV, e_cS, e_fNil, e_fAi, e_fAr, e_sSeq, e_sSkip, e_sSt, e_sSr, e_sInc, e_sRI, e_sRR, e_sRV, e_sIf, e_sCall, e_sPI, e_sPZ, e_sPR, e_sPO, e_sAI, e_sAZ, e_sAO, e_sAR, e_sPopI, e_sPopR, e_sCopy, e_mI, e_mZ, e_mR, e_mV, jAdd_n, jMul_n, z0, z1, Option.bind_some, List.getElem?_cons_zero, List.getElem?_cons_succ, List.set_cons_zero, List.set_cons_succ, eq_self, if_true, ite_and, ite_or, ite_I, ite_bI, ite_bJ, bI_ne, bI_01, List.cons_append, List.nil_append, Bool.false_eq_true, if_false, mL]; rfl) ?_))
      refine wWh (I := fun i L H => ∃ ρ' x16 x17 x18, L = mL s d m nb (lgB F m) ph (8 * a) (loB F m a) en (hiB F m a k) (mfB F m a) (mlB F m a k) (jSub (nI (phB F m)) (nI (lgB F m))) (some (.int (nI (loB F m a + i)))) x16 x17 x18 ∧ H = hs n ρ' ∧ (∀ j, mfB F m a + j ≤ mlB F m a k → ρ' 50 j = pid C (fun j => hldA T.1 (mfB F m a + j)) (dbB F m a) (mbB F m a % 8) i j) ∧ FX (fun a _ => a = 50) τ ρ') (e := ctB F m a k) ?_ ?_ ?_ 600 0 _ _ (by omega) (by omega) ⟨ρ, _, _, _, rfl, rfl, fun j hj => hV j (by omega), hFρ⟩
      · rintro i _ _ ⟨ρ', z16, z17, z18, rfl, rfl, -⟩ hi
        have : decide (loB F m a + i < hiB F m a k) = decide (i < ctB F m a k) := decide_eq_decide.mpr (by omega)
        simp only [e_fI, e_fLd, e_fLr, e_fB, e_fD, e_fC, e_fT, e_fAnd, e_fOr, e_fNot, e_fCC, e_fIf, e_gI, e_gR, e_aI, e_aR, e_aN, e_cV, e_cS, e_fNil, e_fAi, e_fAr, e_sSeq, e_sSkip, e_sSt, e_sSr, e_sInc, e_sRI, e_sRR, e_sRV, e_sIf, e_sCall, e_sPI, e_sPZ, e_sPR, e_sPO, e_sAI, e_sAZ, e_sAO, e_sAR, e_sPopI, e_sPopR, e_sCopy, e_mI, e_mZ, e_mR, e_mV, jAdd_n, jMul_n, z0, z1, Option.bind_some, List.getElem?_cons_zero, List.getElem?_cons_succ, List.set_cons_zero, List.set_cons_succ, eq_self, if_true, ite_and, ite_or, ite_I, ite_bI, ite_bJ, bI_ne, bI_01, List.cons_append, List.nil_append, Bool.false_eq_true, if_false, mL, jLt, nI_ltI (show loB F m a + i < 2 ^ 31 by omega) (show hiB F m a k < 2 ^ 31 by omega), this]
      · rintro i _ _ ⟨ρ', z16, z17, z18, rfl, rfl, hP, hFρ'⟩ hi
        have j16 : jAdd (nI (loB F m a + i)) (jSub (nI (phB F m)) (nI (lgB F m))) = nI (mbB F m a + i) := by
          rw [jAdd_s (by omega), show loB F m a + i + phB F m - lgB F m = mbB F m a + i by omega]
        have j17a : jDiv (nI (mbB F m a + i)) (nI 8) = nI ((mbB F m a + i) / 8) := pk_div (by omega) (by decide) (by decide)
        have j17b : jSub (nI ((mbB F m a + i) / 8)) (nI (mfB F m a)) = nI ((mbB F m a % 8 + i) / 8) := by
          rw [jSub_n (by omega), show (mbB F m a + i) / 8 - mfB F m a = (mbB F m a % 8 + i) / 8 by omega]
        have j17c : jRem (nI (mbB F m a + i)) (nI 8) = nI ((mbB F m a % 8 + i) % 8) := by
          rw [show (mbB F m a % 8 + i) % 8 = (mbB F m a + i) % 8 by omega]
          exact pk_rem (by omega) (by decide) (by decide)
        have j18 : jSub (nI (loB F m a + i)) (nI (8 * a)) = nI (dbB F m a + i) := by
          rw [jSub_n (by omega), show loB F m a + i - 8 * a = dbB F m a + i by omega]
        have j18b : jDiv (nI (dbB F m a + i)) (nI 8) = nI ((dbB F m a + i) / 8) := pk_div (by omega) (by decide) (by decide)
        have j18c : jRem (nI (dbB F m a + i)) (nI 8) = nI ((dbB F m a + i) % 8) := pk_rem (by omega) (by decide) (by decide)
        have k51 : ρ' 51 ((dbB F m a + i) / 8) = C ((dbB F m a + i) / 8) := by
          rw [hFρ' 51 _ (by omega)]
          exact e51 _ (by omega)
        have k50 := hP ((mbB F m a % 8 + i) / 8) (by omega)
        refine wSeq (wSeq (wS_l (by simp only [e_fI, e_fLd, e_fLr, e_fB, e_fD, e_fC, e_fT, e_fAnd, e_fOr, e_fNot, e_fCC, e_fIf, e_gI, e_gR, e_aI, e_aR, e_aN, e_cV, e_cS, e_fNil, e_fAi, e_fAr, e_sSeq, e_sSkip, e_sSt, e_sSr, e_sInc, e_sRI, e_sRR, e_sRV, e_sIf, e_sCall, e_sPI, e_sPZ, e_sPR, e_sPO, e_sAI, e_sAZ, e_sAO, e_sAR, e_sPopI, e_sPopR, e_sCopy, e_mI, e_mZ, e_mR, e_mV, jAdd_n, jMul_n, z0, z1, Option.bind_some, List.getElem?_cons_zero, List.getElem?_cons_succ, List.set_cons_zero, List.set_cons_succ, eq_self, if_true, ite_and, ite_or, ite_I, ite_bI, ite_bJ, bI_ne, bI_01, List.cons_append, List.nil_append, Bool.false_eq_true, if_false, mL, j16]; rfl) ?_))
        refine wSeq (wS_l (by simp only [e_fI, e_fLd, e_fLr, e_fB, e_fD, e_fC, e_fT, e_fAnd, e_fOr, e_fNot, e_fCC, e_fIf, e_gI, e_gR, e_aI, e_aR, e_aN, e_cV, e_cS, e_fNil, e_fAi, e_fAr, e_sSeq, e_sSkip, e_sSt, e_sSr, e_sInc, e_sRI, e_sRR, e_sRV, e_sIf, e_sCall, e_sPI, e_sPZ, e_sPR, e_sPO, e_sAI, e_sAZ, e_sAO, e_sAR, e_sPopI, e_sPopR, e_sCopy, e_mI, e_mZ, e_mR, e_mV, jAdd_n, jMul_n, z0, z1, Option.bind_some, List.getElem?_cons_zero, List.getElem?_cons_succ, List.set_cons_zero, List.set_cons_succ, eq_self, if_true, ite_and, ite_or, ite_I, ite_bI, ite_bJ, bI_ne, bI_01, List.cons_append, List.nil_append, Bool.false_eq_true, if_false, n8, j18, j18b, j18c, gT26_29 h, iT51 h (show (dbB F m a + i) / 8 < 8 by omega), k51]; rfl) ?_)
        refine wS_l (by simp only [e_fI, e_fLd, e_fLr, e_fB, e_fD, e_fC, e_fT, e_fAnd, e_fOr, e_fNot, e_fCC, e_fIf, e_gI, e_gR, e_aI, e_aR, e_aN, e_cV, e_cS, e_fNil, e_fAi, e_fAr, e_sSeq, e_sSkip, e_sSt, e_sSr, e_sInc, e_sRI, e_sRR, e_sRV, e_sIf, e_sCall, e_sPI, e_sPZ, e_sPR, e_sPO, e_sAI, e_sAZ, e_sAO, e_sAR, e_sPopI, e_sPopR, e_sCopy, e_mI, e_mZ, e_mR, e_mV, jAdd_n, jMul_n, z0, z1, Option.bind_some, List.getElem?_cons_zero, List.getElem?_cons_succ, List.set_cons_zero, List.set_cons_succ, eq_self, if_true, ite_and, ite_or, ite_I, ite_bI, ite_bJ, bI_ne, bI_01, List.cons_append, List.nil_append, Bool.false_eq_true, if_false, n8, j17a, j17b, j17c, gT26_28 h, iT50 h (show (mbB F m a % 8 + i) / 8 < 9 by omega), wT50 h (show (mbB F m a % 8 + i) / 8 < 9 by omega), k50]; rfl) ?_
        refine wS_l (by simp only [e_fI, e_fLd, e_fLr, e_fB, e_fD, e_fC, e_fT, e_fAnd, e_fOr, e_fNot, e_fCC, e_fIf, e_gI, e_gR, e_aI, e_aR, e_aN, e_cV, e_cS, e_fNil, e_fAi, e_fAr, e_sSeq, e_sSkip, e_sSt, e_sSr, e_sInc, e_sRI, e_sRR, e_sRV, e_sIf, e_sCall, e_sPI, e_sPZ, e_sPR, e_sPO, e_sAI, e_sAZ, e_sAO, e_sAR, e_sPopI, e_sPopR, e_sCopy, e_mI, e_mZ, e_mR, e_mV, jAdd_n, jMul_n, z0, z1, Option.bind_some, List.getElem?_cons_zero, List.getElem?_cons_succ, List.set_cons_zero, List.set_cons_succ, eq_self, if_true, ite_and, ite_or, ite_I, ite_bI, ite_bJ, bI_ne, bI_01, List.cons_append, List.nil_append, Bool.false_eq_true, if_false, nI_add]; rfl) ?_
        refine ⟨_, _, _, _, rfl, rfl, fun j hj => ?_, hFρ'.u rfl⟩
        show _ = bput _ _ _ j
        unfold up bput
        by_cases q : j = (mbB F m a % 8 + i) / 8
        · rw [if_pos ⟨rfl, q⟩, if_pos q, q]
          rfl
        · rw [if_neg (fun k => q k.2), if_neg q]
          exact hP j hj
      · rintro _ _ ⟨ρ', z16, z17, z18, rfl, rfl, hP, hFρ'⟩
        have hRρ : RR ρ' s T.1 := hR1.o hFρ' (fun a i q k => by have := q.b; omega)
        have hby : ∀ j, mfB F m a + j ≤ mlB F m a k → byt (pid C (fun j => hldA T.1 (mfB F m a + j)) (dbB F m a) (mbB F m a % 8) (ctB F m a k) j) := fun j hj => by
          rw [pid_mrg]
          exact byt_mrg (hok.hl (by omega)) (byt_pir _ _)
        obtain ⟨υ, e, hRu, hFu⟩ := q_R_writes (v := fun j => pid C (fun j => hldA T.1 (mfB F m a + j)) (dbB F m a) (mbB F m a % 8) (ctB F m a k) j) h hRρ hs6 hok rw1 rw2 rw3 (fun j hj => ⟨hP j hj, hby j hj⟩)
        have hcw : cW T.1 (mfB F m a) (pir C (dbB F m a) (mbB F m a % 8) (ctB F m a k)) (pim (mbB F m a % 8) (ctB F m a k)) (mlB F m a k + 1 - mfB F m a) = cmF (stF T.1 (mfB F m a) (fun j => pid C (fun j => hldA T.1 (mfB F m a + j)) (dbB F m a) (mbB F m a % 8) (ctB F m a k) j) (mlB F m a k + 1 - mfB F m a)) (mfB F m a) (mlB F m a k + 1 - mfB F m a) := by
          have hsf : stF T.1 (mfB F m a) (fun j => mrg (hldA T.1 (mfB F m a + j)) (pir C (dbB F m a) (mbB F m a % 8) (ctB F m a k) j) (pim (mbB F m a % 8) (ctB F m a k) j)) (mlB F m a k + 1 - mfB F m a) = stF T.1 (mfB F m a) (fun j => pid C (fun j => hldA T.1 (mfB F m a + j)) (dbB F m a) (mbB F m a % 8) (ctB F m a k) j) (mlB F m a k + 1 - mfB F m a) := stF_cg _ (fun j _ => (pid_mrg (C := C) (S := fun j => hldA T.1 (mfB F m a + j)) (p := dbB F m a) (q := mbB F m a % 8) (ctB F m a k) j).symm)
          rw [cW_st hok (by omega) (by omega) (fun j => byt_pir _ _) (fun b c h1 h2 => hmo b c h1 (by omega)), hsf]
        rw [← hcw] at hRu
        rw [eT] at hQ
        refine wS_l (by simp only [e_fI, e_fLd, e_fLr, e_fB, e_fD, e_fC, e_fT, e_fAnd, e_fOr, e_fNot, e_fCC, e_fIf, e_gI, e_gR, e_aI, e_aR, e_aN, e_cV, e_cS, e_fNil, e_fAi, e_fAr, e_sSeq, e_sSkip, e_sSt, e_sSr, e_sInc, e_sRI, e_sRR, e_sRV, e_sIf, e_sCall, e_sPI, e_sPZ, e_sPR, e_sPO, e_sAI, e_sAZ, e_sAO, e_sAR, e_sPopI, e_sPopR, e_sCopy, e_mI, e_mZ, e_mR, e_mV, jAdd_n, jMul_n, z0, z1, Option.bind_some, List.getElem?_cons_zero, List.getElem?_cons_succ, List.set_cons_zero, List.set_cons_succ, eq_self, if_true, ite_and, ite_or, ite_I, ite_bI, ite_bJ, bI_ne, bI_01, List.cons_append, List.nil_append, Bool.false_eq_true, if_false, mL, kT26 h, e]; rfl) ?_
        refine hQ υ _ _ _ _ ⟨hRu, fun j hj => ?_, ?_, ?_⟩ (hF1.t ((hFρ'.m (fun a i q => Or.inr (Or.inr (Or.inl q)))).t (hFu.m (fun a i q => Or.inl q))))
        · rw [hFu 49 _ (fun q => by have := q.b; omega), hFρ' 49 _ (by omega)]
          exact e49 j hj
        · rw [hFu 26 30 (fun q => by have := q.b; omega), hFρ' 26 30 (by omega)]
          exact e30
        · rw [hFu 26 31 (fun q => by have := q.b; omega), hFρ' 26 31 (by omega)]
          exact e31
  · have eT : mpW C F wt a k m T = T := by
      unfold mpW
      rw [hb, if_neg Bool.false_ne_true]
    rw [eT] at hQ
    exact wS_l rfl (hQ σ x15 x16 x17 x18 ⟨hR, hB49, h30, h31⟩ (FX.r _ σ))
end MAP3
