/-! the reference: a map of a station, all together -/
def mL (s d m nb lg ph fr lo en hi f l : Nat) (sh : Int32) (x15 x16 x17 x18 : Option Value) : hp_L := [some (.ref 26), some (.int (nI s)), some (.int (nI d)), some (.int (nI m)), some (.int (nI (8 + m * 6))), some (.int (nI nb)), some (.int (nI lg)), some (.int (nI ph)), some (.int (nI fr)), some (.int (nI lo)), some (.int (nI en)), some (.int (nI hi)), some (.int (nI f)), some (.int (nI l)), some (.int sh), x15, x16, x17, x18]
theorem okF.rd {A : sg} {f l : Nat} (h : okF A) : okF (rdA A f l) := fun c hc => by
  unfold rdA
  rw [if_neg (by omega)]
  split
  · exact Or.inl rfl
  · exact h c hc
theorem rd_lo {A : sg} {f l i : Nat} (hi : i < 48) : rdA A f l 4 i = A 4 i := by
  unfold rdA
  rw [if_neg (by omega), if_neg (by omega)]
theorem mpR_lo {w : Int32} {a k m i : Nat} {T : mpT} (hi : i < 48) : (mpR w a k m T).1 4 i = T.1 4 i := by
  unfold mpR
  split
  · exact rd_lo hi
  · rfl
theorem mpR_F {w : Int32} {a k m : Nat} {T : mpT} (h : okF T.1) : okF (mpR w a k m T).1 := by
  unfold mpR
  split
  · exact h.rd
  · exact h
theorem mpR_A {w : Int32} {a k m : Nat} {T : mpT} (h : okA T.1) : okA (mpR w a k m T).1 := by
  unfold mpR
  split
  · exact h.rd
  · exact h
section MAP2
variable {n s d : Nat} {σ : sg}
theorem map_rd {m a k : Nat} {T : mpT} {w sh : Int32} {F : Nat → Int32} {lg ph en hi l nb : Nat} (h : okB n) (hs6 : s < 6) (hd : d < 9) (hm : m < 4) (hM : RM σ s d T) (hok : okA T.1) (hf : okF T.1) (ew : σ 44 d = w) (eF : F = T.1 4) (hfn : fnB F m a k = true) (hk : k ≤ 8) (esh : sh = jSub (nI (phB F m)) (nI (lgB F m))) (elg : lg = lgB F m) (ehi : hi = hiB F m a k) (el : l = mlB F m a k) (ha : a < 65536) {Q : hp_L → hp_H → Prop} {R : Option Value → hp_H → Prop} (hQ : ∀ τ x15 x16 x17 x18, RM τ s d (mpR w a k m T) → FX (MC s d) σ τ → Q (mL s d m nb lg ph (8 * a) (loB F m a) en hi (mfB F m a) l sh x15 x16 x17 x18) (hs n τ)) : wS (sIf (fAnd (fAnd (fC jEq (fB jAnd (cV 8 (fAr (fLr 0) (fAi (fLd 1) (fAi (fB jAdd (fLd 4) (fI (nI 5))) (fNil)))) G_R_at) (fI (nI 1))) (fI (nI 1))) (fC jNe (aI 50 (gR 8 22 (fLr 0)) (fLd 2)) (fI (nI 11)))) (fT (cV 8 (fAr (fLr 0) (fAi (fLd 1) (fAi (fLd 12) (fAi (fLd 13) (fNil))))) G_R_reads))) (sSeq (sPZ 8 30 (fLr 0) (fI (nI 1))) (sSeq (sSt 15 (fLd 9)) (sWh (fC jLt (fLd 15) (fLd 11)) (sSeq (sSeq (sSt 16 (fB jAdd (fLd 15) (fLd 14))) (sSeq (sSt 17 (fB jAnd (fB jShr (aI 50 (gR 8 28 (fLr 0)) (fB jSub (fD jDiv (fLd 16) (fI (nI 8))) (fLd 12))) (fD jRem (fLd 16) (fI (nI 8)))) (fI (nI 1)))) (sSeq (sSt 18 (fB jAdd (fB jMul (fI (nI 8)) (fLd 2)) (fD jDiv (fB jSub (fLd 15) (fLd 8)) (fI (nI 8))))) (sAI (gR 8 27 (fLr 0)) (fLd 18) (fB jOr (fB jAnd (aI 50 (gR 8 27 (fLr 0)) (fLd 18)) (fB jXor (fB jShl (fI (nI 1)) (fD jRem (fB jSub (fLd 15) (fLd 8)) (fI (nI 8)))) (fI (-1)))) (fB jShl (fLd 17) (fD jRem (fB jSub (fLd 15) (fLd 8)) (fI (nI 8))))))))) (sInc 15 (nI 1))) 600))) sSkip) (mL s d m nb lg ph (8 * a) (loB F m a) en hi (mfB F m a) l sh none none none none) (hs n σ) Q R := by
  subst eF
  obtain ⟨hR, hB49, h30, h31⟩ := hM
  obtain ⟨fb1, fb2, fb3, fb4, fb5⟩ := fnB_b hk hfn
  obtain ⟨rw1, rw2, rw3⟩ := mrow hk hfn
  have hlo : 8 * a ≤ loB (T.1 4) m a ∧ lgB (T.1 4) m ≤ loB (T.1 4) m a := by unfold loB; omega
  have hmb : mbB (T.1 4) m a = phB (T.1 4) m + loB (T.1 4) m a - lgB (T.1 4) m := rfl
  have hdb : dbB (T.1 4) m a = loB (T.1 4) m a - 8 * a := rfl
  have hct : ctB (T.1 4) m a k = hiB (T.1 4) m a k - loB (T.1 4) m a := rfl
  have hmf : mfB (T.1 4) m a = mbB (T.1 4) m a / 8 := rfl
  have hml : mlB (T.1 4) m a k = (mbB (T.1 4) m a + ctB (T.1 4) m a k - 1) / 8 := rfl
  have hloB : loB (T.1 4) m a < 600000 := by omega
  subst elg ehi el esh
  have erd : (jNe (jAnd (T.1 4 (8 + m * 6 + 5)) (nI 1)) 0 && jNe w (nI 11)) = rdsA T.1 w m := rfl
  have n8 : ¬ nI 8 = 0 := by decide
  cases hrd : rdsA T.1 w m with
  | false =>
    have eT : mpR w a k m T = T := by unfold mpR; rw [hrd, Bool.false_and, if_neg Bool.false_ne_true]
    refine wIf (by simp only [e_fI, e_fLd, e_fLr, e_fB, e_fD, e_fC, e_fT, e_fAnd, e_fOr, e_fNot, e_fCC, e_fIf, e_gI, e_gR, e_aI, e_aR, e_aN, e_cV, e_cS, e_fNil, e_fAi, e_fAr, e_sSeq, e_sSkip, e_sSt, e_sSr, e_sInc, e_sRI, e_sRR, e_sRV, e_sIf, e_sCall, e_sPI, e_sPZ, e_sPR, e_sPO, e_sAI, e_sAZ, e_sAO, e_sAR, e_sPopI, e_sPopR, e_sCopy, e_mI, e_mZ, e_mR, e_mV, jAdd_n, jMul_n, z0, z1, Option.bind_some, List.getElem?_cons_zero, List.getElem?_cons_succ, List.set_cons_zero, List.set_cons_succ, eq_self, if_true, ite_and, ite_or, ite_I, ite_bI, ite_bJ, bI_ne, bI_01, List.cons_append, List.nil_append, Bool.false_eq_true, if_false, mL, kT26 h, q_R_at h hR hs6 (show 8 + m * 6 + 5 < 128 by omega), e1and, gT26_22 h, iT44 h hd, ew, erd, hrd]; rfl) (fun hb => ?_) (fun hb => ?_)
    · cases hb
    · rw [eT] at hQ
      exact wS_l rfl (hQ σ none none none none ⟨hR, hB49, h30, h31⟩ (FX.r _ σ))
  | true =>
    obtain ⟨τ, e, hR1, hV, hF1⟩ := q_R_reads (f := mfB (T.1 4) m a) (l := mlB (T.1 4) m a k) h hR hs6 hok hf rw1 rw3 (by omega)
    rw [decide_eq_true rw2, Bool.true_and] at e hR1 hV
    refine wIf (by simp only [e_fI, e_fLd, e_fLr, e_fB, e_fD, e_fC, e_fT, e_fAnd, e_fOr, e_fNot, e_fCC, e_fIf, e_gI, e_gR, e_aI, e_aR, e_aN, e_cV, e_cS, e_fNil, e_fAi, e_fAr, e_sSeq, e_sSkip, e_sSt, e_sSr, e_sInc, e_sRI, e_sRR, e_sRV, e_sIf, e_sCall, e_sPI, e_sPZ, e_sPR, e_sPO, e_sAI, e_sAZ, e_sAO, e_sAR, e_sPopI, e_sPopR, e_sCopy, e_mI, e_mZ, e_mR, e_mV, jAdd_n, jMul_n, z0, z1, Option.bind_some, List.getElem?_cons_zero, List.getElem?_cons_succ, List.set_cons_zero, List.set_cons_succ, eq_self, if_true, ite_and, ite_or, ite_I, ite_bI, ite_bJ, bI_ne, bI_01, List.cons_append, List.nil_append, Bool.false_eq_true, if_false, mL, kT26 h, q_R_at h hR hs6 (show 8 + m * 6 + 5 < 128 by omega), e1and, gT26_22 h, iT44 h hd, ew, erd, hrd, e]; rfl) (fun hb => ?_) (fun hb => ?_)
    · have eT : mpR w a k m T = (rdA T.1 (mfB (T.1 4) m a) (mlB (T.1 4) m a k), pid (fun j => rvA T.1 (mfB (T.1 4) m a) (mfB (T.1 4) m a + j)) T.2.1 (mbB (T.1 4) m a % 8) (dbB (T.1 4) m a) (ctB (T.1 4) m a k), true, T.2.2.2) := by
        unfold mpR
        rw [hrd, Bool.true_and, hb, if_pos rfl]
      rw [hb, if_pos rfl] at hR1
      have hv := hV hb
      refine wSeq (wS_l (by simp only [e_fI, e_fLd, e_fLr, e_fB, e_fD, e_fC, e_fT, e_fAnd, e_fOr, e_fNot, e_fCC, e_fIf, e_gI, e_gR, e_aI, e_aR, e_aN, e_cV, e_cS, e_fNil, e_fAi, e_fAr, e_sSeq, e_sSkip, e_sSt, e_sSr, e_sInc, e_sRI, e_sRR, e_sRV, e_sIf, e_sCall, e_sPI, e_sPZ, e_sPR, e_sPO, e_sAI, e_sAZ, e_sAO, e_sAR, e_sPopI, e_sPopR, e_sCopy, e_mI, e_mZ, e_mR, e_mV, jAdd_n, jMul_n, z0, z1, Option.bind_some, List.getElem?_cons_zero, List.getElem?_cons_succ, List.set_cons_zero, List.set_cons_succ, eq_self, if_true, ite_and, ite_or, ite_I, ite_bI, ite_bJ, bI_ne, bI_01, List.cons_append, List.nil_append, Bool.false_eq_true, if_false, mL, pT26_30 h]; rfl) ?_)
      have hR2 : RR (up τ 26 30 (nI 1)) s (rdA T.1 (mfB (T.1 4) m a) (mlB (T.1 4) m a k)) := hR1.o ((FX.r (fun a _ => a = 26) τ).u rfl) (fun a i q k => by have := q.b; omega)
      have hF2 : FX (MC s d) σ (up τ 26 30 (nI 1)) := FX.u (hF1.m (fun a i q => q.elim Or.inl (fun k => Or.inr (Or.inr (Or.inl k))))) (Or.inr (Or.inr (Or.inr ⟨rfl, Or.inl rfl⟩)))
      have e49 : ∀ j, j < 8 → up τ 26 30 (nI 1) 49 (8 * d + j) = T.2.1 j := fun j hj => by
        rw [up_ne (by omega), hF1 49 _ (fun k => by
          rcases k with k | k
          · have := k.b; omega
          · omega)]
        exact hB49 j hj
      have e31 : up τ 26 30 (nI 1) 26 31 = bI T.2.2.2 := by
        unfold up
        rw [if_neg (by omega), hF1 26 31 (fun k => by
          rcases k with k | k
          · have := k.b; omega
          · omega)]
        exact h31
      have e30 : up τ 26 30 (nI 1) 26 30 = bI true := by
        unfold up
        rw [if_pos ⟨rfl, rfl⟩]
        rfl
      have e50 : ∀ j, mfB (T.1 4) m a + j ≤ mlB (T.1 4) m a k → up τ 26 30 (nI 1) 50 j = rvA T.1 (mfB (T.1 4) m a) (mfB (T.1 4) m a + j) := fun j hj => by
        rw [up_ne (by omega)]
        exact hv j hj
      generalize up τ 26 30 (nI 1) = τ2 at hR2 hF2 e49 e31 e30 e50 ⊢
      refine wSeq (wS_l (by simp only [e_fI, e_fLd, e_fLr, e_fB, e_fD, e_fC, e_fT, e_fAnd, e_fOr, e_fNot, e_fCC, e_fIf, e_gI, e_gR, e_aI, e_aR, e_aN, e_cV, e_cS, e_fNil, e_fAi, e_fAr, e_sSeq, e_sSkip, e_sSt, e_sSr, e_sInc, e_sRI, e_sRR, e_sRV, e_sIf, e_sCall, e_sPI, e_sPZ, e_sPR, e_sPO, e_sAI, e_sAZ, e_sAO, e_sAR, e_sPopI, e_sPopR, e_sCopy, e_mI, e_mZ, e_mR, e_mV, jAdd_n, jMul_n, z0, z1, Option.bind_some, List.getElem?_cons_zero, List.getElem?_cons_succ, List.set_cons_zero, List.set_cons_succ, eq_self, if_true, ite_and, ite_or, ite_I, ite_bI, ite_bJ, bI_ne, bI_01, List.cons_append, List.nil_append, Bool.false_eq_true, if_false]; rfl) ?_)
      refine wWh (I := fun i L H => ∃ ρ x16 x17 x18, L = mL s d m nb (lgB (T.1 4) m) ph (8 * a) (loB (T.1 4) m a) en (hiB (T.1 4) m a k) (mfB (T.1 4) m a) (mlB (T.1 4) m a k) (jSub (nI (phB (T.1 4) m)) (nI (lgB (T.1 4) m))) (some (.int (nI (loB (T.1 4) m a + i)))) x16 x17 x18 ∧ H = hs n ρ ∧ (∀ j, j < 8 → ρ 49 (8 * d + j) = pid (fun j => rvA T.1 (mfB (T.1 4) m a) (mfB (T.1 4) m a + j)) T.2.1 (mbB (T.1 4) m a % 8) (dbB (T.1 4) m a) i j) ∧ FX (fun a i => a = 49 ∧ i / 8 = d) τ2 ρ) (e := ctB (T.1 4) m a k) ?_ ?_ ?_ 600 0 _ _ (by omega) (by omega) ⟨τ2, none, none, none, rfl, rfl, e49, FX.r _ τ2⟩
      · rintro i _ _ ⟨ρ, x16, x17, x18, rfl, rfl, -⟩ hi
        have : decide (loB (T.1 4) m a + i < hiB (T.1 4) m a k) = decide (i < ctB (T.1 4) m a k) := decide_eq_decide.mpr (by omega)
        simp only [e_fI, e_fLd, e_fLr, e_fB, e_fD, e_fC, e_fT, e_fAnd, e_fOr, e_fNot, e_fCC, e_fIf, e_gI, e_gR, e_aI, e_aR, e_aN, e_cV, e_cS, e_fNil, e_fAi, e_fAr, e_sSeq, e_sSkip, e_sSt, e_sSr, e_sInc, e_sRI, e_sRR, e_sRV, e_sIf, e_sCall, e_sPI, e_sPZ, e_sPR, e_sPO, e_sAI, e_sAZ, e_sAO, e_sAR, e_sPopI, e_sPopR, e_sCopy, e_mI, e_mZ, e_mR, e_mV, jAdd_n, jMul_n, z0, z1, Option.bind_some, List.getElem?_cons_zero, List.getElem?_cons_succ, List.set_cons_zero, List.set_cons_succ, eq_self, if_true, ite_and, ite_or, ite_I, ite_bI, ite_bJ, bI_ne, bI_01, List.cons_append, List.nil_append, Bool.false_eq_true, if_false, mL, jLt, nI_ltI (show loB (T.1 4) m a + i < 2 ^ 31 by omega) (show hiB (T.1 4) m a k < 2 ^ 31 by omega), this]
      · rintro i _ _ ⟨ρ, x16, x17, x18, rfl, rfl, hP, hFρ⟩ hi
        have j16 : jAdd (nI (loB (T.1 4) m a + i)) (jSub (nI (phB (T.1 4) m)) (nI (lgB (T.1 4) m))) = nI (mbB (T.1 4) m a + i) := by
          rw [jAdd_s (by omega), show loB (T.1 4) m a + i + phB (T.1 4) m - lgB (T.1 4) m = mbB (T.1 4) m a + i by omega]
        have j17a : jDiv (nI (mbB (T.1 4) m a + i)) (nI 8) = nI ((mbB (T.1 4) m a + i) / 8) := pk_div (by omega) (by decide) (by decide)
        have j17b : jSub (nI ((mbB (T.1 4) m a + i) / 8)) (nI (mfB (T.1 4) m a)) = nI ((mbB (T.1 4) m a % 8 + i) / 8) := by
          rw [jSub_n (by omega), show (mbB (T.1 4) m a + i) / 8 - mfB (T.1 4) m a = (mbB (T.1 4) m a % 8 + i) / 8 by omega]
        have j17c : jRem (nI (mbB (T.1 4) m a + i)) (nI 8) = nI ((mbB (T.1 4) m a % 8 + i) % 8) := by
          rw [show (mbB (T.1 4) m a % 8 + i) % 8 = (mbB (T.1 4) m a + i) % 8 by omega]
          exact pk_rem (by omega) (by decide) (by decide)
        have k50 : ρ 50 ((mbB (T.1 4) m a % 8 + i) / 8) = rvA T.1 (mfB (T.1 4) m a) (mfB (T.1 4) m a + (mbB (T.1 4) m a % 8 + i) / 8) := by
          rw [hFρ 50 _ (by omega)]
          exact e50 _ (by omega)
        have j18 : jSub (nI (loB (T.1 4) m a + i)) (nI (8 * a)) = nI (dbB (T.1 4) m a + i) := by
          rw [jSub_n (by omega), show loB (T.1 4) m a + i - 8 * a = dbB (T.1 4) m a + i by omega]
        have j18b : jDiv (nI (dbB (T.1 4) m a + i)) (nI 8) = nI ((dbB (T.1 4) m a + i) / 8) := pk_div (by omega) (by decide) (by decide)
        have j18c : jRem (nI (dbB (T.1 4) m a + i)) (nI 8) = nI ((dbB (T.1 4) m a + i) % 8) := pk_rem (by omega) (by decide) (by decide)
        have k49 := hP ((dbB (T.1 4) m a + i) / 8) (by omega)
        refine wSeq (wSeq (wS_l (by simp only [e_fI, e_fLd, e_fLr, e_fB, e_fD, e_fC, e_fT, e_fAnd, e_fOr, e_fNot, e_fCC, e_fIf, e_gI, e_gR, e_aI, e_aR, e_aN, e_cV, e_cS, e_fNil, e_fAi, e_fAr, e_sSeq, e_sSkip, e_sSt, e_sSr, e_sInc, e_sRI, e_sRR, e_sRV, e_sIf, e_sCall, e_sPI, e_sPZ, e_sPR, e_sPO, e_sAI, e_sAZ, e_sAO, e_sAR, e_sPopI, e_sPopR, e_sCopy, e_mI, e_mZ, e_mR, e_mV, jAdd_n, jMul_n, z0, z1, Option.bind_some, List.getElem?_cons_zero, List.getElem?_cons_succ, List.set_cons_zero, List.set_cons_succ, eq_self, if_true, ite_and, ite_or, ite_I, ite_bI, ite_bJ, bI_ne, bI_01, List.cons_append, List.nil_append, Bool.false_eq_true, if_false, mL, j16]; rfl) ?_))
        refine wSeq (wS_l (by simp only [e_fI, e_fLd, e_fLr, e_fB, e_fD, e_fC, e_fT, e_fAnd, e_fOr, e_fNot, e_fCC, e_fIf, e_gI, e_gR, e_aI, e_aR, e_aN, e_cV, e_cS, e_fNil, e_fAi, e_fAr, e_sSeq, e_sSkip, e_sSt, e_sSr, e_sInc, e_sRI, e_sRR, e_sRV, e_sIf, e_sCall, e_sPI, e_sPZ, e_sPR, e_sPO, e_sAI, e_sAZ, e_sAO, e_sAR, e_sPopI, e_sPopR, e_sCopy, e_mI, e_mZ, e_mR, e_mV, jAdd_n, jMul_n, z0, z1, Option.bind_some, List.getElem?_cons_zero, List.getElem?_cons_succ, List.set_cons_zero, List.set_cons_succ, eq_self, if_true, ite_and, ite_or, ite_I, ite_bI, ite_bJ, bI_ne, bI_01, List.cons_append, List.nil_append, Bool.false_eq_true, if_false, n8, j17a, j17b, j17c, gT26_28 h, iT50 h (show (mbB (T.1 4) m a % 8 + i) / 8 < 9 by omega), k50]; rfl) ?_)
        refine wSeq (wS_l (by simp only [e_fI, e_fLd, e_fLr, e_fB, e_fD, e_fC, e_fT, e_fAnd, e_fOr, e_fNot, e_fCC, e_fIf, e_gI, e_gR, e_aI, e_aR, e_aN, e_cV, e_cS, e_fNil, e_fAi, e_fAr, e_sSeq, e_sSkip, e_sSt, e_sSr, e_sInc, e_sRI, e_sRR, e_sRV, e_sIf, e_sCall, e_sPI, e_sPZ, e_sPR, e_sPO, e_sAI, e_sAZ, e_sAO, e_sAR, e_sPopI, e_sPopR, e_sCopy, e_mI, e_mZ, e_mR, e_mV, jAdd_n, jMul_n, z0, z1, Option.bind_some, List.getElem?_cons_zero, List.getElem?_cons_succ, List.set_cons_zero, List.set_cons_succ, eq_self, if_true, ite_and, ite_or, ite_I, ite_bI, ite_bJ, bI_ne, bI_01, List.cons_append, List.nil_append, Bool.false_eq_true, if_false, n8, j18, j18b]; rfl) ?_)
        refine wS_l (by simp only [e_fI, e_fLd, e_fLr, e_fB, e_fD, e_fC, e_fT, e_fAnd, e_fOr, e_fNot, e_fCC, e_fIf, e_gI, e_gR, e_aI, e_aR, e_aN, e_cV, e_cS, e_fNil, e_fAi, e_fAr, e_sSeq, e_sSkip, e_sSt, e_sSr, e_sInc, e_sRI, e_sRR, e_sRV, e_sIf, e_sCall, e_sPI, e_sPZ, e_sPR, e_sPO, e_sAI, e_sAZ, e_sAO, e_sAR, e_sPopI, e_sPopR, e_sCopy, e_mI, e_mZ, e_mR, e_mV, jAdd_n, jMul_n, z0, z1, Option.bind_some, List.getElem?_cons_zero, List.getElem?_cons_succ, List.set_cons_zero, List.set_cons_succ, eq_self, if_true, ite_and, ite_or, ite_I, ite_bI, ite_bJ, bI_ne, bI_01, List.cons_append, List.nil_append, Bool.false_eq_true, if_false, n8, j18, j18c, gT26_27 h, iT49 h (show 8 * d + (dbB (T.1 4) m a + i) / 8 < 72 by omega), wT49 h (show 8 * d + (dbB (T.1 4) m a + i) / 8 < 72 by omega), k49]; rfl) ?_
        refine wS_l (by simp only [e_fI, e_fLd, e_fLr, e_fB, e_fD, e_fC, e_fT, e_fAnd, e_fOr, e_fNot, e_fCC, e_fIf, e_gI, e_gR, e_aI, e_aR, e_aN, e_cV, e_cS, e_fNil, e_fAi, e_fAr, e_sSeq, e_sSkip, e_sSt, e_sSr, e_sInc, e_sRI, e_sRR, e_sRV, e_sIf, e_sCall, e_sPI, e_sPZ, e_sPR, e_sPO, e_sAI, e_sAZ, e_sAO, e_sAR, e_sPopI, e_sPopR, e_sCopy, e_mI, e_mZ, e_mR, e_mV, jAdd_n, jMul_n, z0, z1, Option.bind_some, List.getElem?_cons_zero, List.getElem?_cons_succ, List.set_cons_zero, List.set_cons_succ, eq_self, if_true, ite_and, ite_or, ite_I, ite_bI, ite_bJ, bI_ne, bI_01, List.cons_append, List.nil_append, Bool.false_eq_true, if_false, nI_add]; rfl) ?_
        refine ⟨_, _, _, _, rfl, rfl, fun j hj => ?_, hFρ.u ⟨rfl, by omega⟩⟩
        show _ = bput _ _ _ j
        unfold up bput
        by_cases q : j = (dbB (T.1 4) m a + i) / 8
        · rw [if_pos ⟨rfl, by omega⟩, if_pos q, q]
          rfl
        · rw [if_neg (by omega), if_neg q]
          exact hP j hj
      · rintro _ _ ⟨ρ, x16, x17, x18, rfl, rfl, hP, hFρ⟩
        rw [eT] at hQ
        refine hQ ρ _ _ _ _ ⟨hR2.o hFρ (fun a i q k => by have := q.b; omega), hP, ?_, ?_⟩ (hF2.t (hFρ.m (fun a i q => Or.inr (Or.inl q))))
        · rw [hFρ 26 30 (by omega)]
          exact e30
        · rw [hFρ 26 31 (by omega)]
          exact e31
    · have eT : mpR w a k m T = T := by
        unfold mpR
        rw [hrd, Bool.true_and, hb, if_neg Bool.false_ne_true]
      rw [hb, if_neg Bool.false_ne_true] at hR1
      rw [eT] at hQ
      refine wS_l rfl (hQ τ none none none none ⟨hR1, fun j hj => ?_, ?_, ?_⟩ (hF1.m (fun a i q => q.elim Or.inl (fun k => Or.inr (Or.inr (Or.inl k))))))
      · rw [hF1 49 _ (fun k => by
          rcases k with k | k
          · have := k.b; omega
          · omega)]
        exact hB49 j hj
      · rw [hF1 26 30 (fun k => by
          rcases k with k | k
          · have := k.b; omega
          · omega)]
        exact h30
      · rw [hF1 26 31 (fun k => by
          rcases k with k | k
          · have := k.b; omega
          · omega)]
        exact h31
end MAP2
