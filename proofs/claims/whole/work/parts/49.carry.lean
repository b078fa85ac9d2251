/-! the line: a frame passes the stations, all together -/
section CARR2
variable {n X k z : Nat} {σ : sg}
theorem okS_k {s : Nat} (hn : 58 + 22 * k ≤ n) (hs' : s < k) : okS n s := by unfold okS; omega
theorem okB_k (hn : 58 + 22 * k ≤ n) : okB n := by unfold okB; omega
theorem carry_in {τ : sg} {B H : Nat → sg} {s : Nat} {x2 x3 x4 x5 : Option Value} (hn : 58 + 22 * k ≤ n) (hX : isX X) (hsk : s < k) (hk : k ≤ 6) (ek : τ 1 2 = nI k) (ez : τ X 1 = nI z) (hz : z ≤ 3) (hB : ∀ t, t < k → RC τ t (B t)) (hok : okA (B s)) (hH : ∀ e, e < z → RD τ (X + 2 + 2 * e) (H e)) (hgk : ∀ e, e < z → okP (H e)) {Q : hp_L → hp_H → Prop} {R : Option Value → hp_H → Prop} (hQ : ∀ τ' x7, FC X τ τ' → (∀ t, t < k → RC τ' t (if t = s then (runS (B s) H z).1 else B t)) → (∀ e, e < z → RD τ' (X + 2 + 2 * e) ((runS (B s) H z).2 e)) → Q [some (.ref 1), some (.ref X), x2, x3, x4, x5, some (.int (nI s)), x7] (hs n τ')) : wS (sWh (fC jLt (fLd 7) (gI 1 1 (fLr 1))) (sSeq (sCall (cV 6 (fAr (aR 53 (gR 3 0 (fLr 0)) (fLd 6)) (fAr (aR 52 (gR 1 0 (fLr 1)) (fLd 7)) (fNil))) G_S_perform)) (sInc 7 (nI 1))) 600) [some (.ref 1), some (.ref X), x2, x3, x4, x5, some (.int (nI s)), some (.int (nI 0))] (hs n τ) Q R := by
  have hb0 := okB_k hn
  have hS := okS_k hn hsk
  have hX2 : X < 19 := by unfold isX at hX; omega
  refine wWh (I := fun d L H' => ∃ τ', L = [some (.ref 1), some (.ref X), x2, x3, x4, x5, some (.int (nI s)), some (.int (nI d))] ∧ H' = hs n τ' ∧ FC X τ τ' ∧ (∀ t, t < k → RC τ' t (if t = s then (runS (B s) H d).1 else B t)) ∧ (∀ e, e < z → RD τ' (X + 2 + 2 * e) ((runS (B s) H d).2 e))) (e := z) ?_ ?_ ?_ 600 0 _ _ (by omega) (by omega) ⟨τ, rfl, rfl, FC.r X τ, fun t ht => ?_, hH⟩
  · rintro d _ _ ⟨τ', rfl, rfl, hF, -⟩ hd
    have : τ' X 1 = nI z := by rw [hF X (by omega) (by omega)]; exact ez
    simp only [e_fI, e_fLd, e_fLr, e_fB, e_fD, e_fC, e_fT, e_fAnd, e_fOr, e_fNot, e_fCC, e_fIf, e_gI, e_gR, e_aI, e_aR, e_aN, e_cV, e_cS, e_fNil, e_fAi, e_fAr, e_sSeq, e_sSkip, e_sSt, e_sSr, e_sInc, e_sRI, e_sRR, e_sRV, e_sIf, e_sCall, e_sPI, e_sPZ, e_sPR, e_sPO, e_sAI, e_sAZ, e_sAO, e_sAR, e_sPopI, e_sPopR, e_sCopy, e_mI, e_mZ, e_mR, e_mV, jAdd_n, jMul_n, z0, z1, Option.bind_some, List.getElem?_cons_zero, List.getElem?_cons_succ, List.set_cons_zero, List.set_cons_succ, eq_self, if_true, ite_and, ite_or, ite_I, ite_bI, ite_bJ, bI_ne, bI_01, List.cons_append, List.nil_append, Bool.false_eq_true, if_false, gX1 hb0 hX, this, jLt, nI_ltI (show d < 2 ^ 31 by omega) (show z < 2 ^ 31 by omega)]
  · rintro d _ _ ⟨τ', rfl, rfl, hF, hR, hD⟩ hd
    have ok := runS_ok hok hgk d (by omega)
    have hRs := hR s hsk
    rw [if_pos rfl] at hRs
    have isd := hX.D (show d < 3 by omega)
    obtain ⟨ρ, e, r1, r2, r3⟩ := q_S_perform hS isd hRs ok.1 (hD d hd) (ok.2 d hd)
    have e12 : τ' 1 2 = nI k := by rw [hF 1 (by omega) (by unfold isX at hX; omega)]; exact ek
    refine wSeq (wS_l (by simp only [e_fI, e_fLd, e_fLr, e_fB, e_fD, e_fC, e_fT, e_fAnd, e_fOr, e_fNot, e_fCC, e_fIf, e_gI, e_gR, e_aI, e_aR, e_aN, e_cV, e_cS, e_fNil, e_fAi, e_fAr, e_sSeq, e_sSkip, e_sSt, e_sSr, e_sInc, e_sRI, e_sRR, e_sRV, e_sIf, e_sCall, e_sPI, e_sPZ, e_sPR, e_sPO, e_sAI, e_sAZ, e_sAO, e_sAR, e_sPopI, e_sPopR, e_sCopy, e_mI, e_mZ, e_mR, e_mV, jAdd_n, jMul_n, z0, z1, Option.bind_some, List.getElem?_cons_zero, List.getElem?_cons_succ, List.set_cons_zero, List.set_cons_succ, eq_self, if_true, ite_and, ite_or, ite_I, ite_bI, ite_bJ, bI_ne, bI_01, List.cons_append, List.nil_append, Bool.false_eq_true, if_false, gT1_0 hb0, iTs hb0 e12 hk hsk, gX0 hb0 hX, iX hb0 hX (show d < 3 by omega), kS0 hS, e]; rfl) ?_)
    refine wS_l (by simp only [e_fI, e_fLd, e_fLr, e_fB, e_fD, e_fC, e_fT, e_fAnd, e_fOr, e_fNot, e_fCC, e_fIf, e_gI, e_gR, e_aI, e_aR, e_aN, e_cV, e_cS, e_fNil, e_fAi, e_fAr, e_sSeq, e_sSkip, e_sSt, e_sSr, e_sInc, e_sRI, e_sRR, e_sRV, e_sIf, e_sCall, e_sPI, e_sPZ, e_sPR, e_sPO, e_sAI, e_sAZ, e_sAO, e_sAR, e_sPopI, e_sPopR, e_sCopy, e_mI, e_mZ, e_mR, e_mV, jAdd_n, jMul_n, z0, z1, Option.bind_some, List.getElem?_cons_zero, List.getElem?_cons_succ, List.set_cons_zero, List.set_cons_succ, eq_self, if_true, ite_and, ite_or, ite_I, ite_bI, ite_bJ, bI_ne, bI_01, List.cons_append, List.nil_append, Bool.false_eq_true, if_false, nI_add]; rfl) ?_
    refine ⟨ρ, rfl, rfl, fun a h1 h2 => ?_, fun t ht => ?_, fun e' he => ?_⟩
    · rw [r3 a (fun j _ => by have := sa_ge s j; omega) (by omega) (by omega)]
      exact hF a h1 h2
    · by_cases q : t = s
      · subst q
        rw [if_pos rfl]
        exact r1
      · rw [if_neg q]
        have := hR t ht
        rw [if_neg q] at this
        exact this.ot (fun j hj => r3 _ (fun j' hj' => by rw [Ne, sa_inj hj hj']; omega) (by have := sa_ge t j; omega) (by have := sa_ge t j; omega))
    · show RD ρ _ (if e' = d then _ else _)
      by_cases q : e' = d
      · subst q
        rw [if_pos rfl]
        exact r2
      · rw [if_neg q]
        exact (hD e' he).keep (r3 _ (fun j _ => by have := sa_ge s j; omega) (by omega) (by omega)) (r3 _ (fun j _ => by have := sa_ge s j; omega) (by omega) (by omega))
  · rintro _ _ ⟨τ', rfl, rfl, hF, hR, hD⟩
    exact hQ τ' _ hF hR hD
  · by_cases q : t = s
    · rw [if_pos q, q]
      exact hB s hsk
    · rw [if_neg q]
      exact hB t ht
def rtn (p : Int32) (r k : Nat) : Bool := !lst p r k && decide (k = 0 ∨ 0 < r)
theorem rtn_e {p : Int32} {r : Nat} {B : Nat → Int32} (hr : isR B k r) (hk : k ≤ 6) : (!lst p r k && !(jGt (nI k) 0 && jNe (B 0) 0)) = rtn p r k := by
  unfold rtn
  congr 1
  have ek : jGt (nI k) 0 = decide (0 < k) := by
    rw [← nI_0]
    unfold jGt
    rw [decide_eq_decide]
    exact nI_ltI (by omega) (by omega)
  rw [ek]
  by_cases h0 : k = 0
  · rw [decide_eq_true (Or.inl h0), decide_eq_false (by omega)]
    rfl
  rw [decide_eq_true (show 0 < k by omega), Bool.true_and]
  by_cases h1 : 0 < r
  · rw [hr.2.1 0 h1, decide_eq_true (Or.inr h1)]
    rfl
  · have : r = 0 := by omega
    subst this
    rw [hr.2.2 (by omega), decide_eq_false (by omega)]
    rfl
theorem q_N_carry {A G : Nat → sg} {p : Int32} {r : Nat} (hn : 58 + 22 * k ≤ n) (hX : isX X) (ek : σ 1 2 = nI k) (hk : k ≤ 6) (ep : σ 1 3 = p) (hp : p = -1 ∨ ∃ q, q < 7 ∧ p = nI q) (ez : σ X 1 = nI z) (hz : z ≤ 3) (hr : isR (σ 3) k r) (hA : ∀ t, t < k → RC σ t (A t)) (hok : ∀ t, t < k → okA (A t)) (hG : ∀ e, e < z → RD σ (X + 2 + 2 * e) (G e)) (hg : ∀ e, e < z → okP (G e)) : ∃ τ, G_N_carry [.ref 1, .ref X] (hs n σ) = some (bI (rtn p r k), hs n τ) ∧ FC X (up σ 1 3 (-1)) τ ∧ (∀ t, t < k → RC τ t ((runL A G z (dng p r k)).1 t)) ∧ (∀ e, e < z → RD τ (X + 2 + 2 * e) ((runL A G z (dng p r k)).2 e)) := by
  have hb0 := okB_k hn
  obtain ⟨ed, hd⟩ := dng_e hr.1 hk hp
  have hX2 : X < 19 ∧ 9 < X := by unfold isX at hX; omega
  refine mZ_t (Nat.le_of_ble_eq_true rfl) ?_
  simp only [jx_L0, List.map_cons, List.map_nil, List.length_cons, List.length_nil, Nat.reduceAdd, Nat.reduceSub, List.replicate, List.cons_append, List.nil_append]
  unfold P_N_carry
  refine wSeq (wS_l (by simp only [e_fI, e_fLd, e_fLr, e_fB, e_fD, e_fC, e_fT, e_fAnd, e_fOr, e_fNot, e_fCC, e_fIf, e_gI, e_gR, e_aI, e_aR, e_aN, e_cV, e_cS, e_fNil, e_fAi, e_fAr, e_sSeq, e_sSkip, e_sSt, e_sSr, e_sInc, e_sRI, e_sRR, e_sRV, e_sIf, e_sCall, e_sPI, e_sPZ, e_sPR, e_sPO, e_sAI, e_sAZ, e_sAO, e_sAR, e_sPopI, e_sPopR, e_sCopy, e_mI, e_mZ, e_mR, e_mV, jAdd_n, jMul_n, z0, z1, Option.bind_some, List.getElem?_cons_zero, List.getElem?_cons_succ, List.set_cons_zero, List.set_cons_succ, eq_self, if_true, ite_and, ite_or, ite_I, ite_bI, ite_bJ, bI_ne, bI_01, List.cons_append, List.nil_append, Bool.false_eq_true, if_false, kT1 hb0, q_N_stationsBeforeBreak hb0 ek hk hr]; rfl) ?_)
  refine wSeq (wS_l (by simp only [e_fI, e_fLd, e_fLr, e_fB, e_fD, e_fC, e_fT, e_fAnd, e_fOr, e_fNot, e_fCC, e_fIf, e_gI, e_gR, e_aI, e_aR, e_aN, e_cV, e_cS, e_fNil, e_fAi, e_fAr, e_sSeq, e_sSkip, e_sSt, e_sSr, e_sInc, e_sRI, e_sRR, e_sRV, e_sIf, e_sCall, e_sPI, e_sPZ, e_sPR, e_sPO, e_sAI, e_sAZ, e_sAO, e_sAR, e_sPopI, e_sPopR, e_sCopy, e_mI, e_mZ, e_mR, e_mV, jAdd_n, jMul_n, z0, z1, Option.bind_some, List.getElem?_cons_zero, List.getElem?_cons_succ, List.set_cons_zero, List.set_cons_succ, eq_self, if_true, ite_and, ite_or, ite_I, ite_bI, ite_bJ, bI_ne, bI_01, List.cons_append, List.nil_append, Bool.false_eq_true, if_false, gT1_3 hb0, ep]; rfl) ?_)
  refine wSeq (wS_l (by simp only [e_fI, e_fLd, e_fLr, e_fB, e_fD, e_fC, e_fT, e_fAnd, e_fOr, e_fNot, e_fCC, e_fIf, e_gI, e_gR, e_aI, e_aR, e_aN, e_cV, e_cS, e_fNil, e_fAi, e_fAr, e_sSeq, e_sSkip, e_sSt, e_sSr, e_sInc, e_sRI, e_sRR, e_sRV, e_sIf, e_sCall, e_sPI, e_sPZ, e_sPR, e_sPO, e_sAI, e_sAZ, e_sAO, e_sAR, e_sPopI, e_sPopR, e_sCopy, e_mI, e_mZ, e_mR, e_mV, jAdd_n, jMul_n, z0, z1, Option.bind_some, List.getElem?_cons_zero, List.getElem?_cons_succ, List.set_cons_zero, List.set_cons_succ, eq_self, if_true, ite_and, ite_or, ite_I, ite_bI, ite_bJ, bI_ne, bI_01, List.cons_append, List.nil_append, Bool.false_eq_true, if_false, pT1_3 hb0]; rfl) ?_)
  have e12 : up σ 1 3 (-1) 1 2 = nI k := ek
  have eX : up σ 1 3 (-1) X 1 = nI z := by rw [up_ne (by omega)]; exact ez
  have e3 : up σ 1 3 (-1) 3 = σ 3 := up_ne (by omega)
  have hA1 : ∀ t, t < k → RC (up σ 1 3 (-1)) t (A t) := fun t ht => (hA t ht).ot (fun j _ => up_ne (by have := sa_ge t j; omega))
  have hG1 : ∀ e, e < z → RD (up σ 1 3 (-1)) (X + 2 + 2 * e) (G e) := fun e he => (hG e he).keep (up_ne (by omega)) (up_ne (by omega))
  generalize up σ 1 3 (-1) = ρ at e12 eX e3 hA1 hG1 ⊢
  have el : (jGe p 0 && (jLt p (nI r) || (jEq p (nI r) && jEq (nI r) (nI k)))) = lst p r k := rfl
  refine wSeq (wS_l (by simp only [e_fI, e_fLd, e_fLr, e_fB, e_fD, e_fC, e_fT, e_fAnd, e_fOr, e_fNot, e_fCC, e_fIf, e_gI, e_gR, e_aI, e_aR, e_aN, e_cV, e_cS, e_fNil, e_fAi, e_fAr, e_sSeq, e_sSkip, e_sSt, e_sSr, e_sInc, e_sRI, e_sRR, e_sRV, e_sIf, e_sCall, e_sPI, e_sPZ, e_sPR, e_sPO, e_sAI, e_sAZ, e_sAO, e_sAR, e_sPopI, e_sPopR, e_sCopy, e_mI, e_mZ, e_mR, e_mV, jAdd_n, jMul_n, z0, z1, Option.bind_some, List.getElem?_cons_zero, List.getElem?_cons_succ, List.set_cons_zero, List.set_cons_succ, eq_self, if_true, ite_and, ite_or, ite_I, ite_bI, ite_bJ, bI_ne, bI_01, List.cons_append, List.nil_append, Bool.false_eq_true, if_false, gT1_2 hb0, e12, el]; rfl) ?_)
  refine wSeq (wS_l (by simp only [e_fI, e_fLd, e_fLr, e_fB, e_fD, e_fC, e_fT, e_fAnd, e_fOr, e_fNot, e_fCC, e_fIf, e_gI, e_gR, e_aI, e_aR, e_aN, e_cV, e_cS, e_fNil, e_fAi, e_fAr, e_sSeq, e_sSkip, e_sSt, e_sSr, e_sInc, e_sRI, e_sRR, e_sRV, e_sIf, e_sCall, e_sPI, e_sPZ, e_sPR, e_sPO, e_sAI, e_sAZ, e_sAO, e_sAR, e_sPopI, e_sPopR, e_sCopy, e_mI, e_mZ, e_mR, e_mV, jAdd_n, jMul_n, z0, z1, Option.bind_some, List.getElem?_cons_zero, List.getElem?_cons_succ, List.set_cons_zero, List.set_cons_succ, eq_self, if_true, ite_and, ite_or, ite_I, ite_bI, ite_bJ, bI_ne, bI_01, List.cons_append, List.nil_append, Bool.false_eq_true, if_false, ed]; rfl) ?_)
  refine wSeq (wSeq (wS_l (by simp only [e_fI, e_fLd, e_fLr, e_fB, e_fD, e_fC, e_fT, e_fAnd, e_fOr, e_fNot, e_fCC, e_fIf, e_gI, e_gR, e_aI, e_aR, e_aN, e_cV, e_cS, e_fNil, e_fAi, e_fAr, e_sSeq, e_sSkip, e_sSt, e_sSr, e_sInc, e_sRI, e_sRR, e_sRV, e_sIf, e_sCall, e_sPI, e_sPZ, e_sPR, e_sPO, e_sAI, e_sAZ, e_sAO, e_sAR, e_sPopI, e_sPopR, e_sCopy, e_mI, e_mZ, e_mR, e_mV, jAdd_n, jMul_n, z0, z1, Option.bind_some, List.getElem?_cons_zero, List.getElem?_cons_succ, List.set_cons_zero, List.set_cons_succ, eq_self, if_true, ite_and, ite_or, ite_I, ite_bI, ite_bJ, bI_ne, bI_01, List.cons_append, List.nil_append, Bool.false_eq_true, if_false]; rfl) ?_))
  refine wWh (I := fun s L H => ∃ τ x7, L = [some (.ref 1), some (.ref X), some (.int (nI r)), some (.int p), some (.int (bI (lst p r k))), some (.int (nI (dng p r k))), some (.int (nI s)), x7] ∧ H = hs n τ ∧ FC X ρ τ ∧ (∀ t, t < k → RC τ t ((runL A G z s).1 t)) ∧ (∀ e, e < z → RD τ (X + 2 + 2 * e) ((runL A G z s).2 e))) (e := dng p r k) ?_ ?_ ?_ 600 0 _ _ (by omega) (by omega) ⟨ρ, _, rfl, rfl, FC.r X ρ, hA1, hG1⟩
  · rintro s _ _ ⟨τ, x7, rfl, rfl, -⟩ hs'
    simp only [e_fI, e_fLd, e_fLr, e_fB, e_fD, e_fC, e_fT, e_fAnd, e_fOr, e_fNot, e_fCC, e_fIf, e_gI, e_gR, e_aI, e_aR, e_aN, e_cV, e_cS, e_fNil, e_fAi, e_fAr, e_sSeq, e_sSkip, e_sSt, e_sSr, e_sInc, e_sRI, e_sRR, e_sRV, e_sIf, e_sCall, e_sPI, e_sPZ, e_sPR, e_sPO, e_sAI, e_sAZ, e_sAO, e_sAR, e_sPopI, e_sPopR, e_sCopy, e_mI, e_mZ, e_mR, e_mV, jAdd_n, jMul_n, z0, z1, Option.bind_some, List.getElem?_cons_zero, List.getElem?_cons_succ, List.set_cons_zero, List.set_cons_succ, eq_self, if_true, ite_and, ite_or, ite_I, ite_bI, ite_bJ, bI_ne, bI_01, List.cons_append, List.nil_append, Bool.false_eq_true, if_false, jLt, nI_ltI (show s < 2 ^ 31 by omega) (show dng p r k < 2 ^ 31 by omega)]
  · rintro s _ _ ⟨τ, x7, rfl, rfl, hF, hR, hD⟩ hs'
    have ok := runL_ok (z := z) hok hg s (by omega)
    refine wSeq (wSeq (wS_l (by simp only [e_fI, e_fLd, e_fLr, e_fB, e_fD, e_fC, e_fT, e_fAnd, e_fOr, e_fNot, e_fCC, e_fIf, e_gI, e_gR, e_aI, e_aR, e_aN, e_cV, e_cS, e_fNil, e_fAi, e_fAr, e_sSeq, e_sSkip, e_sSt, e_sSr, e_sInc, e_sRI, e_sRR, e_sRV, e_sIf, e_sCall, e_sPI, e_sPZ, e_sPR, e_sPO, e_sAI, e_sAZ, e_sAO, e_sAR, e_sPopI, e_sPopR, e_sCopy, e_mI, e_mZ, e_mR, e_mV, jAdd_n, jMul_n, z0, z1, Option.bind_some, List.getElem?_cons_zero, List.getElem?_cons_succ, List.set_cons_zero, List.set_cons_succ, eq_self, if_true, ite_and, ite_or, ite_I, ite_bI, ite_bJ, bI_ne, bI_01, List.cons_append, List.nil_append, Bool.false_eq_true, if_false]; rfl) ?_))
    refine carry_in (k := k) (z := z) hn hX (by omega) hk (by rw [hF 1 (by omega) (by omega)]; exact e12) (by rw [hF X (by omega) (by omega)]; exact eX) hz hR (ok.1 s (by omega)) hD ok.2 (fun τ' y7 hF' hR' hD' => ?_)
    refine wS_l (by simp only [e_fI, e_fLd, e_fLr, e_fB, e_fD, e_fC, e_fT, e_fAnd, e_fOr, e_fNot, e_fCC, e_fIf, e_gI, e_gR, e_aI, e_aR, e_aN, e_cV, e_cS, e_fNil, e_fAi, e_fAr, e_sSeq, e_sSkip, e_sSt, e_sSr, e_sInc, e_sRI, e_sRR, e_sRV, e_sIf, e_sCall, e_sPI, e_sPZ, e_sPR, e_sPO, e_sAI, e_sAZ, e_sAO, e_sAR, e_sPopI, e_sPopR, e_sCopy, e_mI, e_mZ, e_mR, e_mV, jAdd_n, jMul_n, z0, z1, Option.bind_some, List.getElem?_cons_zero, List.getElem?_cons_succ, List.set_cons_zero, List.set_cons_succ, eq_self, if_true, ite_and, ite_or, ite_I, ite_bI, ite_bJ, bI_ne, bI_01, List.cons_append, List.nil_append, Bool.false_eq_true, if_false, nI_add]; rfl) ?_
    exact ⟨τ', _, rfl, rfl, hF.t hF', hR', hD'⟩
  · rintro _ _ ⟨τ, x7, rfl, rfl, hF, hR, hD⟩
    have f12 : τ 1 2 = nI k := by rw [hF 1 (by omega) (by omega)]; exact e12
    have f3 : τ 3 = σ 3 := by rw [hF 3 (by omega) (by omega)]; exact e3
    refine wSeq (wS_l (by simp only [e_fI, e_fLd, e_fLr, e_fB, e_fD, e_fC, e_fT, e_fAnd, e_fOr, e_fNot, e_fCC, e_fIf, e_gI, e_gR, e_aI, e_aR, e_aN, e_cV, e_cS, e_fNil, e_fAi, e_fAr, e_sSeq, e_sSkip, e_sSt, e_sSr, e_sInc, e_sRI, e_sRR, e_sRV, e_sIf, e_sCall, e_sPI, e_sPZ, e_sPR, e_sPO, e_sAI, e_sAZ, e_sAO, e_sAR, e_sPopI, e_sPopR, e_sCopy, e_mI, e_mZ, e_mR, e_mV, jAdd_n, jMul_n, z0, z1, Option.bind_some, List.getElem?_cons_zero, List.getElem?_cons_succ, List.set_cons_zero, List.set_cons_succ, eq_self, if_true, ite_and, ite_or, ite_I, ite_bI, ite_bJ, bI_ne, bI_01, List.cons_append, List.nil_append, Bool.false_eq_true, if_false, gT1_2 hb0, f12, gT1_1 hb0, iT3 hb0 (show 0 < 6 by omega), f3]; rfl) ?_)
    refine wS_r (by simp only [e_fI, e_fLd, e_fLr, e_fB, e_fD, e_fC, e_fT, e_fAnd, e_fOr, e_fNot, e_fCC, e_fIf, e_gI, e_gR, e_aI, e_aR, e_aN, e_cV, e_cS, e_fNil, e_fAi, e_fAr, e_sSeq, e_sSkip, e_sSt, e_sSr, e_sInc, e_sRI, e_sRR, e_sRV, e_sIf, e_sCall, e_sPI, e_sPZ, e_sPR, e_sPO, e_sAI, e_sAZ, e_sAO, e_sAR, e_sPopI, e_sPopR, e_sCopy, e_mI, e_mZ, e_mR, e_mV, jAdd_n, jMul_n, z0, z1, Option.bind_some, List.getElem?_cons_zero, List.getElem?_cons_succ, List.set_cons_zero, List.set_cons_succ, eq_self, if_true, ite_and, ite_or, ite_I, ite_bI, ite_bJ, bI_ne, bI_01, List.cons_append, List.nil_append, Bool.false_eq_true, if_false, rtn_e (p := p) hr hk]; rfl) ?_
    exact ⟨rfl, τ, rfl, hF, hR, hD⟩
end CARR2
