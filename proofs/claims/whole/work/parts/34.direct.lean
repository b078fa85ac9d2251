/-! a datagram; a direct one at a station -/
def isD (D : Nat) : Prop := D = 12 ∨ D = 14 ∨ D = 16 ∨ D = 20 ∨ D = 22 ∨ D = 24
section DAT
variable {n D : Nat} {σ : sg}
theorem isD.lt (hD : isD D) : D < 25 := by unfold isD at hD; omega
theorem isD.t (hD : isD D) : kd_T.getD D 99 = 0 ∧ sz_T.getD D 0 = 6 ∧ rt_T.getD D [] = [none, none, none, none, none, some (D + 1)] ∧ kd_T.getD (D + 1) 99 = 50 ∧ sz_T.getD (D + 1) 0 = 8 ∧ rt_T.getD (D + 1) [] = [] := by
  rcases hD with rfl | rfl | rfl | rfl | rfl | rfl <;> decide
theorem kD (h : okB n) (hD : isD D) : hp_k (hs n σ) D = some 0 := by
  rw [cT_k h D (by have := hD.lt; omega), hD.t.1]
theorem rD {i : Nat} (hD : isD D) (hi : i < 5) : (rt_T.getD D []).getD i none = none := by
  rw [hD.t.2.2.1]
  rcases i with _ | _ | _ | _ | _ | i
  iterate 5 rfl
  omega
theorem gD {i : Nat} (h : okB n) (hD : isD D) (hi : i < 5) : hp_g (hs n σ) D 0 i = some (.int (σ D i)) := by
  have := cT_g (σ := σ) h D i (by have := hD.lt; omega) (by rw [hD.t.2.1]; omega) (rD hD hi) (by unfold isD at hD; omega)
  rwa [hD.t.1] at this
theorem pD {i : Nat} {x : Int32} (h : okB n) (hD : isD D) (hi : i < 5) : hp_p (hs n σ) D 0 i (.int x) = some (hs n (up σ D i x)) := by
  have := cT_p (σ := σ) h D i x (by have := hD.lt; omega) (by rw [hD.t.2.1]; omega) (rD hD hi) (by unfold isD at hD; omega)
  rwa [hD.t.1] at this
theorem gD5 (h : okB n) (hD : isD D) : hp_g (hs n σ) D 0 5 = some (.ref (D + 1)) := by
  have := cT_r (σ := σ) h D 5 (D + 1) (by have := hD.lt; omega) (by rw [hD.t.2.1]; omega) (by rw [hD.t.2.2.1]; rfl) (by unfold isD at hD; omega)
  rwa [hD.t.1] at this
theorem kD1 (h : okB n) (hD : isD D) : hp_k (hs n σ) (D + 1) = some 50 := by
  rw [cT_k h (D + 1) (by have := hD.lt; omega), hD.t.2.2.2.1]
theorem iD {i : Nat} (h : okB n) (hD : isD D) (hi : i < 8) : hp_i (hs n σ) (D + 1) 50 (nI i) = some (.int (σ (D + 1) i)) := by
  have := cT_i (σ := σ) h (D + 1) i (by have := hD.lt; omega) (by rw [hD.t.2.2.2.2.1]; omega) (by rw [hD.t.2.2.2.2.2]; rfl) (by unfold isD at hD; omega)
  rwa [hD.t.2.2.2.1] at this
theorem wD {i : Nat} {x : Int32} (h : okB n) (hD : isD D) (hi : i < 8) : hp_w (hs n σ) (D + 1) 50 (nI i) (.int x) = some (hs n (up σ (D + 1) i x)) := by
  have := cT_w (σ := σ) h (D + 1) i x (by have := hD.lt; omega) (by rw [hD.t.2.2.2.2.1]; omega) (by rw [hD.t.2.2.2.2.2]; rfl) (by unfold isD at hD; omega)
  rwa [hD.t.2.2.2.1] at this
theorem sa_D {s j : Nat} (hD : isD D) : sa s j ≠ D ∧ sa s j ≠ D + 1 := by have := hD.lt; have := sa_ge s j; omega
end DAT
/-- the datagram at D holds G: G 0 its fields, G 1 its bytes -/
def RD (σ : sg) (D : Nat) (G : sg) : Prop := (∀ i, i < 5 → σ D i = G 0 i) ∧ ∀ i, i < 8 → σ (D + 1) i = G 1 i
def fN (G : sg) : Nat := (G 0 2).toNatClampNeg
def kN (G : sg) : Nat := (G 0 3).toNatClampNeg
def isW (G : sg) : Bool := jEq (G 0 0) (nI 2) || jEq (G 0 0) (nI 5) || jEq (G 0 0) (nI 8)
def okD (A G : sg) (w : Bool) : Bool := decide (fN G + kN G ≤ 128) && alwR (A 4) (A 15) (fN G) (fN G + kN G - 1) w
def dirS (A G : sg) : sg := if isW G = true then (if okD A G true = true then cW A (fN G) (G 1) (fun _ => nI 255) (kN G) else A) else if okD A G false = true then rdA A (fN G) (fN G + kN G - 1) else A
def dirG (A G : sg) : sg := if isW G = true then (if okD A G true = true then up G 0 4 (jAdd (G 0 4) (nI 1)) else G) else if okD A G false = true then up (fun j i => if j = 1 ∧ i < kN G then jOr (if G 0 0 = nI 7 then G 1 i else nI 0) (rvA A (fN G) (fN G + i)) else G j i) 0 4 (jAdd (G 0 4) (nI 1)) else G
/-- a direct datagram that is well made -/
def okG (G : sg) : Prop := G 0 2 = nI (fN G) ∧ fN G < 128 ∧ G 0 3 = nI (kN G) ∧ 1 ≤ kN G ∧ kN G ≤ 8 ∧ ∀ i, i < 8 → byt (G 1 i)
theorem cW_cg {A : sg} {f : Nat} {r m r' m' : Nat → Int32} : ∀ k, (∀ j, j < k → r j = r' j ∧ m j = m' j) → cW A f r m k = cW A f r' m' k
  | 0, _ => rfl
  | k + 1, h => by
    show W1 _ _ _ = W1 _ _ _
    rw [cW_cg k (fun j hj => h j (by omega)), (h k (by omega)).1, (h k (by omega)).2]
theorem RD.u {σ G : sg} {D i : Nat} {v : Int32} (h : RD σ D G) : RD (up σ D i v) D (up G 0 i v) := by
  refine ⟨fun j hj => ?_, fun j hj => ?_⟩
  · have := h.1 j hj
    simp only [up, true_and, this]
  · rw [up_ne (by omega), up_ne (by omega)]
    exact h.2 j hj
theorem RD.keep {σ τ G : sg} {D : Nat} (h : RD σ D G) (e : τ D = σ D) (e1 : τ (D + 1) = σ (D + 1)) : RD τ D G := ⟨fun i hi => by rw [e]; exact h.1 i hi, fun i hi => by rw [e1]; exact h.2 i hi⟩
section DIR
variable {n s D : Nat} {σ A G : sg}
theorem q_S_performDirect (h : okS n s) (hD : isD D) (hA : RC σ s A) (hok : okA A) (hG : RD σ D G) (hg : okG G) : ∃ τ, G_S_performDirect [.ref (sa s 0), .ref D] (hs n σ) = some (hs n τ) ∧ RC τ s (dirS A G) ∧ RD τ D (dirG A G) ∧ (∀ a, (∀ j, j < 22 → a ≠ sa s j) → a ≠ D → a ≠ D + 1 → τ a = σ a) := by
  obtain ⟨g2, hf, g3, hk1, hk8, hgb⟩ := hg
  generalize hfe : fN G = f at g2 hf
  generalize hke : kN G = k at g3 hk1 hk8
  have e0 : σ D 0 = G 0 0 := hG.1 0 (by omega)
  have e2 : σ D 2 = nI f := (hG.1 2 (by omega)).trans g2
  have e3 : σ D 3 = nI k := (hG.1 3 (by omega)).trans g3
  have e4 : σ D 4 = G 0 4 := hG.1 4 (by omega)
  have hB := h.B
  have el : jSub (nI (f + k)) (nI 1) = nI (f + k - 1) := pk_sub (by omega)
  have hsD : ∀ j, sa s j ≠ D ∧ sa s j ≠ D + 1 := fun j => sa_D hD
  have step0 : ∀ g, sSeq (sSt 2 (fB jSub (fB jAdd (gI 0 2 (fLr 1)) (gI 0 3 (fLr 1))) (fI (nI 1)))) g (jx_L0 5 [.ref (sa s 0), .ref D]) (hs n σ) = g [some (.ref (sa s 0)), some (.ref D), some (.int (nI (f + k - 1))), none, none] (hs n σ) := fun g => by
    rw [sSeq_l (L1 := [some (.ref (sa s 0)), some (.ref D), some (.int (nI (f + k - 1))), none, none]) (h1 := hs n σ) (by simp [e_fI, e_fLd, e_fLr, e_fB, e_fD, e_fC, e_fT, e_fAnd, e_fOr, e_fNot, e_fCC, e_fIf, e_gI, e_gR, e_aI, e_aR, e_aN, e_cV, e_cS, e_fNil, e_fAi, e_fAr, e_sSeq, e_sSkip, e_sSt, e_sSr, e_sInc, e_sRI, e_sRR, e_sRV, e_sIf, e_sCall, e_sPI, e_sPZ, e_sPR, e_sPO, e_sAI, e_sAZ, e_sAO, e_sAR, e_sPopI, e_sPopR, e_sCopy, e_mI, e_mZ, e_mR, e_mV, jx_L0, jAdd_n, jMul_n, z0, z1, List.replicate, gD hB hD, e2, e3, el])]
  have cw : fOr (fOr (fC jEq (gI 0 0 (fLr 1)) (fI (nI 2))) (fC jEq (gI 0 0 (fLr 1)) (fI (nI 5)))) (fC jEq (gI 0 0 (fLr 1)) (fI (nI 8))) [some (.ref (sa s 0)), some (.ref D), some (.int (nI (f + k - 1))), none, none] (hs n σ) = some (isW G, hs n σ) := fOr_e (fOr_e (by simp [e_fI, e_fLd, e_fLr, e_fB, e_fD, e_fC, e_fT, e_fAnd, e_fOr, e_fNot, e_fCC, e_fIf, e_gI, e_gR, e_aI, e_aR, e_aN, e_cV, e_cS, e_fNil, e_fAi, e_fAr, e_sSeq, e_sSkip, e_sSt, e_sSr, e_sInc, e_sRI, e_sRR, e_sRV, e_sIf, e_sCall, e_sPI, e_sPZ, e_sPR, e_sPO, e_sAI, e_sAZ, e_sAO, e_sAR, e_sPopI, e_sPopR, e_sCopy, e_mI, e_mZ, e_mR, e_mV, jx_L0, jAdd_n, jMul_n, z0, z1, gD hB hD, e0]) (by simp [e_fI, e_fLd, e_fLr, e_fB, e_fD, e_fC, e_fT, e_fAnd, e_fOr, e_fNot, e_fCC, e_fIf, e_gI, e_gR, e_aI, e_aR, e_aN, e_cV, e_cS, e_fNil, e_fAi, e_fAr, e_sSeq, e_sSkip, e_sSt, e_sSr, e_sInc, e_sRI, e_sRR, e_sRV, e_sIf, e_sCall, e_sPI, e_sPZ, e_sPR, e_sPO, e_sAI, e_sAZ, e_sAO, e_sAR, e_sPopI, e_sPopR, e_sCopy, e_mI, e_mZ, e_mR, e_mV, jx_L0, jAdd_n, jMul_n, z0, z1, gD hB hD, e0])) (by simp [e_fI, e_fLd, e_fLr, e_fB, e_fD, e_fC, e_fT, e_fAnd, e_fOr, e_fNot, e_fCC, e_fIf, e_gI, e_gR, e_aI, e_aR, e_aN, e_cV, e_cS, e_fNil, e_fAi, e_fAr, e_sSeq, e_sSkip, e_sSt, e_sSr, e_sInc, e_sRI, e_sRR, e_sRV, e_sIf, e_sCall, e_sPI, e_sPZ, e_sPR, e_sPO, e_sAI, e_sAZ, e_sAO, e_sAR, e_sPopI, e_sPopR, e_sCopy, e_mI, e_mZ, e_mR, e_mV, jx_L0, jAdd_n, jMul_n, z0, z1, gD hB hD, e0])
  unfold dirS dirG okD
  rw [hfe, hke]
  cases hw : isW G with
  | true =>
    rw [hw] at cw
    rw [if_pos rfl, if_pos rfl]
    -- the row
    obtain ⟨L', H', hl, τ, rfl, rfl, hF, h16, h17⟩ := sWh_inv (fc := fC jLt (fLd 3) (gI 0 3 (fLr 1))) (fb := sSeq (sSeq (sAI (gR 5 4 (gR 6 4 (fLr 0))) (fLd 3) (aI 50 (gR 0 5 (fLr 1)) (fLd 3))) (sAI (gR 5 5 (gR 6 4 (fLr 0))) (fLd 3) (fI (nI 255)))) (sInc 3 (nI 1))) (I := fun i L H => ∃ τ, L = [some (.ref (sa s 0)), some (.ref D), some (.int (nI (f + k - 1))), some (.int (nI i)), none] ∧ H = hs n τ ∧ (∀ a, a ≠ sa s 16 → a ≠ sa s 17 → τ a = σ a) ∧ (∀ j, j < i → τ (sa s 16) j = G 1 j) ∧ (∀ j, j < i → τ (sa s 17) j = nI 255)) (e := k) (fun i L H hI hi => by
        obtain ⟨τ, rfl, rfl, hF, -⟩ := hI
        have : τ D 3 = nI k := by rw [hF D (hsD 16).1.symm (hsD 17).1.symm]; exact e3
        simp [e_fI, e_fLd, e_fLr, e_fB, e_fD, e_fC, e_fT, e_fAnd, e_fOr, e_fNot, e_fCC, e_fIf, e_gI, e_gR, e_aI, e_aR, e_aN, e_cV, e_cS, e_fNil, e_fAi, e_fAr, e_sSeq, e_sSkip, e_sSt, e_sSr, e_sInc, e_sRI, e_sRR, e_sRV, e_sIf, e_sCall, e_sPI, e_sPZ, e_sPR, e_sPO, e_sAI, e_sAZ, e_sAO, e_sAR, e_sPopI, e_sPopR, e_sCopy, e_mI, e_mZ, e_mR, e_mV, jx_L0, jAdd_n, jMul_n, z0, z1, gD hB hD, this, jLt, nI_ltI (show i < 2 ^ 31 by omega) (show k < 2 ^ 31 by omega)]) (fun i L H hI hi => by
        obtain ⟨τ, rfl, rfl, hF, h16, h17⟩ := hI
        have hb : τ (D + 1) i = G 1 i := by rw [hF (D + 1) (hsD 16).2.symm (hsD 17).2.symm]; exact hG.2 i (by omega)
        refine ⟨[some (.ref (sa s 0)), some (.ref D), some (.int (nI (f + k - 1))), some (.int (nI (i + 1))), none], hs n (up (up τ (sa s 16) i (G 1 i)) (sa s 17) i (nI 255)), ?_, _, rfl, rfl, fun a q1 q2 => by rw [up_ne q2, up_ne q1]; exact hF a q1 q2, fun j hj => ?_, fun j hj => ?_⟩
        · simp [e_fI, e_fLd, e_fLr, e_fB, e_fD, e_fC, e_fT, e_fAnd, e_fOr, e_fNot, e_fCC, e_fIf, e_gI, e_gR, e_aI, e_aR, e_aN, e_cV, e_cS, e_fNil, e_fAi, e_fAr, e_sSeq, e_sSkip, e_sSt, e_sSr, e_sInc, e_sRI, e_sRR, e_sRV, e_sIf, e_sCall, e_sPI, e_sPZ, e_sPR, e_sPO, e_sAI, e_sAZ, e_sAO, e_sAR, e_sPopI, e_sPopR, e_sCopy, e_mI, e_mZ, e_mR, e_mV, jx_L0, jAdd_n, jMul_n, z0, z1, gS0_4 h, gS3_4 h, gS3_5 h, gD5 hB hD, iD hB hD (show i < 8 by omega), hb, wS16 h (show i < 9 by omega), wS17 h (show i < 9 by omega), nI_add]
        · rw [up_ne (sa_ne (by omega))]
          unfold up
          by_cases q : j = i
          · rw [if_pos ⟨rfl, q⟩, q]
          · rw [if_neg (fun q2 => q q2.2)]
            exact h16 j (by omega)
        · unfold up
          by_cases q : j = i
          · rw [if_pos ⟨rfl, q⟩]
          · rw [if_neg (fun q2 => q q2.2), if_neg (fun q2 => q q2.2)]
            exact h17 j (by omega)) 600 0 [some (.ref (sa s 0)), some (.ref D), some (.int (nI (f + k - 1))), some (.int (nI 0)), none] (hs n σ) (by omega) (by omega) ⟨σ, rfl, rfl, fun _ _ _ => rfl, fun j hj => by omega, fun j hj => by omega⟩
    have hAτ : RC τ s A := hA.keep (fun j _ q1 q2 _ _ _ => hF _ (sa_ne q1) (sa_ne q2))
    have hGτ : RD τ D G := ⟨fun i hi => by rw [hF D (hsD 16).1.symm (hsD 17).1.symm]; exact hG.1 i hi, fun i hi => by rw [hF (D + 1) (hsD 16).2.symm (hsD 17).2.symm]; exact hG.2 i hi⟩
    have e2' : τ D 2 = nI f := (hGτ.1 2 (by omega)).trans g2
    have pre : ∀ g, P_S_performDirect = P_S_performDirect → sSeq (sIf (fOr (fOr (fC jEq (gI 0 0 (fLr 1)) (fI (nI 2))) (fC jEq (gI 0 0 (fLr 1)) (fI (nI 5)))) (fC jEq (gI 0 0 (fLr 1)) (fI (nI 8)))) (sSeq (sSeq (sSt 3 (fI (nI 0))) (sWh (fC jLt (fLd 3) (gI 0 3 (fLr 1))) (sSeq (sSeq (sAI (gR 5 4 (gR 6 4 (fLr 0))) (fLd 3) (aI 50 (gR 0 5 (fLr 1)) (fLd 3))) (sAI (gR 5 5 (gR 6 4 (fLr 0))) (fLd 3) (fI (nI 255)))) (sInc 3 (nI 1))) 600)) (sIf (fT (cV 5 (fAr (gR 6 4 (fLr 0)) (fAi (gI 0 2 (fLr 1)) (fAi (fLd 2) (fNil)))) G_E_writeRow)) (sPO 0 4 jAdd (fLr 1) (fI (nI 1))) sSkip)) g) sRV [some (.ref (sa s 0)), some (.ref D), some (.int (nI (f + k - 1))), none, none] (hs n σ) = sSeq (sIf (fT (cV 5 (fAr (gR 6 4 (fLr 0)) (fAi (gI 0 2 (fLr 1)) (fAi (fLd 2) (fNil)))) G_E_writeRow)) (sPO 0 4 jAdd (fLr 1) (fI (nI 1))) sSkip) sRV [some (.ref (sa s 0)), some (.ref D), some (.int (nI (f + k - 1))), some (.int (nI k)), none] (hs n τ) := fun g _ => by
      rw [e_sSeq, sIf_t cw, sSeq_l ((sSeq_l (L1 := [some (.ref (sa s 0)), some (.ref D), some (.int (nI (f + k - 1))), some (.int (nI 0)), none]) (h1 := hs n σ) (by simp [e_fI, e_fLd, e_fLr, e_fB, e_fD, e_fC, e_fT, e_fAnd, e_fOr, e_fNot, e_fCC, e_fIf, e_gI, e_gR, e_aI, e_aR, e_aN, e_cV, e_cS, e_fNil, e_fAi, e_fAr, e_sSeq, e_sSkip, e_sSt, e_sSr, e_sInc, e_sRI, e_sRR, e_sRV, e_sIf, e_sCall, e_sPI, e_sPZ, e_sPR, e_sPO, e_sAI, e_sAZ, e_sAO, e_sAR, e_sPopI, e_sPopR, e_sCopy, e_mI, e_mZ, e_mR, e_mV, jx_L0, jAdd_n, jMul_n, z0, z1])).trans hl)]
      rfl
    by_cases hbig : f + k ≤ 128
    · obtain ⟨ρ, hq, hFq, hRq⟩ := q_E_writeRow (f := f) (l := f + k - 1) h hAτ hok (by omega) (by omega) (by omega) (fun j hj => by rw [h16 j (by omega)]; exact hgb j (by omega))
      rw [decide_eq_true hbig, Bool.true_and]
      rw [show f + k - 1 + 1 - f = k by omega, cW_cg (r' := G 1) (m' := fun _ => nI 255) k (fun j hj => ⟨h16 j hj, h17 j hj⟩)] at hRq
      have hFρ : ∀ a, (∀ j, j < 22 → a ≠ sa s j) → ρ a = σ a := fun a ha => by
        rw [hFq a (ha 18 (by omega)) (fun j _ q => ha j (by omega)), hF a (ha 16 (by omega)) (ha 17 (by omega))]
      have hGρ : RD ρ D G := ⟨fun i hi => by rw [hFρ D (fun j _ => (hsD j).1.symm)]; exact hG.1 i hi, fun i hi => by rw [hFρ (D + 1) (fun j _ => (hsD j).2.symm)]; exact hG.2 i hi⟩
      have e4' : ρ D 4 = G 0 4 := hGρ.1 4 (by omega)
      have ct : fT (cV 5 (fAr (gR 6 4 (fLr 0)) (fAi (gI 0 2 (fLr 1)) (fAi (fLd 2) (fNil)))) G_E_writeRow) [some (.ref (sa s 0)), some (.ref D), some (.int (nI (f + k - 1))), some (.int (nI k)), none] (hs n τ) = some (alwR (A 4) (A 15) f (f + k - 1) true, hs n ρ) := fT_b (by simp [e_fI, e_fLd, e_fLr, e_fB, e_fD, e_fC, e_fT, e_fAnd, e_fOr, e_fNot, e_fCC, e_fIf, e_gI, e_gR, e_aI, e_aR, e_aN, e_cV, e_cS, e_fNil, e_fAi, e_fAr, e_sSeq, e_sSkip, e_sSt, e_sSr, e_sInc, e_sRI, e_sRR, e_sRV, e_sIf, e_sCall, e_sPI, e_sPZ, e_sPR, e_sPO, e_sAI, e_sAZ, e_sAO, e_sAR, e_sPopI, e_sPopR, e_sCopy, e_mI, e_mZ, e_mR, e_mV, jx_L0, jAdd_n, jMul_n, z0, z1, gS0_4 h, gD hB hD, e2', kS3 h, hq])
      cases hal : alwR (A 4) (A 15) f (f + k - 1) true with
      | false =>
        rw [hal] at hRq ct
        rw [if_neg (by simp)] at hRq
        refine ⟨ρ, mV_e (Nat.le_of_ble_eq_true rfl) ?_, hRq, hGρ, fun a q1 _ _ => hFρ a q1⟩
        unfold P_S_performDirect
        rw [step0, pre _ rfl, sSeq_l ((sIf_f ct).trans rfl)]
        rfl
      | true =>
        rw [hal] at hRq ct
        rw [if_pos rfl] at hRq
        refine ⟨up ρ D 4 (jAdd (G 0 4) (nI 1)), mV_e (Nat.le_of_ble_eq_true rfl) ?_, ?_, ?_, fun a q1 q2 _ => by rw [up_ne q2]; exact hFρ a q1⟩
        · unfold P_S_performDirect
          rw [step0, pre _ rfl, sSeq_l (L1 := [some (.ref (sa s 0)), some (.ref D), some (.int (nI (f + k - 1))), some (.int (nI k)), none]) (h1 := hs n (up ρ D 4 (jAdd (G 0 4) (nI 1)))) ((sIf_t ct).trans (by simp [e_fI, e_fLd, e_fLr, e_fB, e_fD, e_fC, e_fT, e_fAnd, e_fOr, e_fNot, e_fCC, e_fIf, e_gI, e_gR, e_aI, e_aR, e_aN, e_cV, e_cS, e_fNil, e_fAi, e_fAr, e_sSeq, e_sSkip, e_sSt, e_sSr, e_sInc, e_sRI, e_sRR, e_sRV, e_sIf, e_sCall, e_sPI, e_sPZ, e_sPR, e_sPO, e_sAI, e_sAZ, e_sAO, e_sAR, e_sPopI, e_sPopR, e_sCopy, e_mI, e_mZ, e_mR, e_mV, jx_L0, jAdd_n, jMul_n, z0, z1, gD hB hD, pD hB hD, e4']))]
          rfl
        · exact hRq.keep (fun j _ _ _ _ _ _ => up_ne (hsD j).1)
        · exact hGρ.u
    · rw [decide_eq_false hbig, Bool.false_and]
      have hq := q_E_writeRow_big (n := n) (s := s) (σ := τ) (f := f) (l := f + k - 1) (by omega) (by omega)
      have ct : fT (cV 5 (fAr (gR 6 4 (fLr 0)) (fAi (gI 0 2 (fLr 1)) (fAi (fLd 2) (fNil)))) G_E_writeRow) [some (.ref (sa s 0)), some (.ref D), some (.int (nI (f + k - 1))), some (.int (nI k)), none] (hs n τ) = some (false, hs n τ) := fT_b (by simp [e_fI, e_fLd, e_fLr, e_fB, e_fD, e_fC, e_fT, e_fAnd, e_fOr, e_fNot, e_fCC, e_fIf, e_gI, e_gR, e_aI, e_aR, e_aN, e_cV, e_cS, e_fNil, e_fAi, e_fAr, e_sSeq, e_sSkip, e_sSt, e_sSr, e_sInc, e_sRI, e_sRR, e_sRV, e_sIf, e_sCall, e_sPI, e_sPZ, e_sPR, e_sPO, e_sAI, e_sAZ, e_sAO, e_sAR, e_sPopI, e_sPopR, e_sCopy, e_mI, e_mZ, e_mR, e_mV, jx_L0, jAdd_n, jMul_n, z0, z1, gS0_4 h, gD hB hD, e2', kS3 h, hq])
      refine ⟨τ, mV_e (Nat.le_of_ble_eq_true rfl) ?_, by simpa using hAτ, by simpa using hGτ, fun a q1 _ _ => hF a (q1 16 (by omega)) (q1 17 (by omega))⟩
      unfold P_S_performDirect
      rw [step0, pre _ rfl, sSeq_l ((sIf_f ct).trans rfl)]
      rfl
  | false =>
    rw [hw] at cw
    rw [if_neg (show ¬ false = true by decide), if_neg (show ¬ false = true by decide)]
    have pre : ∀ g, sSeq (sIf (fOr (fOr (fC jEq (gI 0 0 (fLr 1)) (fI (nI 2))) (fC jEq (gI 0 0 (fLr 1)) (fI (nI 5)))) (fC jEq (gI 0 0 (fLr 1)) (fI (nI 8)))) g (sIf (fT (cV 5 (fAr (gR 6 4 (fLr 0)) (fAi (gI 0 2 (fLr 1)) (fAi (fLd 2) (fNil)))) G_E_readRow)) (sSeq (sSeq (sSt 3 (fI (nI 0))) (sWh (fC jLt (fLd 3) (gI 0 3 (fLr 1))) (sSeq (sSeq (sSt 4 (fIf (fC jEq (gI 0 0 (fLr 1)) (fI (nI 7))) (aI 50 (gR 0 5 (fLr 1)) (fLd 3)) (fI (nI 0)))) (sAI (gR 0 5 (fLr 1)) (fLd 3) (fB jOr (fLd 4) (aI 50 (gR 5 4 (gR 6 4 (fLr 0))) (fLd 3))))) (sInc 3 (nI 1))) 600)) (sPO 0 4 jAdd (fLr 1) (fI (nI 1)))) sSkip)) sRV [some (.ref (sa s 0)), some (.ref D), some (.int (nI (f + k - 1))), none, none] (hs n σ) = sSeq (sIf (fT (cV 5 (fAr (gR 6 4 (fLr 0)) (fAi (gI 0 2 (fLr 1)) (fAi (fLd 2) (fNil)))) G_E_readRow)) (sSeq (sSeq (sSt 3 (fI (nI 0))) (sWh (fC jLt (fLd 3) (gI 0 3 (fLr 1))) (sSeq (sSeq (sSt 4 (fIf (fC jEq (gI 0 0 (fLr 1)) (fI (nI 7))) (aI 50 (gR 0 5 (fLr 1)) (fLd 3)) (fI (nI 0)))) (sAI (gR 0 5 (fLr 1)) (fLd 3) (fB jOr (fLd 4) (aI 50 (gR 5 4 (gR 6 4 (fLr 0))) (fLd 3))))) (sInc 3 (nI 1))) 600)) (sPO 0 4 jAdd (fLr 1) (fI (nI 1)))) sSkip) sRV [some (.ref (sa s 0)), some (.ref D), some (.int (nI (f + k - 1))), none, none] (hs n σ) := fun g => by
      rw [e_sSeq, sIf_f cw]
      rfl
    by_cases hbig : f + k ≤ 128
    · obtain ⟨τ, hq, hFq, hRq, hV⟩ := q_readA (f := f) (l := f + k - 1) h hA hok (by omega) (by omega) (by omega)
      rw [decide_eq_true hbig, Bool.true_and]
      have hFτ : ∀ a, (∀ j, j < 22 → a ≠ sa s j) → τ a = σ a := fun a ha => hFq a (ha 16 (by omega)) (ha 18 (by omega)) (fun j _ q => ha j (by omega))
      have eD : τ D = σ D := hFτ D (fun j _ => (hsD j).1.symm)
      have eD1 : τ (D + 1) = σ (D + 1) := hFτ (D + 1) (fun j _ => (hsD j).2.symm)
      have hGτ : RD τ D G := hG.keep eD eD1
      have ct : fT (cV 5 (fAr (gR 6 4 (fLr 0)) (fAi (gI 0 2 (fLr 1)) (fAi (fLd 2) (fNil)))) G_E_readRow) [some (.ref (sa s 0)), some (.ref D), some (.int (nI (f + k - 1))), none, none] (hs n σ) = some (alwR (A 4) (A 15) f (f + k - 1) false, hs n τ) := fT_b (by simp [e_fI, e_fLd, e_fLr, e_fB, e_fD, e_fC, e_fT, e_fAnd, e_fOr, e_fNot, e_fCC, e_fIf, e_gI, e_gR, e_aI, e_aR, e_aN, e_cV, e_cS, e_fNil, e_fAi, e_fAr, e_sSeq, e_sSkip, e_sSt, e_sSr, e_sInc, e_sRI, e_sRR, e_sRV, e_sIf, e_sCall, e_sPI, e_sPZ, e_sPR, e_sPO, e_sAI, e_sAZ, e_sAO, e_sAR, e_sPopI, e_sPopR, e_sCopy, e_mI, e_mZ, e_mR, e_mV, jx_L0, jAdd_n, jMul_n, z0, z1, gS0_4 h, gD hB hD, e2, kS3 h, hq])
      cases hal : alwR (A 4) (A 15) f (f + k - 1) false with
      | false =>
        rw [hal] at hRq ct
        rw [if_neg (by simp)] at hRq
        refine ⟨τ, mV_e (Nat.le_of_ble_eq_true rfl) ?_, hRq, hGτ, fun a q1 _ _ => hFτ a q1⟩
        unfold P_S_performDirect
        rw [step0, pre, sSeq_l ((sIf_f ct).trans rfl)]
        rfl
      | true =>
        have hv := hV hal
        rw [hal] at hRq ct
        rw [if_pos rfl] at hRq
        rw [if_pos rfl, if_pos rfl]
        obtain ⟨L', H', hl, ρ, x4, rfl, rfl, hF, h1, h2⟩ := sWh_inv (fc := fC jLt (fLd 3) (gI 0 3 (fLr 1))) (fb := sSeq (sSeq (sSt 4 (fIf (fC jEq (gI 0 0 (fLr 1)) (fI (nI 7))) (aI 50 (gR 0 5 (fLr 1)) (fLd 3)) (fI (nI 0)))) (sAI (gR 0 5 (fLr 1)) (fLd 3) (fB jOr (fLd 4) (aI 50 (gR 5 4 (gR 6 4 (fLr 0))) (fLd 3))))) (sInc 3 (nI 1))) (I := fun i L H => ∃ ρ x4, L = [some (.ref (sa s 0)), some (.ref D), some (.int (nI (f + k - 1))), some (.int (nI i)), x4] ∧ H = hs n ρ ∧ (∀ a, a ≠ D + 1 → ρ a = τ a) ∧ (∀ j, j < i → ρ (D + 1) j = jOr (if G 0 0 = nI 7 then G 1 j else nI 0) (rvA A f (f + j))) ∧ (∀ j, i ≤ j → ρ (D + 1) j = τ (D + 1) j)) (e := k) (fun i L H hI hi => by
            obtain ⟨ρ, x4, rfl, rfl, hF, -⟩ := hI
            have : ρ D 3 = nI k := by rw [hF D (by omega), eD]; exact e3
            simp [e_fI, e_fLd, e_fLr, e_fB, e_fD, e_fC, e_fT, e_fAnd, e_fOr, e_fNot, e_fCC, e_fIf, e_gI, e_gR, e_aI, e_aR, e_aN, e_cV, e_cS, e_fNil, e_fAi, e_fAr, e_sSeq, e_sSkip, e_sSt, e_sSr, e_sInc, e_sRI, e_sRR, e_sRV, e_sIf, e_sCall, e_sPI, e_sPZ, e_sPR, e_sPO, e_sAI, e_sAZ, e_sAO, e_sAR, e_sPopI, e_sPopR, e_sCopy, e_mI, e_mZ, e_mR, e_mV, jx_L0, jAdd_n, jMul_n, z0, z1, gD hB hD, this, jLt, nI_ltI (show i < 2 ^ 31 by omega) (show k < 2 ^ 31 by omega)]) (fun i L H hI hi => by
            obtain ⟨ρ, x4, rfl, rfl, hF, h1, h2⟩ := hI
            have hb : ρ (D + 1) i = G 1 i := by rw [h2 i (by omega), eD1]; exact hG.2 i (by omega)
            have hc : ρ D 0 = G 0 0 := by rw [hF D (by omega), eD]; exact e0
            have hr : ρ (sa s 16) i = rvA A f (f + i) := by rw [hF _ (hsD 16).2]; exact hv i (by omega)
            have hx : (if jEq (G 0 0) (nI 7) = true then G 1 i else nI 0) = if G 0 0 = nI 7 then G 1 i else nI 0 := by
              by_cases q : G 0 0 = nI 7
              · rw [if_pos q, if_pos (jEq_t.mpr q)]
              · rw [if_neg q, if_neg (by rw [jEq_f.mpr q]; simp)]
            have s1 : sSt 4 (fIf (fC jEq (gI 0 0 (fLr 1)) (fI (nI 7))) (aI 50 (gR 0 5 (fLr 1)) (fLd 3)) (fI (nI 0))) [some (.ref (sa s 0)), some (.ref D), some (.int (nI (f + k - 1))), some (.int (nI i)), x4] (hs n ρ) = some (.inl ([some (.ref (sa s 0)), some (.ref D), some (.int (nI (f + k - 1))), some (.int (nI i)), some (.int (if G 0 0 = nI 7 then G 1 i else nI 0))], hs n ρ)) := by
              rw [← hx]
              cases q : jEq (G 0 0) (nI 7)
              · simp [e_fI, e_fLd, e_fLr, e_fB, e_fD, e_fC, e_fT, e_fAnd, e_fOr, e_fNot, e_fCC, e_fIf, e_gI, e_gR, e_aI, e_aR, e_aN, e_cV, e_cS, e_fNil, e_fAi, e_fAr, e_sSeq, e_sSkip, e_sSt, e_sSr, e_sInc, e_sRI, e_sRR, e_sRV, e_sIf, e_sCall, e_sPI, e_sPZ, e_sPR, e_sPO, e_sAI, e_sAZ, e_sAO, e_sAR, e_sPopI, e_sPopR, e_sCopy, e_mI, e_mZ, e_mR, e_mV, jx_L0, jAdd_n, jMul_n, z0, z1, gD hB hD, hc, q]
              · simp [e_fI, e_fLd, e_fLr, e_fB, e_fD, e_fC, e_fT, e_fAnd, e_fOr, e_fNot, e_fCC, e_fIf, e_gI, e_gR, e_aI, e_aR, e_aN, e_cV, e_cS, e_fNil, e_fAi, e_fAr, e_sSeq, e_sSkip, e_sSt, e_sSr, e_sInc, e_sRI, e_sRR, e_sRV, e_sIf, e_sCall, e_sPI, e_sPZ, e_sPR, e_sPO, e_sAI, e_sAZ, e_sAO, e_sAR, e_sPopI, e_sPopR, e_sCopy, e_mI, e_mZ, e_mR, e_mV, jx_L0, jAdd_n, jMul_n, z0, z1, gD hB hD, gD5 hB hD, hc, q, iD hB hD (show i < 8 by omega), hb]
            refine ⟨[some (.ref (sa s 0)), some (.ref D), some (.int (nI (f + k - 1))), some (.int (nI (i + 1))), some (.int (if G 0 0 = nI 7 then G 1 i else nI 0))], hs n (up ρ (D + 1) i (jOr (if G 0 0 = nI 7 then G 1 i else nI 0) (rvA A f (f + i)))), ?_, _, _, rfl, rfl, fun a q => by rw [up_ne q]; exact hF a q, fun j hj => ?_, fun j hj => ?_⟩
            · rw [e_sSeq, sSeq_l s1]
              simp [e_fI, e_fLd, e_fLr, e_fB, e_fD, e_fC, e_fT, e_fAnd, e_fOr, e_fNot, e_fCC, e_fIf, e_gI, e_gR, e_aI, e_aR, e_aN, e_cV, e_cS, e_fNil, e_fAi, e_fAr, e_sSeq, e_sSkip, e_sSt, e_sSr, e_sInc, e_sRI, e_sRR, e_sRV, e_sIf, e_sCall, e_sPI, e_sPZ, e_sPR, e_sPO, e_sAI, e_sAZ, e_sAO, e_sAR, e_sPopI, e_sPopR, e_sCopy, e_mI, e_mZ, e_mR, e_mV, jx_L0, jAdd_n, jMul_n, z0, z1, gS0_4 h, gS3_4 h, gD5 hB hD, iS16 h (show i < 9 by omega), hr, wD hB hD (show i < 8 by omega), nI_add]
            · unfold up
              by_cases q : j = i
              · rw [if_pos ⟨rfl, q⟩, q]
              · rw [if_neg (fun q2 => q q2.2)]
                exact h1 j (by omega)
            · unfold up
              rw [if_neg (by omega)]
              exact h2 j (by omega)) 600 0 [some (.ref (sa s 0)), some (.ref D), some (.int (nI (f + k - 1))), some (.int (nI 0)), none] (hs n τ) (by omega) (by omega) ⟨τ, none, rfl, rfl, fun _ _ => rfl, fun j hj => by omega, fun _ _ => rfl⟩
        have hGρ : RD ρ D (fun j i => if j = 1 ∧ i < k then jOr (if G 0 0 = nI 7 then G 1 i else nI 0) (rvA A f (f + i)) else G j i) := by
          refine ⟨fun i hi => ?_, fun i hi => ?_⟩
          · dsimp only
            rw [if_neg (by omega), hF D (by omega)]
            exact hGτ.1 i hi
          · dsimp only
            by_cases q : i < k
            · rw [if_pos ⟨rfl, q⟩]
              exact h1 i q
            · rw [if_neg (fun q2 => q q2.2), h2 i (by omega)]
              exact hGτ.2 i hi
        have e4' : ρ D 4 = G 0 4 := by rw [hF D (by omega), eD]; exact e4
        refine ⟨up ρ D 4 (jAdd (G 0 4) (nI 1)), mV_e (Nat.le_of_ble_eq_true rfl) ?_, hRq.keep (fun j _ _ _ _ _ _ => by rw [up_ne (hsD j).1, hF _ (hsD j).2]), hGρ.u, fun a q1 q2 q3 => by rw [up_ne q2, hF a q3]; exact hFτ a q1⟩
        unfold P_S_performDirect
        rw [step0, pre, sSeq_l (L1 := [some (.ref (sa s 0)), some (.ref D), some (.int (nI (f + k - 1))), some (.int (nI k)), x4]) (h1 := hs n (up ρ D 4 (jAdd (G 0 4) (nI 1)))) ((sIf_t ct).trans ?_)]
        · rfl
        · rw [sSeq_l ((sSeq_l (L1 := [some (.ref (sa s 0)), some (.ref D), some (.int (nI (f + k - 1))), some (.int (nI 0)), none]) (h1 := hs n τ) (by simp [e_fI, e_fLd, e_fLr, e_fB, e_fD, e_fC, e_fT, e_fAnd, e_fOr, e_fNot, e_fCC, e_fIf, e_gI, e_gR, e_aI, e_aR, e_aN, e_cV, e_cS, e_fNil, e_fAi, e_fAr, e_sSeq, e_sSkip, e_sSt, e_sSr, e_sInc, e_sRI, e_sRR, e_sRV, e_sIf, e_sCall, e_sPI, e_sPZ, e_sPR, e_sPO, e_sAI, e_sAZ, e_sAO, e_sAR, e_sPopI, e_sPopR, e_sCopy, e_mI, e_mZ, e_mR, e_mV, jx_L0, jAdd_n, jMul_n, z0, z1])).trans hl)]
          simp [e_fI, e_fLd, e_fLr, e_fB, e_fD, e_fC, e_fT, e_fAnd, e_fOr, e_fNot, e_fCC, e_fIf, e_gI, e_gR, e_aI, e_aR, e_aN, e_cV, e_cS, e_fNil, e_fAi, e_fAr, e_sSeq, e_sSkip, e_sSt, e_sSr, e_sInc, e_sRI, e_sRR, e_sRV, e_sIf, e_sCall, e_sPI, e_sPZ, e_sPR, e_sPO, e_sAI, e_sAZ, e_sAO, e_sAR, e_sPopI, e_sPopR, e_sCopy, e_mI, e_mZ, e_mR, e_mV, jx_L0, jAdd_n, jMul_n, z0, z1, gD hB hD, pD hB hD, e4']
    · rw [decide_eq_false hbig, Bool.false_and]
      have hq := q_E_readRow_big (n := n) (s := s) (σ := σ) (f := f) (l := f + k - 1) (by omega) (by omega)
      have ct : fT (cV 5 (fAr (gR 6 4 (fLr 0)) (fAi (gI 0 2 (fLr 1)) (fAi (fLd 2) (fNil)))) G_E_readRow) [some (.ref (sa s 0)), some (.ref D), some (.int (nI (f + k - 1))), none, none] (hs n σ) = some (false, hs n σ) := fT_b (by simp [e_fI, e_fLd, e_fLr, e_fB, e_fD, e_fC, e_fT, e_fAnd, e_fOr, e_fNot, e_fCC, e_fIf, e_gI, e_gR, e_aI, e_aR, e_aN, e_cV, e_cS, e_fNil, e_fAi, e_fAr, e_sSeq, e_sSkip, e_sSt, e_sSr, e_sInc, e_sRI, e_sRR, e_sRV, e_sIf, e_sCall, e_sPI, e_sPZ, e_sPR, e_sPO, e_sAI, e_sAZ, e_sAO, e_sAR, e_sPopI, e_sPopR, e_sCopy, e_mI, e_mZ, e_mR, e_mV, jx_L0, jAdd_n, jMul_n, z0, z1, gS0_4 h, gD hB hD, e2, kS3 h, hq])
      refine ⟨σ, mV_e (Nat.le_of_ble_eq_true rfl) ?_, by simpa using hA, by simpa using hG, fun a _ _ _ => rfl⟩
      unfold P_S_performDirect
      rw [step0, pre, sSeq_l ((sIf_f ct).trans rfl)]
      rfl
end DIR
