/-! a datagram at a station -/
def adN (G : sg) : Nat := (G 0 1).toNatClampNeg
def lgT (A G : sg) : mpT := mpL (G 1) (G 0 0) (adN G) (kN G) (A, G 1, false, false) 4
def lgG (A G : sg) : sg := fun j i => if j = 1 then (lgT A G).2.1 i else if j = 0 ∧ i = 4 then (if (lgT A G).2.2.2 = true then jAdd (if (lgT A G).2.2.1 = true then jAdd (G 0 4) (nI 1) else G 0 4) (if G 0 0 = nI 12 then nI 2 else nI 1) else if (lgT A G).2.2.1 = true then jAdd (G 0 4) (nI 1) else G 0 4) else G j i
def okH (G : sg) : Prop := G 0 1 = nI (adN G) ∧ adN G < 65536 ∧ G 0 3 = nI (kN G) ∧ 1 ≤ kN G ∧ kN G ≤ 8 ∧ ∀ i, i < 8 → byt (G 1 i)
section PER
variable {n s D : Nat} {σ A G : sg}
theorem cp_D20 (h : okS n s) (hD : isD D) : hp_cp (hs n σ) (D + 1) (nI 0) (sa s 20) (nI 0) (nI 8) = some (hs n (cpy σ (D + 1) 0 (sa s 20) 0 8)) := by
  have hB := h.B
  unfold okB at hB
  have hl := hD.lt
  have z0 : sz (D + 1) = 8 := by rw [sb (by omega)]; exact hD.t.2.2.2.2.1
  have z1 : sz (sa s 20) = 8 := by rw [sa, ss (by omega)]; rfl
  exact cp_hs (by omega) (sa_lt h (by omega)) (by rw [kb (by omega)]; exact hD.t.2.2.2.1) (by rw [sa, ks (by omega)]; rfl) (by omega) (by omega) (by omega) (fun j _ => cT_I (by omega) (by rw [hD.t.2.2.2.2.2]; rfl) (by unfold isD at hD; omega)) (fun j _ => cS_I (by omega) (rS_n rfl)) (by have := sa_ge s 20; omega)
abbrev lgQ : jx_fS := sIf (fNot (fT (cV 4 (fAr (gR 6 5 (fLr 0)) (fAr (gR 5 0 (gR 6 4 (fLr 0))) (fAi (fLd 4) (fAr (fLr 1) (fNil))))) G_B_find))) sSkip (sSeq (sSt 5 (aI 50 (gR 5 0 (gR 6 4 (fLr 0))) (fB jAdd (fB jAdd (fI (nI 8)) (fB jMul (fLd 4) (fI (nI 6)))) (fI (nI 5))))) (sSeq (sSt 6 (fIf (fAnd (fC jNe (fB jAnd (fLd 5) (fI (nI 1))) (fI 0)) (fC jNe (gI 0 0 (fLr 1)) (fI (nI 11)))) (fI (nI 1)) (fI (nI 0)))) (sSeq (sSt 7 (fIf (fAnd (fC jNe (fB jAnd (fLd 5) (fI (nI 2))) (fI 0)) (fC jNe (gI 0 0 (fLr 1)) (fI (nI 10)))) (fI (nI 1)) (fI (nI 0)))) (sSeq lgR lgW))))
/-- where the maps stand at turn m -/
def MI (n s D : Nat) (σ : sg) (w : Int32) (T : mpT) (C : Nat → Int32) (m : Nat) (L : hp_L) (H : hp_H) : Prop := ∃ τ x5 x6 x7, L = [some (.ref (sa s 0)), some (.ref D), some (.int (bI T.2.2.1)), some (.int (bI T.2.2.2)), some (.int (nI m)), x5, x6, x7] ∧ H = hs n τ ∧ RC τ s T.1 ∧ (∀ j, j < 8 → τ (D + 1) j = T.2.1 j) ∧ (∀ j, j < 8 → τ (sa s 20) j = C j) ∧ (∀ b, (∀ j, j < 22 → b ≠ sa s j) → b ≠ D + 1 → τ b = σ b)
theorem lg_step {T : mpT} {C : Nat → Int32} {w : Int32} {a k m : Nat} {L : hp_L} {H : hp_H} (h : okS n s) (hD : isD D) (hI : MI n s D σ w T C m L H) (hok : okA T.1) (hm : m < 4) (ec : σ D 0 = w) (ea : σ D 1 = nI a) (ek : σ D 3 = nI k) (ha : a < 65536) (hk : k ≤ 8) : ∃ L' H', sSeq lgQ (sInc 4 (nI 1)) L H = some (.inl (L', H')) ∧ MI n s D σ w (mpA C w a k m T) C (m + 1) L' H' := by
  obtain ⟨τ, x5, x6, x7, rfl, rfl, hR, hX, hC, hF⟩ := hI
  have hB := h.B
  have hne : ∀ j, sa s j ≠ D + 1 := fun j => (sa_D hD).2
  have hne0 : ∀ j, sa s j ≠ D := fun j => (sa_D hD).1
  have fD : τ D = σ D := hF D (fun j _ => (hne0 j).symm) (by omega)
  obtain ⟨ρ, hq, hFq, hb⟩ := q_B_find (n := n) (m := m) (a := a) (k := k) h hD hR hok hm (by rw [fD]; exact ea) (by rw [fD]; exact ek) ha hk
  have hRρ : RC ρ s T.1 := hR.keep (fun j _ _ _ _ c _ => hFq _ (sa_ne c))
  have cf : fNot (fT (cV 4 (fAr (gR 6 5 (fLr 0)) (fAr (gR 5 0 (gR 6 4 (fLr 0))) (fAi (fLd 4) (fAr (fLr 1) (fNil))))) G_B_find)) [some (.ref (sa s 0)), some (.ref D), some (.int (bI T.2.2.1)), some (.int (bI T.2.2.2)), some (.int (nI m)), x5, x6, x7] (hs n τ) = some (!(fnB (T.1 4) m a k), hs n ρ) := fNot_e (fT_b (by simp [e_fI, e_fLd, e_fLr, e_fB, e_fD, e_fC, e_fT, e_fAnd, e_fOr, e_fNot, e_fCC, e_fIf, e_gI, e_gR, e_aI, e_aR, e_aN, e_cV, e_cS, e_fNil, e_fAi, e_fAr, e_sSeq, e_sSkip, e_sSt, e_sSr, e_sInc, e_sRI, e_sRR, e_sRV, e_sIf, e_sCall, e_sPI, e_sPZ, e_sPR, e_sPO, e_sAI, e_sAZ, e_sAO, e_sAR, e_sPopI, e_sPopR, e_sCopy, e_mI, e_mZ, e_mR, e_mV, jx_L0, jAdd_n, jMul_n, z0, z1, gS0_5 h, gS0_4 h, gS3_0 h, kS19 h, hq]))
  have hXρ : ∀ j, j < 8 → ρ (D + 1) j = T.2.1 j := fun j hj => by rw [hFq _ (hne 19).symm]; exact hX j hj
  have hCρ : ∀ j, j < 8 → ρ (sa s 20) j = C j := fun j hj => by rw [hFq _ (sa_ne (by omega))]; exact hC j hj
  have hFρ : ∀ b, (∀ j, j < 22 → b ≠ sa s j) → b ≠ D + 1 → ρ b = σ b := fun b c1 c2 => (hFq b (c1 19 (by omega))).trans (hF b c1 c2)
  unfold mpA
  cases hf : fnB (T.1 4) m a k with
  | false =>
    rw [hf] at cf
    refine ⟨[some (.ref (sa s 0)), some (.ref D), some (.int (bI T.2.2.1)), some (.int (bI T.2.2.2)), some (.int (nI (m + 1))), x5, x6, x7], hs n ρ, ?_, ρ, x5, x6, x7, rfl, rfl, hRρ, hXρ, hCρ, hFρ⟩
    unfold lgQ
    rw [sSeq_l (L1 := [some (.ref (sa s 0)), some (.ref D), some (.int (bI T.2.2.1)), some (.int (bI T.2.2.2)), some (.int (nI m)), x5, x6, x7]) (h1 := hs n ρ) ((sIf_t cf).trans rfl)]
    simp [e_fI, e_fLd, e_fLr, e_fB, e_fD, e_fC, e_fT, e_fAnd, e_fOr, e_fNot, e_fCC, e_fIf, e_gI, e_gR, e_aI, e_aR, e_aN, e_cV, e_cS, e_fNil, e_fAi, e_fAr, e_sSeq, e_sSkip, e_sSt, e_sSr, e_sInc, e_sRI, e_sRR, e_sRV, e_sIf, e_sCall, e_sPI, e_sPZ, e_sPR, e_sPO, e_sAI, e_sAZ, e_sAO, e_sAR, e_sPopI, e_sPopR, e_sCopy, e_mI, e_mZ, e_mR, e_mV, jx_L0, jAdd_n, jMul_n, z0, z1, nI_add]
  | true =>
    rw [hf] at cf
    rw [if_pos rfl]
    obtain ⟨e0, e1, e2⟩ := hb hf
    have i5 := iS4 (σ := ρ) (n := n) h (show 8 + m * 6 + 5 < 128 by omega)
    rw [hRρ.mem] at i5
    have fD' : ρ D 0 = w := by rw [hFρ D (fun j _ => (hne0 j).symm) (by omega)]; exact ec
    obtain ⟨τ1, s1, hR1, hX1, hF1⟩ := lg_R (n := n) (w := w) (x3 := some (.int (bI T.2.2.2))) (x4 := some (.int (nI m))) (x5 := some (.int (T.1 4 (8 + m * 6 + 5)))) (x7 := some (.int (bI (wtsA T.1 w m)))) h hD hRρ hok hXρ hf hk e0 e1 e2
    have hokR : okA (mpR w a k m T).1 := by
      unfold mpR
      split
      · exact hok.rd
      · exact hok
    have g19 : τ1 (sa s 19) = ρ (sa s 19) := hF1 _ (hne 19) (sa_ne (by omega)) (sa_ne (by omega)) (sa_ne (by omega)) (fun j _ _ => sa_ne (by omega))
    have g20 : τ1 (sa s 20) = ρ (sa s 20) := hF1 _ (hne 20) (sa_ne (by omega)) (sa_ne (by omega)) (sa_ne (by omega)) (fun j _ _ => sa_ne (by omega))
    have hw : (mpR w a k m T).2.2.2 = T.2.2.2 := by
      unfold mpR
      split <;> rfl
    obtain ⟨τ2, s2, hR2, hX2, hF2⟩ := lg_W (n := n) (T := mpR w a k m T) (F := T.1 4) (C := C) (w := wtsA T.1 w m) (m := m) (a := a) (k := k) (x2 := some (.int (bI (mpR w a k m T).2.2.1))) (x4 := some (.int (nI m))) (x5 := some (.int (T.1 4 (8 + m * 6 + 5)))) (x6 := some (.int (bI (rdsA T.1 w m)))) h hD hR1 hokR hX1 (by rw [g20]; exact hCρ) hf hk (by rw [g19]; exact e0) (by rw [g19]; exact e1) (by rw [g19]; exact e2)
    rw [hw] at s2
    have hr : (mpW C (T.1 4) (wtsA T.1 w m) a k m (mpR w a k m T)).2.2.1 = (mpR w a k m T).2.2.1 := by
      unfold mpW
      split <;> rfl
    refine ⟨[some (.ref (sa s 0)), some (.ref D), some (.int (bI (mpR w a k m T).2.2.1)), some (.int (bI (mpW C (T.1 4) (wtsA T.1 w m) a k m (mpR w a k m T)).2.2.2)), some (.int (nI (m + 1))), some (.int (T.1 4 (8 + m * 6 + 5))), some (.int (bI (rdsA T.1 w m))), some (.int (bI (wtsA T.1 w m)))], hs n τ2, ?_, τ2, some (.int (T.1 4 (8 + m * 6 + 5))), some (.int (bI (rdsA T.1 w m))), some (.int (bI (wtsA T.1 w m))), ?_, rfl, hR2, hX2, fun j hj => ?_, fun b c1 c2 => ?_⟩
    · rw [sSeq_l (L1 := [some (.ref (sa s 0)), some (.ref D), some (.int (bI (mpR w a k m T).2.2.1)), some (.int (bI (mpW C (T.1 4) (wtsA T.1 w m) a k m (mpR w a k m T)).2.2.2)), some (.int (nI m)), some (.int (T.1 4 (8 + m * 6 + 5))), some (.int (bI (rdsA T.1 w m))), some (.int (bI (wtsA T.1 w m)))]) (h1 := hs n τ2) ((sIf_f cf).trans ?_)]
      · simp [e_fI, e_fLd, e_fLr, e_fB, e_fD, e_fC, e_fT, e_fAnd, e_fOr, e_fNot, e_fCC, e_fIf, e_gI, e_gR, e_aI, e_aR, e_aN, e_cV, e_cS, e_fNil, e_fAi, e_fAr, e_sSeq, e_sSkip, e_sSt, e_sSr, e_sInc, e_sRI, e_sRR, e_sRV, e_sIf, e_sCall, e_sPI, e_sPZ, e_sPR, e_sPO, e_sAI, e_sAZ, e_sAO, e_sAR, e_sPopI, e_sPopR, e_sCopy, e_mI, e_mZ, e_mR, e_mV, jx_L0, jAdd_n, jMul_n, z0, z1, nI_add]
      · rw [sSeq_l (L1 := [some (.ref (sa s 0)), some (.ref D), some (.int (bI T.2.2.1)), some (.int (bI T.2.2.2)), some (.int (nI m)), some (.int (T.1 4 (8 + m * 6 + 5))), x6, x7]) (h1 := hs n ρ) (by simp [e_fI, e_fLd, e_fLr, e_fB, e_fD, e_fC, e_fT, e_fAnd, e_fOr, e_fNot, e_fCC, e_fIf, e_gI, e_gR, e_aI, e_aR, e_aN, e_cV, e_cS, e_fNil, e_fAi, e_fAr, e_sSeq, e_sSkip, e_sSt, e_sSr, e_sInc, e_sRI, e_sRR, e_sRV, e_sIf, e_sCall, e_sPI, e_sPZ, e_sPR, e_sPO, e_sAI, e_sAZ, e_sAO, e_sAR, e_sPopI, e_sPopR, e_sCopy, e_mI, e_mZ, e_mR, e_mV, jx_L0, jAdd_n, jMul_n, z0, z1, gS0_4 h, gS3_0 h, i5])]
        rw [sSeq_l (L1 := [some (.ref (sa s 0)), some (.ref D), some (.int (bI T.2.2.1)), some (.int (bI T.2.2.2)), some (.int (nI m)), some (.int (T.1 4 (8 + m * 6 + 5))), some (.int (bI (rdsA T.1 w m))), x7]) (h1 := hs n ρ) ((sSt_e (fIf_b (x := rdsA T.1 w m) (fAnd_e (x := jNe (jAnd (T.1 4 (8 + m * 6 + 5)) (nI 1)) 0) (y := jNe w (nI 11)) (by simp [e_fI, e_fLd, e_fLr, e_fB, e_fD, e_fC, e_fT, e_fAnd, e_fOr, e_fNot, e_fCC, e_fIf, e_gI, e_gR, e_aI, e_aR, e_aN, e_cV, e_cS, e_fNil, e_fAi, e_fAr, e_sSeq, e_sSkip, e_sSt, e_sSr, e_sInc, e_sRI, e_sRR, e_sRV, e_sIf, e_sCall, e_sPI, e_sPZ, e_sPR, e_sPO, e_sAI, e_sAZ, e_sAO, e_sAR, e_sPopI, e_sPopR, e_sCopy, e_mI, e_mZ, e_mR, e_mV, jx_L0, jAdd_n, jMul_n, z0, z1]) (by simp [e_fI, e_fLd, e_fLr, e_fB, e_fD, e_fC, e_fT, e_fAnd, e_fOr, e_fNot, e_fCC, e_fIf, e_gI, e_gR, e_aI, e_aR, e_aN, e_cV, e_cS, e_fNil, e_fAi, e_fAr, e_sSeq, e_sSkip, e_sSt, e_sSr, e_sInc, e_sRI, e_sRR, e_sRV, e_sIf, e_sCall, e_sPI, e_sPZ, e_sPR, e_sPO, e_sAI, e_sAZ, e_sAO, e_sAR, e_sPopI, e_sPopR, e_sCopy, e_mI, e_mZ, e_mR, e_mV, jx_L0, jAdd_n, jMul_n, z0, z1, gD hB hD, fD'])))).trans rfl)]
        rw [sSeq_l (L1 := [some (.ref (sa s 0)), some (.ref D), some (.int (bI T.2.2.1)), some (.int (bI T.2.2.2)), some (.int (nI m)), some (.int (T.1 4 (8 + m * 6 + 5))), some (.int (bI (rdsA T.1 w m))), some (.int (bI (wtsA T.1 w m)))]) (h1 := hs n ρ) ((sSt_e (fIf_b (x := wtsA T.1 w m) (fAnd_e (x := jNe (jAnd (T.1 4 (8 + m * 6 + 5)) (nI 2)) 0) (y := jNe w (nI 10)) (by simp [e_fI, e_fLd, e_fLr, e_fB, e_fD, e_fC, e_fT, e_fAnd, e_fOr, e_fNot, e_fCC, e_fIf, e_gI, e_gR, e_aI, e_aR, e_aN, e_cV, e_cS, e_fNil, e_fAi, e_fAr, e_sSeq, e_sSkip, e_sSt, e_sSr, e_sInc, e_sRI, e_sRR, e_sRV, e_sIf, e_sCall, e_sPI, e_sPZ, e_sPR, e_sPO, e_sAI, e_sAZ, e_sAO, e_sAR, e_sPopI, e_sPopR, e_sCopy, e_mI, e_mZ, e_mR, e_mV, jx_L0, jAdd_n, jMul_n, z0, z1]) (by simp [e_fI, e_fLd, e_fLr, e_fB, e_fD, e_fC, e_fT, e_fAnd, e_fOr, e_fNot, e_fCC, e_fIf, e_gI, e_gR, e_aI, e_aR, e_aN, e_cV, e_cS, e_fNil, e_fAi, e_fAr, e_sSeq, e_sSkip, e_sSt, e_sSr, e_sInc, e_sRI, e_sRR, e_sRV, e_sIf, e_sCall, e_sPI, e_sPZ, e_sPR, e_sPO, e_sAI, e_sAZ, e_sAO, e_sAR, e_sPopI, e_sPopR, e_sCopy, e_mI, e_mZ, e_mR, e_mV, jx_L0, jAdd_n, jMul_n, z0, z1, gD hB hD, fD'])))).trans rfl)]
        rw [sSeq_l s1]
        exact s2
    · rw [hr]
    · rw [hF2 _ (hne 20) (sa_ne (by omega)) (sa_ne (by omega)) (sa_ne (by omega)) (fun j _ _ => sa_ne (by omega)), g20]
      exact hCρ j hj
    · rw [hF2 b c2 (c1 16 (by omega)) (c1 17 (by omega)) (c1 18 (by omega)) (fun j _ _ => c1 j (by omega)), hF1 b c2 (c1 16 (by omega)) (c1 17 (by omega)) (c1 18 (by omega)) (fun j _ _ => c1 j (by omega))]
      exact hFρ b c1 c2
theorem q_S_performLogical (h : okS n s) (hD : isD D) (hA : RC σ s A) (hok : okA A) (hG : RD σ D G) (hg : okH G) : ∃ τ, G_S_performLogical [.ref (sa s 0), .ref D] (hs n σ) = some (hs n τ) ∧ RC τ s (lgT A G).1 ∧ RD τ D (lgG A G) ∧ (∀ a, (∀ j, j < 22 → a ≠ sa s j) → a ≠ D → a ≠ D + 1 → τ a = σ a) := by
  obtain ⟨g1, ha, g3, hk1, hk8, hgb⟩ := hg
  have hB := h.B
  have hne : ∀ j, sa s j ≠ D + 1 := fun j => (sa_D hD).2
  have hne0 : ∀ j, sa s j ≠ D := fun j => (sa_D hD).1
  have ec : σ D 0 = G 0 0 := hG.1 0 (by omega)
  have ea : σ D 1 = nI (adN G) := (hG.1 1 (by omega)).trans g1
  have ek : σ D 3 = nI (kN G) := (hG.1 3 (by omega)).trans g3
  have e4 : σ D 4 = G 0 4 := hG.1 4 (by omega)
  have hcp := cp_D20 (σ := σ) h hD
  have hfr : ∀ b, b ≠ sa s 20 → cpy σ (D + 1) 0 (sa s 20) 0 8 b = σ b := fun b hb => cpy_ne hb
  obtain ⟨L', H', hl, τ, x5, x6, x7, rfl, rfl, hR, hX, -, hF⟩ := sWh_inv (fc := fC jLt (fLd 4) (fI (nI 4))) (fb := sSeq lgQ (sInc 4 (nI 1))) (I := fun m L H => MI n s D σ (G 0 0) (mpL (G 1) (G 0 0) (adN G) (kN G) (A, G 1, false, false) m) (G 1) m L H) (e := 4) (fun m L H hI hm => by
      obtain ⟨τ, x5, x6, x7, rfl, rfl, -⟩ := hI
      simp [e_fI, e_fLd, e_fLr, e_fB, e_fD, e_fC, e_fT, e_fAnd, e_fOr, e_fNot, e_fCC, e_fIf, e_gI, e_gR, e_aI, e_aR, e_aN, e_cV, e_cS, e_fNil, e_fAi, e_fAr, e_sSeq, e_sSkip, e_sSt, e_sSr, e_sInc, e_sRI, e_sRR, e_sRV, e_sIf, e_sCall, e_sPI, e_sPZ, e_sPR, e_sPO, e_sAI, e_sAZ, e_sAO, e_sAR, e_sPopI, e_sPopR, e_sCopy, e_mI, e_mZ, e_mR, e_mV, jx_L0, jAdd_n, jMul_n, z0, z1, jLt, nI_ltI (show m < 2 ^ 31 by omega) (show 4 < 2 ^ 31 by omega)]) (fun m L H hI hm => lg_step h hD hI (mpL_ok hk8 hok hgb m).1 hm ec ea ek ha hk8) 600 0 [some (.ref (sa s 0)), some (.ref D), some (.int (bI false)), some (.int (bI false)), some (.int (nI 0)), none, none, none] (hs n (cpy σ (D + 1) 0 (sa s 20) 0 8)) (by omega) (by omega) ⟨_, none, none, none, rfl, rfl, hA.keep (fun j _ _ _ _ _ c => hfr _ (sa_ne c)), fun j hj => by rw [hfr _ (hne 20).symm]; exact hG.2 j hj, fun j hj => by
        show cpy σ (D + 1) 0 (sa s 20) 0 8 (sa s 20) j = G 1 j
        unfold cpy
        rw [if_pos ⟨rfl, by omega, by omega⟩, show 0 + (j - 0) = j by omega]
        exact hG.2 j hj, fun b c1 _ => hfr b (c1 20 (by omega))⟩
  rw [show mpL (G 1) (G 0 0) (adN G) (kN G) (A, G 1, false, false) 4 = lgT A G from rfl] at hl hR hX
  have fD : τ D = σ D := hF D (fun j _ => (hne0 j).symm) (by omega)
  have pre : ∀ g, sSeq (sCopy (fAr (gR 0 5 (fLr 1)) (fAi (fI (nI 0)) (fAr (gR 6 6 (fLr 0)) (fAi (fI (nI 0)) (fAi (fI (nI 8)) (fNil))))))) (sSeq (sSt 2 (fI (nI 0))) (sSeq (sSt 3 (fI (nI 0))) (sSeq (sSeq (sSt 4 (fI (nI 0))) (sWh (fC jLt (fLd 4) (fI (nI 4))) (sSeq lgQ (sInc 4 (nI 1))) 600)) g))) (jx_L0 8 [.ref (sa s 0), .ref D]) (hs n σ) = g [some (.ref (sa s 0)), some (.ref D), some (.int (bI (lgT A G).2.2.1)), some (.int (bI (lgT A G).2.2.2)), some (.int (nI 4)), x5, x6, x7] (hs n τ) := fun g => by
    rw [show jx_L0 8 [.ref (sa s 0), .ref D] = [some (.ref (sa s 0)), some (.ref D), none, none, none, none, none, none] from rfl]
    rw [sSeq_l (sCopy_e (by simp [e_fI, e_fLd, e_fLr, e_fB, e_fD, e_fC, e_fT, e_fAnd, e_fOr, e_fNot, e_fCC, e_fIf, e_gI, e_gR, e_aI, e_aR, e_aN, e_cV, e_cS, e_fNil, e_fAi, e_fAr, e_sSeq, e_sSkip, e_sSt, e_sSr, e_sInc, e_sRI, e_sRR, e_sRV, e_sIf, e_sCall, e_sPI, e_sPZ, e_sPR, e_sPO, e_sAI, e_sAZ, e_sAO, e_sAR, e_sPopI, e_sPopR, e_sCopy, e_mI, e_mZ, e_mR, e_mV, jx_L0, jAdd_n, jMul_n, z0, z1, gD5 hB hD, gS0_6 h]) hcp)]
    rw [sSeq_l (L1 := [some (.ref (sa s 0)), some (.ref D), some (.int (bI false)), none, none, none, none, none]) (h1 := hs n (cpy σ (D + 1) 0 (sa s 20) 0 8)) (by simp [e_fI, e_fLd, e_fLr, e_fB, e_fD, e_fC, e_fT, e_fAnd, e_fOr, e_fNot, e_fCC, e_fIf, e_gI, e_gR, e_aI, e_aR, e_aN, e_cV, e_cS, e_fNil, e_fAi, e_fAr, e_sSeq, e_sSkip, e_sSt, e_sSr, e_sInc, e_sRI, e_sRR, e_sRV, e_sIf, e_sCall, e_sPI, e_sPZ, e_sPR, e_sPO, e_sAI, e_sAZ, e_sAO, e_sAR, e_sPopI, e_sPopR, e_sCopy, e_mI, e_mZ, e_mR, e_mV, jx_L0, jAdd_n, jMul_n, z0, z1, bI_f])]
    rw [sSeq_l (L1 := [some (.ref (sa s 0)), some (.ref D), some (.int (bI false)), some (.int (bI false)), none, none, none, none]) (h1 := hs n (cpy σ (D + 1) 0 (sa s 20) 0 8)) (by simp [e_fI, e_fLd, e_fLr, e_fB, e_fD, e_fC, e_fT, e_fAnd, e_fOr, e_fNot, e_fCC, e_fIf, e_gI, e_gR, e_aI, e_aR, e_aN, e_cV, e_cS, e_fNil, e_fAi, e_fAr, e_sSeq, e_sSkip, e_sSt, e_sSr, e_sInc, e_sRI, e_sRR, e_sRV, e_sIf, e_sCall, e_sPI, e_sPZ, e_sPR, e_sPO, e_sAI, e_sAZ, e_sAO, e_sAR, e_sPopI, e_sPopR, e_sCopy, e_mI, e_mZ, e_mR, e_mV, jx_L0, jAdd_n, jMul_n, z0, z1, bI_f])]
    rw [sSeq_l ((sSeq_l (L1 := [some (.ref (sa s 0)), some (.ref D), some (.int (bI false)), some (.int (bI false)), some (.int (nI 0)), none, none, none]) (h1 := hs n (cpy σ (D + 1) 0 (sa s 20) 0 8)) (by simp [e_fI, e_fLd, e_fLr, e_fB, e_fD, e_fC, e_fT, e_fAnd, e_fOr, e_fNot, e_fCC, e_fIf, e_gI, e_gR, e_aI, e_aR, e_aN, e_cV, e_cS, e_fNil, e_fAi, e_fAr, e_sSeq, e_sSkip, e_sSt, e_sSr, e_sInc, e_sRI, e_sRR, e_sRV, e_sIf, e_sCall, e_sPI, e_sPZ, e_sPR, e_sPO, e_sAI, e_sAZ, e_sAO, e_sAR, e_sPopI, e_sPopR, e_sCopy, e_mI, e_mZ, e_mR, e_mV, jx_L0, jAdd_n, jMul_n, z0, z1])).trans hl)]
  generalize hv1 : (if (lgT A G).2.2.1 = true then jAdd (G 0 4) (nI 1) else G 0 4) = v1
  generalize hv2 : (if (lgT A G).2.2.2 = true then jAdd v1 (if G 0 0 = nI 12 then nI 2 else nI 1) else v1) = v2
  have t4 : τ D 4 = G 0 4 := by rw [fD]; exact e4
  have t0 : τ D 0 = G 0 0 := by rw [fD]; exact ec
  have hres : ∀ τ' : sg, (∀ b, b ≠ D → τ' b = τ b) → (∀ i, i ≠ 4 → τ' D i = τ D i) → τ' D 4 = v2 → RC τ' s (lgT A G).1 ∧ RD τ' D (lgG A G) ∧ (∀ a, (∀ j, j < 22 → a ≠ sa s j) → a ≠ D → a ≠ D + 1 → τ' a = σ a) := fun τ' c1 c2 c3 => by
    refine ⟨hR.keep (fun j _ _ _ _ _ _ => c1 _ (hne0 j)), ⟨fun i hi => ?_, fun i hi => ?_⟩, fun a d1 d2 d3 => (c1 a d2).trans (hF a d1 d3)⟩
    · unfold lgG
      rw [if_neg (by omega)]
      by_cases q : i = 4
      · rw [if_pos ⟨rfl, q⟩, q, c3, ← hv2, ← hv1]
      · rw [if_neg (fun w => q w.2), c2 i q, fD]
        exact hG.1 i hi
    · unfold lgG
      rw [if_pos rfl, c1 _ (by omega)]
      exact hX i hi
  have s1 : ∃ τ1, sIf (fT (fLd 2)) (sPO 0 4 jAdd (fLr 1) (fI (nI 1))) sSkip [some (.ref (sa s 0)), some (.ref D), some (.int (bI (lgT A G).2.2.1)), some (.int (bI (lgT A G).2.2.2)), some (.int (nI 4)), x5, x6, x7] (hs n τ) = some (.inl ([some (.ref (sa s 0)), some (.ref D), some (.int (bI (lgT A G).2.2.1)), some (.int (bI (lgT A G).2.2.2)), some (.int (nI 4)), x5, x6, x7], hs n τ1)) ∧ (∀ b, b ≠ D → τ1 b = τ b) ∧ (∀ i, i ≠ 4 → τ1 D i = τ D i) ∧ τ1 D 4 = v1 := by
    cases hb : (lgT A G).2.2.1 with
    | false =>
      rw [hb] at hv1
      exact ⟨τ, (sIf_f (h1 := hs n τ) (fT_b (by simp [e_fI, e_fLd, e_fLr, e_fB, e_fD, e_fC, e_fT, e_fAnd, e_fOr, e_fNot, e_fCC, e_fIf, e_gI, e_gR, e_aI, e_aR, e_aN, e_cV, e_cS, e_fNil, e_fAi, e_fAr, e_sSeq, e_sSkip, e_sSt, e_sSr, e_sInc, e_sRI, e_sRR, e_sRV, e_sIf, e_sCall, e_sPI, e_sPZ, e_sPR, e_sPO, e_sAI, e_sAZ, e_sAO, e_sAR, e_sPopI, e_sPopR, e_sCopy, e_mI, e_mZ, e_mR, e_mV, jx_L0, jAdd_n, jMul_n, z0, z1]))).trans rfl, fun _ _ => rfl, fun _ _ => rfl, by rw [t4]; exact hv1⟩
    | true =>
      rw [hb] at hv1
      refine ⟨up τ D 4 v1, (sIf_t (h1 := hs n τ) (fT_b (by simp [e_fI, e_fLd, e_fLr, e_fB, e_fD, e_fC, e_fT, e_fAnd, e_fOr, e_fNot, e_fCC, e_fIf, e_gI, e_gR, e_aI, e_aR, e_aN, e_cV, e_cS, e_fNil, e_fAi, e_fAr, e_sSeq, e_sSkip, e_sSt, e_sSr, e_sInc, e_sRI, e_sRR, e_sRV, e_sIf, e_sCall, e_sPI, e_sPZ, e_sPR, e_sPO, e_sAI, e_sAZ, e_sAO, e_sAR, e_sPopI, e_sPopR, e_sCopy, e_mI, e_mZ, e_mR, e_mV, jx_L0, jAdd_n, jMul_n, z0, z1]))).trans ?_, fun b q => up_ne q, fun i q => by simp [up, q], by simp [up]⟩
      rw [← hv1]
      simp [e_fI, e_fLd, e_fLr, e_fB, e_fD, e_fC, e_fT, e_fAnd, e_fOr, e_fNot, e_fCC, e_fIf, e_gI, e_gR, e_aI, e_aR, e_aN, e_cV, e_cS, e_fNil, e_fAi, e_fAr, e_sSeq, e_sSkip, e_sSt, e_sSr, e_sInc, e_sRI, e_sRR, e_sRV, e_sIf, e_sCall, e_sPI, e_sPZ, e_sPR, e_sPO, e_sAI, e_sAZ, e_sAO, e_sAR, e_sPopI, e_sPopR, e_sCopy, e_mI, e_mZ, e_mR, e_mV, jx_L0, jAdd_n, jMul_n, z0, z1, gD hB hD, pD hB hD, t4]
  obtain ⟨τ1, s1, a1, a2, a3⟩ := s1
  have s2 : ∃ τ2, sIf (fT (fLd 3)) (sPO 0 4 jAdd (fLr 1) (fIf (fC jEq (gI 0 0 (fLr 1)) (fI (nI 12))) (fI (nI 2)) (fI (nI 1)))) sSkip [some (.ref (sa s 0)), some (.ref D), some (.int (bI (lgT A G).2.2.1)), some (.int (bI (lgT A G).2.2.2)), some (.int (nI 4)), x5, x6, x7] (hs n τ1) = some (.inl ([some (.ref (sa s 0)), some (.ref D), some (.int (bI (lgT A G).2.2.1)), some (.int (bI (lgT A G).2.2.2)), some (.int (nI 4)), x5, x6, x7], hs n τ2)) ∧ (∀ b, b ≠ D → τ2 b = τ1 b) ∧ (∀ i, i ≠ 4 → τ2 D i = τ1 D i) ∧ τ2 D 4 = v2 := by
    cases hb : (lgT A G).2.2.2 with
    | false =>
      rw [hb] at hv2
      exact ⟨τ1, (sIf_f (h1 := hs n τ1) (fT_b (by simp [e_fI, e_fLd, e_fLr, e_fB, e_fD, e_fC, e_fT, e_fAnd, e_fOr, e_fNot, e_fCC, e_fIf, e_gI, e_gR, e_aI, e_aR, e_aN, e_cV, e_cS, e_fNil, e_fAi, e_fAr, e_sSeq, e_sSkip, e_sSt, e_sSr, e_sInc, e_sRI, e_sRR, e_sRV, e_sIf, e_sCall, e_sPI, e_sPZ, e_sPR, e_sPO, e_sAI, e_sAZ, e_sAO, e_sAR, e_sPopI, e_sPopR, e_sCopy, e_mI, e_mZ, e_mR, e_mV, jx_L0, jAdd_n, jMul_n, z0, z1]))).trans rfl, fun _ _ => rfl, fun _ _ => rfl, by rw [a3]; exact hv2⟩
    | true =>
      rw [hb] at hv2
      refine ⟨up τ1 D 4 v2, (sIf_t (h1 := hs n τ1) (fT_b (by simp [e_fI, e_fLd, e_fLr, e_fB, e_fD, e_fC, e_fT, e_fAnd, e_fOr, e_fNot, e_fCC, e_fIf, e_gI, e_gR, e_aI, e_aR, e_aN, e_cV, e_cS, e_fNil, e_fAi, e_fAr, e_sSeq, e_sSkip, e_sSt, e_sSr, e_sInc, e_sRI, e_sRR, e_sRV, e_sIf, e_sCall, e_sPI, e_sPZ, e_sPR, e_sPO, e_sAI, e_sAZ, e_sAO, e_sAR, e_sPopI, e_sPopR, e_sCopy, e_mI, e_mZ, e_mR, e_mV, jx_L0, jAdd_n, jMul_n, z0, z1]))).trans ?_, fun b q => up_ne q, fun i q => by simp [up, q], by simp [up]⟩
      have t0' : τ1 D 0 = G 0 0 := (a2 0 (by omega)).trans t0
      rw [← hv2]
      by_cases q : G 0 0 = nI 12
      · simp [e_fI, e_fLd, e_fLr, e_fB, e_fD, e_fC, e_fT, e_fAnd, e_fOr, e_fNot, e_fCC, e_fIf, e_gI, e_gR, e_aI, e_aR, e_aN, e_cV, e_cS, e_fNil, e_fAi, e_fAr, e_sSeq, e_sSkip, e_sSt, e_sSr, e_sInc, e_sRI, e_sRR, e_sRV, e_sIf, e_sCall, e_sPI, e_sPZ, e_sPR, e_sPO, e_sAI, e_sAZ, e_sAO, e_sAR, e_sPopI, e_sPopR, e_sCopy, e_mI, e_mZ, e_mR, e_mV, jx_L0, jAdd_n, jMul_n, z0, z1, gD hB hD, pD hB hD, a3, t0', q, jEq]
      · simp [e_fI, e_fLd, e_fLr, e_fB, e_fD, e_fC, e_fT, e_fAnd, e_fOr, e_fNot, e_fCC, e_fIf, e_gI, e_gR, e_aI, e_aR, e_aN, e_cV, e_cS, e_fNil, e_fAi, e_fAr, e_sSeq, e_sSkip, e_sSt, e_sSr, e_sInc, e_sRI, e_sRR, e_sRV, e_sIf, e_sCall, e_sPI, e_sPZ, e_sPR, e_sPO, e_sAI, e_sAZ, e_sAO, e_sAR, e_sPopI, e_sPopR, e_sCopy, e_mI, e_mZ, e_mR, e_mV, jx_L0, jAdd_n, jMul_n, z0, z1, gD hB hD, pD hB hD, a3, t0', q, jEq]
  obtain ⟨τ2, s2, c1, c2, c3⟩ := s2
  obtain ⟨r1, r2, r3⟩ := hres τ2 (fun b q => (c1 b q).trans (a1 b q)) (fun i q => (c2 i q).trans (a2 i q)) c3
  refine ⟨τ2, mV_e (Nat.le_of_ble_eq_true rfl) ?_, r1, r2, r3⟩
  unfold P_S_performLogical
  refine (pre _).trans ?_
  rw [sSeq_l s1, sSeq_l s2]
  rfl
end PER
