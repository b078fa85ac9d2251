/-! a logical datagram at a station -/
section LOG
variable {n s D : Nat} {σ A G : sg}
abbrev lgR : jx_fS := sIf (fAnd (fT (fLd 6)) (fT (cV 5 (fAr (gR 6 4 (fLr 0)) (fAi (cV 4 (fAr (gR 6 5 (fLr 0)) (fNil)) G_B_firstByte) (fAi (cV 4 (fAr (gR 6 5 (fLr 0)) (fNil)) G_B_lastByte) (fNil)))) G_E_readRow))) (sSeq (sCall (cV 4 (fAr (gR 6 5 (fLr 0)) (fAr (gR 5 4 (gR 6 4 (fLr 0))) (fAr (gR 0 5 (fLr 1)) (fNil)))) G_B_putIntoData)) (sSt 2 (fI (nI 1)))) sSkip
abbrev lgW : jx_fS := sIf (fT (fLd 7)) (sSeq (sCall (cV 4 (fAr (gR 6 5 (fLr 0)) (fAr (gR 6 6 (fLr 0)) (fAr (gR 5 4 (gR 6 4 (fLr 0))) (fAr (gR 5 5 (gR 6 4 (fLr 0))) (fNil))))) G_B_putIntoRow)) (sIf (fT (cV 5 (fAr (gR 6 4 (fLr 0)) (fAi (cV 4 (fAr (gR 6 5 (fLr 0)) (fNil)) G_B_firstByte) (fAi (cV 4 (fAr (gR 6 5 (fLr 0)) (fNil)) G_B_lastByte) (fNil)))) G_E_writeRow)) (sSt 3 (fI (nI 1))) sSkip)) sSkip
/-- what a map's reading or writing may change -/
def Fm (σ τ : sg) (s D : Nat) : Prop := ∀ b, b ≠ D + 1 → b ≠ sa s 16 → b ≠ sa s 17 → b ≠ sa s 18 → (∀ j, 3 ≤ j → j < 16 → b ≠ sa s j) → τ b = σ b
theorem lg_R {τ : sg} {T : mpT} {w : Int32} {a k m : Nat} {x3 x4 x5 x7 : Option Value} (h : okS n s) (hD : isD D) (hR : RC τ s T.1) (hok : okA T.1) (hX : ∀ j, j < 8 → τ (D + 1) j = T.2.1 j) (hf : fnB (T.1 4) m a k = true) (hk : k ≤ 8) (e0 : τ (sa s 19) 0 = nI (dbB (T.1 4) m a)) (e1 : τ (sa s 19) 1 = nI (mbB (T.1 4) m a)) (e2 : τ (sa s 19) 2 = nI (ctB (T.1 4) m a k)) : ∃ τ', lgR [some (.ref (sa s 0)), some (.ref D), some (.int (bI T.2.2.1)), x3, x4, x5, some (.int (bI (rdsA T.1 w m))), x7] (hs n τ) = some (.inl ([some (.ref (sa s 0)), some (.ref D), some (.int (bI (mpR w a k m T).2.2.1)), x3, x4, x5, some (.int (bI (rdsA T.1 w m))), x7], hs n τ')) ∧ RC τ' s (mpR w a k m T).1 ∧ (∀ j, j < 8 → τ' (D + 1) j = (mpR w a k m T).2.1 j) ∧ Fm τ τ' s D := by
  obtain ⟨b1, b2, b3, b4, b5⟩ := fnB_b hk hf
  obtain ⟨r1, r2, r3⟩ := mrow hk hf
  have hB := h.B
  have q1 := q_B_firstByte (σ := τ) (n := n) h e1 (by omega)
  have q2 := q_B_lastByte (σ := τ) (n := n) h e1 e2 (by omega) b2 (by omega)
  have hne : ∀ j, sa s j ≠ D + 1 := fun j => (sa_D hD).2
  unfold mpR
  cases hr : rdsA T.1 w m with
  | false =>
    refine ⟨τ, ?_, hR, hX, fun _ _ _ _ _ _ => rfl⟩
    unfold lgR
    rw [sIf_f (h1 := hs n τ) (by simp [e_fI, e_fLd, e_fLr, e_fB, e_fD, e_fC, e_fT, e_fAnd, e_fOr, e_fNot, e_fCC, e_fIf, e_gI, e_gR, e_aI, e_aR, e_aN, e_cV, e_cS, e_fNil, e_fAi, e_fAr, e_sSeq, e_sSkip, e_sSt, e_sSr, e_sInc, e_sRI, e_sRR, e_sRV, e_sIf, e_sCall, e_sPI, e_sPZ, e_sPR, e_sPO, e_sAI, e_sAZ, e_sAO, e_sAR, e_sPopI, e_sPopR, e_sCopy, e_mI, e_mZ, e_mR, e_mV, jx_L0, jAdd_n, jMul_n, z0, z1, bI, jNe])]
    rfl
  | true =>
    rw [Bool.true_and]
    obtain ⟨ρ, hq, hFq, hRq, hV⟩ := q_readA (f := mfB (T.1 4) m a) (l := mlB (T.1 4) m a k) h hR hok r1 r2 r3
    have ct : fAnd (fT (fLd 6)) (fT (cV 5 (fAr (gR 6 4 (fLr 0)) (fAi (cV 4 (fAr (gR 6 5 (fLr 0)) (fNil)) G_B_firstByte) (fAi (cV 4 (fAr (gR 6 5 (fLr 0)) (fNil)) G_B_lastByte) (fNil)))) G_E_readRow)) [some (.ref (sa s 0)), some (.ref D), some (.int (bI T.2.2.1)), x3, x4, x5, some (.int (bI true)), x7] (hs n τ) = some (alwR (T.1 4) (T.1 15) (mfB (T.1 4) m a) (mlB (T.1 4) m a k) false, hs n ρ) := by
      rw [e_fAnd, fT_b (x := true) (h1 := hs n τ) (by simp [e_fI, e_fLd, e_fLr, e_fB, e_fD, e_fC, e_fT, e_fAnd, e_fOr, e_fNot, e_fCC, e_fIf, e_gI, e_gR, e_aI, e_aR, e_aN, e_cV, e_cS, e_fNil, e_fAi, e_fAr, e_sSeq, e_sSkip, e_sSt, e_sSr, e_sInc, e_sRI, e_sRR, e_sRV, e_sIf, e_sCall, e_sPI, e_sPZ, e_sPR, e_sPO, e_sAI, e_sAZ, e_sAO, e_sAR, e_sPopI, e_sPopR, e_sCopy, e_mI, e_mZ, e_mR, e_mV, jx_L0, jAdd_n, jMul_n, z0, z1]), Option.bind_some, if_pos rfl]
      refine fT_b ?_
      have hq' := hq
      unfold mfB mlB at hq'
      simp [e_fI, e_fLd, e_fLr, e_fB, e_fD, e_fC, e_fT, e_fAnd, e_fOr, e_fNot, e_fCC, e_fIf, e_gI, e_gR, e_aI, e_aR, e_aN, e_cV, e_cS, e_fNil, e_fAi, e_fAr, e_sSeq, e_sSkip, e_sSt, e_sSr, e_sInc, e_sRI, e_sRR, e_sRV, e_sIf, e_sCall, e_sPI, e_sPZ, e_sPR, e_sPO, e_sAI, e_sAZ, e_sAO, e_sAR, e_sPopI, e_sPopR, e_sCopy, e_mI, e_mZ, e_mR, e_mV, jx_L0, jAdd_n, jMul_n, z0, z1, gS0_4 h, gS0_5 h, kS3 h, kS19 h, q1, q2, hq']
      rfl
    cases hal : alwR (T.1 4) (T.1 15) (mfB (T.1 4) m a) (mlB (T.1 4) m a k) false with
    | false =>
      rw [hal] at ct hRq
      rw [if_neg (by decide)] at hRq
      refine ⟨ρ, ?_, hRq, fun j hj => ?_, fun b c1 c2 _ c4 c5 => hFq b c2 c4 c5⟩
      · unfold lgR
        rw [sIf_f ct]
        rfl
      · rw [hFq _ (hne 16).symm (hne 18).symm (fun j _ _ => (hne j).symm)]
        exact hX j hj
    | true =>
      have hv := hV hal
      rw [hal] at ct hRq
      rw [if_pos rfl] at hRq
      rw [if_pos rfl]
      have f19 : ρ (sa s 19) = τ (sa s 19) := hFq _ (sa_ne (by omega)) (sa_ne (by omega)) (fun j _ _ => sa_ne (by omega))
      have fD : ρ (D + 1) = τ (D + 1) := hFq _ (hne 16).symm (hne 18).symm (fun j _ _ => (hne j).symm)
      obtain ⟨φ, hp, hFp, hVp⟩ := q_B_putIntoData (n := n) (σ := ρ) (s := s) (D := D) (R := ρ (sa s 16)) (X := T.2.1) h hD (by rw [f19]; exact e0) (by rw [f19]; exact e1) (by rw [f19]; exact e2) (by omega) b5 (fun _ _ => rfl) (by rw [fD]; exact hX)
      refine ⟨φ, ?_, hRq.keep (fun j _ _ _ _ _ _ => hFp _ (hne j)), fun j hj => ?_, fun b c1 c2 _ c4 c5 => (hFp b c1).trans (hFq b c2 c4 c5)⟩
      · unfold lgR
        rw [sIf_t ct]
        rw [sSeq_l (L1 := [some (.ref (sa s 0)), some (.ref D), some (.int (bI T.2.2.1)), x3, x4, x5, some (.int (bI true)), x7]) (h1 := hs n φ) (by simp [e_fI, e_fLd, e_fLr, e_fB, e_fD, e_fC, e_fT, e_fAnd, e_fOr, e_fNot, e_fCC, e_fIf, e_gI, e_gR, e_aI, e_aR, e_aN, e_cV, e_cS, e_fNil, e_fAi, e_fAr, e_sSeq, e_sSkip, e_sSt, e_sSr, e_sInc, e_sRI, e_sRR, e_sRV, e_sIf, e_sCall, e_sPI, e_sPZ, e_sPR, e_sPO, e_sAI, e_sAZ, e_sAO, e_sAR, e_sPopI, e_sPopR, e_sCopy, e_mI, e_mZ, e_mR, e_mV, jx_L0, jAdd_n, jMul_n, z0, z1, gS0_4 h, gS0_5 h, gS3_4 h, gD5 hB hD, kS19 h, hp])]
        simp [e_fI, e_fLd, e_fLr, e_fB, e_fD, e_fC, e_fT, e_fAnd, e_fOr, e_fNot, e_fCC, e_fIf, e_gI, e_gR, e_aI, e_aR, e_aN, e_cV, e_cS, e_fNil, e_fAi, e_fAr, e_sSeq, e_sSkip, e_sSt, e_sSr, e_sInc, e_sRI, e_sRR, e_sRV, e_sIf, e_sCall, e_sPI, e_sPZ, e_sPR, e_sPO, e_sAI, e_sAZ, e_sAO, e_sAR, e_sPopI, e_sPopR, e_sCopy, e_mI, e_mZ, e_mR, e_mV, jx_L0, jAdd_n, jMul_n, z0, z1, bI_t]
      · rw [hVp j hj]
        dsimp only
        rw [pid_cg (R' := fun j => rvA T.1 (mfB (T.1 4) m a) (mfB (T.1 4) m a + j)) _ (fun i hi => hv _ (by unfold mfB mlB; omega))]
theorem lg_W {τ : sg} {T : mpT} {F C : Nat → Int32} {w : Bool} {a k m : Nat} {x2 x4 x5 x6 : Option Value} (h : okS n s) (hD : isD D) (hR : RC τ s T.1) (hok : okA T.1) (hX : ∀ j, j < 8 → τ (D + 1) j = T.2.1 j) (hC : ∀ j, j < 8 → τ (sa s 20) j = C j) (hf : fnB F m a k = true) (hk : k ≤ 8) (e0 : τ (sa s 19) 0 = nI (dbB F m a)) (e1 : τ (sa s 19) 1 = nI (mbB F m a)) (e2 : τ (sa s 19) 2 = nI (ctB F m a k)) : ∃ τ', lgW [some (.ref (sa s 0)), some (.ref D), x2, some (.int (bI T.2.2.2)), x4, x5, x6, some (.int (bI w))] (hs n τ) = some (.inl ([some (.ref (sa s 0)), some (.ref D), x2, some (.int (bI (mpW C F w a k m T).2.2.2)), x4, x5, x6, some (.int (bI w))], hs n τ')) ∧ RC τ' s (mpW C F w a k m T).1 ∧ (∀ j, j < 8 → τ' (D + 1) j = (mpW C F w a k m T).2.1 j) ∧ Fm τ τ' s D := by
  obtain ⟨b1, b2, b3, b4, b5⟩ := fnB_b hk hf
  obtain ⟨r1, r2, r3⟩ := mrow hk hf
  have hB := h.B
  have hne : ∀ j, sa s j ≠ D + 1 := fun j => (sa_D hD).2
  unfold mpW
  cases w with
  | false =>
    refine ⟨τ, ?_, hR, hX, fun _ _ _ _ _ _ => rfl⟩
    unfold lgW
    rw [sIf_f (h1 := hs n τ) (by simp [e_fI, e_fLd, e_fLr, e_fB, e_fD, e_fC, e_fT, e_fAnd, e_fOr, e_fNot, e_fCC, e_fIf, e_gI, e_gR, e_aI, e_aR, e_aN, e_cV, e_cS, e_fNil, e_fAi, e_fAr, e_sSeq, e_sSkip, e_sSt, e_sSr, e_sInc, e_sRI, e_sRR, e_sRV, e_sIf, e_sCall, e_sPI, e_sPZ, e_sPR, e_sPO, e_sAI, e_sAZ, e_sAO, e_sAR, e_sPopI, e_sPopR, e_sCopy, e_mI, e_mZ, e_mR, e_mV, jx_L0, jAdd_n, jMul_n, z0, z1, bI, jNe])]
    rfl
  | true =>
    rw [Bool.true_and]
    obtain ⟨ρ, hp, hFp, hVp⟩ := q_B_putIntoRow (n := n) (σ := τ) (s := s) (R := C) h e0 e1 e2 (by omega) b5 hC
    have hRρ : RC ρ s T.1 := hR.keep (fun j _ c1 c2 _ _ _ => hFp _ (sa_ne c1) (sa_ne c2))
    have f19 : ρ (sa s 19) = τ (sa s 19) := hFp _ (sa_ne (by omega)) (sa_ne (by omega))
    have q1 := q_B_firstByte (σ := ρ) (n := n) h (by rw [f19]; exact e1) (by omega)
    have q2 := q_B_lastByte (σ := ρ) (n := n) h (by rw [f19]; exact e1) (by rw [f19]; exact e2) (by omega) b2 (by omega)
    obtain ⟨φ, hq, hFq, hRq⟩ := q_E_writeRow (f := mfB F m a) (l := mlB F m a k) h hRρ hok r1 r2 r3 (fun j hj => by rw [(hVp j (by omega)).1]; exact byt_pir _ j)
    rw [cW_cg (r' := pir C (dbB F m a) (mbB F m a % 8) (ctB F m a k)) (m' := pim (mbB F m a % 8) (ctB F m a k)) _ (fun j hj => hVp j (by omega))] at hRq
    have hFφ : Fm τ φ s D := fun b _ c2 c3 c4 c5 => (hFq b c4 c5).trans (hFp b c2 c3)
    have hXφ : ∀ j, j < 8 → φ (D + 1) j = T.2.1 j := fun j hj => by
      rw [hFq _ (hne 18).symm (fun j _ _ => (hne j).symm), hFp _ (hne 16).symm (hne 17).symm]
      exact hX j hj
    have ct : fT (cV 5 (fAr (gR 6 4 (fLr 0)) (fAi (cV 4 (fAr (gR 6 5 (fLr 0)) (fNil)) G_B_firstByte) (fAi (cV 4 (fAr (gR 6 5 (fLr 0)) (fNil)) G_B_lastByte) (fNil)))) G_E_writeRow) [some (.ref (sa s 0)), some (.ref D), x2, some (.int (bI T.2.2.2)), x4, x5, x6, some (.int (bI true))] (hs n ρ) = some (alwR (T.1 4) (T.1 15) (mfB F m a) (mlB F m a k) true, hs n φ) := by
      refine fT_b ?_
      have hq' := hq
      unfold mfB mlB at hq'
      simp [e_fI, e_fLd, e_fLr, e_fB, e_fD, e_fC, e_fT, e_fAnd, e_fOr, e_fNot, e_fCC, e_fIf, e_gI, e_gR, e_aI, e_aR, e_aN, e_cV, e_cS, e_fNil, e_fAi, e_fAr, e_sSeq, e_sSkip, e_sSt, e_sSr, e_sInc, e_sRI, e_sRR, e_sRV, e_sIf, e_sCall, e_sPI, e_sPZ, e_sPR, e_sPO, e_sAI, e_sAZ, e_sAO, e_sAR, e_sPopI, e_sPopR, e_sCopy, e_mI, e_mZ, e_mR, e_mV, jx_L0, jAdd_n, jMul_n, z0, z1, gS0_4 h, gS0_5 h, kS3 h, kS19 h, q1, q2, hq']
      rfl
    have pre : ∀ g, sSeq (sCall (cV 4 (fAr (gR 6 5 (fLr 0)) (fAr (gR 6 6 (fLr 0)) (fAr (gR 5 4 (gR 6 4 (fLr 0))) (fAr (gR 5 5 (gR 6 4 (fLr 0))) (fNil))))) G_B_putIntoRow)) g [some (.ref (sa s 0)), some (.ref D), x2, some (.int (bI T.2.2.2)), x4, x5, x6, some (.int (bI true))] (hs n τ) = g [some (.ref (sa s 0)), some (.ref D), x2, some (.int (bI T.2.2.2)), x4, x5, x6, some (.int (bI true))] (hs n ρ) := fun g => by
      rw [sSeq_l (L1 := [some (.ref (sa s 0)), some (.ref D), x2, some (.int (bI T.2.2.2)), x4, x5, x6, some (.int (bI true))]) (h1 := hs n ρ) (by simp [e_fI, e_fLd, e_fLr, e_fB, e_fD, e_fC, e_fT, e_fAnd, e_fOr, e_fNot, e_fCC, e_fIf, e_gI, e_gR, e_aI, e_aR, e_aN, e_cV, e_cS, e_fNil, e_fAi, e_fAr, e_sSeq, e_sSkip, e_sSt, e_sSr, e_sInc, e_sRI, e_sRR, e_sRV, e_sIf, e_sCall, e_sPI, e_sPZ, e_sPR, e_sPO, e_sAI, e_sAZ, e_sAO, e_sAR, e_sPopI, e_sPopR, e_sCopy, e_mI, e_mZ, e_mR, e_mV, jx_L0, jAdd_n, jMul_n, z0, z1, gS0_4 h, gS0_5 h, gS0_6 h, gS3_4 h, gS3_5 h, kS19 h, hp])]
    unfold lgW
    cases hal : alwR (T.1 4) (T.1 15) (mfB F m a) (mlB F m a k) true with
    | false =>
      rw [hal] at ct hRq
      rw [if_neg (by decide)] at hRq
      refine ⟨φ, ?_, hRq, hXφ, hFφ⟩
      rw [sIf_t (h1 := hs n τ) (by simp [e_fI, e_fLd, e_fLr, e_fB, e_fD, e_fC, e_fT, e_fAnd, e_fOr, e_fNot, e_fCC, e_fIf, e_gI, e_gR, e_aI, e_aR, e_aN, e_cV, e_cS, e_fNil, e_fAi, e_fAr, e_sSeq, e_sSkip, e_sSt, e_sSr, e_sInc, e_sRI, e_sRR, e_sRV, e_sIf, e_sCall, e_sPI, e_sPZ, e_sPR, e_sPO, e_sAI, e_sAZ, e_sAO, e_sAR, e_sPopI, e_sPopR, e_sCopy, e_mI, e_mZ, e_mR, e_mV, jx_L0, jAdd_n, jMul_n, z0, z1, bI, jNe]), pre, sIf_f ct]
      rfl
    | true =>
      rw [hal] at ct hRq
      rw [if_pos rfl] at hRq
      rw [if_pos rfl]
      refine ⟨φ, ?_, hRq, hXφ, hFφ⟩
      rw [sIf_t (h1 := hs n τ) (by simp [e_fI, e_fLd, e_fLr, e_fB, e_fD, e_fC, e_fT, e_fAnd, e_fOr, e_fNot, e_fCC, e_fIf, e_gI, e_gR, e_aI, e_aR, e_aN, e_cV, e_cS, e_fNil, e_fAi, e_fAr, e_sSeq, e_sSkip, e_sSt, e_sSr, e_sInc, e_sRI, e_sRR, e_sRV, e_sIf, e_sCall, e_sPI, e_sPZ, e_sPR, e_sPO, e_sAI, e_sAZ, e_sAO, e_sAR, e_sPopI, e_sPopR, e_sCopy, e_mI, e_mZ, e_mR, e_mV, jx_L0, jAdd_n, jMul_n, z0, z1, bI, jNe]), pre, sIf_t ct]
      simp [e_fI, e_fLd, e_fLr, e_fB, e_fD, e_fC, e_fT, e_fAnd, e_fOr, e_fNot, e_fCC, e_fIf, e_gI, e_gR, e_aI, e_aR, e_aN, e_cV, e_cS, e_fNil, e_fAi, e_fAr, e_sSeq, e_sSkip, e_sSt, e_sSr, e_sInc, e_sRI, e_sRR, e_sRV, e_sIf, e_sCall, e_sPI, e_sPZ, e_sPR, e_sPO, e_sAI, e_sAZ, e_sAO, e_sAR, e_sPopI, e_sPopR, e_sCopy, e_mI, e_mZ, e_mR, e_mV, jx_L0, jAdd_n, jMul_n, z0, z1, bI_t]
end LOG
