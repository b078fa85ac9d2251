/-! a datagram at a station, any command: all together -/
section PG
variable {n s D : Nat} {σ A G : sg}
theorem pf_12 (h : okS n s) (hD : isD D) (hA : RC σ s A) (hok : okA A) (hG : RD σ D G) (k : okG G) : ∃ τ, sSeq (sIf (fC jEq (gI 0 1 (fLr 1)) (fI 0)) (sCall (cV 6 (fAr (fLr 0) (fAr (fLr 1) (fNil))) G_S_performDirect)) sSkip) (sPI 0 1 (fLr 1) (fB jAnd (fB jAdd (gI 0 1 (fLr 1)) (fI (nI 1))) (fI (nI 65535)))) [some (.ref (sa s 0)), some (.ref D)] (hs n σ) = some (.inl ([some (.ref (sa s 0)), some (.ref D)], hs n τ)) ∧ RC τ s (dirP A G (jEq (G 0 1) 0)).1 ∧ RD τ D (incG (dirP A G (jEq (G 0 1) 0)).2) ∧ (∀ a, (∀ j, j < 22 → a ≠ sa s j) → a ≠ D → a ≠ D + 1 → τ a = σ a) := by
  have hB := h.B
  have ea : σ D 1 = G 0 1 := hG.1 1 (by omega)
  have cA : fC jEq (gI 0 1 (fLr 1)) (fI 0) [some (.ref (sa s 0)), some (.ref D)] (hs n σ) = some (jEq (G 0 1) 0, hs n σ) := by simp [e_fI, e_fLd, e_fLr, e_fB, e_fD, e_fC, e_fT, e_fAnd, e_fOr, e_fNot, e_fCC, e_fIf, e_gI, e_gR, e_aI, e_aR, e_aN, e_cV, e_cS, e_fNil, e_fAi, e_fAr, e_sSeq, e_sSkip, e_sSt, e_sSr, e_sInc, e_sRI, e_sRR, e_sRV, e_sIf, e_sCall, e_sPI, e_sPZ, e_sPR, e_sPO, e_sAI, e_sAZ, e_sAO, e_sAR, e_sPopI, e_sPopR, e_sCopy, e_mI, e_mZ, e_mR, e_mV, jx_L0, jAdd_n, jMul_n, z0, z1, gD hB hD, ea]
  obtain ⟨τ, q, r1, r2, r3⟩ := q_dirP h hD hA hok hG k cA
  obtain ⟨τ', q', t1, t2, t3⟩ := q_inc (a0 := σ) h hD r1 r2 r3
  exact ⟨τ', (sSeq_l q).trans q', t1, t2, t3⟩
theorem pf_45 (h : okS n s) (hD : isD D) (hA : RC σ s A) (hok : okA A) (hG : RD σ D G) (k : okG G) : ∃ τ, sIf (fC jEq (gI 0 1 (fLr 1)) (aI 50 (gR 5 0 (gR 6 4 (fLr 0))) (fI (nI 0)))) (sCall (cV 6 (fAr (fLr 0) (fAr (fLr 1) (fNil))) G_S_performDirect)) sSkip [some (.ref (sa s 0)), some (.ref D)] (hs n σ) = some (.inl ([some (.ref (sa s 0)), some (.ref D)], hs n τ)) ∧ RC τ s (dirP A G (jEq (G 0 1) (A 4 0))).1 ∧ RD τ D (dirP A G (jEq (G 0 1) (A 4 0))).2 ∧ (∀ a, (∀ j, j < 22 → a ≠ sa s j) → a ≠ D → a ≠ D + 1 → τ a = σ a) := by
  have hB := h.B
  have ea : σ D 1 = G 0 1 := hG.1 1 (by omega)
  have em : σ (sa s 4) 0 = A 4 0 := by rw [hA.mem]
  have i0 := iS4 (σ := σ) (n := n) h (show 0 < 128 by omega)
  exact q_dirP h hD hA hok hG k (by simp [e_fI, e_fLd, e_fLr, e_fB, e_fD, e_fC, e_fT, e_fAnd, e_fOr, e_fNot, e_fCC, e_fIf, e_gI, e_gR, e_aI, e_aR, e_aN, e_cV, e_cS, e_fNil, e_fAi, e_fAr, e_sSeq, e_sSkip, e_sSt, e_sSr, e_sInc, e_sRI, e_sRR, e_sRV, e_sIf, e_sCall, e_sPI, e_sPZ, e_sPR, e_sPO, e_sAI, e_sAZ, e_sAO, e_sAR, e_sPopI, e_sPopR, e_sCopy, e_mI, e_mZ, e_mR, e_mV, jx_L0, jAdd_n, jMul_n, z0, z1, gD hB hD, ea, gS0_4 h, gS3_0 h, i0, em])
theorem pf_e {c : Nat} (e0 : G 0 0 = nI c) (hc : c < 100) : pf A G = if c = 1 ∨ c = 2 then ((dirP A G (jEq (G 0 1) 0)).1, incG (dirP A G (jEq (G 0 1) 0)).2) else if c = 4 ∨ c = 5 then dirP A G (jEq (G 0 1) (A 4 0)) else if c = 7 ∨ c = 8 then ((dirP A G true).1, incG (dirP A G true).2) else ((lgT A G).1, lgG A G) := by
  have ne : ∀ b : Nat, b < 100 → (nI c = nI b) = (c = b) := fun b hb => propext (nI_eq (by omega) (by omega))
  unfold pf
  rw [e0]
  simp only [ne 1 (by omega), ne 2 (by omega), ne 4 (by omega), ne 5 (by omega), ne 7 (by omega), ne 8 (by omega)]
end PG
