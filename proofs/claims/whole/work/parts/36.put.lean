/-! bits are put into the data, and into a row -/
def bget (R : Nat → Int32) (t : Nat) : Int32 := jAnd (jShr (R (t / 8)) (nI (t % 8))) (nI 1)
def bput (X : Nat → Int32) (t : Nat) (v : Int32) : Nat → Int32 := fun j => if j = t / 8 then jOr (jAnd (X j) (jXor (jShl (nI 1) (nI (t % 8))) (-1))) (jShl v (nI (t % 8))) else X j
def rput (X : Nat → Int32) (t : Nat) (v : Int32) : Nat → Int32 := fun j => if j = t / 8 then jOr (X j) (jShl v (nI (t % 8))) else X j
/-- count bits of R from bit p on go into X from bit q on -/
def pid (R X : Nat → Int32) (p q : Nat) : Nat → Nat → Int32
  | 0 => X
  | i + 1 => bput (pid R X p q i) (q + i) (bget R (p + i))
def pir (R : Nat → Int32) (p q : Nat) : Nat → Nat → Int32
  | 0 => fun _ => nI 0
  | i + 1 => rput (pir R p q i) (q + i) (bget R (p + i))
def pim (q : Nat) : Nat → Nat → Int32
  | 0 => fun _ => nI 0
  | i + 1 => rput (pim q i) (q + i) (nI 1)
theorem bget_cg {R R' : Nat → Int32} {t : Nat} (h : R (t / 8) = R' (t / 8)) : bget R t = bget R' t := by unfold bget; rw [h]
section PUT
variable {n s D : Nat} {σ : sg}
theorem q_B_putIntoData {db mb ct : Nat} {R X : Nat → Int32} (h : okS n s) (hD : isD D) (e0 : σ (sa s 19) 0 = nI db) (e1 : σ (sa s 19) 1 = nI mb) (e2 : σ (sa s 19) 2 = nI ct) (hmb : mb < 9000) (hd : db + ct ≤ 64) (hR : ∀ j, j < 9 → σ (sa s 16) j = R j) (hX : ∀ j, j < 8 → σ (D + 1) j = X j) : ∃ τ, G_B_putIntoData [.ref (sa s 19), .ref (sa s 16), .ref (D + 1)] (hs n σ) = some (hs n τ) ∧ (∀ b, b ≠ D + 1 → τ b = σ b) ∧ ∀ j, j < 8 → τ (D + 1) j = pid R X (mb % 8) db ct j := by
  have hB := h.B
  have qf := q_B_firstByte (σ := σ) (n := n) h e1 hmb
  have hne : ∀ j, sa s j ≠ D + 1 := fun j => (sa_D hD).2
  obtain ⟨L', H', hl, ρ, x5, x6, x7, rfl, rfl, hF, hV⟩ := sWh_inv (fc := fC jLt (fLd 4) (gI 4 2 (fLr 0))) (fb := sSeq (sSeq (sSt 5 (fB jSub (fB jAdd (gI 4 1 (fLr 0)) (fLd 4)) (fLd 3))) (sSeq (sSt 6 (fB jAdd (gI 4 0 (fLr 0)) (fLd 4))) (sSeq (sSt 7 (fB jAnd (fB jShr (aI 50 (fLr 1) (fD jDiv (fLd 5) (fI (nI 8)))) (fD jRem (fLd 5) (fI (nI 8)))) (fI (nI 1)))) (sAI (fLr 2) (fD jDiv (fLd 6) (fI (nI 8))) (fB jOr (fB jAnd (aI 50 (fLr 2) (fD jDiv (fLd 6) (fI (nI 8)))) (fB jXor (fB jShl (fI (nI 1)) (fD jRem (fLd 6) (fI (nI 8)))) (fI (-1)))) (fB jShl (fLd 7) (fD jRem (fLd 6) (fI (nI 8))))))))) (sInc 4 (nI 1))) (I := fun i L H => ∃ ρ x5 x6 x7, L = [some (.ref (sa s 19)), some (.ref (sa s 16)), some (.ref (D + 1)), some (.int (nI (8 * (mb / 8)))), some (.int (nI i)), x5, x6, x7] ∧ H = hs n ρ ∧ (∀ a, a ≠ D + 1 → ρ a = σ a) ∧ (∀ j, j < 8 → ρ (D + 1) j = pid R X (mb % 8) db i j)) (e := ct) (fun i L H hI hi => by
      obtain ⟨ρ, x5, x6, x7, rfl, rfl, hF, -⟩ := hI
      have : ρ (sa s 19) 2 = nI ct := by rw [hF _ (hne 19)]; exact e2
      simp [e_fI, e_fLd, e_fLr, e_fB, e_fD, e_fC, e_fT, e_fAnd, e_fOr, e_fNot, e_fCC, e_fIf, e_gI, e_gR, e_aI, e_aR, e_aN, e_cV, e_cS, e_fNil, e_fAi, e_fAr, e_sSeq, e_sSkip, e_sSt, e_sSr, e_sInc, e_sRI, e_sRR, e_sRV, e_sIf, e_sCall, e_sPI, e_sPZ, e_sPR, e_sPO, e_sAI, e_sAZ, e_sAO, e_sAR, e_sPopI, e_sPopR, e_sCopy, e_mI, e_mZ, e_mR, e_mV, jx_L0, jAdd_n, jMul_n, z0, z1, gS19_2 h, this, jLt, nI_ltI (show i < 2 ^ 31 by omega) (show ct < 2 ^ 31 by omega)]) (fun i L H hI hi => by
      obtain ⟨ρ, x5, x6, x7, rfl, rfl, hF, hV⟩ := hI
      have f0 : ρ (sa s 19) 0 = nI db := by rw [hF _ (hne 19)]; exact e0
      have f1 : ρ (sa s 19) 1 = nI mb := by rw [hF _ (hne 19)]; exact e1
      have f16 : ρ (sa s 16) ((mb % 8 + i) / 8) = R ((mb % 8 + i) / 8) := by rw [hF _ (hne 16)]; exact hR _ (by omega)
      have fX := hV ((db + i) / 8) (by omega)
      have j1 : jSub (nI (mb + i)) (nI (8 * (mb / 8))) = nI (mb % 8 + i) := by
        rw [show mb % 8 + i = mb + i - 8 * (mb / 8) by omega]
        exact pk_sub (by omega)
      have j2 : jDiv (nI (mb % 8 + i)) (nI 8) = nI ((mb % 8 + i) / 8) := pk_div (by omega) (by decide) (by decide)
      have j3 : jRem (nI (mb % 8 + i)) (nI 8) = nI ((mb % 8 + i) % 8) := pk_rem (by omega) (by decide) (by decide)
      have j4 : jDiv (nI (db + i)) (nI 8) = nI ((db + i) / 8) := pk_div (by omega) (by decide) (by decide)
      have j5 : jRem (nI (db + i)) (nI 8) = nI ((db + i) % 8) := pk_rem (by omega) (by decide) (by decide)
      have i16 := iS16 (σ := ρ) h (show (mb % 8 + i) / 8 < 9 by omega)
      rw [f16] at i16
      have iX := iD (σ := ρ) hB hD (show (db + i) / 8 < 8 by omega)
      rw [fX] at iX
      have n8 : ¬ nI 8 = 0 := by decide
      generalize hv : jOr (jAnd (pid R X (mb % 8) db i ((db + i) / 8)) (jXor (jShl (nI 1) (nI ((db + i) % 8))) (-1))) (jShl (bget R (mb % 8 + i)) (nI ((db + i) % 8))) = v
      refine ⟨[some (.ref (sa s 19)), some (.ref (sa s 16)), some (.ref (D + 1)), some (.int (nI (8 * (mb / 8)))), some (.int (nI (i + 1))), some (.int (nI (mb % 8 + i))), some (.int (nI (db + i))), some (.int (bget R (mb % 8 + i)))], hs n (up ρ (D + 1) ((db + i) / 8) v), ?_, _, _, _, _, rfl, rfl, fun a q => by rw [up_ne q]; exact hF a q, fun j hj => ?_⟩
      · rw [e_sSeq]
        rw [sSeq_l (L1 := [some (.ref (sa s 19)), some (.ref (sa s 16)), some (.ref (D + 1)), some (.int (nI (8 * (mb / 8)))), some (.int (nI i)), some (.int (nI (mb % 8 + i))), x6, x7]) (h1 := hs n ρ) (by simp [e_fI, e_fLd, e_fLr, e_fB, e_fD, e_fC, e_fT, e_fAnd, e_fOr, e_fNot, e_fCC, e_fIf, e_gI, e_gR, e_aI, e_aR, e_aN, e_cV, e_cS, e_fNil, e_fAi, e_fAr, e_sSeq, e_sSkip, e_sSt, e_sSr, e_sInc, e_sRI, e_sRR, e_sRV, e_sIf, e_sCall, e_sPI, e_sPZ, e_sPR, e_sPO, e_sAI, e_sAZ, e_sAO, e_sAR, e_sPopI, e_sPopR, e_sCopy, e_mI, e_mZ, e_mR, e_mV, jx_L0, jAdd_n, jMul_n, z0, z1, gS19_1 h, f1, j1])]
        rw [sSeq_l (L1 := [some (.ref (sa s 19)), some (.ref (sa s 16)), some (.ref (D + 1)), some (.int (nI (8 * (mb / 8)))), some (.int (nI i)), some (.int (nI (mb % 8 + i))), some (.int (nI (db + i))), x7]) (h1 := hs n ρ) (by simp [e_fI, e_fLd, e_fLr, e_fB, e_fD, e_fC, e_fT, e_fAnd, e_fOr, e_fNot, e_fCC, e_fIf, e_gI, e_gR, e_aI, e_aR, e_aN, e_cV, e_cS, e_fNil, e_fAi, e_fAr, e_sSeq, e_sSkip, e_sSt, e_sSr, e_sInc, e_sRI, e_sRR, e_sRV, e_sIf, e_sCall, e_sPI, e_sPZ, e_sPR, e_sPO, e_sAI, e_sAZ, e_sAO, e_sAR, e_sPopI, e_sPopR, e_sCopy, e_mI, e_mZ, e_mR, e_mV, jx_L0, jAdd_n, jMul_n, z0, z1, gS19_0 h, f0])]
        rw [sSeq_l (L1 := [some (.ref (sa s 19)), some (.ref (sa s 16)), some (.ref (D + 1)), some (.int (nI (8 * (mb / 8)))), some (.int (nI i)), some (.int (nI (mb % 8 + i))), some (.int (nI (db + i))), some (.int (bget R (mb % 8 + i)))]) (h1 := hs n ρ) (by simp [e_fI, e_fLd, e_fLr, e_fB, e_fD, e_fC, e_fT, e_fAnd, e_fOr, e_fNot, e_fCC, e_fIf, e_gI, e_gR, e_aI, e_aR, e_aN, e_cV, e_cS, e_fNil, e_fAi, e_fAr, e_sSeq, e_sSkip, e_sSt, e_sSr, e_sInc, e_sRI, e_sRR, e_sRV, e_sIf, e_sCall, e_sPI, e_sPZ, e_sPR, e_sPO, e_sAI, e_sAZ, e_sAO, e_sAR, e_sPopI, e_sPopR, e_sCopy, e_mI, e_mZ, e_mR, e_mV, jx_L0, jAdd_n, jMul_n, z0, z1, n8, j2, j3, i16, bget])]
        simp [e_fI, e_fLd, e_fLr, e_fB, e_fD, e_fC, e_fT, e_fAnd, e_fOr, e_fNot, e_fCC, e_fIf, e_gI, e_gR, e_aI, e_aR, e_aN, e_cV, e_cS, e_fNil, e_fAi, e_fAr, e_sSeq, e_sSkip, e_sSt, e_sSr, e_sInc, e_sRI, e_sRR, e_sRV, e_sIf, e_sCall, e_sPI, e_sPZ, e_sPR, e_sPO, e_sAI, e_sAZ, e_sAO, e_sAR, e_sPopI, e_sPopR, e_sCopy, e_mI, e_mZ, e_mR, e_mV, jx_L0, jAdd_n, jMul_n, z0, z1, n8, j4, j5, iX, hv, wD hB hD (show (db + i) / 8 < 8 by omega), nI_add]
      · show _ = bput _ _ _ j
        unfold up bput
        by_cases q : j = (db + i) / 8
        · rw [if_pos ⟨rfl, q⟩, if_pos q, q]
          exact hv.symm
        · rw [if_neg (fun w => q w.2), if_neg q]
          exact hV j hj) 600 0 [some (.ref (sa s 19)), some (.ref (sa s 16)), some (.ref (D + 1)), some (.int (nI (8 * (mb / 8)))), some (.int (nI 0)), none, none, none] (hs n σ) (by omega) (by omega) ⟨σ, none, none, none, rfl, rfl, fun _ _ => rfl, hX⟩
  refine ⟨ρ, mV_e (Nat.le_of_ble_eq_true rfl) ?_, hF, hV⟩
  unfold P_B_putIntoData
  rw [sSeq_l (L1 := [some (.ref (sa s 19)), some (.ref (sa s 16)), some (.ref (D + 1)), some (.int (nI (8 * (mb / 8)))), none, none, none, none]) (h1 := hs n σ) (by simp [e_fI, e_fLd, e_fLr, e_fB, e_fD, e_fC, e_fT, e_fAnd, e_fOr, e_fNot, e_fCC, e_fIf, e_gI, e_gR, e_aI, e_aR, e_aN, e_cV, e_cS, e_fNil, e_fAi, e_fAr, e_sSeq, e_sSkip, e_sSt, e_sSr, e_sInc, e_sRI, e_sRR, e_sRV, e_sIf, e_sCall, e_sPI, e_sPZ, e_sPR, e_sPO, e_sAI, e_sAZ, e_sAO, e_sAR, e_sPopI, e_sPopR, e_sCopy, e_mI, e_mZ, e_mR, e_mV, jx_L0, jAdd_n, jMul_n, z0, z1, List.replicate, kS19 h, qf])]
  rw [sSeq_l ((sSeq_l (L1 := [some (.ref (sa s 19)), some (.ref (sa s 16)), some (.ref (D + 1)), some (.int (nI (8 * (mb / 8)))), some (.int (nI 0)), none, none, none]) (h1 := hs n σ) (by simp [e_fI, e_fLd, e_fLr, e_fB, e_fD, e_fC, e_fT, e_fAnd, e_fOr, e_fNot, e_fCC, e_fIf, e_gI, e_gR, e_aI, e_aR, e_aN, e_cV, e_cS, e_fNil, e_fAi, e_fAr, e_sSeq, e_sSkip, e_sSt, e_sSr, e_sInc, e_sRI, e_sRR, e_sRV, e_sIf, e_sCall, e_sPI, e_sPZ, e_sPR, e_sPO, e_sAI, e_sAZ, e_sAO, e_sAR, e_sPopI, e_sPopR, e_sCopy, e_mI, e_mZ, e_mR, e_mV, jx_L0, jAdd_n, jMul_n, z0, z1])).trans hl)]
  rfl
theorem fil_ne {a0 k a : Nat} {x : Int32} (h : a ≠ a0) : fil σ a0 k x a = σ a := by
  funext j
  unfold fil
  rw [if_neg (fun q => h q.1)]
theorem q_B_putIntoRow {db mb ct : Nat} {R : Nat → Int32} (h : okS n s) (e0 : σ (sa s 19) 0 = nI db) (e1 : σ (sa s 19) 1 = nI mb) (e2 : σ (sa s 19) 2 = nI ct) (hmb : mb < 9000) (hd : db + ct ≤ 64) (hR : ∀ j, j < 8 → σ (sa s 20) j = R j) : ∃ τ, G_B_putIntoRow [.ref (sa s 19), .ref (sa s 20), .ref (sa s 16), .ref (sa s 17)] (hs n σ) = some (hs n τ) ∧ (∀ b, b ≠ sa s 16 → b ≠ sa s 17 → τ b = σ b) ∧ ∀ j, j < 9 → τ (sa s 16) j = pir R db (mb % 8) ct j ∧ τ (sa s 17) j = pim (mb % 8) ct j := by
  have q16 := q_A_fill (n := n) (a := sa s 16) (N := 9) (σ := σ) (x := nI 0) (sa_lt h (by omega)) (by rw [sa, ks (by omega)]; rfl) (by rw [sa, ss (by omega)]; rfl) (by omega) (fun j _ => cS_I (by omega) (rS_n rfl))
  have q17 := q_A_fill (n := n) (a := sa s 17) (N := 9) (σ := fil σ (sa s 16) 9 (nI 0)) (x := nI 0) (sa_lt h (by omega)) (by rw [sa, ks (by omega)]; rfl) (by rw [sa, ss (by omega)]; rfl) (by omega) (fun j _ => cS_I (by omega) (rS_n rfl))
  generalize hφ : fil (fil σ (sa s 16) 9 (nI 0)) (sa s 17) 9 (nI 0) = φ at q17
  have hFφ : ∀ b, b ≠ sa s 16 → b ≠ sa s 17 → φ b = σ b := fun b q1 q2 => by rw [← hφ, fil_ne q2, fil_ne q1]
  have g1 : φ (sa s 19) 1 = nI mb := by rw [hFφ _ (sa_ne (by omega)) (sa_ne (by omega))]; exact e1
  have qf := q_B_firstByte (σ := φ) (n := n) h g1 hmb
  obtain ⟨L', H', hl, ρ, x6, x7, x8, rfl, rfl, hF, hV⟩ := sWh_inv (fc := fC jLt (fLd 5) (gI 4 2 (fLr 0))) (fb := sSeq (sSeq (sSt 6 (fB jAdd (gI 4 0 (fLr 0)) (fLd 5))) (sSeq (sSt 7 (fB jSub (fB jAdd (gI 4 1 (fLr 0)) (fLd 5)) (fLd 4))) (sSeq (sSt 8 (fB jAnd (fB jShr (aI 50 (fLr 1) (fD jDiv (fLd 6) (fI (nI 8)))) (fD jRem (fLd 6) (fI (nI 8)))) (fI (nI 1)))) (sSeq (sAO jOr (fLr 2) (fD jDiv (fLd 7) (fI (nI 8))) (fB jShl (fLd 8) (fD jRem (fLd 7) (fI (nI 8))))) (sAO jOr (fLr 3) (fD jDiv (fLd 7) (fI (nI 8))) (fB jShl (fI (nI 1)) (fD jRem (fLd 7) (fI (nI 8))))))))) (sInc 5 (nI 1))) (I := fun i L H => ∃ ρ x6 x7 x8, L = [some (.ref (sa s 19)), some (.ref (sa s 20)), some (.ref (sa s 16)), some (.ref (sa s 17)), some (.int (nI (8 * (mb / 8)))), some (.int (nI i)), x6, x7, x8] ∧ H = hs n ρ ∧ (∀ b, b ≠ sa s 16 → b ≠ sa s 17 → ρ b = σ b) ∧ ∀ j, j < 9 → ρ (sa s 16) j = pir R db (mb % 8) i j ∧ ρ (sa s 17) j = pim (mb % 8) i j) (e := ct) (fun i L H hI hi => by
      obtain ⟨ρ, x6, x7, x8, rfl, rfl, hF, -⟩ := hI
      have : ρ (sa s 19) 2 = nI ct := by rw [hF _ (sa_ne (by omega)) (sa_ne (by omega))]; exact e2
      simp [e_fI, e_fLd, e_fLr, e_fB, e_fD, e_fC, e_fT, e_fAnd, e_fOr, e_fNot, e_fCC, e_fIf, e_gI, e_gR, e_aI, e_aR, e_aN, e_cV, e_cS, e_fNil, e_fAi, e_fAr, e_sSeq, e_sSkip, e_sSt, e_sSr, e_sInc, e_sRI, e_sRR, e_sRV, e_sIf, e_sCall, e_sPI, e_sPZ, e_sPR, e_sPO, e_sAI, e_sAZ, e_sAO, e_sAR, e_sPopI, e_sPopR, e_sCopy, e_mI, e_mZ, e_mR, e_mV, jx_L0, jAdd_n, jMul_n, z0, z1, gS19_2 h, this, jLt, nI_ltI (show i < 2 ^ 31 by omega) (show ct < 2 ^ 31 by omega)]) (fun i L H hI hi => by
      obtain ⟨ρ, x6, x7, x8, rfl, rfl, hF, hV⟩ := hI
      have f0 : ρ (sa s 19) 0 = nI db := by rw [hF _ (sa_ne (by omega)) (sa_ne (by omega))]; exact e0
      have f1 : ρ (sa s 19) 1 = nI mb := by rw [hF _ (sa_ne (by omega)) (sa_ne (by omega))]; exact e1
      have f20 : ρ (sa s 20) ((db + i) / 8) = R ((db + i) / 8) := by rw [hF _ (sa_ne (by omega)) (sa_ne (by omega))]; exact hR _ (by omega)
      have fV := hV ((mb % 8 + i) / 8) (by omega)
      have j1 : jSub (nI (mb + i)) (nI (8 * (mb / 8))) = nI (mb % 8 + i) := by
        rw [show mb % 8 + i = mb + i - 8 * (mb / 8) by omega]
        exact pk_sub (by omega)
      have j2 : jDiv (nI (mb % 8 + i)) (nI 8) = nI ((mb % 8 + i) / 8) := pk_div (by omega) (by decide) (by decide)
      have j3 : jRem (nI (mb % 8 + i)) (nI 8) = nI ((mb % 8 + i) % 8) := pk_rem (by omega) (by decide) (by decide)
      have j4 : jDiv (nI (db + i)) (nI 8) = nI ((db + i) / 8) := pk_div (by omega) (by decide) (by decide)
      have j5 : jRem (nI (db + i)) (nI 8) = nI ((db + i) % 8) := pk_rem (by omega) (by decide) (by decide)
      have i20 := iS20 (σ := ρ) h (show (db + i) / 8 < 8 by omega)
      rw [f20] at i20
      have i16 := iS16 (σ := ρ) h (show (mb % 8 + i) / 8 < 9 by omega)
      rw [fV.1] at i16
      have n8 : ¬ nI 8 = 0 := by decide
      generalize hv : jOr (pir R db (mb % 8) i ((mb % 8 + i) / 8)) (jShl (bget R (db + i)) (nI ((mb % 8 + i) % 8))) = v
      generalize hw : jOr (pim (mb % 8) i ((mb % 8 + i) / 8)) (jShl (nI 1) (nI ((mb % 8 + i) % 8))) = w
      have i17 := iS17 (σ := up ρ (sa s 16) ((mb % 8 + i) / 8) v) h (show (mb % 8 + i) / 8 < 9 by omega)
      rw [up_ne (sa_ne (by omega)), fV.2] at i17
      refine ⟨[some (.ref (sa s 19)), some (.ref (sa s 20)), some (.ref (sa s 16)), some (.ref (sa s 17)), some (.int (nI (8 * (mb / 8)))), some (.int (nI (i + 1))), some (.int (nI (db + i))), some (.int (nI (mb % 8 + i))), some (.int (bget R (db + i)))], hs n (up (up ρ (sa s 16) ((mb % 8 + i) / 8) v) (sa s 17) ((mb % 8 + i) / 8) w), ?_, _, _, _, _, rfl, rfl, fun a q1 q2 => by rw [up_ne q2, up_ne q1]; exact hF a q1 q2, fun j hj => ⟨?_, ?_⟩⟩
      · rw [e_sSeq]
        rw [sSeq_l (L1 := [some (.ref (sa s 19)), some (.ref (sa s 20)), some (.ref (sa s 16)), some (.ref (sa s 17)), some (.int (nI (8 * (mb / 8)))), some (.int (nI i)), some (.int (nI (db + i))), x7, x8]) (h1 := hs n ρ) (by simp [e_fI, e_fLd, e_fLr, e_fB, e_fD, e_fC, e_fT, e_fAnd, e_fOr, e_fNot, e_fCC, e_fIf, e_gI, e_gR, e_aI, e_aR, e_aN, e_cV, e_cS, e_fNil, e_fAi, e_fAr, e_sSeq, e_sSkip, e_sSt, e_sSr, e_sInc, e_sRI, e_sRR, e_sRV, e_sIf, e_sCall, e_sPI, e_sPZ, e_sPR, e_sPO, e_sAI, e_sAZ, e_sAO, e_sAR, e_sPopI, e_sPopR, e_sCopy, e_mI, e_mZ, e_mR, e_mV, jx_L0, jAdd_n, jMul_n, z0, z1, gS19_0 h, f0])]
        rw [sSeq_l (L1 := [some (.ref (sa s 19)), some (.ref (sa s 20)), some (.ref (sa s 16)), some (.ref (sa s 17)), some (.int (nI (8 * (mb / 8)))), some (.int (nI i)), some (.int (nI (db + i))), some (.int (nI (mb % 8 + i))), x8]) (h1 := hs n ρ) (by simp [e_fI, e_fLd, e_fLr, e_fB, e_fD, e_fC, e_fT, e_fAnd, e_fOr, e_fNot, e_fCC, e_fIf, e_gI, e_gR, e_aI, e_aR, e_aN, e_cV, e_cS, e_fNil, e_fAi, e_fAr, e_sSeq, e_sSkip, e_sSt, e_sSr, e_sInc, e_sRI, e_sRR, e_sRV, e_sIf, e_sCall, e_sPI, e_sPZ, e_sPR, e_sPO, e_sAI, e_sAZ, e_sAO, e_sAR, e_sPopI, e_sPopR, e_sCopy, e_mI, e_mZ, e_mR, e_mV, jx_L0, jAdd_n, jMul_n, z0, z1, gS19_1 h, f1, j1])]
        rw [sSeq_l (L1 := [some (.ref (sa s 19)), some (.ref (sa s 20)), some (.ref (sa s 16)), some (.ref (sa s 17)), some (.int (nI (8 * (mb / 8)))), some (.int (nI i)), some (.int (nI (db + i))), some (.int (nI (mb % 8 + i))), some (.int (bget R (db + i)))]) (h1 := hs n ρ) (by simp [e_fI, e_fLd, e_fLr, e_fB, e_fD, e_fC, e_fT, e_fAnd, e_fOr, e_fNot, e_fCC, e_fIf, e_gI, e_gR, e_aI, e_aR, e_aN, e_cV, e_cS, e_fNil, e_fAi, e_fAr, e_sSeq, e_sSkip, e_sSt, e_sSr, e_sInc, e_sRI, e_sRR, e_sRV, e_sIf, e_sCall, e_sPI, e_sPZ, e_sPR, e_sPO, e_sAI, e_sAZ, e_sAO, e_sAR, e_sPopI, e_sPopR, e_sCopy, e_mI, e_mZ, e_mR, e_mV, jx_L0, jAdd_n, jMul_n, z0, z1, n8, j4, j5, i20, bget])]
        rw [sSeq_l (L1 := [some (.ref (sa s 19)), some (.ref (sa s 20)), some (.ref (sa s 16)), some (.ref (sa s 17)), some (.int (nI (8 * (mb / 8)))), some (.int (nI i)), some (.int (nI (db + i))), some (.int (nI (mb % 8 + i))), some (.int (bget R (db + i)))]) (h1 := hs n (up ρ (sa s 16) ((mb % 8 + i) / 8) v)) (by simp [e_fI, e_fLd, e_fLr, e_fB, e_fD, e_fC, e_fT, e_fAnd, e_fOr, e_fNot, e_fCC, e_fIf, e_gI, e_gR, e_aI, e_aR, e_aN, e_cV, e_cS, e_fNil, e_fAi, e_fAr, e_sSeq, e_sSkip, e_sSt, e_sSr, e_sInc, e_sRI, e_sRR, e_sRV, e_sIf, e_sCall, e_sPI, e_sPZ, e_sPR, e_sPO, e_sAI, e_sAZ, e_sAO, e_sAR, e_sPopI, e_sPopR, e_sCopy, e_mI, e_mZ, e_mR, e_mV, jx_L0, jAdd_n, jMul_n, z0, z1, -Nat.mod_add_mod, n8, j2, j3, i16, hv, wS16 h (show (mb % 8 + i) / 8 < 9 by omega)])]
        simp [e_fI, e_fLd, e_fLr, e_fB, e_fD, e_fC, e_fT, e_fAnd, e_fOr, e_fNot, e_fCC, e_fIf, e_gI, e_gR, e_aI, e_aR, e_aN, e_cV, e_cS, e_fNil, e_fAi, e_fAr, e_sSeq, e_sSkip, e_sSt, e_sSr, e_sInc, e_sRI, e_sRR, e_sRV, e_sIf, e_sCall, e_sPI, e_sPZ, e_sPR, e_sPO, e_sAI, e_sAZ, e_sAO, e_sAR, e_sPopI, e_sPopR, e_sCopy, e_mI, e_mZ, e_mR, e_mV, jx_L0, jAdd_n, jMul_n, z0, z1, -Nat.mod_add_mod, n8, j2, j3, i17, hw, wS17 h (show (mb % 8 + i) / 8 < 9 by omega), nI_add]
      · rw [up_ne (sa_ne (by omega))]
        show _ = rput _ _ _ j
        unfold up rput
        by_cases q : j = (mb % 8 + i) / 8
        · rw [if_pos ⟨rfl, q⟩, if_pos q, q]
          exact hv.symm
        · rw [if_neg (fun w => q w.2), if_neg q]
          exact (hV j hj).1
      · show _ = rput _ _ _ j
        unfold up rput
        by_cases q : j = (mb % 8 + i) / 8
        · rw [if_pos ⟨rfl, q⟩, if_pos q, q]
          exact hw.symm
        · rw [if_neg (fun w => q w.2), if_neg q, if_neg (fun w => q w.2)]
          exact (hV j hj).2) 600 0 [some (.ref (sa s 19)), some (.ref (sa s 20)), some (.ref (sa s 16)), some (.ref (sa s 17)), some (.int (nI (8 * (mb / 8)))), some (.int (nI 0)), none, none, none] (hs n φ) (by omega) (by omega) ⟨φ, none, none, none, rfl, rfl, hFφ, fun j hj => by
        rw [← hφ]
        refine ⟨?_, ?_⟩
        · rw [fil_ne (sa_ne (by omega))]
          unfold fil
          rw [if_pos ⟨rfl, hj⟩]
          rfl
        · unfold fil
          rw [if_pos ⟨rfl, hj⟩]
          rfl⟩
  refine ⟨ρ, mV_e (Nat.le_of_ble_eq_true rfl) ?_, hF, hV⟩
  unfold P_B_putIntoRow
  rw [sSeq_l (L1 := [some (.ref (sa s 19)), some (.ref (sa s 20)), some (.ref (sa s 16)), some (.ref (sa s 17)), none, none, none, none, none]) (h1 := hs n (fil σ (sa s 16) 9 (nI 0))) (by simp [e_fI, e_fLd, e_fLr, e_fB, e_fD, e_fC, e_fT, e_fAnd, e_fOr, e_fNot, e_fCC, e_fIf, e_gI, e_gR, e_aI, e_aR, e_aN, e_cV, e_cS, e_fNil, e_fAi, e_fAr, e_sSeq, e_sSkip, e_sSt, e_sSr, e_sInc, e_sRI, e_sRR, e_sRV, e_sIf, e_sCall, e_sPI, e_sPZ, e_sPR, e_sPO, e_sAI, e_sAZ, e_sAO, e_sAR, e_sPopI, e_sPopR, e_sCopy, e_mI, e_mZ, e_mR, e_mV, jx_L0, jAdd_n, jMul_n, z0, z1, List.replicate, q16])]
  rw [sSeq_l (L1 := [some (.ref (sa s 19)), some (.ref (sa s 20)), some (.ref (sa s 16)), some (.ref (sa s 17)), none, none, none, none, none]) (h1 := hs n φ) (by simp [e_fI, e_fLd, e_fLr, e_fB, e_fD, e_fC, e_fT, e_fAnd, e_fOr, e_fNot, e_fCC, e_fIf, e_gI, e_gR, e_aI, e_aR, e_aN, e_cV, e_cS, e_fNil, e_fAi, e_fAr, e_sSeq, e_sSkip, e_sSt, e_sSr, e_sInc, e_sRI, e_sRR, e_sRV, e_sIf, e_sCall, e_sPI, e_sPZ, e_sPR, e_sPO, e_sAI, e_sAZ, e_sAO, e_sAR, e_sPopI, e_sPopR, e_sCopy, e_mI, e_mZ, e_mR, e_mV, jx_L0, jAdd_n, jMul_n, z0, z1, q17])]
  rw [sSeq_l (L1 := [some (.ref (sa s 19)), some (.ref (sa s 20)), some (.ref (sa s 16)), some (.ref (sa s 17)), some (.int (nI (8 * (mb / 8)))), none, none, none, none]) (h1 := hs n φ) (by simp [e_fI, e_fLd, e_fLr, e_fB, e_fD, e_fC, e_fT, e_fAnd, e_fOr, e_fNot, e_fCC, e_fIf, e_gI, e_gR, e_aI, e_aR, e_aN, e_cV, e_cS, e_fNil, e_fAi, e_fAr, e_sSeq, e_sSkip, e_sSt, e_sSr, e_sInc, e_sRI, e_sRR, e_sRV, e_sIf, e_sCall, e_sPI, e_sPZ, e_sPR, e_sPO, e_sAI, e_sAZ, e_sAO, e_sAR, e_sPopI, e_sPopR, e_sCopy, e_mI, e_mZ, e_mR, e_mV, jx_L0, jAdd_n, jMul_n, z0, z1, kS19 h, qf])]
  rw [sSeq_l ((sSeq_l (L1 := [some (.ref (sa s 19)), some (.ref (sa s 20)), some (.ref (sa s 16)), some (.ref (sa s 17)), some (.int (nI (8 * (mb / 8)))), some (.int (nI 0)), none, none, none]) (h1 := hs n φ) (by simp [e_fI, e_fLd, e_fLr, e_fB, e_fD, e_fC, e_fT, e_fAnd, e_fOr, e_fNot, e_fCC, e_fIf, e_gI, e_gR, e_aI, e_aR, e_aN, e_cV, e_cS, e_fNil, e_fAi, e_fAr, e_sSeq, e_sSkip, e_sSt, e_sSr, e_sInc, e_sRI, e_sRR, e_sRV, e_sIf, e_sCall, e_sPI, e_sPZ, e_sPR, e_sPO, e_sAI, e_sAZ, e_sAO, e_sAR, e_sPopI, e_sPopR, e_sCopy, e_mI, e_mZ, e_mR, e_mV, jx_L0, jAdd_n, jMul_n, z0, z1])).trans hl)]
  rfl
end PUT
