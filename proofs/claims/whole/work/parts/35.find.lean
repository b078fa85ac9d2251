/-! which bits a map maps -/
theorem and7 {x : Nat} (h : x < 2 ^ 31) : jAnd (nI x) (nI 7) = nI (x % 8) := by
  unfold jAnd
  apply Int32.toBitVec_inj.mp
  rw [Int32.toBitVec_and]
  apply BitVec.eq_of_toNat_eq
  rw [BitVec.toNat_and]
  have hn : ∀ m, m < 2 ^ 31 → (nI m).toBitVec.toNat = m := fun m hm => by
    have : (nI m).toBitVec.toNat = m % 2 ^ 32 := by simp [nI, Int32.toBitVec_ofNat', BitVec.toNat_ofNat]
    rw [this]
    omega
  rw [hn x h, hn 7 (by decide), hn (x % 8) (by omega)]
  exact Nat.and_two_pow_sub_one_eq_mod x 3
def mN (F : Nat → Int32) (j : Nat) : Nat := (F j).toNatClampNeg
theorem mN_e {F : Nat → Int32} {j : Nat} (h : byt (F j)) : F j = nI (mN F j) ∧ mN F j < 256 := by
  obtain ⟨m, hm, e⟩ := h
  have : mN F j = m := by unfold mN; rw [e]; exact nC_n (by omega)
  rw [this]
  exact ⟨e, hm⟩
def nB (F : Nat → Int32) (m : Nat) : Nat := mN F (8 + m * 6 + 2)
def lgB (F : Nat → Int32) (m : Nat) : Nat := 8 * mN F (8 + m * 6) + mN F (8 + m * 6 + 1) % 8
def phB (F : Nat → Int32) (m : Nat) : Nat := 8 * mN F (8 + m * 6 + 3) + mN F (8 + m * 6 + 4) % 8
def loB (F : Nat → Int32) (m a : Nat) : Nat := max (lgB F m) (8 * a)
def hiB (F : Nat → Int32) (m a k : Nat) : Nat := min (lgB F m + nB F m) (8 * (a + k))
/-- the first bit in the data, the first bit in the memory, how many -/
def dbB (F : Nat → Int32) (m a : Nat) : Nat := loB F m a - 8 * a
def mbB (F : Nat → Int32) (m a : Nat) : Nat := phB F m + loB F m a - lgB F m
def ctB (F : Nat → Int32) (m a k : Nat) : Nat := hiB F m a k - loB F m a
def fnB (F : Nat → Int32) (m a k : Nat) : Bool := decide (1 ≤ nB F m ∧ nB F m ≤ 64 ∧ loB F m a < hiB F m a k ∧ mbB F m a + ctB F m a k - 1 < 1024)
theorem fnB_b {F : Nat → Int32} {m a k : Nat} (hk : k ≤ 8) (h : fnB F m a k = true) : dbB F m a + ctB F m a k ≤ 8 * k ∧ 1 ≤ ctB F m a k ∧ ctB F m a k ≤ 64 ∧ mbB F m a + ctB F m a k ≤ 1024 ∧ dbB F m a + ctB F m a k ≤ 64 := by
  have := of_decide_eq_true h
  unfold dbB ctB mbB at *
  unfold loB hiB at *
  omega
section FND
variable {n s D : Nat} {σ A : sg}
theorem q_B_firstByte {mb : Nat} (h : okS n s) (e1 : σ (sa s 19) 1 = nI mb) (hm : mb < 9000) : G_B_firstByte [.ref (sa s 19)] (hs n σ) = some (nI (mb / 8), hs n σ) := by
  refine mI_e (Nat.le_of_ble_eq_true rfl) ?_
  unfold P_B_firstByte
  refine sRI_e ?_
  have : jDiv (nI mb) (nI 8) = nI (mb / 8) := pk_div (by omega) (by decide) (by decide)
  simp [e_fI, e_fLd, e_fLr, e_fB, e_fD, e_fC, e_fT, e_fAnd, e_fOr, e_fNot, e_fCC, e_fIf, e_gI, e_gR, e_aI, e_aR, e_aN, e_cV, e_cS, e_fNil, e_fAi, e_fAr, e_sSeq, e_sSkip, e_sSt, e_sSr, e_sInc, e_sRI, e_sRR, e_sRV, e_sIf, e_sCall, e_sPI, e_sPZ, e_sPR, e_sPO, e_sAI, e_sAZ, e_sAO, e_sAR, e_sPopI, e_sPopR, e_sCopy, e_mI, e_mZ, e_mR, e_mV, jx_L0, jAdd_n, jMul_n, z0, z1, gS19_1 h, e1, show ¬ nI 8 = 0 by decide, this]
theorem q_B_lastByte {mb ct : Nat} (h : okS n s) (e1 : σ (sa s 19) 1 = nI mb) (e2 : σ (sa s 19) 2 = nI ct) (hm : mb < 9000) (hc : 1 ≤ ct) (hc2 : ct < 9000) : G_B_lastByte [.ref (sa s 19)] (hs n σ) = some (nI ((mb + ct - 1) / 8), hs n σ) := by
  refine mI_e (Nat.le_of_ble_eq_true rfl) ?_
  unfold P_B_lastByte
  refine sRI_e ?_
  have e3 : jSub (nI (mb + ct)) (nI 1) = nI (mb + ct - 1) := pk_sub (by omega)
  have : jDiv (nI (mb + ct - 1)) (nI 8) = nI ((mb + ct - 1) / 8) := pk_div (by omega) (by decide) (by decide)
  simp [e_fI, e_fLd, e_fLr, e_fB, e_fD, e_fC, e_fT, e_fAnd, e_fOr, e_fNot, e_fCC, e_fIf, e_gI, e_gR, e_aI, e_aR, e_aN, e_cV, e_cS, e_fNil, e_fAi, e_fAr, e_sSeq, e_sSkip, e_sSt, e_sSr, e_sInc, e_sRI, e_sRR, e_sRV, e_sIf, e_sCall, e_sPI, e_sPZ, e_sPR, e_sPO, e_sAI, e_sAZ, e_sAO, e_sAR, e_sPopI, e_sPopR, e_sCopy, e_mI, e_mZ, e_mR, e_mV, jx_L0, jAdd_n, jMul_n, z0, z1, gS19_1 h, gS19_2 h, e1, e2, show ¬ nI 8 = 0 by decide, e3, this]
theorem q_B_find {m a k : Nat} (h : okS n s) (hD : isD D) (hA : RC σ s A) (hok : okA A) (hm : m < 4) (ea : σ D 1 = nI a) (ek : σ D 3 = nI k) (ha : a < 65536) (hk : k ≤ 8) : ∃ τ, G_B_find [.ref (sa s 19), .ref (sa s 4), .int (nI m), .ref D] (hs n σ) = some (bI (fnB (A 4) m a k), hs n τ) ∧ (∀ b, b ≠ sa s 19 → τ b = σ b) ∧ (fnB (A 4) m a k = true → τ (sa s 19) 0 = nI (dbB (A 4) m a) ∧ τ (sa s 19) 1 = nI (mbB (A 4) m a) ∧ τ (sa s 19) 2 = nI (ctB (A 4) m a k)) := by
  have hB := h.B
  have hby : ∀ j, j < 128 → σ (sa s 4) j = nI (mN (A 4) j) ∧ mN (A 4) j < 256 := fun j hj => by
    rw [hA.mem]
    exact mN_e (hok.1 j hj)
  have b0 := hby (8 + m * 6) (by omega)
  have b1 := hby (8 + m * 6 + 1) (by omega)
  have b2 := hby (8 + m * 6 + 2) (by omega)
  have b3 := hby (8 + m * 6 + 3) (by omega)
  have b4 := hby (8 + m * 6 + 4) (by omega)
  have i0 := iS4 (σ := σ) h (show 8 + m * 6 < 128 by omega)
  have i1 := iS4 (σ := σ) h (show 8 + m * 6 + 1 < 128 by omega)
  have i2 := iS4 (σ := σ) h (show 8 + m * 6 + 2 < 128 by omega)
  have i3 := iS4 (σ := σ) h (show 8 + m * 6 + 3 < 128 by omega)
  have i4 := iS4 (σ := σ) h (show 8 + m * 6 + 4 < 128 by omega)
  rw [b0.1] at i0
  rw [b1.1] at i1
  rw [b2.1] at i2
  rw [b3.1] at i3
  rw [b4.1] at i4
  have a1 := and7 (show mN (A 4) (8 + m * 6 + 1) < 2 ^ 31 by omega)
  have a4 := and7 (show mN (A 4) (8 + m * 6 + 4) < 2 ^ 31 by omega)
  have step0 : ∀ g, sSeq (sSt 4 (fB jAdd (fI (nI 8)) (fB jMul (fLd 2) (fI (nI 6))))) (sSeq (sSt 5 (aI 50 (fLr 1) (fB jAdd (fLd 4) (fI (nI 2))))) g) (jx_L0 10 [.ref (sa s 19), .ref (sa s 4), .int (nI m), .ref D]) (hs n σ) = g [some (.ref (sa s 19)), some (.ref (sa s 4)), some (.int (nI m)), some (.ref D), some (.int (nI (8 + m * 6))), some (.int (nI (nB (A 4) m))), none, none, none, none] (hs n σ) := fun g => by
    rw [sSeq_l (L1 := [some (.ref (sa s 19)), some (.ref (sa s 4)), some (.int (nI m)), some (.ref D), some (.int (nI (8 + m * 6))), none, none, none, none, none]) (h1 := hs n σ) (by simp [e_fI, e_fLd, e_fLr, e_fB, e_fD, e_fC, e_fT, e_fAnd, e_fOr, e_fNot, e_fCC, e_fIf, e_gI, e_gR, e_aI, e_aR, e_aN, e_cV, e_cS, e_fNil, e_fAi, e_fAr, e_sSeq, e_sSkip, e_sSt, e_sSr, e_sInc, e_sRI, e_sRR, e_sRV, e_sIf, e_sCall, e_sPI, e_sPZ, e_sPR, e_sPO, e_sAI, e_sAZ, e_sAO, e_sAR, e_sPopI, e_sPopR, e_sCopy, e_mI, e_mZ, e_mR, e_mV, jx_L0, jAdd_n, jMul_n, z0, z1, List.replicate])]
    rw [sSeq_l (L1 := [some (.ref (sa s 19)), some (.ref (sa s 4)), some (.int (nI m)), some (.ref D), some (.int (nI (8 + m * 6))), some (.int (nI (nB (A 4) m))), none, none, none, none]) (h1 := hs n σ) (by simp [e_fI, e_fLd, e_fLr, e_fB, e_fD, e_fC, e_fT, e_fAnd, e_fOr, e_fNot, e_fCC, e_fIf, e_gI, e_gR, e_aI, e_aR, e_aN, e_cV, e_cS, e_fNil, e_fAi, e_fAr, e_sSeq, e_sSkip, e_sSt, e_sSr, e_sInc, e_sRI, e_sRR, e_sRV, e_sIf, e_sCall, e_sPI, e_sPZ, e_sPR, e_sPO, e_sAI, e_sAZ, e_sAO, e_sAR, e_sPopI, e_sPopR, e_sCopy, e_mI, e_mZ, e_mR, e_mV, jx_L0, jAdd_n, jMul_n, z0, z1, i2, nB])]
  have hnb : nB (A 4) m < 256 := b2.2
  have cn : fOr (fC jLt (fLd 5) (fI (nI 1))) (fC jGt (fLd 5) (fI (nI 64))) [some (.ref (sa s 19)), some (.ref (sa s 4)), some (.int (nI m)), some (.ref D), some (.int (nI (8 + m * 6))), some (.int (nI (nB (A 4) m))), none, none, none, none] (hs n σ) = some (decide (nB (A 4) m < 1) || decide (64 < nB (A 4) m), hs n σ) := fOr_e (by simp [e_fI, e_fLd, e_fLr, e_fB, e_fD, e_fC, e_fT, e_fAnd, e_fOr, e_fNot, e_fCC, e_fIf, e_gI, e_gR, e_aI, e_aR, e_aN, e_cV, e_cS, e_fNil, e_fAi, e_fAr, e_sSeq, e_sSkip, e_sSt, e_sSr, e_sInc, e_sRI, e_sRR, e_sRV, e_sIf, e_sCall, e_sPI, e_sPZ, e_sPR, e_sPO, e_sAI, e_sAZ, e_sAO, e_sAR, e_sPopI, e_sPopR, e_sCopy, e_mI, e_mZ, e_mR, e_mV, jx_L0, jAdd_n, jMul_n, z0, z1, jLt, nI_ltI (show nB (A 4) m < 2 ^ 31 by omega) (show 1 < 2 ^ 31 by decide)]) (by simp [e_fI, e_fLd, e_fLr, e_fB, e_fD, e_fC, e_fT, e_fAnd, e_fOr, e_fNot, e_fCC, e_fIf, e_gI, e_gR, e_aI, e_aR, e_aN, e_cV, e_cS, e_fNil, e_fAi, e_fAr, e_sSeq, e_sSkip, e_sSt, e_sSr, e_sInc, e_sRI, e_sRR, e_sRV, e_sIf, e_sCall, e_sPI, e_sPZ, e_sPR, e_sPO, e_sAI, e_sAZ, e_sAO, e_sAR, e_sPopI, e_sPopR, e_sCopy, e_mI, e_mZ, e_mR, e_mV, jx_L0, jAdd_n, jMul_n, z0, z1, jGt, nI_ltI (show 64 < 2 ^ 31 by decide) (show nB (A 4) m < 2 ^ 31 by omega)])
  by_cases hn : 1 ≤ nB (A 4) m ∧ nB (A 4) m ≤ 64
  · rw [show (decide (nB (A 4) m < 1) || decide (64 < nB (A 4) m)) = false by simp; omega] at cn
    have hlg : lgB (A 4) m < 2048 := by unfold lgB; omega
    have hph : phB (A 4) m < 2048 := by unfold phB; omega
    have elo : jMax (nI (lgB (A 4) m)) (nI (8 * a)) = nI (loB (A 4) m a) := jMax_n (by omega) (by omega)
    have ehi : jMin (nI (lgB (A 4) m + nB (A 4) m)) (nI (8 * (a + k))) = nI (hiB (A 4) m a k) := jMin_n (by omega) (by omega)
    have hlo : lgB (A 4) m ≤ loB (A 4) m a ∧ 8 * a ≤ loB (A 4) m a ∧ loB (A 4) m a < 600000 := by unfold loB; omega
    have hhi : hiB (A 4) m a k < 3000 := by unfold hiB; omega
    have ed : jSub (nI (loB (A 4) m a)) (nI (8 * a)) = nI (dbB (A 4) m a) := pk_sub hlo.2.1
    have em : jSub (nI (phB (A 4) m + loB (A 4) m a)) (nI (lgB (A 4) m)) = nI (mbB (A 4) m a) := pk_sub (by omega)
    generalize hct : jSub (nI (hiB (A 4) m a k)) (nI (loB (A 4) m a)) = ct
    have hcti : ct.toInt = (hiB (A 4) m a k : Int) - loB (A 4) m a := by rw [← hct]; exact pk_sub_toInt (by omega) (by omega)
    generalize hτ : up (up (up σ (sa s 19) 0 (nI (dbB (A 4) m a))) (sa s 19) 1 (nI (mbB (A 4) m a))) (sa s 19) 2 ct = τ
    have hF : ∀ b, b ≠ sa s 19 → τ b = σ b := fun b hb => by rw [← hτ, up_ne hb, up_ne hb, up_ne hb]
    have t0 : τ (sa s 19) 0 = nI (dbB (A 4) m a) := by rw [← hτ]; simp [up]
    have t1 : τ (sa s 19) 1 = nI (mbB (A 4) m a) := by rw [← hτ]; simp [up]
    have t2 : τ (sa s 19) 2 = ct := by rw [← hτ]; simp [up]
    have hgt : jGt ct 0 = decide (loB (A 4) m a < hiB (A 4) m a k) := by
      unfold jGt
      apply decide_eq_decide.mpr
      rw [Int32.lt_iff_toInt_lt, hcti]
      simp
    have cl : fAnd (fC jGt (gI 4 2 (fLr 0)) (fI 0)) (fC jLt (cV 4 (fAr (fLr 0) (fNil)) G_B_lastByte) (fI (nI 128))) [some (.ref (sa s 19)), some (.ref (sa s 4)), some (.int (nI m)), some (.ref D), some (.int (nI (8 + m * 6))), some (.int (nI (nB (A 4) m))), some (.int (nI (lgB (A 4) m))), some (.int (nI (phB (A 4) m))), some (.int (nI (loB (A 4) m a))), some (.int (nI (hiB (A 4) m a k)))] (hs n τ) = some (fnB (A 4) m a k, hs n τ) := by
      by_cases q : loB (A 4) m a < hiB (A 4) m a k
      · have ect : ct = nI (ctB (A 4) m a k) := by rw [← hct]; exact pk_sub (by omega)
        have q1 := q_B_lastByte (σ := τ) (mb := mbB (A 4) m a) (ct := ctB (A 4) m a k) h t1 (by rw [t2, ect]) (by unfold mbB; omega) (by unfold ctB; omega) (by unfold ctB; omega)
        rw [fAnd_e (x := true) (y := decide ((mbB (A 4) m a + ctB (A 4) m a k - 1) / 8 < 128)) (by simp [e_fI, e_fLd, e_fLr, e_fB, e_fD, e_fC, e_fT, e_fAnd, e_fOr, e_fNot, e_fCC, e_fIf, e_gI, e_gR, e_aI, e_aR, e_aN, e_cV, e_cS, e_fNil, e_fAi, e_fAr, e_sSeq, e_sSkip, e_sSt, e_sSr, e_sInc, e_sRI, e_sRR, e_sRV, e_sIf, e_sCall, e_sPI, e_sPZ, e_sPR, e_sPO, e_sAI, e_sAZ, e_sAO, e_sAR, e_sPopI, e_sPopR, e_sCopy, e_mI, e_mZ, e_mR, e_mV, jx_L0, jAdd_n, jMul_n, z0, z1, gS19_2 h, t2, hgt, q]) (by simp [e_fI, e_fLd, e_fLr, e_fB, e_fD, e_fC, e_fT, e_fAnd, e_fOr, e_fNot, e_fCC, e_fIf, e_gI, e_gR, e_aI, e_aR, e_aN, e_cV, e_cS, e_fNil, e_fAi, e_fAr, e_sSeq, e_sSkip, e_sSt, e_sSr, e_sInc, e_sRI, e_sRR, e_sRV, e_sIf, e_sCall, e_sPI, e_sPZ, e_sPR, e_sPO, e_sAI, e_sAZ, e_sAO, e_sAR, e_sPopI, e_sPopR, e_sCopy, e_mI, e_mZ, e_mR, e_mV, jx_L0, jAdd_n, jMul_n, z0, z1, kS19 h, q1, jLt, nI_ltI (show (mbB (A 4) m a + ctB (A 4) m a k - 1) / 8 < 2 ^ 31 by unfold mbB ctB; omega) (show 128 < 2 ^ 31 by decide)])]
        congr 2
        unfold fnB
        rw [Bool.true_and]
        apply decide_eq_decide.mpr
        omega
      · have : fnB (A 4) m a k = false := decide_eq_false (fun w => q w.2.2.1)
        rw [this]
        simp [e_fI, e_fLd, e_fLr, e_fB, e_fD, e_fC, e_fT, e_fAnd, e_fOr, e_fNot, e_fCC, e_fIf, e_gI, e_gR, e_aI, e_aR, e_aN, e_cV, e_cS, e_fNil, e_fAi, e_fAr, e_sSeq, e_sSkip, e_sSt, e_sSr, e_sInc, e_sRI, e_sRR, e_sRV, e_sIf, e_sCall, e_sPI, e_sPZ, e_sPR, e_sPO, e_sAI, e_sAZ, e_sAO, e_sAR, e_sPopI, e_sPopR, e_sCopy, e_mI, e_mZ, e_mR, e_mV, jx_L0, jAdd_n, jMul_n, z0, z1, gS19_2 h, t2, hgt, q]
    refine ⟨τ, mZ_e (Nat.le_of_ble_eq_true rfl) ?_, hF, fun w => ⟨t0, t1, ?_⟩⟩
    · unfold P_B_find
      rw [step0, sSeq_l ((sIf_f cn).trans rfl)]
      rw [sSeq_l (L1 := [some (.ref (sa s 19)), some (.ref (sa s 4)), some (.int (nI m)), some (.ref D), some (.int (nI (8 + m * 6))), some (.int (nI (nB (A 4) m))), some (.int (nI (lgB (A 4) m))), none, none, none]) (h1 := hs n σ) (by simp [e_fI, e_fLd, e_fLr, e_fB, e_fD, e_fC, e_fT, e_fAnd, e_fOr, e_fNot, e_fCC, e_fIf, e_gI, e_gR, e_aI, e_aR, e_aN, e_cV, e_cS, e_fNil, e_fAi, e_fAr, e_sSeq, e_sSkip, e_sSt, e_sSr, e_sInc, e_sRI, e_sRR, e_sRV, e_sIf, e_sCall, e_sPI, e_sPZ, e_sPR, e_sPO, e_sAI, e_sAZ, e_sAO, e_sAR, e_sPopI, e_sPopR, e_sCopy, e_mI, e_mZ, e_mR, e_mV, jx_L0, jAdd_n, jMul_n, z0, z1, i0, i1, a1, lgB])]
      rw [sSeq_l (L1 := [some (.ref (sa s 19)), some (.ref (sa s 4)), some (.int (nI m)), some (.ref D), some (.int (nI (8 + m * 6))), some (.int (nI (nB (A 4) m))), some (.int (nI (lgB (A 4) m))), some (.int (nI (phB (A 4) m))), none, none]) (h1 := hs n σ) (by simp [e_fI, e_fLd, e_fLr, e_fB, e_fD, e_fC, e_fT, e_fAnd, e_fOr, e_fNot, e_fCC, e_fIf, e_gI, e_gR, e_aI, e_aR, e_aN, e_cV, e_cS, e_fNil, e_fAi, e_fAr, e_sSeq, e_sSkip, e_sSt, e_sSr, e_sInc, e_sRI, e_sRR, e_sRV, e_sIf, e_sCall, e_sPI, e_sPZ, e_sPR, e_sPO, e_sAI, e_sAZ, e_sAO, e_sAR, e_sPopI, e_sPopR, e_sCopy, e_mI, e_mZ, e_mR, e_mV, jx_L0, jAdd_n, jMul_n, z0, z1, i3, i4, a4, phB])]
      rw [sSeq_l (L1 := [some (.ref (sa s 19)), some (.ref (sa s 4)), some (.int (nI m)), some (.ref D), some (.int (nI (8 + m * 6))), some (.int (nI (nB (A 4) m))), some (.int (nI (lgB (A 4) m))), some (.int (nI (phB (A 4) m))), some (.int (nI (loB (A 4) m a))), none]) (h1 := hs n σ) (by simp [e_fI, e_fLd, e_fLr, e_fB, e_fD, e_fC, e_fT, e_fAnd, e_fOr, e_fNot, e_fCC, e_fIf, e_gI, e_gR, e_aI, e_aR, e_aN, e_cV, e_cS, e_fNil, e_fAi, e_fAr, e_sSeq, e_sSkip, e_sSt, e_sSr, e_sInc, e_sRI, e_sRR, e_sRV, e_sIf, e_sCall, e_sPI, e_sPZ, e_sPR, e_sPO, e_sAI, e_sAZ, e_sAO, e_sAR, e_sPopI, e_sPopR, e_sCopy, e_mI, e_mZ, e_mR, e_mV, jx_L0, jAdd_n, jMul_n, z0, z1, gD hB hD, ea, elo])]
      rw [sSeq_l (L1 := [some (.ref (sa s 19)), some (.ref (sa s 4)), some (.int (nI m)), some (.ref D), some (.int (nI (8 + m * 6))), some (.int (nI (nB (A 4) m))), some (.int (nI (lgB (A 4) m))), some (.int (nI (phB (A 4) m))), some (.int (nI (loB (A 4) m a))), some (.int (nI (hiB (A 4) m a k)))]) (h1 := hs n σ) (by simp [e_fI, e_fLd, e_fLr, e_fB, e_fD, e_fC, e_fT, e_fAnd, e_fOr, e_fNot, e_fCC, e_fIf, e_gI, e_gR, e_aI, e_aR, e_aN, e_cV, e_cS, e_fNil, e_fAi, e_fAr, e_sSeq, e_sSkip, e_sSt, e_sSr, e_sInc, e_sRI, e_sRR, e_sRV, e_sIf, e_sCall, e_sPI, e_sPZ, e_sPR, e_sPO, e_sAI, e_sAZ, e_sAO, e_sAR, e_sPopI, e_sPopR, e_sCopy, e_mI, e_mZ, e_mR, e_mV, jx_L0, jAdd_n, jMul_n, z0, z1, gD hB hD, ea, ek, ehi])]
      have hD19 : D ≠ sa s 19 := (sa_D hD).1.symm
      have u1 : up σ (sa s 19) 0 (nI (dbB (A 4) m a)) D = σ D := up_ne hD19
      rw [sSeq_l (L1 := [some (.ref (sa s 19)), some (.ref (sa s 4)), some (.int (nI m)), some (.ref D), some (.int (nI (8 + m * 6))), some (.int (nI (nB (A 4) m))), some (.int (nI (lgB (A 4) m))), some (.int (nI (phB (A 4) m))), some (.int (nI (loB (A 4) m a))), some (.int (nI (hiB (A 4) m a k)))]) (h1 := hs n (up σ (sa s 19) 0 (nI (dbB (A 4) m a)))) (by simp [e_fI, e_fLd, e_fLr, e_fB, e_fD, e_fC, e_fT, e_fAnd, e_fOr, e_fNot, e_fCC, e_fIf, e_gI, e_gR, e_aI, e_aR, e_aN, e_cV, e_cS, e_fNil, e_fAi, e_fAr, e_sSeq, e_sSkip, e_sSt, e_sSr, e_sInc, e_sRI, e_sRR, e_sRV, e_sIf, e_sCall, e_sPI, e_sPZ, e_sPR, e_sPO, e_sAI, e_sAZ, e_sAO, e_sAR, e_sPopI, e_sPopR, e_sCopy, e_mI, e_mZ, e_mR, e_mV, jx_L0, jAdd_n, jMul_n, z0, z1, gD hB hD, ea, ed, pS19_0 h])]
      rw [sSeq_l (L1 := [some (.ref (sa s 19)), some (.ref (sa s 4)), some (.int (nI m)), some (.ref D), some (.int (nI (8 + m * 6))), some (.int (nI (nB (A 4) m))), some (.int (nI (lgB (A 4) m))), some (.int (nI (phB (A 4) m))), some (.int (nI (loB (A 4) m a))), some (.int (nI (hiB (A 4) m a k)))]) (h1 := hs n (up (up σ (sa s 19) 0 (nI (dbB (A 4) m a))) (sa s 19) 1 (nI (mbB (A 4) m a)))) (by simp [e_fI, e_fLd, e_fLr, e_fB, e_fD, e_fC, e_fT, e_fAnd, e_fOr, e_fNot, e_fCC, e_fIf, e_gI, e_gR, e_aI, e_aR, e_aN, e_cV, e_cS, e_fNil, e_fAi, e_fAr, e_sSeq, e_sSkip, e_sSt, e_sSr, e_sInc, e_sRI, e_sRR, e_sRV, e_sIf, e_sCall, e_sPI, e_sPZ, e_sPR, e_sPO, e_sAI, e_sAZ, e_sAO, e_sAR, e_sPopI, e_sPopR, e_sCopy, e_mI, e_mZ, e_mR, e_mV, jx_L0, jAdd_n, jMul_n, z0, z1, em, pS19_1 h])]
      rw [sSeq_l (L1 := [some (.ref (sa s 19)), some (.ref (sa s 4)), some (.int (nI m)), some (.ref D), some (.int (nI (8 + m * 6))), some (.int (nI (nB (A 4) m))), some (.int (nI (lgB (A 4) m))), some (.int (nI (phB (A 4) m))), some (.int (nI (loB (A 4) m a))), some (.int (nI (hiB (A 4) m a k)))]) (h1 := hs n τ) (by simp [e_fI, e_fLd, e_fLr, e_fB, e_fD, e_fC, e_fT, e_fAnd, e_fOr, e_fNot, e_fCC, e_fIf, e_gI, e_gR, e_aI, e_aR, e_aN, e_cV, e_cS, e_fNil, e_fAi, e_fAr, e_sSeq, e_sSkip, e_sSt, e_sSr, e_sInc, e_sRI, e_sRR, e_sRV, e_sIf, e_sCall, e_sPI, e_sPZ, e_sPR, e_sPO, e_sAI, e_sAZ, e_sAO, e_sAR, e_sPopI, e_sPopR, e_sCopy, e_mI, e_mZ, e_mR, e_mV, jx_L0, jAdd_n, jMul_n, z0, z1, hct, hτ, pS19_2 h])]
      exact sRI_e (fIf_b cl)
    · rw [t2, ← hct]
      have := of_decide_eq_true w
      exact pk_sub (by omega)
  · rw [show (decide (nB (A 4) m < 1) || decide (64 < nB (A 4) m)) = true by simp; omega] at cn
    have e : fnB (A 4) m a k = false := decide_eq_false (fun w => hn ⟨w.1, w.2.1⟩)
    rw [e]
    refine ⟨σ, mZ_e (Nat.le_of_ble_eq_true rfl) ?_, fun _ _ => rfl, (fun q => by cases q)⟩
    unfold P_B_find
    rw [step0, bI_f]
    exact sSeq_r ((sIf_t cn).trans rfl)
end FND
