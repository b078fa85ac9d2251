/-! the reference: a map of a station -/
def RM (σ : sg) (s d : Nat) (T : mpT) : Prop := RR σ s T.1 ∧ (∀ j, j < 8 → σ 49 (8 * d + j) = T.2.1 j) ∧ σ 26 30 = bI T.2.2.1 ∧ σ 26 31 = bI T.2.2.2
def MC (s d a i : Nat) : Prop := SC s a i ∨ a = 49 ∧ i / 8 = d ∨ a = 50 ∨ a = 26 ∧ (i = 30 ∨ i = 31)
theorem jAdd_s {b x y : Nat} (h : y ≤ b + x) : jAdd (nI b) (jSub (nI x) (nI y)) = nI (b + x - y) := by
  rw [← jSub_n h, ← jAdd_n]
  unfold jAdd jSub
  apply Int32.toBitVec_inj.mp
  simp only [Int32.toBitVec_add, Int32.toBitVec_sub]
  rw [BitVec.sub_eq_add_neg, BitVec.sub_eq_add_neg, BitVec.add_assoc]
theorem imax {a b : Nat} (ha : a < 2 ^ 31) (hb : b < 2 ^ 31) : (if jGt (nI a) (nI b) = true then nI a else nI b) = nI (max a b) := by
  by_cases q : b < a
  · rw [if_pos (show jGt (nI a) (nI b) = true from decide_eq_true ((nI_ltI hb ha).mpr q)), show max a b = a by omega]
  · rw [if_neg (by rw [show jGt (nI a) (nI b) = false from decide_eq_false (fun k => q ((nI_ltI hb ha).mp k))]; exact Bool.false_ne_true), show max a b = b by omega]
theorem imin {a b : Nat} (ha : a < 2 ^ 31) (hb : b < 2 ^ 31) : (if jLt (nI a) (nI b) = true then nI a else nI b) = nI (min a b) := by
  by_cases q : a < b
  · rw [if_pos (show jLt (nI a) (nI b) = true from decide_eq_true ((nI_ltI ha hb).mpr q)), show min a b = a by omega]
  · rw [if_neg (by rw [show jLt (nI a) (nI b) = false from decide_eq_false (fun k => q ((nI_ltI ha hb).mp k))]; exact Bool.false_ne_true), show min a b = b by omega]
section MAPR
variable {n s d : Nat} {σ A : sg}
theorem q_R_stays {b : Nat} (h : okB n) (hA : RR σ s A) (hs6 : s < 6) (hok : okA A) (hb : b < 128) (hmo : ∀ c, c < 4 → own (A 4) b = nI c → A 4 (32 + c * 4 + 2) = nI 2 ∨ A 4 (32 + c * 4 + 2) = nI 3) : G_R_stays [.ref 26, .int (nI s), .int (nI b)] (hs n σ) = some (hldA A b, hs n σ) := by
  refine mI_q (Nat.le_of_ble_eq_true rfl) ?_
  simp only [jx_L0, List.map_cons, List.map_nil, List.length_cons, List.length_nil, Nat.reduceAdd, Nat.reduceSub, List.replicate, List.cons_append, List.nil_append]
  unfold P_R_stays hldA
  refine wSeq (wS_l (by simp only [e_fI, e_fLd, e_fLr, e_fB, e_fD, e_fC, e_fT, e_fAnd, e_fOr, e_fNot, e_fCC, e_fIf, e_gI, e_gR, e_aI, e_aR, e_aN, e_cV, e_cS, e_fNil, e_fAi, e_fAr, e_sSeq, e_sSkip, e_sSt, e_sSr, e_sInc, e_sRI, e_sRR, e_sRV, e_sIf, e_sCall, e_sPI, e_sPZ, e_sPR, e_sPO, e_sAI, e_sAZ, e_sAO, e_sAR, e_sPopI, e_sPopR, e_sCopy, e_mI, e_mZ, e_mR, e_mV, jAdd_n, jMul_n, z0, z1, Option.bind_some, List.getElem?_cons_zero, List.getElem?_cons_succ, List.set_cons_zero, List.set_cons_succ, eq_self, if_true, ite_and, ite_or, ite_I, ite_bI, ite_bJ, bI_ne, bI_01, List.cons_append, List.nil_append, Bool.false_eq_true, if_false, kT26 h, q_R_channelOf h hA hs6]; rfl) ?_)
  rcases own_q hok.b hb with o | ⟨c, hc, o, ep, -, -, -, h8, -, hpb, hbq⟩
  · rw [o, if_pos rfl]
    refine wS_r (by simp only [e_fI, e_fLd, e_fLr, e_fB, e_fD, e_fC, e_fT, e_fAnd, e_fOr, e_fNot, e_fCC, e_fIf, e_gI, e_gR, e_aI, e_aR, e_aN, e_cV, e_cS, e_fNil, e_fAi, e_fAr, e_sSeq, e_sSkip, e_sSt, e_sSr, e_sInc, e_sRI, e_sRR, e_sRV, e_sIf, e_sCall, e_sPI, e_sPZ, e_sPR, e_sPO, e_sAI, e_sAZ, e_sAO, e_sAR, e_sPopI, e_sPopR, e_sCopy, e_mI, e_mZ, e_mR, e_mV, jAdd_n, jMul_n, z0, z1, Option.bind_some, List.getElem?_cons_zero, List.getElem?_cons_succ, List.set_cons_zero, List.set_cons_succ, eq_self, if_true, ite_and, ite_or, ite_I, ite_bI, ite_bJ, bI_ne, bI_01, List.cons_append, List.nil_append, Bool.false_eq_true, if_false, lm1, kT26 h, q_R_at h hA hs6 hb]; rfl) ?_
    exact ⟨rfl, rfl⟩
  · have ec : cN (A 4) b = c := by unfold cN; rw [o]; exact nC_n (by omega)
    rw [if_neg (by rw [o]; exact m1_ne hc), ec, o]
    have ce := q_R_cell (b := b) (p := pN (A 4) c) h hA hs6 hc ep hpb
    unfold hld
    rcases hmo c hc o with m | m
    · refine wS_r (by simp only [e_fI, e_fLd, e_fLr, e_fB, e_fD, e_fC, e_fT, e_fAnd, e_fOr, e_fNot, e_fCC, e_fIf, e_gI, e_gR, e_aI, e_aR, e_aN, e_cV, e_cS, e_fNil, e_fAi, e_fAr, e_sSeq, e_sSkip, e_sSt, e_sSr, e_sInc, e_sRI, e_sRR, e_sRV, e_sIf, e_sCall, e_sPI, e_sPZ, e_sPR, e_sPO, e_sAI, e_sAZ, e_sAO, e_sAR, e_sPopI, e_sPopR, e_sCopy, e_mI, e_mZ, e_mR, e_mV, jAdd_n, jMul_n, z0, z1, Option.bind_some, List.getElem?_cons_zero, List.getElem?_cons_succ, List.set_cons_zero, List.set_cons_succ, eq_self, if_true, ite_and, ite_or, ite_I, ite_bI, ite_bJ, bI_ne, bI_01, List.cons_append, List.nil_append, Bool.false_eq_true, if_false, lN0 (show c < 2 ^ 31 by omega), kT26 h, q_R_kind h hA hs6 hc, m, (show jEq (nI 2) (nI 3) = false by decide), gT26_5 h, ce, iT31 h (show 8 * (4 * s + c) + (b - pN (A 4) c) < 192 by omega), hA.fr (i := b - pN (A 4) c) hc (by omega)]; rfl) ?_
      rw [m, if_neg (by decide)]
      exact ⟨rfl, rfl⟩
    · refine wS_r (by simp only [e_fI, e_fLd, e_fLr, e_fB, e_fD, e_fC, e_fT, e_fAnd, e_fOr, e_fNot, e_fCC, e_fIf, e_gI, e_gR, e_aI, e_aR, e_aN, e_cV, e_cS, e_fNil, e_fAi, e_fAr, e_sSeq, e_sSkip, e_sSt, e_sSr, e_sInc, e_sRI, e_sRR, e_sRV, e_sIf, e_sCall, e_sPI, e_sPZ, e_sPR, e_sPO, e_sAI, e_sAZ, e_sAO, e_sAR, e_sPopI, e_sPopR, e_sCopy, e_mI, e_mZ, e_mR, e_mV, jAdd_n, jMul_n, z0, z1, Option.bind_some, List.getElem?_cons_zero, List.getElem?_cons_succ, List.set_cons_zero, List.set_cons_succ, eq_self, if_true, ite_and, ite_or, ite_I, ite_bI, ite_bJ, bI_ne, bI_01, List.cons_append, List.nil_append, Bool.false_eq_true, if_false, lN0 (show c < 2 ^ 31 by omega), kT26 h, q_R_kind h hA hs6 hc, m, (show jEq (nI 3) (nI 3) = true by decide), gT26_6 h, ce, iT32 h (show 8 * (4 * s + c) + (b - pN (A 4) c) < 192 by omega), hA.dn (i := b - pN (A 4) c) hc (by omega)]; rfl) ?_
      rw [m, if_pos (by decide)]
      exact ⟨rfl, rfl⟩
end MAPR
