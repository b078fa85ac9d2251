/-! the reference: a tick of a station, first half -/
/-- a station's state m and code k, as its bytes show them -/
def mdA (A : sg) (m k : Nat) : Prop := (m = 1 ∨ m = 2 ∨ m = 4 ∨ m = 8) ∧ k < 256 ∧ A 4 2 = nI (if k = 0 then m else m + 16) ∧ A 4 3 = nI k
/-- as the reference keeps them -/
def MD (σ : sg) (s m k : Nat) : Prop := σ 34 s = nI m ∧ σ 35 s = bI (decide (¬ k = 0)) ∧ σ 36 s = nI k
/-- the two bytes as they were before the tick -/
def st23 (A : sg) (y2 y3 : Int32) : sg := up (up A 4 2 y2) 4 3 y3
def NC (s a i : Nat) : Prop := SC s a i ∨ 34 ≤ a ∧ a ≤ 36 ∧ i = s
section TRN
variable {A B : sg} {y2 y3 : Int32}
theorem s23_4 {i : Nat} (h2 : i ≠ 2) (h3 : i ≠ 3) : st23 A y2 y3 4 i = A 4 i := by
  unfold st23 up
  rw [if_neg (fun e => h3 e.2), if_neg (fun e => h2 e.2)]
theorem s23_j {j : Nat} (h : j ≠ 4) : st23 A y2 y3 j = A j := (up_ne h).trans (up_ne h)
theorem s23_bc {x c : Int32} : st23 (bcA A x c) y2 y3 = st23 A y2 y3 := by
  funext j i
  unfold st23 bcA up
  by_cases h3 : j = 4 ∧ i = 3
  · rw [if_pos h3, if_pos h3]
  · by_cases h2 : j = 4 ∧ i = 2
    · simp only [if_neg h3, if_pos h2]
    · simp only [if_neg h3, if_neg h2]
theorem s23_u {j i : Nat} {v : Int32} (h : ¬ (j = 4 ∧ (i = 2 ∨ i = 3))) : st23 (up A j i v) y2 y3 = up (st23 A y2 y3) j i v := by
  unfold st23
  rw [up_cm (a := j) (i := i) (b := 4) (j := 2) (by omega), up_cm (a := j) (i := i) (b := 4) (j := 3) (by omega)]
theorem s23_op {c : Nat} {m k : Int32} : opA (st23 A y2 y3) c m k = opA A c m k := by
  unfold opA opn
  rw [s23_4 (by omega) (by omega), s23_4 (by omega) (by omega), s23_4 (by omega) (by omega), s23_4 (by omega) (by omega)]
theorem s23_fin {x2 x3 : Int32} (h2 : A 4 2 = x2) (h3 : A 4 3 = x3) : up (up (st23 A y2 y3) 4 2 x2) 4 3 x3 = A := by
  subst h2 h3
  funext j i
  unfold st23 up
  by_cases q3 : j = 4 ∧ i = 3
  · rw [if_pos q3, q3.1, q3.2]
  · rw [if_neg q3]
    by_cases q2 : j = 4 ∧ i = 2
    · rw [if_pos q2, q2.1, q2.2]
    · rw [if_neg q2, if_neg q3, if_neg q2]
theorem md_pr {m k : Nat} (h : mdA A m k) : prA A = nI m := by
  unfold prA
  rw [h.2.2.1]
  rcases h.1 with rfl | rfl | rfl | rfl <;> split <;> decide
theorem md_bc {m k m' k' : Nat} (h : m' = 1 ∨ m' = 2 ∨ m' = 4 ∨ m' = 8) (hk : k' < 256) : mdA (bcA A (nI m') (nI k')) m' k' := by
  refine ⟨h, hk, ?_, ?_⟩
  · show (if jEq (nI k') 0 = true then nI m' else jOr (nI m') (nI 16)) = _
    rw [← nI_0, jEq_n (by omega) (by omega)]
    by_cases q : k' = 0
    · rw [decide_eq_true q, if_pos rfl, if_pos q]
    · rw [decide_eq_false q, if_neg Bool.false_ne_true, if_neg q]
      rcases h with rfl | rfl | rfl | rfl <;> decide
  · rfl
theorem md_up {m k j i : Nat} {v : Int32} (h : mdA A m k) (hn : ¬ (j = 4 ∧ (i = 2 ∨ i = 3))) : mdA (up A j i v) m k := by
  refine ⟨h.1, h.2.1, ?_, ?_⟩
  · unfold up
    rw [if_neg (by omega)]
    exact h.2.2.1
  · unfold up
    rw [if_neg (by omega)]
    exact h.2.2.2
theorem bit4' : ∀ h, h < 16 → ∀ l, l < 16 → jEq (jAnd (jShr (nI (16 * h + l)) (nI 4)) (nI 1)) 0 = jEq (jAnd (nI (16 * h + l)) (nI 16)) 0 := by decide
theorem bit4 (b : Nat) (hb : b < 256) : jEq (jAnd (jShr (nI b) (nI 4)) (nI 1)) 0 = jEq (jAnd (nI b) (nI 16)) 0 := by
  have := bit4' (b / 16) (by omega) (b % 16) (by omega)
  rw [show 16 * (b / 16) + b % 16 = b by omega] at this
  exact this
theorem and15 {x : Nat} (h : x < 2 ^ 31) : jAnd (nI x) (nI 15) = nI (x % 16) := by
  unfold jAnd
  apply Int32.toBitVec_inj.mp
  rw [Int32.toBitVec_and]
  apply BitVec.eq_of_toNat_eq
  rw [BitVec.toNat_and, nI_nat h, nI_nat (by decide), nI_nat (by omega)]
  exact Nat.and_two_pow_sub_one_eq_mod x 4
end TRN
theorem MD.o {σ τ : sg} {s t m k : Nat} {P : Nat → Nat → Prop} (h : MD σ t m k) (hF : FX P σ τ) (hP : ∀ a, 34 ≤ a → a ≤ 36 → ¬ P a t) : MD τ t m k := by
  unfold MD
  rw [hF 34 t (hP 34 (by omega) (by omega)), hF 35 t (hP 35 (by omega) (by omega)), hF 36 t (hP 36 (by omega) (by omega))]
  exact h
theorem MD.sc {σ τ : sg} {s t m k : Nat} (h : MD σ t m k) (hF : FX (SC s) σ τ) : MD τ t m k := h.o (s := s) hF (fun a h1 h2 q => by have := q.b; omega)
section TRN2
variable {n s m k : Nat} {σ A : sg} {y2 y3 : Int32}
theorem RR.nn {τ : sg} (h : RR σ s A) (hF : FX (fun a i => 34 ≤ a ∧ a ≤ 36 ∧ i = s) σ τ) : RR τ s A := h.o hF (fun a i q k => by have := q.b; omega)
theorem q_R_mailed (h : okB n) (hB : RR σ s (st23 A y2 y3)) (hs6 : s < 6) : G_R_mailed [.ref 26, .int (nI s)] (hs n σ) = some (bI (mbA A), hs n σ) := by
  refine mZ_q (Nat.le_of_ble_eq_true rfl) ?_
  simp only [jx_L0, List.map_cons, List.map_nil, List.length_cons, List.length_nil, Nat.reduceAdd, Nat.reduceSub, List.replicate, List.cons_append, List.nil_append]
  unfold P_R_mailed
  refine wS_r (by simp only [e_fI, e_fLd, e_fLr, e_fB, e_fD, e_fC, e_fT, e_fAnd, e_fOr, e_fNot, e_fCC, e_fIf, e_gI, e_gR, e_aI, e_aR, e_aN, e_cV, e_cS, e_fNil, e_fAi, e_fAr, e_sSeq, e_sSkip, e_sSt, e_sSr, e_sInc, e_sRI, e_sRR, e_sRV, e_sIf, e_sCall, e_sPI, e_sPZ, e_sPR, e_sPO, e_sAI, e_sAZ, e_sAO, e_sAR, e_sPopI, e_sPopR, e_sCopy, e_mI, e_mZ, e_mR, e_mV, jAdd_n, jMul_n, z0, z1, Option.bind_some, List.getElem?_cons_zero, List.getElem?_cons_succ, List.set_cons_zero, List.set_cons_succ, eq_self, if_true, ite_and, ite_or, ite_I, ite_bI, ite_bJ, bI_ne, bI_01, List.cons_append, List.nil_append, Bool.false_eq_true, if_false, kT26 h, q_R_like h hB hs6 (show 0 < 4 by omega), q_R_like h hB hs6 (show 1 < 4 by omega), s23_op]; rfl) ?_
  exact ⟨rfl, rfl⟩
theorem nNe (x : Int32) : jEq x 0 = !jNe x 0 := by
  unfold jEq jNe
  rw [decide_not, Bool.not_not]
theorem q_R_fit {c : Nat} {md k : Int32} (h : okB n) (hB : RR σ s (st23 A y2 y3)) (hs6 : s < 6) (hc : c < 4) : G_R_fit [.ref 26, .int (nI s), .int (nI c), .int md, .int k] (hs n σ) = some (bI (suA A c md k), hs n σ) := by
  refine mZ_q (Nat.le_of_ble_eq_true rfl) ?_
  simp only [jx_L0, List.map_cons, List.map_nil, List.length_cons, List.length_nil, Nat.reduceAdd, Nat.reduceSub, List.replicate, List.cons_append, List.nil_append]
  unfold P_R_fit
  have e3 : 35 + 4 * c = 32 + c * 4 + 3 := by omega
  have e4 : st23 A y2 y3 4 (32 + c * 4 + 3) = A 4 (32 + c * 4 + 3) := s23_4 (by omega) (by omega)
  cases q : jEq k 0
  · refine wS_r (by simp only [e_fI, e_fLd, e_fLr, e_fB, e_fD, e_fC, e_fT, e_fAnd, e_fOr, e_fNot, e_fCC, e_fIf, e_gI, e_gR, e_aI, e_aR, e_aN, e_cV, e_cS, e_fNil, e_fAi, e_fAr, e_sSeq, e_sSkip, e_sSt, e_sSr, e_sInc, e_sRI, e_sRR, e_sRV, e_sIf, e_sCall, e_sPI, e_sPZ, e_sPR, e_sPO, e_sAI, e_sAZ, e_sAO, e_sAR, e_sPopI, e_sPopR, e_sCopy, e_mI, e_mZ, e_mR, e_mV, jAdd_n, jMul_n, z0, z1, Option.bind_some, List.getElem?_cons_zero, List.getElem?_cons_succ, List.set_cons_zero, List.set_cons_succ, eq_self, if_true, ite_and, ite_or, ite_I, ite_bI, ite_bJ, bI_ne, bI_01, List.cons_append, List.nil_append, Bool.false_eq_true, if_false, kT26 h, q, q_R_like h hB hs6 hc, s23_op]; rfl) ?_
    refine ⟨?_, rfl⟩
    unfold suA
    rw [q, if_neg Bool.false_ne_true]
  · refine wS_r (by simp only [e_fI, e_fLd, e_fLr, e_fB, e_fD, e_fC, e_fT, e_fAnd, e_fOr, e_fNot, e_fCC, e_fIf, e_gI, e_gR, e_aI, e_aR, e_aN, e_cV, e_cS, e_fNil, e_fAi, e_fAr, e_sSeq, e_sSkip, e_sSt, e_sSr, e_sInc, e_sRI, e_sRR, e_sRV, e_sIf, e_sCall, e_sPI, e_sPZ, e_sPR, e_sPO, e_sAI, e_sAZ, e_sAO, e_sAR, e_sPopI, e_sPopR, e_sCopy, e_mI, e_mZ, e_mR, e_mV, jAdd_n, jMul_n, z0, z1, Option.bind_some, List.getElem?_cons_zero, List.getElem?_cons_succ, List.set_cons_zero, List.set_cons_succ, eq_self, if_true, ite_and, ite_or, ite_I, ite_bI, ite_bJ, bI_ne, bI_01, List.cons_append, List.nil_append, Bool.false_eq_true, if_false, kT26 h, q, q_R_at h hB hs6 (show 32 + c * 4 + 3 < 128 by omega), e3, e4]; rfl) ?_
    refine ⟨?_, rfl⟩
    unfold suA
    rw [q, if_pos rfl, nNe]
def hnd (A : sg) (w : Int32) : Int32 := if jEq w (nI 2) = true then (if mbA A = true then nI 0 else nI 22) else if jEq w (nI 8) = true then (if (jEq (A 0 0) 0 || (jNe (A 15 2) 0 && jNe (A 3 8) 0)) = true then nI 0 else nI 27) else if (!suA A 2 (nI 2) (A 0 0)) = true then nI 29 else if suA A 3 (nI 0) (A 0 1) = true then nI 0 else nI 30
theorem RR.at3 {B : sg} (h : RR σ s B) {i : Nat} (h7 : 7 ≤ i) (h9 : i < 10) : σ (30 + i) s = B 3 i := by
  have := h 3 i (by unfold celR; omega)
  exact this
theorem RR.k0 {B : sg} (h : RR σ s B) : σ 27 s = B 0 0 := h 0 0 (by unfold celR; omega)
theorem RR.k1 {B : sg} (h : RR σ s B) : σ 28 s = B 0 1 := h 0 1 (by unfold celR; omega)
theorem jGt0 {o : Nat} (h : o < 2 ^ 31) : jGt (nI o) 0 = !jEq (nI o) 0 := by
  rw [← nI_0, jEq_n h (by omega), ← decide_not]
  unfold jGt
  rw [decide_eq_decide, nI_ltI (by omega) h]
  omega
theorem q_R_hindrance {r : Nat} (h : okB n) (hB : RR σ s (st23 A y2 y3)) (hs6 : s < 6) (hT : okT A) (hr : r = 2 ∨ r = 4 ∨ r = 8) : G_R_hindrance [.ref 26, .int (nI s), .int (nI r)] (hs n σ) = some (hnd A (nI r), hs n σ) := by
  have o0 : σ 27 s = A 0 0 := by rw [hB.k0, s23_j (by omega)]
  have o1 : σ 28 s = A 0 1 := by rw [hB.k1, s23_j (by omega)]
  have w2 : σ 33 (4 * s + 2) = A 15 2 := by rw [hB.wr (by omega), s23_j (by omega)]
  have r8 : σ 38 s = A 3 8 := by have := hB.at3 (i := 8) (by omega) (by omega); rw [s23_j (by omega)] at this; exact this
  refine mI_q (Nat.le_of_ble_eq_true rfl) ?_
  simp only [jx_L0, List.map_cons, List.map_nil, List.length_cons, List.length_nil, Nat.reduceAdd, Nat.reduceSub, List.replicate, List.cons_append, List.nil_append]
  unfold P_R_hindrance hnd
  refine wSeq (wIf (by simp only [e_fI, e_fLd, e_fLr, e_fB, e_fD, e_fC, e_fT, e_fAnd, e_fOr, e_fNot, e_fCC, e_fIf, e_gI, e_gR, e_aI, e_aR, e_aN, e_cV, e_cS, e_fNil, e_fAi, e_fAr, e_sSeq, e_sSkip, e_sSt, e_sSr, e_sInc, e_sRI, e_sRR, e_sRV, e_sIf, e_sCall, e_sPI, e_sPZ, e_sPR, e_sPO, e_sAI, e_sAZ, e_sAO, e_sAR, e_sPopI, e_sPopR, e_sCopy, e_mI, e_mZ, e_mR, e_mV, jAdd_n, jMul_n, z0, z1, Option.bind_some, List.getElem?_cons_zero, List.getElem?_cons_succ, List.set_cons_zero, List.set_cons_succ, eq_self, if_true, ite_and, ite_or, ite_I, ite_bI, ite_bJ, bI_ne, bI_01, List.cons_append, List.nil_append, Bool.false_eq_true, if_false]; rfl) (fun hb => ?_) (fun hb => ?_))
  · rw [if_pos hb]
    refine wS_r (by simp only [e_fI, e_fLd, e_fLr, e_fB, e_fD, e_fC, e_fT, e_fAnd, e_fOr, e_fNot, e_fCC, e_fIf, e_gI, e_gR, e_aI, e_aR, e_aN, e_cV, e_cS, e_fNil, e_fAi, e_fAr, e_sSeq, e_sSkip, e_sSt, e_sSr, e_sInc, e_sRI, e_sRR, e_sRV, e_sIf, e_sCall, e_sPI, e_sPZ, e_sPR, e_sPO, e_sAI, e_sAZ, e_sAO, e_sAR, e_sPopI, e_sPopR, e_sCopy, e_mI, e_mZ, e_mR, e_mV, jAdd_n, jMul_n, z0, z1, Option.bind_some, List.getElem?_cons_zero, List.getElem?_cons_succ, List.set_cons_zero, List.set_cons_succ, eq_self, if_true, ite_and, ite_or, ite_I, ite_bI, ite_bJ, bI_ne, bI_01, List.cons_append, List.nil_append, Bool.false_eq_true, if_false, kT26 h, q_R_mailed h hB hs6]; rfl) ?_
    exact ⟨rfl, rfl⟩
  rw [hb, if_neg Bool.false_ne_true]
  refine wS_l rfl ?_
  have r2 : r ≠ 2 := fun e => by rw [e] at hb; exact absurd hb (by decide)
  clear hb
  rcases (show r = 4 ∨ r = 8 by omega) with rfl | rfl
  · refine wSeq (wIf (by simp only [e_fI, e_fLd, e_fLr, e_fB, e_fD, e_fC, e_fT, e_fAnd, e_fOr, e_fNot, e_fCC, e_fIf, e_gI, e_gR, e_aI, e_aR, e_aN, e_cV, e_cS, e_fNil, e_fAi, e_fAr, e_sSeq, e_sSkip, e_sSt, e_sSr, e_sInc, e_sRI, e_sRR, e_sRV, e_sIf, e_sCall, e_sPI, e_sPZ, e_sPR, e_sPO, e_sAI, e_sAZ, e_sAO, e_sAR, e_sPopI, e_sPopR, e_sCopy, e_mI, e_mZ, e_mR, e_mV, jAdd_n, jMul_n, z0, z1, Option.bind_some, List.getElem?_cons_zero, List.getElem?_cons_succ, List.set_cons_zero, List.set_cons_succ, eq_self, if_true, ite_and, ite_or, ite_I, ite_bI, ite_bJ, bI_ne, bI_01, List.cons_append, List.nil_append, Bool.false_eq_true, if_false]; rfl) (fun hb => ?_) (fun hb => ?_))
    · rw [if_neg (by decide)]
      refine wS_r (by simp only [e_fI, e_fLd, e_fLr, e_fB, e_fD, e_fC, e_fT, e_fAnd, e_fOr, e_fNot, e_fCC, e_fIf, e_gI, e_gR, e_aI, e_aR, e_aN, e_cV, e_cS, e_fNil, e_fAi, e_fAr, e_sSeq, e_sSkip, e_sSt, e_sSr, e_sInc, e_sRI, e_sRR, e_sRV, e_sIf, e_sCall, e_sPI, e_sPZ, e_sPR, e_sPO, e_sAI, e_sAZ, e_sAO, e_sAR, e_sPopI, e_sPopR, e_sCopy, e_mI, e_mZ, e_mR, e_mV, jAdd_n, jMul_n, z0, z1, Option.bind_some, List.getElem?_cons_zero, List.getElem?_cons_succ, List.set_cons_zero, List.set_cons_succ, eq_self, if_true, ite_and, ite_or, ite_I, ite_bI, ite_bJ, bI_ne, bI_01, List.cons_append, List.nil_append, Bool.false_eq_true, if_false, kT26 h, gT26_1 h, gT26_2 h, iT27 h hs6, iT28 h hs6, o0, o1, q_R_fit h hB hs6 (show 2 < 4 by omega), q_R_fit h hB hs6 (show 3 < 4 by omega)]; rfl) ?_
      refine ⟨?_, rfl⟩
      cases suA A 2 (nI 2) (A 0 0) <;> cases suA A 3 (nI 0) (A 0 1) <;> rfl
    · exact absurd hb (by decide)
  · refine wSeq (wIf (by simp only [e_fI, e_fLd, e_fLr, e_fB, e_fD, e_fC, e_fT, e_fAnd, e_fOr, e_fNot, e_fCC, e_fIf, e_gI, e_gR, e_aI, e_aR, e_aN, e_cV, e_cS, e_fNil, e_fAi, e_fAr, e_sSeq, e_sSkip, e_sSt, e_sSr, e_sInc, e_sRI, e_sRR, e_sRV, e_sIf, e_sCall, e_sPI, e_sPZ, e_sPR, e_sPO, e_sAI, e_sAZ, e_sAO, e_sAR, e_sPopI, e_sPopR, e_sCopy, e_mI, e_mZ, e_mR, e_mV, jAdd_n, jMul_n, z0, z1, Option.bind_some, List.getElem?_cons_zero, List.getElem?_cons_succ, List.set_cons_zero, List.set_cons_succ, eq_self, if_true, ite_and, ite_or, ite_I, ite_bI, ite_bJ, bI_ne, bI_01, List.cons_append, List.nil_append, Bool.false_eq_true, if_false]; rfl) (fun hb => ?_) (fun hb => ?_))
    · exact absurd hb (by decide)
    · refine wS_l rfl ?_
      rw [if_pos (by decide)]
      refine wS_r (by simp only [e_fI, e_fLd, e_fLr, e_fB, e_fD, e_fC, e_fT, e_fAnd, e_fOr, e_fNot, e_fCC, e_fIf, e_gI, e_gR, e_aI, e_aR, e_aN, e_cV, e_cS, e_fNil, e_fAi, e_fAr, e_sSeq, e_sSkip, e_sSt, e_sSr, e_sInc, e_sRI, e_sRR, e_sRV, e_sIf, e_sCall, e_sPI, e_sPZ, e_sPR, e_sPO, e_sAI, e_sAZ, e_sAO, e_sAR, e_sPopI, e_sPopR, e_sCopy, e_mI, e_mZ, e_mR, e_mV, jAdd_n, jMul_n, z0, z1, Option.bind_some, List.getElem?_cons_zero, List.getElem?_cons_succ, List.set_cons_zero, List.set_cons_succ, eq_self, if_true, ite_and, ite_or, ite_I, ite_bI, ite_bJ, bI_ne, bI_01, List.cons_append, List.nil_append, Bool.false_eq_true, if_false, gT26_1 h, gT26_7 h, gT26_12 h, iT27 h hs6, iT33 h (show 4 * s + 2 < 24 by omega), iT38 h hs6, o0, w2, r8, hT.1, jGt0 (show oN A < 2 ^ 31 by have := hT.2.1; omega)]; rfl) ?_
      refine ⟨?_, rfl⟩
      rw [hT.1]
      cases jEq (nI (oN A)) 0 <;> cases jNe (A 15 2) 0 <;> cases jNe (A 3 8) 0 <;> rfl
theorem q_R_fail {c : Int32} (h : okB n) (hs6 : s < 6) : G_R_fail [.ref 26, .int (nI s), .int c] (hs n σ) = some (hs n (up (up σ 35 s (nI 1)) 36 s c)) := by
  refine mV_q (Nat.le_of_ble_eq_true rfl) ?_
  simp only [jx_L0, List.map_cons, List.map_nil, List.length_cons, List.length_nil, Nat.reduceAdd, Nat.reduceSub, List.replicate, List.cons_append, List.nil_append]
  unfold P_R_fail
  refine wSeq (wS_l (by simp only [e_fI, e_fLd, e_fLr, e_fB, e_fD, e_fC, e_fT, e_fAnd, e_fOr, e_fNot, e_fCC, e_fIf, e_gI, e_gR, e_aI, e_aR, e_aN, e_cV, e_cS, e_fNil, e_fAi, e_fAr, e_sSeq, e_sSkip, e_sSt, e_sSr, e_sInc, e_sRI, e_sRR, e_sRV, e_sIf, e_sCall, e_sPI, e_sPZ, e_sPR, e_sPO, e_sAI, e_sAZ, e_sAO, e_sAR, e_sPopI, e_sPopR, e_sCopy, e_mI, e_mZ, e_mR, e_mV, jAdd_n, jMul_n, z0, z1, Option.bind_some, List.getElem?_cons_zero, List.getElem?_cons_succ, List.set_cons_zero, List.set_cons_succ, eq_self, if_true, ite_and, ite_or, ite_I, ite_bI, ite_bJ, bI_ne, bI_01, List.cons_append, List.nil_append, Bool.false_eq_true, if_false, gT26_9 h, wT35 h hs6]; rfl) ?_)
  refine wSeq (wS_l (by simp only [e_fI, e_fLd, e_fLr, e_fB, e_fD, e_fC, e_fT, e_fAnd, e_fOr, e_fNot, e_fCC, e_fIf, e_gI, e_gR, e_aI, e_aR, e_aN, e_cV, e_cS, e_fNil, e_fAi, e_fAr, e_sSeq, e_sSkip, e_sSt, e_sSr, e_sInc, e_sRI, e_sRR, e_sRV, e_sIf, e_sCall, e_sPI, e_sPZ, e_sPR, e_sPO, e_sAI, e_sAZ, e_sAO, e_sAR, e_sPopI, e_sPopR, e_sCopy, e_mI, e_mZ, e_mR, e_mV, jAdd_n, jMul_n, z0, z1, Option.bind_some, List.getElem?_cons_zero, List.getElem?_cons_succ, List.set_cons_zero, List.set_cons_succ, eq_self, if_true, ite_and, ite_or, ite_I, ite_bI, ite_bJ, bI_ne, bI_01, List.cons_append, List.nil_append, Bool.false_eq_true, if_false, gT26_10 h, wT36 h hs6]; rfl) ?_)
  exact wS_r rfl ⟨rfl, rfl⟩
theorem obj_e {w : Int32} (h1 : (jNe w (nI 1) && jNe w (nI 2) && jNe w (nI 4) && jNe w (nI 8)) = false) (h2 : jLe w (prA A) = false) (h3 : jGt w (jMul (nI 2) (prA A)) = false) : obj A w = hnd A w := by
  unfold obj hnd
  rw [h1, h2, h3, if_neg Bool.false_ne_true, if_neg Bool.false_ne_true, if_neg Bool.false_ne_true]
theorem q_R_control (h : okB n) (hB : RR σ s (st23 A y2 y3)) (hs6 : s < 6) (hok : okA A) (hT : okT A) (hM : MD σ s m k) (hmd : mdA A m k) : ∃ τ, G_R_control [.ref 26, .int (nI s)] (hs n σ) = some (hs n τ) ∧ RR τ s (st23 (ob1 A) y2 y3) ∧ (∃ m' k', MD τ s m' k' ∧ mdA (ob1 A) m' k') ∧ FX (NC s) σ τ := by
  obtain ⟨v, hv, ev⟩ := hok.1 1 (by omega)
  have ev' : st23 A y2 y3 4 1 = nI v := (s23_4 (by omega) (by omega)).trans ev
  have pr := md_pr hmd
  have hm := hmd.1
  have e3 : jNe (A 4 3) 0 = decide (¬ k = 0) := by
    rw [hmd.2.2.2, ← nI_0]
    unfold jNe
    rw [decide_eq_decide, nI_eq (by have := hmd.2.1; omega) (by omega)]
  refine mV_s (Nat.le_of_ble_eq_true rfl) ?_
  simp only [jx_L0, List.map_cons, List.map_nil, List.length_cons, List.length_nil, Nat.reduceAdd, Nat.reduceSub, List.replicate, List.cons_append, List.nil_append]
  unfold P_R_control ob1
  rw [e3, ev, and15 (by omega), pr]
  refine wSeq (wS_l (by simp only [e_fI, e_fLd, e_fLr, e_fB, e_fD, e_fC, e_fT, e_fAnd, e_fOr, e_fNot, e_fCC, e_fIf, e_gI, e_gR, e_aI, e_aR, e_aN, e_cV, e_cS, e_fNil, e_fAi, e_fAr, e_sSeq, e_sSkip, e_sSt, e_sSr, e_sInc, e_sRI, e_sRR, e_sRV, e_sIf, e_sCall, e_sPI, e_sPZ, e_sPR, e_sPO, e_sAI, e_sAZ, e_sAO, e_sAR, e_sPopI, e_sPopR, e_sCopy, e_mI, e_mZ, e_mR, e_mV, jAdd_n, jMul_n, z0, z1, Option.bind_some, List.getElem?_cons_zero, List.getElem?_cons_succ, List.set_cons_zero, List.set_cons_succ, eq_self, if_true, ite_and, ite_or, ite_I, ite_bI, ite_bJ, bI_ne, bI_01, List.cons_append, List.nil_append, Bool.false_eq_true, if_false, kT26 h, q_R_at h hB hs6 (show 1 < 128 by omega), ev']; rfl) ?_)
  refine wSeq (wIf (by simp only [e_fI, e_fLd, e_fLr, e_fB, e_fD, e_fC, e_fT, e_fAnd, e_fOr, e_fNot, e_fCC, e_fIf, e_gI, e_gR, e_aI, e_aR, e_aN, e_cV, e_cS, e_fNil, e_fAi, e_fAr, e_sSeq, e_sSkip, e_sSt, e_sSr, e_sInc, e_sRI, e_sRR, e_sRV, e_sIf, e_sCall, e_sPI, e_sPZ, e_sPR, e_sPO, e_sAI, e_sAZ, e_sAO, e_sAR, e_sPopI, e_sPopR, e_sCopy, e_mI, e_mZ, e_mR, e_mV, jAdd_n, jMul_n, z0, z1, Option.bind_some, List.getElem?_cons_zero, List.getElem?_cons_succ, List.set_cons_zero, List.set_cons_succ, eq_self, if_true, ite_and, ite_or, ite_I, ite_bI, ite_bJ, bI_ne, bI_01, List.cons_append, List.nil_append, Bool.false_eq_true, if_false, gT26_9 h, iT35 h hs6, hM.2.1, bit4 v hv]; rfl) (fun hb => ?_) (fun hb => ?_))
  · rw [if_pos hb]
    exact wS_r rfl ⟨rfl, σ, rfl, hB, ⟨m, k, hM, hmd⟩, FX.r _ σ⟩
  rw [hb, if_neg Bool.false_ne_true]
  clear hb
  refine wS_l rfl ?_
  refine wSeq (wS_l (by simp only [e_fI, e_fLd, e_fLr, e_fB, e_fD, e_fC, e_fT, e_fAnd, e_fOr, e_fNot, e_fCC, e_fIf, e_gI, e_gR, e_aI, e_aR, e_aN, e_cV, e_cS, e_fNil, e_fAi, e_fAr, e_sSeq, e_sSkip, e_sSt, e_sSr, e_sInc, e_sRI, e_sRR, e_sRV, e_sIf, e_sCall, e_sPI, e_sPZ, e_sPR, e_sPO, e_sAI, e_sAZ, e_sAO, e_sAR, e_sPopI, e_sPopR, e_sCopy, e_mI, e_mZ, e_mR, e_mV, jAdd_n, jMul_n, z0, z1, Option.bind_some, List.getElem?_cons_zero, List.getElem?_cons_succ, List.set_cons_zero, List.set_cons_succ, eq_self, if_true, ite_and, ite_or, ite_I, ite_bI, ite_bJ, bI_ne, bI_01, List.cons_append, List.nil_append, Bool.false_eq_true, if_false, gT26_9 h, wT35 h hs6]; rfl) ?_)
  refine wSeq (wS_l (by simp only [e_fI, e_fLd, e_fLr, e_fB, e_fD, e_fC, e_fT, e_fAnd, e_fOr, e_fNot, e_fCC, e_fIf, e_gI, e_gR, e_aI, e_aR, e_aN, e_cV, e_cS, e_fNil, e_fAi, e_fAr, e_sSeq, e_sSkip, e_sSt, e_sSr, e_sInc, e_sRI, e_sRR, e_sRV, e_sIf, e_sCall, e_sPI, e_sPZ, e_sPR, e_sPO, e_sAI, e_sAZ, e_sAO, e_sAR, e_sPopI, e_sPopR, e_sCopy, e_mI, e_mZ, e_mR, e_mV, jAdd_n, jMul_n, z0, z1, Option.bind_some, List.getElem?_cons_zero, List.getElem?_cons_succ, List.set_cons_zero, List.set_cons_succ, eq_self, if_true, ite_and, ite_or, ite_I, ite_bI, ite_bJ, bI_ne, bI_01, List.cons_append, List.nil_append, Bool.false_eq_true, if_false, gT26_10 h, wT36 h hs6]; rfl) ?_)
  have hF1 : FX (fun a i => 34 ≤ a ∧ a ≤ 36 ∧ i = s) σ (up (up σ 35 s (nI 0)) 36 s (nI 0)) := ((FX.r _ σ).u ⟨by omega, by omega, rfl⟩).u ⟨by omega, by omega, rfl⟩
  have hM1 : MD (up (up σ 35 s (nI 0)) 36 s (nI 0)) s m 0 := ⟨hM.1, by simp [up, bI, nI_0], by simp [up]⟩
  generalize up (up σ 35 s (nI 0)) 36 s (nI 0) = ρ at hF1 hM1 ⊢
  have hB1 := hB.nn hF1
  have toN : ∀ {τ : sg}, FX (fun a i => 34 ≤ a ∧ a ≤ 36 ∧ i = s) ρ τ → FX (NC s) σ τ := fun q => (hF1.t q).m (fun _ _ => Or.inr)
  refine wSeq (wS_l (by simp only [e_fI, e_fLd, e_fLr, e_fB, e_fD, e_fC, e_fT, e_fAnd, e_fOr, e_fNot, e_fCC, e_fIf, e_gI, e_gR, e_aI, e_aR, e_aN, e_cV, e_cS, e_fNil, e_fAi, e_fAr, e_sSeq, e_sSkip, e_sSt, e_sSr, e_sInc, e_sRI, e_sRR, e_sRV, e_sIf, e_sCall, e_sPI, e_sPZ, e_sPR, e_sPO, e_sAI, e_sAZ, e_sAO, e_sAR, e_sPopI, e_sPopR, e_sCopy, e_mI, e_mZ, e_mR, e_mV, jAdd_n, jMul_n, z0, z1, Option.bind_some, List.getElem?_cons_zero, List.getElem?_cons_succ, List.set_cons_zero, List.set_cons_succ, eq_self, if_true, ite_and, ite_or, ite_I, ite_bI, ite_bJ, bI_ne, bI_01, List.cons_append, List.nil_append, Bool.false_eq_true, if_false, and15 (show v < 2 ^ 31 by omega)]; rfl) ?_)
  generalize hr : v % 16 = r
  have hr16 : r < 16 := by omega
  have failing : ∀ c : Nat, c < 256 → c ≠ 0 → ∀ τ, τ = up (up ρ 35 s (nI 1)) 36 s (nI c) → RR τ s (st23 (bcA A (nI m) (nI c)) y2 y3) ∧ (∃ m' k', MD τ s m' k' ∧ mdA (bcA A (nI m) (nI c)) m' k') ∧ FX (NC s) σ τ := fun c hc c0 τ et => by
    subst et
    have hF2 : FX (fun a i => 34 ≤ a ∧ a ≤ 36 ∧ i = s) ρ (up (up ρ 35 s (nI 1)) 36 s (nI c)) := ((FX.r _ ρ).u ⟨by omega, by omega, rfl⟩).u ⟨by omega, by omega, rfl⟩
    rw [s23_bc]
    refine ⟨hB1.nn hF2, ⟨m, c, ⟨hM1.1, ?_, ?_⟩, md_bc (m := m) (k := k) hm hc⟩, toN hF2⟩
    · rw [decide_eq_true c0]
      simp [up, bI, nI_1e]
    · simp [up]
  refine wSeq (wIf (by simp only [e_fI, e_fLd, e_fLr, e_fB, e_fD, e_fC, e_fT, e_fAnd, e_fOr, e_fNot, e_fCC, e_fIf, e_gI, e_gR, e_aI, e_aR, e_aN, e_cV, e_cS, e_fNil, e_fAi, e_fAr, e_sSeq, e_sSkip, e_sSt, e_sSr, e_sInc, e_sRI, e_sRR, e_sRV, e_sIf, e_sCall, e_sPI, e_sPZ, e_sPR, e_sPO, e_sAI, e_sAZ, e_sAO, e_sAR, e_sPopI, e_sPopR, e_sCopy, e_mI, e_mZ, e_mR, e_mV, jAdd_n, jMul_n, z0, z1, Option.bind_some, List.getElem?_cons_zero, List.getElem?_cons_succ, List.set_cons_zero, List.set_cons_succ, eq_self, if_true, ite_and, ite_or, ite_I, ite_bI, ite_bJ, bI_ne, bI_01, List.cons_append, List.nil_append, Bool.false_eq_true, if_false]; rfl) (fun hb => ?_) (fun hb => ?_))
  · have eo : obj A (nI r) = nI 18 := by unfold obj; rw [if_pos hb]
    rw [eo, if_pos (by decide)]
    refine wS_l (by simp only [e_fI, e_fLd, e_fLr, e_fB, e_fD, e_fC, e_fT, e_fAnd, e_fOr, e_fNot, e_fCC, e_fIf, e_gI, e_gR, e_aI, e_aR, e_aN, e_cV, e_cS, e_fNil, e_fAi, e_fAr, e_sSeq, e_sSkip, e_sSt, e_sSr, e_sInc, e_sRI, e_sRR, e_sRV, e_sIf, e_sCall, e_sPI, e_sPZ, e_sPR, e_sPO, e_sAI, e_sAZ, e_sAO, e_sAR, e_sPopI, e_sPopR, e_sCopy, e_mI, e_mZ, e_mR, e_mV, jAdd_n, jMul_n, z0, z1, Option.bind_some, List.getElem?_cons_zero, List.getElem?_cons_succ, List.set_cons_zero, List.set_cons_succ, eq_self, if_true, ite_and, ite_or, ite_I, ite_bI, ite_bJ, bI_ne, bI_01, List.cons_append, List.nil_append, Bool.false_eq_true, if_false, kT26 h, q_R_fail h hs6]; rfl) ?_
    exact wS_r rfl ⟨rfl, _, rfl, failing 18 (by omega) (by omega) _ rfl⟩
  have n1 := hb
  clear hb
  have hr4 : r = 1 ∨ r = 2 ∨ r = 4 ∨ r = 8 := by
    simp only [jNe, Bool.and_eq_false_iff, decide_eq_false_iff_not, Classical.not_not, nI_eq (show r < 2 ^ 31 by omega) (show 1 < 2 ^ 31 by omega), nI_eq (show r < 2 ^ 31 by omega) (show 2 < 2 ^ 31 by omega), nI_eq (show r < 2 ^ 31 by omega) (show 4 < 2 ^ 31 by omega), nI_eq (show r < 2 ^ 31 by omega) (show 8 < 2 ^ 31 by omega)] at n1
    omega
  have entering : ∀ X : sg, X = en2 (en1 A (nI r)) (nI r) → ∀ τ, RR τ s (st23 X y2 y3) → MD τ s r 0 → FX (NC s) σ τ → obj A (nI r) = nI 0 → RR τ s (st23 (if jNe (obj A (nI r)) 0 = true then bcA A (nI m) (obj A (nI r)) else enA A (nI r)) y2 y3) ∧ (∃ m' k', MD τ s m' k' ∧ mdA (if jNe (obj A (nI r)) 0 = true then bcA A (nI m) (obj A (nI r)) else enA A (nI r)) m' k') ∧ FX (NC s) σ τ := fun X eX τ hR hMr hF eo => by
    rw [eo, if_neg (by decide)]
    unfold enA
    rw [s23_bc, ← eX]
    exact ⟨hR, ⟨r, 0, hMr, md_bc (m := m) (k := k) hr4 (by omega)⟩, hF⟩
  refine wIf (by simp only [e_fI, e_fLd, e_fLr, e_fB, e_fD, e_fC, e_fT, e_fAnd, e_fOr, e_fNot, e_fCC, e_fIf, e_gI, e_gR, e_aI, e_aR, e_aN, e_cV, e_cS, e_fNil, e_fAi, e_fAr, e_sSeq, e_sSkip, e_sSt, e_sSr, e_sInc, e_sRI, e_sRR, e_sRV, e_sIf, e_sCall, e_sPI, e_sPZ, e_sPR, e_sPO, e_sAI, e_sAZ, e_sAO, e_sAR, e_sPopI, e_sPopR, e_sCopy, e_mI, e_mZ, e_mR, e_mV, jAdd_n, jMul_n, z0, z1, Option.bind_some, List.getElem?_cons_zero, List.getElem?_cons_succ, List.set_cons_zero, List.set_cons_succ, eq_self, if_true, ite_and, ite_or, ite_I, ite_bI, ite_bJ, bI_ne, bI_01, List.cons_append, List.nil_append, Bool.false_eq_true, if_false, gT26_8 h, iT34 h hs6, hM1.1]; rfl) (fun hb => ?_) (fun hb => ?_)
  · have eo : obj A (nI r) = nI 0 := by unfold obj; rw [n1, if_neg Bool.false_ne_true, pr, if_pos hb]
    have hle : r ≤ m := (nI_leI (by omega) (by omega)).mp (of_decide_eq_true hb)
    refine wS_l (by simp only [e_fI, e_fLd, e_fLr, e_fB, e_fD, e_fC, e_fT, e_fAnd, e_fOr, e_fNot, e_fCC, e_fIf, e_gI, e_gR, e_aI, e_aR, e_aN, e_cV, e_cS, e_fNil, e_fAi, e_fAr, e_sSeq, e_sSkip, e_sSt, e_sSr, e_sInc, e_sRI, e_sRR, e_sRV, e_sIf, e_sCall, e_sPI, e_sPZ, e_sPR, e_sPO, e_sAI, e_sAZ, e_sAO, e_sAR, e_sPopI, e_sPopR, e_sCopy, e_mI, e_mZ, e_mR, e_mV, jAdd_n, jMul_n, z0, z1, Option.bind_some, List.getElem?_cons_zero, List.getElem?_cons_succ, List.set_cons_zero, List.set_cons_succ, eq_self, if_true, ite_and, ite_or, ite_I, ite_bI, ite_bJ, bI_ne, bI_01, List.cons_append, List.nil_append, Bool.false_eq_true, if_false, gT26_8 h, wT34 h hs6]; rfl) ?_
    have hF2 : FX (fun a i => 34 ≤ a ∧ a ≤ 36 ∧ i = s) ρ (up ρ 34 s (nI r)) := (FX.r _ ρ).u ⟨by omega, by omega, rfl⟩
    refine wS_r rfl ⟨rfl, _, rfl, entering A ?_ _ (hB1.nn hF2) ⟨by simp [up], hM1.2.1, hM1.2.2⟩ (toN hF2) eo⟩
    have x1 : en1 A (nI r) = A := by
      unfold en1
      rw [pr, jEq_n (by omega) (by omega), jEq_n (by omega) (by omega), ← Bool.decide_and, decide_eq_false (by omega), if_neg Bool.false_ne_true]
    rw [x1]
    unfold en2
    rw [pr, jEq_n (by omega) (by omega)]
    by_cases q : r = 8
    · have : m = 8 := by omega
      rw [this, show jNe (nI 8) (nI 8) = false by decide, Bool.and_false, if_neg Bool.false_ne_true]
    · rw [decide_eq_false q, Bool.false_and, if_neg Bool.false_ne_true]
  have n2 := hb
  have hgt : m < r := by
    have := of_decide_eq_false hb
    rw [nI_leI (by omega) (by omega)] at this
    omega
  clear hb
  refine wIf (by simp only [e_fI, e_fLd, e_fLr, e_fB, e_fD, e_fC, e_fT, e_fAnd, e_fOr, e_fNot, e_fCC, e_fIf, e_gI, e_gR, e_aI, e_aR, e_aN, e_cV, e_cS, e_fNil, e_fAi, e_fAr, e_sSeq, e_sSkip, e_sSt, e_sSr, e_sInc, e_sRI, e_sRR, e_sRV, e_sIf, e_sCall, e_sPI, e_sPZ, e_sPR, e_sPO, e_sAI, e_sAZ, e_sAO, e_sAR, e_sPopI, e_sPopR, e_sCopy, e_mI, e_mZ, e_mR, e_mV, jAdd_n, jMul_n, z0, z1, Option.bind_some, List.getElem?_cons_zero, List.getElem?_cons_succ, List.set_cons_zero, List.set_cons_succ, eq_self, if_true, ite_and, ite_or, ite_I, ite_bI, ite_bJ, bI_ne, bI_01, List.cons_append, List.nil_append, Bool.false_eq_true, if_false, gT26_8 h, iT34 h hs6, hM1.1]; rfl) (fun hb => ?_) (fun hb => ?_)
  · have eo : obj A (nI r) = nI 17 := by
      unfold obj
      rw [n1, if_neg Bool.false_ne_true, pr, n2, if_neg Bool.false_ne_true, jMul_n, if_pos hb]
    rw [eo, if_pos (by decide)]
    refine wS_l (by simp only [e_fI, e_fLd, e_fLr, e_fB, e_fD, e_fC, e_fT, e_fAnd, e_fOr, e_fNot, e_fCC, e_fIf, e_gI, e_gR, e_aI, e_aR, e_aN, e_cV, e_cS, e_fNil, e_fAi, e_fAr, e_sSeq, e_sSkip, e_sSt, e_sSr, e_sInc, e_sRI, e_sRR, e_sRV, e_sIf, e_sCall, e_sPI, e_sPZ, e_sPR, e_sPO, e_sAI, e_sAZ, e_sAO, e_sAR, e_sPopI, e_sPopR, e_sCopy, e_mI, e_mZ, e_mR, e_mV, jAdd_n, jMul_n, z0, z1, Option.bind_some, List.getElem?_cons_zero, List.getElem?_cons_succ, List.set_cons_zero, List.set_cons_succ, eq_self, if_true, ite_and, ite_or, ite_I, ite_bI, ite_bJ, bI_ne, bI_01, List.cons_append, List.nil_append, Bool.false_eq_true, if_false, kT26 h, q_R_fail h hs6]; rfl) ?_
    exact wS_r rfl ⟨rfl, _, rfl, failing 17 (by omega) (by omega) _ rfl⟩
  have n3 := hb
  have hle2 : r ≤ 2 * m := by
    have := of_decide_eq_false hb
    rw [nI_ltI (by omega) (by omega)] at this
    omega
  clear hb
  have eo : obj A (nI r) = hnd A (nI r) := obj_e n1 (by rw [pr]; exact n2) (by rw [pr, jMul_n]; exact n3)
  refine wSeq (wS_l (by simp only [e_fI, e_fLd, e_fLr, e_fB, e_fD, e_fC, e_fT, e_fAnd, e_fOr, e_fNot, e_fCC, e_fIf, e_gI, e_gR, e_aI, e_aR, e_aN, e_cV, e_cS, e_fNil, e_fAi, e_fAr, e_sSeq, e_sSkip, e_sSt, e_sSr, e_sInc, e_sRI, e_sRR, e_sRV, e_sIf, e_sCall, e_sPI, e_sPZ, e_sPR, e_sPO, e_sAI, e_sAZ, e_sAO, e_sAR, e_sPopI, e_sPopR, e_sCopy, e_mI, e_mZ, e_mR, e_mV, jAdd_n, jMul_n, z0, z1, Option.bind_some, List.getElem?_cons_zero, List.getElem?_cons_succ, List.set_cons_zero, List.set_cons_succ, eq_self, if_true, ite_and, ite_or, ite_I, ite_bI, ite_bJ, bI_ne, bI_01, List.cons_append, List.nil_append, Bool.false_eq_true, if_false, kT26 h, q_R_hindrance h hB1 hs6 hT (show r = 2 ∨ r = 4 ∨ r = 8 by omega)]; rfl) ?_)
  have hc : ∃ c, c < 256 ∧ hnd A (nI r) = nI c := by
    obtain ⟨c, hc, ec⟩ := byt_obj (A := A) (w := nI r)
    exact ⟨c, hc, by rw [← eo]; exact ec⟩
  obtain ⟨c, hc, ec⟩ := hc
  rw [ec]
  refine wSeq (wIf (by simp only [e_fI, e_fLd, e_fLr, e_fB, e_fD, e_fC, e_fT, e_fAnd, e_fOr, e_fNot, e_fCC, e_fIf, e_gI, e_gR, e_aI, e_aR, e_aN, e_cV, e_cS, e_fNil, e_fAi, e_fAr, e_sSeq, e_sSkip, e_sSt, e_sSr, e_sInc, e_sRI, e_sRR, e_sRV, e_sIf, e_sCall, e_sPI, e_sPZ, e_sPR, e_sPO, e_sAI, e_sAZ, e_sAO, e_sAR, e_sPopI, e_sPopR, e_sCopy, e_mI, e_mZ, e_mR, e_mV, jAdd_n, jMul_n, z0, z1, Option.bind_some, List.getElem?_cons_zero, List.getElem?_cons_succ, List.set_cons_zero, List.set_cons_succ, eq_self, if_true, ite_and, ite_or, ite_I, ite_bI, ite_bJ, bI_ne, bI_01, List.cons_append, List.nil_append, Bool.false_eq_true, if_false]; rfl) (fun hb => ?_) (fun hb => ?_))
  · have c0 : c ≠ 0 := fun e => by rw [e] at hb; exact absurd hb (by decide)
    rw [eo, ec, if_pos hb]
    refine wSeq (wS_l (by simp only [e_fI, e_fLd, e_fLr, e_fB, e_fD, e_fC, e_fT, e_fAnd, e_fOr, e_fNot, e_fCC, e_fIf, e_gI, e_gR, e_aI, e_aR, e_aN, e_cV, e_cS, e_fNil, e_fAi, e_fAr, e_sSeq, e_sSkip, e_sSt, e_sSr, e_sInc, e_sRI, e_sRR, e_sRV, e_sIf, e_sCall, e_sPI, e_sPZ, e_sPR, e_sPO, e_sAI, e_sAZ, e_sAO, e_sAR, e_sPopI, e_sPopR, e_sCopy, e_mI, e_mZ, e_mR, e_mV, jAdd_n, jMul_n, z0, z1, Option.bind_some, List.getElem?_cons_zero, List.getElem?_cons_succ, List.set_cons_zero, List.set_cons_succ, eq_self, if_true, ite_and, ite_or, ite_I, ite_bI, ite_bJ, bI_ne, bI_01, List.cons_append, List.nil_append, Bool.false_eq_true, if_false, kT26 h, q_R_fail h hs6]; rfl) ?_)
    exact wS_r rfl ⟨rfl, _, rfl, failing c hc c0 _ rfl⟩
  have c0 : c = 0 := by
    have := Classical.not_not.mp (of_decide_eq_false hb)
    rw [← nI_0, nI_eq (by omega) (by omega)] at this
    exact this
  subst c0
  clear hb
  refine wS_l rfl ?_
  refine wSeq (wS_l (by simp only [e_fI, e_fLd, e_fLr, e_fB, e_fD, e_fC, e_fT, e_fAnd, e_fOr, e_fNot, e_fCC, e_fIf, e_gI, e_gR, e_aI, e_aR, e_aN, e_cV, e_cS, e_fNil, e_fAi, e_fAr, e_sSeq, e_sSkip, e_sSt, e_sSr, e_sInc, e_sRI, e_sRR, e_sRV, e_sIf, e_sCall, e_sPI, e_sPZ, e_sPR, e_sPO, e_sAI, e_sAZ, e_sAO, e_sAR, e_sPopI, e_sPopR, e_sCopy, e_mI, e_mZ, e_mR, e_mV, jAdd_n, jMul_n, z0, z1, Option.bind_some, List.getElem?_cons_zero, List.getElem?_cons_succ, List.set_cons_zero, List.set_cons_succ, eq_self, if_true, ite_and, ite_or, ite_I, ite_bI, ite_bJ, bI_ne, bI_01, List.cons_append, List.nil_append, Bool.false_eq_true, if_false, gT26_8 h, wT34 h hs6]; rfl) ?_)
  have hF2 : FX (fun a i => 34 ≤ a ∧ a ≤ 36 ∧ i = s) ρ (up ρ 34 s (nI r)) := (FX.r _ ρ).u ⟨by omega, by omega, rfl⟩
  have hB2 := hB1.nn hF2
  have hM2 : MD (up ρ 34 s (nI r)) s r 0 := ⟨by simp [up], hM1.2.1, hM1.2.2⟩
  have hN2 := toN hF2
  generalize up ρ 34 s (nI r) = υ at hB2 hM2 hN2 ⊢
  have eo' : obj A (nI r) = nI 0 := eo.trans ec
  rcases hr4 with rfl | rfl | rfl | rfl
  · omega
  · refine wSeq (wIf (by simp only [e_fI, e_fLd, e_fLr, e_fB, e_fD, e_fC, e_fT, e_fAnd, e_fOr, e_fNot, e_fCC, e_fIf, e_gI, e_gR, e_aI, e_aR, e_aN, e_cV, e_cS, e_fNil, e_fAi, e_fAr, e_sSeq, e_sSkip, e_sSt, e_sSr, e_sInc, e_sRI, e_sRR, e_sRV, e_sIf, e_sCall, e_sPI, e_sPZ, e_sPR, e_sPO, e_sAI, e_sAZ, e_sAO, e_sAR, e_sPopI, e_sPopR, e_sCopy, e_mI, e_mZ, e_mR, e_mV, jAdd_n, jMul_n, z0, z1, Option.bind_some, List.getElem?_cons_zero, List.getElem?_cons_succ, List.set_cons_zero, List.set_cons_succ, eq_self, if_true, ite_and, ite_or, ite_I, ite_bI, ite_bJ, bI_ne, bI_01, List.cons_append, List.nil_append, Bool.false_eq_true, if_false]; rfl) (fun hb => ?_) (fun hb => ?_))
    · exact absurd hb (by decide)
    refine wS_l rfl ?_
    refine wIf (by simp only [e_fI, e_fLd, e_fLr, e_fB, e_fD, e_fC, e_fT, e_fAnd, e_fOr, e_fNot, e_fCC, e_fIf, e_gI, e_gR, e_aI, e_aR, e_aN, e_cV, e_cS, e_fNil, e_fAi, e_fAr, e_sSeq, e_sSkip, e_sSt, e_sSr, e_sInc, e_sRI, e_sRR, e_sRV, e_sIf, e_sCall, e_sPI, e_sPZ, e_sPR, e_sPO, e_sAI, e_sAZ, e_sAO, e_sAR, e_sPopI, e_sPopR, e_sCopy, e_mI, e_mZ, e_mR, e_mV, jAdd_n, jMul_n, z0, z1, Option.bind_some, List.getElem?_cons_zero, List.getElem?_cons_succ, List.set_cons_zero, List.set_cons_succ, eq_self, if_true, ite_and, ite_or, ite_I, ite_bI, ite_bJ, bI_ne, bI_01, List.cons_append, List.nil_append, Bool.false_eq_true, if_false]; rfl) (fun hb => ?_) (fun hb => ?_)
    · exact absurd hb (by decide)
    refine wS_l rfl ?_
    refine wS_r rfl ⟨rfl, υ, rfl, entering A ?_ υ hB2 hM2 hN2 eo'⟩
    have x1 : en1 A (nI 2) = A := by unfold en1; rw [show jEq (nI 2) (nI 4) = false by decide, Bool.false_and, if_neg Bool.false_ne_true]
    rw [x1]
    unfold en2
    rw [show jEq (nI 2) (nI 8) = false by decide, Bool.false_and, if_neg Bool.false_ne_true]
  · have m2 : m = 2 := by omega
    refine wSeq (wIf (by simp only [e_fI, e_fLd, e_fLr, e_fB, e_fD, e_fC, e_fT, e_fAnd, e_fOr, e_fNot, e_fCC, e_fIf, e_gI, e_gR, e_aI, e_aR, e_aN, e_cV, e_cS, e_fNil, e_fAi, e_fAr, e_sSeq, e_sSkip, e_sSt, e_sSr, e_sInc, e_sRI, e_sRR, e_sRV, e_sIf, e_sCall, e_sPI, e_sPZ, e_sPR, e_sPO, e_sAI, e_sAZ, e_sAO, e_sAR, e_sPopI, e_sPopR, e_sCopy, e_mI, e_mZ, e_mR, e_mV, jAdd_n, jMul_n, z0, z1, Option.bind_some, List.getElem?_cons_zero, List.getElem?_cons_succ, List.set_cons_zero, List.set_cons_succ, eq_self, if_true, ite_and, ite_or, ite_I, ite_bI, ite_bJ, bI_ne, bI_01, List.cons_append, List.nil_append, Bool.false_eq_true, if_false]; rfl) (fun hb => ?_) (fun hb => ?_))
    · refine wS_l (by simp only [e_fI, e_fLd, e_fLr, e_fB, e_fD, e_fC, e_fT, e_fAnd, e_fOr, e_fNot, e_fCC, e_fIf, e_gI, e_gR, e_aI, e_aR, e_aN, e_cV, e_cS, e_fNil, e_fAi, e_fAr, e_sSeq, e_sSkip, e_sSt, e_sSr, e_sInc, e_sRI, e_sRR, e_sRV, e_sIf, e_sCall, e_sPI, e_sPZ, e_sPR, e_sPO, e_sAI, e_sAZ, e_sAO, e_sAR, e_sPopI, e_sPopR, e_sCopy, e_mI, e_mZ, e_mR, e_mV, jAdd_n, jMul_n, z0, z1, Option.bind_some, List.getElem?_cons_zero, List.getElem?_cons_succ, List.set_cons_zero, List.set_cons_succ, eq_self, if_true, ite_and, ite_or, ite_I, ite_bI, ite_bJ, bI_ne, bI_01, List.cons_append, List.nil_append, Bool.false_eq_true, if_false, gT26_12 h, wT38 h hs6]; rfl) ?_
      refine wIf (by simp only [e_fI, e_fLd, e_fLr, e_fB, e_fD, e_fC, e_fT, e_fAnd, e_fOr, e_fNot, e_fCC, e_fIf, e_gI, e_gR, e_aI, e_aR, e_aN, e_cV, e_cS, e_fNil, e_fAi, e_fAr, e_sSeq, e_sSkip, e_sSt, e_sSr, e_sInc, e_sRI, e_sRR, e_sRV, e_sIf, e_sCall, e_sPI, e_sPZ, e_sPR, e_sPO, e_sAI, e_sAZ, e_sAO, e_sAR, e_sPopI, e_sPopR, e_sCopy, e_mI, e_mZ, e_mR, e_mV, jAdd_n, jMul_n, z0, z1, Option.bind_some, List.getElem?_cons_zero, List.getElem?_cons_succ, List.set_cons_zero, List.set_cons_succ, eq_self, if_true, ite_and, ite_or, ite_I, ite_bI, ite_bJ, bI_ne, bI_01, List.cons_append, List.nil_append, Bool.false_eq_true, if_false]; rfl) (fun hb => ?_) (fun hb => ?_)
      · exact absurd hb (by decide)
      refine wS_l rfl ?_
      refine wS_r rfl ⟨rfl, _, rfl, entering (up A 3 8 (nI 0)) ?_ _ (by rw [s23_u (by omega)]; exact hB2.u38) (hM2.sc (s := s) ((FX.r _ υ).u SC.x8)) (hN2.u (Or.inl SC.x8)) eo'⟩
      have x1 : en1 A (nI 4) = up A 3 8 (nI 0) := by unfold en1; rw [pr, m2, if_pos (by decide)]
      rw [x1]
      unfold en2
      rw [show jEq (nI 4) (nI 8) = false by decide, Bool.false_and, if_neg Bool.false_ne_true]
    · exact absurd hb (by decide)
  · have m4 : m = 4 := by omega
    refine wSeq (wIf (by simp only [e_fI, e_fLd, e_fLr, e_fB, e_fD, e_fC, e_fT, e_fAnd, e_fOr, e_fNot, e_fCC, e_fIf, e_gI, e_gR, e_aI, e_aR, e_aN, e_cV, e_cS, e_fNil, e_fAi, e_fAr, e_sSeq, e_sSkip, e_sSt, e_sSr, e_sInc, e_sRI, e_sRR, e_sRV, e_sIf, e_sCall, e_sPI, e_sPZ, e_sPR, e_sPO, e_sAI, e_sAZ, e_sAO, e_sAR, e_sPopI, e_sPopR, e_sCopy, e_mI, e_mZ, e_mR, e_mV, jAdd_n, jMul_n, z0, z1, Option.bind_some, List.getElem?_cons_zero, List.getElem?_cons_succ, List.set_cons_zero, List.set_cons_succ, eq_self, if_true, ite_and, ite_or, ite_I, ite_bI, ite_bJ, bI_ne, bI_01, List.cons_append, List.nil_append, Bool.false_eq_true, if_false]; rfl) (fun hb => ?_) (fun hb => ?_))
    · exact absurd hb (by decide)
    refine wS_l rfl ?_
    refine wIf (by simp only [e_fI, e_fLd, e_fLr, e_fB, e_fD, e_fC, e_fT, e_fAnd, e_fOr, e_fNot, e_fCC, e_fIf, e_gI, e_gR, e_aI, e_aR, e_aN, e_cV, e_cS, e_fNil, e_fAi, e_fAr, e_sSeq, e_sSkip, e_sSt, e_sSr, e_sInc, e_sRI, e_sRR, e_sRV, e_sIf, e_sCall, e_sPI, e_sPZ, e_sPR, e_sPO, e_sAI, e_sAZ, e_sAO, e_sAR, e_sPopI, e_sPopR, e_sCopy, e_mI, e_mZ, e_mR, e_mV, jAdd_n, jMul_n, z0, z1, Option.bind_some, List.getElem?_cons_zero, List.getElem?_cons_succ, List.set_cons_zero, List.set_cons_succ, eq_self, if_true, ite_and, ite_or, ite_I, ite_bI, ite_bJ, bI_ne, bI_01, List.cons_append, List.nil_append, Bool.false_eq_true, if_false]; rfl) (fun hb => ?_) (fun hb => ?_)
    · refine wS_l (by simp only [e_fI, e_fLd, e_fLr, e_fB, e_fD, e_fC, e_fT, e_fAnd, e_fOr, e_fNot, e_fCC, e_fIf, e_gI, e_gR, e_aI, e_aR, e_aN, e_cV, e_cS, e_fNil, e_fAi, e_fAr, e_sSeq, e_sSkip, e_sSt, e_sSr, e_sInc, e_sRI, e_sRR, e_sRV, e_sIf, e_sCall, e_sPI, e_sPZ, e_sPR, e_sPO, e_sAI, e_sAZ, e_sAO, e_sAR, e_sPopI, e_sPopR, e_sCopy, e_mI, e_mZ, e_mR, e_mV, jAdd_n, jMul_n, z0, z1, Option.bind_some, List.getElem?_cons_zero, List.getElem?_cons_succ, List.set_cons_zero, List.set_cons_succ, eq_self, if_true, ite_and, ite_or, ite_I, ite_bI, ite_bJ, bI_ne, bI_01, List.cons_append, List.nil_append, Bool.false_eq_true, if_false, gT26_13 h, wT39 h hs6]; rfl) ?_
      refine wS_r rfl ⟨rfl, _, rfl, entering (up A 3 9 (nI 0)) ?_ _ (by rw [s23_u (by omega)]; exact hB2.u39) (hM2.sc (s := s) ((FX.r _ υ).u SC.x9)) (hN2.u (Or.inl SC.x9)) eo'⟩
      have x1 : en1 A (nI 8) = A := by unfold en1; rw [show jEq (nI 8) (nI 4) = false by decide, Bool.false_and, if_neg Bool.false_ne_true]
      rw [x1]
      unfold en2
      rw [pr, m4, if_pos (by decide)]
    · exact absurd hb (by decide)
end TRN2
