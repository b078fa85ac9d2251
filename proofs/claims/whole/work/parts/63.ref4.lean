/-! the reference: a row is written -/
def clk (A : sg) (c k : Nat) : sg := fun j i => if (j = 6 + c ∨ j = 11 + c) ∧ i < k then nI 0 else A j i
/-- a byte is put where it belongs -/
def stA (A : sg) (b : Nat) (v : Int32) : sg := if own (A 4) b = -1 then plA A b v else chA A (cN (A 4) b) (b - pN (A 4) (cN (A 4) b)) v
/-- at the last byte of an area of outputs DONE becomes what FRESH is -/
def cm1 (A : sg) (b : Nat) : sg := if own (A 4) b ≠ -1 ∧ A 4 (32 + cN (A 4) b * 4 + 2) = nI 2 ∧ b + 1 = pN (A 4) (cN (A 4) b) + qN (A 4) (cN (A 4) b) then cmA A (cN (A 4) b) else A
def stF (A : sg) (f : Nat) (v : Nat → Int32) : Nat → sg
  | 0 => A
  | k + 1 => stA (stF A f v k) (f + k) (v k)
def cmF (A : sg) (f : Nat) : Nat → sg
  | 0 => A
  | k + 1 => cm1 (cmF A f k) (f + k)
theorem okA.st {A : sg} {b : Nat} {v : Int32} (h : okA A) (hv : byt v) : okA (stA A b v) := by
  unfold stA
  split
  · exact h.pl hv
  · exact h.ch hv
theorem okA.sf {A : sg} {f : Nat} {v : Nat → Int32} (h : okA A) : ∀ k, (∀ j, j < k → byt (v j)) → okA (stF A f v k)
  | 0, _ => h
  | k + 1, hv => (okA.sf h k (fun j hj => hv j (by omega))).st (hv k (by omega))
theorem okA.c1 {A : sg} {b : Nat} (h : okA A) (hb : b < 128) : okA (cm1 A b) := by
  unfold cm1
  rcases own_d h.b hb with e | ⟨e, -, hc, -⟩
  · rw [if_neg (fun q => q.1 e)]
    exact h
  · split
    · exact h.cm hc
    · exact h
theorem cm1_4 {A : sg} {b : Nat} : cm1 A b 4 = A 4 := by
  unfold cm1
  split
  · unfold cmA
    split
    · rw [up_ne (by omega), up_ne (by omega), up_ne (by omega), cpy_ne (by omega)]
    · rw [up_ne (by omega), cpy_ne (by omega)]
  · rfl
theorem up_cm {A : sg} {a i b j : Nat} {v w : Int32} (h : ¬ (a = b ∧ i = j)) : up (up A a i v) b j w = up (up A b j w) a i v := by
  funext x y
  unfold up
  by_cases p : x = a ∧ y = i
  · obtain ⟨rfl, rfl⟩ := p
    rw [if_neg h, if_pos ⟨rfl, rfl⟩, if_pos ⟨rfl, rfl⟩]
  · rw [if_neg p, if_neg p]
section REF5
variable {n s c f l b : Nat} {σ A : sg}
theorem q_R_wipe (h : okB n) (hA : RR σ s A) (hs6 : s < 6) (hc : c < 4) : ∃ τ, G_R_wipe [.ref 26, .int (nI s), .int (nI c)] (hs n σ) = some (hs n τ) ∧ RR τ s (wipA A c) ∧ FX (SC s) σ τ := by
  refine mV_s (Nat.le_of_ble_eq_true rfl) ?_
  simp only [jx_L0, List.map_cons, List.map_nil, List.length_cons, List.length_nil, Nat.reduceAdd, Nat.reduceSub, List.replicate, List.cons_append, List.nil_append]
  unfold P_R_wipe
  refine wSeq (wSeq (wS_l (by simp only [e_fI, e_fLd, e_fLr, e_fB, e_fD, e_fC, e_fT, e_fAnd, e_fOr, e_fNot, e_fCC, e_fIf, e_gI, e_gR, e_aI, e_aR, e_aN, e_cV, e_cS, e_fNil, e_fAi, e_fAr, e_sSeq, e_sSkip, e_sSt, e_sSr, e_sInc, e_sRI, e_sRR, e_sRV, e_sIf, e_sCall, e_sPI, e_sPZ, e_sPR, e_sPO, e_sAI, e_sAZ, e_sAO, e_sAR, e_sPopI, e_sPopR, e_sCopy, e_mI, e_mZ, e_mR, e_mV, jAdd_n, jMul_n, z0, z1, Option.bind_some, List.getElem?_cons_zero, List.getElem?_cons_succ, List.set_cons_zero, List.set_cons_succ, eq_self, if_true, ite_and, ite_or, ite_I, ite_bI, ite_bJ, bI_ne, bI_01, List.cons_append, List.nil_append, Bool.false_eq_true, if_false]; rfl) ?_))
  refine wWh (I := fun i L H => L = [some (.ref 26), some (.int (nI s)), some (.int (nI c)), some (.int (nI (8 * (4 * s + c) + i)))] ∧ ∃ τ, H = hs n τ ∧ RR τ s (clk A c i) ∧ FX (SC s) σ τ) (e := 8) ?_ ?_ ?_ 600 0 _ _ (by omega) (by omega) ⟨rfl, σ, rfl, by
      have : clk A c 0 = A := by
        funext j i
        unfold clk
        rw [if_neg (by omega)]
      rw [this]
      exact hA, FX.r _ σ⟩
  · rintro i _ _ ⟨rfl, τ, rfl, -⟩ hi
    simp only [e_fI, e_fLd, e_fLr, e_fB, e_fD, e_fC, e_fT, e_fAnd, e_fOr, e_fNot, e_fCC, e_fIf, e_gI, e_gR, e_aI, e_aR, e_aN, e_cV, e_cS, e_fNil, e_fAi, e_fAr, e_sSeq, e_sSkip, e_sSt, e_sSr, e_sInc, e_sRI, e_sRR, e_sRV, e_sIf, e_sCall, e_sPI, e_sPZ, e_sPR, e_sPO, e_sAI, e_sAZ, e_sAO, e_sAR, e_sPopI, e_sPopR, e_sCopy, e_mI, e_mZ, e_mR, e_mV, jAdd_n, jMul_n, z0, z1, Option.bind_some, List.getElem?_cons_zero, List.getElem?_cons_succ, List.set_cons_zero, List.set_cons_succ, eq_self, if_true, ite_and, ite_or, ite_I, ite_bI, ite_bJ, bI_ne, bI_01, List.cons_append, List.nil_append, Bool.false_eq_true, if_false, jLt, nI_ltI (show 8 * (4 * s + c) + i < 2 ^ 31 by omega) (show 8 * (4 * s + c) + 8 < 2 ^ 31 by omega), Nat.add_lt_add_iff_left]
  · rintro i _ _ ⟨rfl, τ, rfl, hR, hF⟩ hi
    refine wSeq (wSeq (wS_l (by simp only [e_fI, e_fLd, e_fLr, e_fB, e_fD, e_fC, e_fT, e_fAnd, e_fOr, e_fNot, e_fCC, e_fIf, e_gI, e_gR, e_aI, e_aR, e_aN, e_cV, e_cS, e_fNil, e_fAi, e_fAr, e_sSeq, e_sSkip, e_sSt, e_sSr, e_sInc, e_sRI, e_sRR, e_sRV, e_sIf, e_sCall, e_sPI, e_sPZ, e_sPR, e_sPO, e_sAI, e_sAZ, e_sAO, e_sAR, e_sPopI, e_sPopR, e_sCopy, e_mI, e_mZ, e_mR, e_mV, jAdd_n, jMul_n, z0, z1, Option.bind_some, List.getElem?_cons_zero, List.getElem?_cons_succ, List.set_cons_zero, List.set_cons_succ, eq_self, if_true, ite_and, ite_or, ite_I, ite_bI, ite_bJ, bI_ne, bI_01, List.cons_append, List.nil_append, Bool.false_eq_true, if_false, gT26_5 h, wT31 h (show 8 * (4 * s + c) + i < 192 by omega)]; rfl) ?_))
    refine wS_l (by simp only [e_fI, e_fLd, e_fLr, e_fB, e_fD, e_fC, e_fT, e_fAnd, e_fOr, e_fNot, e_fCC, e_fIf, e_gI, e_gR, e_aI, e_aR, e_aN, e_cV, e_cS, e_fNil, e_fAi, e_fAr, e_sSeq, e_sSkip, e_sSt, e_sSr, e_sInc, e_sRI, e_sRR, e_sRV, e_sIf, e_sCall, e_sPI, e_sPZ, e_sPR, e_sPO, e_sAI, e_sAZ, e_sAO, e_sAR, e_sPopI, e_sPopR, e_sCopy, e_mI, e_mZ, e_mR, e_mV, jAdd_n, jMul_n, z0, z1, Option.bind_some, List.getElem?_cons_zero, List.getElem?_cons_succ, List.set_cons_zero, List.set_cons_succ, eq_self, if_true, ite_and, ite_or, ite_I, ite_bI, ite_bJ, bI_ne, bI_01, List.cons_append, List.nil_append, Bool.false_eq_true, if_false, gT26_6 h, wT32 h (show 8 * (4 * s + c) + i < 192 by omega)]; rfl) ?_
    refine wS_l (by simp only [e_fI, e_fLd, e_fLr, e_fB, e_fD, e_fC, e_fT, e_fAnd, e_fOr, e_fNot, e_fCC, e_fIf, e_gI, e_gR, e_aI, e_aR, e_aN, e_cV, e_cS, e_fNil, e_fAi, e_fAr, e_sSeq, e_sSkip, e_sSt, e_sSr, e_sInc, e_sRI, e_sRR, e_sRV, e_sIf, e_sCall, e_sPI, e_sPZ, e_sPR, e_sPO, e_sAI, e_sAZ, e_sAO, e_sAR, e_sPopI, e_sPopR, e_sCopy, e_mI, e_mZ, e_mR, e_mV, jAdd_n, jMul_n, z0, z1, Option.bind_some, List.getElem?_cons_zero, List.getElem?_cons_succ, List.set_cons_zero, List.set_cons_succ, eq_self, if_true, ite_and, ite_or, ite_I, ite_bI, ite_bJ, bI_ne, bI_01, List.cons_append, List.nil_append, Bool.false_eq_true, if_false, nI_add]; rfl) ?_
    refine ⟨rfl, _, rfl, ?_, (hF.u (SC.f hc hi)).u (SC.d hc hi)⟩
    have : clk A c (i + 1) = up (up (clk A c i) (6 + c) i (nI 0)) (11 + c) i (nI 0) := by
      funext j m
      unfold up clk
      by_cases h1 : j = 6 + c <;> by_cases h2 : j = 11 + c <;> by_cases h3 : m = i <;> by_cases h4 : m < i <;> simp [h1, h2, h3, h4] <;> omega
    rw [this]
    exact (hR.u6 hc hi).u11 hc hi
  · rintro _ _ ⟨rfl, τ, rfl, hR, hF⟩
    refine wSeq (wS_l (by simp only [e_fI, e_fLd, e_fLr, e_fB, e_fD, e_fC, e_fT, e_fAnd, e_fOr, e_fNot, e_fCC, e_fIf, e_gI, e_gR, e_aI, e_aR, e_aN, e_cV, e_cS, e_fNil, e_fAi, e_fAr, e_sSeq, e_sSkip, e_sSt, e_sSr, e_sInc, e_sRI, e_sRR, e_sRV, e_sIf, e_sCall, e_sPI, e_sPZ, e_sPR, e_sPO, e_sAI, e_sAZ, e_sAO, e_sAR, e_sPopI, e_sPopR, e_sCopy, e_mI, e_mZ, e_mR, e_mV, jAdd_n, jMul_n, z0, z1, Option.bind_some, List.getElem?_cons_zero, List.getElem?_cons_succ, List.set_cons_zero, List.set_cons_succ, eq_self, if_true, ite_and, ite_or, ite_I, ite_bI, ite_bJ, bI_ne, bI_01, List.cons_append, List.nil_append, Bool.false_eq_true, if_false, gT26_7 h, wT33 h (show 4 * s + c < 24 by omega)]; rfl) ?_)
    have hR1 : RR (up τ 33 (4 * s + c) (nI 0)) s (up (clrA A c) 15 c (nI 0)) := hR.u15 hc
    have hF1 : FX (SC s) σ (up τ 33 (4 * s + c) (nI 0)) := hF.u (SC.w hc)
    obtain ⟨ρ, e5, hR5, hF5⟩ := q_R_fill (v := nI 0) h hR1 hs6 hc
    refine wSeq (wS_l (by simp only [e_fI, e_fLd, e_fLr, e_fB, e_fD, e_fC, e_fT, e_fAnd, e_fOr, e_fNot, e_fCC, e_fIf, e_gI, e_gR, e_aI, e_aR, e_aN, e_cV, e_cS, e_fNil, e_fAi, e_fAr, e_sSeq, e_sSkip, e_sSt, e_sSr, e_sInc, e_sRI, e_sRR, e_sRV, e_sIf, e_sCall, e_sPI, e_sPZ, e_sPR, e_sPO, e_sAI, e_sAZ, e_sAO, e_sAR, e_sPopI, e_sPopR, e_sCopy, e_mI, e_mZ, e_mR, e_mV, jAdd_n, jMul_n, z0, z1, Option.bind_some, List.getElem?_cons_zero, List.getElem?_cons_succ, List.set_cons_zero, List.set_cons_succ, eq_self, if_true, ite_and, ite_or, ite_I, ite_bI, ite_bJ, bI_ne, bI_01, List.cons_append, List.nil_append, Bool.false_eq_true, if_false, kT26 h, e5]; rfl) ?_)
    exact wS_r rfl ⟨rfl, ρ, rfl, hR5, hF1.t hF5⟩
theorem q_R_store {v : Int32} (h : okB n) (hA : RR σ s A) (hs6 : s < 6) (hok : okA A) (hb : b < 128) : ∃ τ, G_R_store [.ref 26, .int (nI s), .int (nI b), .int v] (hs n σ) = some (hs n τ) ∧ RR τ s (stA A b v) ∧ FX (SC s) σ τ := by
  refine mV_s (Nat.le_of_ble_eq_true rfl) ?_
  simp only [jx_L0, List.map_cons, List.map_nil, List.length_cons, List.length_nil, Nat.reduceAdd, Nat.reduceSub, List.replicate, List.cons_append, List.nil_append]
  unfold P_R_store stA
  refine wSeq (wS_l (by simp only [e_fI, e_fLd, e_fLr, e_fB, e_fD, e_fC, e_fT, e_fAnd, e_fOr, e_fNot, e_fCC, e_fIf, e_gI, e_gR, e_aI, e_aR, e_aN, e_cV, e_cS, e_fNil, e_fAi, e_fAr, e_sSeq, e_sSkip, e_sSt, e_sSr, e_sInc, e_sRI, e_sRR, e_sRV, e_sIf, e_sCall, e_sPI, e_sPZ, e_sPR, e_sPO, e_sAI, e_sAZ, e_sAO, e_sAR, e_sPopI, e_sPopR, e_sCopy, e_mI, e_mZ, e_mR, e_mV, jAdd_n, jMul_n, z0, z1, Option.bind_some, List.getElem?_cons_zero, List.getElem?_cons_succ, List.set_cons_zero, List.set_cons_succ, eq_self, if_true, ite_and, ite_or, ite_I, ite_bI, ite_bJ, bI_ne, bI_01, List.cons_append, List.nil_append, Bool.false_eq_true, if_false, kT26 h, q_R_channelOf h hA hs6]; rfl) ?_)
  rcases own_q hok.b hb with o | ⟨c, hc, o, ep, -, -, -, h8, -, hpb, hbq⟩
  · rw [o, if_pos rfl]
    refine wSeq (wIf (by simp only [e_fI, e_fLd, e_fLr, e_fB, e_fD, e_fC, e_fT, e_fAnd, e_fOr, e_fNot, e_fCC, e_fIf, e_gI, e_gR, e_aI, e_aR, e_aN, e_cV, e_cS, e_fNil, e_fAi, e_fAr, e_sSeq, e_sSkip, e_sSt, e_sSr, e_sInc, e_sRI, e_sRR, e_sRV, e_sIf, e_sCall, e_sPI, e_sPZ, e_sPR, e_sPO, e_sAI, e_sAZ, e_sAO, e_sAR, e_sPopI, e_sPopR, e_sCopy, e_mI, e_mZ, e_mR, e_mV, jAdd_n, jMul_n, z0, z1, Option.bind_some, List.getElem?_cons_zero, List.getElem?_cons_succ, List.set_cons_zero, List.set_cons_succ, eq_self, if_true, ite_and, ite_or, ite_I, ite_bI, ite_bJ, bI_ne, bI_01, List.cons_append, List.nil_append, Bool.false_eq_true, if_false, gm1]; rfl) (fun hb => ?_) (fun hb => ?_))
    · cases hb
    refine wS_l rfl ?_
    clear hb
    unfold plA
    have e1 : (jEq (nI b) (nI 2) || jEq (nI b) (nI 3) || (jGe (nI b) (nI 48) && jLe (nI b) (nI 51))) = decide (b = 2 ∨ b = 3 ∨ 48 ≤ b ∧ b < 52) := by
      rw [jEq_n (by omega) (by omega), jEq_n (by omega) (by omega)]
      unfold jGe jLe
      rw [Bool.eq_iff_iff]
      simp only [Bool.or_eq_true, Bool.and_eq_true, decide_eq_true_eq, nI_leI (show 48 < 2 ^ 31 by omega) (show b < 2 ^ 31 by omega), nI_leI (show b < 2 ^ 31 by omega) (show 51 < 2 ^ 31 by omega)]
      omega
    refine wSeq (wIf (by simp only [e_fI, e_fLd, e_fLr, e_fB, e_fD, e_fC, e_fT, e_fAnd, e_fOr, e_fNot, e_fCC, e_fIf, e_gI, e_gR, e_aI, e_aR, e_aN, e_cV, e_cS, e_fNil, e_fAi, e_fAr, e_sSeq, e_sSkip, e_sSt, e_sSr, e_sInc, e_sRI, e_sRR, e_sRV, e_sIf, e_sCall, e_sPI, e_sPZ, e_sPR, e_sPO, e_sAI, e_sAZ, e_sAO, e_sAR, e_sPopI, e_sPopR, e_sCopy, e_mI, e_mZ, e_mR, e_mV, jAdd_n, jMul_n, z0, z1, Option.bind_some, List.getElem?_cons_zero, List.getElem?_cons_succ, List.set_cons_zero, List.set_cons_succ, eq_self, if_true, ite_and, ite_or, ite_I, ite_bI, ite_bJ, bI_ne, bI_01, List.cons_append, List.nil_append, Bool.false_eq_true, if_false, e1]; rfl) (fun hb => ?_) (fun hb => ?_))
    · rw [if_pos (of_decide_eq_true hb)]
      exact wS_r rfl ⟨rfl, σ, rfl, hA, FX.r _ σ⟩
    rw [if_neg (of_decide_eq_false hb)]
    refine wS_l rfl ?_
    clear hb
    refine wSeq (wS_l (by simp only [e_fI, e_fLd, e_fLr, e_fB, e_fD, e_fC, e_fT, e_fAnd, e_fOr, e_fNot, e_fCC, e_fIf, e_gI, e_gR, e_aI, e_aR, e_aN, e_cV, e_cS, e_fNil, e_fAi, e_fAr, e_sSeq, e_sSkip, e_sSt, e_sSr, e_sInc, e_sRI, e_sRR, e_sRV, e_sIf, e_sCall, e_sPI, e_sPZ, e_sPR, e_sPO, e_sAI, e_sAZ, e_sAO, e_sAR, e_sPopI, e_sPopR, e_sCopy, e_mI, e_mZ, e_mR, e_mV, jAdd_n, jMul_n, z0, z1, Option.bind_some, List.getElem?_cons_zero, List.getElem?_cons_succ, List.set_cons_zero, List.set_cons_succ, eq_self, if_true, ite_and, ite_or, ite_I, ite_bI, ite_bJ, bI_ne, bI_01, List.cons_append, List.nil_append, Bool.false_eq_true, if_false, gT26_4 h, wT30 h (show 128 * s + b < 768 by omega)]; rfl) ?_)
    have hA1 : RR (up σ 30 (128 * s + b) v) s (up A 4 b v) := hA.u4 (by omega)
    have hF1 : FX (SC s) σ (up σ 30 (128 * s + b) v) := (FX.r _ σ).u (SC.m (by omega))
    refine wSeq (wIf (by simp only [e_fI, e_fLd, e_fLr, e_fB, e_fD, e_fC, e_fT, e_fAnd, e_fOr, e_fNot, e_fCC, e_fIf, e_gI, e_gR, e_aI, e_aR, e_aN, e_cV, e_cS, e_fNil, e_fAi, e_fAr, e_sSeq, e_sSkip, e_sSt, e_sSr, e_sInc, e_sRI, e_sRR, e_sRV, e_sIf, e_sCall, e_sPI, e_sPZ, e_sPR, e_sPO, e_sAI, e_sAZ, e_sAO, e_sAR, e_sPopI, e_sPopR, e_sCopy, e_mI, e_mZ, e_mR, e_mV, jAdd_n, jMul_n, z0, z1, Option.bind_some, List.getElem?_cons_zero, List.getElem?_cons_succ, List.set_cons_zero, List.set_cons_succ, eq_self, if_true, ite_and, ite_or, ite_I, ite_bI, ite_bJ, bI_ne, bI_01, List.cons_append, List.nil_append, Bool.false_eq_true, if_false, jEq_n (show b < 2 ^ 31 by omega) (show 1 < 2 ^ 31 by omega)]; rfl) (fun hb => ?_) (fun hb => ?_))
    · have b1 := of_decide_eq_true hb
      rw [if_pos b1]
      refine wS_l (by simp only [e_fI, e_fLd, e_fLr, e_fB, e_fD, e_fC, e_fT, e_fAnd, e_fOr, e_fNot, e_fCC, e_fIf, e_gI, e_gR, e_aI, e_aR, e_aN, e_cV, e_cS, e_fNil, e_fAi, e_fAr, e_sSeq, e_sSkip, e_sSt, e_sSr, e_sInc, e_sRI, e_sRR, e_sRV, e_sIf, e_sCall, e_sPI, e_sPZ, e_sPR, e_sPO, e_sAI, e_sAZ, e_sAO, e_sAR, e_sPopI, e_sPopR, e_sCopy, e_mI, e_mZ, e_mR, e_mV, jAdd_n, jMul_n, z0, z1, Option.bind_some, List.getElem?_cons_zero, List.getElem?_cons_succ, List.set_cons_zero, List.set_cons_succ, eq_self, if_true, ite_and, ite_or, ite_I, ite_bI, ite_bJ, bI_ne, bI_01, List.cons_append, List.nil_append, Bool.false_eq_true, if_false, gT26_11 h, wT37 h hs6]; rfl) ?_
      have hA2 := hA1.u37 (v := nI 1)
      have hF2 := hF1.u (v := nI 1) (SC.x7 (s := s))
      refine wSeq (wIf (by simp only [e_fI, e_fLd, e_fLr, e_fB, e_fD, e_fC, e_fT, e_fAnd, e_fOr, e_fNot, e_fCC, e_fIf, e_gI, e_gR, e_aI, e_aR, e_aN, e_cV, e_cS, e_fNil, e_fAi, e_fAr, e_sSeq, e_sSkip, e_sSt, e_sSr, e_sInc, e_sRI, e_sRR, e_sRV, e_sIf, e_sCall, e_sPI, e_sPZ, e_sPR, e_sPO, e_sAI, e_sAZ, e_sAO, e_sAR, e_sPopI, e_sPopR, e_sCopy, e_mI, e_mZ, e_mR, e_mV, jAdd_n, jMul_n, z0, z1, Option.bind_some, List.getElem?_cons_zero, List.getElem?_cons_succ, List.set_cons_zero, List.set_cons_succ, eq_self, if_true, ite_and, ite_or, ite_I, ite_bI, ite_bJ, bI_ne, bI_01, List.cons_append, List.nil_append, Bool.false_eq_true, if_false, jGe, jLe, nI_leI (show 32 < 2 ^ 31 by omega) (show b < 2 ^ 31 by omega), nI_leI (show b < 2 ^ 31 by omega) (show 47 < 2 ^ 31 by omega)]; rfl) (fun hb => ?_) (fun hb => ?_))
      · have := of_decide_eq_true (Bool.and_eq_true_iff.mp hb).1
        omega
      · refine wS_l rfl ?_
        exact wS_r rfl ⟨rfl, _, rfl, hA2, hF2⟩
    · have b1 := of_decide_eq_false hb
      rw [if_neg b1]
      refine wS_l rfl ?_
      clear hb
      have e2 : (jGe (nI b) (nI 32) && jLe (nI b) (nI 47)) = decide (32 ≤ b ∧ b < 48) := by
        unfold jGe jLe
        rw [Bool.eq_iff_iff]
        simp only [Bool.and_eq_true, decide_eq_true_eq, nI_leI (show 32 < 2 ^ 31 by omega) (show b < 2 ^ 31 by omega), nI_leI (show b < 2 ^ 31 by omega) (show 47 < 2 ^ 31 by omega)]
        omega
      refine wSeq (wIf (by simp only [e_fI, e_fLd, e_fLr, e_fB, e_fD, e_fC, e_fT, e_fAnd, e_fOr, e_fNot, e_fCC, e_fIf, e_gI, e_gR, e_aI, e_aR, e_aN, e_cV, e_cS, e_fNil, e_fAi, e_fAr, e_sSeq, e_sSkip, e_sSt, e_sSr, e_sInc, e_sRI, e_sRR, e_sRV, e_sIf, e_sCall, e_sPI, e_sPZ, e_sPR, e_sPO, e_sAI, e_sAZ, e_sAO, e_sAR, e_sPopI, e_sPopR, e_sCopy, e_mI, e_mZ, e_mR, e_mV, jAdd_n, jMul_n, z0, z1, Option.bind_some, List.getElem?_cons_zero, List.getElem?_cons_succ, List.set_cons_zero, List.set_cons_succ, eq_self, if_true, ite_and, ite_or, ite_I, ite_bI, ite_bJ, bI_ne, bI_01, List.cons_append, List.nil_append, Bool.false_eq_true, if_false, e2]; rfl) (fun hb => ?_) (fun hb => ?_))
      · have b2 := of_decide_eq_true hb
        rw [if_pos b2]
        obtain ⟨ρ, e5, hR5, hF5⟩ := q_R_wipe (c := (b - 32) / 4) h hA1 hs6 (by omega)
        refine wS_l (by simp only [e_fI, e_fLd, e_fLr, e_fB, e_fD, e_fC, e_fT, e_fAnd, e_fOr, e_fNot, e_fCC, e_fIf, e_gI, e_gR, e_aI, e_aR, e_aN, e_cV, e_cS, e_fNil, e_fAi, e_fAr, e_sSeq, e_sSkip, e_sSt, e_sSr, e_sInc, e_sRI, e_sRR, e_sRV, e_sIf, e_sCall, e_sPI, e_sPZ, e_sPR, e_sPO, e_sAI, e_sAZ, e_sAO, e_sAR, e_sPopI, e_sPopR, e_sCopy, e_mI, e_mZ, e_mR, e_mV, jAdd_n, jMul_n, z0, z1, Option.bind_some, List.getElem?_cons_zero, List.getElem?_cons_succ, List.set_cons_zero, List.set_cons_succ, eq_self, if_true, ite_and, ite_or, ite_I, ite_bI, ite_bJ, bI_ne, bI_01, List.cons_append, List.nil_append, Bool.false_eq_true, if_false, kT26 h, jSub_n (show 32 ≤ b by omega), (show ¬ nI 4 = 0 by decide), jDiv, pk_div (show b - 32 < 2 ^ 31 by omega) (show 0 < 4 by omega) (show 4 < 2 ^ 31 by omega), e5]; rfl) ?_
        exact wS_r rfl ⟨rfl, ρ, rfl, hR5, hF1.t hF5⟩
      · rw [if_neg (of_decide_eq_false hb)]
        refine wS_l rfl ?_
        exact wS_r rfl ⟨rfl, _, rfl, hA1, hF1⟩
  · have ec : cN (A 4) b = c := by unfold cN; rw [o]; exact nC_n (by omega)
    rw [if_neg (by rw [o]; exact m1_ne hc), ec, o]
    have ce := q_R_cell (b := b) (p := pN (A 4) c) h hA hs6 hc ep hpb
    unfold chA
    refine wSeq (wIf (by simp only [e_fI, e_fLd, e_fLr, e_fB, e_fD, e_fC, e_fT, e_fAnd, e_fOr, e_fNot, e_fCC, e_fIf, e_gI, e_gR, e_aI, e_aR, e_aN, e_cV, e_cS, e_fNil, e_fAi, e_fAr, e_sSeq, e_sSkip, e_sSt, e_sSr, e_sInc, e_sRI, e_sRR, e_sRV, e_sIf, e_sCall, e_sPI, e_sPZ, e_sPR, e_sPO, e_sAI, e_sAZ, e_sAO, e_sAR, e_sPopI, e_sPopR, e_sCopy, e_mI, e_mZ, e_mR, e_mV, jAdd_n, jMul_n, z0, z1, Option.bind_some, List.getElem?_cons_zero, List.getElem?_cons_succ, List.set_cons_zero, List.set_cons_succ, eq_self, if_true, ite_and, ite_or, ite_I, ite_bI, ite_bJ, bI_ne, bI_01, List.cons_append, List.nil_append, Bool.false_eq_true, if_false, gN0 (show c < 2 ^ 31 by omega)]; rfl) (fun hb => ?_) (fun hb => ?_))
    · refine wSeq (wIf (by simp only [e_fI, e_fLd, e_fLr, e_fB, e_fD, e_fC, e_fT, e_fAnd, e_fOr, e_fNot, e_fCC, e_fIf, e_gI, e_gR, e_aI, e_aR, e_aN, e_cV, e_cS, e_fNil, e_fAi, e_fAr, e_sSeq, e_sSkip, e_sSt, e_sSr, e_sInc, e_sRI, e_sRR, e_sRV, e_sIf, e_sCall, e_sPI, e_sPZ, e_sPR, e_sPO, e_sAI, e_sAZ, e_sAO, e_sAR, e_sPopI, e_sPopR, e_sCopy, e_mI, e_mZ, e_mR, e_mV, jAdd_n, jMul_n, z0, z1, Option.bind_some, List.getElem?_cons_zero, List.getElem?_cons_succ, List.set_cons_zero, List.set_cons_succ, eq_self, if_true, ite_and, ite_or, ite_I, ite_bI, ite_bJ, bI_ne, bI_01, List.cons_append, List.nil_append, Bool.false_eq_true, if_false, kT26 h, q_R_kind h hA hs6 hc]; rfl) (fun hb => ?_) (fun hb => ?_))
      · rw [if_pos (of_decide_eq_true hb)]
        refine wSeq (wS_l (by simp only [e_fI, e_fLd, e_fLr, e_fB, e_fD, e_fC, e_fT, e_fAnd, e_fOr, e_fNot, e_fCC, e_fIf, e_gI, e_gR, e_aI, e_aR, e_aN, e_cV, e_cS, e_fNil, e_fAi, e_fAr, e_sSeq, e_sSkip, e_sSt, e_sSr, e_sInc, e_sRI, e_sRR, e_sRV, e_sIf, e_sCall, e_sPI, e_sPZ, e_sPR, e_sPO, e_sAI, e_sAZ, e_sAO, e_sAR, e_sPopI, e_sPopR, e_sCopy, e_mI, e_mZ, e_mR, e_mV, jAdd_n, jMul_n, z0, z1, Option.bind_some, List.getElem?_cons_zero, List.getElem?_cons_succ, List.set_cons_zero, List.set_cons_succ, eq_self, if_true, ite_and, ite_or, ite_I, ite_bI, ite_bJ, bI_ne, bI_01, List.cons_append, List.nil_append, Bool.false_eq_true, if_false, kT26 h, gT26_6 h, ce, wT32 h (show 8 * (4 * s + c) + (b - pN (A 4) c) < 192 by omega)]; rfl) ?_)
        obtain ⟨ρ, e5, hR5, hF5⟩ := q_R_fill (v := nI 1) h (hA.u11 (i := b - pN (A 4) c) (v := v) hc (by omega)) hs6 hc
        refine wS_l (by simp only [e_fI, e_fLd, e_fLr, e_fB, e_fD, e_fC, e_fT, e_fAnd, e_fOr, e_fNot, e_fCC, e_fIf, e_gI, e_gR, e_aI, e_aR, e_aN, e_cV, e_cS, e_fNil, e_fAi, e_fAr, e_sSeq, e_sSkip, e_sSt, e_sSr, e_sInc, e_sRI, e_sRR, e_sRV, e_sIf, e_sCall, e_sPI, e_sPZ, e_sPR, e_sPO, e_sAI, e_sAZ, e_sAO, e_sAR, e_sPopI, e_sPopR, e_sCopy, e_mI, e_mZ, e_mR, e_mV, jAdd_n, jMul_n, z0, z1, Option.bind_some, List.getElem?_cons_zero, List.getElem?_cons_succ, List.set_cons_zero, List.set_cons_succ, eq_self, if_true, ite_and, ite_or, ite_I, ite_bI, ite_bJ, bI_ne, bI_01, List.cons_append, List.nil_append, Bool.false_eq_true, if_false, kT26 h, e5]; rfl) ?_
        exact wS_r rfl ⟨rfl, ρ, rfl, hR5, ((FX.r _ σ).u (SC.d hc (by omega))).t hF5⟩
      · rw [if_neg (of_decide_eq_false hb)]
        refine wS_l (by simp only [e_fI, e_fLd, e_fLr, e_fB, e_fD, e_fC, e_fT, e_fAnd, e_fOr, e_fNot, e_fCC, e_fIf, e_gI, e_gR, e_aI, e_aR, e_aN, e_cV, e_cS, e_fNil, e_fAi, e_fAr, e_sSeq, e_sSkip, e_sSt, e_sSr, e_sInc, e_sRI, e_sRR, e_sRV, e_sIf, e_sCall, e_sPI, e_sPZ, e_sPR, e_sPO, e_sAI, e_sAZ, e_sAO, e_sAR, e_sPopI, e_sPopR, e_sCopy, e_mI, e_mZ, e_mR, e_mV, jAdd_n, jMul_n, z0, z1, Option.bind_some, List.getElem?_cons_zero, List.getElem?_cons_succ, List.set_cons_zero, List.set_cons_succ, eq_self, if_true, ite_and, ite_or, ite_I, ite_bI, ite_bJ, bI_ne, bI_01, List.cons_append, List.nil_append, Bool.false_eq_true, if_false, kT26 h, gT26_5 h, ce, wT31 h (show 8 * (4 * s + c) + (b - pN (A 4) c) < 192 by omega)]; rfl) ?_
        exact wS_r rfl ⟨rfl, _, rfl, hA.u6 hc (by omega), (FX.r _ σ).u (SC.f hc (by omega))⟩
    · cases hb
theorem q_R_writes {v : Nat → Int32} (h : okB n) (hA : RR σ s A) (hs6 : s < 6) (hok : okA A) (hfl : f ≤ l) (hl : l < 128) (hr : l < f + 9) (hv : ∀ j, f + j ≤ l → σ 50 j = v j ∧ byt (v j)) : ∃ τ, G_R_writes [.ref 26, .int (nI s), .int (nI f), .int (nI l)] (hs n σ) = some (hs n τ) ∧ RR τ s (cmF (stF A f v (l + 1 - f)) f (l + 1 - f)) ∧ FX (SC s) σ τ := by
  refine mV_s (Nat.le_of_ble_eq_true rfl) ?_
  simp only [jx_L0, List.map_cons, List.map_nil, List.length_cons, List.length_nil, Nat.reduceAdd, Nat.reduceSub, List.replicate, List.cons_append, List.nil_append]
  unfold P_R_writes
  refine wSeq (wSeq (wS_l (by simp only [e_fI, e_fLd, e_fLr, e_fB, e_fD, e_fC, e_fT, e_fAnd, e_fOr, e_fNot, e_fCC, e_fIf, e_gI, e_gR, e_aI, e_aR, e_aN, e_cV, e_cS, e_fNil, e_fAi, e_fAr, e_sSeq, e_sSkip, e_sSt, e_sSr, e_sInc, e_sRI, e_sRR, e_sRV, e_sIf, e_sCall, e_sPI, e_sPZ, e_sPR, e_sPO, e_sAI, e_sAZ, e_sAO, e_sAR, e_sPopI, e_sPopR, e_sCopy, e_mI, e_mZ, e_mR, e_mV, jAdd_n, jMul_n, z0, z1, Option.bind_some, List.getElem?_cons_zero, List.getElem?_cons_succ, List.set_cons_zero, List.set_cons_succ, eq_self, if_true, ite_and, ite_or, ite_I, ite_bI, ite_bJ, bI_ne, bI_01, List.cons_append, List.nil_append, Bool.false_eq_true, if_false]; rfl) ?_))
  refine wWh (I := fun b L H => f ≤ b ∧ ∃ τ x5, L = [some (.ref 26), some (.int (nI s)), some (.int (nI f)), some (.int (nI l)), some (.int (nI b)), x5] ∧ H = hs n τ ∧ RR τ s (stF A f v (b - f)) ∧ FX (SC s) σ τ) (e := l + 1) ?_ ?_ ?_ 600 f _ _ (by omega) (by omega) ⟨Nat.le_refl _, σ, _, rfl, rfl, by rw [Nat.sub_self]; exact hA, FX.r _ σ⟩
  · rintro b _ _ ⟨-, τ, x5, rfl, rfl, -⟩ hi
    simp only [e_fI, e_fLd, e_fLr, e_fB, e_fD, e_fC, e_fT, e_fAnd, e_fOr, e_fNot, e_fCC, e_fIf, e_gI, e_gR, e_aI, e_aR, e_aN, e_cV, e_cS, e_fNil, e_fAi, e_fAr, e_sSeq, e_sSkip, e_sSt, e_sSr, e_sInc, e_sRI, e_sRR, e_sRV, e_sIf, e_sCall, e_sPI, e_sPZ, e_sPR, e_sPO, e_sAI, e_sAZ, e_sAO, e_sAR, e_sPopI, e_sPopR, e_sCopy, e_mI, e_mZ, e_mR, e_mV, jAdd_n, jMul_n, z0, z1, Option.bind_some, List.getElem?_cons_zero, List.getElem?_cons_succ, List.set_cons_zero, List.set_cons_succ, eq_self, if_true, ite_and, ite_or, ite_I, ite_bI, ite_bJ, bI_ne, bI_01, List.cons_append, List.nil_append, Bool.false_eq_true, if_false, jLe, nI_leI (show b < 2 ^ 31 by omega) (show l < 2 ^ 31 by omega), Nat.lt_succ_iff]
  · rintro b _ _ ⟨hfb, τ, x5, rfl, rfl, hR, hF⟩ hi
    have e50 : τ 50 (b - f) = v (b - f) := by
      rw [hF 50 _ (fun q => by have := q.b; omega)]
      exact (hv (b - f) (by omega)).1
    obtain ⟨ρ, e5, hR5, hF5⟩ := q_R_store (b := b) (v := v (b - f)) h hR hs6 (hok.sf _ (fun j hj => (hv j (by omega)).2)) (by omega)
    refine wSeq (wS_l (by simp only [e_fI, e_fLd, e_fLr, e_fB, e_fD, e_fC, e_fT, e_fAnd, e_fOr, e_fNot, e_fCC, e_fIf, e_gI, e_gR, e_aI, e_aR, e_aN, e_cV, e_cS, e_fNil, e_fAi, e_fAr, e_sSeq, e_sSkip, e_sSt, e_sSr, e_sInc, e_sRI, e_sRR, e_sRV, e_sIf, e_sCall, e_sPI, e_sPZ, e_sPR, e_sPO, e_sAI, e_sAZ, e_sAO, e_sAR, e_sPopI, e_sPopR, e_sCopy, e_mI, e_mZ, e_mR, e_mV, jAdd_n, jMul_n, z0, z1, Option.bind_some, List.getElem?_cons_zero, List.getElem?_cons_succ, List.set_cons_zero, List.set_cons_succ, eq_self, if_true, ite_and, ite_or, ite_I, ite_bI, ite_bJ, bI_ne, bI_01, List.cons_append, List.nil_append, Bool.false_eq_true, if_false, kT26 h, gT26_28 h, jSub_n hfb, iT50 h (show b - f < 9 by omega), e50, e5]; rfl) ?_)
    refine wS_l (by simp only [e_fI, e_fLd, e_fLr, e_fB, e_fD, e_fC, e_fT, e_fAnd, e_fOr, e_fNot, e_fCC, e_fIf, e_gI, e_gR, e_aI, e_aR, e_aN, e_cV, e_cS, e_fNil, e_fAi, e_fAr, e_sSeq, e_sSkip, e_sSt, e_sSr, e_sInc, e_sRI, e_sRR, e_sRV, e_sIf, e_sCall, e_sPI, e_sPZ, e_sPR, e_sPO, e_sAI, e_sAZ, e_sAO, e_sAR, e_sPopI, e_sPopR, e_sCopy, e_mI, e_mZ, e_mR, e_mV, jAdd_n, jMul_n, z0, z1, Option.bind_some, List.getElem?_cons_zero, List.getElem?_cons_succ, List.set_cons_zero, List.set_cons_succ, eq_self, if_true, ite_and, ite_or, ite_I, ite_bI, ite_bJ, bI_ne, bI_01, List.cons_append, List.nil_append, Bool.false_eq_true, if_false, nI_add]; rfl) ?_
    refine ⟨by omega, ρ, _, rfl, rfl, ?_, hF.t hF5⟩
    rw [show b + 1 - f = (b - f) + 1 by omega]
    show RR ρ s (stA _ _ _)
    rw [show f + (b - f) = b by omega]
    exact hR5
  · rintro _ _ ⟨-, τ, x5, rfl, rfl, hR, hF⟩
    have hok1 := hok.sf (f := f) (v := v) (l + 1 - f) (fun j hj => (hv j (by omega)).2)
    generalize stF A f v (l + 1 - f) = B at hR hok1 ⊢
    have okc : ∀ k, f + k ≤ 128 → okA (cmF B f k) := fun k => by
      induction k with
      | zero => exact fun _ => hok1
      | succ k ih => exact fun hk => (ih (by omega)).c1 (by omega)
    refine wSeq (wSeq (wS_l (by simp only [e_fI, e_fLd, e_fLr, e_fB, e_fD, e_fC, e_fT, e_fAnd, e_fOr, e_fNot, e_fCC, e_fIf, e_gI, e_gR, e_aI, e_aR, e_aN, e_cV, e_cS, e_fNil, e_fAi, e_fAr, e_sSeq, e_sSkip, e_sSt, e_sSr, e_sInc, e_sRI, e_sRR, e_sRV, e_sIf, e_sCall, e_sPI, e_sPZ, e_sPR, e_sPO, e_sAI, e_sAZ, e_sAO, e_sAR, e_sPopI, e_sPopR, e_sCopy, e_mI, e_mZ, e_mR, e_mV, jAdd_n, jMul_n, z0, z1, Option.bind_some, List.getElem?_cons_zero, List.getElem?_cons_succ, List.set_cons_zero, List.set_cons_succ, eq_self, if_true, ite_and, ite_or, ite_I, ite_bI, ite_bJ, bI_ne, bI_01, List.cons_append, List.nil_append, Bool.false_eq_true, if_false]; rfl) ?_))
    refine wWh (I := fun b L H => f ≤ b ∧ ∃ τ x5, L = [some (.ref 26), some (.int (nI s)), some (.int (nI f)), some (.int (nI l)), some (.int (nI b)), x5] ∧ H = hs n τ ∧ RR τ s (cmF B f (b - f)) ∧ FX (SC s) σ τ) (e := l + 1) ?_ ?_ ?_ 600 f _ _ (by omega) (by omega) ⟨Nat.le_refl _, τ, _, rfl, rfl, by rw [Nat.sub_self]; exact hR, hF⟩
    · rintro b _ _ ⟨-, τ, x5, rfl, rfl, -⟩ hi
      simp only [e_fI, e_fLd, e_fLr, e_fB, e_fD, e_fC, e_fT, e_fAnd, e_fOr, e_fNot, e_fCC, e_fIf, e_gI, e_gR, e_aI, e_aR, e_aN, e_cV, e_cS, e_fNil, e_fAi, e_fAr, e_sSeq, e_sSkip, e_sSt, e_sSr, e_sInc, e_sRI, e_sRR, e_sRV, e_sIf, e_sCall, e_sPI, e_sPZ, e_sPR, e_sPO, e_sAI, e_sAZ, e_sAO, e_sAR, e_sPopI, e_sPopR, e_sCopy, e_mI, e_mZ, e_mR, e_mV, jAdd_n, jMul_n, z0, z1, Option.bind_some, List.getElem?_cons_zero, List.getElem?_cons_succ, List.set_cons_zero, List.set_cons_succ, eq_self, if_true, ite_and, ite_or, ite_I, ite_bI, ite_bJ, bI_ne, bI_01, List.cons_append, List.nil_append, Bool.false_eq_true, if_false, jLe, nI_leI (show b < 2 ^ 31 by omega) (show l < 2 ^ 31 by omega), Nat.lt_succ_iff]
    · rintro b _ _ ⟨hfb, τ, x5, rfl, rfl, hR, hF⟩ hi
      have ok := okc (b - f) (by omega)
      have ee : cmF B f (b + 1 - f) = cm1 (cmF B f (b - f)) b := by
        rw [show b + 1 - f = (b - f) + 1 by omega]
        show cm1 _ _ = _
        rw [show f + (b - f) = b by omega]
      rw [ee]
      generalize cmF B f (b - f) = C at hR ok ⊢
      refine wSeq (wSeq (wS_l (by simp only [e_fI, e_fLd, e_fLr, e_fB, e_fD, e_fC, e_fT, e_fAnd, e_fOr, e_fNot, e_fCC, e_fIf, e_gI, e_gR, e_aI, e_aR, e_aN, e_cV, e_cS, e_fNil, e_fAi, e_fAr, e_sSeq, e_sSkip, e_sSt, e_sSr, e_sInc, e_sRI, e_sRR, e_sRV, e_sIf, e_sCall, e_sPI, e_sPZ, e_sPR, e_sPO, e_sAI, e_sAZ, e_sAO, e_sAR, e_sPopI, e_sPopR, e_sCopy, e_mI, e_mZ, e_mR, e_mV, jAdd_n, jMul_n, z0, z1, Option.bind_some, List.getElem?_cons_zero, List.getElem?_cons_succ, List.set_cons_zero, List.set_cons_succ, eq_self, if_true, ite_and, ite_or, ite_I, ite_bI, ite_bJ, bI_ne, bI_01, List.cons_append, List.nil_append, Bool.false_eq_true, if_false, kT26 h, q_R_channelOf h hR hs6]; rfl) ?_))
      rcases own_q ok.b (show b < 128 by omega) with o | ⟨c, hc, o, ep, eq, -, h1, h8, h128, hpb, hbq⟩
      · rw [o]
        have : cm1 C b = C := by unfold cm1; rw [if_neg (fun q => q.1 o)]
        rw [this]
        refine wIf (by simp only [e_fI, e_fLd, e_fLr, e_fB, e_fD, e_fC, e_fT, e_fAnd, e_fOr, e_fNot, e_fCC, e_fIf, e_gI, e_gR, e_aI, e_aR, e_aN, e_cV, e_cS, e_fNil, e_fAi, e_fAr, e_sSeq, e_sSkip, e_sSt, e_sSr, e_sInc, e_sRI, e_sRR, e_sRV, e_sIf, e_sCall, e_sPI, e_sPZ, e_sPR, e_sPO, e_sAI, e_sAZ, e_sAO, e_sAR, e_sPopI, e_sPopR, e_sCopy, e_mI, e_mZ, e_mR, e_mV, jAdd_n, jMul_n, z0, z1, Option.bind_some, List.getElem?_cons_zero, List.getElem?_cons_succ, List.set_cons_zero, List.set_cons_succ, eq_self, if_true, ite_and, ite_or, ite_I, ite_bI, ite_bJ, bI_ne, bI_01, List.cons_append, List.nil_append, Bool.false_eq_true, if_false, lm1]; rfl) (fun hb => ?_) (fun hb => ?_)
        · refine wS_l rfl ?_
          refine wS_l (by simp only [e_fI, e_fLd, e_fLr, e_fB, e_fD, e_fC, e_fT, e_fAnd, e_fOr, e_fNot, e_fCC, e_fIf, e_gI, e_gR, e_aI, e_aR, e_aN, e_cV, e_cS, e_fNil, e_fAi, e_fAr, e_sSeq, e_sSkip, e_sSt, e_sSr, e_sInc, e_sRI, e_sRR, e_sRV, e_sIf, e_sCall, e_sPI, e_sPZ, e_sPR, e_sPO, e_sAI, e_sAZ, e_sAO, e_sAR, e_sPopI, e_sPopR, e_sCopy, e_mI, e_mZ, e_mR, e_mV, jAdd_n, jMul_n, z0, z1, Option.bind_some, List.getElem?_cons_zero, List.getElem?_cons_succ, List.set_cons_zero, List.set_cons_succ, eq_self, if_true, ite_and, ite_or, ite_I, ite_bI, ite_bJ, bI_ne, bI_01, List.cons_append, List.nil_append, Bool.false_eq_true, if_false, nI_add]; rfl) ?_
          exact ⟨by omega, τ, _, rfl, rfl, hR, hF⟩
        · cases hb
      · have ec : cN (C 4) b = c := by unfold cN; rw [o]; exact nC_n (by omega)
        rw [o]
        have em : jNe (nI b) (nI (pN (C 4) c + qN (C 4) c - 1)) = decide (¬ b = pN (C 4) c + qN (C 4) c - 1) := by
          unfold jNe
          rw [decide_eq_decide, nI_eq (by omega) (by omega)]
        refine wIf (by simp only [e_fI, e_fLd, e_fLr, e_fB, e_fD, e_fC, e_fT, e_fAnd, e_fOr, e_fNot, e_fCC, e_fIf, e_gI, e_gR, e_aI, e_aR, e_aN, e_cV, e_cS, e_fNil, e_fAi, e_fAr, e_sSeq, e_sSkip, e_sSt, e_sSr, e_sInc, e_sRI, e_sRR, e_sRV, e_sIf, e_sCall, e_sPI, e_sPZ, e_sPR, e_sPO, e_sAI, e_sAZ, e_sAO, e_sAR, e_sPopI, e_sPopR, e_sCopy, e_mI, e_mZ, e_mR, e_mV, jAdd_n, jMul_n, z0, z1, Option.bind_some, List.getElem?_cons_zero, List.getElem?_cons_succ, List.set_cons_zero, List.set_cons_succ, eq_self, if_true, ite_and, ite_or, ite_I, ite_bI, ite_bJ, bI_ne, bI_01, List.cons_append, List.nil_append, Bool.false_eq_true, if_false, kT26 h, lN0 (show c < 2 ^ 31 by omega), q_R_kind h hR hs6 hc, q_R_begin h hR hs6 hc, q_R_many h hR hs6 hc, ep, eq, jSub_n (show 1 ≤ pN (C 4) c + qN (C 4) c by omega), em]; rfl) (fun hb => ?_) (fun hb => ?_)
        · have : cm1 C b = C := by
            unfold cm1
            rw [ec, if_neg]
            rintro ⟨-, k1, k2⟩
            rw [k1, decide_eq_false (by omega)] at hb
            exact absurd hb (by decide)
          rw [this]
          refine wS_l rfl ?_
          refine wS_l (by simp only [e_fI, e_fLd, e_fLr, e_fB, e_fD, e_fC, e_fT, e_fAnd, e_fOr, e_fNot, e_fCC, e_fIf, e_gI, e_gR, e_aI, e_aR, e_aN, e_cV, e_cS, e_fNil, e_fAi, e_fAr, e_sSeq, e_sSkip, e_sSt, e_sSr, e_sInc, e_sRI, e_sRR, e_sRV, e_sIf, e_sCall, e_sPI, e_sPZ, e_sPR, e_sPO, e_sAI, e_sAZ, e_sAO, e_sAR, e_sPopI, e_sPopR, e_sCopy, e_mI, e_mZ, e_mR, e_mV, jAdd_n, jMul_n, z0, z1, Option.bind_some, List.getElem?_cons_zero, List.getElem?_cons_succ, List.set_cons_zero, List.set_cons_succ, eq_self, if_true, ite_and, ite_or, ite_I, ite_bI, ite_bJ, bI_ne, bI_01, List.cons_append, List.nil_append, Bool.false_eq_true, if_false, nI_add]; rfl) ?_
          exact ⟨by omega, τ, _, rfl, rfl, hR, hF⟩
        · have hb2 := Bool.or_eq_false_iff.mp hb
          have k1 : C 4 (32 + c * 4 + 2) = nI 2 := by
            have := of_decide_eq_false hb2.1
            exact Classical.not_not.mp this
          have k2 : b = pN (C 4) c + qN (C 4) c - 1 := Classical.not_not.mp (of_decide_eq_false hb2.2)
          have : cm1 C b = cmA C c := by
            unfold cm1
            rw [ec, if_pos ⟨by rw [o]; exact m1_ne hc, k1, by omega⟩]
          rw [this]
          unfold cmA
          obtain ⟨ρ, e5, hR5, hF5⟩ := q_R_copy (w := true) h hR hs6 hc
          rw [bI_t] at e5
          rw [if_pos rfl] at hR5
          refine wSeq (wS_l (by simp only [e_fI, e_fLd, e_fLr, e_fB, e_fD, e_fC, e_fT, e_fAnd, e_fOr, e_fNot, e_fCC, e_fIf, e_gI, e_gR, e_aI, e_aR, e_aN, e_cV, e_cS, e_fNil, e_fAi, e_fAr, e_sSeq, e_sSkip, e_sSt, e_sSr, e_sInc, e_sRI, e_sRR, e_sRV, e_sIf, e_sCall, e_sPI, e_sPZ, e_sPR, e_sPO, e_sAI, e_sAZ, e_sAO, e_sAR, e_sPopI, e_sPopR, e_sCopy, e_mI, e_mZ, e_mR, e_mV, jAdd_n, jMul_n, z0, z1, Option.bind_some, List.getElem?_cons_zero, List.getElem?_cons_succ, List.set_cons_zero, List.set_cons_succ, eq_self, if_true, ite_and, ite_or, ite_I, ite_bI, ite_bJ, bI_ne, bI_01, List.cons_append, List.nil_append, Bool.false_eq_true, if_false, kT26 h, e5]; rfl) ?_)
          refine wSeq (wS_l (by simp only [e_fI, e_fLd, e_fLr, e_fB, e_fD, e_fC, e_fT, e_fAnd, e_fOr, e_fNot, e_fCC, e_fIf, e_gI, e_gR, e_aI, e_aR, e_aN, e_cV, e_cS, e_fNil, e_fAi, e_fAr, e_sSeq, e_sSkip, e_sSt, e_sSr, e_sInc, e_sRI, e_sRR, e_sRV, e_sIf, e_sCall, e_sPI, e_sPZ, e_sPR, e_sPO, e_sAI, e_sAZ, e_sAO, e_sAR, e_sPopI, e_sPopR, e_sCopy, e_mI, e_mZ, e_mR, e_mV, jAdd_n, jMul_n, z0, z1, Option.bind_some, List.getElem?_cons_zero, List.getElem?_cons_succ, List.set_cons_zero, List.set_cons_succ, eq_self, if_true, ite_and, ite_or, ite_I, ite_bI, ite_bJ, bI_ne, bI_01, List.cons_append, List.nil_append, Bool.false_eq_true, if_false, gT26_7 h, wT33 h (show 4 * s + c < 24 by omega)]; rfl) ?_)
          have hR6 := hR5.u15 (v := nI 1) hc
          have hF6 := (hF.t hF5).u (v := nI 1) (SC.w (s := s) hc)
          refine wIf (by simp only [e_fI, e_fLd, e_fLr, e_fB, e_fD, e_fC, e_fT, e_fAnd, e_fOr, e_fNot, e_fCC, e_fIf, e_gI, e_gR, e_aI, e_aR, e_aN, e_cV, e_cS, e_fNil, e_fAi, e_fAr, e_sSeq, e_sSkip, e_sSt, e_sSr, e_sInc, e_sRI, e_sRR, e_sRV, e_sIf, e_sCall, e_sPI, e_sPZ, e_sPR, e_sPO, e_sAI, e_sAZ, e_sAO, e_sAR, e_sPopI, e_sPopR, e_sCopy, e_mI, e_mZ, e_mR, e_mV, jAdd_n, jMul_n, z0, z1, Option.bind_some, List.getElem?_cons_zero, List.getElem?_cons_succ, List.set_cons_zero, List.set_cons_succ, eq_self, if_true, ite_and, ite_or, ite_I, ite_bI, ite_bJ, bI_ne, bI_01, List.cons_append, List.nil_append, Bool.false_eq_true, if_false, jEq_n (show c < 2 ^ 31 by omega) (show 2 < 2 ^ 31 by omega)]; rfl) (fun hb => ?_) (fun hb => ?_)
          · rw [if_pos (of_decide_eq_true hb)]
            refine wSeq (wS_l (by simp only [e_fI, e_fLd, e_fLr, e_fB, e_fD, e_fC, e_fT, e_fAnd, e_fOr, e_fNot, e_fCC, e_fIf, e_gI, e_gR, e_aI, e_aR, e_aN, e_cV, e_cS, e_fNil, e_fAi, e_fAr, e_sSeq, e_sSkip, e_sSt, e_sSr, e_sInc, e_sRI, e_sRR, e_sRV, e_sIf, e_sCall, e_sPI, e_sPZ, e_sPR, e_sPO, e_sAI, e_sAZ, e_sAO, e_sAR, e_sPopI, e_sPopR, e_sCopy, e_mI, e_mZ, e_mR, e_mV, jAdd_n, jMul_n, z0, z1, Option.bind_some, List.getElem?_cons_zero, List.getElem?_cons_succ, List.set_cons_zero, List.set_cons_succ, eq_self, if_true, ite_and, ite_or, ite_I, ite_bI, ite_bJ, bI_ne, bI_01, List.cons_append, List.nil_append, Bool.false_eq_true, if_false, gT26_13 h, wT39 h hs6]; rfl) ?_)
            refine wS_l (by simp only [e_fI, e_fLd, e_fLr, e_fB, e_fD, e_fC, e_fT, e_fAnd, e_fOr, e_fNot, e_fCC, e_fIf, e_gI, e_gR, e_aI, e_aR, e_aN, e_cV, e_cS, e_fNil, e_fAi, e_fAr, e_sSeq, e_sSkip, e_sSt, e_sSr, e_sInc, e_sRI, e_sRR, e_sRV, e_sIf, e_sCall, e_sPI, e_sPZ, e_sPR, e_sPO, e_sAI, e_sAZ, e_sAO, e_sAR, e_sPopI, e_sPopR, e_sCopy, e_mI, e_mZ, e_mR, e_mV, jAdd_n, jMul_n, z0, z1, Option.bind_some, List.getElem?_cons_zero, List.getElem?_cons_succ, List.set_cons_zero, List.set_cons_succ, eq_self, if_true, ite_and, ite_or, ite_I, ite_bI, ite_bJ, bI_ne, bI_01, List.cons_append, List.nil_append, Bool.false_eq_true, if_false, gT26_12 h, wT38 h hs6]; rfl) ?_
            refine wS_l (by simp only [e_fI, e_fLd, e_fLr, e_fB, e_fD, e_fC, e_fT, e_fAnd, e_fOr, e_fNot, e_fCC, e_fIf, e_gI, e_gR, e_aI, e_aR, e_aN, e_cV, e_cS, e_fNil, e_fAi, e_fAr, e_sSeq, e_sSkip, e_sSt, e_sSr, e_sInc, e_sRI, e_sRR, e_sRV, e_sIf, e_sCall, e_sPI, e_sPZ, e_sPR, e_sPO, e_sAI, e_sAZ, e_sAO, e_sAR, e_sPopI, e_sPopR, e_sCopy, e_mI, e_mZ, e_mR, e_mV, jAdd_n, jMul_n, z0, z1, Option.bind_some, List.getElem?_cons_zero, List.getElem?_cons_succ, List.set_cons_zero, List.set_cons_succ, eq_self, if_true, ite_and, ite_or, ite_I, ite_bI, ite_bJ, bI_ne, bI_01, List.cons_append, List.nil_append, Bool.false_eq_true, if_false, nI_add]; rfl) ?_
            refine ⟨by omega, _, _, rfl, rfl, ?_, (hF6.u SC.x9).u SC.x8⟩
            have hR7 := (hR6.u39 (v := nI 0)).u38 (v := nI 1)
            rw [up_cm (a := 3) (i := 9) (b := 3) (j := 8) (by omega)] at hR7
            exact hR7
          · rw [if_neg (of_decide_eq_false hb)]
            refine wS_l rfl ?_
            refine wS_l (by simp only [e_fI, e_fLd, e_fLr, e_fB, e_fD, e_fC, e_fT, e_fAnd, e_fOr, e_fNot, e_fCC, e_fIf, e_gI, e_gR, e_aI, e_aR, e_aN, e_cV, e_cS, e_fNil, e_fAi, e_fAr, e_sSeq, e_sSkip, e_sSt, e_sSr, e_sInc, e_sRI, e_sRR, e_sRV, e_sIf, e_sCall, e_sPI, e_sPZ, e_sPR, e_sPO, e_sAI, e_sAZ, e_sAO, e_sAR, e_sPopI, e_sPopR, e_sCopy, e_mI, e_mZ, e_mR, e_mV, jAdd_n, jMul_n, z0, z1, Option.bind_some, List.getElem?_cons_zero, List.getElem?_cons_succ, List.set_cons_zero, List.set_cons_succ, eq_self, if_true, ite_and, ite_or, ite_I, ite_bI, ite_bJ, bI_ne, bI_01, List.cons_append, List.nil_append, Bool.false_eq_true, if_false, nI_add]; rfl) ?_
            exact ⟨by omega, _, _, rfl, rfl, hR6, hF6⟩
    · rintro _ _ ⟨-, τ, x5, rfl, rfl, hR, hF⟩
      exact wS_r rfl ⟨rfl, τ, rfl, hR, hF⟩
end REF5
