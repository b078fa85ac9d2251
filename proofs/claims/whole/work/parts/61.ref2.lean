/-! the reference: channels -/
/-- a channel's byte of FULL is 0 or 1 -/
def okF (A : sg) : Prop := ∀ c, c < 4 → A 4 (48 + c) = nI 0 ∨ A 4 (48 + c) = nI 1
theorem okF.ne {A : sg} {c : Nat} (h : okF A) (hc : c < 4) : (!jEq (A 4 (48 + c)) (nI 1)) = jEq (A 4 (48 + c)) 0 := by
  rcases h c hc with e | e <;> rw [e] <;> decide
theorem wSw {fe : jx_fI} {gs : List jx_fS} {gd g : jx_fS} {L : hp_L} {h h1 : hp_H} {m : Nat} {Q : hp_L → hp_H → Prop} {R : Option Value → hp_H → Prop} (hm : m < 2 ^ 31) (e1 : fe L h = some (nI m, h1)) (eg : gs.getD m gd = g) (k : wS g L h1 Q R) : wS (sSw fe 0 gs gd) L h Q R := by
  unfold wS at k ⊢
  rw [sSw_e hm e1, eg]
  exact k
theorem gm1 : jGe (-1) 0 = false := by decide
theorem lm1 : jLt (-1) 0 = true := by decide
theorem gN0 {c : Nat} (h : c < 2 ^ 31) : jGe (nI c) 0 = true := by
  rw [← nI_0]
  exact decide_eq_true ((nI_leI (by omega) h).mpr (by omega))
theorem lN0 {c : Nat} (h : c < 2 ^ 31) : jLt (nI c) 0 = false := by
  rw [← nI_0]
  exact decide_eq_false (fun q => by have := (nI_ltI h (by omega)).mp q; omega)
theorem jSub_n {a b : Nat} (h : b ≤ a) : jSub (nI a) (nI b) = nI (a - b) := pk_sub h
theorem lets_rd {F wr : Nat → Int32} {c f l : Nat} (h : lets F wr c f l false = true) : F (32 + c * 4 + 2) = nI 0 ∨ F (32 + c * 4 + 2) = nI 1 := by
  unfold lets at h
  split at h
  · rename_i e
    exact Or.inl e
  split at h
  · rename_i e
    exact Or.inr e
  split at h
  · cases h
  split at h
  · simp at h
  · cases h
theorem alw_at {F wr : Nat → Int32} {f l b : Nat} {w : Bool} (h : alwR F wr f l w = true) (h1 : f ≤ b) (h2 : b ≤ l) : alw F wr f l w b = true := by
  have := List.all_eq_true.mp h (b - f) (List.mem_range.mpr (by omega))
  rwa [show f + (b - f) = b by omega] at this
section REF3
variable {n s c : Nat} {σ A : sg}
theorem q_R_full (h : okB n) (hA : RR σ s A) (hs6 : s < 6) (hc : c < 4) : G_R_full [.ref 26, .int (nI s), .int (nI c)] (hs n σ) = some (bI (jEq (A 4 (48 + c)) (nI 1)), hs n σ) := by
  refine mZ_q (Nat.le_of_ble_eq_true rfl) ?_
  simp only [jx_L0, List.map_cons, List.map_nil, List.length_cons, List.length_nil, Nat.reduceAdd, Nat.reduceSub, List.replicate, List.cons_append, List.nil_append]
  unfold P_R_full
  refine wS_r (by simp only [e_fI, e_fLd, e_fLr, e_fB, e_fD, e_fC, e_fT, e_fAnd, e_fOr, e_fNot, e_fCC, e_fIf, e_gI, e_gR, e_aI, e_aR, e_aN, e_cV, e_cS, e_fNil, e_fAi, e_fAr, e_sSeq, e_sSkip, e_sSt, e_sSr, e_sInc, e_sRI, e_sRR, e_sRV, e_sIf, e_sCall, e_sPI, e_sPZ, e_sPR, e_sPO, e_sAI, e_sAZ, e_sAO, e_sAR, e_sPopI, e_sPopR, e_sCopy, e_mI, e_mZ, e_mR, e_mV, jAdd_n, jMul_n, z0, z1, Option.bind_some, List.getElem?_cons_zero, List.getElem?_cons_succ, List.set_cons_zero, List.set_cons_succ, eq_self, if_true, ite_and, ite_or, ite_I, ite_bI, ite_bJ, bI_ne, bI_01, List.cons_append, List.nil_append, Bool.false_eq_true, if_false, kT26 h, q_R_at h hA hs6 (show 48 + c < 128 by omega)]; rfl) ?_
  exact ⟨rfl, rfl⟩
theorem q_R_fill {v : Int32} (h : okB n) (hA : RR σ s A) (hs6 : s < 6) (hc : c < 4) : ∃ τ, G_R_fill [.ref 26, .int (nI s), .int (nI c), .int v] (hs n σ) = some (hs n τ) ∧ RR τ s (up A 4 (48 + c) v) ∧ FX (SC s) σ τ := by
  refine mV_s (Nat.le_of_ble_eq_true rfl) ?_
  simp only [jx_L0, List.map_cons, List.map_nil, List.length_cons, List.length_nil, Nat.reduceAdd, Nat.reduceSub, List.replicate, List.cons_append, List.nil_append]
  unfold P_R_fill
  refine wSeq (wS_l (by simp only [e_fI, e_fLd, e_fLr, e_fB, e_fD, e_fC, e_fT, e_fAnd, e_fOr, e_fNot, e_fCC, e_fIf, e_gI, e_gR, e_aI, e_aR, e_aN, e_cV, e_cS, e_fNil, e_fAi, e_fAr, e_sSeq, e_sSkip, e_sSt, e_sSr, e_sInc, e_sRI, e_sRR, e_sRV, e_sIf, e_sCall, e_sPI, e_sPZ, e_sPR, e_sPO, e_sAI, e_sAZ, e_sAO, e_sAR, e_sPopI, e_sPopR, e_sCopy, e_mI, e_mZ, e_mR, e_mV, jAdd_n, jMul_n, z0, z1, Option.bind_some, List.getElem?_cons_zero, List.getElem?_cons_succ, List.set_cons_zero, List.set_cons_succ, eq_self, if_true, ite_and, ite_or, ite_I, ite_bI, ite_bJ, bI_ne, bI_01, List.cons_append, List.nil_append, Bool.false_eq_true, if_false, gT26_4 h, Nat.add_assoc, wT30 h (show 128 * s + (48 + c) < 768 by omega)]; rfl) ?_)
  exact wS_r rfl ⟨rfl, _, rfl, hA.u4 (by omega), (FX.r _ σ).u (SC.m (by omega))⟩
theorem cpy_st {j0 j1 i : Nat} (h : j0 ≠ j1) : up (cpy A j0 0 j1 0 i) j1 i (A j0 i) = cpy A j0 0 j1 0 (i + 1) := by
  funext a j
  unfold up cpy
  by_cases q : a = j1
  · subst q
    by_cases q2 : j = i
    · subst q2
      rw [if_pos ⟨rfl, rfl⟩, if_pos ⟨rfl, by omega, by omega⟩, Nat.zero_add, Nat.sub_zero]
    · rw [if_neg (fun e => q2 e.2)]
      by_cases q3 : j < i
      · rw [if_pos ⟨rfl, by omega, by omega⟩, if_pos ⟨rfl, by omega, by omega⟩]
      · rw [if_neg (by omega), if_neg (by omega)]
  · rw [if_neg (fun e => q e.1), if_neg (fun e => q e.1), if_neg (fun e => q e.1)]
theorem cpy_0 {j0 j1 : Nat} : cpy A j0 0 j1 0 0 = A := by
  funext a j
  unfold cpy
  rw [if_neg (by omega)]
theorem q_R_copy {w : Bool} (h : okB n) (hA : RR σ s A) (hs6 : s < 6) (hc : c < 4) : ∃ τ, G_R_copy [.ref 26, .int (nI s), .int (nI c), .int (bI w)] (hs n σ) = some (hs n τ) ∧ RR τ s (if w = true then cpy A (6 + c) 0 (11 + c) 0 8 else cpy A (11 + c) 0 (6 + c) 0 8) ∧ FX (SC s) σ τ := by
  refine mV_s (Nat.le_of_ble_eq_true rfl) ?_
  simp only [jx_L0, List.map_cons, List.map_nil, List.length_cons, List.length_nil, Nat.reduceAdd, Nat.reduceSub, List.replicate, List.cons_append, List.nil_append]
  unfold P_R_copy
  refine wSeq (wSeq (wS_l (by simp only [e_fI, e_fLd, e_fLr, e_fB, e_fD, e_fC, e_fT, e_fAnd, e_fOr, e_fNot, e_fCC, e_fIf, e_gI, e_gR, e_aI, e_aR, e_aN, e_cV, e_cS, e_fNil, e_fAi, e_fAr, e_sSeq, e_sSkip, e_sSt, e_sSr, e_sInc, e_sRI, e_sRR, e_sRV, e_sIf, e_sCall, e_sPI, e_sPZ, e_sPR, e_sPO, e_sAI, e_sAZ, e_sAO, e_sAR, e_sPopI, e_sPopR, e_sCopy, e_mI, e_mZ, e_mR, e_mV, jAdd_n, jMul_n, z0, z1, Option.bind_some, List.getElem?_cons_zero, List.getElem?_cons_succ, List.set_cons_zero, List.set_cons_succ, eq_self, if_true, ite_and, ite_or, ite_I, ite_bI, ite_bJ, bI_ne, bI_01, List.cons_append, List.nil_append, Bool.false_eq_true, if_false]; rfl) ?_))
  refine wWh (I := fun i L H => L = [some (.ref 26), some (.int (nI s)), some (.int (nI c)), some (.int (bI w)), some (.int (nI (8 * (4 * s + c) + i)))] ∧ ∃ τ, H = hs n τ ∧ RR τ s (if w = true then cpy A (6 + c) 0 (11 + c) 0 i else cpy A (11 + c) 0 (6 + c) 0 i) ∧ FX (SC s) σ τ) (e := 8) ?_ ?_ ?_ 600 0 _ _ (by omega) (by omega) ⟨rfl, σ, rfl, by rw [cpy_0, cpy_0]; cases w <;> exact hA, FX.r _ σ⟩
  · rintro i _ _ ⟨rfl, τ, rfl, -⟩ hi
    simp only [e_fI, e_fLd, e_fLr, e_fB, e_fD, e_fC, e_fT, e_fAnd, e_fOr, e_fNot, e_fCC, e_fIf, e_gI, e_gR, e_aI, e_aR, e_aN, e_cV, e_cS, e_fNil, e_fAi, e_fAr, e_sSeq, e_sSkip, e_sSt, e_sSr, e_sInc, e_sRI, e_sRR, e_sRV, e_sIf, e_sCall, e_sPI, e_sPZ, e_sPR, e_sPO, e_sAI, e_sAZ, e_sAO, e_sAR, e_sPopI, e_sPopR, e_sCopy, e_mI, e_mZ, e_mR, e_mV, jAdd_n, jMul_n, z0, z1, Option.bind_some, List.getElem?_cons_zero, List.getElem?_cons_succ, List.set_cons_zero, List.set_cons_succ, eq_self, if_true, ite_and, ite_or, ite_I, ite_bI, ite_bJ, bI_ne, bI_01, List.cons_append, List.nil_append, Bool.false_eq_true, if_false, jLt, nI_ltI (show 8 * (4 * s + c) + i < 2 ^ 31 by omega) (show 8 * (4 * s + c) + 8 < 2 ^ 31 by omega), Nat.add_lt_add_iff_left]
  · rintro i _ _ ⟨rfl, τ, rfl, hR, hF⟩ hi
    cases w with
    | true =>
      rw [if_pos rfl] at hR
      have e1 : τ 31 (8 * (4 * s + c) + i) = A (6 + c) i := by rw [hR.fr hc hi, cpy_ne (by omega)]
      refine wSeq (wIf (by simp only [e_fI, e_fLd, e_fLr, e_fB, e_fD, e_fC, e_fT, e_fAnd, e_fOr, e_fNot, e_fCC, e_fIf, e_gI, e_gR, e_aI, e_aR, e_aN, e_cV, e_cS, e_fNil, e_fAi, e_fAr, e_sSeq, e_sSkip, e_sSt, e_sSr, e_sInc, e_sRI, e_sRR, e_sRV, e_sIf, e_sCall, e_sPI, e_sPZ, e_sPR, e_sPO, e_sAI, e_sAZ, e_sAO, e_sAR, e_sPopI, e_sPopR, e_sCopy, e_mI, e_mZ, e_mR, e_mV, jAdd_n, jMul_n, z0, z1, Option.bind_some, List.getElem?_cons_zero, List.getElem?_cons_succ, List.set_cons_zero, List.set_cons_succ, eq_self, if_true, ite_and, ite_or, ite_I, ite_bI, ite_bJ, bI_ne, bI_01, List.cons_append, List.nil_append, Bool.false_eq_true, if_false]; rfl) (fun hb => ?_) (fun hb => ?_))
      · refine wS_l (by simp only [e_fI, e_fLd, e_fLr, e_fB, e_fD, e_fC, e_fT, e_fAnd, e_fOr, e_fNot, e_fCC, e_fIf, e_gI, e_gR, e_aI, e_aR, e_aN, e_cV, e_cS, e_fNil, e_fAi, e_fAr, e_sSeq, e_sSkip, e_sSt, e_sSr, e_sInc, e_sRI, e_sRR, e_sRV, e_sIf, e_sCall, e_sPI, e_sPZ, e_sPR, e_sPO, e_sAI, e_sAZ, e_sAO, e_sAR, e_sPopI, e_sPopR, e_sCopy, e_mI, e_mZ, e_mR, e_mV, jAdd_n, jMul_n, z0, z1, Option.bind_some, List.getElem?_cons_zero, List.getElem?_cons_succ, List.set_cons_zero, List.set_cons_succ, eq_self, if_true, ite_and, ite_or, ite_I, ite_bI, ite_bJ, bI_ne, bI_01, List.cons_append, List.nil_append, Bool.false_eq_true, if_false, gT26_6 h, gT26_5 h, iT31 h (show 8 * (4 * s + c) + i < 192 by omega), wT32 h (show 8 * (4 * s + c) + i < 192 by omega), e1]; rfl) ?_
        refine wS_l (by simp only [e_fI, e_fLd, e_fLr, e_fB, e_fD, e_fC, e_fT, e_fAnd, e_fOr, e_fNot, e_fCC, e_fIf, e_gI, e_gR, e_aI, e_aR, e_aN, e_cV, e_cS, e_fNil, e_fAi, e_fAr, e_sSeq, e_sSkip, e_sSt, e_sSr, e_sInc, e_sRI, e_sRR, e_sRV, e_sIf, e_sCall, e_sPI, e_sPZ, e_sPR, e_sPO, e_sAI, e_sAZ, e_sAO, e_sAR, e_sPopI, e_sPopR, e_sCopy, e_mI, e_mZ, e_mR, e_mV, jAdd_n, jMul_n, z0, z1, Option.bind_some, List.getElem?_cons_zero, List.getElem?_cons_succ, List.set_cons_zero, List.set_cons_succ, eq_self, if_true, ite_and, ite_or, ite_I, ite_bI, ite_bJ, bI_ne, bI_01, List.cons_append, List.nil_append, Bool.false_eq_true, if_false, nI_add]; rfl) ?_
        refine ⟨rfl, _, rfl, ?_, hF.u (SC.d hc hi)⟩
        rw [if_pos rfl, ← cpy_st (by omega)]
        exact hR.u11 hc hi
      · cases hb
    | false =>
      rw [if_neg Bool.false_ne_true] at hR
      have e1 : τ 32 (8 * (4 * s + c) + i) = A (11 + c) i := by rw [hR.dn hc hi, cpy_ne (by omega)]
      refine wSeq (wIf (by simp only [e_fI, e_fLd, e_fLr, e_fB, e_fD, e_fC, e_fT, e_fAnd, e_fOr, e_fNot, e_fCC, e_fIf, e_gI, e_gR, e_aI, e_aR, e_aN, e_cV, e_cS, e_fNil, e_fAi, e_fAr, e_sSeq, e_sSkip, e_sSt, e_sSr, e_sInc, e_sRI, e_sRR, e_sRV, e_sIf, e_sCall, e_sPI, e_sPZ, e_sPR, e_sPO, e_sAI, e_sAZ, e_sAO, e_sAR, e_sPopI, e_sPopR, e_sCopy, e_mI, e_mZ, e_mR, e_mV, jAdd_n, jMul_n, z0, z1, Option.bind_some, List.getElem?_cons_zero, List.getElem?_cons_succ, List.set_cons_zero, List.set_cons_succ, eq_self, if_true, ite_and, ite_or, ite_I, ite_bI, ite_bJ, bI_ne, bI_01, List.cons_append, List.nil_append, Bool.false_eq_true, if_false]; rfl) (fun hb => ?_) (fun hb => ?_))
      · cases hb
      · refine wS_l (by simp only [e_fI, e_fLd, e_fLr, e_fB, e_fD, e_fC, e_fT, e_fAnd, e_fOr, e_fNot, e_fCC, e_fIf, e_gI, e_gR, e_aI, e_aR, e_aN, e_cV, e_cS, e_fNil, e_fAi, e_fAr, e_sSeq, e_sSkip, e_sSt, e_sSr, e_sInc, e_sRI, e_sRR, e_sRV, e_sIf, e_sCall, e_sPI, e_sPZ, e_sPR, e_sPO, e_sAI, e_sAZ, e_sAO, e_sAR, e_sPopI, e_sPopR, e_sCopy, e_mI, e_mZ, e_mR, e_mV, jAdd_n, jMul_n, z0, z1, Option.bind_some, List.getElem?_cons_zero, List.getElem?_cons_succ, List.set_cons_zero, List.set_cons_succ, eq_self, if_true, ite_and, ite_or, ite_I, ite_bI, ite_bJ, bI_ne, bI_01, List.cons_append, List.nil_append, Bool.false_eq_true, if_false, gT26_6 h, gT26_5 h, iT32 h (show 8 * (4 * s + c) + i < 192 by omega), wT31 h (show 8 * (4 * s + c) + i < 192 by omega), e1]; rfl) ?_
        refine wS_l (by simp only [e_fI, e_fLd, e_fLr, e_fB, e_fD, e_fC, e_fT, e_fAnd, e_fOr, e_fNot, e_fCC, e_fIf, e_gI, e_gR, e_aI, e_aR, e_aN, e_cV, e_cS, e_fNil, e_fAi, e_fAr, e_sSeq, e_sSkip, e_sSt, e_sSr, e_sInc, e_sRI, e_sRR, e_sRV, e_sIf, e_sCall, e_sPI, e_sPZ, e_sPR, e_sPO, e_sAI, e_sAZ, e_sAO, e_sAR, e_sPopI, e_sPopR, e_sCopy, e_mI, e_mZ, e_mR, e_mV, jAdd_n, jMul_n, z0, z1, Option.bind_some, List.getElem?_cons_zero, List.getElem?_cons_succ, List.set_cons_zero, List.set_cons_succ, eq_self, if_true, ite_and, ite_or, ite_I, ite_bI, ite_bJ, bI_ne, bI_01, List.cons_append, List.nil_append, Bool.false_eq_true, if_false, nI_add]; rfl) ?_
        refine ⟨rfl, _, rfl, ?_, hF.u (SC.f hc hi)⟩
        rw [if_neg Bool.false_ne_true, ← cpy_st (by omega)]
        exact hR.u6 hc hi
  · rintro _ _ ⟨rfl, τ, rfl, hR, hF⟩
    exact wS_r rfl ⟨rfl, τ, rfl, hR, hF⟩
theorem q_R_cell {b p : Nat} (h : okB n) (hA : RR σ s A) (hs6 : s < 6) (hc : c < 4) (ep : A 4 (32 + c * 4) = nI p) (hp : p ≤ b) : G_R_cell [.ref 26, .int (nI s), .int (nI c), .int (nI b)] (hs n σ) = some (nI (8 * (4 * s + c) + (b - p)), hs n σ) := by
  refine mI_q (Nat.le_of_ble_eq_true rfl) ?_
  simp only [jx_L0, List.map_cons, List.map_nil, List.length_cons, List.length_nil, Nat.reduceAdd, Nat.reduceSub, List.replicate, List.cons_append, List.nil_append]
  unfold P_R_cell
  refine wS_r (by simp only [e_fI, e_fLd, e_fLr, e_fB, e_fD, e_fC, e_fT, e_fAnd, e_fOr, e_fNot, e_fCC, e_fIf, e_gI, e_gR, e_aI, e_aR, e_aN, e_cV, e_cS, e_fNil, e_fAi, e_fAr, e_sSeq, e_sSkip, e_sSt, e_sSr, e_sInc, e_sRI, e_sRR, e_sRV, e_sIf, e_sCall, e_sPI, e_sPZ, e_sPR, e_sPO, e_sAI, e_sAZ, e_sAO, e_sAR, e_sPopI, e_sPopR, e_sCopy, e_mI, e_mZ, e_mR, e_mV, jAdd_n, jMul_n, z0, z1, Option.bind_some, List.getElem?_cons_zero, List.getElem?_cons_succ, List.set_cons_zero, List.set_cons_succ, eq_self, if_true, ite_and, ite_or, ite_I, ite_bI, ite_bJ, bI_ne, bI_01, List.cons_append, List.nil_append, Bool.false_eq_true, if_false, kT26 h, q_R_begin h hA hs6 hc, ep, jSub_n (show p ≤ 8 * (4 * s + c) + b by omega)]; rfl) ?_
  rw [show 8 * (4 * s + c) + b - p = 8 * (4 * s + c) + (b - p) by omega]
  exact ⟨rfl, rfl⟩
theorem q_R_lets {f l m : Nat} {w : Bool} (h : okB n) (hA : RR σ s A) (hs6 : s < 6) (hc : c < 4) (hm : m < 256) (em : A 4 (32 + c * 4 + 2) = nI m) (hf : okF A) : G_R_lets [.ref 26, .int (nI s), .int (nI c), .int (nI f), .int (nI l), .int (bI w)] (hs n σ) = some (bI (lets (A 4) (A 15) c f l w), hs n σ) := by
  refine mZ_q (Nat.le_of_ble_eq_true rfl) ?_
  simp only [jx_L0, List.map_cons, List.map_nil, List.length_cons, List.length_nil, Nat.reduceAdd, Nat.reduceSub, List.replicate, List.cons_append, List.nil_append]
  unfold P_R_lets
  have ew : (jLe (nI f) (A 4 (32 + c * 4)) && jLe (jSub (jAdd (A 4 (32 + c * 4)) (A 4 (32 + c * 4 + 1))) (nI 1)) (nI l)) = whl (A 4) c f l := rfl
  refine wSeq (wS_l (by simp only [e_fI, e_fLd, e_fLr, e_fB, e_fD, e_fC, e_fT, e_fAnd, e_fOr, e_fNot, e_fCC, e_fIf, e_gI, e_gR, e_aI, e_aR, e_aN, e_cV, e_cS, e_fNil, e_fAi, e_fAr, e_sSeq, e_sSkip, e_sSt, e_sSr, e_sInc, e_sRI, e_sRR, e_sRV, e_sIf, e_sCall, e_sPI, e_sPZ, e_sPR, e_sPO, e_sAI, e_sAZ, e_sAO, e_sAR, e_sPopI, e_sPopR, e_sCopy, e_mI, e_mZ, e_mR, e_mV, jAdd_n, jMul_n, z0, z1, Option.bind_some, List.getElem?_cons_zero, List.getElem?_cons_succ, List.set_cons_zero, List.set_cons_succ, eq_self, if_true, ite_and, ite_or, ite_I, ite_bI, ite_bJ, bI_ne, bI_01, List.cons_append, List.nil_append, Bool.false_eq_true, if_false, kT26 h, q_R_begin h hA hs6 hc, q_R_many h hA hs6 hc, jGe_Le, ew]; rfl) ?_)
  unfold lets
  have ne : ∀ b : Nat, b < 100 → (nI m = nI b) = (m = b) := fun b hb => propext (nI_eq (by omega) (by omega))
  rw [em]
  simp only [ne 0 (by omega), ne 1 (by omega), ne 2 (by omega), ne 3 (by omega)]
  have ek := q_R_kind h hA hs6 hc
  rw [em] at ek
  rcases (show m = 0 ∨ m = 1 ∨ m = 2 ∨ m = 3 ∨ 4 ≤ m by omega) with q | q | q | q | q
  · subst q
    refine wSw (m := 0) (by omega) (by simp only [e_fI, e_fLd, e_fLr, e_fB, e_fD, e_fC, e_fT, e_fAnd, e_fOr, e_fNot, e_fCC, e_fIf, e_gI, e_gR, e_aI, e_aR, e_aN, e_cV, e_cS, e_fNil, e_fAi, e_fAr, e_sSeq, e_sSkip, e_sSt, e_sSr, e_sInc, e_sRI, e_sRR, e_sRV, e_sIf, e_sCall, e_sPI, e_sPZ, e_sPR, e_sPO, e_sAI, e_sAZ, e_sAO, e_sAR, e_sPopI, e_sPopR, e_sCopy, e_mI, e_mZ, e_mR, e_mV, jAdd_n, jMul_n, z0, z1, Option.bind_some, List.getElem?_cons_zero, List.getElem?_cons_succ, List.set_cons_zero, List.set_cons_succ, eq_self, if_true, ite_and, ite_or, ite_I, ite_bI, ite_bJ, bI_ne, bI_01, List.cons_append, List.nil_append, Bool.false_eq_true, if_false, kT26 h, ek]; rfl) rfl ?_
    simp only [List.getD_cons_zero, List.getD_cons_succ]
    refine wS_r (by simp only [e_fI, e_fLd, e_fLr, e_fB, e_fD, e_fC, e_fT, e_fAnd, e_fOr, e_fNot, e_fCC, e_fIf, e_gI, e_gR, e_aI, e_aR, e_aN, e_cV, e_cS, e_fNil, e_fAi, e_fAr, e_sSeq, e_sSkip, e_sSt, e_sSr, e_sInc, e_sRI, e_sRR, e_sRV, e_sIf, e_sCall, e_sPI, e_sPZ, e_sPR, e_sPO, e_sAI, e_sAZ, e_sAO, e_sAR, e_sPopI, e_sPopR, e_sCopy, e_mI, e_mZ, e_mR, e_mV, jAdd_n, jMul_n, z0, z1, Option.bind_some, List.getElem?_cons_zero, List.getElem?_cons_succ, List.set_cons_zero, List.set_cons_succ, eq_self, if_true, ite_and, ite_or, ite_I, ite_bI, ite_bJ, bI_ne, bI_01, List.cons_append, List.nil_append, Bool.false_eq_true, if_false, gT26_7 h, iT33 h (show 4 * s + c < 24 by omega), hA.wr hc]; rfl) ?_
    exact ⟨rfl, rfl⟩
  · subst q
    refine wSw (m := 1) (by omega) (by simp only [e_fI, e_fLd, e_fLr, e_fB, e_fD, e_fC, e_fT, e_fAnd, e_fOr, e_fNot, e_fCC, e_fIf, e_gI, e_gR, e_aI, e_aR, e_aN, e_cV, e_cS, e_fNil, e_fAi, e_fAr, e_sSeq, e_sSkip, e_sSt, e_sSr, e_sInc, e_sRI, e_sRR, e_sRV, e_sIf, e_sCall, e_sPI, e_sPZ, e_sPR, e_sPO, e_sAI, e_sAZ, e_sAO, e_sAR, e_sPopI, e_sPopR, e_sCopy, e_mI, e_mZ, e_mR, e_mV, jAdd_n, jMul_n, z0, z1, Option.bind_some, List.getElem?_cons_zero, List.getElem?_cons_succ, List.set_cons_zero, List.set_cons_succ, eq_self, if_true, ite_and, ite_or, ite_I, ite_bI, ite_bJ, bI_ne, bI_01, List.cons_append, List.nil_append, Bool.false_eq_true, if_false, kT26 h, ek]; rfl) rfl ?_
    simp only [List.getD_cons_zero, List.getD_cons_succ]
    refine wS_r (by simp only [e_fI, e_fLd, e_fLr, e_fB, e_fD, e_fC, e_fT, e_fAnd, e_fOr, e_fNot, e_fCC, e_fIf, e_gI, e_gR, e_aI, e_aR, e_aN, e_cV, e_cS, e_fNil, e_fAi, e_fAr, e_sSeq, e_sSkip, e_sSt, e_sSr, e_sInc, e_sRI, e_sRR, e_sRV, e_sIf, e_sCall, e_sPI, e_sPZ, e_sPR, e_sPO, e_sAI, e_sAZ, e_sAO, e_sAR, e_sPopI, e_sPopR, e_sCopy, e_mI, e_mZ, e_mR, e_mV, jAdd_n, jMul_n, z0, z1, Option.bind_some, List.getElem?_cons_zero, List.getElem?_cons_succ, List.set_cons_zero, List.set_cons_succ, eq_self, if_true, ite_and, ite_or, ite_I, ite_bI, ite_bJ, bI_ne, bI_01, List.cons_append, List.nil_append, Bool.false_eq_true, if_false, kT26 h, q_R_full h hA hs6 hc]; rfl) ?_
    refine ⟨?_, rfl⟩
    rw [if_neg (by omega), if_pos trivial]
    cases w <;> cases whl (A 4) c f l <;> cases jEq (A 4 (48 + c)) (nI 1) <;> rfl
  · subst q
    refine wSw (m := 2) (by omega) (by simp only [e_fI, e_fLd, e_fLr, e_fB, e_fD, e_fC, e_fT, e_fAnd, e_fOr, e_fNot, e_fCC, e_fIf, e_gI, e_gR, e_aI, e_aR, e_aN, e_cV, e_cS, e_fNil, e_fAi, e_fAr, e_sSeq, e_sSkip, e_sSt, e_sSr, e_sInc, e_sRI, e_sRR, e_sRV, e_sIf, e_sCall, e_sPI, e_sPZ, e_sPR, e_sPO, e_sAI, e_sAZ, e_sAO, e_sAR, e_sPopI, e_sPopR, e_sCopy, e_mI, e_mZ, e_mR, e_mV, jAdd_n, jMul_n, z0, z1, Option.bind_some, List.getElem?_cons_zero, List.getElem?_cons_succ, List.set_cons_zero, List.set_cons_succ, eq_self, if_true, ite_and, ite_or, ite_I, ite_bI, ite_bJ, bI_ne, bI_01, List.cons_append, List.nil_append, Bool.false_eq_true, if_false, kT26 h, ek]; rfl) rfl ?_
    simp only [List.getD_cons_zero, List.getD_cons_succ]
    refine wS_r (by simp only [e_fI, e_fLd, e_fLr, e_fB, e_fD, e_fC, e_fT, e_fAnd, e_fOr, e_fNot, e_fCC, e_fIf, e_gI, e_gR, e_aI, e_aR, e_aN, e_cV, e_cS, e_fNil, e_fAi, e_fAr, e_sSeq, e_sSkip, e_sSt, e_sSr, e_sInc, e_sRI, e_sRR, e_sRV, e_sIf, e_sCall, e_sPI, e_sPZ, e_sPR, e_sPO, e_sAI, e_sAZ, e_sAO, e_sAR, e_sPopI, e_sPopR, e_sCopy, e_mI, e_mZ, e_mR, e_mV, jAdd_n, jMul_n, z0, z1, Option.bind_some, List.getElem?_cons_zero, List.getElem?_cons_succ, List.set_cons_zero, List.set_cons_succ, eq_self, if_true, ite_and, ite_or, ite_I, ite_bI, ite_bJ, bI_ne, bI_01, List.cons_append, List.nil_append, Bool.false_eq_true, if_false]; rfl) ?_
    exact ⟨rfl, rfl⟩
  · subst q
    refine wSw (m := 3) (by omega) (by simp only [e_fI, e_fLd, e_fLr, e_fB, e_fD, e_fC, e_fT, e_fAnd, e_fOr, e_fNot, e_fCC, e_fIf, e_gI, e_gR, e_aI, e_aR, e_aN, e_cV, e_cS, e_fNil, e_fAi, e_fAr, e_sSeq, e_sSkip, e_sSt, e_sSr, e_sInc, e_sRI, e_sRR, e_sRV, e_sIf, e_sCall, e_sPI, e_sPZ, e_sPR, e_sPO, e_sAI, e_sAZ, e_sAO, e_sAR, e_sPopI, e_sPopR, e_sCopy, e_mI, e_mZ, e_mR, e_mV, jAdd_n, jMul_n, z0, z1, Option.bind_some, List.getElem?_cons_zero, List.getElem?_cons_succ, List.set_cons_zero, List.set_cons_succ, eq_self, if_true, ite_and, ite_or, ite_I, ite_bI, ite_bJ, bI_ne, bI_01, List.cons_append, List.nil_append, Bool.false_eq_true, if_false, kT26 h, ek]; rfl) rfl ?_
    simp only [List.getD_cons_zero, List.getD_cons_succ]
    refine wS_r (by simp only [e_fI, e_fLd, e_fLr, e_fB, e_fD, e_fC, e_fT, e_fAnd, e_fOr, e_fNot, e_fCC, e_fIf, e_gI, e_gR, e_aI, e_aR, e_aN, e_cV, e_cS, e_fNil, e_fAi, e_fAr, e_sSeq, e_sSkip, e_sSt, e_sSr, e_sInc, e_sRI, e_sRR, e_sRV, e_sIf, e_sCall, e_sPI, e_sPZ, e_sPR, e_sPO, e_sAI, e_sAZ, e_sAO, e_sAR, e_sPopI, e_sPopR, e_sCopy, e_mI, e_mZ, e_mR, e_mV, jAdd_n, jMul_n, z0, z1, Option.bind_some, List.getElem?_cons_zero, List.getElem?_cons_succ, List.set_cons_zero, List.set_cons_succ, eq_self, if_true, ite_and, ite_or, ite_I, ite_bI, ite_bJ, bI_ne, bI_01, List.cons_append, List.nil_append, Bool.false_eq_true, if_false, kT26 h, q_R_full h hA hs6 hc, hf.ne hc]; rfl) ?_
    refine ⟨?_, rfl⟩
    rw [if_neg (by omega), if_neg (by omega), if_neg (by omega), if_pos trivial]
    cases w <;> cases whl (A 4) c f l <;> cases jEq (A 4 (48 + c)) 0 <;> rfl
  · refine wSw (g := sRI (fI (nI 0))) (show m < 2 ^ 31 by omega) (by simp only [e_fI, e_fLd, e_fLr, e_fB, e_fD, e_fC, e_fT, e_fAnd, e_fOr, e_fNot, e_fCC, e_fIf, e_gI, e_gR, e_aI, e_aR, e_aN, e_cV, e_cS, e_fNil, e_fAi, e_fAr, e_sSeq, e_sSkip, e_sSt, e_sSr, e_sInc, e_sRI, e_sRR, e_sRV, e_sIf, e_sCall, e_sPI, e_sPZ, e_sPR, e_sPO, e_sAI, e_sAZ, e_sAO, e_sAR, e_sPopI, e_sPopR, e_sCopy, e_mI, e_mZ, e_mR, e_mV, jAdd_n, jMul_n, z0, z1, Option.bind_some, List.getElem?_cons_zero, List.getElem?_cons_succ, List.set_cons_zero, List.set_cons_succ, eq_self, if_true, ite_and, ite_or, ite_I, ite_bI, ite_bJ, bI_ne, bI_01, List.cons_append, List.nil_append, Bool.false_eq_true, if_false, kT26 h, ek]; rfl) (by rw [List.getD_eq_getElem?_getD, List.getElem?_eq_none (by simp only [List.length_cons, List.length_nil]; omega)]; rfl) ?_
    refine wS_r (by simp only [e_fI, e_fLd, e_fLr, e_fB, e_fD, e_fC, e_fT, e_fAnd, e_fOr, e_fNot, e_fCC, e_fIf, e_gI, e_gR, e_aI, e_aR, e_aN, e_cV, e_cS, e_fNil, e_fAi, e_fAr, e_sSeq, e_sSkip, e_sSt, e_sSr, e_sInc, e_sRI, e_sRR, e_sRV, e_sIf, e_sCall, e_sPI, e_sPZ, e_sPR, e_sPO, e_sAI, e_sAZ, e_sAO, e_sAR, e_sPopI, e_sPopR, e_sCopy, e_mI, e_mZ, e_mR, e_mV, jAdd_n, jMul_n, z0, z1, Option.bind_some, List.getElem?_cons_zero, List.getElem?_cons_succ, List.set_cons_zero, List.set_cons_succ, eq_self, if_true, ite_and, ite_or, ite_I, ite_bI, ite_bJ, bI_ne, bI_01, List.cons_append, List.nil_append, Bool.false_eq_true, if_false]; rfl) ?_
    rw [if_neg (by omega), if_neg (by omega), if_neg (by omega), if_neg (by omega)]
    exact ⟨rfl, rfl⟩
theorem q_R_allowed {f l : Nat} {w : Bool} (h : okB n) (hA : RR σ s A) (hs6 : s < 6) (hok : okA A) (hf : okF A) (hfl : f ≤ l) (hr : l < f + 9) (hl : f < 1000) : G_R_allowed [.ref 26, .int (nI s), .int (nI f), .int (nI l), .int (bI w)] (hs n σ) = some (bI (decide (l < 128) && alwR (A 4) (A 15) f l w), hs n σ) := by
  refine mZ_q (Nat.le_of_ble_eq_true rfl) ?_
  simp only [jx_L0, List.map_cons, List.map_nil, List.length_cons, List.length_nil, Nat.reduceAdd, Nat.reduceSub, List.replicate, List.cons_append, List.nil_append]
  unfold P_R_allowed
  refine wSeq (wIf (by simp only [e_fI, e_fLd, e_fLr, e_fB, e_fD, e_fC, e_fT, e_fAnd, e_fOr, e_fNot, e_fCC, e_fIf, e_gI, e_gR, e_aI, e_aR, e_aN, e_cV, e_cS, e_fNil, e_fAi, e_fAr, e_sSeq, e_sSkip, e_sSt, e_sSr, e_sInc, e_sRI, e_sRR, e_sRV, e_sIf, e_sCall, e_sPI, e_sPZ, e_sPR, e_sPO, e_sAI, e_sAZ, e_sAO, e_sAR, e_sPopI, e_sPopR, e_sCopy, e_mI, e_mZ, e_mR, e_mV, jAdd_n, jMul_n, z0, z1, Option.bind_some, List.getElem?_cons_zero, List.getElem?_cons_succ, List.set_cons_zero, List.set_cons_succ, eq_self, if_true, ite_and, ite_or, ite_I, ite_bI, ite_bJ, bI_ne, bI_01, List.cons_append, List.nil_append, Bool.false_eq_true, if_false, jGt, nI_ltI (show 127 < 2 ^ 31 by omega) (show l < 2 ^ 31 by omega)]; rfl) (fun hb => ?_) (fun hb => ?_))
  · have := of_decide_eq_true hb
    exact wS_r rfl ⟨by rw [decide_eq_false (by omega)]; rfl, rfl⟩
  have hl := of_decide_eq_false hb
  refine wS_l rfl ?_
  rw [decide_eq_true (show l < 128 by omega), Bool.true_and]
  refine wSeq (wSeq (wS_l (by simp only [e_fI, e_fLd, e_fLr, e_fB, e_fD, e_fC, e_fT, e_fAnd, e_fOr, e_fNot, e_fCC, e_fIf, e_gI, e_gR, e_aI, e_aR, e_aN, e_cV, e_cS, e_fNil, e_fAi, e_fAr, e_sSeq, e_sSkip, e_sSt, e_sSr, e_sInc, e_sRI, e_sRR, e_sRV, e_sIf, e_sCall, e_sPI, e_sPZ, e_sPR, e_sPO, e_sAI, e_sAZ, e_sAO, e_sAR, e_sPopI, e_sPopR, e_sCopy, e_mI, e_mZ, e_mR, e_mV, jAdd_n, jMul_n, z0, z1, Option.bind_some, List.getElem?_cons_zero, List.getElem?_cons_succ, List.set_cons_zero, List.set_cons_succ, eq_self, if_true, ite_and, ite_or, ite_I, ite_bI, ite_bJ, bI_ne, bI_01, List.cons_append, List.nil_append, Bool.false_eq_true, if_false]; rfl) ?_))
  refine wWh (I := fun b L H => ∃ x6, L = [some (.ref 26), some (.int (nI s)), some (.int (nI f)), some (.int (nI l)), some (.int (bI w)), some (.int (nI b)), x6] ∧ H = hs n σ ∧ f ≤ b ∧ ∀ d, f ≤ d → d < b → alw (A 4) (A 15) f l w d = true) (e := l + 1) ?_ ?_ ?_ 600 f _ _ (by omega) (by omega) ⟨_, rfl, rfl, Nat.le_refl _, fun d hd _ => by omega⟩
  · rintro b _ _ ⟨x6, rfl, rfl, -⟩ hi
    simp only [e_fI, e_fLd, e_fLr, e_fB, e_fD, e_fC, e_fT, e_fAnd, e_fOr, e_fNot, e_fCC, e_fIf, e_gI, e_gR, e_aI, e_aR, e_aN, e_cV, e_cS, e_fNil, e_fAi, e_fAr, e_sSeq, e_sSkip, e_sSt, e_sSr, e_sInc, e_sRI, e_sRR, e_sRV, e_sIf, e_sCall, e_sPI, e_sPZ, e_sPR, e_sPO, e_sAI, e_sAZ, e_sAO, e_sAR, e_sPopI, e_sPopR, e_sCopy, e_mI, e_mZ, e_mR, e_mV, jAdd_n, jMul_n, z0, z1, Option.bind_some, List.getElem?_cons_zero, List.getElem?_cons_succ, List.set_cons_zero, List.set_cons_succ, eq_self, if_true, ite_and, ite_or, ite_I, ite_bI, ite_bJ, bI_ne, bI_01, List.cons_append, List.nil_append, Bool.false_eq_true, if_false, jLe, nI_leI (show b < 2 ^ 31 by omega) (show l < 2 ^ 31 by omega), Nat.lt_succ_iff]
  · rintro b _ _ ⟨x6, rfl, rfl, hfb, hd⟩ hi
    refine wSeq (wSeq (wS_l (by simp only [e_fI, e_fLd, e_fLr, e_fB, e_fD, e_fC, e_fT, e_fAnd, e_fOr, e_fNot, e_fCC, e_fIf, e_gI, e_gR, e_aI, e_aR, e_aN, e_cV, e_cS, e_fNil, e_fAi, e_fAr, e_sSeq, e_sSkip, e_sSt, e_sSr, e_sInc, e_sRI, e_sRR, e_sRV, e_sIf, e_sCall, e_sPI, e_sPZ, e_sPR, e_sPO, e_sAI, e_sAZ, e_sAO, e_sAR, e_sPopI, e_sPopR, e_sCopy, e_mI, e_mZ, e_mR, e_mV, jAdd_n, jMul_n, z0, z1, Option.bind_some, List.getElem?_cons_zero, List.getElem?_cons_succ, List.set_cons_zero, List.set_cons_succ, eq_self, if_true, ite_and, ite_or, ite_I, ite_bI, ite_bJ, bI_ne, bI_01, List.cons_append, List.nil_append, Bool.false_eq_true, if_false, kT26 h, q_R_channelOf h hA hs6]; rfl) ?_))
    have fin : alw (A 4) (A 15) f l w b = true → ∀ x6, wS (sInc 5 (nI 1)) [some (.ref 26), some (.int (nI s)), some (.int (nI f)), some (.int (nI l)), some (.int (bI w)), some (.int (nI b)), x6] (hs n σ) (fun L' h' => ∃ x6, L' = [some (.ref 26), some (.int (nI s)), some (.int (nI f)), some (.int (nI l)), some (.int (bI w)), some (.int (nI (b + 1))), x6] ∧ h' = hs n σ ∧ f ≤ b + 1 ∧ ∀ d, f ≤ d → d < b + 1 → alw (A 4) (A 15) f l w d = true) (fun v h' => v = some (.int (bI (alwR (A 4) (A 15) f l w))) ∧ h' = hs n σ) := fun ha x6 => by
      refine wS_l (by simp only [e_fI, e_fLd, e_fLr, e_fB, e_fD, e_fC, e_fT, e_fAnd, e_fOr, e_fNot, e_fCC, e_fIf, e_gI, e_gR, e_aI, e_aR, e_aN, e_cV, e_cS, e_fNil, e_fAi, e_fAr, e_sSeq, e_sSkip, e_sSt, e_sSr, e_sInc, e_sRI, e_sRR, e_sRV, e_sIf, e_sCall, e_sPI, e_sPZ, e_sPR, e_sPO, e_sAI, e_sAZ, e_sAO, e_sAR, e_sPopI, e_sPopR, e_sCopy, e_mI, e_mZ, e_mR, e_mV, jAdd_n, jMul_n, z0, z1, Option.bind_some, List.getElem?_cons_zero, List.getElem?_cons_succ, List.set_cons_zero, List.set_cons_succ, eq_self, if_true, ite_and, ite_or, ite_I, ite_bI, ite_bJ, bI_ne, bI_01, List.cons_append, List.nil_append, Bool.false_eq_true, if_false, nI_add]; rfl) ?_
      refine ⟨_, rfl, rfl, by omega, fun d h1 h2 => ?_⟩
      rcases Nat.lt_succ_iff_lt_or_eq.mp h2 with q | q
      · exact hd d h1 q
      · rw [q]; exact ha
    rcases own_cases (A 4) b with e | ⟨c, hc, e⟩
    · rw [e]
      refine wIf (by simp only [e_fI, e_fLd, e_fLr, e_fB, e_fD, e_fC, e_fT, e_fAnd, e_fOr, e_fNot, e_fCC, e_fIf, e_gI, e_gR, e_aI, e_aR, e_aN, e_cV, e_cS, e_fNil, e_fAi, e_fAr, e_sSeq, e_sSkip, e_sSt, e_sSr, e_sInc, e_sRI, e_sRR, e_sRV, e_sIf, e_sCall, e_sPI, e_sPZ, e_sPR, e_sPO, e_sAI, e_sAZ, e_sAO, e_sAR, e_sPopI, e_sPopR, e_sCopy, e_mI, e_mZ, e_mR, e_mV, jAdd_n, jMul_n, z0, z1, Option.bind_some, List.getElem?_cons_zero, List.getElem?_cons_succ, List.set_cons_zero, List.set_cons_succ, eq_self, if_true, ite_and, ite_or, ite_I, ite_bI, ite_bJ, bI_ne, bI_01, List.cons_append, List.nil_append, Bool.false_eq_true, if_false, gm1]; rfl) (fun hb => ?_) (fun hb => ?_)
      · cases hb
      · refine wS_l rfl ?_
        exact fin (alw_m e) _
    · rw [e]
      obtain ⟨m, hm, em⟩ := hok.1 (32 + c * 4 + 2) (by omega)
      refine wIf (by simp only [e_fI, e_fLd, e_fLr, e_fB, e_fD, e_fC, e_fT, e_fAnd, e_fOr, e_fNot, e_fCC, e_fIf, e_gI, e_gR, e_aI, e_aR, e_aN, e_cV, e_cS, e_fNil, e_fAi, e_fAr, e_sSeq, e_sSkip, e_sSt, e_sSr, e_sInc, e_sRI, e_sRR, e_sRV, e_sIf, e_sCall, e_sPI, e_sPZ, e_sPR, e_sPO, e_sAI, e_sAZ, e_sAO, e_sAR, e_sPopI, e_sPopR, e_sCopy, e_mI, e_mZ, e_mR, e_mV, jAdd_n, jMul_n, z0, z1, Option.bind_some, List.getElem?_cons_zero, List.getElem?_cons_succ, List.set_cons_zero, List.set_cons_succ, eq_self, if_true, ite_and, ite_or, ite_I, ite_bI, ite_bJ, bI_ne, bI_01, List.cons_append, List.nil_append, Bool.false_eq_true, if_false, kT26 h, gN0 (show c < 2 ^ 31 by omega), q_R_lets (f := f) (l := l) (w := w) h hA hs6 hc hm em hf]; rfl) (fun hb => ?_) (fun hb => ?_)
      · refine wS_r rfl ⟨?_, rfl⟩
        have : alwR (A 4) (A 15) f l w = false := by
          rw [← Bool.not_eq_true]
          intro q
          have := alw_at q hfb (show b ≤ l by omega)
          rw [alw_c hc e] at this
          rw [this] at hb
          cases hb
        rw [this]
        rfl
      · refine wS_l rfl ?_
        refine fin ?_ _
        rw [alw_c hc e]
        cases q : lets (A 4) (A 15) c f l w
        · rw [q] at hb; cases hb
        · rfl
  · rintro _ _ ⟨x6, rfl, rfl, -, hd⟩
    refine wS_r rfl ⟨?_, rfl⟩
    have : alwR (A 4) (A 15) f l w = true := List.all_eq_true.mpr (fun j hj => hd (f + j) (by omega) (by have := List.mem_range.mp hj; omega))
    rw [this]
    rfl
end REF3
