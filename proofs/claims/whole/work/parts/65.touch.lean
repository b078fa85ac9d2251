/-! the reference: a direct datagram at a station -/
/-- the reference holds G as datagram d -/
def RG (σ : sg) (d : Nat) (G : sg) : Prop := (∀ i, i < 5 → σ (44 + i) d = G 0 i) ∧ ∀ i, i < 8 → σ 49 (8 * d + i) = G 1 i
def DC (d a i : Nat) : Prop := 44 ≤ a ∧ a ≤ 48 ∧ i = d ∨ a = 49 ∧ i / 8 = d
/-- what a datagram at a station may change -/
def HC (s d a i : Nat) : Prop := SC s a i ∨ DC d a i ∨ a = 50 ∨ a = 51 ∨ a = 26 ∧ (i = 30 ∨ i = 31)
section RGS
variable {σ τ G : sg} {d i s : Nat} {v : Int32} {P : Nat → Nat → Prop}
theorem RG.u0 (h : RG σ d G) (hi : i < 5) : RG (up σ (44 + i) d v) d (up G 0 i v) := by
  refine ⟨fun j hj => ?_, fun j hj => ?_⟩
  · unfold up
    by_cases q : j = i
    · subst q
      rw [if_pos ⟨rfl, rfl⟩, if_pos ⟨rfl, rfl⟩]
    · rw [if_neg (by omega), if_neg (fun e => q e.2)]
      exact h.1 j hj
  · rw [up_ne (by omega), up_ne (by omega)]
    exact h.2 j hj
theorem RG.u1 (h : RG σ d G) : RG (up σ 49 (8 * d + i) v) d (up G 1 i v) := by
  refine ⟨fun j hj => ?_, fun j hj => ?_⟩
  · rw [up_ne (by omega), up_ne (by omega)]
    exact h.1 j hj
  · unfold up
    by_cases q : j = i
    · subst q
      rw [if_pos ⟨rfl, rfl⟩, if_pos ⟨rfl, rfl⟩]
    · rw [if_neg (by omega), if_neg (fun e => q e.2)]
      exact h.2 j hj
theorem RG.o (h : RG σ d G) (hF : FX P σ τ) (hP : ∀ a i, DC d a i → ¬ P a i) : RG τ d G := by
  refine ⟨fun j hj => ?_, fun j hj => ?_⟩
  · rw [hF _ _ (hP _ _ (Or.inl ⟨by omega, by omega, rfl⟩))]
    exact h.1 j hj
  · rw [hF _ _ (hP _ _ (Or.inr ⟨rfl, by omega⟩))]
    exact h.2 j hj
theorem RR.od {A : sg} (h : RR σ s A) (hF : FX (fun a i => DC d a i ∨ a = 50) σ τ) : RR τ s A := h.o hF (fun a i q k => by
  have := q.b
  rcases k with (k | k) | k <;> omega)
theorem RG.os (h : RG σ d G) (hF : FX (fun a i => SC s a i ∨ a = 50) σ τ) : RG τ d G := h.o hF (fun a i q k => by
  rcases k with k | k
  · have := k.b
    rcases q with q | q <;> omega
  · rcases q with q | q <;> omega)
end RGS
theorem jOr0 (x : Int32) : jOr (nI 0) x = x := by
  rw [nI_0]
  unfold jOr
  exact Int32.zero_or
theorem mrg255 {h r : Int32} (hh : byt h) (hr : byt r) : mrg h r (nI 255) = r := by
  obtain ⟨a, ha, rfl⟩ := hh
  obtain ⟨b, hb, rfl⟩ := hr
  unfold mrg jOr jAnd jXor
  have e1 : (nI a) &&& ((nI 255) ^^^ (-1)) = nI 0 := by
    apply Int32.toBitVec_inj.mp
    apply BitVec.eq_of_toNat_eq
    rw [Int32.toBitVec_and, BitVec.toNat_and, nI_nat (by omega), nI_nat (by omega), show ((nI 255 ^^^ (-1 : Int32))).toBitVec.toNat = 4294967040 by decide]
    have := Nat.and_two_pow_sub_one_eq_mod a 8
    apply Nat.eq_of_testBit_eq
    intro i
    rw [Nat.testBit_and, Nat.zero_testBit]
    by_cases q : i < 8
    · rw [show Nat.testBit 4294967040 i = false by
        rcases (show i = 0 ∨ i = 1 ∨ i = 2 ∨ i = 3 ∨ i = 4 ∨ i = 5 ∨ i = 6 ∨ i = 7 by omega) with rfl | rfl | rfl | rfl | rfl | rfl | rfl | rfl <;> decide, Bool.and_false]
    · rw [Nat.testBit_lt_two_pow (Nat.lt_of_lt_of_le ha (Nat.pow_le_pow_right (n := 2) (by omega) (show 8 ≤ i by omega))), Bool.false_and]
  have e2 : (nI b) &&& (nI 255) = nI b := by
    apply Int32.toBitVec_inj.mp
    apply BitVec.eq_of_toNat_eq
    rw [Int32.toBitVec_and, BitVec.toNat_and, nI_nat (by omega), nI_nat (by omega), Nat.and_two_pow_sub_one_eq_mod b 8]
    omega
  rw [e1, e2, nI_0]
  exact Int32.zero_or
theorem wr_mo {A : sg} {f l : Nat} (hal : alwR (A 4) (A 15) f l true = true) : ∀ b c, f ≤ b → b < l + 1 → c < 4 → own (A 4) b = nI c → A 4 (32 + c * 4 + 2) = nI 2 ∨ A 4 (32 + c * 4 + 2) = nI 3 := fun b c h1 h2 hc ho => by
  have := alw_at hal h1 (show b ≤ l by omega)
  rw [alw_c hc ho] at this
  exact lets_w this
section TOU
variable {n s d : Nat} {σ A G : sg}
theorem q_R_touch {c : Nat} (h : okB n) (hA : RR σ s A) (hs6 : s < 6) (hok : okA A) (hf : okF A) (hG : RG σ d G) (hd : d < 9) (hg : okG G) (ec : G 0 0 = nI c) (hc : c = 1 ∨ c = 2 ∨ c = 4 ∨ c = 5 ∨ c = 7 ∨ c = 8) : ∃ τ, G_R_touch [.ref 26, .int (nI s), .int (nI d)] (hs n σ) = some (hs n τ) ∧ RR τ s (dirS A G) ∧ RG τ d (dirG A G) ∧ FX (HC s d) σ τ := by
  obtain ⟨g2, hf8, g3, hk1, hk8, hgb⟩ := hg
  have c22 : σ 44 d = nI c := (hG.1 0 (by omega)).trans ec
  have c24 : σ 46 d = nI (fN G) := (hG.1 2 (by omega)).trans g2
  have c25 : σ 47 d = nI (kN G) := (hG.1 3 (by omega)).trans g3
  have ew : isW G = !(jEq (nI c) (nI 1) || jEq (nI c) (nI 4) || jEq (nI c) (nI 7)) := by
    unfold isW
    rw [ec]
    rcases hc with rfl | rfl | rfl | rfl | rfl | rfl <;> decide
  have e7 : (G 0 0 = nI 7) = (jEq (nI c) (nI 7) = true) := by
    rw [ec]
    exact propext ⟨fun q => decide_eq_true q, fun q => of_decide_eq_true q⟩
  refine mV_s (Nat.le_of_ble_eq_true rfl) ?_
  simp only [jx_L0, List.map_cons, List.map_nil, List.length_cons, List.length_nil, Nat.reduceAdd, Nat.reduceSub, List.replicate, List.cons_append, List.nil_append]
  unfold P_R_touch
  refine wSeq (wS_l (by simp only [e_fI, e_fLd, e_fLr, e_fB, e_fD, e_fC, e_fT, e_fAnd, e_fOr, e_fNot, e_fCC, e_fIf, e_gI, e_gR, e_aI, e_aR, e_aN, e_cV, e_cS, e_fNil, e_fAi, e_fAr, e_sSeq, e_sSkip, e_sSt, e_sSr, e_sInc, e_sRI, e_sRR, e_sRV, e_sIf, e_sCall, e_sPI, e_sPZ, e_sPR, e_sPO, e_sAI, e_sAZ, e_sAO, e_sAR, e_sPopI, e_sPopR, e_sCopy, e_mI, e_mZ, e_mR, e_mV, jAdd_n, jMul_n, z0, z1, Option.bind_some, List.getElem?_cons_zero, List.getElem?_cons_succ, List.set_cons_zero, List.set_cons_succ, eq_self, if_true, ite_and, ite_or, ite_I, ite_bI, ite_bJ, bI_ne, bI_01, List.cons_append, List.nil_append, Bool.false_eq_true, if_false, gT26_24 h, iT46 h hd, c24]; rfl) ?_)
  refine wSeq (wS_l (by simp only [e_fI, e_fLd, e_fLr, e_fB, e_fD, e_fC, e_fT, e_fAnd, e_fOr, e_fNot, e_fCC, e_fIf, e_gI, e_gR, e_aI, e_aR, e_aN, e_cV, e_cS, e_fNil, e_fAi, e_fAr, e_sSeq, e_sSkip, e_sSt, e_sSr, e_sInc, e_sRI, e_sRR, e_sRV, e_sIf, e_sCall, e_sPI, e_sPZ, e_sPR, e_sPO, e_sAI, e_sAZ, e_sAO, e_sAR, e_sPopI, e_sPopR, e_sCopy, e_mI, e_mZ, e_mR, e_mV, jAdd_n, jMul_n, z0, z1, Option.bind_some, List.getElem?_cons_zero, List.getElem?_cons_succ, List.set_cons_zero, List.set_cons_succ, eq_self, if_true, ite_and, ite_or, ite_I, ite_bI, ite_bJ, bI_ne, bI_01, List.cons_append, List.nil_append, Bool.false_eq_true, if_false, gT26_25 h, iT47 h hd, c25, jSub_n (show 1 ≤ fN G + kN G by omega)]; rfl) ?_)
  refine wSeq (wS_l (by simp only [e_fI, e_fLd, e_fLr, e_fB, e_fD, e_fC, e_fT, e_fAnd, e_fOr, e_fNot, e_fCC, e_fIf, e_gI, e_gR, e_aI, e_aR, e_aN, e_cV, e_cS, e_fNil, e_fAi, e_fAr, e_sSeq, e_sSkip, e_sSt, e_sSr, e_sInc, e_sRI, e_sRR, e_sRV, e_sIf, e_sCall, e_sPI, e_sPZ, e_sPR, e_sPO, e_sAI, e_sAZ, e_sAO, e_sAR, e_sPopI, e_sPopR, e_sCopy, e_mI, e_mZ, e_mR, e_mV, jAdd_n, jMul_n, z0, z1, Option.bind_some, List.getElem?_cons_zero, List.getElem?_cons_succ, List.set_cons_zero, List.set_cons_succ, eq_self, if_true, ite_and, ite_or, ite_I, ite_bI, ite_bJ, bI_ne, bI_01, List.cons_append, List.nil_append, Bool.false_eq_true, if_false, gT26_22 h, iT44 h hd, c22]; rfl) ?_)
  unfold dirS dirG okD
  rw [ew]
  generalize hw : (jEq (nI c) (nI 1) || jEq (nI c) (nI 4) || jEq (nI c) (nI 7)) = w
  have edl : (decide (fN G + kN G ≤ 128)) = decide (fN G + kN G - 1 < 128) := decide_eq_decide.mpr (by omega)
  rw [edl]
  cases w with
  | true =>
    rw [Bool.not_true, if_neg Bool.false_ne_true, if_neg Bool.false_ne_true]
    obtain ⟨τ, e, hR, hV, hF⟩ := q_R_reads (f := fN G) (l := fN G + kN G - 1) h hA hs6 hok hf (by omega) (by omega) (by omega)
    have hGτ := hG.os hF
    have hF0 : FX (HC s d) σ τ := hF.m (fun a i q => q.elim Or.inl (fun k => Or.inr (Or.inr (Or.inl k))))
    refine wSeq (wIf (by simp only [e_fI, e_fLd, e_fLr, e_fB, e_fD, e_fC, e_fT, e_fAnd, e_fOr, e_fNot, e_fCC, e_fIf, e_gI, e_gR, e_aI, e_aR, e_aN, e_cV, e_cS, e_fNil, e_fAi, e_fAr, e_sSeq, e_sSkip, e_sSt, e_sSr, e_sInc, e_sRI, e_sRR, e_sRV, e_sIf, e_sCall, e_sPI, e_sPZ, e_sPR, e_sPO, e_sAI, e_sAZ, e_sAO, e_sAR, e_sPopI, e_sPopR, e_sCopy, e_mI, e_mZ, e_mR, e_mV, jAdd_n, jMul_n, z0, z1, Option.bind_some, List.getElem?_cons_zero, List.getElem?_cons_succ, List.set_cons_zero, List.set_cons_succ, eq_self, if_true, ite_and, ite_or, ite_I, ite_bI, ite_bJ, bI_ne, bI_01, List.cons_append, List.nil_append, Bool.false_eq_true, if_false]; rfl) (fun hb => ?_) (fun hb => ?_))
    · refine wSeq (wIf (by simp only [e_fI, e_fLd, e_fLr, e_fB, e_fD, e_fC, e_fT, e_fAnd, e_fOr, e_fNot, e_fCC, e_fIf, e_gI, e_gR, e_aI, e_aR, e_aN, e_cV, e_cS, e_fNil, e_fAi, e_fAr, e_sSeq, e_sSkip, e_sSt, e_sSr, e_sInc, e_sRI, e_sRR, e_sRV, e_sIf, e_sCall, e_sPI, e_sPZ, e_sPR, e_sPO, e_sAI, e_sAZ, e_sAO, e_sAR, e_sPopI, e_sPopR, e_sCopy, e_mI, e_mZ, e_mR, e_mV, jAdd_n, jMul_n, z0, z1, Option.bind_some, List.getElem?_cons_zero, List.getElem?_cons_succ, List.set_cons_zero, List.set_cons_succ, eq_self, if_true, ite_and, ite_or, ite_I, ite_bI, ite_bJ, bI_ne, bI_01, List.cons_append, List.nil_append, Bool.false_eq_true, if_false, kT26 h, e]; rfl) (fun hb => ?_) (fun hb => ?_))
      · have q : (decide (fN G + kN G - 1 < 128) && alwR (A 4) (A 15) (fN G) (fN G + kN G - 1) false) = false := by
          cases q : (decide (fN G + kN G - 1 < 128) && alwR (A 4) (A 15) (fN G) (fN G + kN G - 1) false)
          · rfl
          · rw [q] at hb; cases hb
        rw [q, if_neg Bool.false_ne_true] at hR
        rw [q, if_neg Bool.false_ne_true, if_neg Bool.false_ne_true]
        exact wS_r rfl ⟨rfl, τ, rfl, hR, hGτ, hF0⟩
      refine wS_l rfl ?_
      have q : (decide (fN G + kN G - 1 < 128) && alwR (A 4) (A 15) (fN G) (fN G + kN G - 1) false) = true := by
        cases q : (decide (fN G + kN G - 1 < 128) && alwR (A 4) (A 15) (fN G) (fN G + kN G - 1) false)
        · rw [q] at hb; cases hb
        · rfl
      have hv := hV q
      rw [q, if_pos rfl] at hR
      rw [q, if_pos rfl, if_pos rfl]
      clear hb hV e
      refine wSeq (wS_l (by simp only [e_fI, e_fLd, e_fLr, e_fB, e_fD, e_fC, e_fT, e_fAnd, e_fOr, e_fNot, e_fCC, e_fIf, e_gI, e_gR, e_aI, e_aR, e_aN, e_cV, e_cS, e_fNil, e_fAi, e_fAr, e_sSeq, e_sSkip, e_sSt, e_sSr, e_sInc, e_sRI, e_sRR, e_sRV, e_sIf, e_sCall, e_sPI, e_sPZ, e_sPR, e_sPO, e_sAI, e_sAZ, e_sAO, e_sAR, e_sPopI, e_sPopR, e_sCopy, e_mI, e_mZ, e_mR, e_mV, jAdd_n, jMul_n, z0, z1, Option.bind_some, List.getElem?_cons_zero, List.getElem?_cons_succ, List.set_cons_zero, List.set_cons_succ, eq_self, if_true, ite_and, ite_or, ite_I, ite_bI, ite_bJ, bI_ne, bI_01, List.cons_append, List.nil_append, Bool.false_eq_true, if_false]; rfl) ?_)
      refine wWh (I := fun i L H => ∃ ρ, L = [some (.ref 26), some (.int (nI s)), some (.int (nI d)), some (.int (nI (fN G))), some (.int (nI (fN G + kN G - 1))), some (.int (bI true)), some (.int (nI i))] ∧ H = hs n ρ ∧ RG ρ d (fun a j => if a = 1 ∧ j < i then jOr (if G 0 0 = nI 7 then G 1 j else nI 0) (rvA A (fN G) (fN G + j)) else G a j) ∧ FX (DC d) τ ρ) (e := kN G) ?_ ?_ ?_ 600 0 _ _ (by omega) (by omega) ⟨τ, rfl, rfl, ?_, FX.r _ τ⟩
      · rintro i _ _ ⟨ρ, rfl, rfl, hGρ, hFρ⟩ hi
        have k25 : ρ 47 d = nI (kN G) := (hGρ.1 3 (by omega)).trans (by dsimp only; rw [if_neg (by omega)]; exact g3)
        simp only [e_fI, e_fLd, e_fLr, e_fB, e_fD, e_fC, e_fT, e_fAnd, e_fOr, e_fNot, e_fCC, e_fIf, e_gI, e_gR, e_aI, e_aR, e_aN, e_cV, e_cS, e_fNil, e_fAi, e_fAr, e_sSeq, e_sSkip, e_sSt, e_sSr, e_sInc, e_sRI, e_sRR, e_sRV, e_sIf, e_sCall, e_sPI, e_sPZ, e_sPR, e_sPO, e_sAI, e_sAZ, e_sAO, e_sAR, e_sPopI, e_sPopR, e_sCopy, e_mI, e_mZ, e_mR, e_mV, jAdd_n, jMul_n, z0, z1, Option.bind_some, List.getElem?_cons_zero, List.getElem?_cons_succ, List.set_cons_zero, List.set_cons_succ, eq_self, if_true, ite_and, ite_or, ite_I, ite_bI, ite_bJ, bI_ne, bI_01, List.cons_append, List.nil_append, Bool.false_eq_true, if_false, gT26_25 h, iT47 h hd, k25, jLt, nI_ltI (show i < 2 ^ 31 by omega) (show kN G < 2 ^ 31 by omega)]
      · rintro i _ _ ⟨ρ, rfl, rfl, hGρ, hFρ⟩ hi
        have k22 : ρ 44 d = nI c := (hGρ.1 0 (by omega)).trans (by dsimp only; rw [if_neg (by omega)]; exact ec)
        have k49 : ρ 49 (8 * d + i) = G 1 i := (hGρ.2 i (by omega)).trans (by dsimp only; rw [if_neg (by omega)])
        have k50 : ρ 50 i = rvA A (fN G) (fN G + i) := by
          rw [hFρ 50 i (fun k => by rcases k with k | k <;> omega)]
          exact hv i (by omega)
        have fin : ∀ x, x = jOr (if G 0 0 = nI 7 then G 1 i else nI 0) (rvA A (fN G) (fN G + i)) → RG (up ρ 49 (8 * d + i) x) d (fun a j => if a = 1 ∧ j < i + 1 then jOr (if G 0 0 = nI 7 then G 1 j else nI 0) (rvA A (fN G) (fN G + j)) else G a j) ∧ FX (DC d) τ (up ρ 49 (8 * d + i) x) := fun x ex => by
          refine ⟨?_, hFρ.u (Or.inr ⟨rfl, by omega⟩)⟩
          have u := hGρ.u1 (i := i) (v := x)
          refine ⟨fun j hj => (u.1 j hj).trans ?_, fun j hj => (u.2 j hj).trans ?_⟩
          · rw [up_ne (by omega)]
            dsimp only
            rw [if_neg (by omega), if_neg (by omega)]
          · unfold up
            dsimp only
            by_cases qj : j = i
            · subst qj
              rw [if_pos ⟨rfl, rfl⟩, if_pos ⟨rfl, by omega⟩, ex]
            · rw [if_neg (fun k => qj k.2)]
              by_cases qi : j < i
              · rw [if_pos (show 1 = 1 ∧ j < i from ⟨rfl, qi⟩), if_pos (show 1 = 1 ∧ j < i + 1 from ⟨rfl, by omega⟩)]
              · rw [if_neg (by omega), if_neg (by omega)]
        cases q7 : jEq (nI c) (nI 7) with
        | true =>
          have n7 : G 0 0 = nI 7 := by rw [e7]; exact q7
          refine wSeq (wS_l (by simp only [e_fI, e_fLd, e_fLr, e_fB, e_fD, e_fC, e_fT, e_fAnd, e_fOr, e_fNot, e_fCC, e_fIf, e_gI, e_gR, e_aI, e_aR, e_aN, e_cV, e_cS, e_fNil, e_fAi, e_fAr, e_sSeq, e_sSkip, e_sSt, e_sSr, e_sInc, e_sRI, e_sRR, e_sRV, e_sIf, e_sCall, e_sPI, e_sPZ, e_sPR, e_sPO, e_sAI, e_sAZ, e_sAO, e_sAR, e_sPopI, e_sPopR, e_sCopy, e_mI, e_mZ, e_mR, e_mV, jAdd_n, jMul_n, z0, z1, Option.bind_some, List.getElem?_cons_zero, List.getElem?_cons_succ, List.set_cons_zero, List.set_cons_succ, eq_self, if_true, ite_and, ite_or, ite_I, ite_bI, ite_bJ, bI_ne, bI_01, List.cons_append, List.nil_append, Bool.false_eq_true, if_false, gT26_27 h, gT26_22 h, gT26_28 h, iT44 h hd, k22, q7, iT49 h (show 8 * d + i < 72 by omega), k49, iT50 h (show i < 9 by omega), k50, wT49 h (show 8 * d + i < 72 by omega)]; rfl) ?_)
          refine wS_l (by simp only [e_fI, e_fLd, e_fLr, e_fB, e_fD, e_fC, e_fT, e_fAnd, e_fOr, e_fNot, e_fCC, e_fIf, e_gI, e_gR, e_aI, e_aR, e_aN, e_cV, e_cS, e_fNil, e_fAi, e_fAr, e_sSeq, e_sSkip, e_sSt, e_sSr, e_sInc, e_sRI, e_sRR, e_sRV, e_sIf, e_sCall, e_sPI, e_sPZ, e_sPR, e_sPO, e_sAI, e_sAZ, e_sAO, e_sAR, e_sPopI, e_sPopR, e_sCopy, e_mI, e_mZ, e_mR, e_mV, jAdd_n, jMul_n, z0, z1, Option.bind_some, List.getElem?_cons_zero, List.getElem?_cons_succ, List.set_cons_zero, List.set_cons_succ, eq_self, if_true, ite_and, ite_or, ite_I, ite_bI, ite_bJ, bI_ne, bI_01, List.cons_append, List.nil_append, Bool.false_eq_true, if_false, nI_add]; rfl) ?_
          exact ⟨_, rfl, rfl, fin _ (by rw [if_pos n7])⟩
        | false =>
          have n7 : ¬ G 0 0 = nI 7 := by rw [e7, q7]; exact Bool.false_ne_true
          refine wSeq (wS_l (by simp only [e_fI, e_fLd, e_fLr, e_fB, e_fD, e_fC, e_fT, e_fAnd, e_fOr, e_fNot, e_fCC, e_fIf, e_gI, e_gR, e_aI, e_aR, e_aN, e_cV, e_cS, e_fNil, e_fAi, e_fAr, e_sSeq, e_sSkip, e_sSt, e_sSr, e_sInc, e_sRI, e_sRR, e_sRV, e_sIf, e_sCall, e_sPI, e_sPZ, e_sPR, e_sPO, e_sAI, e_sAZ, e_sAO, e_sAR, e_sPopI, e_sPopR, e_sCopy, e_mI, e_mZ, e_mR, e_mV, jAdd_n, jMul_n, z0, z1, Option.bind_some, List.getElem?_cons_zero, List.getElem?_cons_succ, List.set_cons_zero, List.set_cons_succ, eq_self, if_true, ite_and, ite_or, ite_I, ite_bI, ite_bJ, bI_ne, bI_01, List.cons_append, List.nil_append, Bool.false_eq_true, if_false, gT26_27 h, gT26_22 h, gT26_28 h, iT44 h hd, k22, q7, iT49 h (show 8 * d + i < 72 by omega), k49, iT50 h (show i < 9 by omega), k50, wT49 h (show 8 * d + i < 72 by omega)]; rfl) ?_)
          refine wS_l (by simp only [e_fI, e_fLd, e_fLr, e_fB, e_fD, e_fC, e_fT, e_fAnd, e_fOr, e_fNot, e_fCC, e_fIf, e_gI, e_gR, e_aI, e_aR, e_aN, e_cV, e_cS, e_fNil, e_fAi, e_fAr, e_sSeq, e_sSkip, e_sSt, e_sSr, e_sInc, e_sRI, e_sRR, e_sRV, e_sIf, e_sCall, e_sPI, e_sPZ, e_sPR, e_sPO, e_sAI, e_sAZ, e_sAO, e_sAR, e_sPopI, e_sPopR, e_sCopy, e_mI, e_mZ, e_mR, e_mV, jAdd_n, jMul_n, z0, z1, Option.bind_some, List.getElem?_cons_zero, List.getElem?_cons_succ, List.set_cons_zero, List.set_cons_succ, eq_self, if_true, ite_and, ite_or, ite_I, ite_bI, ite_bJ, bI_ne, bI_01, List.cons_append, List.nil_append, Bool.false_eq_true, if_false, nI_add]; rfl) ?_
          exact ⟨_, rfl, rfl, fin _ (by rw [if_neg n7, jOr0])⟩
      · rintro _ _ ⟨ρ, rfl, rfl, hGρ, hFρ⟩
        have k26 : ρ 48 d = G 0 4 := (hGρ.1 4 (by omega)).trans (by dsimp only; rw [if_neg (by omega)])
        refine wSeq (wS_l (by simp only [e_fI, e_fLd, e_fLr, e_fB, e_fD, e_fC, e_fT, e_fAnd, e_fOr, e_fNot, e_fCC, e_fIf, e_gI, e_gR, e_aI, e_aR, e_aN, e_cV, e_cS, e_fNil, e_fAi, e_fAr, e_sSeq, e_sSkip, e_sSt, e_sSr, e_sInc, e_sRI, e_sRR, e_sRV, e_sIf, e_sCall, e_sPI, e_sPZ, e_sPR, e_sPO, e_sAI, e_sAZ, e_sAO, e_sAR, e_sPopI, e_sPopR, e_sCopy, e_mI, e_mZ, e_mR, e_mV, jAdd_n, jMul_n, z0, z1, Option.bind_some, List.getElem?_cons_zero, List.getElem?_cons_succ, List.set_cons_zero, List.set_cons_succ, eq_self, if_true, ite_and, ite_or, ite_I, ite_bI, ite_bJ, bI_ne, bI_01, List.cons_append, List.nil_append, Bool.false_eq_true, if_false, gT26_26 h, iT48 h hd, k26, wT48 h hd]; rfl) ?_)
        have hF1 : FX (DC d) τ (up ρ 48 d (jAdd (G 0 4) (nI 1))) := hFρ.u (Or.inl ⟨by omega, by omega, rfl⟩)
        exact wS_r rfl ⟨rfl, _, rfl, hR.od (hF1.m (fun _ _ => Or.inl)), hGρ.u0 (i := 4) (by omega), hF0.t (hF1.m (fun _ _ k => Or.inr (Or.inl k)))⟩
      · refine ⟨fun j hj => ?_, fun j hj => ?_⟩
        · dsimp only
          rw [if_neg (by omega)]
          exact hGτ.1 j hj
        · dsimp only
          rw [if_neg (by omega)]
          exact hGτ.2 j hj
    · exact absurd hb (by decide)
  | false =>
    rw [Bool.not_false, if_pos rfl, if_pos rfl]
    have qa := q_R_allowed (f := fN G) (l := fN G + kN G - 1) (w := true) h hA hs6 hok hf (by omega) (by omega) (by omega)
    rw [bI_t] at qa
    refine wSeq (wIf (by simp only [e_fI, e_fLd, e_fLr, e_fB, e_fD, e_fC, e_fT, e_fAnd, e_fOr, e_fNot, e_fCC, e_fIf, e_gI, e_gR, e_aI, e_aR, e_aN, e_cV, e_cS, e_fNil, e_fAi, e_fAr, e_sSeq, e_sSkip, e_sSt, e_sSr, e_sInc, e_sRI, e_sRR, e_sRV, e_sIf, e_sCall, e_sPI, e_sPZ, e_sPR, e_sPO, e_sAI, e_sAZ, e_sAO, e_sAR, e_sPopI, e_sPopR, e_sCopy, e_mI, e_mZ, e_mR, e_mV, jAdd_n, jMul_n, z0, z1, Option.bind_some, List.getElem?_cons_zero, List.getElem?_cons_succ, List.set_cons_zero, List.set_cons_succ, eq_self, if_true, ite_and, ite_or, ite_I, ite_bI, ite_bJ, bI_ne, bI_01, List.cons_append, List.nil_append, Bool.false_eq_true, if_false]; rfl) (fun hb => ?_) (fun hb => ?_))
    · exact absurd hb (by decide)
    clear hb
    refine wSeq (wIf (by simp only [e_fI, e_fLd, e_fLr, e_fB, e_fD, e_fC, e_fT, e_fAnd, e_fOr, e_fNot, e_fCC, e_fIf, e_gI, e_gR, e_aI, e_aR, e_aN, e_cV, e_cS, e_fNil, e_fAi, e_fAr, e_sSeq, e_sSkip, e_sSt, e_sSr, e_sInc, e_sRI, e_sRR, e_sRV, e_sIf, e_sCall, e_sPI, e_sPZ, e_sPR, e_sPO, e_sAI, e_sAZ, e_sAO, e_sAR, e_sPopI, e_sPopR, e_sCopy, e_mI, e_mZ, e_mR, e_mV, jAdd_n, jMul_n, z0, z1, Option.bind_some, List.getElem?_cons_zero, List.getElem?_cons_succ, List.set_cons_zero, List.set_cons_succ, eq_self, if_true, ite_and, ite_or, ite_I, ite_bI, ite_bJ, bI_ne, bI_01, List.cons_append, List.nil_append, Bool.false_eq_true, if_false, kT26 h, qa]; rfl) (fun hb => ?_) (fun hb => ?_))
    · have q : (decide (fN G + kN G - 1 < 128) && alwR (A 4) (A 15) (fN G) (fN G + kN G - 1) true) = false := by
        cases q : (decide (fN G + kN G - 1 < 128) && alwR (A 4) (A 15) (fN G) (fN G + kN G - 1) true)
        · rfl
        · rw [q] at hb; cases hb
      rw [q, if_neg Bool.false_ne_true, if_neg Bool.false_ne_true]
      exact wS_r rfl ⟨rfl, σ, rfl, hA, hG, FX.r _ σ⟩
    refine wS_l rfl ?_
    have q : (decide (fN G + kN G - 1 < 128) && alwR (A 4) (A 15) (fN G) (fN G + kN G - 1) true) = true := by
      cases q : (decide (fN G + kN G - 1 < 128) && alwR (A 4) (A 15) (fN G) (fN G + kN G - 1) true)
      · rw [q] at hb; cases hb
      · rfl
    rw [q, if_pos rfl, if_pos rfl]
    clear hb
    have hl : fN G + kN G - 1 < 128 := of_decide_eq_true (Bool.and_eq_true_iff.mp q).1
    have hal := (Bool.and_eq_true_iff.mp q).2
    refine wSeq (wSeq (wS_l (by simp only [e_fI, e_fLd, e_fLr, e_fB, e_fD, e_fC, e_fT, e_fAnd, e_fOr, e_fNot, e_fCC, e_fIf, e_gI, e_gR, e_aI, e_aR, e_aN, e_cV, e_cS, e_fNil, e_fAi, e_fAr, e_sSeq, e_sSkip, e_sSt, e_sSr, e_sInc, e_sRI, e_sRR, e_sRV, e_sIf, e_sCall, e_sPI, e_sPZ, e_sPR, e_sPO, e_sAI, e_sAZ, e_sAO, e_sAR, e_sPopI, e_sPopR, e_sCopy, e_mI, e_mZ, e_mR, e_mV, jAdd_n, jMul_n, z0, z1, Option.bind_some, List.getElem?_cons_zero, List.getElem?_cons_succ, List.set_cons_zero, List.set_cons_succ, eq_self, if_true, ite_and, ite_or, ite_I, ite_bI, ite_bJ, bI_ne, bI_01, List.cons_append, List.nil_append, Bool.false_eq_true, if_false]; rfl) ?_))
    refine wWh (I := fun i L H => ∃ ρ, L = [some (.ref 26), some (.int (nI s)), some (.int (nI d)), some (.int (nI (fN G))), some (.int (nI (fN G + kN G - 1))), some (.int (bI false)), some (.int (nI i))] ∧ H = hs n ρ ∧ (∀ j, j < i → ρ 50 j = G 1 j) ∧ FX (fun a _ => a = 50) σ ρ) (e := kN G) ?_ ?_ ?_ 600 0 _ _ (by omega) (by omega) ⟨σ, rfl, rfl, fun j hj => by omega, FX.r _ σ⟩
    · rintro i _ _ ⟨ρ, rfl, rfl, hV, hFρ⟩ hi
      have k25 : ρ 47 d = nI (kN G) := by rw [hFρ 47 d (by omega)]; exact c25
      simp only [e_fI, e_fLd, e_fLr, e_fB, e_fD, e_fC, e_fT, e_fAnd, e_fOr, e_fNot, e_fCC, e_fIf, e_gI, e_gR, e_aI, e_aR, e_aN, e_cV, e_cS, e_fNil, e_fAi, e_fAr, e_sSeq, e_sSkip, e_sSt, e_sSr, e_sInc, e_sRI, e_sRR, e_sRV, e_sIf, e_sCall, e_sPI, e_sPZ, e_sPR, e_sPO, e_sAI, e_sAZ, e_sAO, e_sAR, e_sPopI, e_sPopR, e_sCopy, e_mI, e_mZ, e_mR, e_mV, jAdd_n, jMul_n, z0, z1, Option.bind_some, List.getElem?_cons_zero, List.getElem?_cons_succ, List.set_cons_zero, List.set_cons_succ, eq_self, if_true, ite_and, ite_or, ite_I, ite_bI, ite_bJ, bI_ne, bI_01, List.cons_append, List.nil_append, Bool.false_eq_true, if_false, gT26_25 h, iT47 h hd, k25, jLt, nI_ltI (show i < 2 ^ 31 by omega) (show kN G < 2 ^ 31 by omega)]
    · rintro i _ _ ⟨ρ, rfl, rfl, hV, hFρ⟩ hi
      have k49 : ρ 49 (8 * d + i) = G 1 i := by rw [hFρ 49 _ (by omega)]; exact hG.2 i (by omega)
      refine wSeq (wS_l (by simp only [e_fI, e_fLd, e_fLr, e_fB, e_fD, e_fC, e_fT, e_fAnd, e_fOr, e_fNot, e_fCC, e_fIf, e_gI, e_gR, e_aI, e_aR, e_aN, e_cV, e_cS, e_fNil, e_fAi, e_fAr, e_sSeq, e_sSkip, e_sSt, e_sSr, e_sInc, e_sRI, e_sRR, e_sRV, e_sIf, e_sCall, e_sPI, e_sPZ, e_sPR, e_sPO, e_sAI, e_sAZ, e_sAO, e_sAR, e_sPopI, e_sPopR, e_sCopy, e_mI, e_mZ, e_mR, e_mV, jAdd_n, jMul_n, z0, z1, Option.bind_some, List.getElem?_cons_zero, List.getElem?_cons_succ, List.set_cons_zero, List.set_cons_succ, eq_self, if_true, ite_and, ite_or, ite_I, ite_bI, ite_bJ, bI_ne, bI_01, List.cons_append, List.nil_append, Bool.false_eq_true, if_false, gT26_27 h, gT26_28 h, iT49 h (show 8 * d + i < 72 by omega), k49, wT50 h (show i < 9 by omega)]; rfl) ?_)
      refine wS_l (by simp only [e_fI, e_fLd, e_fLr, e_fB, e_fD, e_fC, e_fT, e_fAnd, e_fOr, e_fNot, e_fCC, e_fIf, e_gI, e_gR, e_aI, e_aR, e_aN, e_cV, e_cS, e_fNil, e_fAi, e_fAr, e_sSeq, e_sSkip, e_sSt, e_sSr, e_sInc, e_sRI, e_sRR, e_sRV, e_sIf, e_sCall, e_sPI, e_sPZ, e_sPR, e_sPO, e_sAI, e_sAZ, e_sAO, e_sAR, e_sPopI, e_sPopR, e_sCopy, e_mI, e_mZ, e_mR, e_mV, jAdd_n, jMul_n, z0, z1, Option.bind_some, List.getElem?_cons_zero, List.getElem?_cons_succ, List.set_cons_zero, List.set_cons_succ, eq_self, if_true, ite_and, ite_or, ite_I, ite_bI, ite_bJ, bI_ne, bI_01, List.cons_append, List.nil_append, Bool.false_eq_true, if_false, nI_add]; rfl) ?_
      refine ⟨_, rfl, rfl, fun j hj => ?_, hFρ.u rfl⟩
      unfold up
      by_cases qj : j = i
      · rw [if_pos ⟨rfl, qj⟩, qj]
      · rw [if_neg (fun k => qj k.2)]
        exact hV j (by omega)
    · rintro _ _ ⟨ρ, rfl, rfl, hV, hFρ⟩
      have hRρ : RR ρ s A := hA.od (d := d) (hFρ.m (fun _ _ k => Or.inr k))
      have hGρ : RG ρ d G := hG.os (s := s) (hFρ.m (fun _ _ k => Or.inr k))
      obtain ⟨τ, e, hR, hF⟩ := q_R_writes (f := fN G) (l := fN G + kN G - 1) (v := fun j => if j < 8 then G 1 j else nI 0) h hRρ hs6 hok (by omega) hl (by omega) (fun j hj => by
        rw [if_pos (show j < 8 by omega)]
        exact ⟨hV j (by omega), hgb j (by omega)⟩)
      rw [show fN G + kN G - 1 + 1 - fN G = kN G by omega] at hR
      have hcw : cW A (fN G) (G 1) (fun _ => nI 255) (kN G) = cmF (stF A (fN G) (fun j => if j < 8 then G 1 j else nI 0) (kN G)) (fN G) (kN G) := by
        have hby : ∀ j, byt ((fun j => if j < 8 then G 1 j else nI 0) j) := fun j => by
          dsimp only
          split
          · exact hgb j (by assumption)
          · exact byt_n (by omega)
        rw [cW_cg (r' := fun j => if j < 8 then G 1 j else nI 0) (m' := fun _ => nI 255) (kN G) (fun j hj => ⟨by rw [if_pos (by omega)], rfl⟩)]
        rw [cW_st hok (by omega) (by omega) hby (fun b c' h1 h2 => wr_mo hal b c' h1 (by omega))]
        congr 1
        exact stF_cg _ (fun j hj => mrg255 (hok.hl (by omega)) (hby j))
      rw [hcw]
      refine wS_l (by simp only [e_fI, e_fLd, e_fLr, e_fB, e_fD, e_fC, e_fT, e_fAnd, e_fOr, e_fNot, e_fCC, e_fIf, e_gI, e_gR, e_aI, e_aR, e_aN, e_cV, e_cS, e_fNil, e_fAi, e_fAr, e_sSeq, e_sSkip, e_sSt, e_sSr, e_sInc, e_sRI, e_sRR, e_sRV, e_sIf, e_sCall, e_sPI, e_sPZ, e_sPR, e_sPO, e_sAI, e_sAZ, e_sAO, e_sAR, e_sPopI, e_sPopR, e_sCopy, e_mI, e_mZ, e_mR, e_mV, jAdd_n, jMul_n, z0, z1, Option.bind_some, List.getElem?_cons_zero, List.getElem?_cons_succ, List.set_cons_zero, List.set_cons_succ, eq_self, if_true, ite_and, ite_or, ite_I, ite_bI, ite_bJ, bI_ne, bI_01, List.cons_append, List.nil_append, Bool.false_eq_true, if_false, kT26 h, e]; rfl) ?_
      have hGτ : RG τ d G := hGρ.os (s := s) (hF.m (fun _ _ => Or.inl))
      have k26 : τ 48 d = G 0 4 := hGτ.1 4 (by omega)
      refine wSeq (wS_l (by simp only [e_fI, e_fLd, e_fLr, e_fB, e_fD, e_fC, e_fT, e_fAnd, e_fOr, e_fNot, e_fCC, e_fIf, e_gI, e_gR, e_aI, e_aR, e_aN, e_cV, e_cS, e_fNil, e_fAi, e_fAr, e_sSeq, e_sSkip, e_sSt, e_sSr, e_sInc, e_sRI, e_sRR, e_sRV, e_sIf, e_sCall, e_sPI, e_sPZ, e_sPR, e_sPO, e_sAI, e_sAZ, e_sAO, e_sAR, e_sPopI, e_sPopR, e_sCopy, e_mI, e_mZ, e_mR, e_mV, jAdd_n, jMul_n, z0, z1, Option.bind_some, List.getElem?_cons_zero, List.getElem?_cons_succ, List.set_cons_zero, List.set_cons_succ, eq_self, if_true, ite_and, ite_or, ite_I, ite_bI, ite_bJ, bI_ne, bI_01, List.cons_append, List.nil_append, Bool.false_eq_true, if_false, gT26_26 h, iT48 h hd, k26, wT48 h hd]; rfl) ?_)
      have hF1 : FX (DC d) τ (up τ 48 d (jAdd (G 0 4) (nI 1))) := (FX.r _ τ).u (Or.inl ⟨by omega, by omega, rfl⟩)
      refine wS_r rfl ⟨rfl, _, rfl, hR.od (hF1.m (fun _ _ => Or.inl)), hGτ.u0 (i := 4) (by omega), ?_⟩
      exact ((hFρ.m (fun _ _ k => Or.inr (Or.inr (Or.inl k)))).t (hF.m (fun _ _ => Or.inl))).t (hF1.m (fun _ _ k => Or.inr (Or.inl k)))
end TOU
