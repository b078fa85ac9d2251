/-! cycle, the program's side -/
theorem pf_3 {A G : sg} (hg : okP G) : (pf A G).2 0 3 = G 0 3 := by
  obtain ⟨c, hc, e0, h1, h2⟩ := hg
  have dg : dirG A G 0 3 = G 0 3 := by
    unfold dirG
    split
    · split <;> rfl
    · split <;> rfl
  have dp : ∀ b, (dirP A G b).2 0 3 = G 0 3 := fun b => by
    unfold dirP
    split
    · exact dg
    · rfl
  rw [pf_e e0 (by omega)]
  split
  · dsimp only
    exact dp _
  split
  · exact dp _
  split
  · dsimp only
    exact dp _
  · dsimp only
    unfold lgG
    rw [if_neg (show ¬ 0 = 1 by omega), if_neg (show ¬ (0 = 0 ∧ 3 = 4) by omega)]
theorem runS_3 {A : sg} {G : Nat → sg} {z : Nat} (h : okA A) (hg : ∀ e, e < z → okP (G e)) : ∀ d, d ≤ z → ∀ e, e < z → (runS A G d).2 e 0 3 = G e 0 3
  | 0, _ => fun _ _ => rfl
  | d + 1, hd => fun e he => by
    have ok := runS_ok h hg d (by omega)
    have ih := runS_3 h hg d (by omega)
    show (if e = d then _ else _ : sg) 0 3 = _
    split
    · rename_i q
      subst q
      rw [pf_3 (ok.2 e he)]
      exact ih e he
    · exact ih e he
theorem runL_3 {A G : Nat → sg} {k z : Nat} (h : ∀ t, t < k → okA (A t)) (hg : ∀ e, e < z → okP (G e)) : ∀ s, s ≤ k → ∀ e, e < z → (runL A G z s).2 e 0 3 = G e 0 3
  | 0, _ => fun _ _ => rfl
  | s + 1, hs => fun e he => by
    have ok := runL_ok (z := z) h hg s (by omega)
    show (runS _ _ z).2 e 0 3 = _
    rw [runS_3 (ok.1 s (by omega)) ok.2 z (Nat.le_refl _) e he]
    exact runL_3 h hg s (by omega) e he
section SFC
variable {n X : Nat} {σ : sg} {w : wd}
theorem cy_len {e : Nat} (hW : okW w) (he : e < ptC w) : (w1C w).2.2.1 e 0 3 = nI (lnC (sW w) e) := by
  have h1 := hW.fr (ptC_3 hW) (fun _ he => cyG_ok hW he)
  have ez : zW (frW w (ptC w) (cyG w)) = ptC w := zW_f (ptC_3 hW)
  have := runL_3 (A := w.1) (G := cyG w) (k := kW w) (z := ptC w) (fun t ht => (hW.u ht).1) (fun _ he => cyG_ok hW he) (dW (frW w (ptC w) (cyG w))) (dW_le h1) e he
  show (runL w.1 (cyG w) (zW (frW w (ptC w) (cyG w))) (dW (frW w (ptC w) (cyG w)))).2 e 0 3 = _
  rw [ez, this]
  rfl
theorem cp_5D {D sp k : Nat} (h : okB n) (hD : isD D) (h1 : sp + k ≤ 24) (h2 : k ≤ 8) : hp_cp (hs n σ) 5 (nI sp) (D + 1) (nI 0) (nI k) = some (hs n (cpy σ 5 sp (D + 1) 0 k)) := by
  have hl := hD.lt
  have s0 : sz 5 = 24 := (sb (by omega)).trans rfl
  have s1 : sz (D + 1) = 8 := (sb (by omega)).trans hD.t.2.2.2.2.1
  exact cp_hs (by unfold okB at h; omega) (by unfold okB at h; omega) ((kb (by omega)).trans rfl) ((kb (by omega)).trans hD.t.2.2.2.1) (by omega) (by omega) (by omega) (fun j _ => isF_A (by omega) (by omega) rfl) (fun j _ => isF_D hD) (by unfold isD at hD; omega)
theorem cp_D6 {D dp k : Nat} (h : okB n) (hD : isD D) (h1 : dp + k ≤ 24) (h2 : k ≤ 8) : hp_cp (hs n σ) (D + 1) (nI 0) 6 (nI dp) (nI k) = some (hs n (cpy σ (D + 1) 0 6 dp k)) := by
  have hl := hD.lt
  have s0 : sz 6 = 24 := (sb (by omega)).trans rfl
  have s1 : sz (D + 1) = 8 := (sb (by omega)).trans hD.t.2.2.2.2.1
  exact cp_hs (by unfold okB at h; omega) (by unfold okB at h; omega) ((kb (by omega)).trans hD.t.2.2.2.1) ((kb (by omega)).trans rfl) (by omega) (by omega) (by omega) (fun j _ => isF_D hD) (fun j _ => isF_A (by omega) (by omega) rfl) (by omega)
theorem baC_n {u : wd} {k : Nat} (h : ∀ d, d < k → jNe ((w1C u).2.2.1 d 0 4) (nI (exA u d (mW u))) = false) : baC u k = none := by
  unfold baC
  rw [List.find?_eq_none]
  intro d hd
  rw [h d (List.mem_range.mp hd)]
  exact Bool.false_ne_true
theorem baC_s {u : wd} {d k : Nat} (hd : d < k) (h : ∀ e, e < d → jNe ((w1C u).2.2.1 e 0 4) (nI (exA u e (mW u))) = false) (h1 : jNe ((w1C u).2.2.1 d 0 4) (nI (exA u d (mW u))) = true) : baC u k = some d := by
  unfold baC
  rw [List.find?_range_eq_some]
  refine ⟨h1, List.mem_range.mpr hd, fun j hj => ?_⟩
  rw [h j hj]
  rfl
theorem c_cycle (hC : CPc n X σ w) (hW : okW w) : ∃ τ, G_L_cycle [.ref 0] (hs n σ) = some (a_cycle w, hs n τ) ∧ CPc n X τ (cyW w) ∧ FK σ τ := by
  have h := hC.B
  have hX := hC.ix
  have hb10 : X = 10 ∨ X = 18 := hX
  have hsw := sW_e hW
  have es := hC.cs.trans hsw.1
  have hp3 := ptC_3 hW
  refine mI_t (Nat.le_of_ble_eq_true rfl) ?_
  simp only [jx_L0, List.map_cons, List.map_nil, List.length_cons, List.length_nil, Nat.reduceAdd, Nat.reduceSub, List.replicate, List.cons_append, List.nil_append]
  unfold P_L_cycle a_cycle cyW
  have e0 : jEq (nI (sW w)) 0 = decide (sW w = 0) := by rw [← nI_0, jEq_n (by omega) (by omega)]
  refine wSeq (wIf (by simp only [e_fI, e_fLd, e_fLr, e_fB, e_fD, e_fC, e_fT, e_fAnd, e_fOr, e_fNot, e_fCC, e_fIf, e_gI, e_gR, e_aI, e_aR, e_aN, e_cV, e_cS, e_fNil, e_fAi, e_fAr, e_sSeq, e_sSkip, e_sSt, e_sSr, e_sInc, e_sRI, e_sRR, e_sRV, e_sIf, e_sCall, e_sPI, e_sPZ, e_sPR, e_sPO, e_sAI, e_sAZ, e_sAO, e_sAR, e_sPopI, e_sPopR, e_sCopy, e_mI, e_mZ, e_mR, e_mV, jAdd_n, jMul_n, z0, z1, Option.bind_some, List.getElem?_cons_zero, List.getElem?_cons_succ, List.set_cons_zero, List.set_cons_succ, eq_self, if_true, ite_and, ite_or, ite_I, ite_bI, ite_bJ, bI_ne, bI_01, List.cons_append, List.nil_append, Bool.false_eq_true, if_false, gT0_1 h, gT4_6 h, es, e0]; rfl) (fun hb => ?_) (fun hb => ?_))
  · rw [if_pos (of_decide_eq_true hb), if_pos (of_decide_eq_true hb)]
    exact wS_r rfl ⟨rfl, σ, rfl, hC, FK.r σ⟩
  have s0 := of_decide_eq_false hb
  rw [if_neg s0, if_neg s0]
  clear hb
  refine wS_l rfl ?_
  refine wSeq (wS_l (by simp only [e_fI, e_fLd, e_fLr, e_fB, e_fD, e_fC, e_fT, e_fAnd, e_fOr, e_fNot, e_fCC, e_fIf, e_gI, e_gR, e_aI, e_aR, e_aN, e_cV, e_cS, e_fNil, e_fAi, e_fAr, e_sSeq, e_sSkip, e_sSt, e_sSr, e_sInc, e_sRI, e_sRR, e_sRV, e_sIf, e_sCall, e_sPI, e_sPZ, e_sPR, e_sPO, e_sAI, e_sAZ, e_sAO, e_sAR, e_sPopI, e_sPopR, e_sCopy, e_mI, e_mZ, e_mR, e_mV, jAdd_n, jMul_n, z0, z1, Option.bind_some, List.getElem?_cons_zero, List.getElem?_cons_succ, List.set_cons_zero, List.set_cons_succ, eq_self, if_true, ite_and, ite_or, ite_I, ite_bI, ite_bJ, bI_ne, bI_01, List.cons_append, List.nil_append, Bool.false_eq_true, if_false, hC.g3, pX1 h hX]; rfl) ?_)
  have hq : ptC w = (sW w + 7) / 8 := rfl
  refine wSeq (wSeq (wS_l (by simp only [e_fI, e_fLd, e_fLr, e_fB, e_fD, e_fC, e_fT, e_fAnd, e_fOr, e_fNot, e_fCC, e_fIf, e_gI, e_gR, e_aI, e_aR, e_aN, e_cV, e_cS, e_fNil, e_fAi, e_fAr, e_sSeq, e_sSkip, e_sSt, e_sSr, e_sInc, e_sRI, e_sRR, e_sRV, e_sIf, e_sCall, e_sPI, e_sPZ, e_sPR, e_sPO, e_sAI, e_sAZ, e_sAO, e_sAR, e_sPopI, e_sPopR, e_sCopy, e_mI, e_mZ, e_mR, e_mV, jAdd_n, jMul_n, z0, z1, Option.bind_some, List.getElem?_cons_zero, List.getElem?_cons_succ, List.set_cons_zero, List.set_cons_succ, eq_self, if_true, ite_and, ite_or, ite_I, ite_bI, ite_bJ, bI_ne, bI_01, List.cons_append, List.nil_append, Bool.false_eq_true, if_false]; rfl) ?_))
  refine wWh (I := fun d L H => ∃ τ x2 x3, L = [some (.ref 0), some (.int (nI (8 * d))), x2, x3] ∧ H = hs n τ ∧ τ X 1 = nI d ∧ (∀ e, e < d → RD τ (X + 2 + 2 * e) (cyG w e)) ∧ (∀ b, b ≠ X → ¬ (X + 2 ≤ b ∧ b < X + 8) → τ b = σ b)) (e := ptC w) ?_ ?_ ?_ 600 0 _ _ (by omega) (by omega) ⟨_, none, none, rfl, rfl, by unfold up; rw [if_pos ⟨rfl, rfl⟩], fun e he => by omega, fun b g1 g2 => up_ne g1⟩
  · rintro d _ _ ⟨τ, x2, x3, rfl, rfl, -, -, hF⟩ hi
    have : τ 4 6 = nI (sW w) := by rw [hF 4 (by omega) (by omega)]; exact es
    have e8 : decide (8 * d < sW w) = decide (d < ptC w) := decide_eq_decide.mpr (by omega)
    simp only [e_fI, e_fLd, e_fLr, e_fB, e_fD, e_fC, e_fT, e_fAnd, e_fOr, e_fNot, e_fCC, e_fIf, e_gI, e_gR, e_aI, e_aR, e_aN, e_cV, e_cS, e_fNil, e_fAi, e_fAr, e_sSeq, e_sSkip, e_sSt, e_sSr, e_sInc, e_sRI, e_sRR, e_sRV, e_sIf, e_sCall, e_sPI, e_sPZ, e_sPR, e_sPO, e_sAI, e_sAZ, e_sAO, e_sAR, e_sPopI, e_sPopR, e_sCopy, e_mI, e_mZ, e_mR, e_mV, jAdd_n, jMul_n, z0, z1, Option.bind_some, List.getElem?_cons_zero, List.getElem?_cons_succ, List.set_cons_zero, List.set_cons_succ, eq_self, if_true, ite_and, ite_or, ite_I, ite_bI, ite_bJ, bI_ne, bI_01, List.cons_append, List.nil_append, Bool.false_eq_true, if_false, gT0_1 h, gT4_6 h, this, jLt, nI_ltI (show 8 * d < 2 ^ 31 by omega) (show sW w < 2 ^ 31 by omega), e8]
  · rintro d _ _ ⟨τ, x2, x3, rfl, rfl, hz, hD, hF⟩ hi
    have e46 : τ 4 6 = nI (sW w) := by rw [hF 4 (by omega) (by omega)]; exact es
    have g3' : τ 0 3 = nI X := by rw [hF 0 (by omega) (by omega)]; exact hC.2.2.2.1
    have eln : min 8 (sW w - 8 * d) = lnC (sW w) d := rfl
    have hln : lnC (sW w) d ≤ 8 ∧ 8 * d + lnC (sW w) d ≤ sW w := by unfold lnC; omega
    refine wSeq (wSeq (wS_l (by simp only [e_fI, e_fLd, e_fLr, e_fB, e_fD, e_fC, e_fT, e_fAnd, e_fOr, e_fNot, e_fCC, e_fIf, e_gI, e_gR, e_aI, e_aR, e_aN, e_cV, e_cS, e_fNil, e_fAi, e_fAr, e_sSeq, e_sSkip, e_sSt, e_sSr, e_sInc, e_sRI, e_sRR, e_sRV, e_sIf, e_sCall, e_sPI, e_sPZ, e_sPR, e_sPO, e_sAI, e_sAZ, e_sAO, e_sAR, e_sPopI, e_sPopR, e_sCopy, e_mI, e_mZ, e_mR, e_mV, jAdd_n, jMul_n, z0, z1, Option.bind_some, List.getElem?_cons_zero, List.getElem?_cons_succ, List.set_cons_zero, List.set_cons_succ, eq_self, if_true, ite_and, ite_or, ite_I, ite_bI, ite_bJ, bI_ne, bI_01, List.cons_append, List.nil_append, Bool.false_eq_true, if_false, gT0_1 h, gT4_6 h, e46, jSub_n (show 8 * d ≤ sW w by omega), jMin_n (show 8 < 2 ^ 31 by omega) (show sW w - 8 * d < 2 ^ 31 by omega), eln]; rfl) ?_))
    obtain ⟨ρ, e, r1, r2, r3⟩ := q_F_append (c := nI 12) (a := nI (8 * d)) (o := nI 0) (l := nI (lnC (sW w) d)) h hX hz (by omega)
    refine wSeq (wS_l (by simp only [e_fI, e_fLd, e_fLr, e_fB, e_fD, e_fC, e_fT, e_fAnd, e_fOr, e_fNot, e_fCC, e_fIf, e_gI, e_gR, e_aI, e_aR, e_aN, e_cV, e_cS, e_fNil, e_fAi, e_fAr, e_sSeq, e_sSkip, e_sSt, e_sSr, e_sInc, e_sRI, e_sRR, e_sRV, e_sIf, e_sCall, e_sPI, e_sPZ, e_sPR, e_sPO, e_sAI, e_sAZ, e_sAO, e_sAR, e_sPopI, e_sPopR, e_sCopy, e_mI, e_mZ, e_mR, e_mV, jAdd_n, jMul_n, z0, z1, Option.bind_some, List.getElem?_cons_zero, List.getElem?_cons_succ, List.set_cons_zero, List.set_cons_succ, eq_self, if_true, ite_and, ite_or, ite_I, ite_bI, ite_bJ, bI_ne, bI_01, List.cons_append, List.nil_append, Bool.false_eq_true, if_false, gL3 h g3' (by omega), kX h hX, e]; rfl) ?_)
    have hDd := hX.D (show d < 3 by omega)
    generalize hDe : X + 2 + 2 * d = D at hDd r1 r3 e ⊢
    refine wS_l (by simp only [e_fI, e_fLd, e_fLr, e_fB, e_fD, e_fC, e_fT, e_fAnd, e_fOr, e_fNot, e_fCC, e_fIf, e_gI, e_gR, e_aI, e_aR, e_aN, e_cV, e_cS, e_fNil, e_fAi, e_fAr, e_sSeq, e_sSkip, e_sSt, e_sSr, e_sInc, e_sRI, e_sRR, e_sRV, e_sIf, e_sCall, e_sPI, e_sPZ, e_sPR, e_sPO, e_sAI, e_sAZ, e_sAO, e_sAR, e_sPopI, e_sPopR, e_sCopy, e_mI, e_mZ, e_mR, e_mV, jAdd_n, jMul_n, z0, z1, Option.bind_some, List.getElem?_cons_zero, List.getElem?_cons_succ, List.set_cons_zero, List.set_cons_succ, eq_self, if_true, ite_and, ite_or, ite_I, ite_bI, ite_bJ, bI_ne, bI_01, List.cons_append, List.nil_append, Bool.false_eq_true, if_false, gT0_1 h, gT4_0 h, gD5 h hDd, cp_5D h hDd (show 8 * d + lnC (sW w) d ≤ 24 by omega) hln.1]; rfl) ?_
    refine wS_l (by simp only [e_fI, e_fLd, e_fLr, e_fB, e_fD, e_fC, e_fT, e_fAnd, e_fOr, e_fNot, e_fCC, e_fIf, e_gI, e_gR, e_aI, e_aR, e_aN, e_cV, e_cS, e_fNil, e_fAi, e_fAr, e_sSeq, e_sSkip, e_sSt, e_sSr, e_sInc, e_sRI, e_sRR, e_sRV, e_sIf, e_sCall, e_sPI, e_sPZ, e_sPR, e_sPO, e_sAI, e_sAZ, e_sAO, e_sAR, e_sPopI, e_sPopR, e_sCopy, e_mI, e_mZ, e_mR, e_mV, jAdd_n, jMul_n, z0, z1, Option.bind_some, List.getElem?_cons_zero, List.getElem?_cons_succ, List.set_cons_zero, List.set_cons_succ, eq_self, if_true, ite_and, ite_or, ite_I, ite_bI, ite_bJ, bI_ne, bI_01, List.cons_append, List.nil_append, Bool.false_eq_true, if_false, nI_add]; rfl) ?_
    refine ⟨_, _, _, rfl, rfl, ?_, fun e' he => ?_, fun b g1 g2 => ?_⟩
    · rw [cpy_ne (by omega)]
      exact r2
    · by_cases q : e' = d
      · rw [q, hDe]
        refine ⟨fun i hi => ?_, fun i hi => ?_⟩
        · rw [cpy_ne (by omega)]
          exact r1.1 i hi
        · show _ = if i < lnC (sW w) d then vW w 2 (8 * d + i) else nI 0
          unfold cpy
          by_cases q2 : i < lnC (sW w) d
          · rw [if_pos ⟨rfl, by omega, by omega⟩, if_pos q2, Nat.sub_zero, r3 5 (by omega) (by omega) (by omega), hF 5 (by omega) (by omega)]
            exact hC.st (by omega)
          · rw [if_neg (by omega), if_neg q2]
            exact r1.2 i hi
      · exact (hD e' (by omega)).keep ((cpy_ne (by omega)).trans (r3 _ (by omega) (by omega) (by omega))) ((cpy_ne (by omega)).trans (r3 _ (by omega) (by omega) (by omega)))
    · rw [cpy_ne (by omega), r3 b g1 (by omega) (by omega)]
      exact hF b g1 g2
  rintro _ _ ⟨τ, x2, x3, rfl, rfl, hz, hD, hF⟩
  have hC1 : CPc n X τ (frW w (ptC w) (cyG w)) := hC.fr hF hz hp3 hD
  have hW1 := hW.fr hp3 (fun _ he => cyG_ok hW he)
  obtain ⟨ρ, ec, q1, q2⟩ := c_carry (L := [some (.ref 0), some (.int (nI (8 * ptC w))), x2, x3]) hC1 hW1 rfl
  refine wSeq (wS_l ec ?_)
  have q1' : CPc n X ρ (w1C w) := q1
  have hFρ : FK σ ρ := (FK.fr hX hF).t q2
  have ok1 := w1C_ok hW
  have eb : ρ 0 4 = bI (bW (w1C w)) := q1'.cb.trans ok1.b
  clear q1 q2 ec hC1
  refine wSeq (wIf (by simp only [e_fI, e_fLd, e_fLr, e_fB, e_fD, e_fC, e_fT, e_fAnd, e_fOr, e_fNot, e_fCC, e_fIf, e_gI, e_gR, e_aI, e_aR, e_aN, e_cV, e_cS, e_fNil, e_fAi, e_fAr, e_sSeq, e_sSkip, e_sSt, e_sSr, e_sInc, e_sRI, e_sRR, e_sRV, e_sIf, e_sCall, e_sPI, e_sPZ, e_sPR, e_sPO, e_sAI, e_sAZ, e_sAO, e_sAR, e_sPopI, e_sPopR, e_sCopy, e_mI, e_mZ, e_mR, e_mV, jAdd_n, jMul_n, z0, z1, Option.bind_some, List.getElem?_cons_zero, List.getElem?_cons_succ, List.set_cons_zero, List.set_cons_succ, eq_self, if_true, ite_and, ite_or, ite_I, ite_bI, ite_bJ, bI_ne, bI_01, List.cons_append, List.nil_append, Bool.false_eq_true, if_false, gT0_4 h, eb]; rfl) (fun hb => ?_) (fun hb => ?_))
  · have e : bW (w1C w) = false := by cases q : bW (w1C w); rfl; rw [q] at hb; cases hb
    rw [e, if_neg Bool.false_ne_true, if_neg Bool.false_ne_true]
    exact wS_r rfl ⟨rfl, ρ, rfl, q1', hFρ⟩
  have e : bW (w1C w) = true := by cases q : bW (w1C w); rw [q] at hb; cases hb; rfl
  clear hb
  rw [e, if_pos rfl, if_pos rfl]
  refine wS_l rfl ?_
  have ez1 : zW (w1C w) = ptC w := zW_sf hp3
  have em1 : mW (w1C w) = mW w := rfl
  have eX : ρ X 1 = nI (ptC w) := by rw [q1'.cz, ok1.z.1, ez1]
  have exe : ∀ d, d < 3 → G_I_expected [.ref 4, .int (nI (d * 8))] (hs n ρ) = some (nI (exA w d (mW w)), hs n ρ) := fun d hd => by
    have := q_I_expected q1' ok1 hd
    rw [exA_e (w := w) (fun j i hj => w1C_v (by omega)), em1] at this
    exact this
  refine wSeq (wSeq (wS_l (by simp only [e_fI, e_fLd, e_fLr, e_fB, e_fD, e_fC, e_fT, e_fAnd, e_fOr, e_fNot, e_fCC, e_fIf, e_gI, e_gR, e_aI, e_aR, e_aN, e_cV, e_cS, e_fNil, e_fAi, e_fAr, e_sSeq, e_sSkip, e_sSt, e_sSr, e_sInc, e_sRI, e_sRR, e_sRV, e_sIf, e_sCall, e_sPI, e_sPZ, e_sPR, e_sPO, e_sAI, e_sAZ, e_sAO, e_sAR, e_sPopI, e_sPopR, e_sCopy, e_mI, e_mZ, e_mR, e_mV, jAdd_n, jMul_n, z0, z1, Option.bind_some, List.getElem?_cons_zero, List.getElem?_cons_succ, List.set_cons_zero, List.set_cons_succ, eq_self, if_true, ite_and, ite_or, ite_I, ite_bI, ite_bJ, bI_ne, bI_01, List.cons_append, List.nil_append, Bool.false_eq_true, if_false]; rfl) ?_))
  refine wWh (I := fun d L H => L = [some (.ref 0), some (.int (nI d)), x2, x3] ∧ H = hs n ρ ∧ ∀ e, e < d → jNe ((w1C w).2.2.1 e 0 4) (nI (exA w e (mW w))) = false) (e := ptC w) ?_ ?_ ?_ 600 0 _ _ (by omega) (by omega) ⟨rfl, rfl, fun e he => by omega⟩
  · rintro d _ _ ⟨rfl, rfl, -⟩ hi
    simp only [e_fI, e_fLd, e_fLr, e_fB, e_fD, e_fC, e_fT, e_fAnd, e_fOr, e_fNot, e_fCC, e_fIf, e_gI, e_gR, e_aI, e_aR, e_aN, e_cV, e_cS, e_fNil, e_fAi, e_fAr, e_sSeq, e_sSkip, e_sSt, e_sSr, e_sInc, e_sRI, e_sRR, e_sRV, e_sIf, e_sCall, e_sPI, e_sPZ, e_sPR, e_sPO, e_sAI, e_sAZ, e_sAO, e_sAR, e_sPopI, e_sPopR, e_sCopy, e_mI, e_mZ, e_mR, e_mV, jAdd_n, jMul_n, z0, z1, Option.bind_some, List.getElem?_cons_zero, List.getElem?_cons_succ, List.set_cons_zero, List.set_cons_succ, eq_self, if_true, ite_and, ite_or, ite_I, ite_bI, ite_bJ, bI_ne, bI_01, List.cons_append, List.nil_append, Bool.false_eq_true, if_false, q1'.g3, gX1 h hX, eX, jLt, nI_ltI (show d < 2 ^ 31 by omega) (show ptC w < 2 ^ 31 by omega)]
  · rintro d _ _ ⟨rfl, rfl, ha⟩ hi
    have d4 := q1'.d4 (e := d) ok1 (by omega)
    refine wSeq (wIf (by simp only [e_fI, e_fLd, e_fLr, e_fB, e_fD, e_fC, e_fT, e_fAnd, e_fOr, e_fNot, e_fCC, e_fIf, e_gI, e_gR, e_aI, e_aR, e_aN, e_cV, e_cS, e_fNil, e_fAi, e_fAr, e_sSeq, e_sSkip, e_sSt, e_sSr, e_sInc, e_sRI, e_sRR, e_sRV, e_sIf, e_sCall, e_sPI, e_sPZ, e_sPR, e_sPO, e_sAI, e_sAZ, e_sAO, e_sAR, e_sPopI, e_sPopR, e_sCopy, e_mI, e_mZ, e_mR, e_mV, jAdd_n, jMul_n, z0, z1, Option.bind_some, List.getElem?_cons_zero, List.getElem?_cons_succ, List.set_cons_zero, List.set_cons_succ, eq_self, if_true, ite_and, ite_or, ite_I, ite_bI, ite_bJ, bI_ne, bI_01, List.cons_append, List.nil_append, Bool.false_eq_true, if_false, q1'.g3, gX0 h hX, iX h hX (show d < 3 by omega), d4, gT0_1 h, kT4 h, exe d (by omega)]; rfl) (fun hb => ?_) (fun hb => ?_))
    · refine wS_r (by simp only [e_fI, e_fLd, e_fLr, e_fB, e_fD, e_fC, e_fT, e_fAnd, e_fOr, e_fNot, e_fCC, e_fIf, e_gI, e_gR, e_aI, e_aR, e_aN, e_cV, e_cS, e_fNil, e_fAi, e_fAr, e_sSeq, e_sSkip, e_sSt, e_sSr, e_sInc, e_sRI, e_sRR, e_sRV, e_sIf, e_sCall, e_sPI, e_sPZ, e_sPR, e_sPO, e_sAI, e_sAZ, e_sAO, e_sAR, e_sPopI, e_sPopR, e_sCopy, e_mI, e_mZ, e_mR, e_mV, jAdd_n, jMul_n, z0, z1, Option.bind_some, List.getElem?_cons_zero, List.getElem?_cons_succ, List.set_cons_zero, List.set_cons_succ, eq_self, if_true, ite_and, ite_or, ite_I, ite_bI, ite_bJ, bI_ne, bI_01, List.cons_append, List.nil_append, Bool.false_eq_true, if_false]; rfl) ?_
      rw [baC_s hi ha hb]
      exact ⟨rfl, ρ, rfl, q1', hFρ⟩
    · refine wS_l rfl ?_
      refine wS_l (by simp only [e_fI, e_fLd, e_fLr, e_fB, e_fD, e_fC, e_fT, e_fAnd, e_fOr, e_fNot, e_fCC, e_fIf, e_gI, e_gR, e_aI, e_aR, e_aN, e_cV, e_cS, e_fNil, e_fAi, e_fAr, e_sSeq, e_sSkip, e_sSt, e_sSr, e_sInc, e_sRI, e_sRR, e_sRV, e_sIf, e_sCall, e_sPI, e_sPZ, e_sPR, e_sPO, e_sAI, e_sAZ, e_sAO, e_sAR, e_sPopI, e_sPopR, e_sCopy, e_mI, e_mZ, e_mR, e_mV, jAdd_n, jMul_n, z0, z1, Option.bind_some, List.getElem?_cons_zero, List.getElem?_cons_succ, List.set_cons_zero, List.set_cons_succ, eq_self, if_true, ite_and, ite_or, ite_I, ite_bI, ite_bJ, bI_ne, bI_01, List.cons_append, List.nil_append, Bool.false_eq_true, if_false, nI_add]; rfl) ?_
      refine ⟨rfl, rfl, fun e' he => ?_⟩
      rcases Nat.lt_succ_iff_lt_or_eq.mp he with c | c
      · exact ha e' c
      · rw [c]; exact hb
  rintro _ _ ⟨rfl, rfl, ha⟩
  rw [baC_n ha]
  refine wSeq (wSeq (wS_l (by simp only [e_fI, e_fLd, e_fLr, e_fB, e_fD, e_fC, e_fT, e_fAnd, e_fOr, e_fNot, e_fCC, e_fIf, e_gI, e_gR, e_aI, e_aR, e_aN, e_cV, e_cS, e_fNil, e_fAi, e_fAr, e_sSeq, e_sSkip, e_sSt, e_sSr, e_sInc, e_sRI, e_sRR, e_sRV, e_sIf, e_sCall, e_sPI, e_sPZ, e_sPR, e_sPO, e_sAI, e_sAZ, e_sAO, e_sAR, e_sPopI, e_sPopR, e_sCopy, e_mI, e_mZ, e_mR, e_mV, jAdd_n, jMul_n, z0, z1, Option.bind_some, List.getElem?_cons_zero, List.getElem?_cons_succ, List.set_cons_zero, List.set_cons_succ, eq_self, if_true, ite_and, ite_or, ite_I, ite_bI, ite_bJ, bI_ne, bI_01, List.cons_append, List.nil_append, Bool.false_eq_true, if_false]; rfl) ?_))
  refine wWh (I := fun d L H => ∃ υ, L = [some (.ref 0), some (.int (nI d)), x2, x3] ∧ H = hs n υ ∧ (∀ b, b ≠ 6 → υ b = ρ b) ∧ ∀ i, i < 24 → υ 6 i = if i < sW w ∧ i < 8 * d then (w1C w).2.2.1 (i / 8) 1 (i % 8) else ρ 6 i) (e := ptC w) ?_ ?_ ?_ 600 0 _ _ (by omega) (by omega) ⟨ρ, rfl, rfl, fun _ _ => rfl, fun i hi => by rw [if_neg (by omega)]⟩
  · rintro d _ _ ⟨υ, rfl, rfl, hb, -⟩ hi
    have g3' : υ 0 3 = nI X := by rw [hb 0 (by omega)]; exact q1'.2.2.2.1
    have eX' : υ X 1 = nI (ptC w) := by rw [hb X (by omega)]; exact eX
    simp only [e_fI, e_fLd, e_fLr, e_fB, e_fD, e_fC, e_fT, e_fAnd, e_fOr, e_fNot, e_fCC, e_fIf, e_gI, e_gR, e_aI, e_aR, e_aN, e_cV, e_cS, e_fNil, e_fAi, e_fAr, e_sSeq, e_sSkip, e_sSt, e_sSr, e_sInc, e_sRI, e_sRR, e_sRV, e_sIf, e_sCall, e_sPI, e_sPZ, e_sPR, e_sPO, e_sAI, e_sAZ, e_sAO, e_sAR, e_sPopI, e_sPopR, e_sCopy, e_mI, e_mZ, e_mR, e_mV, jAdd_n, jMul_n, z0, z1, Option.bind_some, List.getElem?_cons_zero, List.getElem?_cons_succ, List.set_cons_zero, List.set_cons_succ, eq_self, if_true, ite_and, ite_or, ite_I, ite_bI, ite_bJ, bI_ne, bI_01, List.cons_append, List.nil_append, Bool.false_eq_true, if_false, gL3 h g3' (by omega), gX1 h hX, eX', jLt, nI_ltI (show d < 2 ^ 31 by omega) (show ptC w < 2 ^ 31 by omega)]
  · rintro d _ _ ⟨υ, rfl, rfl, hb, h6⟩ hi
    have g3' : υ 0 3 = nI X := by rw [hb 0 (by omega)]; exact q1'.2.2.2.1
    have hDd := hX.D (show d < 3 by omega)
    have hG := q1'.2.2.2.2.2.2.2 d (by omega)
    have hln : lnC (sW w) d ≤ 8 ∧ 8 * d + lnC (sW w) d ≤ sW w := by unfold lnC; omega
    generalize hDe : X + 2 + 2 * d = D at hDd hG
    have e3 : υ D 3 = nI (lnC (sW w) d) := by rw [hb D (by omega), hG.1 3 (by omega)]; exact cy_len hW hi
    refine wSeq (wS_l (by simp only [e_fI, e_fLd, e_fLr, e_fB, e_fD, e_fC, e_fT, e_fAnd, e_fOr, e_fNot, e_fCC, e_fIf, e_gI, e_gR, e_aI, e_aR, e_aN, e_cV, e_cS, e_fNil, e_fAi, e_fAr, e_sSeq, e_sSkip, e_sSt, e_sSr, e_sInc, e_sRI, e_sRR, e_sRV, e_sIf, e_sCall, e_sPI, e_sPZ, e_sPR, e_sPO, e_sAI, e_sAZ, e_sAO, e_sAR, e_sPopI, e_sPopR, e_sCopy, e_mI, e_mZ, e_mR, e_mV, jAdd_n, jMul_n, z0, z1, Option.bind_some, List.getElem?_cons_zero, List.getElem?_cons_succ, List.set_cons_zero, List.set_cons_succ, eq_self, if_true, ite_and, ite_or, ite_I, ite_bI, ite_bJ, bI_ne, bI_01, List.cons_append, List.nil_append, Bool.false_eq_true, if_false, gL3 h g3' (show X < 2 ^ 31 by omega), gX0 h hX, iX h hX (show d < 3 by omega), hDe, gD5 h hDd, gT0_1 h, gT4_1 h, Nat.mul_comm d 8, gD h hDd (show 3 < 5 by omega), e3, cp_D6 h hDd (show 8 * d + lnC (sW w) d ≤ 24 by omega) hln.1]; rfl) ?_)
    refine wS_l (by simp only [e_fI, e_fLd, e_fLr, e_fB, e_fD, e_fC, e_fT, e_fAnd, e_fOr, e_fNot, e_fCC, e_fIf, e_gI, e_gR, e_aI, e_aR, e_aN, e_cV, e_cS, e_fNil, e_fAi, e_fAr, e_sSeq, e_sSkip, e_sSt, e_sSr, e_sInc, e_sRI, e_sRR, e_sRV, e_sIf, e_sCall, e_sPI, e_sPZ, e_sPR, e_sPO, e_sAI, e_sAZ, e_sAO, e_sAR, e_sPopI, e_sPopR, e_sCopy, e_mI, e_mZ, e_mR, e_mV, jAdd_n, jMul_n, z0, z1, Option.bind_some, List.getElem?_cons_zero, List.getElem?_cons_succ, List.set_cons_zero, List.set_cons_succ, eq_self, if_true, ite_and, ite_or, ite_I, ite_bI, ite_bJ, bI_ne, bI_01, List.cons_append, List.nil_append, Bool.false_eq_true, if_false, nI_add]; rfl) ?_
    refine ⟨_, rfl, rfl, fun b g => (cpy_ne g).trans (hb b g), fun i hi24 => ?_⟩
    unfold cpy
    by_cases q : 8 * d ≤ i ∧ i < 8 * d + lnC (sW w) d
    · rw [if_pos ⟨rfl, q.1, q.2⟩, if_pos (by unfold lnC at q; omega), Nat.zero_add, hb (D + 1) (by omega), hG.2 (i - 8 * d) (by omega), show i / 8 = d by omega, show i % 8 = i - 8 * d by omega]
    · rw [if_neg (fun k => q k.2), h6 i hi24]
      by_cases q2 : i < sW w ∧ i < 8 * d
      · rw [if_pos q2, if_pos (by omega)]
      · rw [if_neg q2, if_neg (by unfold lnC at q; omega)]
  · rintro _ _ ⟨υ, rfl, rfl, hb, h6⟩
    refine wS_r rfl ⟨rfl, υ, rfl, ?_, hFρ.t (fun a g1 g2 => hb a (by omega))⟩
    obtain ⟨h1, ⟨-, hy3, hz3⟩, h2, h3, h4, h5, h6', h7⟩ := q1'
    refine ⟨h1, ⟨hX, hy3, hz3⟩, by rw [hb 0 (by omega)]; exact h2, by rw [hb 0 (by omega)]; exact h3, fun j i hc => ?_, fun t ht => (h5 t ht).ot (fun j _ => hb _ (by have := sa_ge t j; omega)), fun e he => (h6' e he).keep (hb _ (by omega)) (hb _ (by omega)), fun e he => (h7 e he).keep (hb _ (by omega)) (hb _ (by omega))⟩
    show _ = if j = 3 ∧ i < sW w then (w1C w).2.2.1 (i / 8) 1 (i % 8) else vW (w1C w) j i
    by_cases q3 : j = 3
    · subst q3
      have hi24 : i < 24 := by unfold celV at hc; omega
      show υ 6 i = _
      rw [h6 i hi24]
      by_cases q : i < sW w
      · rw [if_pos (show i < sW w ∧ i < 8 * ptC w by omega), if_pos ⟨rfl, q⟩]
      · rw [if_neg (show ¬ (i < sW w ∧ i < 8 * ptC w) by omega), if_neg (fun k => q k.2)]
        exact h4 3 i hc
    · rw [if_neg (fun k => q3 k.1), ← h4 j i hc]
      have c := cv_c (X := X) hc
      rw [hb _ (by generalize cva X j i = x at *; generalize cvi j i = y at *; omega)]
end SFC
