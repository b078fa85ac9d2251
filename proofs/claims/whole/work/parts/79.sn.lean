/-! station: the program's side -/
section SNC
variable {n X : Nat} {σ : sg} {w : wd} {o i : Int32}
theorem CPc.nw {k : Nat} (hC : CPc n X σ w) (hk : kW w = k) (hk6 : k < 6) : CPc (58 + 22 * (k + 1)) X (nsg σ k o i) (newW w o i) := by
  obtain ⟨h1, ⟨hX, hy3, hz3⟩, h2, h3, h4, h5, h6, h7⟩ := hC
  have hb10 : X = 10 ∨ X = 18 := hX
  have ek : kW (newW w o i) = k + 1 := by rw [kW_n (by omega), hk]
  have ey : yW (newW w o i) = yW w := rfl
  have ez : zW (newW w o i) = zW w := rfl
  have row : ∀ a, a < 58 + 22 * k → a ≠ 1 → nsg σ k o i a = σ a := fun a g1 g2 => funext fun m => ns_o g1 (fun e => g2 e.1)
  unfold CPc
  rw [ek, ey, ez]
  refine ⟨rfl, ⟨hX, hy3, hz3⟩, by rw [row 0 (by omega) (by omega)]; exact h2, by rw [row 0 (by omega) (by omega)]; exact h3, fun j m hc => ?_, fun t ht => ?_, fun e he => (h6 e he).keep (row _ (by omega) (by omega)) (row _ (by omega) (by omega)), fun e he => (h7 e he).keep (row _ (by omega) (by omega)) (row _ (by omega) (by omega))⟩
  · show _ = up (vW w) 0 0 (nI (kW w + 1)) j m
    by_cases q : j = 0 ∧ m = 0
    · obtain ⟨rfl, rfl⟩ := q
      show nsg σ k o i 1 2 = nI (kW w + 1)
      unfold nsg
      rw [if_pos (by omega), if_pos ⟨rfl, rfl⟩, hk]
    · have c := cv_c (X := X) hc
      have cb := cva_b hX hc
      unfold up
      rw [if_neg q, ← h4 j m hc]
      exact ns_o (by omega) (by generalize cva X j m = x at *; generalize cvi j m = y at *; omega)
  · show RC (nsg σ k o i) t (if t = kW w then nwA o i else w.1 t)
    rw [hk]
    by_cases q : t = k
    · rw [if_pos q, q]
      exact fun j m hc => ns_b hc.1
    · rw [if_neg q]
      exact (h5 t (by omega)).ot (fun j hj => row _ (show 58 + 22 * t + j < 58 + 22 * k by omega) (by have := sa_ge t j; omega))
theorem c_station (hC : CPc n X σ w) (hW : okW w) : ∃ n' τ, G_L_station [.ref 0, .int o, .int i] (hs n σ) = some (if inN w o i = true then vW w 0 0 else -1, hs n' τ) ∧ CPc n' X τ (if inN w o i = true then newW w o i else w) ∧ FK σ τ := by
  have h := hC.B
  have hk := hW.2.1
  have ek := hC.ck.trans hW.1
  cases e : inN w o i with
  | false =>
    obtain ⟨τ, e1, r⟩ := mI_t (n := n) (nL := 3) (body := P_L_station) (as := [.ref 0, .int o, .int i]) (h := hs n σ) (x := -1) (P := fun τ => CPc n X τ w ∧ FK σ τ) (Nat.le_of_ble_eq_true rfl) (by
      simp only [jx_L0, List.map_cons, List.map_nil, List.length_cons, List.length_nil, Nat.reduceAdd, Nat.reduceSub, List.replicate, List.cons_append, List.nil_append]
      unfold P_L_station
      refine wSeq (wIf (by simp only [e_fI, e_fLd, e_fLr, e_fB, e_fD, e_fC, e_fT, e_fAnd, e_fOr, e_fNot, e_fCC, e_fIf, e_gI, e_gR, e_aI, e_aR, e_aN, e_cV, e_cS, e_fNil, e_fAi, e_fAr, e_sSeq, e_sSkip, e_sSt, e_sSr, e_sInc, e_sRI, e_sRR, e_sRV, e_sIf, e_sCall, e_sPI, e_sPZ, e_sPR, e_sPO, e_sAI, e_sAZ, e_sAO, e_sAR, e_sPopI, e_sPopR, e_sCopy, e_mI, e_mZ, e_mR, e_mV, jAdd_n, jMul_n, z0, z1, Option.bind_some, List.getElem?_cons_zero, List.getElem?_cons_succ, List.set_cons_zero, List.set_cons_succ, eq_self, if_true, ite_and, ite_or, ite_I, ite_bI, ite_bJ, bI_ne, bI_01, List.cons_append, List.nil_append, Bool.false_eq_true, if_false]; rfl) (fun hb => ?_) (fun hb => ?_))
      · exact wS_r rfl ⟨rfl, σ, rfl, hC, FK.r σ⟩
      have n1 := hb
      refine wS_l rfl ?_
      clear hb
      refine wSeq (wIf (by simp only [e_fI, e_fLd, e_fLr, e_fB, e_fD, e_fC, e_fT, e_fAnd, e_fOr, e_fNot, e_fCC, e_fIf, e_gI, e_gR, e_aI, e_aR, e_aN, e_cV, e_cS, e_fNil, e_fAi, e_fAr, e_sSeq, e_sSkip, e_sSt, e_sSr, e_sInc, e_sRI, e_sRR, e_sRV, e_sIf, e_sCall, e_sPI, e_sPZ, e_sPR, e_sPO, e_sAI, e_sAZ, e_sAO, e_sAR, e_sPopI, e_sPopR, e_sCopy, e_mI, e_mZ, e_mR, e_mV, jAdd_n, jMul_n, z0, z1, Option.bind_some, List.getElem?_cons_zero, List.getElem?_cons_succ, List.set_cons_zero, List.set_cons_succ, eq_self, if_true, ite_and, ite_or, ite_I, ite_bI, ite_bJ, bI_ne, bI_01, List.cons_append, List.nil_append, Bool.false_eq_true, if_false, gT0_0 h, gT1_2 h, hC.ck]; rfl) (fun hb => ?_) (fun hb => ?_))
      · exact wS_r rfl ⟨rfl, σ, rfl, hC, FK.r σ⟩
      exfalso
      unfold inN at e
      rw [n1, hb] at e
      cases e)
    exact ⟨n, τ, e1, r⟩
  | true =>
    obtain ⟨x, y, hx, hy, rfl, rfl, hk6⟩ := inN_i hW e
    have hn := hC.1
    generalize hke : kW w = k at *
    subst hn
    have e0 := e
    unfold inN at e0
    rw [Bool.and_eq_true_iff, Bool.not_eq_true', Bool.not_eq_true'] at e0
    have hst : G_L_station [.ref 0, .int (nI x), .int (nI y)] (hs (58 + 22 * k) σ) = some (nI k, hs (58 + 22 * (k + 1)) (nsg σ k (nI x) (nI y))) := by
      refine mI_q (Nat.le_of_ble_eq_true rfl) ?_
      simp only [jx_L0, List.map_cons, List.map_nil, List.length_cons, List.length_nil, Nat.reduceAdd, Nat.reduceSub, List.replicate, List.cons_append, List.nil_append]
      unfold P_L_station
      refine wSeq (wIf (by simp only [e_fI, e_fLd, e_fLr, e_fB, e_fD, e_fC, e_fT, e_fAnd, e_fOr, e_fNot, e_fCC, e_fIf, e_gI, e_gR, e_aI, e_aR, e_aN, e_cV, e_cS, e_fNil, e_fAi, e_fAr, e_sSeq, e_sSkip, e_sSt, e_sSr, e_sInc, e_sRI, e_sRR, e_sRV, e_sIf, e_sCall, e_sPI, e_sPZ, e_sPR, e_sPO, e_sAI, e_sAZ, e_sAO, e_sAR, e_sPopI, e_sPopR, e_sCopy, e_mI, e_mZ, e_mR, e_mV, jAdd_n, jMul_n, z0, z1, Option.bind_some, List.getElem?_cons_zero, List.getElem?_cons_succ, List.set_cons_zero, List.set_cons_succ, eq_self, if_true, ite_and, ite_or, ite_I, ite_bI, ite_bJ, bI_ne, bI_01, List.cons_append, List.nil_append, Bool.false_eq_true, if_false]; rfl) (fun hb => ?_) (fun hb => ?_))
      · rw [e0.1] at hb
        cases hb
      refine wS_l rfl ?_
      clear hb
      refine wSeq (wIf (by simp only [e_fI, e_fLd, e_fLr, e_fB, e_fD, e_fC, e_fT, e_fAnd, e_fOr, e_fNot, e_fCC, e_fIf, e_gI, e_gR, e_aI, e_aR, e_aN, e_cV, e_cS, e_fNil, e_fAi, e_fAr, e_sSeq, e_sSkip, e_sSt, e_sSr, e_sInc, e_sRI, e_sRR, e_sRV, e_sIf, e_sCall, e_sPI, e_sPZ, e_sPR, e_sPO, e_sAI, e_sAZ, e_sAO, e_sAR, e_sPopI, e_sPopR, e_sCopy, e_mI, e_mZ, e_mR, e_mV, jAdd_n, jMul_n, z0, z1, Option.bind_some, List.getElem?_cons_zero, List.getElem?_cons_succ, List.set_cons_zero, List.set_cons_succ, eq_self, if_true, ite_and, ite_or, ite_I, ite_bI, ite_bJ, bI_ne, bI_01, List.cons_append, List.nil_append, Bool.false_eq_true, if_false, gT0_0 h, gT1_2 h, hC.ck]; rfl) (fun hb => ?_) (fun hb => ?_))
      · rw [e0.2] at hb
        cases hb
      refine wS_l rfl ?_
      clear hb
      have hl : (hs (58 + 22 * k) σ).length = 58 + 22 * k := hs_len _ _
      have q1 := q_S_init (h := hs (58 + 22 * k) σ) (o := nI x) (i := nI y)
      rw [hl] at q1
      have v1 : fNew 6 df_S (fAi (fLd 1) (fAi (fLd 2) (fNil))) G_S_init [some (.ref 0), some (.int (nI x)), some (.int (nI y))] (hs (58 + 22 * k) σ) = some (58 + 22 * k, hs (58 + 22 * k) σ ++ sBk (58 + 22 * k) (nI x) (nI y)) := by
        unfold fNew
        rw [hl]
        simp only [e_fI, e_fLd, e_fLr, e_fB, e_fD, e_fC, e_fT, e_fAnd, e_fOr, e_fNot, e_fCC, e_fIf, e_gI, e_gR, e_aI, e_aR, e_aN, e_cV, e_cS, e_fNil, e_fAi, e_fAr, e_sSeq, e_sSkip, e_sSt, e_sSr, e_sInc, e_sRI, e_sRR, e_sRV, e_sIf, e_sCall, e_sPI, e_sPZ, e_sPR, e_sPO, e_sAI, e_sAZ, e_sAO, e_sAR, e_sPopI, e_sPopR, e_sCopy, e_mI, e_mZ, e_mR, e_mV, jAdd_n, jMul_n, z0, z1, Option.bind_some, List.getElem?_cons_zero, List.getElem?_cons_succ, List.set_cons_zero, List.set_cons_succ, eq_self, if_true, ite_and, ite_or, ite_I, ite_bI, ite_bJ, bI_ne, bI_01, List.cons_append, List.nil_append, Bool.false_eq_true, if_false, q1]
      have k1 : hp_k (hs (58 + 22 * k) σ ++ sBk (58 + 22 * k) (nI x) (nI y)) (58 + 22 * k) = some 6 := by
        unfold hp_k
        have := get_ap (h := hs (58 + 22 * k) σ) (t := sBk (58 + 22 * k) (nI x) (nI y)) 0
        rw [hl, Nat.add_zero] at this
        rw [this]
        rfl
      have c0 : kd 0 = 7 := (kb (by omega)).trans rfl
      have c1 : kd 1 = 3 := (kb (by omega)).trans rfl
      have c2 : kd 2 = 53 := (kb (by omega)).trans rfl
      have z2 : sz 2 = 6 := (sb (by omega)).trans rfl
      have z1 : sz 1 = 4 := (sb (by omega)).trans rfl
      have w1 : hp_w (hs (58 + 22 * k) σ ++ sBk (58 + 22 * k) (nI x) (nI y)) 2 53 (nI k) (.ref (58 + 22 * k)) = some ((hs (58 + 22 * k) σ).set 2 (53, (sl σ 2).set k (.ref (58 + 22 * k))) ++ sBk (58 + 22 * k) (nI x) (nI y)) := by
        unfold hp_w
        rw [List.getElem?_append_left (by rw [hl]; omega), hs_get (by omega), Option.bind_some, if_pos ⟨c2, by rw [sl_len]; exact nI_ix (by rw [z2]; omega) (by rw [z2]; omega)⟩, nI_clamp (by omega), List.set_append_left _ _ (by rw [hl]; omega)]
      have hg : ∀ a, a < 2 → ((hs (58 + 22 * k) σ).set 2 (53, (sl σ 2).set k (.ref (58 + 22 * k))) ++ sBk (58 + 22 * k) (nI x) (nI y))[a]? = some (kd a, sl σ a) := fun a ha => by
        rw [List.getElem?_append_left (by rw [List.length_set, hl]; omega), List.getElem?_set, if_neg (by omega), hs_get (by omega)]
      have g0 : hp_g ((hs (58 + 22 * k) σ).set 2 (53, (sl σ 2).set k (.ref (58 + 22 * k))) ++ sBk (58 + 22 * k) (nI x) (nI y)) 0 7 0 = some (.ref 1) := by
        unfold hp_g
        rw [hg 0 (by omega), Option.bind_some, if_pos c0, sl_get (by rw [sb (by omega)]; decide)]
        rfl
      have g1 : hp_g ((hs (58 + 22 * k) σ).set 2 (53, (sl σ 2).set k (.ref (58 + 22 * k))) ++ sBk (58 + 22 * k) (nI x) (nI y)) 1 3 2 = some (.int (nI k)) := by
        unfold hp_g
        rw [hg 1 (by omega), Option.bind_some, if_pos c1, sl_get (by rw [z1]; omega), vl_I (Or.inl ⟨(rb (by omega)).trans rfl, by omega, by omega⟩), ek]
      have p1 : hp_p ((hs (58 + 22 * k) σ).set 2 (53, (sl σ 2).set k (.ref (58 + 22 * k))) ++ sBk (58 + 22 * k) (nI x) (nI y)) 1 3 2 (.int (nI (k + 1))) = some (hs (58 + 22 * (k + 1)) (nsg σ k (nI x) (nI y))) := by
        unfold hp_p
        rw [hg 1 (by omega), Option.bind_some, if_pos ⟨c1, by rw [sl_len, z1]; omega⟩, List.set_append_left _ _ (by rw [List.length_set, hl]; omega), hs_new ek hk6]
      refine wSeq (wS_l (by simp only [e_fI, e_fLd, e_fLr, e_fB, e_fD, e_fC, e_fT, e_fAnd, e_fOr, e_fNot, e_fCC, e_fIf, e_gI, e_gR, e_aI, e_aR, e_aN, e_cV, e_cS, e_fNil, e_fAi, e_fAr, e_sSeq, e_sSkip, e_sSt, e_sSr, e_sInc, e_sRI, e_sRR, e_sRV, e_sIf, e_sCall, e_sPI, e_sPZ, e_sPR, e_sPO, e_sAI, e_sAZ, e_sAO, e_sAR, e_sPopI, e_sPopR, e_sCopy, e_mI, e_mZ, e_mR, e_mV, jAdd_n, jMul_n, z0, z1, Option.bind_some, List.getElem?_cons_zero, List.getElem?_cons_succ, List.set_cons_zero, List.set_cons_succ, eq_self, if_true, ite_and, ite_or, ite_I, ite_bI, ite_bJ, bI_ne, bI_01, List.cons_append, List.nil_append, Bool.false_eq_true, if_false, gT0_0 h, gT1_0 h, gT1_2 h, ek, v1, k1, w1]; rfl) ?_)
      refine wSeq (wS_l (by simp only [e_fI, e_fLd, e_fLr, e_fB, e_fD, e_fC, e_fT, e_fAnd, e_fOr, e_fNot, e_fCC, e_fIf, e_gI, e_gR, e_aI, e_aR, e_aN, e_cV, e_cS, e_fNil, e_fAi, e_fAr, e_sSeq, e_sSkip, e_sSt, e_sSr, e_sInc, e_sRI, e_sRR, e_sRV, e_sIf, e_sCall, e_sPI, e_sPZ, e_sPR, e_sPO, e_sAI, e_sAZ, e_sAO, e_sAR, e_sPopI, e_sPopR, e_sCopy, e_mI, e_mZ, e_mR, e_mV, jAdd_n, jMul_n, z0, z1, Option.bind_some, List.getElem?_cons_zero, List.getElem?_cons_succ, List.set_cons_zero, List.set_cons_succ, eq_self, if_true, ite_and, ite_or, ite_I, ite_bI, ite_bJ, bI_ne, bI_01, List.cons_append, List.nil_append, Bool.false_eq_true, if_false, g0, g1, p1]; rfl) ?_)
      have h' : okB (58 + 22 * (k + 1)) := by unfold okB; omega
      have n12 : nsg σ k (nI x) (nI y) 1 2 = nI (k + 1) := by
        unfold nsg
        rw [if_pos (by omega), if_pos ⟨rfl, rfl⟩]
      refine wS_r (by simp only [e_fI, e_fLd, e_fLr, e_fB, e_fD, e_fC, e_fT, e_fAnd, e_fOr, e_fNot, e_fCC, e_fIf, e_gI, e_gR, e_aI, e_aR, e_aN, e_cV, e_cS, e_fNil, e_fAi, e_fAr, e_sSeq, e_sSkip, e_sSt, e_sSr, e_sInc, e_sRI, e_sRR, e_sRV, e_sIf, e_sCall, e_sPI, e_sPZ, e_sPR, e_sPO, e_sAI, e_sAZ, e_sAO, e_sAR, e_sPopI, e_sPopR, e_sCopy, e_mI, e_mZ, e_mR, e_mV, jAdd_n, jMul_n, z0, z1, Option.bind_some, List.getElem?_cons_zero, List.getElem?_cons_succ, List.set_cons_zero, List.set_cons_succ, eq_self, if_true, ite_and, ite_or, ite_I, ite_bI, ite_bJ, bI_ne, bI_01, List.cons_append, List.nil_append, Bool.false_eq_true, if_false, gT0_0 h', gT1_2 h', n12, jSub_n (show 1 ≤ k + 1 by omega), Nat.add_sub_cancel]; rfl) ?_
      exact ⟨rfl, rfl⟩
    refine ⟨_, _, by rw [if_pos rfl, hW.1, hke]; exact hst, by rw [if_pos rfl]; exact hC.nw hke hk6, fun a g1 g2 => funext fun m => ns_o (by omega) (by omega)⟩
end SNC
