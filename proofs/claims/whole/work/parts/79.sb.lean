/-! the program's call send -/
theorem vl_s {σ : sg} {s x b j : Nat} (hs' : s = 2 ∨ s = 3) (hx : x < 2 ^ 31) : vl (up σ 0 s (nI x)) b j = if b = 0 ∧ j = s then .ref x else vl σ b j := by
  by_cases e : b = 0 ∧ j = s
  · obtain ⟨rfl, rfl⟩ := e
    rw [if_pos ⟨rfl, rfl⟩]
    unfold vl
    rw [if_pos ⟨rfl, hs'⟩]
    unfold up
    rw [if_pos ⟨rfl, rfl⟩, nC_n hx]
  · rw [if_neg e]
    have e1 : up σ 0 s (nI x) b j = σ b j := by unfold up; rw [if_neg e]
    have e2 : up σ 0 s (nI x) 1 2 = σ 1 2 := by rw [up_ne (by omega)]
    unfold vl
    by_cases q : b = 0 ∧ (j = 2 ∨ j = 3)
    · rw [if_pos q, if_pos q]
      have : up σ 0 s (nI x) 0 j = σ 0 j := by
        obtain ⟨rfl, -⟩ := q
        exact e1
      rw [this]
    · rw [if_neg q, if_neg q, e1, e2]
theorem pL_r {n s x : Nat} {σ : sg} (h : okB n) (hs' : s = 2 ∨ s = 3) (hx : x < 2 ^ 31) : hp_p (hs n σ) 0 7 s (.ref x) = some (hs n (up σ 0 s (nI x))) := by
  have k0 : kd 0 = 7 := (kb (by omega)).trans rfl
  have s0 : sz 0 = 6 := (sb (by omega)).trans rfl
  unfold hp_p
  rw [hs_get (by unfold okB at h; omega), Option.bind_some, if_pos ⟨k0, by rw [sl_len, s0]; omega⟩]
  congr 1
  apply List.ext_getElem?
  intro a
  rw [List.getElem?_set, hs_len]
  by_cases e : 0 = a
  · subst e
    rw [if_pos rfl, if_pos (by unfold okB at h; omega), hs_get (by unfold okB at h; omega), k0]
    congr 2
    apply List.ext_getElem?
    intro j
    rw [List.getElem?_set, sl_len, s0]
    by_cases e : s = j
    · subst e
      rw [if_pos rfl, if_pos (by omega), sl_get (by rw [s0]; omega), vl_s hs' hx, if_pos ⟨rfl, rfl⟩]
    · rw [if_neg e]
      by_cases hj : j < sz 0
      · rw [sl_get hj, sl_get hj, vl_s hs' hx, if_neg (fun q => e q.2.symm)]
      · rw [List.getElem?_eq_none (by rw [sl_len]; omega), List.getElem?_eq_none (by rw [sl_len]; omega)]
  · rw [if_neg e]
    by_cases ha : a < n
    · rw [hs_get ha, hs_get ha]
      congr 2
      unfold sl
      apply List.map_congr_left
      intro j _
      rw [vl_s hs' hx, if_neg (fun q => e q.1.symm)]
    · rw [List.getElem?_eq_none (by rw [hs_len]; omega), List.getElem?_eq_none (by rw [hs_len]; omega)]
section SBC
variable {n X : Nat} {σ : sg} {w : wd}
theorem c_send (hC : CPc n X σ w) (hW : okW w) : ∃ τ Y, G_L_send [.ref 0] (hs n σ) = some (if yW w = 0 then -1 else bI (tW w), hs n τ) ∧ CPc n Y τ (if yW w = 0 then w else sndW (rdW w)) ∧ FK σ τ := by
  have h := hC.B
  have hX := hC.ix
  have hY := hX.o
  have hb10 : X = 10 ∨ X = 18 := hX
  have hy := hW.y
  have ey := hC.cy.trans hy.1
  have e0 : jEq (nI (yW w)) 0 = decide (yW w = 0) := by rw [← nI_0, jEq_n (by omega) (by omega)]
  by_cases q : yW w = 0
  · obtain ⟨τ, e, r⟩ := mI_t (n := n) (nL := 2) (body := P_L_send) (as := [.ref 0]) (h := hs n σ) (x := if yW w = 0 then -1 else bI (tW w)) (P := fun τ => CPc n X τ (if yW w = 0 then w else sndW (rdW w)) ∧ FK σ τ) (Nat.le_of_ble_eq_true rfl) (by
      simp only [jx_L0, List.map_cons, List.map_nil, List.length_cons, List.length_nil, Nat.reduceAdd, Nat.reduceSub, List.replicate, List.cons_append, List.nil_append]
      unfold P_L_send
      refine wSeq (wIf (by simp only [e_fI, e_fLd, e_fLr, e_fB, e_fD, e_fC, e_fT, e_fAnd, e_fOr, e_fNot, e_fCC, e_fIf, e_gI, e_gR, e_aI, e_aR, e_aN, e_cV, e_cS, e_fNil, e_fAi, e_fAr, e_sSeq, e_sSkip, e_sSt, e_sSr, e_sInc, e_sRI, e_sRR, e_sRV, e_sIf, e_sCall, e_sPI, e_sPZ, e_sPR, e_sPO, e_sAI, e_sAZ, e_sAO, e_sAR, e_sPopI, e_sPopR, e_sCopy, e_mI, e_mZ, e_mR, e_mV, jAdd_n, jMul_n, z0, z1, Option.bind_some, List.getElem?_cons_zero, List.getElem?_cons_succ, List.set_cons_zero, List.set_cons_succ, eq_self, if_true, ite_and, ite_or, ite_I, ite_bI, ite_bJ, bI_ne, bI_01, List.cons_append, List.nil_append, Bool.false_eq_true, if_false, hC.g2, gX1 h hY, ey, e0]; rfl) (fun hb => ?_) (fun hb => ?_))
      · rw [if_pos q, if_pos q]
        exact wS_r rfl ⟨rfl, σ, rfl, hC, FK.r σ⟩
      · exact absurd q (of_decide_eq_false hb))
    exact ⟨τ, X, e, r⟩
  · obtain ⟨τ, e, r⟩ := mI_t (n := n) (nL := 2) (body := P_L_send) (as := [.ref 0]) (h := hs n σ) (x := if yW w = 0 then -1 else bI (tW w)) (P := fun τ => CPc n (28 - X) τ (if yW w = 0 then w else sndW (rdW w)) ∧ FK σ τ) (Nat.le_of_ble_eq_true rfl) (by
      simp only [jx_L0, List.map_cons, List.map_nil, List.length_cons, List.length_nil, Nat.reduceAdd, Nat.reduceSub, List.replicate, List.cons_append, List.nil_append]
      unfold P_L_send
      rw [if_neg q, if_neg q]
      refine wSeq (wIf (by simp only [e_fI, e_fLd, e_fLr, e_fB, e_fD, e_fC, e_fT, e_fAnd, e_fOr, e_fNot, e_fCC, e_fIf, e_gI, e_gR, e_aI, e_aR, e_aN, e_cV, e_cS, e_fNil, e_fAi, e_fAr, e_sSeq, e_sSkip, e_sSt, e_sSr, e_sInc, e_sRI, e_sRR, e_sRV, e_sIf, e_sCall, e_sPI, e_sPZ, e_sPR, e_sPO, e_sAI, e_sAZ, e_sAO, e_sAR, e_sPopI, e_sPopR, e_sCopy, e_mI, e_mZ, e_mR, e_mV, jAdd_n, jMul_n, z0, z1, Option.bind_some, List.getElem?_cons_zero, List.getElem?_cons_succ, List.set_cons_zero, List.set_cons_succ, eq_self, if_true, ite_and, ite_or, ite_I, ite_bI, ite_bJ, bI_ne, bI_01, List.cons_append, List.nil_append, Bool.false_eq_true, if_false, hC.g2, gX1 h hY, ey, e0]; rfl) (fun hb => ?_) (fun hb => ?_))
      · exact absurd (of_decide_eq_true hb) q
      clear hb
      refine wS_l rfl ?_
      refine wSeq (wS_l (by simp only [e_fI, e_fLd, e_fLr, e_fB, e_fD, e_fC, e_fT, e_fAnd, e_fOr, e_fNot, e_fCC, e_fIf, e_gI, e_gR, e_aI, e_aR, e_aN, e_cV, e_cS, e_fNil, e_fAi, e_fAr, e_sSeq, e_sSkip, e_sSt, e_sSr, e_sInc, e_sRI, e_sRR, e_sRV, e_sIf, e_sCall, e_sPI, e_sPZ, e_sPR, e_sPO, e_sAI, e_sAZ, e_sAO, e_sAR, e_sPopI, e_sPopR, e_sCopy, e_mI, e_mZ, e_mR, e_mV, jAdd_n, jMul_n, z0, z1, Option.bind_some, List.getElem?_cons_zero, List.getElem?_cons_succ, List.set_cons_zero, List.set_cons_succ, eq_self, if_true, ite_and, ite_or, ite_I, ite_bI, ite_bJ, bI_ne, bI_01, List.cons_append, List.nil_append, Bool.false_eq_true, if_false, hC.g2]; rfl) ?_)
      refine wSeq (wS_l (by simp only [e_fI, e_fLd, e_fLr, e_fB, e_fD, e_fC, e_fT, e_fAnd, e_fOr, e_fNot, e_fCC, e_fIf, e_gI, e_gR, e_aI, e_aR, e_aN, e_cV, e_cS, e_fNil, e_fAi, e_fAr, e_sSeq, e_sSkip, e_sSt, e_sSr, e_sInc, e_sRI, e_sRR, e_sRV, e_sIf, e_sCall, e_sPI, e_sPZ, e_sPR, e_sPO, e_sAI, e_sAZ, e_sAO, e_sAR, e_sPopI, e_sPopR, e_sCopy, e_mI, e_mZ, e_mR, e_mV, jAdd_n, jMul_n, z0, z1, Option.bind_some, List.getElem?_cons_zero, List.getElem?_cons_succ, List.set_cons_zero, List.set_cons_succ, eq_self, if_true, ite_and, ite_or, ite_I, ite_bI, ite_bJ, bI_ne, bI_01, List.cons_append, List.nil_append, Bool.false_eq_true, if_false, hC.g3, pL_r h (Or.inl rfl) (show X < 2 ^ 31 by omega)]; rfl) ?_)
      refine wSeq (wS_l (by simp only [e_fI, e_fLd, e_fLr, e_fB, e_fD, e_fC, e_fT, e_fAnd, e_fOr, e_fNot, e_fCC, e_fIf, e_gI, e_gR, e_aI, e_aR, e_aN, e_cV, e_cS, e_fNil, e_fAi, e_fAr, e_sSeq, e_sSkip, e_sSt, e_sSr, e_sInc, e_sRI, e_sRR, e_sRV, e_sIf, e_sCall, e_sPI, e_sPZ, e_sPR, e_sPO, e_sAI, e_sAZ, e_sAO, e_sAR, e_sPopI, e_sPopR, e_sCopy, e_mI, e_mZ, e_mR, e_mV, jAdd_n, jMul_n, z0, z1, Option.bind_some, List.getElem?_cons_zero, List.getElem?_cons_succ, List.set_cons_zero, List.set_cons_succ, eq_self, if_true, ite_and, ite_or, ite_I, ite_bI, ite_bJ, bI_ne, bI_01, List.cons_append, List.nil_append, Bool.false_eq_true, if_false, pL_r h (Or.inr rfl) (show 28 - X < 2 ^ 31 by omega)]; rfl) ?_)
      have g2' : up (up σ 0 2 (nI X)) 0 3 (nI (28 - X)) 0 2 = nI X := rfl
      have g3' : up (up σ 0 2 (nI X)) 0 3 (nI (28 - X)) 0 3 = nI (28 - X) := rfl
      have lo : ∀ a, a ≠ 0 → up (up σ 0 2 (nI X)) 0 3 (nI (28 - X)) a = σ a := fun a ha => (up_ne ha).trans (up_ne ha)
      have l0 : ∀ i, i ≠ 2 → i ≠ 3 → up (up σ 0 2 (nI X)) 0 3 (nI (28 - X)) 0 i = σ 0 i := fun i h2 h3 => by
        unfold up
        rw [if_neg (by omega), if_neg (by omega)]
      generalize up (up σ 0 2 (nI X)) 0 3 (nI (28 - X)) = σ1 at g2' g3' lo l0 ⊢
      refine wSeq (wS_l (by simp only [e_fI, e_fLd, e_fLr, e_fB, e_fD, e_fC, e_fT, e_fAnd, e_fOr, e_fNot, e_fCC, e_fIf, e_gI, e_gR, e_aI, e_aR, e_aN, e_cV, e_cS, e_fNil, e_fAi, e_fAr, e_sSeq, e_sSkip, e_sSt, e_sSr, e_sInc, e_sRI, e_sRR, e_sRV, e_sIf, e_sCall, e_sPI, e_sPZ, e_sPR, e_sPO, e_sAI, e_sAZ, e_sAO, e_sAR, e_sPopI, e_sPopR, e_sCopy, e_mI, e_mZ, e_mR, e_mV, jAdd_n, jMul_n, z0, z1, Option.bind_some, List.getElem?_cons_zero, List.getElem?_cons_succ, List.set_cons_zero, List.set_cons_succ, eq_self, if_true, ite_and, ite_or, ite_I, ite_bI, ite_bJ, bI_ne, bI_01, List.cons_append, List.nil_append, Bool.false_eq_true, if_false, gL2 h g2' (show X < 2 ^ 31 by omega), pX1 h hX]; rfl) ?_)
      have hC1 : CPc n (28 - X) (up σ1 X 1 (nI 0)) (rdW w) := by
        obtain ⟨h1, ⟨-, hy3, hz3⟩, h2, h3, h4, h5, h6, h7⟩ := hC
        have ez : zW (rdW w) = yW w := zW_f hy3
        have ek : kW (rdW w) = kW w := rfl
        have ey0 : yW (rdW w) = 0 := yW_0 (w := w)
        unfold CPc
        rw [ez, ek, ey0]
        refine ⟨h1, ⟨hY, by omega, hy3⟩, ?_, ?_, fun j i hc => ?_, fun t ht => (h5 t ht).ot (fun j _ => (up_ne (by have := sa_ge t j; omega)).trans (lo _ (by have := sa_ge t j; omega))), fun e he => by omega, fun e he => (h6 e he).keep ((up_ne (by omega)).trans (lo _ (by omega))) ((up_ne (by omega)).trans (lo _ (by omega)))⟩
        · rw [up_ne (by omega), g2', show 28 - (28 - X) = X by omega]
        · rw [up_ne (by omega)]
          exact g3'
        · show _ = up (up (vW w) 0 4 (nI 0)) 0 5 (nI (yW w)) j i
          by_cases q4 : j = 0 ∧ i = 4
          · obtain ⟨rfl, rfl⟩ := q4
            show up σ1 X 1 (nI 0) (28 - (28 - X)) 1 = nI 0
            rw [show 28 - (28 - X) = X by omega]
            unfold up
            rw [if_pos ⟨rfl, rfl⟩]
          by_cases q5 : j = 0 ∧ i = 5
          · obtain ⟨rfl, rfl⟩ := q5
            show up σ1 X 1 (nI 0) (28 - X) 1 = nI (yW w)
            rw [up_ne (by omega), lo _ (by omega)]
            exact ey
          have hv : up (up (vW w) 0 4 (nI 0)) 0 5 (nI (yW w)) j i = vW w j i := by
            unfold up
            rw [if_neg q5, if_neg q4]
          rw [hv, ← h4 j i hc]
          have c1 := cv_c (X := X) hc
          have c2 := cv_c (X := 28 - X) hc
          have ex : cva (28 - X) j i = cva X j i := by
            generalize cva X j i = x at *
            generalize cva (28 - X) j i = y at *
            generalize cvi j i = u at *
            omega
          have nX : cva X j i ≠ X := by
            generalize cva X j i = x at *
            generalize cva (28 - X) j i = y at *
            generalize cvi j i = u at *
            omega
          rw [ex, up_ne nX]
          by_cases z : cva X j i = 0
          · rw [z]
            exact l0 _ (by have := (cva_b hX hc).2.2.2 z; omega) (by have := (cva_b hX hc).2.2.2 z; omega)
          · rw [lo _ z]
      have hW1 : okW (rdW w) := hW.y0.fr hy.2 (fun e he => hW.py he)
      obtain ⟨ρ, ec, q1, q2⟩ := c_carry (L := [some (.ref 0), some (.ref (28 - X))]) hC1 hW1 rfl
      refine wSeq (wS_l ec ?_)
      have e4 : ρ 0 4 = bI (tW w) := by
        have e5 : bW (sndW (rdW w)) = tW w := bW_s
        rw [q1.cb, hW1.sn.b, e5]
      refine wS_r (by simp only [e_fI, e_fLd, e_fLr, e_fB, e_fD, e_fC, e_fT, e_fAnd, e_fOr, e_fNot, e_fCC, e_fIf, e_gI, e_gR, e_aI, e_aR, e_aN, e_cV, e_cS, e_fNil, e_fAi, e_fAr, e_sSeq, e_sSkip, e_sSt, e_sSr, e_sInc, e_sRI, e_sRR, e_sRV, e_sIf, e_sCall, e_sPI, e_sPZ, e_sPR, e_sPO, e_sAI, e_sAZ, e_sAO, e_sAR, e_sPopI, e_sPopR, e_sCopy, e_mI, e_mZ, e_mR, e_mV, jAdd_n, jMul_n, z0, z1, Option.bind_some, List.getElem?_cons_zero, List.getElem?_cons_succ, List.set_cons_zero, List.set_cons_succ, eq_self, if_true, ite_and, ite_or, ite_I, ite_bI, ite_bJ, bI_ne, bI_01, List.cons_append, List.nil_append, Bool.false_eq_true, if_false, gT0_4 h, e4]; rfl) ?_
      refine ⟨rfl, ρ, rfl, q1, FK.t (fun a g1 g2 => ?_) q2⟩
      rw [up_ne (by omega)]
      exact lo a (by omega))
    exact ⟨τ, 28 - X, e, r⟩
end SBC
