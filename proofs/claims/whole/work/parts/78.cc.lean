/-! the program's calls: a datagram is made ready -/
def isC (c : Int32) : Bool := jEq c (nI 1) || jEq c (nI 2) || jEq c (nI 4) || jEq c (nI 5) || jEq c (nI 7) || jEq c (nI 8) || (jGe c (nI 10) && jLe c (nI 12))
theorem isC_m {c : Int32} (h : isC c = true) : ∃ m : Nat, (m = 1 ∨ m = 2 ∨ m = 4 ∨ m = 5 ∨ m = 7 ∨ m = 8 ∨ m = 10 ∨ m = 11 ∨ m = 12) ∧ c = nI m := by
  unfold isC at h
  simp only [Bool.or_eq_true] at h
  have e : ∀ k : Nat, jEq c (nI k) = true → c = nI k := fun k q => of_decide_eq_true q
  rcases h with (((((h | h) | h) | h) | h) | h) | h
  · exact ⟨1, by omega, e 1 h⟩
  · exact ⟨2, by omega, e 2 h⟩
  · exact ⟨4, by omega, e 4 h⟩
  · exact ⟨5, by omega, e 5 h⟩
  · exact ⟨7, by omega, e 7 h⟩
  · exact ⟨8, by omega, e 8 h⟩
  · obtain ⟨h1, h2⟩ := Bool.and_eq_true_iff.mp h
    have h1 := of_decide_eq_true h1
    have h2 := of_decide_eq_true h2
    obtain ⟨m, hm, rfl⟩ := nI_of (x := c) (fun q => by
      rw [Int32.lt_iff_toInt_lt] at q
      rw [Int32.le_iff_toInt_le, nI_toInt (by omega)] at h1
      have : (0 : Int32).toInt = 0 := rfl
      omega)
    rw [nI_leI (by omega) hm] at h1
    rw [nI_leI hm (by omega)] at h2
    exact ⟨m, by omega, rfl⟩
section CCC
variable {n X : Nat} {σ : sg} {w : wd}
theorem q_L_isCommand {c : Int32} : G_L_isCommand [.int c] (hs n σ) = some (bI (isC c), hs n σ) := by
  refine mZ_q (Nat.le_of_ble_eq_true rfl) ?_
  simp only [jx_L0, List.map_cons, List.map_nil, List.length_cons, List.length_nil, Nat.reduceAdd, Nat.reduceSub, List.replicate, List.cons_append, List.nil_append]
  unfold P_L_isCommand
  have key : ∀ (gs : List jx_fS) (gd : jx_fS) (Q : hp_L → hp_H → Prop) (R : Option Value → hp_H → Prop), wS (if c.toInt < 1 then gd else gs.getD (c.toInt - 1).toNat gd) [some (.int c)] (hs n σ) Q R → wS (sSw (fLd 0) 1 gs gd) [some (.int c)] (hs n σ) Q R := fun gs gd Q R k => by
    unfold wS at k ⊢
    rw [e_sSw]
    simp only [e_fI, e_fLd, e_fLr, e_fB, e_fD, e_fC, e_fT, e_fAnd, e_fOr, e_fNot, e_fCC, e_fIf, e_gI, e_gR, e_aI, e_aR, e_aN, e_cV, e_cS, e_fNil, e_fAi, e_fAr, e_sSeq, e_sSkip, e_sSt, e_sSr, e_sInc, e_sRI, e_sRR, e_sRV, e_sIf, e_sCall, e_sPI, e_sPZ, e_sPR, e_sPO, e_sAI, e_sAZ, e_sAO, e_sAR, e_sPopI, e_sPopR, e_sCopy, e_mI, e_mZ, e_mR, e_mV, jAdd_n, jMul_n, z0, z1, Option.bind_some, List.getElem?_cons_zero, List.getElem?_cons_succ, List.set_cons_zero, List.set_cons_succ, eq_self, if_true, ite_and, ite_or, ite_I, ite_bI, ite_bJ, bI_ne, bI_01, List.cons_append, List.nil_append, Bool.false_eq_true, if_false]
    exact k
  refine key _ _ _ _ ?_
  by_cases lo : c.toInt < 1
  · rw [if_pos lo]
    refine wS_r rfl ⟨?_, rfl⟩
    have : isC c = false := by
      cases q : isC c with
      | false => rfl
      | true =>
        obtain ⟨m, hm, rfl⟩ := isC_m q
        rw [nI_toInt (by omega)] at lo
        omega
    rw [this]
    rfl
  rw [if_neg lo]
  obtain ⟨m, hm, rfl⟩ := nI_of (x := c) (fun q => by
    rw [Int32.lt_iff_toInt_lt] at q
    have : (0 : Int32).toInt = 0 := rfl
    omega)
  rw [nI_toInt hm] at lo ⊢
  by_cases hi : 12 < m
  · rw [List.getD_eq_getElem?_getD, List.getElem?_eq_none (by simp only [List.length_cons, List.length_nil]; omega)]
    refine wS_r rfl ⟨?_, rfl⟩
    have : isC (nI m) = false := by
      cases q : isC (nI m) with
      | false => rfl
      | true =>
        obtain ⟨m', hm', e⟩ := isC_m q
        rw [nI_eq (by omega) (by omega)] at e
        omega
    rw [this]
    rfl
  · rcases (show m = 1 ∨ m = 2 ∨ m = 3 ∨ m = 4 ∨ m = 5 ∨ m = 6 ∨ m = 7 ∨ m = 8 ∨ m = 9 ∨ m = 10 ∨ m = 11 ∨ m = 12 by omega) with rfl | rfl | rfl | rfl | rfl | rfl | rfl | rfl | rfl | rfl | rfl | rfl <;> exact wS_r rfl ⟨by dsimp only; decide, rfl⟩
/-- a datagram may be made ready -/
def okDg (w : wd) (c a o l : Int32) : Bool := !jGe (vW w 0 4) (nI 3) && isC c && !(jLt a 0 || jGt a (nI 65535) || jLt l (nI 1) || jGt l (nI 8)) && !(jLt c (nI 10) && (jLt o 0 || jGe o (nI 128)))
def addG (w : wd) (B : sg) : wd := (w.1, fun e => if e = yW w then B else w.2.1 e, w.2.2.1, up (vW w) 0 4 (nI (yW w + 1)))
theorem CPc.ad {τ B : sg} (hC : CPc n X σ w) (hW : okW w) (hz : yW w < 3) (r1 : RD τ (28 - X + 2 + 2 * yW w) B) (r2 : τ (28 - X) 1 = nI (yW w + 1)) (r3 : ∀ b, b ≠ 28 - X → b ≠ 28 - X + 2 + 2 * yW w → b ≠ 28 - X + 2 + 2 * yW w + 1 → τ b = σ b) (r4 : ∀ i, i ≠ 1 → True) : CPc n X τ (addG w B) := by
  obtain ⟨h1, ⟨hX, hy3, hz3⟩, h2, h3, h4, h5, h6, h7⟩ := hC
  have hb10 : X = 10 ∨ X = 18 := hX
  have ey : yW (addG w B) = yW w + 1 := by
    unfold yW addG vW
    show (nI (yW w + 1)).toNatClampNeg = _
    exact nC_n (by omega)
  have ek : kW (addG w B) = kW w := rfl
  have ez : zW (addG w B) = zW w := rfl
  unfold CPc
  rw [ey, ek, ez]
  refine ⟨h1, ⟨hX, by omega, hz3⟩, by rw [r3 0 (by omega) (by omega) (by omega)]; exact h2, by rw [r3 0 (by omega) (by omega) (by omega)]; exact h3, fun j i hc => ?_, fun t ht => (h5 t ht).ot (fun j _ => r3 _ (by have := sa_ge t j; omega) (by have := sa_ge t j; omega) (by have := sa_ge t j; omega)), fun e he => ?_, fun e he => (h7 e he).keep (r3 _ (by omega) (by omega) (by omega)) (r3 _ (by omega) (by omega) (by omega))⟩
  · show _ = up (vW w) 0 4 (nI (yW w + 1)) j i
    by_cases q : j = 0 ∧ i = 4
    · obtain ⟨rfl, rfl⟩ := q
      exact r2
    · unfold up
      rw [if_neg q]
      have ne : cva X j i ≠ 28 - X := by
        have c := cv_c (X := X) hc
        generalize cva X j i = x at c
        omega
      rw [r3 _ ne (by have := cva_b hX hc; omega) (by have := cva_b hX hc; omega)]
      exact h4 j i hc
  · show RD τ _ (if e = yW w then B else w.2.1 e)
    by_cases q : e = yW w
    · rw [if_pos q, q]
      exact r1
    · rw [if_neg q]
      exact (h6 e (by omega)).keep (r3 _ (by omega) (by omega) (by omega)) (r3 _ (by omega) (by omega) (by omega))
theorem c_datagram {c a o l : Int32} (hC : CPc n X σ w) (hW : okW w) : ∃ τ, G_L_datagram [.ref 0, .int c, .int a, .int o, .int l] (hs n σ) = some (if okDg w c a o l = true then vW w 0 4 else -1, hs n τ) ∧ CPc n X τ (if okDg w c a o l = true then addG w (nwG c a o l) else w) ∧ FK σ τ := by
  have h := hC.B
  have hY := hC.ix.o
  have hy := hW.y
  have ey := hC.cy.trans hy.1
  refine mI_t (Nat.le_of_ble_eq_true rfl) ?_
  simp only [jx_L0, List.map_cons, List.map_nil, List.length_cons, List.length_nil, Nat.reduceAdd, Nat.reduceSub, List.replicate, List.cons_append, List.nil_append]
  unfold P_L_datagram
  have no : okDg w c a o l = false → wS (sRI (fI (-1))) [some (.ref 0), some (.int c), some (.int a), some (.int o), some (.int l)] (hs n σ) (fun L1 h1 => False) (fun v h' => v = some (.int (if okDg w c a o l = true then vW w 0 4 else -1)) ∧ ∃ τ, h' = hs n τ ∧ CPc n X τ (if okDg w c a o l = true then addG w (nwG c a o l) else w) ∧ FK σ τ) := fun q => by
    rw [q, if_neg Bool.false_ne_true, if_neg Bool.false_ne_true]
    exact wS_r rfl ⟨rfl, σ, rfl, hC, FK.r σ⟩
  refine wSeq (wIf (by simp only [e_fI, e_fLd, e_fLr, e_fB, e_fD, e_fC, e_fT, e_fAnd, e_fOr, e_fNot, e_fCC, e_fIf, e_gI, e_gR, e_aI, e_aR, e_aN, e_cV, e_cS, e_fNil, e_fAi, e_fAr, e_sSeq, e_sSkip, e_sSt, e_sSr, e_sInc, e_sRI, e_sRR, e_sRV, e_sIf, e_sCall, e_sPI, e_sPZ, e_sPR, e_sPO, e_sAI, e_sAZ, e_sAO, e_sAR, e_sPopI, e_sPopR, e_sCopy, e_mI, e_mZ, e_mR, e_mV, jAdd_n, jMul_n, z0, z1, Option.bind_some, List.getElem?_cons_zero, List.getElem?_cons_succ, List.set_cons_zero, List.set_cons_succ, eq_self, if_true, ite_and, ite_or, ite_I, ite_bI, ite_bJ, bI_ne, bI_01, List.cons_append, List.nil_append, Bool.false_eq_true, if_false, hC.g2, gX1 h hY, hC.cy, q_L_isCommand]; rfl) (fun hb => ?_) (fun hb => ?_))
  · refine wMono (no ?_) (fun _ _ q => q.elim) (fun _ _ q => q)
    unfold okDg
    cases q1 : jGe (vW w 0 4) (nI 3) <;> cases q2 : isC c
    · rfl
    · rw [q1, q2] at hb; cases hb
    · rfl
    · rfl
  have n1 := Bool.or_eq_false_iff.mp hb
  clear hb
  refine wS_l rfl ?_
  refine wSeq (wIf (by simp only [e_fI, e_fLd, e_fLr, e_fB, e_fD, e_fC, e_fT, e_fAnd, e_fOr, e_fNot, e_fCC, e_fIf, e_gI, e_gR, e_aI, e_aR, e_aN, e_cV, e_cS, e_fNil, e_fAi, e_fAr, e_sSeq, e_sSkip, e_sSt, e_sSr, e_sInc, e_sRI, e_sRR, e_sRV, e_sIf, e_sCall, e_sPI, e_sPZ, e_sPR, e_sPO, e_sAI, e_sAZ, e_sAO, e_sAR, e_sPopI, e_sPopR, e_sCopy, e_mI, e_mZ, e_mR, e_mV, jAdd_n, jMul_n, z0, z1, Option.bind_some, List.getElem?_cons_zero, List.getElem?_cons_succ, List.set_cons_zero, List.set_cons_succ, eq_self, if_true, ite_and, ite_or, ite_I, ite_bI, ite_bJ, bI_ne, bI_01, List.cons_append, List.nil_append, Bool.false_eq_true, if_false]; rfl) (fun hb => ?_) (fun hb => ?_))
  · refine wMono (no ?_) (fun _ _ q => q.elim) (fun _ _ q => q)
    unfold okDg
    rw [hb, Bool.not_true, Bool.and_false]
    rfl
  have n2 := hb
  clear hb
  refine wS_l rfl ?_
  refine wSeq (wIf (by simp only [e_fI, e_fLd, e_fLr, e_fB, e_fD, e_fC, e_fT, e_fAnd, e_fOr, e_fNot, e_fCC, e_fIf, e_gI, e_gR, e_aI, e_aR, e_aN, e_cV, e_cS, e_fNil, e_fAi, e_fAr, e_sSeq, e_sSkip, e_sSt, e_sSr, e_sInc, e_sRI, e_sRR, e_sRV, e_sIf, e_sCall, e_sPI, e_sPZ, e_sPR, e_sPO, e_sAI, e_sAZ, e_sAO, e_sAR, e_sPopI, e_sPopR, e_sCopy, e_mI, e_mZ, e_mR, e_mV, jAdd_n, jMul_n, z0, z1, Option.bind_some, List.getElem?_cons_zero, List.getElem?_cons_succ, List.set_cons_zero, List.set_cons_succ, eq_self, if_true, ite_and, ite_or, ite_I, ite_bI, ite_bJ, bI_ne, bI_01, List.cons_append, List.nil_append, Bool.false_eq_true, if_false]; rfl) (fun hb => ?_) (fun hb => ?_))
  · refine wMono (no ?_) (fun _ _ q => q.elim) (fun _ _ q => q)
    unfold okDg
    rw [hb, Bool.not_true, Bool.and_false]
  have n3 := hb
  clear hb
  refine wS_l rfl ?_
  have ok : okDg w c a o l = true := by
    unfold okDg
    have i1 : isC c = true := by cases q : isC c; rw [q] at n1; cases n1.2; rfl
    rw [n1.1, i1, n2, n3]
    rfl
  have hlt : yW w < 3 := by
    have := of_decide_eq_false n1.1
    rw [hy.1, nI_leI (by omega) (by omega)] at this
    omega
  obtain ⟨τ, e, r1, r2, r3⟩ := q_F_append (c := c) (a := a) (o := o) (l := l) h hY ey hlt
  refine wSeq (wS_l (by simp only [e_fI, e_fLd, e_fLr, e_fB, e_fD, e_fC, e_fT, e_fAnd, e_fOr, e_fNot, e_fCC, e_fIf, e_gI, e_gR, e_aI, e_aR, e_aN, e_cV, e_cS, e_fNil, e_fAi, e_fAr, e_sSeq, e_sSkip, e_sSt, e_sSr, e_sInc, e_sRI, e_sRR, e_sRV, e_sIf, e_sCall, e_sPI, e_sPZ, e_sPR, e_sPO, e_sAI, e_sAZ, e_sAO, e_sAR, e_sPopI, e_sPopR, e_sCopy, e_mI, e_mZ, e_mR, e_mV, jAdd_n, jMul_n, z0, z1, Option.bind_some, List.getElem?_cons_zero, List.getElem?_cons_succ, List.set_cons_zero, List.set_cons_succ, eq_self, if_true, ite_and, ite_or, ite_I, ite_bI, ite_bJ, bI_ne, bI_01, List.cons_append, List.nil_append, Bool.false_eq_true, if_false, hC.g2, kX h hY, e]; rfl) ?_)
  have g2' : τ 0 2 = nI (28 - X) := by
    have hb10 : X = 10 ∨ X = 18 := hC.ix
    rw [r3 0 (by omega) (by omega) (by omega)]
    exact hC.2.2.1
  refine wS_r (by simp only [e_fI, e_fLd, e_fLr, e_fB, e_fD, e_fC, e_fT, e_fAnd, e_fOr, e_fNot, e_fCC, e_fIf, e_gI, e_gR, e_aI, e_aR, e_aN, e_cV, e_cS, e_fNil, e_fAi, e_fAr, e_sSeq, e_sSkip, e_sSt, e_sSr, e_sInc, e_sRI, e_sRR, e_sRV, e_sIf, e_sCall, e_sPI, e_sPZ, e_sPR, e_sPO, e_sAI, e_sAZ, e_sAO, e_sAR, e_sPopI, e_sPopR, e_sCopy, e_mI, e_mZ, e_mR, e_mV, jAdd_n, jMul_n, z0, z1, Option.bind_some, List.getElem?_cons_zero, List.getElem?_cons_succ, List.set_cons_zero, List.set_cons_succ, eq_self, if_true, ite_and, ite_or, ite_I, ite_bI, ite_bJ, bI_ne, bI_01, List.cons_append, List.nil_append, Bool.false_eq_true, if_false, gL2 h g2' (by omega), gX1 h hY, r2, jSub_n (show 1 ≤ yW w + 1 by omega), Nat.add_sub_cancel]; rfl) ?_
  rw [ok, if_pos rfl, if_pos rfl, hy.1]
  have hb10 : X = 10 ∨ X = 18 := hC.ix
  exact ⟨rfl, τ, rfl, hC.ad hW hlt r1 r2 r3 (fun _ _ => trivial), fun b h1 h2 => r3 b (by omega) (by omega) (by omega)⟩
end CCC
