/-! the program's calls: the frame that is made ready, what came back, ticks -/
section CBC
variable {n X : Nat} {σ : sg} {w : wd}
theorem gL2 (h : okB n) {Y : Nat} (e : σ 0 2 = nI Y) (hY : Y < 2 ^ 31) : hp_g (hs n σ) 0 7 2 = some (.ref Y) := by
  rw [g_hs (a := 0) (ci := 7) (k := 2) (by unfold okB at h; omega) ((kb (by omega)).trans rfl) (by rw [sb (by omega)]; decide)]
  unfold vl
  rw [if_pos ⟨rfl, Or.inl rfl⟩, e, nC_n hY]
theorem gL3 (h : okB n) {Y : Nat} (e : σ 0 3 = nI Y) (hY : Y < 2 ^ 31) : hp_g (hs n σ) 0 7 3 = some (.ref Y) := by
  rw [g_hs (a := 0) (ci := 7) (k := 3) (by unfold okB at h; omega) ((kb (by omega)).trans rfl) (by rw [sb (by omega)]; decide)]
  unfold vl
  rw [if_pos ⟨rfl, Or.inr rfl⟩, e, nC_n hY]
theorem isX.o (h : isX X) : isX (28 - X) := by unfold isX at *; omega
theorem CPc.g2 (h : CPc n X σ w) : hp_g (hs n σ) 0 7 2 = some (.ref (28 - X)) := gL2 h.B h.2.2.1 (by omega)
theorem CPc.g3 (h : CPc n X σ w) : hp_g (hs n σ) 0 7 3 = some (.ref X) := gL3 h.B h.2.2.2.1 (by have : X = 10 ∨ X = 18 := h.2.1.1; omega)
theorem CPc.ix (h : CPc n X σ w) : isX X := h.2.1.1
theorem okW.y (h : okW w) : vW w 0 4 = nI (yW w) ∧ yW w ≤ 3 := ⟨h.2.2.2.2.2.2.1, h.2.2.2.2.2.2.2.1⟩
theorem okW.z (h : okW w) : vW w 0 5 = nI (zW w) ∧ zW w ≤ 3 := ⟨h.2.2.2.2.2.2.2.2.1, h.2.2.2.2.2.2.2.2.2.1⟩
theorem okW.py {e : Nat} (h : okW w) (he : e < yW w) : okP (w.2.1 e) := h.2.2.2.2.2.2.2.2.2.2.2.2.2.2.2.2.1 e he
theorem okW.pz {e : Nat} (h : okW w) (he : e < zW w) : okP (w.2.2.1 e) := h.2.2.2.2.2.2.2.2.2.2.2.2.2.2.2.2.2.1 e he
theorem okP.l {G : sg} (h : okP G) : G 0 3 = nI (kN G) ∧ 1 ≤ kN G ∧ kN G ≤ 8 := by
  obtain ⟨c, -, -, -, h2⟩ := h
  exact ⟨h2.2.2.1, h2.2.2.2.1, h2.2.2.2.2.1⟩
theorem RD.u1 {G : sg} {D i : Nat} {v : Int32} (h : RD σ D G) : RD (up σ (D + 1) i v) D (up G 1 i v) := by
  refine ⟨fun j hj => ?_, fun j hj => ?_⟩
  · rw [up_ne (by omega), up_ne (by omega)]
    exact h.1 j hj
  · have := h.2 j hj
    unfold up
    by_cases q : j = i
    · rw [if_pos ⟨rfl, q⟩, if_pos ⟨rfl, q⟩]
    · rw [if_neg (fun k => q k.2), if_neg (fun k => q k.2)]
      exact this
def setG (w : wd) (d : Nat) (B : sg) : wd := (w.1, fun e => if e = d then B else w.2.1 e, w.2.2.1, w.2.2.2)
def inD (w : wd) (d i : Int32) : Bool := jGe d 0 && jLt d (vW w 0 4) && jGe i 0 && jLt i (w.2.1 d.toNatClampNeg 0 3)
theorem inD_i {d i : Int32} (hW : okW w) (h : inD w d i = true) : ∃ e x, e < yW w ∧ d = nI e ∧ x < kN (w.2.1 e) ∧ i = nI x ∧ kN (w.2.1 e) ≤ 8 := by
  unfold inD at h
  rw [hW.y.1, Bool.and_assoc] at h
  obtain ⟨h1, h2⟩ := Bool.and_eq_true_iff.mp h
  obtain ⟨e, he, rfl⟩ := idx (by have := hW.y.2; omega) h1
  have hl := (hW.py he).l
  rw [nC_n (by have := hW.y.2; omega), hl.1] at h2
  obtain ⟨x, hx, rfl⟩ := idx (by omega) h2
  exact ⟨e, x, he, rfl, hx, rfl, hl.2.2⟩
theorem c_data {d i v : Int32} (hC : CPc n X σ w) (hW : okW w) : ∃ τ, G_L_data [.ref 0, .int d, .int i, .int v] (hs n σ) = some (bI (inD w d i), hs n τ) ∧ CPc n X τ (if inD w d i = true then setG w d.toNatClampNeg (up (w.2.1 d.toNatClampNeg) 1 i.toNatClampNeg (jAnd v (nI 255))) else w) ∧ FK σ τ := by
  have h := hC.B
  have hY := hC.ix.o
  have hy := hW.y
  refine mZ_t (Nat.le_of_ble_eq_true rfl) ?_
  simp only [jx_L0, List.map_cons, List.map_nil, List.length_cons, List.length_nil, Nat.reduceAdd, Nat.reduceSub, List.replicate, List.cons_append, List.nil_append]
  unfold P_L_data
  have q := q_F_hasByte (d := d) (i := i) (G := w.2.1) h hY (hC.cy.trans hy.1) hy.2 hC.2.2.2.2.2.2.1
  have eD : (jGe d 0 && jLt d (nI (yW w)) && jGe i 0 && jLt i (w.2.1 d.toNatClampNeg 0 3)) = inD w d i := by unfold inD; rw [hy.1]
  rw [eD] at q
  refine wSeq (wIf (by simp only [e_fI, e_fLd, e_fLr, e_fB, e_fD, e_fC, e_fT, e_fAnd, e_fOr, e_fNot, e_fCC, e_fIf, e_gI, e_gR, e_aI, e_aR, e_aN, e_cV, e_cS, e_fNil, e_fAi, e_fAr, e_sSeq, e_sSkip, e_sSt, e_sSr, e_sInc, e_sRI, e_sRR, e_sRV, e_sIf, e_sCall, e_sPI, e_sPZ, e_sPR, e_sPO, e_sAI, e_sAZ, e_sAO, e_sAR, e_sPopI, e_sPopR, e_sCopy, e_mI, e_mZ, e_mR, e_mV, jAdd_n, jMul_n, z0, z1, Option.bind_some, List.getElem?_cons_zero, List.getElem?_cons_succ, List.set_cons_zero, List.set_cons_succ, eq_self, if_true, ite_and, ite_or, ite_I, ite_bI, ite_bJ, bI_ne, bI_01, List.cons_append, List.nil_append, Bool.false_eq_true, if_false, hC.g2, kX h hY, q]; rfl) (fun hb => ?_) (fun hb => ?_))
  · have e : inD w d i = false := by cases q : inD w d i; rfl; rw [q] at hb; cases hb
    rw [e, if_neg Bool.false_ne_true]
    exact wS_r rfl ⟨rfl, σ, rfl, hC, FK.r σ⟩
  · have e : inD w d i = true := by cases q : inD w d i; rw [q] at hb; cases hb; rfl
    rw [e, if_pos rfl]
    obtain ⟨e1, x, he, rfl, hx, rfl, h8⟩ := inD_i hW e
    rw [nC_n (show e1 < 2 ^ 31 by omega), nC_n (show x < 2 ^ 31 by omega)]
    have hD := hY.D (show e1 < 3 by omega)
    refine wS_l rfl ?_
    refine wSeq (wS_l (by simp only [e_fI, e_fLd, e_fLr, e_fB, e_fD, e_fC, e_fT, e_fAnd, e_fOr, e_fNot, e_fCC, e_fIf, e_gI, e_gR, e_aI, e_aR, e_aN, e_cV, e_cS, e_fNil, e_fAi, e_fAr, e_sSeq, e_sSkip, e_sSt, e_sSr, e_sInc, e_sRI, e_sRR, e_sRV, e_sIf, e_sCall, e_sPI, e_sPZ, e_sPR, e_sPO, e_sAI, e_sAZ, e_sAO, e_sAR, e_sPopI, e_sPopR, e_sCopy, e_mI, e_mZ, e_mR, e_mV, jAdd_n, jMul_n, z0, z1, Option.bind_some, List.getElem?_cons_zero, List.getElem?_cons_succ, List.set_cons_zero, List.set_cons_succ, eq_self, if_true, ite_and, ite_or, ite_I, ite_bI, ite_bJ, bI_ne, bI_01, List.cons_append, List.nil_append, Bool.false_eq_true, if_false, hC.g2, gX0 h hY, iX h hY (show e1 < 3 by omega), gD5 h hD, wD h hD (show x < 8 by omega)]; rfl) ?_)
    obtain ⟨h1, ⟨hX, hy3, hz3⟩, h2, h3, h4, h5, h6, h7⟩ := hC
    have hb10 : X = 10 ∨ X = 18 := hX
    refine wS_r rfl ⟨rfl, _, rfl, ⟨h1, ⟨hX, hy3, hz3⟩, ?_, ?_, fun j i hc => ?_, fun t ht => (h5 t ht).ot (fun j _ => up_ne (by have := sa_ge t j; omega)), fun e he' => ?_, fun e he' => ?_⟩, (FK.r σ).u (by omega)⟩
    · rw [up_ne (by omega)]; exact h2
    · rw [up_ne (by omega)]; exact h3
    · rw [up_ne (by have := cva_b hX hc; omega)]
      exact h4 j i hc
    · show RD _ _ (if e = e1 then _ else _)
      have he2 : e < yW w := he'
      by_cases q : e = e1
      · rw [if_pos q, q]
        exact (h6 e1 he).u1
      · rw [if_neg q]
        exact (h6 e he2).keep (up_ne (by omega)) (up_ne (by omega))
    · have he2 : e < zW w := he'
      exact (h7 e he2).keep (up_ne (by omega)) (up_ne (by omega))
def a_returned (w : wd) (d i : Int32) : Int32 := if (bW w && (jGe d 0 && jLt d (nI (zW w)))) = true then (if jEq i (-1) = true then w.2.2.1 d.toNatClampNeg 0 4 else if jEq i (-2) = true then w.2.2.1 d.toNatClampNeg 0 1 else if (jGe i 0 && jLt i (w.2.2.1 d.toNatClampNeg 0 3)) = true then w.2.2.1 d.toNatClampNeg 1 i.toNatClampNeg else -1) else -1
theorem okW.b (h : okW w) : vW w 0 2 = bI (bW w) := h.2.2.2.1
theorem c_returned {d i : Int32} (hC : CPc n X σ w) (hW : okW w) : G_L_returned [.ref 0, .int d, .int i] (hs n σ) = some (a_returned w d i, hs n σ) := by
  have h := hC.B
  have hX := hC.ix
  have hz := hW.z
  have ez := hC.cz.trans hz.1
  refine mI_q (Nat.le_of_ble_eq_true rfl) ?_
  simp only [jx_L0, List.map_cons, List.map_nil, List.length_cons, List.length_nil, Nat.reduceAdd, Nat.reduceSub, List.replicate, List.cons_append, List.nil_append]
  unfold P_L_returned a_returned
  have e0 : (!bW w || !(jGe d 0 && jLt d (nI (zW w)))) = !(bW w && (jGe d 0 && jLt d (nI (zW w)))) := by
    cases bW w <;> cases (jGe d 0 && jLt d (nI (zW w))) <;> rfl
  refine wSeq (wIf (by simp only [e_fI, e_fLd, e_fLr, e_fB, e_fD, e_fC, e_fT, e_fAnd, e_fOr, e_fNot, e_fCC, e_fIf, e_gI, e_gR, e_aI, e_aR, e_aN, e_cV, e_cS, e_fNil, e_fAi, e_fAr, e_sSeq, e_sSkip, e_sSt, e_sSr, e_sInc, e_sRI, e_sRR, e_sRV, e_sIf, e_sCall, e_sPI, e_sPZ, e_sPR, e_sPO, e_sAI, e_sAZ, e_sAO, e_sAR, e_sPopI, e_sPopR, e_sCopy, e_mI, e_mZ, e_mR, e_mV, jAdd_n, jMul_n, z0, z1, Option.bind_some, List.getElem?_cons_zero, List.getElem?_cons_succ, List.set_cons_zero, List.set_cons_succ, eq_self, if_true, ite_and, ite_or, ite_I, ite_bI, ite_bJ, bI_ne, bI_01, List.cons_append, List.nil_append, Bool.false_eq_true, if_false, gT0_4 h, hC.cb, hW.b, hC.g3, kX h hX, q_F_hasDatagram h hX ez, e0]; rfl) (fun hb => ?_) (fun hb => ?_))
  · have e : (bW w && (jGe d 0 && jLt d (nI (zW w)))) = false := by cases q : (bW w && (jGe d 0 && jLt d (nI (zW w)))); rfl; rw [q] at hb; cases hb
    rw [e, if_neg Bool.false_ne_true]
    exact wS_r rfl ⟨rfl, rfl⟩
  · have e : (bW w && (jGe d 0 && jLt d (nI (zW w)))) = true := by cases q : (bW w && (jGe d 0 && jLt d (nI (zW w)))); rw [q] at hb; cases hb; rfl
    rw [e, if_pos rfl]
    clear hb
    have e1 := (Bool.and_eq_true_iff.mp e).2
    have q := q_F_hasByte (d := d) (i := i) (G := w.2.2.1) h hX ez hz.2 hC.2.2.2.2.2.2.2
    rw [e1, Bool.true_and] at q
    obtain ⟨x, hx, rfl⟩ := idx (by omega) e1
    rw [nC_n (show x < 2 ^ 31 by omega)] at q ⊢
    have hD := hX.D (show x < 3 by omega)
    have hG := hC.2.2.2.2.2.2.2 x hx
    refine wS_l rfl ?_
    refine wSeq (wIf (by simp only [e_fI, e_fLd, e_fLr, e_fB, e_fD, e_fC, e_fT, e_fAnd, e_fOr, e_fNot, e_fCC, e_fIf, e_gI, e_gR, e_aI, e_aR, e_aN, e_cV, e_cS, e_fNil, e_fAi, e_fAr, e_sSeq, e_sSkip, e_sSt, e_sSr, e_sInc, e_sRI, e_sRR, e_sRV, e_sIf, e_sCall, e_sPI, e_sPZ, e_sPR, e_sPO, e_sAI, e_sAZ, e_sAO, e_sAR, e_sPopI, e_sPopR, e_sCopy, e_mI, e_mZ, e_mR, e_mV, jAdd_n, jMul_n, z0, z1, Option.bind_some, List.getElem?_cons_zero, List.getElem?_cons_succ, List.set_cons_zero, List.set_cons_succ, eq_self, if_true, ite_and, ite_or, ite_I, ite_bI, ite_bJ, bI_ne, bI_01, List.cons_append, List.nil_append, Bool.false_eq_true, if_false]; rfl) (fun hb => ?_) (fun hb => ?_))
    · rw [if_pos hb]
      refine wS_r (by simp only [e_fI, e_fLd, e_fLr, e_fB, e_fD, e_fC, e_fT, e_fAnd, e_fOr, e_fNot, e_fCC, e_fIf, e_gI, e_gR, e_aI, e_aR, e_aN, e_cV, e_cS, e_fNil, e_fAi, e_fAr, e_sSeq, e_sSkip, e_sSt, e_sSr, e_sInc, e_sRI, e_sRR, e_sRV, e_sIf, e_sCall, e_sPI, e_sPZ, e_sPR, e_sPO, e_sAI, e_sAZ, e_sAO, e_sAR, e_sPopI, e_sPopR, e_sCopy, e_mI, e_mZ, e_mR, e_mV, jAdd_n, jMul_n, z0, z1, Option.bind_some, List.getElem?_cons_zero, List.getElem?_cons_succ, List.set_cons_zero, List.set_cons_succ, eq_self, if_true, ite_and, ite_or, ite_I, ite_bI, ite_bJ, bI_ne, bI_01, List.cons_append, List.nil_append, Bool.false_eq_true, if_false, hC.g3, gX0 h hX, iX h hX (show x < 3 by omega), gD h hD (show 4 < 5 by omega), hG.1 4 (by omega)]; rfl) ?_
      exact ⟨rfl, rfl⟩
    rw [hb, if_neg Bool.false_ne_true]
    clear hb
    refine wS_l rfl ?_
    refine wSeq (wIf (by simp only [e_fI, e_fLd, e_fLr, e_fB, e_fD, e_fC, e_fT, e_fAnd, e_fOr, e_fNot, e_fCC, e_fIf, e_gI, e_gR, e_aI, e_aR, e_aN, e_cV, e_cS, e_fNil, e_fAi, e_fAr, e_sSeq, e_sSkip, e_sSt, e_sSr, e_sInc, e_sRI, e_sRR, e_sRV, e_sIf, e_sCall, e_sPI, e_sPZ, e_sPR, e_sPO, e_sAI, e_sAZ, e_sAO, e_sAR, e_sPopI, e_sPopR, e_sCopy, e_mI, e_mZ, e_mR, e_mV, jAdd_n, jMul_n, z0, z1, Option.bind_some, List.getElem?_cons_zero, List.getElem?_cons_succ, List.set_cons_zero, List.set_cons_succ, eq_self, if_true, ite_and, ite_or, ite_I, ite_bI, ite_bJ, bI_ne, bI_01, List.cons_append, List.nil_append, Bool.false_eq_true, if_false]; rfl) (fun hb => ?_) (fun hb => ?_))
    · rw [if_pos hb]
      refine wS_r (by simp only [e_fI, e_fLd, e_fLr, e_fB, e_fD, e_fC, e_fT, e_fAnd, e_fOr, e_fNot, e_fCC, e_fIf, e_gI, e_gR, e_aI, e_aR, e_aN, e_cV, e_cS, e_fNil, e_fAi, e_fAr, e_sSeq, e_sSkip, e_sSt, e_sSr, e_sInc, e_sRI, e_sRR, e_sRV, e_sIf, e_sCall, e_sPI, e_sPZ, e_sPR, e_sPO, e_sAI, e_sAZ, e_sAO, e_sAR, e_sPopI, e_sPopR, e_sCopy, e_mI, e_mZ, e_mR, e_mV, jAdd_n, jMul_n, z0, z1, Option.bind_some, List.getElem?_cons_zero, List.getElem?_cons_succ, List.set_cons_zero, List.set_cons_succ, eq_self, if_true, ite_and, ite_or, ite_I, ite_bI, ite_bJ, bI_ne, bI_01, List.cons_append, List.nil_append, Bool.false_eq_true, if_false, hC.g3, gX0 h hX, iX h hX (show x < 3 by omega), gD h hD (show 1 < 5 by omega), hG.1 1 (by omega)]; rfl) ?_
      exact ⟨rfl, rfl⟩
    rw [hb, if_neg Bool.false_ne_true]
    clear hb
    refine wS_l rfl ?_
    have hl := (hW.pz hx).l
    cases e3 : (jGe i 0 && jLt i (w.2.2.1 x 0 3)) with
    | false =>
      rw [e3] at q
      refine wS_r (by simp only [e_fI, e_fLd, e_fLr, e_fB, e_fD, e_fC, e_fT, e_fAnd, e_fOr, e_fNot, e_fCC, e_fIf, e_gI, e_gR, e_aI, e_aR, e_aN, e_cV, e_cS, e_fNil, e_fAi, e_fAr, e_sSeq, e_sSkip, e_sSt, e_sSr, e_sInc, e_sRI, e_sRR, e_sRV, e_sIf, e_sCall, e_sPI, e_sPZ, e_sPR, e_sPO, e_sAI, e_sAZ, e_sAO, e_sAR, e_sPopI, e_sPopR, e_sCopy, e_mI, e_mZ, e_mR, e_mV, jAdd_n, jMul_n, z0, z1, Option.bind_some, List.getElem?_cons_zero, List.getElem?_cons_succ, List.set_cons_zero, List.set_cons_succ, eq_self, if_true, ite_and, ite_or, ite_I, ite_bI, ite_bJ, bI_ne, bI_01, List.cons_append, List.nil_append, Bool.false_eq_true, if_false, hC.g3, kX h hX, q]; rfl) ?_
      exact ⟨rfl, rfl⟩
    | true =>
      rw [e3] at q
      rw [hl.1] at e3
      obtain ⟨y, hy, rfl⟩ := idx (by omega) e3
      refine wS_r (by simp only [e_fI, e_fLd, e_fLr, e_fB, e_fD, e_fC, e_fT, e_fAnd, e_fOr, e_fNot, e_fCC, e_fIf, e_gI, e_gR, e_aI, e_aR, e_aN, e_cV, e_cS, e_fNil, e_fAi, e_fAr, e_sSeq, e_sSkip, e_sSt, e_sSr, e_sInc, e_sRI, e_sRR, e_sRV, e_sIf, e_sCall, e_sPI, e_sPZ, e_sPR, e_sPO, e_sAI, e_sAZ, e_sAO, e_sAR, e_sPopI, e_sPopR, e_sCopy, e_mI, e_mZ, e_mR, e_mV, jAdd_n, jMul_n, z0, z1, Option.bind_some, List.getElem?_cons_zero, List.getElem?_cons_succ, List.set_cons_zero, List.set_cons_succ, eq_self, if_true, ite_and, ite_or, ite_I, ite_bI, ite_bJ, bI_ne, bI_01, List.cons_append, List.nil_append, Bool.false_eq_true, if_false, hC.g3, kX h hX, q, gX0 h hX, iX h hX (show x < 3 by omega), gD5 h hD, iD h hD (show y < 8 by omega), hG.2 y (by omega)]; rfl) ?_
      rw [if_pos rfl, nC_n (show y < 2 ^ 31 by omega)]
      exact ⟨rfl, rfl⟩
def tickW (w : wd) : wd := (fun t => tkA (w.1 t), w.2.1, w.2.2.1, w.2.2.2)
def tickI (w : wd) (i : Nat) : wd := (fun t => if t < i then tkA (w.1 t) else w.1 t, w.2.1, w.2.2.1, w.2.2.2)
theorem tickI_s {i : Nat} : setA (tickI w i) i (tkA (w.1 i)) = tickI w (i + 1) := by
  unfold setA tickI
  congr 1
  funext t
  dsimp only
  by_cases q : t = i
  · subst q
    rw [if_pos rfl, if_pos (by omega)]
  · rw [if_neg q]
    by_cases q2 : t < i
    · rw [if_pos q2, if_pos (by omega)]
    · rw [if_neg q2, if_neg (by omega)]
theorem c_tick (hC : CPc n X σ w) (hW : okW w) : ∃ τ, G_L_tick [.ref 0] (hs n σ) = some (hs n τ) ∧ CPc n X τ (tickI w (kW w)) ∧ FK σ τ := by
  have h := hC.B
  have hk := hW.2.1
  refine mV_s (Nat.le_of_ble_eq_true rfl) ?_
  simp only [jx_L0, List.map_cons, List.map_nil, List.length_cons, List.length_nil, Nat.reduceAdd, Nat.reduceSub, List.replicate, List.cons_append, List.nil_append]
  unfold P_L_tick
  refine wSeq (wSeq (wS_l (by simp only [e_fI, e_fLd, e_fLr, e_fB, e_fD, e_fC, e_fT, e_fAnd, e_fOr, e_fNot, e_fCC, e_fIf, e_gI, e_gR, e_aI, e_aR, e_aN, e_cV, e_cS, e_fNil, e_fAi, e_fAr, e_sSeq, e_sSkip, e_sSt, e_sSr, e_sInc, e_sRI, e_sRR, e_sRV, e_sIf, e_sCall, e_sPI, e_sPZ, e_sPR, e_sPO, e_sAI, e_sAZ, e_sAO, e_sAR, e_sPopI, e_sPopR, e_sCopy, e_mI, e_mZ, e_mR, e_mV, jAdd_n, jMul_n, z0, z1, Option.bind_some, List.getElem?_cons_zero, List.getElem?_cons_succ, List.set_cons_zero, List.set_cons_succ, eq_self, if_true, ite_and, ite_or, ite_I, ite_bI, ite_bJ, bI_ne, bI_01, List.cons_append, List.nil_append, Bool.false_eq_true, if_false]; rfl) ?_))
  refine wWh (I := fun i L H => ∃ τ, L = [some (.ref 0), some (.int (nI i))] ∧ H = hs n τ ∧ CPc n X τ (tickI w i) ∧ FK σ τ) (e := kW w) ?_ ?_ ?_ 600 0 _ _ (by omega) (by omega) ⟨σ, rfl, rfl, ?_, FK.r σ⟩
  · rintro i _ _ ⟨τ, rfl, rfl, hCi, -⟩ hi
    have ek : τ 1 2 = nI (kW w) := hCi.ck.trans hW.1
    simp only [e_fI, e_fLd, e_fLr, e_fB, e_fD, e_fC, e_fT, e_fAnd, e_fOr, e_fNot, e_fCC, e_fIf, e_gI, e_gR, e_aI, e_aR, e_aN, e_cV, e_cS, e_fNil, e_fAi, e_fAr, e_sSeq, e_sSkip, e_sSt, e_sSr, e_sInc, e_sRI, e_sRR, e_sRV, e_sIf, e_sCall, e_sPI, e_sPZ, e_sPR, e_sPO, e_sAI, e_sAZ, e_sAO, e_sAR, e_sPopI, e_sPopR, e_sCopy, e_mI, e_mZ, e_mR, e_mV, jAdd_n, jMul_n, z0, z1, Option.bind_some, List.getElem?_cons_zero, List.getElem?_cons_succ, List.set_cons_zero, List.set_cons_succ, eq_self, if_true, ite_and, ite_or, ite_I, ite_bI, ite_bJ, bI_ne, bI_01, List.cons_append, List.nil_append, Bool.false_eq_true, if_false, gT0_0 h, gT1_2 h, ek, jLt, nI_ltI (show i < 2 ^ 31 by omega) (show kW w < 2 ^ 31 by omega)]
  · rintro i _ _ ⟨τ, rfl, rfl, hCi, hF⟩ hi
    have ek : τ 1 2 = nI (kW w) := hCi.ck.trans hW.1
    have hS := hCi.oS (t := i) hi
    have hR : RC τ i (w.1 i) := by
      have := hCi.rc (t := i) hi
      unfold tickI at this
      dsimp only at this
      rw [if_neg (by omega)] at this
      exact this
    have hu := hW.u hi
    obtain ⟨ρ, e, r1, r2⟩ := q_S_makeTick hS hR hu.1 hu.t
    refine wSeq (wS_l (by simp only [e_fI, e_fLd, e_fLr, e_fB, e_fD, e_fC, e_fT, e_fAnd, e_fOr, e_fNot, e_fCC, e_fIf, e_gI, e_gR, e_aI, e_aR, e_aN, e_cV, e_cS, e_fNil, e_fAi, e_fAr, e_sSeq, e_sSkip, e_sSt, e_sSr, e_sInc, e_sRI, e_sRR, e_sRV, e_sIf, e_sCall, e_sPI, e_sPZ, e_sPR, e_sPO, e_sAI, e_sAZ, e_sAO, e_sAR, e_sPopI, e_sPopR, e_sCopy, e_mI, e_mZ, e_mR, e_mV, jAdd_n, jMul_n, z0, z1, Option.bind_some, List.getElem?_cons_zero, List.getElem?_cons_succ, List.set_cons_zero, List.set_cons_succ, eq_self, if_true, ite_and, ite_or, ite_I, ite_bI, ite_bJ, bI_ne, bI_01, List.cons_append, List.nil_append, Bool.false_eq_true, if_false, gT0_0 h, gT1_0 h, iTs h ek hk hi, kS0 hS, e]; rfl) ?_)
    refine wS_l (by simp only [e_fI, e_fLd, e_fLr, e_fB, e_fD, e_fC, e_fT, e_fAnd, e_fOr, e_fNot, e_fCC, e_fIf, e_gI, e_gR, e_aI, e_aR, e_aN, e_cV, e_cS, e_fNil, e_fAi, e_fAr, e_sSeq, e_sSkip, e_sSt, e_sSr, e_sInc, e_sRI, e_sRR, e_sRV, e_sIf, e_sCall, e_sPI, e_sPZ, e_sPR, e_sPO, e_sAI, e_sAZ, e_sAO, e_sAR, e_sPopI, e_sPopR, e_sCopy, e_mI, e_mZ, e_mR, e_mV, jAdd_n, jMul_n, z0, z1, Option.bind_some, List.getElem?_cons_zero, List.getElem?_cons_succ, List.set_cons_zero, List.set_cons_succ, eq_self, if_true, ite_and, ite_or, ite_I, ite_bI, ite_bJ, bI_ne, bI_01, List.cons_append, List.nil_append, Bool.false_eq_true, if_false, nI_add]; rfl) ?_
    refine ⟨ρ, rfl, rfl, ?_, hF.t r2.K⟩
    rw [← tickI_s]
    exact hCi.sa r1 r2
  · rintro _ _ ⟨τ, rfl, rfl, hCi, hF⟩
    exact wS_r rfl ⟨rfl, τ, rfl, hCi, hF⟩
  · have : tickI w 0 = w := rfl
    rw [this]
    exact hC
end CBC
