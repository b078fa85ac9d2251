/-! cycle: what is sent, what is due -/
def lnC (s d : Nat) : Nat := min 8 (s - 8 * d)
def cyG (w : wd) (d : Nat) : sg := fun j i => if j = 0 then nwG (nI 12) (nI (8 * d)) (nI 0) (nI (lnC (sW w) d)) 0 i else if i < lnC (sW w) d then vW w 2 (8 * d + i) else nI 0
def ptC (w : wd) : Nat := (sW w + 7) / 8
def liB (p m d : Nat) : Bool := decide (0 < m ∧ p < 8 * d + 8 ∧ 8 * d < p + m)
def pI (w : wd) (s : Nat) : Nat := (vW w 4 s).toNatClampNeg
def oI (w : wd) (s : Nat) : Nat := (vW w 6 s).toNatClampNeg
def iI (w : wd) (s : Nat) : Nat := (vW w 7 s).toNatClampNeg
def exA (w : wd) (d : Nat) : Nat → Nat
  | 0 => 0
  | s + 1 => exA w d s + ((if liB (pI w s) (oI w s) d = true then 2 else 0) + (if liB (pI w s + oI w s) (iI w s) d = true then 1 else 0))
def w1C (w : wd) : wd := sndW (frW w (ptC w) (cyG w))
def gtW (w : wd) (s : Nat) : wd := (w.1, w.2.1, w.2.2.1, fun j i => if j = 3 ∧ i < s then w.2.2.1 (i / 8) 1 (i % 8) else vW w j i)
/-- the first datagram whose counter isn't what is due, below k -/
def baC (w : wd) (k : Nat) : Option Nat := (List.range k).find? (fun d => jNe ((w1C w).2.2.1 d 0 4) (nI (exA w d (mW w))))
def a_cycle (w : wd) : Int32 := if sW w = 0 then -1 else if bW (w1C w) = true then (match baC w (ptC w) with
  | some d => nI (2 + d)
  | none => nI 0) else nI 1
def cyW (w : wd) : wd := if sW w = 0 then w else if bW (w1C w) = true then (match baC w (ptC w) with
  | some _ => w1C w
  | none => gtW (w1C w) (sW w)) else w1C w
theorem cyG_ok {w : wd} {d : Nat} (hW : okW w) (hd : d < ptC w) : okP (cyG w d) := by
  have hs24 := (sW_e hW).2
  have hb := hW.2.2.2.2.2.2.2.2.2.2.2.2.2.2.2.2.2.2.2
  unfold ptC at hd
  refine okP_n (c := 12) (a := 8 * d) (o := 0) (l := lnC (sW w) d) (by omega) (by omega) (by omega) (by unfold lnC; omega) (B := cyG w d 1) (fun i hi => ?_) (fun i hi => rfl) (fun _ _ => rfl)
  show byt (if i < lnC (sW w) d then vW w 2 (8 * d + i) else nI 0)
  split
  · exact hb _ (by unfold lnC at *; omega)
  · exact byt_n (by omega)
theorem ptC_3 {w : wd} (hW : okW w) : ptC w ≤ 3 := by have := (sW_e hW).2; unfold ptC; omega
theorem w1C_ok {w : wd} (hW : okW w) : okW (w1C w) := (hW.fr (ptC_3 hW) (fun _ he => cyG_ok hW he)).sn
theorem exA_e {w u : wd} (e : ∀ j i, 4 ≤ j → vW u j i = vW w j i) (d : Nat) : ∀ s, exA u d s = exA w d s
  | 0 => rfl
  | s + 1 => by
    unfold exA
    rw [exA_e e d s]
    unfold pI oI iI
    rw [e 4 s (by omega), e 6 s (by omega), e 7 s (by omega)]
theorem w1C_v {w : wd} {j i : Nat} (h : j ≠ 0) : vW (w1C w) j i = vW w j i := by
  show up (up (up (vW w) 0 5 _) 0 1 _) 0 2 _ j i = _
  rw [up_ne h, up_ne h, up_ne h]
theorem okW.im {w : wd} {s : Nat} (hW : okW w) (hs : s < mW w) : vW w 4 s = nI (pI w s) ∧ vW w 5 s = nI (pI w s + oI w s) ∧ vW w 6 s = nI (oI w s) ∧ vW w 7 s = nI (iI w s) ∧ vW w 8 s = nI (pI w s + oI w s + iI w s) ∧ oI w s ≤ 2 ∧ iI w s ≤ 2 ∧ pI w s + oI w s + iI w s ≤ sW w := by
  obtain ⟨p, o, i, h4, h5, h6, h7, h8, ho, hi, hp⟩ := hW.2.2.2.2.2.2.2.2.2.2.2.2.2.2.2.2.2.2.1 s hs
  have hs24 := (sW_e hW).2
  have e1 : pI w s = p := by unfold pI; rw [h4]; exact nC_n (by omega)
  have e2 : oI w s = o := by unfold oI; rw [h6]; exact nC_n (by omega)
  have e3 : iI w s = i := by unfold iI; rw [h7]; exact nC_n (by omega)
  rw [e1, e2, e3]
  exact ⟨h4, h5, h6, h7, h8, ho, hi, hp⟩
theorem exA_b {w : wd} {d : Nat} : ∀ s, exA w d s ≤ 3 * s
  | 0 => by unfold exA; omega
  | s + 1 => by
    have := exA_b (w := w) (d := d) s
    unfold exA
    split <;> split <;> omega
section SEC
variable {n X : Nat} {σ : sg} {w : wd}
theorem q_I_meet {f e a : Nat} (hf : f < 1000) (he : e < 1000) (ha : a < 1000) : G_I_meet [.int (nI f), .int (nI e), .int (nI a)] (hs n σ) = some (bI (decide (max f a < min e (a + 8))), hs n σ) := by
  refine mZ_q (Nat.le_of_ble_eq_true rfl) ?_
  simp only [jx_L0, List.map_cons, List.map_nil, List.length_cons, List.length_nil, Nat.reduceAdd, Nat.reduceSub, List.replicate, List.cons_append, List.nil_append]
  unfold P_I_meet
  refine wS_r (by simp only [e_fI, e_fLd, e_fLr, e_fB, e_fD, e_fC, e_fT, e_fAnd, e_fOr, e_fNot, e_fCC, e_fIf, e_gI, e_gR, e_aI, e_aR, e_aN, e_cV, e_cS, e_fNil, e_fAi, e_fAr, e_sSeq, e_sSkip, e_sSt, e_sSr, e_sInc, e_sRI, e_sRR, e_sRV, e_sIf, e_sCall, e_sPI, e_sPZ, e_sPR, e_sPO, e_sAI, e_sAZ, e_sAO, e_sAR, e_sPopI, e_sPopR, e_sCopy, e_mI, e_mZ, e_mR, e_mV, jAdd_n, jMul_n, z0, z1, Option.bind_some, List.getElem?_cons_zero, List.getElem?_cons_succ, List.set_cons_zero, List.set_cons_succ, eq_self, if_true, ite_and, ite_or, ite_I, ite_bI, ite_bJ, bI_ne, bI_01, List.cons_append, List.nil_append, Bool.false_eq_true, if_false, jMax_n (show f < 2 ^ 31 by omega) (show a < 2 ^ 31 by omega), jMin_n (show e < 2 ^ 31 by omega) (show a + 8 < 2 ^ 31 by omega), jLt, nI_ltI (show max f a < 2 ^ 31 by omega) (show min e (a + 8) < 2 ^ 31 by omega)]; rfl) ?_
  exact ⟨rfl, rfl⟩
theorem q_I_expected {d : Nat} (hC : CPc n X σ w) (hW : okW w) (hd : d < 3) : G_I_expected [.ref 4, .int (nI (d * 8))] (hs n σ) = some (nI (exA w d (mW w)), hs n σ) := by
  have h := hC.B
  have hm := mW_e hW
  have hs24 := (sW_e hW).2
  refine mI_q (Nat.le_of_ble_eq_true rfl) ?_
  simp only [jx_L0, List.map_cons, List.map_nil, List.length_cons, List.length_nil, Nat.reduceAdd, Nat.reduceSub, List.replicate, List.cons_append, List.nil_append]
  unfold P_I_expected
  refine wSeq (wS_l (by simp only [e_fI, e_fLd, e_fLr, e_fB, e_fD, e_fC, e_fT, e_fAnd, e_fOr, e_fNot, e_fCC, e_fIf, e_gI, e_gR, e_aI, e_aR, e_aN, e_cV, e_cS, e_fNil, e_fAi, e_fAr, e_sSeq, e_sSkip, e_sSt, e_sSr, e_sInc, e_sRI, e_sRR, e_sRV, e_sIf, e_sCall, e_sPI, e_sPZ, e_sPR, e_sPO, e_sAI, e_sAZ, e_sAO, e_sAR, e_sPopI, e_sPopR, e_sCopy, e_mI, e_mZ, e_mR, e_mV, jAdd_n, jMul_n, z0, z1, Option.bind_some, List.getElem?_cons_zero, List.getElem?_cons_succ, List.set_cons_zero, List.set_cons_succ, eq_self, if_true, ite_and, ite_or, ite_I, ite_bI, ite_bJ, bI_ne, bI_01, List.cons_append, List.nil_append, Bool.false_eq_true, if_false]; rfl) ?_)
  refine wSeq (wSeq (wS_l (by simp only [e_fI, e_fLd, e_fLr, e_fB, e_fD, e_fC, e_fT, e_fAnd, e_fOr, e_fNot, e_fCC, e_fIf, e_gI, e_gR, e_aI, e_aR, e_aN, e_cV, e_cS, e_fNil, e_fAi, e_fAr, e_sSeq, e_sSkip, e_sSt, e_sSr, e_sInc, e_sRI, e_sRR, e_sRV, e_sIf, e_sCall, e_sPI, e_sPZ, e_sPR, e_sPO, e_sAI, e_sAZ, e_sAO, e_sAR, e_sPopI, e_sPopR, e_sCopy, e_mI, e_mZ, e_mR, e_mV, jAdd_n, jMul_n, z0, z1, Option.bind_some, List.getElem?_cons_zero, List.getElem?_cons_succ, List.set_cons_zero, List.set_cons_succ, eq_self, if_true, ite_and, ite_or, ite_I, ite_bI, ite_bJ, bI_ne, bI_01, List.cons_append, List.nil_append, Bool.false_eq_true, if_false]; rfl) ?_))
  refine wWh (I := fun s L H => L = [some (.ref 4), some (.int (nI (d * 8))), some (.int (nI (exA w d s))), some (.int (nI s))] ∧ H = hs n σ) (e := mW w) ?_ ?_ ?_ 600 0 _ _ (by omega) (by omega) ⟨rfl, rfl⟩
  · rintro s _ _ ⟨rfl, rfl⟩ hi
    have : σ 4 5 = nI (mW w) := hC.cm.trans hm.1
    simp only [e_fI, e_fLd, e_fLr, e_fB, e_fD, e_fC, e_fT, e_fAnd, e_fOr, e_fNot, e_fCC, e_fIf, e_gI, e_gR, e_aI, e_aR, e_aN, e_cV, e_cS, e_fNil, e_fAi, e_fAr, e_sSeq, e_sSkip, e_sSt, e_sSr, e_sInc, e_sRI, e_sRR, e_sRV, e_sIf, e_sCall, e_sPI, e_sPZ, e_sPR, e_sPO, e_sAI, e_sAZ, e_sAO, e_sAR, e_sPopI, e_sPopR, e_sCopy, e_mI, e_mZ, e_mR, e_mV, jAdd_n, jMul_n, z0, z1, Option.bind_some, List.getElem?_cons_zero, List.getElem?_cons_succ, List.set_cons_zero, List.set_cons_succ, eq_self, if_true, ite_and, ite_or, ite_I, ite_bI, ite_bJ, bI_ne, bI_01, List.cons_append, List.nil_append, Bool.false_eq_true, if_false, gT4_5 h, this, jLt, nI_ltI (show s < 2 ^ 31 by omega) (show mW w < 2 ^ 31 by omega)]
  · rintro s _ _ ⟨rfl, rfl⟩ hi
    obtain ⟨v4, v5, v6, v7, v8, ho, hi2, hp⟩ := hW.im hi
    have c7 : σ 7 s = nI (pI w s) := (hC.2.2.2.2.1 4 s (by unfold celV; omega)).trans v4
    have c8 : σ 8 s = nI (pI w s + oI w s) := (hC.2.2.2.2.1 5 s (by unfold celV; omega)).trans v5
    have c9 : σ 9 s = nI (pI w s + oI w s + iI w s) := (hC.2.2.2.2.1 8 s (by unfold celV; omega)).trans v8
    have m1 : decide (max (pI w s) (d * 8) < min (pI w s + oI w s) (d * 8 + 8)) = liB (pI w s) (oI w s) d := decide_eq_decide.mpr (by omega)
    have m2 : decide (max (pI w s + oI w s) (d * 8) < min (pI w s + oI w s + iI w s) (d * 8 + 8)) = liB (pI w s + oI w s) (iI w s) d := decide_eq_decide.mpr (by omega)
    have q1 := q_I_meet (n := n) (σ := σ) (f := pI w s) (e := pI w s + oI w s) (a := d * 8) (by omega) (by omega) (by omega)
    have q2 := q_I_meet (n := n) (σ := σ) (f := pI w s + oI w s) (e := pI w s + oI w s + iI w s) (a := d * 8) (by omega) (by omega) (by omega)
    rw [m1] at q1
    rw [m2] at q2
    have ee : exA w d (s + 1) = exA w d s + ((if liB (pI w s) (oI w s) d = true then 2 else 0) + (if liB (pI w s + oI w s) (iI w s) d = true then 1 else 0)) := rfl
    rw [ee]
    refine wSeq (wSeq (wMono (Q' := fun L1 h1 => L1 = [some (.ref 4), some (.int (nI (d * 8))), some (.int (nI (exA w d s + (if liB (pI w s) (oI w s) d = true then 2 else 0)))), some (.int (nI s))] ∧ h1 = hs n σ) ?_ ?_ (fun _ _ q => q)))
    · refine wIf (by simp only [e_fI, e_fLd, e_fLr, e_fB, e_fD, e_fC, e_fT, e_fAnd, e_fOr, e_fNot, e_fCC, e_fIf, e_gI, e_gR, e_aI, e_aR, e_aN, e_cV, e_cS, e_fNil, e_fAi, e_fAr, e_sSeq, e_sSkip, e_sSt, e_sSr, e_sInc, e_sRI, e_sRR, e_sRV, e_sIf, e_sCall, e_sPI, e_sPZ, e_sPR, e_sPO, e_sAI, e_sAZ, e_sAO, e_sAR, e_sPopI, e_sPopR, e_sCopy, e_mI, e_mZ, e_mR, e_mV, jAdd_n, jMul_n, z0, z1, Option.bind_some, List.getElem?_cons_zero, List.getElem?_cons_succ, List.set_cons_zero, List.set_cons_succ, eq_self, if_true, ite_and, ite_or, ite_I, ite_bI, ite_bJ, bI_ne, bI_01, List.cons_append, List.nil_append, Bool.false_eq_true, if_false, gT4_2 h, gT4_3 h, iT7 h (show s < 6 by omega), iT8 h (show s < 6 by omega), c7, c8, q1]; rfl) (fun hb => ?_) (fun hb => ?_)
      · refine wS_l (by simp only [e_fI, e_fLd, e_fLr, e_fB, e_fD, e_fC, e_fT, e_fAnd, e_fOr, e_fNot, e_fCC, e_fIf, e_gI, e_gR, e_aI, e_aR, e_aN, e_cV, e_cS, e_fNil, e_fAi, e_fAr, e_sSeq, e_sSkip, e_sSt, e_sSr, e_sInc, e_sRI, e_sRR, e_sRV, e_sIf, e_sCall, e_sPI, e_sPZ, e_sPR, e_sPO, e_sAI, e_sAZ, e_sAO, e_sAR, e_sPopI, e_sPopR, e_sCopy, e_mI, e_mZ, e_mR, e_mV, jAdd_n, jMul_n, z0, z1, Option.bind_some, List.getElem?_cons_zero, List.getElem?_cons_succ, List.set_cons_zero, List.set_cons_succ, eq_self, if_true, ite_and, ite_or, ite_I, ite_bI, ite_bJ, bI_ne, bI_01, List.cons_append, List.nil_append, Bool.false_eq_true, if_false, nI_add]; rfl) ?_
        rw [if_pos hb]
        exact ⟨rfl, rfl⟩
      · refine wS_l rfl ?_
        rw [hb, if_neg Bool.false_ne_true]
        exact ⟨rfl, rfl⟩
    · rintro _ _ ⟨rfl, rfl⟩
      refine wIf (by simp only [e_fI, e_fLd, e_fLr, e_fB, e_fD, e_fC, e_fT, e_fAnd, e_fOr, e_fNot, e_fCC, e_fIf, e_gI, e_gR, e_aI, e_aR, e_aN, e_cV, e_cS, e_fNil, e_fAi, e_fAr, e_sSeq, e_sSkip, e_sSt, e_sSr, e_sInc, e_sRI, e_sRR, e_sRV, e_sIf, e_sCall, e_sPI, e_sPZ, e_sPR, e_sPO, e_sAI, e_sAZ, e_sAO, e_sAR, e_sPopI, e_sPopR, e_sCopy, e_mI, e_mZ, e_mR, e_mV, jAdd_n, jMul_n, z0, z1, Option.bind_some, List.getElem?_cons_zero, List.getElem?_cons_succ, List.set_cons_zero, List.set_cons_succ, eq_self, if_true, ite_and, ite_or, ite_I, ite_bI, ite_bJ, bI_ne, bI_01, List.cons_append, List.nil_append, Bool.false_eq_true, if_false, gT4_3 h, gT4_4 h, iT8 h (show s < 6 by omega), iT9 h (show s < 6 by omega), c8, c9, q2]; rfl) (fun hb => ?_) (fun hb => ?_)
      · refine wS_l (by simp only [e_fI, e_fLd, e_fLr, e_fB, e_fD, e_fC, e_fT, e_fAnd, e_fOr, e_fNot, e_fCC, e_fIf, e_gI, e_gR, e_aI, e_aR, e_aN, e_cV, e_cS, e_fNil, e_fAi, e_fAr, e_sSeq, e_sSkip, e_sSt, e_sSr, e_sInc, e_sRI, e_sRR, e_sRV, e_sIf, e_sCall, e_sPI, e_sPZ, e_sPR, e_sPO, e_sAI, e_sAZ, e_sAO, e_sAR, e_sPopI, e_sPopR, e_sCopy, e_mI, e_mZ, e_mR, e_mV, jAdd_n, jMul_n, z0, z1, Option.bind_some, List.getElem?_cons_zero, List.getElem?_cons_succ, List.set_cons_zero, List.set_cons_succ, eq_self, if_true, ite_and, ite_or, ite_I, ite_bI, ite_bJ, bI_ne, bI_01, List.cons_append, List.nil_append, Bool.false_eq_true, if_false, nI_add]; rfl) ?_
        refine wS_l (by simp only [e_fI, e_fLd, e_fLr, e_fB, e_fD, e_fC, e_fT, e_fAnd, e_fOr, e_fNot, e_fCC, e_fIf, e_gI, e_gR, e_aI, e_aR, e_aN, e_cV, e_cS, e_fNil, e_fAi, e_fAr, e_sSeq, e_sSkip, e_sSt, e_sSr, e_sInc, e_sRI, e_sRR, e_sRV, e_sIf, e_sCall, e_sPI, e_sPZ, e_sPR, e_sPO, e_sAI, e_sAZ, e_sAO, e_sAR, e_sPopI, e_sPopR, e_sCopy, e_mI, e_mZ, e_mR, e_mV, jAdd_n, jMul_n, z0, z1, Option.bind_some, List.getElem?_cons_zero, List.getElem?_cons_succ, List.set_cons_zero, List.set_cons_succ, eq_self, if_true, ite_and, ite_or, ite_I, ite_bI, ite_bJ, bI_ne, bI_01, List.cons_append, List.nil_append, Bool.false_eq_true, if_false, nI_add]; rfl) ?_
        rw [if_pos hb, Nat.add_assoc]
        exact ⟨rfl, rfl⟩
      · refine wS_l rfl ?_
        refine wS_l (by simp only [e_fI, e_fLd, e_fLr, e_fB, e_fD, e_fC, e_fT, e_fAnd, e_fOr, e_fNot, e_fCC, e_fIf, e_gI, e_gR, e_aI, e_aR, e_aN, e_cV, e_cS, e_fNil, e_fAi, e_fAr, e_sSeq, e_sSkip, e_sSt, e_sSr, e_sInc, e_sRI, e_sRR, e_sRV, e_sIf, e_sCall, e_sPI, e_sPZ, e_sPR, e_sPO, e_sAI, e_sAZ, e_sAO, e_sAR, e_sPopI, e_sPopR, e_sCopy, e_mI, e_mZ, e_mR, e_mV, jAdd_n, jMul_n, z0, z1, Option.bind_some, List.getElem?_cons_zero, List.getElem?_cons_succ, List.set_cons_zero, List.set_cons_succ, eq_self, if_true, ite_and, ite_or, ite_I, ite_bI, ite_bJ, bI_ne, bI_01, List.cons_append, List.nil_append, Bool.false_eq_true, if_false, nI_add]; rfl) ?_
        rw [hb, if_neg Bool.false_ne_true, Nat.add_zero]
        exact ⟨rfl, rfl⟩
  · rintro _ _ ⟨rfl, rfl⟩
    refine wS_r (by simp only [e_fI, e_fLd, e_fLr, e_fB, e_fD, e_fC, e_fT, e_fAnd, e_fOr, e_fNot, e_fCC, e_fIf, e_gI, e_gR, e_aI, e_aR, e_aN, e_cV, e_cS, e_fNil, e_fAi, e_fAr, e_sSeq, e_sSkip, e_sSt, e_sSr, e_sInc, e_sRI, e_sRR, e_sRV, e_sIf, e_sCall, e_sPI, e_sPZ, e_sPR, e_sPO, e_sAI, e_sAZ, e_sAO, e_sAR, e_sPopI, e_sPopR, e_sCopy, e_mI, e_mZ, e_mR, e_mV, jAdd_n, jMul_n, z0, z1, Option.bind_some, List.getElem?_cons_zero, List.getElem?_cons_succ, List.set_cons_zero, List.set_cons_succ, eq_self, if_true, ite_and, ite_or, ite_I, ite_bI, ite_bJ, bI_ne, bI_01, List.cons_append, List.nil_append, Bool.false_eq_true, if_false]; rfl) ?_
    exact ⟨rfl, rfl⟩
theorem q_R_lies {p m d : Nat} (hp : p < 1000) (hm : m < 1000) (hd : d < 3) : G_R_lies [.int (nI p), .int (nI m), .int (nI d)] (hs n σ) = some (bI (liB p m d), hs n σ) := by
  refine mZ_q (Nat.le_of_ble_eq_true rfl) ?_
  simp only [jx_L0, List.map_cons, List.map_nil, List.length_cons, List.length_nil, Nat.reduceAdd, Nat.reduceSub, List.replicate, List.cons_append, List.nil_append]
  unfold P_R_lies
  have e : (jGt (nI m) 0 && jLt (nI p) (nI (8 * d + 8)) && jGt (nI (p + m)) (nI (8 * d))) = liB p m d := by
    rw [← nI_0]
    unfold jGt jLt liB
    rw [← Bool.decide_and, ← Bool.decide_and, decide_eq_decide, nI_ltI (by omega) (by omega), nI_ltI (by omega) (by omega), nI_ltI (by omega) (by omega)]
    omega
  refine wS_r (by simp only [e_fI, e_fLd, e_fLr, e_fB, e_fD, e_fC, e_fT, e_fAnd, e_fOr, e_fNot, e_fCC, e_fIf, e_gI, e_gR, e_aI, e_aR, e_aN, e_cV, e_cS, e_fNil, e_fAi, e_fAr, e_sSeq, e_sSkip, e_sSt, e_sSr, e_sInc, e_sRI, e_sRR, e_sRV, e_sIf, e_sCall, e_sPI, e_sPZ, e_sPR, e_sPO, e_sAI, e_sAZ, e_sAO, e_sAR, e_sPopI, e_sPopR, e_sCopy, e_mI, e_mZ, e_mR, e_mV, jAdd_n, jMul_n, z0, z1, Option.bind_some, List.getElem?_cons_zero, List.getElem?_cons_succ, List.set_cons_zero, List.set_cons_succ, eq_self, if_true, ite_and, ite_or, ite_I, ite_bI, ite_bJ, bI_ne, bI_01, List.cons_append, List.nil_append, Bool.false_eq_true, if_false, e]; rfl) ?_
  exact ⟨rfl, rfl⟩
theorem q_R_expected {d : Nat} (h : okB n) (hR : CPr σ w) (hW : okW w) (hd : d < 3) : G_R_expected [.ref 26, .int (nI d)] (hs n σ) = some (nI (exA w d (mW w)), hs n σ) := by
  have hm := mW_e hW
  have hs24 := (sW_e hW).2
  refine mI_q (Nat.le_of_ble_eq_true rfl) ?_
  simp only [jx_L0, List.map_cons, List.map_nil, List.length_cons, List.length_nil, Nat.reduceAdd, Nat.reduceSub, List.replicate, List.cons_append, List.nil_append]
  unfold P_R_expected
  refine wSeq (wS_l (by simp only [e_fI, e_fLd, e_fLr, e_fB, e_fD, e_fC, e_fT, e_fAnd, e_fOr, e_fNot, e_fCC, e_fIf, e_gI, e_gR, e_aI, e_aR, e_aN, e_cV, e_cS, e_fNil, e_fAi, e_fAr, e_sSeq, e_sSkip, e_sSt, e_sSr, e_sInc, e_sRI, e_sRR, e_sRV, e_sIf, e_sCall, e_sPI, e_sPZ, e_sPR, e_sPO, e_sAI, e_sAZ, e_sAO, e_sAR, e_sPopI, e_sPopR, e_sCopy, e_mI, e_mZ, e_mR, e_mV, jAdd_n, jMul_n, z0, z1, Option.bind_some, List.getElem?_cons_zero, List.getElem?_cons_succ, List.set_cons_zero, List.set_cons_succ, eq_self, if_true, ite_and, ite_or, ite_I, ite_bI, ite_bJ, bI_ne, bI_01, List.cons_append, List.nil_append, Bool.false_eq_true, if_false]; rfl) ?_)
  refine wSeq (wSeq (wS_l (by simp only [e_fI, e_fLd, e_fLr, e_fB, e_fD, e_fC, e_fT, e_fAnd, e_fOr, e_fNot, e_fCC, e_fIf, e_gI, e_gR, e_aI, e_aR, e_aN, e_cV, e_cS, e_fNil, e_fAi, e_fAr, e_sSeq, e_sSkip, e_sSt, e_sSr, e_sInc, e_sRI, e_sRR, e_sRV, e_sIf, e_sCall, e_sPI, e_sPZ, e_sPR, e_sPO, e_sAI, e_sAZ, e_sAO, e_sAR, e_sPopI, e_sPopR, e_sCopy, e_mI, e_mZ, e_mR, e_mV, jAdd_n, jMul_n, z0, z1, Option.bind_some, List.getElem?_cons_zero, List.getElem?_cons_succ, List.set_cons_zero, List.set_cons_succ, eq_self, if_true, ite_and, ite_or, ite_I, ite_bI, ite_bJ, bI_ne, bI_01, List.cons_append, List.nil_append, Bool.false_eq_true, if_false]; rfl) ?_))
  refine wWh (I := fun s L H => L = [some (.ref 26), some (.int (nI d)), some (.int (nI (exA w d s))), some (.int (nI s))] ∧ H = hs n σ) (e := mW w) ?_ ?_ ?_ 600 0 _ _ (by omega) (by omega) ⟨rfl, rfl⟩
  · rintro s _ _ ⟨rfl, rfl⟩ hi
    have : σ 26 33 = nI (mW w) := hR.cm.trans hm.1
    simp only [e_fI, e_fLd, e_fLr, e_fB, e_fD, e_fC, e_fT, e_fAnd, e_fOr, e_fNot, e_fCC, e_fIf, e_gI, e_gR, e_aI, e_aR, e_aN, e_cV, e_cS, e_fNil, e_fAi, e_fAr, e_sSeq, e_sSkip, e_sSt, e_sSr, e_sInc, e_sRI, e_sRR, e_sRV, e_sIf, e_sCall, e_sPI, e_sPZ, e_sPR, e_sPO, e_sAI, e_sAZ, e_sAO, e_sAR, e_sPopI, e_sPopR, e_sCopy, e_mI, e_mZ, e_mR, e_mV, jAdd_n, jMul_n, z0, z1, Option.bind_some, List.getElem?_cons_zero, List.getElem?_cons_succ, List.set_cons_zero, List.set_cons_succ, eq_self, if_true, ite_and, ite_or, ite_I, ite_bI, ite_bJ, bI_ne, bI_01, List.cons_append, List.nil_append, Bool.false_eq_true, if_false, gT26_33 h, this, jLt, nI_ltI (show s < 2 ^ 31 by omega) (show mW w < 2 ^ 31 by omega)]
  · rintro s _ _ ⟨rfl, rfl⟩ hi
    obtain ⟨v4, v5, v6, v7, v8, ho, hi2, hp⟩ := hW.im hi
    have c52 : σ 52 s = nI (pI w s) := (hR.1 4 s (by unfold celQ; omega)).trans v4
    have c53 : σ 53 s = nI (pI w s + oI w s) := (hR.1 5 s (by unfold celQ; omega)).trans v5
    have c54 : σ 54 s = nI (oI w s) := (hR.1 6 s (by unfold celQ; omega)).trans v6
    have c55 : σ 55 s = nI (iI w s) := (hR.1 7 s (by unfold celQ; omega)).trans v7
    have q1 := q_R_lies (n := n) (σ := σ) (p := pI w s) (m := oI w s) (d := d) (by omega) (by omega) hd
    have q2 := q_R_lies (n := n) (σ := σ) (p := pI w s + oI w s) (m := iI w s) (d := d) (by omega) (by omega) hd
    have i2 : ∀ b : Bool, (if b = true then nI 2 else nI 0) = nI (if b = true then 2 else 0) := fun b => by cases b <;> rfl
    have i1 : ∀ b : Bool, bI b = nI (if b = true then 1 else 0) := fun b => by cases b <;> rfl
    refine wSeq (wS_l (by simp only [e_fI, e_fLd, e_fLr, e_fB, e_fD, e_fC, e_fT, e_fAnd, e_fOr, e_fNot, e_fCC, e_fIf, e_gI, e_gR, e_aI, e_aR, e_aN, e_cV, e_cS, e_fNil, e_fAi, e_fAr, e_sSeq, e_sSkip, e_sSt, e_sSr, e_sInc, e_sRI, e_sRR, e_sRV, e_sIf, e_sCall, e_sPI, e_sPZ, e_sPR, e_sPO, e_sAI, e_sAZ, e_sAO, e_sAR, e_sPopI, e_sPopR, e_sCopy, e_mI, e_mZ, e_mR, e_mV, jAdd_n, jMul_n, z0, z1, Option.bind_some, List.getElem?_cons_zero, List.getElem?_cons_succ, List.set_cons_zero, List.set_cons_succ, eq_self, if_true, ite_and, ite_or, ite_I, ite_bI, ite_bJ, bI_ne, bI_01, List.cons_append, List.nil_append, Bool.false_eq_true, if_false, gT26_35 h, gT26_36 h, gT26_37 h, gT26_38 h, iT52 h (show s < 6 by omega), iT53 h (show s < 6 by omega), iT54 h (show s < 6 by omega), iT55 h (show s < 6 by omega), c52, c53, c54, c55, q1, q2]; rfl) ?_)
    refine wS_l (by simp only [e_fI, e_fLd, e_fLr, e_fB, e_fD, e_fC, e_fT, e_fAnd, e_fOr, e_fNot, e_fCC, e_fIf, e_gI, e_gR, e_aI, e_aR, e_aN, e_cV, e_cS, e_fNil, e_fAi, e_fAr, e_sSeq, e_sSkip, e_sSt, e_sSr, e_sInc, e_sRI, e_sRR, e_sRV, e_sIf, e_sCall, e_sPI, e_sPZ, e_sPR, e_sPO, e_sAI, e_sAZ, e_sAO, e_sAR, e_sPopI, e_sPopR, e_sCopy, e_mI, e_mZ, e_mR, e_mV, jAdd_n, jMul_n, z0, z1, Option.bind_some, List.getElem?_cons_zero, List.getElem?_cons_succ, List.set_cons_zero, List.set_cons_succ, eq_self, if_true, ite_and, ite_or, ite_I, ite_bI, ite_bJ, bI_ne, bI_01, List.cons_append, List.nil_append, Bool.false_eq_true, if_false, nI_add]; rfl) ?_
    refine ⟨?_, rfl⟩
    rw [i2, i1, jAdd_n, jAdd_n]
    rfl
  · rintro _ _ ⟨rfl, rfl⟩
    refine wS_r (by simp only [e_fI, e_fLd, e_fLr, e_fB, e_fD, e_fC, e_fT, e_fAnd, e_fOr, e_fNot, e_fCC, e_fIf, e_gI, e_gR, e_aI, e_aR, e_aN, e_cV, e_cS, e_fNil, e_fAi, e_fAr, e_sSeq, e_sSkip, e_sSt, e_sSr, e_sInc, e_sRI, e_sRR, e_sRV, e_sIf, e_sCall, e_sPI, e_sPZ, e_sPR, e_sPO, e_sAI, e_sAZ, e_sAO, e_sAR, e_sPopI, e_sPopR, e_sCopy, e_mI, e_mZ, e_mR, e_mV, jAdd_n, jMul_n, z0, z1, Option.bind_some, List.getElem?_cons_zero, List.getElem?_cons_succ, List.set_cons_zero, List.set_cons_succ, eq_self, if_true, ite_and, ite_or, ite_I, ite_bI, ite_bJ, bI_ne, bI_01, List.cons_append, List.nil_append, Bool.false_eq_true, if_false]; rfl) ?_
    exact ⟨rfl, rfl⟩
end SEC
