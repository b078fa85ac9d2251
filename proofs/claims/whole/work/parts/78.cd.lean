/-! the program's calls: the latest frame passes the line -/
def rch (B : Nat → Int32) : Nat → Nat
  | 0 => 0
  | k + 1 => if rch B k < k then rch B k else if jNe (B k) 0 = true then k else k + 1
theorem rch_R (B : Nat → Int32) : ∀ k, isR B k (rch B k)
  | 0 => ⟨Nat.le_refl _, fun _ h => by unfold rch at h; omega, fun h => by omega⟩
  | k + 1 => by
    obtain ⟨h1, h2, h3⟩ := rch_R B k
    unfold rch
    by_cases q : rch B k < k
    · rw [if_pos q]
      exact ⟨by omega, h2, fun _ => h3 q⟩
    · have e : rch B k = k := by omega
      rw [e] at h2
      rw [if_neg q]
      cases b : jNe (B k) 0 with
      | true =>
        rw [if_pos rfl]
        exact ⟨by omega, h2, fun _ => b⟩
      | false =>
        rw [if_neg Bool.false_ne_true]
        refine ⟨Nat.le_refl _, fun s hs => ?_, fun h => by omega⟩
        rcases Nat.lt_succ_iff_lt_or_eq.mp hs with c | c
        · exact h2 s c
        · rw [c]; exact b
theorem isR.cg {B C : Nat → Int32} {k r : Nat} (h : isR B k r) (e : ∀ i, i < k → C i = B i) : isR C k r := by
  refine ⟨h.1, fun s hs => ?_, fun hr => ?_⟩
  · rw [e s (by have := h.1; omega)]
    exact h.2.1 s hs
  · rw [e r hr]
    exact h.2.2 hr
def rW (w : wd) : Nat := rch (vW w 1) (kW w)
def dW (w : wd) : Nat := dng (vW w 0 1) (rW w) (kW w)
def tW (w : wd) : Bool := rtn (vW w 0 1) (rW w) (kW w)
/-- the latest frame has passed the line -/
def sndW (w : wd) : wd := ((runL w.1 w.2.2.1 (zW w) (dW w)).1, w.2.1, (runL w.1 w.2.2.1 (zW w) (dW w)).2, up (up (vW w) 0 1 (-1)) 0 2 (bI (tW w)))
/-- another frame is the latest one -/
def frW (w : wd) (z : Nat) (G : Nat → sg) : wd := (w.1, w.2.1, G, up (vW w) 0 5 (nI z))
section CDC
variable {n X : Nat} {σ : sg} {w : wd}
theorem CPc.fr {τ : sg} {z : Nat} {G : Nat → sg} (hC : CPc n X σ w) (r : ∀ a, a ≠ X → ¬ (X + 2 ≤ a ∧ a < X + 8) → τ a = σ a) (ez : τ X 1 = nI z) (hz : z ≤ 3) (hD : ∀ e, e < z → RD τ (X + 2 + 2 * e) (G e)) : CPc n X τ (frW w z G) := by
  obtain ⟨h1, ⟨hX, hy3, hz3⟩, h2, h3, h4, h5, h6, h7⟩ := hC
  have hb10 : X = 10 ∨ X = 18 := hX
  have e5 : zW (frW w z G) = z := by
    unfold zW frW vW
    show (nI z).toNatClampNeg = _
    exact nC_n (by omega)
  have ek : kW (frW w z G) = kW w := rfl
  have ey : yW (frW w z G) = yW w := rfl
  unfold CPc
  rw [e5, ek, ey]
  refine ⟨h1, ⟨hX, hy3, hz⟩, by rw [r 0 (by omega) (by omega)]; exact h2, by rw [r 0 (by omega) (by omega)]; exact h3, fun j i hc => ?_, fun t ht => (h5 t ht).ot (fun j _ => r _ (by have := sa_ge t j; omega) (by have := sa_ge t j; omega)), fun e he => (h6 e he).keep (r _ (by omega) (by omega)) (r _ (by omega) (by omega)), hD⟩
  show _ = up (vW w) 0 5 (nI z) j i
  by_cases q : j = 0 ∧ i = 5
  · obtain ⟨rfl, rfl⟩ := q
    exact ez
  · unfold up
    rw [if_neg q]
    have ne : cva X j i ≠ X := by
      have c := cv_c (X := X) hc
      generalize cva X j i = x at c
      omega
    rw [r _ ne (by have := cva_b hX hc; omega)]
    exact h4 j i hc
theorem c_carry {L : hp_L} (hC : CPc n X σ w) (hW : okW w) (hL : L[0]? = some (some (.ref 0))) : ∃ τ, sPZ 7 4 (fLr 0) (cV 3 (fAr (gR 7 0 (fLr 0)) (fAr (gR 7 3 (fLr 0)) (fNil))) G_N_carry) L (hs n σ) = some (.inl (L, hs n τ)) ∧ CPc n X τ (sndW w) ∧ FK σ τ := by
  have h := hC.B
  have hk := hW.2.1
  have hz := hW.z
  have hC' := hC
  obtain ⟨h1, ⟨hX, hy3, hz3⟩, h2, h3, h4, h5, h6, h7⟩ := hC
  have hb10 : X = 10 ∨ X = 18 := hX
  have hr : isR (σ 3) (kW w) (rW w) := (rch_R (vW w 1) (kW w)).cg (fun i hi => hC'.br (by omega))
  obtain ⟨τ, e, r1, r2, r3⟩ := q_N_carry (n := n) (X := X) (k := kW w) (z := zW w) (A := w.1) (G := w.2.2.1) (p := vW w 0 1) (r := rW w) (by omega) hX (hC'.ck.trans hW.1) hk hC'.cp hW.2.2.1 (hC'.cz.trans hz.1) hz.2 hr h5 (fun t ht => (hW.u ht).1) h7 (fun e he => hW.pz he)
  have e1 : cV 3 (fAr (gR 7 0 (fLr 0)) (fAr (gR 7 3 (fLr 0)) (fNil))) G_N_carry L (hs n σ) = some (bI (tW w), hs n τ) := by
    simp only [e_fI, e_fLd, e_fLr, e_fB, e_fD, e_fC, e_fT, e_fAnd, e_fOr, e_fNot, e_fCC, e_fIf, e_gI, e_gR, e_aI, e_aR, e_aN, e_cV, e_cS, e_fNil, e_fAi, e_fAr, e_sSeq, e_sSkip, e_sSt, e_sSr, e_sInc, e_sRI, e_sRR, e_sRV, e_sIf, e_sCall, e_sPI, e_sPZ, e_sPR, e_sPO, e_sAI, e_sAZ, e_sAO, e_sAR, e_sPopI, e_sPopR, e_sCopy, e_mI, e_mZ, e_mR, e_mV, jAdd_n, jMul_n, z0, z1, Option.bind_some, List.getElem?_cons_zero, List.getElem?_cons_succ, List.set_cons_zero, List.set_cons_succ, eq_self, if_true, ite_and, ite_or, ite_I, ite_bI, ite_bJ, bI_ne, bI_01, List.cons_append, List.nil_append, Bool.false_eq_true, if_false, hL, gT0_0 h, hC'.g3, kT1 h]
    exact e
  refine ⟨up τ 0 4 (bI (tW w)), ?_, ?_, ?_⟩
  · have e0 : fLr 0 L (hs n σ) = some (0, hs n σ) := by rw [e_fLr, hL]
    rw [e_sPZ, e0, Option.bind_some]
    dsimp only
    rw [e1, Option.bind_some]
    dsimp only
    rw [if_pos (bI_01 _), pT0_4 h]
    rfl
  · have ek : kW (sndW w) = kW w := rfl
    have ey : yW (sndW w) = yW w := rfl
    have ez : zW (sndW w) = zW w := rfl
    have lo : ∀ a, a < 58 → a < X + 2 ∨ X + 8 ≤ a → a ≠ 0 → up τ 0 4 (bI (tW w)) a = up σ 1 3 (-1) a := fun a g1 g2 g3 => by rw [up_ne g3]; exact r1 a g1 g2
    have z0 : τ 0 = σ 0 := by rw [r1 0 (by omega) (by omega), up_ne (by omega)]
    unfold CPc
    rw [ek, ey, ez]
    refine ⟨h1, ⟨hX, hy3, hz3⟩, ?_, ?_, fun j i hc => ?_, fun t ht => (r2 t ht).ot (fun j _ => up_ne (by have := sa_ge t j; omega)), fun e he => ?_, fun e he => (r3 e he).keep (up_ne (by omega)) (up_ne (by omega))⟩
    · show (if 0 = 0 ∧ 2 = 4 then _ else τ 0 2) = _
      rw [if_neg (by omega), z0]
      exact h2
    · show (if 0 = 0 ∧ 3 = 4 then _ else τ 0 3) = _
      rw [if_neg (by omega), z0]
      exact h3
    · have u := ((h4.u (v := -1) hX (show celV 0 1 by unfold celV; omega)).u (v := bI (tW w)) hX (show celV 0 2 by unfold celV; omega)) j i hc
      show _ = up (up (vW w) 0 1 (-1)) 0 2 (bI (tW w)) j i
      rw [← u]
      show up τ 0 4 (bI (tW w)) (cva X j i) (cvi j i) = up (up σ 1 3 (-1)) 0 4 (bI (tW w)) (cva X j i) (cvi j i)
      have cb := cva_b hX hc
      by_cases q : cva X j i = 0
      · rw [q]
        unfold up
        by_cases q2 : 0 = 0 ∧ cvi j i = 4
        · rw [if_pos q2, if_pos q2]
        · rw [if_neg q2, if_neg q2, z0]
          rfl
      · rw [up_ne q, up_ne q, r1 _ (by omega) (by omega)]
    · exact (h6 e he).keep ((lo _ (by omega) (by omega) (by omega)).trans (up_ne (by omega))) ((lo _ (by omega) (by omega) (by omega)).trans (up_ne (by omega)))
  · intro a g1 g2
    rw [up_ne (by omega), r1 a (by omega) (by omega), up_ne (by omega)]
theorem q_L_startFrame {c a o l : Int32} (hC : CPc n X σ w) : ∃ τ, G_L_startFrame [.ref 0, .int c, .int a, .int o, .int l] (hs n σ) = some (X + 2, hs n τ) ∧ RD τ (X + 2) (nwG c a o l) ∧ τ X 1 = nI 1 ∧ (∀ b, b ≠ X → ¬ (X + 2 ≤ b ∧ b < X + 8) → τ b = σ b) := by
  have h := hC.B
  have hX := hC.ix
  have hb10 : X = 10 ∨ X = 18 := hX
  refine mR_t (Nat.le_of_ble_eq_true rfl) ?_
  simp only [jx_L0, List.map_cons, List.map_nil, List.length_cons, List.length_nil, Nat.reduceAdd, Nat.reduceSub, List.replicate, List.cons_append, List.nil_append]
  unfold P_L_startFrame
  refine wSeq (wS_l (by simp only [e_fI, e_fLd, e_fLr, e_fB, e_fD, e_fC, e_fT, e_fAnd, e_fOr, e_fNot, e_fCC, e_fIf, e_gI, e_gR, e_aI, e_aR, e_aN, e_cV, e_cS, e_fNil, e_fAi, e_fAr, e_sSeq, e_sSkip, e_sSt, e_sSr, e_sInc, e_sRI, e_sRR, e_sRV, e_sIf, e_sCall, e_sPI, e_sPZ, e_sPR, e_sPO, e_sAI, e_sAZ, e_sAO, e_sAR, e_sPopI, e_sPopR, e_sCopy, e_mI, e_mZ, e_mR, e_mV, jAdd_n, jMul_n, z0, z1, Option.bind_some, List.getElem?_cons_zero, List.getElem?_cons_succ, List.set_cons_zero, List.set_cons_succ, eq_self, if_true, ite_and, ite_or, ite_I, ite_bI, ite_bJ, bI_ne, bI_01, List.cons_append, List.nil_append, Bool.false_eq_true, if_false, hC.g3, pX1 h hX]; rfl) ?_)
  obtain ⟨τ, e, r1, r2, r3⟩ := q_F_append (σ := up σ X 1 (nI 0)) (z := 0) (c := c) (a := a) (o := o) (l := l) h hX (by unfold up; rw [if_pos ⟨rfl, rfl⟩]) (by omega)
  have g3' : up σ X 1 (nI 0) 0 3 = nI X := by rw [up_ne (by omega)]; exact hC.2.2.2.1
  refine wS_r (by simp only [e_fI, e_fLd, e_fLr, e_fB, e_fD, e_fC, e_fT, e_fAnd, e_fOr, e_fNot, e_fCC, e_fIf, e_gI, e_gR, e_aI, e_aR, e_aN, e_cV, e_cS, e_fNil, e_fAi, e_fAr, e_sSeq, e_sSkip, e_sSt, e_sSr, e_sInc, e_sRI, e_sRR, e_sRV, e_sIf, e_sCall, e_sPI, e_sPZ, e_sPR, e_sPO, e_sAI, e_sAZ, e_sAO, e_sAR, e_sPopI, e_sPopR, e_sCopy, e_mI, e_mZ, e_mR, e_mV, jAdd_n, jMul_n, z0, z1, Option.bind_some, List.getElem?_cons_zero, List.getElem?_cons_succ, List.set_cons_zero, List.set_cons_succ, eq_self, if_true, ite_and, ite_or, ite_I, ite_bI, ite_bJ, bI_ne, bI_01, List.cons_append, List.nil_append, Bool.false_eq_true, if_false, gL3 h g3' (by omega), kX h hX, e]; rfl) ?_
  exact ⟨rfl, τ, rfl, r1, r2, fun b g1 g2 => (r3 b g1 (by omega) (by omega)).trans (up_ne g1)⟩
theorem CPc.d4 {e : Nat} (hC : CPc n X σ w) (hW : okW w) (he : e < zW w) : hp_g (hs n σ) (X + 2 + 2 * e) 0 4 = some (.int (w.2.2.1 e 0 4)) := by
  rw [gD hC.B (hC.ix.D (show e < 3 by have := hW.z.2; omega)) (show 4 < 5 by omega), (hC.2.2.2.2.2.2.2 e he).1 4 (by omega)]
end CDC
