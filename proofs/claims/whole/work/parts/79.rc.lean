/-! the reference's calls: a frame passes the line -/
/-- all but what the master knows of the image -/
def CP0 (σ : sg) (w : wd) : Prop := (σ 26 0 = vW w 0 0 ∧ σ 26 18 = vW w 0 4 ∧ σ 26 21 = vW w 0 1 ∧ ∀ i, i < 6 → σ 29 i = vW w 1 i) ∧ σ 26 20 = nI (if bW w = true then zW w else 0) ∧ (∀ t, t < kW w → RR σ t (w.1 t) ∧ ∃ m k, MD σ t m k ∧ mdA (w.1 t) m k) ∧ (∀ t, kW w ≤ t → t < 6 → RR σ t (fun _ _ => nI 0) ∧ σ 35 t = nI 0 ∧ σ 36 t = nI 0) ∧ (∀ e, e < yW w → RG σ e (w.2.1 e)) ∧ (bW w = true → ∀ e, e < zW w → RG σ (6 + e) (w.2.2.1 e))
def CIm (σ : sg) (w : wd) : Prop := ∀ j i, celQ w j i → j ≠ 0 ∨ i = 3 ∨ i = 6 ∨ i = 7 → j ≠ 1 → σ (rva j) (rvi j i) = vW w j i
def PC (a i : Nat) : Prop := 44 ≤ a ∧ a ≤ 48 ∧ 3 ≤ i ∧ i < 6 ∨ a = 49 ∧ 24 ≤ i ∧ i < 48 ∨ a = 26 ∧ i = 19
section RCC
variable {n : Nat} {σ τ : sg} {w : wd}
theorem CPr.s (h : CPr σ w) : CP0 σ w ∧ CIm σ w := ⟨⟨⟨h.ck, h.cy, h.cp, fun i hi => h.br hi⟩, h.2⟩, fun j i hc _ _ => h.1 j i hc⟩
theorem CP0.j (h : CP0 σ w) (k : CIm σ w) : CPr σ w := by
  refine ⟨fun j i hc => ?_, h.2⟩
  by_cases q : (j ≠ 0 ∨ i = 3 ∨ i = 6 ∨ i = 7) ∧ j ≠ 1
  · exact k j i hc q.1 q.2
  · have hc' := hc
    unfold celQ at hc'
    rcases (show j = 0 ∧ i = 0 ∨ j = 0 ∧ i = 1 ∨ j = 0 ∧ i = 4 ∨ j = 1 ∧ i < 6 by omega) with ⟨rfl, rfl⟩ | ⟨rfl, rfl⟩ | ⟨rfl, rfl⟩ | ⟨rfl, hi⟩
    · exact h.1.1
    · exact h.1.2.2.1
    · exact h.1.2.1
    · exact h.1.2.2.2 i hi
theorem CP0.p (h : CP0 σ w) (hF : FX PC σ τ) (hy : yW w ≤ 3) : CP0 τ w := by
  obtain ⟨⟨a1, a2, a3, a4⟩, h2, h3, h4, h5, h6⟩ := h
  have z : ∀ a i, a < 44 → ¬ (a = 26 ∧ i = 19) → τ a i = σ a i := fun a i g1 g2 => hF a i (fun k => by unfold PC at k; omega)
  have rr : ∀ t A, RR σ t A → RR τ t A := fun t A q => q.o hF (fun a i k1 k2 => by have := k1.b; unfold PC at k2; omega)
  refine ⟨⟨by rw [z 26 0 (by omega) (by omega)]; exact a1, by rw [z 26 18 (by omega) (by omega)]; exact a2, by rw [z 26 21 (by omega) (by omega)]; exact a3, fun i hi => by rw [z 29 i (by omega) (by omega)]; exact a4 i hi⟩, by rw [z 26 20 (by omega) (by omega)]; exact h2, fun t ht => ?_, fun t g1 g2 => ?_, fun e he => ?_, fun q e he => ?_⟩
  · obtain ⟨r, m, c, hm, ha⟩ := h3 t ht
    refine ⟨rr _ _ r, m, c, ?_, ha⟩
    unfold MD
    rw [z 34 t (by omega) (by omega), z 35 t (by omega) (by omega), z 36 t (by omega) (by omega)]
    exact hm
  · obtain ⟨r, e5, e6⟩ := h4 t g1 g2
    rw [z 35 t (by omega) (by omega), z 36 t (by omega) (by omega)]
    exact ⟨rr _ _ r, e5, e6⟩
  · exact (h5 e he).o hF (fun a i k1 k2 => by unfold PC at k2; rcases k1 with k1 | k1 <;> omega)
  · exact (h6 q e he).o hF (fun a i k1 k2 => by unfold PC at k2; rcases k1 with k1 | k1 <;> omega)
theorem CIm.p {P : Nat → Nat → Prop} (h : CIm σ w) (hF : FX P σ τ) (hP : ∀ a i, (a = 26 ∧ 32 ≤ i ∨ 52 ≤ a) → ¬ P a i) : CIm τ w := fun j i hc h1 h2 => by
  have c := rv_c hc
  rw [hF _ _ (hP _ _ (by omega))]
  exact h j i hc h1 h2
theorem CPr.p (h : CPr σ w) (hF : FX PC σ τ) (hy : yW w ≤ 3) : CPr τ w := (h.s.1.p hF hy).j (h.s.2.p hF (fun a i q k => by unfold PC at k; omega))
theorem r_travel0 {z : Nat} {G : Nat → sg} (h : okB n) (hR : CP0 σ w) (hW : okW w) (hG : ∀ e, e < z → RG σ (3 + e) (G e)) (hg : ∀ e, e < z → okP (G e)) (ez : σ 26 19 = nI z) (hz : z ≤ 3) : ∃ τ, G_R_travel [.ref 26] (hs n σ) = some (bI (tW w), hs n τ) ∧ CP0 τ (sndW (frW w z G)) ∧ FX (TC (kW w)) σ τ := by
  obtain ⟨⟨a1, a2, a3, a4⟩, h2, h3, h4, h5, h6⟩ := hR
  have hk := hW.2.1
  have hr : isR (σ 29) (kW w) (rW w) := (rch_R (vW w 1) (kW w)).cg (fun i hi => a4 i (by omega))
  obtain ⟨τ, e, r1, r2, r3, r4, r5⟩ := q_R_travel (n := n) (k := kW w) (z := z) (A := w.1) (G := G) (p := vW w 0 1) (r := rW w) h (a1.trans hW.1) hk a3 hW.2.2.1 ez hz hr (fun t ht => (h3 t ht).1) (fun t ht => (hW.u ht).1) (fun t ht => (hW.u ht).2.1) hG hg
  have ez' : zW (frW w z G) = z := zW_f hz
  have kp := runL_K (z := z) (fun t ht => (hW.u ht).1) hg (dW w) (dW_le hW)
  have ewW : dW (frW w z G) = dW w := rfl
  refine ⟨τ, e, ⟨⟨?_, ?_, r5, fun i hi => ?_⟩, ?_, fun t ht => ?_, fun t g1 g2 => ?_, fun e' he => ?_, fun q e' he => ?_⟩, r1⟩
  · rw [r1 26 0 (fun k => by have := k.n; omega)]
    exact a1
  · rw [r1 26 18 (fun k => by have := k.n; omega)]
    exact a2
  · rw [r1 29 i (fun k => by have := k.n; omega)]
    exact a4 i hi
  · rw [bW_s]
    show τ 26 20 = nI (if tW w = true then zW (frW w z G) else 0)
    rw [ez']
    exact r4
  · obtain ⟨-, m, c, hm, ha⟩ := h3 t ht
    refine ⟨?_, m, c, ?_, ?_⟩
    · show RR τ t ((runL w.1 G (zW (frW w z G)) (dW (frW w z G))).1 t)
      rw [ez', ewW]
      exact r2 t ht
    · unfold MD
      rw [r1 34 t (fun k => by have := k.n; omega), r1 35 t (fun k => by have := k.n; omega), r1 36 t (fun k => by have := k.n; omega)]
      exact hm
    · show mdA ((runL w.1 G (zW (frW w z G)) (dW (frW w z G))).1 t) m c
      rw [ez', ewW]
      exact ha.e (kp t ht).2.1
  · have g1' : kW w ≤ t := g1
    obtain ⟨r, e5, e6⟩ := h4 t g1' g2
    rw [r1 35 t (fun k => by have := k.n; omega), r1 36 t (fun k => by have := k.n; omega)]
    refine ⟨r.o r1 (fun a i k1 k2 => ?_), e5, e6⟩
    have b := k1.b
    rcases k2 with ⟨s, hs', k2⟩ | k2 | k2 | k2 | k2 | k2
    · have := k1.s k2
      omega
    all_goals omega
  · have he' : e' < yW w := he
    have := hW.y.2
    exact (h5 e' he').o r1 (fun a i k1 k2 => by
      rcases k2 with ⟨s, -, k2⟩ | k2 | k2 | k2 | k2 | k2
      · have := k2.b
        rcases k1 with k1 | k1 <;> omega
      all_goals rcases k1 with k1 | k1 <;> omega)
  · rw [bW_s] at q
    have he' : e' < z := by
      have : e' < zW (frW w z G) := he
      rw [ez'] at this
      exact this
    show RG τ (6 + e') ((runL w.1 G (zW (frW w z G)) (dW (frW w z G))).2 e')
    rw [ez', ewW]
    exact r3 q e' he'
theorem r_travel {z : Nat} {G : Nat → sg} (h : okB n) (hR : CPr σ w) (hW : okW w) (hG : ∀ e, e < z → RG σ (3 + e) (G e)) (hg : ∀ e, e < z → okP (G e)) (ez : σ 26 19 = nI z) (hz : z ≤ 3) : ∃ τ, G_R_travel [.ref 26] (hs n σ) = some (bI (tW w), hs n τ) ∧ CPr τ (sndW (frW w z G)) ∧ FL σ τ := by
  obtain ⟨τ, e, r1, r2⟩ := r_travel0 h hR.s.1 hW hG hg ez hz
  refine ⟨τ, e, r1.j ?_, r2.L (fun a i k => by have := k.n; omega)⟩
  have := hR.s.2.p r2 (fun a i q k => by have := k.n; omega)
  intro j i hc g1 g2
  have hc2 : celQ w j i := hc
  rw [this j i hc2 g1 g2]
  show vW w j i = up (up (up (vW w) 0 5 (nI z)) 0 1 (-1)) 0 2 _ j i
  unfold up
  rw [if_neg (by omega), if_neg (by omega), if_neg (by omega)]
/-- the datagram of one byte that the reference sends -/
def sgG (c a o v : Int32) : sg := up (nwG c a o (nI 1)) 1 0 (jAnd v (nI 255))
theorem FX.d {d : Nat} (h : FX (DC d) σ τ) (h3 : 3 ≤ d) (h6 : d < 6) : FX PC σ τ := h.m (fun a i q => by unfold PC; rcases q with q | q <;> omega)
theorem r_single {c a o v : Int32} (h : okB n) (hR : CPr σ w) (hW : okW w) (hg : okP (sgG c a o v)) : ∃ τ, G_R_single [.ref 26, .int c, .int a, .int o, .int v] (hs n σ) = some (bI (tW w), hs n τ) ∧ CPr τ (sndW (frW w 1 (fun _ => sgG c a o v))) ∧ FL σ τ := by
  refine mZ_t (Nat.le_of_ble_eq_true rfl) ?_
  simp only [jx_L0, List.map_cons, List.map_nil, List.length_cons, List.length_nil, Nat.reduceAdd, Nat.reduceSub, List.replicate, List.cons_append, List.nil_append]
  unfold P_R_single
  obtain ⟨τ, eg, r1, r2⟩ := q_R_gram (σ := σ) (d := 3) (c := c) (a := a) (o := o) (l := nI 1) h (by omega)
  refine wSeq (wS_l (by simp only [e_fI, e_fLd, e_fLr, e_fB, e_fD, e_fC, e_fT, e_fAnd, e_fOr, e_fNot, e_fCC, e_fIf, e_gI, e_gR, e_aI, e_aR, e_aN, e_cV, e_cS, e_fNil, e_fAi, e_fAr, e_sSeq, e_sSkip, e_sSt, e_sSr, e_sInc, e_sRI, e_sRR, e_sRV, e_sIf, e_sCall, e_sPI, e_sPZ, e_sPR, e_sPO, e_sAI, e_sAZ, e_sAO, e_sAR, e_sPopI, e_sPopR, e_sCopy, e_mI, e_mZ, e_mR, e_mV, jAdd_n, jMul_n, z0, z1, Option.bind_some, List.getElem?_cons_zero, List.getElem?_cons_succ, List.set_cons_zero, List.set_cons_succ, eq_self, if_true, ite_and, ite_or, ite_I, ite_bI, ite_bJ, bI_ne, bI_01, List.cons_append, List.nil_append, Bool.false_eq_true, if_false, kT26 h, eg]; rfl) ?_)
  refine wSeq (wS_l (by simp only [e_fI, e_fLd, e_fLr, e_fB, e_fD, e_fC, e_fT, e_fAnd, e_fOr, e_fNot, e_fCC, e_fIf, e_gI, e_gR, e_aI, e_aR, e_aN, e_cV, e_cS, e_fNil, e_fAi, e_fAr, e_sSeq, e_sSkip, e_sSt, e_sSr, e_sInc, e_sRI, e_sRR, e_sRV, e_sIf, e_sCall, e_sPI, e_sPZ, e_sPR, e_sPO, e_sAI, e_sAZ, e_sAO, e_sAR, e_sPopI, e_sPopR, e_sCopy, e_mI, e_mZ, e_mR, e_mV, jAdd_n, jMul_n, z0, z1, Option.bind_some, List.getElem?_cons_zero, List.getElem?_cons_succ, List.set_cons_zero, List.set_cons_succ, eq_self, if_true, ite_and, ite_or, ite_I, ite_bI, ite_bJ, bI_ne, bI_01, List.cons_append, List.nil_append, Bool.false_eq_true, if_false, gT26_27 h, wT49 h (show 24 < 72 by omega)]; rfl) ?_)
  refine wSeq (wS_l (by simp only [e_fI, e_fLd, e_fLr, e_fB, e_fD, e_fC, e_fT, e_fAnd, e_fOr, e_fNot, e_fCC, e_fIf, e_gI, e_gR, e_aI, e_aR, e_aN, e_cV, e_cS, e_fNil, e_fAi, e_fAr, e_sSeq, e_sSkip, e_sSt, e_sSr, e_sInc, e_sRI, e_sRR, e_sRV, e_sIf, e_sCall, e_sPI, e_sPZ, e_sPR, e_sPO, e_sAI, e_sAZ, e_sAO, e_sAR, e_sPopI, e_sPopR, e_sCopy, e_mI, e_mZ, e_mR, e_mV, jAdd_n, jMul_n, z0, z1, Option.bind_some, List.getElem?_cons_zero, List.getElem?_cons_succ, List.set_cons_zero, List.set_cons_succ, eq_self, if_true, ite_and, ite_or, ite_I, ite_bI, ite_bJ, bI_ne, bI_01, List.cons_append, List.nil_append, Bool.false_eq_true, if_false, pT26_19 h]; rfl) ?_)
  have hF : FX PC σ (up (up τ 49 24 (jAnd v (nI 255))) 26 19 (nI 1)) := (FX.u (r2.d (by omega) (by omega)) (Or.inr (Or.inl (by omega)))).u (Or.inr (Or.inr ⟨rfl, rfl⟩))
  have hG : RG (up (up τ 49 24 (jAnd v (nI 255))) 26 19 (nI 1)) 3 (sgG c a o v) := (r1.u1 (i := 0)).o ((FX.r (fun a _ => a = 26) _).u rfl) (fun a i q k => by rcases q with q | q <;> omega)
  have e19 : up (up τ 49 24 (jAnd v (nI 255))) 26 19 (nI 1) 26 19 = nI 1 := rfl
  generalize up (up τ 49 24 (jAnd v (nI 255))) 26 19 (nI 1) = υ at hF hG e19 ⊢
  obtain ⟨ρ, et, q1, q2⟩ := r_travel (z := 1) (G := fun _ => sgG c a o v) h (hR.p hF hW.y.2) hW (fun e he => by rw [show 3 + e = 3 by omega]; exact hG) (fun _ _ => hg) e19 (by omega)
  refine wS_r (by simp only [e_fI, e_fLd, e_fLr, e_fB, e_fD, e_fC, e_fT, e_fAnd, e_fOr, e_fNot, e_fCC, e_fIf, e_gI, e_gR, e_aI, e_aR, e_aN, e_cV, e_cS, e_fNil, e_fAi, e_fAr, e_sSeq, e_sSkip, e_sSt, e_sSr, e_sInc, e_sRI, e_sRR, e_sRV, e_sIf, e_sCall, e_sPI, e_sPZ, e_sPR, e_sPO, e_sAI, e_sAZ, e_sAO, e_sAR, e_sPopI, e_sPopR, e_sCopy, e_mI, e_mZ, e_mR, e_mV, jAdd_n, jMul_n, z0, z1, Option.bind_some, List.getElem?_cons_zero, List.getElem?_cons_succ, List.set_cons_zero, List.set_cons_succ, eq_self, if_true, ite_and, ite_or, ite_I, ite_bI, ite_bJ, bI_ne, bI_01, List.cons_append, List.nil_append, Bool.false_eq_true, if_false, kT26 h, et]; rfl) ?_
  exact ⟨rfl, ρ, rfl, q1, (hF.L (fun a i k => by unfold PC at k; omega)).t q2⟩
/-- what a call that sends one datagram answers -/
def ans1 (w : wd) : Int32 := if bW w = true then w.2.2.1 0 0 4 else -1
theorem r_ans {w' : wd} (h : okB n) (hR : CPr σ w') (hz : zW w' = 1) (hb : bW w' = true) : hp_i (hs n σ) 48 50 (nI 6) = some (.int (ans1 w')) := by
  rw [iT48 h (show 6 < 9 by omega), (show σ 48 6 = w'.2.2.1 0 0 4 from (hR.2.2.2.2.2 hb 0 (by omega)).1 4 (by omega))]
  unfold ans1
  rw [if_pos hb]
theorem okP_n {c a o l : Nat} {B : Nat → Int32} (hc : c = 1 ∨ c = 2 ∨ c = 4 ∨ c = 5 ∨ c = 7 ∨ c = 8 ∨ c = 10 ∨ c = 11 ∨ c = 12) (ha : a < 65536) (ho : o < 128) (hl : 1 ≤ l ∧ l ≤ 8) (hB : ∀ i, i < 8 → byt (B i)) {G : sg} (e : ∀ i, i < 4 → G 0 i = nwG (nI c) (nI a) (nI o) (nI l) 0 i) (e1 : ∀ i, i < 8 → G 1 i = B i) : okP G := by
  have f0 : G 0 0 = nI c := e 0 (by omega)
  have f1 : G 0 1 = nI a := e 1 (by omega)
  have f2 : G 0 2 = nI o := e 2 (by omega)
  have f3 : G 0 3 = nI l := e 3 (by omega)
  have ea : adN G = a := by unfold adN; rw [f1]; exact nC_n (by omega)
  have ef : fN G = o := by unfold fN; rw [f2]; exact nC_n (by omega)
  have ek : kN G = l := by unfold kN; rw [f3]; exact nC_n (by omega)
  refine ⟨c, hc, f0, fun _ => ?_, ?_⟩
  · unfold okG
    rw [ef, ek]
    exact ⟨f2, ho, f3, hl.1, hl.2, fun i hi => by rw [e1 i hi]; exact hB i hi⟩
  · unfold okH
    rw [ea, ek]
    exact ⟨f1, ha, f3, hl.1, hl.2, fun i hi => by rw [e1 i hi]; exact hB i hi⟩
theorem byt255 (v : Int32) : byt (jAnd v (nI 255)) := by
  have := byt_and v (byt_n (show 255 < 256 by omega))
  unfold jAnd at this ⊢
  rw [Int32.and_comm]
  exact this
theorem okP_sg {c a o : Nat} {v : Int32} (hc : c = 1 ∨ c = 2 ∨ c = 4 ∨ c = 5 ∨ c = 7 ∨ c = 8 ∨ c = 10 ∨ c = 11 ∨ c = 12) (ha : a < 65536) (ho : o < 128) : okP (sgG (nI c) (nI a) (nI o) v) := by
  refine okP_n (l := 1) hc ha ho (by omega) (B := fun i => sgG (nI c) (nI a) (nI o) v 1 i) (fun i hi => ?_) (fun i hi => rfl) (fun i hi => rfl)
  unfold sgG up
  by_cases q : 1 = 1 ∧ i = 0
  · rw [if_pos q]
    exact byt255 v
  · rw [if_neg q]
    exact byt_n (by omega)
theorem zW_sf {z : Nat} {G : Nat → sg} (hz : z ≤ 3) : zW (sndW (frW w z G)) = z := zW_f (w := w) (G := G) hz
theorem r_request {v : Int32} (h : okB n) (hR : CPr σ w) (hW : okW w) : ∃ τ, G_R_request [.ref 26, .int v] (hs n σ) = some (ans1 (sndW (frW w 1 (fun _ => sgG (nI 8) (nI 0) (nI 1) v))), hs n τ) ∧ CPr τ (sndW (frW w 1 (fun _ => sgG (nI 8) (nI 0) (nI 1) v))) ∧ FL σ τ := by
  refine mI_t (Nat.le_of_ble_eq_true rfl) ?_
  simp only [jx_L0, List.map_cons, List.map_nil, List.length_cons, List.length_nil, Nat.reduceAdd, Nat.reduceSub, List.replicate, List.cons_append, List.nil_append]
  unfold P_R_request
  obtain ⟨τ, e, r1, r2⟩ := r_single (c := nI 8) (a := nI 0) (o := nI 1) (v := v) h hR hW (okP_sg (by omega) (by omega) (by omega))
  have hb : bW (sndW (frW w 1 (fun _ => sgG (nI 8) (nI 0) (nI 1) v))) = tW w := bW_s
  have hz : zW (sndW (frW w 1 (fun _ => sgG (nI 8) (nI 0) (nI 1) v))) = 1 := zW_sf (by omega)
  generalize sndW (frW w 1 (fun _ => sgG (nI 8) (nI 0) (nI 1) v)) = w' at r1 hb hz ⊢
  cases q : tW w with
  | true =>
    rw [q] at e hb
    refine wS_r (by simp only [e_fI, e_fLd, e_fLr, e_fB, e_fD, e_fC, e_fT, e_fAnd, e_fOr, e_fNot, e_fCC, e_fIf, e_gI, e_gR, e_aI, e_aR, e_aN, e_cV, e_cS, e_fNil, e_fAi, e_fAr, e_sSeq, e_sSkip, e_sSt, e_sSr, e_sInc, e_sRI, e_sRR, e_sRV, e_sIf, e_sCall, e_sPI, e_sPZ, e_sPR, e_sPO, e_sAI, e_sAZ, e_sAO, e_sAR, e_sPopI, e_sPopR, e_sCopy, e_mI, e_mZ, e_mR, e_mV, jAdd_n, jMul_n, z0, z1, Option.bind_some, List.getElem?_cons_zero, List.getElem?_cons_succ, List.set_cons_zero, List.set_cons_succ, eq_self, if_true, ite_and, ite_or, ite_I, ite_bI, ite_bJ, bI_ne, bI_01, List.cons_append, List.nil_append, Bool.false_eq_true, if_false, kT26 h, e, gT26_26 h, r_ans h r1 hz hb]; rfl) ?_
    exact ⟨rfl, τ, rfl, r1, r2⟩
  | false =>
    rw [q] at e hb
    refine wS_r (by simp only [e_fI, e_fLd, e_fLr, e_fB, e_fD, e_fC, e_fT, e_fAnd, e_fOr, e_fNot, e_fCC, e_fIf, e_gI, e_gR, e_aI, e_aR, e_aN, e_cV, e_cS, e_fNil, e_fAi, e_fAr, e_sSeq, e_sSkip, e_sSt, e_sSr, e_sInc, e_sRI, e_sRR, e_sRV, e_sIf, e_sCall, e_sPI, e_sPZ, e_sPR, e_sPO, e_sAI, e_sAZ, e_sAO, e_sAR, e_sPopI, e_sPopR, e_sCopy, e_mI, e_mZ, e_mR, e_mV, jAdd_n, jMul_n, z0, z1, Option.bind_some, List.getElem?_cons_zero, List.getElem?_cons_succ, List.set_cons_zero, List.set_cons_succ, eq_self, if_true, ite_and, ite_or, ite_I, ite_bI, ite_bJ, bI_ne, bI_01, List.cons_append, List.nil_append, Bool.false_eq_true, if_false, kT26 h, e]; rfl) ?_
    unfold ans1
    rw [hb]
    exact ⟨rfl, τ, rfl, r1, r2⟩
/-- the last step of a call that sends one datagram -/
theorem r_last {w' : wd} {L : hp_L} {b : Bool} {Q : hp_L → hp_H → Prop} (h : okB n) (hL : L[0]? = some (some (.ref 26))) (e : G_R_travel [.ref 26] (hs n σ) = some (bI b, hs n τ)) (hR : CPr τ w') (hb : bW w' = b) (hz : zW w' = 1) (hF : FL σ τ) {ρ : sg} (hF0 : FL ρ σ) : wS (sRI (fIf (fT (cV 8 (fAr (fLr 0) (fNil)) G_R_travel)) (aI 50 (gR 8 26 (fLr 0)) (fI (nI 6))) (fI (-1)))) L (hs n σ) Q (fun v h' => v = some (.int (ans1 w')) ∧ ∃ τ, h' = hs n τ ∧ CPr τ w' ∧ FL ρ τ) := by
  cases b with
  | true =>
    refine wS_r (by simp only [e_fI, e_fLd, e_fLr, e_fB, e_fD, e_fC, e_fT, e_fAnd, e_fOr, e_fNot, e_fCC, e_fIf, e_gI, e_gR, e_aI, e_aR, e_aN, e_cV, e_cS, e_fNil, e_fAi, e_fAr, e_sSeq, e_sSkip, e_sSt, e_sSr, e_sInc, e_sRI, e_sRR, e_sRV, e_sIf, e_sCall, e_sPI, e_sPZ, e_sPR, e_sPO, e_sAI, e_sAZ, e_sAO, e_sAR, e_sPopI, e_sPopR, e_sCopy, e_mI, e_mZ, e_mR, e_mV, jAdd_n, jMul_n, z0, z1, Option.bind_some, List.getElem?_cons_zero, List.getElem?_cons_succ, List.set_cons_zero, List.set_cons_succ, eq_self, if_true, ite_and, ite_or, ite_I, ite_bI, ite_bJ, bI_ne, bI_01, List.cons_append, List.nil_append, Bool.false_eq_true, if_false, hL, kT26 h, e, gT26_26 h, r_ans h hR hz hb]; rfl) ?_
    exact ⟨rfl, τ, rfl, hR, hF0.t hF⟩
  | false =>
    refine wS_r (by simp only [e_fI, e_fLd, e_fLr, e_fB, e_fD, e_fC, e_fT, e_fAnd, e_fOr, e_fNot, e_fCC, e_fIf, e_gI, e_gR, e_aI, e_aR, e_aN, e_cV, e_cS, e_fNil, e_fAi, e_fAr, e_sSeq, e_sSkip, e_sSt, e_sSr, e_sInc, e_sRI, e_sRR, e_sRV, e_sIf, e_sCall, e_sPI, e_sPZ, e_sPR, e_sPO, e_sAI, e_sAZ, e_sAO, e_sAR, e_sPopI, e_sPopR, e_sCopy, e_mI, e_mZ, e_mR, e_mV, jAdd_n, jMul_n, z0, z1, Option.bind_some, List.getElem?_cons_zero, List.getElem?_cons_succ, List.set_cons_zero, List.set_cons_succ, eq_self, if_true, ite_and, ite_or, ite_I, ite_bI, ite_bJ, bI_ne, bI_01, List.cons_append, List.nil_append, Bool.false_eq_true, if_false, hL, kT26 h, e]; rfl) ?_
    unfold ans1
    rw [hb]
    exact ⟨rfl, τ, rfl, hR, hF0.t hF⟩
def sxG (G : sg) (a b c e f g : Int32) : sg := up (up (up (up (up (up G 1 0 a) 1 1 b) 1 2 c) 1 3 e) 1 4 f) 1 5 g
theorem q_R_six {d : Nat} {G : sg} {a b c e f g : Int32} (h : okB n) (hd : d < 9) (hG : RG σ d G) : ∃ τ, G_R_six [.ref 26, .int (nI d), .int a, .int b, .int c, .int e, .int f, .int g] (hs n σ) = some (hs n τ) ∧ RG τ d (sxG G a b c e f g) ∧ FX (DC d) σ τ := by
  refine mV_s (Nat.le_of_ble_eq_true rfl) ?_
  simp only [jx_L0, List.map_cons, List.map_nil, List.length_cons, List.length_nil, Nat.reduceAdd, Nat.reduceSub, List.replicate, List.cons_append, List.nil_append]
  unfold P_R_six
  refine wSeq (wS_l (by simp only [e_fI, e_fLd, e_fLr, e_fB, e_fD, e_fC, e_fT, e_fAnd, e_fOr, e_fNot, e_fCC, e_fIf, e_gI, e_gR, e_aI, e_aR, e_aN, e_cV, e_cS, e_fNil, e_fAi, e_fAr, e_sSeq, e_sSkip, e_sSt, e_sSr, e_sInc, e_sRI, e_sRR, e_sRV, e_sIf, e_sCall, e_sPI, e_sPZ, e_sPR, e_sPO, e_sAI, e_sAZ, e_sAO, e_sAR, e_sPopI, e_sPopR, e_sCopy, e_mI, e_mZ, e_mR, e_mV, jAdd_n, jMul_n, z0, z1, Option.bind_some, List.getElem?_cons_zero, List.getElem?_cons_succ, List.set_cons_zero, List.set_cons_succ, eq_self, if_true, ite_and, ite_or, ite_I, ite_bI, ite_bJ, bI_ne, bI_01, List.cons_append, List.nil_append, Bool.false_eq_true, if_false, gT26_27 h, wT49 h (show 8 * d < 72 by omega)]; rfl) ?_)
  refine wSeq (wS_l (by simp only [e_fI, e_fLd, e_fLr, e_fB, e_fD, e_fC, e_fT, e_fAnd, e_fOr, e_fNot, e_fCC, e_fIf, e_gI, e_gR, e_aI, e_aR, e_aN, e_cV, e_cS, e_fNil, e_fAi, e_fAr, e_sSeq, e_sSkip, e_sSt, e_sSr, e_sInc, e_sRI, e_sRR, e_sRV, e_sIf, e_sCall, e_sPI, e_sPZ, e_sPR, e_sPO, e_sAI, e_sAZ, e_sAO, e_sAR, e_sPopI, e_sPopR, e_sCopy, e_mI, e_mZ, e_mR, e_mV, jAdd_n, jMul_n, z0, z1, Option.bind_some, List.getElem?_cons_zero, List.getElem?_cons_succ, List.set_cons_zero, List.set_cons_succ, eq_self, if_true, ite_and, ite_or, ite_I, ite_bI, ite_bJ, bI_ne, bI_01, List.cons_append, List.nil_append, Bool.false_eq_true, if_false, gT26_27 h, wT49 h (show 8 * d + 1 < 72 by omega)]; rfl) ?_)
  refine wSeq (wS_l (by simp only [e_fI, e_fLd, e_fLr, e_fB, e_fD, e_fC, e_fT, e_fAnd, e_fOr, e_fNot, e_fCC, e_fIf, e_gI, e_gR, e_aI, e_aR, e_aN, e_cV, e_cS, e_fNil, e_fAi, e_fAr, e_sSeq, e_sSkip, e_sSt, e_sSr, e_sInc, e_sRI, e_sRR, e_sRV, e_sIf, e_sCall, e_sPI, e_sPZ, e_sPR, e_sPO, e_sAI, e_sAZ, e_sAO, e_sAR, e_sPopI, e_sPopR, e_sCopy, e_mI, e_mZ, e_mR, e_mV, jAdd_n, jMul_n, z0, z1, Option.bind_some, List.getElem?_cons_zero, List.getElem?_cons_succ, List.set_cons_zero, List.set_cons_succ, eq_self, if_true, ite_and, ite_or, ite_I, ite_bI, ite_bJ, bI_ne, bI_01, List.cons_append, List.nil_append, Bool.false_eq_true, if_false, gT26_27 h, wT49 h (show 8 * d + 2 < 72 by omega)]; rfl) ?_)
  refine wSeq (wS_l (by simp only [e_fI, e_fLd, e_fLr, e_fB, e_fD, e_fC, e_fT, e_fAnd, e_fOr, e_fNot, e_fCC, e_fIf, e_gI, e_gR, e_aI, e_aR, e_aN, e_cV, e_cS, e_fNil, e_fAi, e_fAr, e_sSeq, e_sSkip, e_sSt, e_sSr, e_sInc, e_sRI, e_sRR, e_sRV, e_sIf, e_sCall, e_sPI, e_sPZ, e_sPR, e_sPO, e_sAI, e_sAZ, e_sAO, e_sAR, e_sPopI, e_sPopR, e_sCopy, e_mI, e_mZ, e_mR, e_mV, jAdd_n, jMul_n, z0, z1, Option.bind_some, List.getElem?_cons_zero, List.getElem?_cons_succ, List.set_cons_zero, List.set_cons_succ, eq_self, if_true, ite_and, ite_or, ite_I, ite_bI, ite_bJ, bI_ne, bI_01, List.cons_append, List.nil_append, Bool.false_eq_true, if_false, gT26_27 h, wT49 h (show 8 * d + 3 < 72 by omega)]; rfl) ?_)
  refine wSeq (wS_l (by simp only [e_fI, e_fLd, e_fLr, e_fB, e_fD, e_fC, e_fT, e_fAnd, e_fOr, e_fNot, e_fCC, e_fIf, e_gI, e_gR, e_aI, e_aR, e_aN, e_cV, e_cS, e_fNil, e_fAi, e_fAr, e_sSeq, e_sSkip, e_sSt, e_sSr, e_sInc, e_sRI, e_sRR, e_sRV, e_sIf, e_sCall, e_sPI, e_sPZ, e_sPR, e_sPO, e_sAI, e_sAZ, e_sAO, e_sAR, e_sPopI, e_sPopR, e_sCopy, e_mI, e_mZ, e_mR, e_mV, jAdd_n, jMul_n, z0, z1, Option.bind_some, List.getElem?_cons_zero, List.getElem?_cons_succ, List.set_cons_zero, List.set_cons_succ, eq_self, if_true, ite_and, ite_or, ite_I, ite_bI, ite_bJ, bI_ne, bI_01, List.cons_append, List.nil_append, Bool.false_eq_true, if_false, gT26_27 h, wT49 h (show 8 * d + 4 < 72 by omega)]; rfl) ?_)
  refine wSeq (wS_l (by simp only [e_fI, e_fLd, e_fLr, e_fB, e_fD, e_fC, e_fT, e_fAnd, e_fOr, e_fNot, e_fCC, e_fIf, e_gI, e_gR, e_aI, e_aR, e_aN, e_cV, e_cS, e_fNil, e_fAi, e_fAr, e_sSeq, e_sSkip, e_sSt, e_sSr, e_sInc, e_sRI, e_sRR, e_sRV, e_sIf, e_sCall, e_sPI, e_sPZ, e_sPR, e_sPO, e_sAI, e_sAZ, e_sAO, e_sAR, e_sPopI, e_sPopR, e_sCopy, e_mI, e_mZ, e_mR, e_mV, jAdd_n, jMul_n, z0, z1, Option.bind_some, List.getElem?_cons_zero, List.getElem?_cons_succ, List.set_cons_zero, List.set_cons_succ, eq_self, if_true, ite_and, ite_or, ite_I, ite_bI, ite_bJ, bI_ne, bI_01, List.cons_append, List.nil_append, Bool.false_eq_true, if_false, gT26_27 h, wT49 h (show 8 * d + 5 < 72 by omega)]; rfl) ?_)
  refine wS_r rfl ⟨rfl, _, rfl, (((((hG.u1 (i := 0)).u1 (i := 1)).u1 (i := 2)).u1 (i := 3)).u1 (i := 4)).u1 (i := 5), ?_⟩
  have k : ∀ i, i < 8 → DC d 49 (8 * d + i) := fun i hi => Or.inr ⟨rfl, by omega⟩
  exact (((((FX.u (FX.r _ σ) (k 0 (by omega))).u (k 1 (by omega))).u (k 2 (by omega))).u (k 3 (by omega))).u (k 4 (by omega))).u (k 5 (by omega))
def akG (s : Nat) (k i v : Int32) : sg := sxG (nwG (nI 5) (nI (s + 1)) (nI 64) (nI 6)) (jAnd k (nI 255)) (jAnd i (nI 255)) (jAnd v (nI 255)) (jAnd (jShr v (nI 8)) (nI 255)) (jAnd (jShr v (nI 16)) (nI 255)) (jAnd (jShr v (nI 24)) (nI 255))
theorem sx_0 {G : sg} {a b c e f g : Int32} : sxG G a b c e f g 0 = G 0 := by
  unfold sxG
  rw [up_ne (by omega), up_ne (by omega), up_ne (by omega), up_ne (by omega), up_ne (by omega), up_ne (by omega)]
theorem sx_b {G : sg} {a b c e f g : Int32} (hG : ∀ i, i < 8 → byt (G 1 i)) (h1 : byt a) (h2 : byt b) (h3 : byt c) (h4 : byt e) (h5 : byt f) (h6 : byt g) : ∀ i, i < 8 → byt (sxG G a b c e f g 1 i) := fun i hi => by
  unfold sxG up
  repeat' split
  all_goals first | assumption | exact hG i hi
theorem nw_b {c a o l : Int32} : ∀ i, i < 8 → byt (nwG c a o l 1 i) := fun i _ => byt_n (by omega)
theorem akG_ok {s : Nat} {k i v : Int32} (hs' : s < 100) : okP (akG s k i v) := okP_n (c := 5) (a := s + 1) (o := 64) (l := 6) (by omega) (by omega) (by omega) (by omega) (B := akG s k i v 1) (sx_b nw_b (byt255 _) (byt255 _) (byt255 _) (byt255 _) (byt255 _) (byt255 _)) (fun j _ => by unfold akG; rw [sx_0]) (fun _ _ => rfl)
theorem r_ask {a k i v : Int32} (h : okB n) (hR : CPr σ w) (hW : okW w) : ∃ τ, G_R_ask [.ref 26, .int a, .int k, .int i, .int v] (hs n σ) = some (if inS w a = true then ans1 (sndW (frW w 1 (fun _ => akG a.toNatClampNeg k i v))) else -1, hs n τ) ∧ CPr τ (if inS w a = true then sndW (frW w 1 (fun _ => akG a.toNatClampNeg k i v)) else w) ∧ FL σ τ := by
  refine mI_t (Nat.le_of_ble_eq_true rfl) ?_
  simp only [jx_L0, List.map_cons, List.map_nil, List.length_cons, List.length_nil, Nat.reduceAdd, Nat.reduceSub, List.replicate, List.cons_append, List.nil_append]
  unfold P_R_ask
  refine wSeq (wIf (by simp only [e_fI, e_fLd, e_fLr, e_fB, e_fD, e_fC, e_fT, e_fAnd, e_fOr, e_fNot, e_fCC, e_fIf, e_gI, e_gR, e_aI, e_aR, e_aN, e_cV, e_cS, e_fNil, e_fAi, e_fAr, e_sSeq, e_sSkip, e_sSt, e_sSr, e_sInc, e_sRI, e_sRR, e_sRV, e_sIf, e_sCall, e_sPI, e_sPZ, e_sPR, e_sPO, e_sAI, e_sAZ, e_sAO, e_sAR, e_sPopI, e_sPopR, e_sCopy, e_mI, e_mZ, e_mR, e_mV, jAdd_n, jMul_n, z0, z1, Option.bind_some, List.getElem?_cons_zero, List.getElem?_cons_succ, List.set_cons_zero, List.set_cons_succ, eq_self, if_true, ite_and, ite_or, ite_I, ite_bI, ite_bJ, bI_ne, bI_01, List.cons_append, List.nil_append, Bool.false_eq_true, if_false, kT26 h, q_R_isStation h hR]; rfl) (fun hb => ?_) (fun hb => ?_))
  · have e : inS w a = false := by cases q : inS w a; rfl; rw [q] at hb; cases hb
    rw [e, if_neg Bool.false_ne_true, if_neg Bool.false_ne_true]
    exact wS_r rfl ⟨rfl, σ, rfl, hR, FL.r σ⟩
  have e : inS w a = true := by cases q : inS w a; rw [q] at hb; cases hb; rfl
  clear hb
  obtain ⟨t, ht, rfl⟩ := inS_i hW e
  have hk := hW.2.1
  rw [e, if_pos rfl, if_pos rfl, nC_n (show t < 2 ^ 31 by omega)]
  refine wS_l rfl ?_
  obtain ⟨τ, eg, r1, r2⟩ := q_R_gram (σ := σ) (d := 3) (c := nI 5) (a := nI (t + 1)) (o := nI 64) (l := nI 6) h (by omega)
  refine wSeq (wS_l (by simp only [e_fI, e_fLd, e_fLr, e_fB, e_fD, e_fC, e_fT, e_fAnd, e_fOr, e_fNot, e_fCC, e_fIf, e_gI, e_gR, e_aI, e_aR, e_aN, e_cV, e_cS, e_fNil, e_fAi, e_fAr, e_sSeq, e_sSkip, e_sSt, e_sSr, e_sInc, e_sRI, e_sRR, e_sRV, e_sIf, e_sCall, e_sPI, e_sPZ, e_sPR, e_sPO, e_sAI, e_sAZ, e_sAO, e_sAR, e_sPopI, e_sPopR, e_sCopy, e_mI, e_mZ, e_mR, e_mV, jAdd_n, jMul_n, z0, z1, Option.bind_some, List.getElem?_cons_zero, List.getElem?_cons_succ, List.set_cons_zero, List.set_cons_succ, eq_self, if_true, ite_and, ite_or, ite_I, ite_bI, ite_bJ, bI_ne, bI_01, List.cons_append, List.nil_append, Bool.false_eq_true, if_false, kT26 h, eg]; rfl) ?_)
  obtain ⟨ρ, es, r3, r4⟩ := q_R_six (a := jAnd k (nI 255)) (b := jAnd i (nI 255)) (c := jAnd v (nI 255)) (e := jAnd (jShr v (nI 8)) (nI 255)) (f := jAnd (jShr v (nI 16)) (nI 255)) (g := jAnd (jShr v (nI 24)) (nI 255)) h (by omega) r1
  refine wSeq (wS_l (by simp only [e_fI, e_fLd, e_fLr, e_fB, e_fD, e_fC, e_fT, e_fAnd, e_fOr, e_fNot, e_fCC, e_fIf, e_gI, e_gR, e_aI, e_aR, e_aN, e_cV, e_cS, e_fNil, e_fAi, e_fAr, e_sSeq, e_sSkip, e_sSt, e_sSr, e_sInc, e_sRI, e_sRR, e_sRV, e_sIf, e_sCall, e_sPI, e_sPZ, e_sPR, e_sPO, e_sAI, e_sAZ, e_sAO, e_sAR, e_sPopI, e_sPopR, e_sCopy, e_mI, e_mZ, e_mR, e_mV, jAdd_n, jMul_n, z0, z1, Option.bind_some, List.getElem?_cons_zero, List.getElem?_cons_succ, List.set_cons_zero, List.set_cons_succ, eq_self, if_true, ite_and, ite_or, ite_I, ite_bI, ite_bJ, bI_ne, bI_01, List.cons_append, List.nil_append, Bool.false_eq_true, if_false, kT26 h, es]; rfl) ?_)
  refine wSeq (wS_l (by simp only [e_fI, e_fLd, e_fLr, e_fB, e_fD, e_fC, e_fT, e_fAnd, e_fOr, e_fNot, e_fCC, e_fIf, e_gI, e_gR, e_aI, e_aR, e_aN, e_cV, e_cS, e_fNil, e_fAi, e_fAr, e_sSeq, e_sSkip, e_sSt, e_sSr, e_sInc, e_sRI, e_sRR, e_sRV, e_sIf, e_sCall, e_sPI, e_sPZ, e_sPR, e_sPO, e_sAI, e_sAZ, e_sAO, e_sAR, e_sPopI, e_sPopR, e_sCopy, e_mI, e_mZ, e_mR, e_mV, jAdd_n, jMul_n, z0, z1, Option.bind_some, List.getElem?_cons_zero, List.getElem?_cons_succ, List.set_cons_zero, List.set_cons_succ, eq_self, if_true, ite_and, ite_or, ite_I, ite_bI, ite_bJ, bI_ne, bI_01, List.cons_append, List.nil_append, Bool.false_eq_true, if_false, pT26_19 h]; rfl) ?_)
  have hF : FX PC σ (up ρ 26 19 (nI 1)) := ((r2.d (by omega) (by omega)).t (r4.d (by omega) (by omega))).u (Or.inr (Or.inr ⟨rfl, rfl⟩))
  have hG : RG (up ρ 26 19 (nI 1)) 3 (akG t k i v) := r3.o ((FX.r (fun a _ => a = 26) _).u rfl) (fun a i q k => by rcases q with q | q <;> omega)
  obtain ⟨υ, et, q1, q2⟩ := r_travel (z := 1) (G := fun _ => akG t k i v) h (hR.p hF hW.y.2) hW (fun e he => by rw [show 3 + e = 3 by omega]; exact hG) (fun _ _ => akG_ok (by omega)) rfl (by omega)
  exact r_last h rfl et q1 bW_s (zW_sf (by omega)) q2 (hF.L (fun a i k => by unfold PC at k; omega))
def anG (s : Nat) : sg := nwG (nI 4) (nI (s + 1)) (nI 72) (nI 6)
theorem anG_ok {s : Nat} (hs' : s < 100) : okP (anG s) := okP_n (c := 4) (a := s + 1) (o := 72) (l := 6) (by omega) (by omega) (by omega) (by omega) (B := anG s 1) nw_b (fun j _ => rfl) (fun _ _ => rfl)
theorem r_answer {a : Int32} (h : okB n) (hR : CPr σ w) (hW : okW w) : ∃ τ, G_R_answer [.ref 26, .int a] (hs n σ) = some (if inS w a = true then ans1 (sndW (frW w 1 (fun _ => anG a.toNatClampNeg))) else -1, hs n τ) ∧ CPr τ (if inS w a = true then sndW (frW w 1 (fun _ => anG a.toNatClampNeg)) else w) ∧ FL σ τ := by
  refine mI_t (Nat.le_of_ble_eq_true rfl) ?_
  simp only [jx_L0, List.map_cons, List.map_nil, List.length_cons, List.length_nil, Nat.reduceAdd, Nat.reduceSub, List.replicate, List.cons_append, List.nil_append]
  unfold P_R_answer
  refine wSeq (wIf (by simp only [e_fI, e_fLd, e_fLr, e_fB, e_fD, e_fC, e_fT, e_fAnd, e_fOr, e_fNot, e_fCC, e_fIf, e_gI, e_gR, e_aI, e_aR, e_aN, e_cV, e_cS, e_fNil, e_fAi, e_fAr, e_sSeq, e_sSkip, e_sSt, e_sSr, e_sInc, e_sRI, e_sRR, e_sRV, e_sIf, e_sCall, e_sPI, e_sPZ, e_sPR, e_sPO, e_sAI, e_sAZ, e_sAO, e_sAR, e_sPopI, e_sPopR, e_sCopy, e_mI, e_mZ, e_mR, e_mV, jAdd_n, jMul_n, z0, z1, Option.bind_some, List.getElem?_cons_zero, List.getElem?_cons_succ, List.set_cons_zero, List.set_cons_succ, eq_self, if_true, ite_and, ite_or, ite_I, ite_bI, ite_bJ, bI_ne, bI_01, List.cons_append, List.nil_append, Bool.false_eq_true, if_false, kT26 h, q_R_isStation h hR]; rfl) (fun hb => ?_) (fun hb => ?_))
  · have e : inS w a = false := by cases q : inS w a; rfl; rw [q] at hb; cases hb
    rw [e, if_neg Bool.false_ne_true, if_neg Bool.false_ne_true]
    exact wS_r rfl ⟨rfl, σ, rfl, hR, FL.r σ⟩
  have e : inS w a = true := by cases q : inS w a; rw [q] at hb; cases hb; rfl
  clear hb
  obtain ⟨t, ht, rfl⟩ := inS_i hW e
  have hk := hW.2.1
  rw [e, if_pos rfl, if_pos rfl, nC_n (show t < 2 ^ 31 by omega)]
  refine wS_l rfl ?_
  obtain ⟨τ, eg, r1, r2⟩ := q_R_gram (σ := σ) (d := 3) (c := nI 4) (a := nI (t + 1)) (o := nI 72) (l := nI 6) h (by omega)
  refine wSeq (wS_l (by simp only [e_fI, e_fLd, e_fLr, e_fB, e_fD, e_fC, e_fT, e_fAnd, e_fOr, e_fNot, e_fCC, e_fIf, e_gI, e_gR, e_aI, e_aR, e_aN, e_cV, e_cS, e_fNil, e_fAi, e_fAr, e_sSeq, e_sSkip, e_sSt, e_sSr, e_sInc, e_sRI, e_sRR, e_sRV, e_sIf, e_sCall, e_sPI, e_sPZ, e_sPR, e_sPO, e_sAI, e_sAZ, e_sAO, e_sAR, e_sPopI, e_sPopR, e_sCopy, e_mI, e_mZ, e_mR, e_mV, jAdd_n, jMul_n, z0, z1, Option.bind_some, List.getElem?_cons_zero, List.getElem?_cons_succ, List.set_cons_zero, List.set_cons_succ, eq_self, if_true, ite_and, ite_or, ite_I, ite_bI, ite_bJ, bI_ne, bI_01, List.cons_append, List.nil_append, Bool.false_eq_true, if_false, kT26 h, eg]; rfl) ?_)
  refine wSeq (wS_l (by simp only [e_fI, e_fLd, e_fLr, e_fB, e_fD, e_fC, e_fT, e_fAnd, e_fOr, e_fNot, e_fCC, e_fIf, e_gI, e_gR, e_aI, e_aR, e_aN, e_cV, e_cS, e_fNil, e_fAi, e_fAr, e_sSeq, e_sSkip, e_sSt, e_sSr, e_sInc, e_sRI, e_sRR, e_sRV, e_sIf, e_sCall, e_sPI, e_sPZ, e_sPR, e_sPO, e_sAI, e_sAZ, e_sAO, e_sAR, e_sPopI, e_sPopR, e_sCopy, e_mI, e_mZ, e_mR, e_mV, jAdd_n, jMul_n, z0, z1, Option.bind_some, List.getElem?_cons_zero, List.getElem?_cons_succ, List.set_cons_zero, List.set_cons_succ, eq_self, if_true, ite_and, ite_or, ite_I, ite_bI, ite_bJ, bI_ne, bI_01, List.cons_append, List.nil_append, Bool.false_eq_true, if_false, pT26_19 h]; rfl) ?_)
  have hF : FX PC σ (up τ 26 19 (nI 1)) := FX.u (r2.d (by omega) (by omega)) (Or.inr (Or.inr ⟨rfl, rfl⟩))
  have hG : RG (up τ 26 19 (nI 1)) 3 (anG t) := r1.o ((FX.r (fun a _ => a = 26) _).u rfl) (fun a i q k => by rcases q with q | q <;> omega)
  obtain ⟨υ, et, q1, q2⟩ := r_travel (z := 1) (G := fun _ => anG t) h (hR.p hF hW.y.2) hW (fun e he => by rw [show 3 + e = 3 by omega]; exact hG) (fun _ _ => anG_ok (by omega)) rfl (by omega)
  exact r_last h rfl et q1 bW_s (zW_sf (by omega)) q2 (hF.L (fun a i k => by unfold PC at k; omega))
theorem yW_0 : yW (setV w 0 4 (nI 0)) = 0 := nC_n (show 0 < 2 ^ 31 by omega)
theorem CPr.y0 (h : CPr σ w) : CPr (up σ 26 18 (nI 0)) (setV w 0 4 (nI 0)) := by
  obtain ⟨h1, h2, h3, h4, h5, h6⟩ := h
  have ek : kW (setV w 0 4 (nI 0)) = kW w := rfl
  have ez : zW (setV w 0 4 (nI 0)) = zW w := rfl
  have eb : bW (setV w 0 4 (nI 0)) = bW w := rfl
  have hF : FX (fun a m => a = 26 ∧ m = 18) σ (up σ 26 18 (nI 0)) := (FX.r _ σ).u ⟨rfl, rfl⟩
  unfold CPr
  rw [ek, ez, eb, yW_0]
  refine ⟨fun j i hc => ?_, ?_, fun t ht => ?_, fun t h7 h8 => ?_, fun e he => by omega, fun q e he => (h6 q e he).o hF (fun a m q k => by rcases q with q | q <;> omega)⟩
  · have hc2 : celQ w j i := hc
    show _ = up (vW w) 0 4 (nI 0) j i
    by_cases q : j = 0 ∧ i = 4
    · obtain ⟨rfl, rfl⟩ := q
      rfl
    · unfold up
      rw [if_neg q, if_neg (fun k => by have := rv_c hc2; omega)]
      exact h1 j i hc2
  · rw [hF 26 20 (by omega)]
    exact h2
  · obtain ⟨r, m, c, hm, ha⟩ := h3 t ht
    exact ⟨r.o hF (fun a m q k => by have := q.b; omega), m, c, hm.o (s := 0) hF (fun a _ _ q => by omega), ha⟩
  · obtain ⟨r, e5, e6⟩ := h4 t h7 h8
    rw [hF 35 t (by omega), hF 36 t (by omega)]
    exact ⟨r.o hF (fun a m q k => by have := q.b; omega), e5, e6⟩
theorem okW.y0 (hW : okW w) : okW (setV w 0 4 (nI 0)) := by
  obtain ⟨h1, h2, h3, h4, h5, h6, h7, h8, h9, h10, h11, h12, h13, h14, h15, h16, h17, h18, h19, h20⟩ := hW
  exact ⟨h1, h2, h3, h4, h5, h6, by rw [yW_0]; rfl, by rw [yW_0]; omega, h9, h10, h11, h12, h13, h14, h15, h16, fun e he => by rw [yW_0] at he; omega, h18, h19, h20⟩
/-- the frame that was made ready is the latest one -/
def rdW (w : wd) : wd := frW (setV w 0 4 (nI 0)) (yW w) w.2.1
theorem r_send (h : okB n) (hR : CPr σ w) (hW : okW w) : ∃ τ, G_R_send [.ref 26] (hs n σ) = some (if yW w = 0 then -1 else bI (tW w), hs n τ) ∧ CPr τ (if yW w = 0 then w else sndW (rdW w)) ∧ FL σ τ := by
  have hy := hW.y
  have ey := hR.cy.trans hy.1
  refine mI_t (Nat.le_of_ble_eq_true rfl) ?_
  simp only [jx_L0, List.map_cons, List.map_nil, List.length_cons, List.length_nil, Nat.reduceAdd, Nat.reduceSub, List.replicate, List.cons_append, List.nil_append]
  unfold P_R_send
  have e0 : jEq (nI (yW w)) 0 = decide (yW w = 0) := by rw [← nI_0, jEq_n (by omega) (by omega)]
  refine wSeq (wIf (by simp only [e_fI, e_fLd, e_fLr, e_fB, e_fD, e_fC, e_fT, e_fAnd, e_fOr, e_fNot, e_fCC, e_fIf, e_gI, e_gR, e_aI, e_aR, e_aN, e_cV, e_cS, e_fNil, e_fAi, e_fAr, e_sSeq, e_sSkip, e_sSt, e_sSr, e_sInc, e_sRI, e_sRR, e_sRV, e_sIf, e_sCall, e_sPI, e_sPZ, e_sPR, e_sPO, e_sAI, e_sAZ, e_sAO, e_sAR, e_sPopI, e_sPopR, e_sCopy, e_mI, e_mZ, e_mR, e_mV, jAdd_n, jMul_n, z0, z1, Option.bind_some, List.getElem?_cons_zero, List.getElem?_cons_succ, List.set_cons_zero, List.set_cons_succ, eq_self, if_true, ite_and, ite_or, ite_I, ite_bI, ite_bJ, bI_ne, bI_01, List.cons_append, List.nil_append, Bool.false_eq_true, if_false, gT26_18 h, ey, e0]; rfl) (fun hb => ?_) (fun hb => ?_))
  · rw [if_pos (of_decide_eq_true hb), if_pos (of_decide_eq_true hb)]
    exact wS_r rfl ⟨rfl, σ, rfl, hR, FL.r σ⟩
  rw [if_neg (of_decide_eq_false hb), if_neg (of_decide_eq_false hb)]
  clear hb
  refine wS_l rfl ?_
  refine wSeq (wSeq (wS_l (by simp only [e_fI, e_fLd, e_fLr, e_fB, e_fD, e_fC, e_fT, e_fAnd, e_fOr, e_fNot, e_fCC, e_fIf, e_gI, e_gR, e_aI, e_aR, e_aN, e_cV, e_cS, e_fNil, e_fAi, e_fAr, e_sSeq, e_sSkip, e_sSt, e_sSr, e_sInc, e_sRI, e_sRR, e_sRV, e_sIf, e_sCall, e_sPI, e_sPZ, e_sPR, e_sPO, e_sAI, e_sAZ, e_sAO, e_sAR, e_sPopI, e_sPopR, e_sCopy, e_mI, e_mZ, e_mR, e_mV, jAdd_n, jMul_n, z0, z1, Option.bind_some, List.getElem?_cons_zero, List.getElem?_cons_succ, List.set_cons_zero, List.set_cons_succ, eq_self, if_true, ite_and, ite_or, ite_I, ite_bI, ite_bJ, bI_ne, bI_01, List.cons_append, List.nil_append, Bool.false_eq_true, if_false]; rfl) ?_))
  refine wWh (I := fun d L H => ∃ τ, L = [some (.ref 26), some (.int (nI d))] ∧ H = hs n τ ∧ (∀ e, e < d → RG τ (3 + e) (w.2.1 e)) ∧ FX PC σ τ) (e := yW w) ?_ ?_ ?_ 600 0 _ _ (by omega) (by omega) ⟨σ, rfl, rfl, fun e he => by omega, FX.r _ σ⟩
  · rintro d _ _ ⟨τ, rfl, rfl, -, hF⟩ hi
    have : τ 26 18 = nI (yW w) := by rw [hF 26 18 (fun k => by unfold PC at k; omega)]; exact ey
    simp only [e_fI, e_fLd, e_fLr, e_fB, e_fD, e_fC, e_fT, e_fAnd, e_fOr, e_fNot, e_fCC, e_fIf, e_gI, e_gR, e_aI, e_aR, e_aN, e_cV, e_cS, e_fNil, e_fAi, e_fAr, e_sSeq, e_sSkip, e_sSt, e_sSr, e_sInc, e_sRI, e_sRR, e_sRV, e_sIf, e_sCall, e_sPI, e_sPZ, e_sPR, e_sPO, e_sAI, e_sAZ, e_sAO, e_sAR, e_sPopI, e_sPopR, e_sCopy, e_mI, e_mZ, e_mR, e_mV, jAdd_n, jMul_n, z0, z1, Option.bind_some, List.getElem?_cons_zero, List.getElem?_cons_succ, List.set_cons_zero, List.set_cons_succ, eq_self, if_true, ite_and, ite_or, ite_I, ite_bI, ite_bJ, bI_ne, bI_01, List.cons_append, List.nil_append, Bool.false_eq_true, if_false, gT26_18 h, this, jLt, nI_ltI (show d < 2 ^ 31 by omega) (show yW w < 2 ^ 31 by omega)]
  · rintro d _ _ ⟨τ, rfl, rfl, hGw, hF⟩ hi
    obtain ⟨ω, e, r1, r2⟩ := q_R_copyGram (d := d) (e := 3 + d) h (by omega) (by omega) (by omega) (((hR.p hF hy.2).2.2.2.2.1) d hi)
    refine wSeq (wS_l (by simp only [e_fI, e_fLd, e_fLr, e_fB, e_fD, e_fC, e_fT, e_fAnd, e_fOr, e_fNot, e_fCC, e_fIf, e_gI, e_gR, e_aI, e_aR, e_aN, e_cV, e_cS, e_fNil, e_fAi, e_fAr, e_sSeq, e_sSkip, e_sSt, e_sSr, e_sInc, e_sRI, e_sRR, e_sRV, e_sIf, e_sCall, e_sPI, e_sPZ, e_sPR, e_sPO, e_sAI, e_sAZ, e_sAO, e_sAR, e_sPopI, e_sPopR, e_sCopy, e_mI, e_mZ, e_mR, e_mV, jAdd_n, jMul_n, z0, z1, Option.bind_some, List.getElem?_cons_zero, List.getElem?_cons_succ, List.set_cons_zero, List.set_cons_succ, eq_self, if_true, ite_and, ite_or, ite_I, ite_bI, ite_bJ, bI_ne, bI_01, List.cons_append, List.nil_append, Bool.false_eq_true, if_false, kT26 h, e]; rfl) ?_)
    refine wS_l (by simp only [e_fI, e_fLd, e_fLr, e_fB, e_fD, e_fC, e_fT, e_fAnd, e_fOr, e_fNot, e_fCC, e_fIf, e_gI, e_gR, e_aI, e_aR, e_aN, e_cV, e_cS, e_fNil, e_fAi, e_fAr, e_sSeq, e_sSkip, e_sSt, e_sSr, e_sInc, e_sRI, e_sRR, e_sRV, e_sIf, e_sCall, e_sPI, e_sPZ, e_sPR, e_sPO, e_sAI, e_sAZ, e_sAO, e_sAR, e_sPopI, e_sPopR, e_sCopy, e_mI, e_mZ, e_mR, e_mV, jAdd_n, jMul_n, z0, z1, Option.bind_some, List.getElem?_cons_zero, List.getElem?_cons_succ, List.set_cons_zero, List.set_cons_succ, eq_self, if_true, ite_and, ite_or, ite_I, ite_bI, ite_bJ, bI_ne, bI_01, List.cons_append, List.nil_append, Bool.false_eq_true, if_false, nI_add]; rfl) ?_
    refine ⟨ω, rfl, rfl, fun e' he => ?_, hF.t (r2.d (by omega) (by omega))⟩
    by_cases q : e' = d
    · rw [q]; exact r1
    · exact (hGw e' (by omega)).o r2 (fun a i k1 k2 => by rcases k1 with k1 | k1 <;> rcases k2 with k2 | k2 <;> omega)
  · rintro _ _ ⟨τ, rfl, rfl, hGw, hF⟩
    have k18 : τ 26 18 = nI (yW w) := by rw [hF 26 18 (fun k => by unfold PC at k; omega)]; exact ey
    refine wSeq (wS_l (by simp only [e_fI, e_fLd, e_fLr, e_fB, e_fD, e_fC, e_fT, e_fAnd, e_fOr, e_fNot, e_fCC, e_fIf, e_gI, e_gR, e_aI, e_aR, e_aN, e_cV, e_cS, e_fNil, e_fAi, e_fAr, e_sSeq, e_sSkip, e_sSt, e_sSr, e_sInc, e_sRI, e_sRR, e_sRV, e_sIf, e_sCall, e_sPI, e_sPZ, e_sPR, e_sPO, e_sAI, e_sAZ, e_sAO, e_sAR, e_sPopI, e_sPopR, e_sCopy, e_mI, e_mZ, e_mR, e_mV, jAdd_n, jMul_n, z0, z1, Option.bind_some, List.getElem?_cons_zero, List.getElem?_cons_succ, List.set_cons_zero, List.set_cons_succ, eq_self, if_true, ite_and, ite_or, ite_I, ite_bI, ite_bJ, bI_ne, bI_01, List.cons_append, List.nil_append, Bool.false_eq_true, if_false, gT26_18 h, k18, pT26_19 h]; rfl) ?_)
    refine wSeq (wS_l (by simp only [e_fI, e_fLd, e_fLr, e_fB, e_fD, e_fC, e_fT, e_fAnd, e_fOr, e_fNot, e_fCC, e_fIf, e_gI, e_gR, e_aI, e_aR, e_aN, e_cV, e_cS, e_fNil, e_fAi, e_fAr, e_sSeq, e_sSkip, e_sSt, e_sSr, e_sInc, e_sRI, e_sRR, e_sRV, e_sIf, e_sCall, e_sPI, e_sPZ, e_sPR, e_sPO, e_sAI, e_sAZ, e_sAO, e_sAR, e_sPopI, e_sPopR, e_sCopy, e_mI, e_mZ, e_mR, e_mV, jAdd_n, jMul_n, z0, z1, Option.bind_some, List.getElem?_cons_zero, List.getElem?_cons_succ, List.set_cons_zero, List.set_cons_succ, eq_self, if_true, ite_and, ite_or, ite_I, ite_bI, ite_bJ, bI_ne, bI_01, List.cons_append, List.nil_append, Bool.false_eq_true, if_false, pT26_18 h]; rfl) ?_)
    have hR1 : CPr (up τ 26 19 (nI (yW w))) w := hR.p (hF.u (Or.inr (Or.inr ⟨rfl, rfl⟩))) hy.2
    have hF1 : FL σ (up τ 26 19 (nI (yW w))) := FX.L (hF.u (Or.inr (Or.inr ⟨rfl, rfl⟩))) (fun a i k => by unfold PC at k; omega)
    have hR2 := hR1.y0
    have hG2 : ∀ e, e < yW w → RG (up (up τ 26 19 (nI (yW w))) 26 18 (nI 0)) (3 + e) (w.2.1 e) := fun e he => (hGw e he).o (FX.u (FX.u (FX.r (fun a _ => a = 26) τ) rfl) rfl) (fun a i q k => by rcases q with q | q <;> omega)
    obtain ⟨υ, et, q1, q2⟩ := r_travel (z := yW w) (G := w.2.1) h hR2 hW.y0 hG2 (fun e he => hW.py he) rfl hy.2
    have e1 : tW (setV w 0 4 (nI 0)) = tW w := rfl
    rw [e1] at et
    refine wS_r (by simp only [e_fI, e_fLd, e_fLr, e_fB, e_fD, e_fC, e_fT, e_fAnd, e_fOr, e_fNot, e_fCC, e_fIf, e_gI, e_gR, e_aI, e_aR, e_aN, e_cV, e_cS, e_fNil, e_fAi, e_fAr, e_sSeq, e_sSkip, e_sSt, e_sSr, e_sInc, e_sRI, e_sRR, e_sRV, e_sIf, e_sCall, e_sPI, e_sPZ, e_sPR, e_sPO, e_sAI, e_sAZ, e_sAO, e_sAR, e_sPopI, e_sPopR, e_sCopy, e_mI, e_mZ, e_mR, e_mV, jAdd_n, jMul_n, z0, z1, Option.bind_some, List.getElem?_cons_zero, List.getElem?_cons_succ, List.set_cons_zero, List.set_cons_succ, eq_self, if_true, ite_and, ite_or, ite_I, ite_bI, ite_bJ, bI_ne, bI_01, List.cons_append, List.nil_append, Bool.false_eq_true, if_false, kT26 h, et]; rfl) ?_
    exact ⟨rfl, υ, rfl, q1, (hF1.u (by omega)).t q2⟩
end RCC
