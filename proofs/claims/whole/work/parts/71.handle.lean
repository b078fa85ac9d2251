/-! the reference: a datagram at a station -/
theorem okF.of {A B : sg} (h : okF A) (k : ∀ c, c < 4 → B 4 (48 + c) = A 4 (48 + c) ∨ B 4 (48 + c) = nI 0 ∨ B 4 (48 + c) = nI 1) : okF B := fun c hc => by
  rcases k c hc with e | e
  · rw [e]; exact h c hc
  · exact e
theorem okF.pl {A : sg} {b : Nat} {v : Int32} (h : okF A) : okF (plA A b v) := h.of (fun c hc => by
  unfold plA
  split
  · exact Or.inl rfl
  rename_i h1
  split
  · rw [up_ne (by omega)]
    unfold up
    rw [if_neg (by omega)]
    exact Or.inl rfl
  split
  · unfold wipA
    by_cases q : c = (b - 32) / 4
    · refine Or.inr (Or.inl ?_)
      unfold up
      rw [if_pos ⟨rfl, by omega⟩]
    · refine Or.inl ?_
      unfold up clrA
      rw [if_neg (by omega), if_neg (by omega), if_neg (by omega)]
      show (if 4 = 4 ∧ 48 + c = b then v else A 4 (48 + c)) = A 4 (48 + c)
      rw [if_neg (by omega)]
  · unfold up
    rw [if_neg (by omega)]
    exact Or.inl rfl)
theorem okF.ch {A : sg} {d i : Nat} {v : Int32} (h : okF A) (hd : d < 4) : okF (chA A d i v) := h.of (fun c hc => by
  unfold chA
  split
  · unfold up
    by_cases q : c = d
    · exact Or.inr (Or.inr (if_pos ⟨rfl, by omega⟩))
    · rw [if_neg (by omega), if_neg (by omega)]
      exact Or.inl rfl
  · rw [up_ne (by omega)]
    exact Or.inl rfl)
theorem okF.cm {A : sg} {d : Nat} (h : okF A) : okF (cmA A d) := h.of (fun c hc => by rw [cm_4]; exact Or.inl rfl)
theorem okF.w1 {A : sg} {b : Nat} {v : Int32} (h : okF A) (hok : okA A) (hb : b < 128) : okF (W1 A b v) := by
  unfold W1
  rcases own_d hok.b hb with e | ⟨e, -, hc, -⟩
  · rw [if_pos e]
    exact h.pl
  · rw [if_neg e]
    split
    · exact h.ch hc
    split
    · exact (h.ch hc).cm
    · exact h.ch hc
theorem okF.cw {A : sg} {f : Nat} {r m : Nat → Int32} (h : okF A) (hok : okA A) : ∀ k, f + k ≤ 128 → (∀ j, j < k → byt (r j)) → okF (cW A f r m k)
  | 0, _, _ => h
  | k + 1, hk, hr => (okF.cw h hok k (by omega) (fun j hj => hr j (by omega))).w1 (hok.cw k (by omega) (fun j hj => hr j (by omega))) (by omega)
theorem okF.dir {A G : sg} (h : okF A) (hok : okA A) (hg : okG G) : okF (dirS A G) := by
  obtain ⟨-, hf, -, h1, h8, hb⟩ := hg
  unfold dirS
  split
  · split
    · rename_i q
      unfold okD at q
      have := of_decide_eq_true (Bool.and_eq_true_iff.mp q).1
      exact h.cw hok _ this (fun j hj => hb j (by omega))
    · exact h
  · split
    · exact h.rd
    · exact h
theorem mpA_F {C : Nat → Int32} {w : Int32} {a k m : Nat} {T : mpT} (hk : k ≤ 8) (hok : okA T.1) (h : okF T.1) : okF (mpA C w a k m T).1 := by
  unfold mpA
  split
  · rename_i q
    obtain ⟨r1, r2, r3⟩ := mrow hk q
    unfold mpW
    split
    · exact (mpR_F h).cw (mpR_A hok) _ (by omega) (fun j _ => byt_pir _ _)
    · exact mpR_F h
  · exact h
theorem mpL_F {C : Nat → Int32} {w : Int32} {a k : Nat} {T : mpT} (hk : k ≤ 8) (hok : okA T.1) (hX : ∀ j, j < 8 → byt (T.2.1 j)) (h : okF T.1) : ∀ m, okF (mpL C w a k T m).1
  | 0 => h
  | m + 1 => mpA_F hk (mpL_ok hk hok hX m).1 (mpL_F hk hok hX h m)
theorem dirP_F {A G : sg} {b : Bool} (h : okF A) (hok : okA A) (hg : okG G) : okF (dirP A G b).1 := by
  unfold dirP
  split
  · exact h.dir hok hg
  · exact h
theorem pf_F {A G : sg} (h : okF A) (hok : okA A) (hg : okP G) : okF (pf A G).1 := by
  obtain ⟨c, hc, e0, h1, h2⟩ := hg
  rw [pf_e e0 (by omega)]
  split
  · dsimp only
    exact dirP_F h hok (h1 (by omega))
  split
  · exact dirP_F h hok (h1 (by omega))
  split
  · dsimp only
    exact dirP_F h hok (h1 (by omega))
  · dsimp only
    unfold lgT
    exact mpL_F (T := (A, G 1, false, false)) h2.2.2.2.2.1 hok h2.2.2.2.2.2 h 4
theorem HC.nd {s d d' a i : Nat} (hne : d ≠ d') (h : DC d' a i) : ¬ HC s d a i := fun q => by
  rcases q with q | q | q | q | q
  · have := q.b
    rcases h with h | h <;> omega
  · rcases h with h | h <;> rcases q with q | q <;> omega
  all_goals rcases h with h | h <;> omega
theorem ctr {x : Int32} {r w b : Bool} : jAdd x (jAdd (bI r) (if (!w) = true then nI 0 else if b = true then nI 2 else nI 1)) = if w = true then jAdd (if r = true then jAdd x (nI 1) else x) (if b = true then nI 2 else nI 1) else if r = true then jAdd x (nI 1) else x := by
  have as : ∀ y z : Int32, jAdd x (jAdd y z) = jAdd (jAdd x y) z := fun y z => by
    unfold jAdd
    exact (Int32.add_assoc x y z).symm
  have z0 : ∀ y : Int32, jAdd y (nI 0) = y := fun y => by
    rw [nI_0]
    unfold jAdd
    exact Int32.add_zero y
  rw [as]
  cases r <;> cases w
  · rw [bI_f, z0]
    exact z0 x
  · rw [bI_f, z0]
    rfl
  · rw [bI_t]
    exact z0 _
  · rw [bI_t]
    rfl
section HND
variable {n s d : Nat} {σ A G : sg}
theorem q_R_handleL {c : Nat} (h : okB n) (hA : RR σ s A) (hs6 : s < 6) (hok : okA A) (hf : okF A) (hG : RG σ d G) (hd : d < 9) (hg : okH G) (ec : G 0 0 = nI c) (hc : 10 ≤ c) (hc2 : c < 13) : ∃ τ, G_R_handle [.ref 26, .int (nI s), .int (nI d)] (hs n σ) = some (hs n τ) ∧ RR τ s (lgT A G).1 ∧ RG τ d (lgG A G) ∧ FX (HC s d) σ τ := by
  obtain ⟨g1, ha, g3, hk1, hk8, hgb⟩ := hg
  have c22 : σ 44 d = nI c := (hG.1 0 (by omega)).trans ec
  refine mV_s (Nat.le_of_ble_eq_true rfl) ?_
  simp only [jx_L0, List.map_cons, List.map_nil, List.length_cons, List.length_nil, Nat.reduceAdd, Nat.reduceSub, List.replicate, List.cons_append, List.nil_append]
  unfold P_R_handle
  refine wSeq (wS_l (by simp only [e_fI, e_fLd, e_fLr, e_fB, e_fD, e_fC, e_fT, e_fAnd, e_fOr, e_fNot, e_fCC, e_fIf, e_gI, e_gR, e_aI, e_aR, e_aN, e_cV, e_cS, e_fNil, e_fAi, e_fAr, e_sSeq, e_sSkip, e_sSt, e_sSr, e_sInc, e_sRI, e_sRR, e_sRV, e_sIf, e_sCall, e_sPI, e_sPZ, e_sPR, e_sPO, e_sAI, e_sAZ, e_sAO, e_sAR, e_sPopI, e_sPopR, e_sCopy, e_mI, e_mZ, e_mR, e_mV, jAdd_n, jMul_n, z0, z1, Option.bind_some, List.getElem?_cons_zero, List.getElem?_cons_succ, List.set_cons_zero, List.set_cons_succ, eq_self, if_true, ite_and, ite_or, ite_I, ite_bI, ite_bJ, bI_ne, bI_01, List.cons_append, List.nil_append, Bool.false_eq_true, if_false, gT26_22 h, iT44 h hd, c22]; rfl) ?_)
  refine wSeq (wIf (by simp only [e_fI, e_fLd, e_fLr, e_fB, e_fD, e_fC, e_fT, e_fAnd, e_fOr, e_fNot, e_fCC, e_fIf, e_gI, e_gR, e_aI, e_aR, e_aN, e_cV, e_cS, e_fNil, e_fAi, e_fAr, e_sSeq, e_sSkip, e_sSt, e_sSr, e_sInc, e_sRI, e_sRR, e_sRV, e_sIf, e_sCall, e_sPI, e_sPZ, e_sPR, e_sPO, e_sAI, e_sAZ, e_sAO, e_sAR, e_sPopI, e_sPopR, e_sCopy, e_mI, e_mZ, e_mR, e_mV, jAdd_n, jMul_n, z0, z1, Option.bind_some, List.getElem?_cons_zero, List.getElem?_cons_succ, List.set_cons_zero, List.set_cons_succ, eq_self, if_true, ite_and, ite_or, ite_I, ite_bI, ite_bJ, bI_ne, bI_01, List.cons_append, List.nil_append, Bool.false_eq_true, if_false, jGe, nI_leI (show 10 < 2 ^ 31 by omega) (show c < 2 ^ 31 by omega)]; rfl) (fun hb => ?_) (fun hb => ?_))
  rotate_left 1
  · exact absurd hc (of_decide_eq_false hb)
  clear hb
  refine wSeq (wS_l (by simp only [e_fI, e_fLd, e_fLr, e_fB, e_fD, e_fC, e_fT, e_fAnd, e_fOr, e_fNot, e_fCC, e_fIf, e_gI, e_gR, e_aI, e_aR, e_aN, e_cV, e_cS, e_fNil, e_fAi, e_fAr, e_sSeq, e_sSkip, e_sSt, e_sSr, e_sInc, e_sRI, e_sRR, e_sRV, e_sIf, e_sCall, e_sPI, e_sPZ, e_sPR, e_sPO, e_sAI, e_sAZ, e_sAO, e_sAR, e_sPopI, e_sPopR, e_sCopy, e_mI, e_mZ, e_mR, e_mV, jAdd_n, jMul_n, z0, z1, Option.bind_some, List.getElem?_cons_zero, List.getElem?_cons_succ, List.set_cons_zero, List.set_cons_succ, eq_self, if_true, ite_and, ite_or, ite_I, ite_bI, ite_bJ, bI_ne, bI_01, List.cons_append, List.nil_append, Bool.false_eq_true, if_false, kT26 h, pT26_30 h]; rfl) ?_)
  refine wSeq (wS_l (by simp only [e_fI, e_fLd, e_fLr, e_fB, e_fD, e_fC, e_fT, e_fAnd, e_fOr, e_fNot, e_fCC, e_fIf, e_gI, e_gR, e_aI, e_aR, e_aN, e_cV, e_cS, e_fNil, e_fAi, e_fAr, e_sSeq, e_sSkip, e_sSt, e_sSr, e_sInc, e_sRI, e_sRR, e_sRV, e_sIf, e_sCall, e_sPI, e_sPZ, e_sPR, e_sPO, e_sAI, e_sAZ, e_sAO, e_sAR, e_sPopI, e_sPopR, e_sCopy, e_mI, e_mZ, e_mR, e_mV, jAdd_n, jMul_n, z0, z1, Option.bind_some, List.getElem?_cons_zero, List.getElem?_cons_succ, List.set_cons_zero, List.set_cons_succ, eq_self, if_true, ite_and, ite_or, ite_I, ite_bI, ite_bJ, bI_ne, bI_01, List.cons_append, List.nil_append, Bool.false_eq_true, if_false, kT26 h, pT26_31 h]; rfl) ?_)
  have hF0 : FX (fun a i => a = 26 ∧ (i = 30 ∨ i = 31)) σ (up (up σ 26 30 (nI 0)) 26 31 (nI 0)) := ((FX.r _ σ).u ⟨rfl, Or.inl rfl⟩).u ⟨rfl, Or.inr rfl⟩
  have e30 : up (up σ 26 30 (nI 0)) 26 31 (nI 0) 26 30 = bI false := rfl
  have e31 : up (up σ 26 30 (nI 0)) 26 31 (nI 0) 26 31 = bI false := rfl
  generalize up (up σ 26 30 (nI 0)) 26 31 (nI 0) = τ at hF0 e30 e31 ⊢
  have hA1 : RR τ s A := hA.o hF0 (fun a i q k => by have := q.b; omega)
  have hG1 : RG τ d G := hG.o hF0 (fun a i q k => by rcases q with q | q <;> omega)
  refine wSeq (wSeq (wS_l (by simp only [e_fI, e_fLd, e_fLr, e_fB, e_fD, e_fC, e_fT, e_fAnd, e_fOr, e_fNot, e_fCC, e_fIf, e_gI, e_gR, e_aI, e_aR, e_aN, e_cV, e_cS, e_fNil, e_fAi, e_fAr, e_sSeq, e_sSkip, e_sSt, e_sSr, e_sInc, e_sRI, e_sRR, e_sRV, e_sIf, e_sCall, e_sPI, e_sPZ, e_sPR, e_sPO, e_sAI, e_sAZ, e_sAO, e_sAR, e_sPopI, e_sPopR, e_sCopy, e_mI, e_mZ, e_mR, e_mV, jAdd_n, jMul_n, z0, z1, Option.bind_some, List.getElem?_cons_zero, List.getElem?_cons_succ, List.set_cons_zero, List.set_cons_succ, eq_self, if_true, ite_and, ite_or, ite_I, ite_bI, ite_bJ, bI_ne, bI_01, List.cons_append, List.nil_append, Bool.false_eq_true, if_false]; rfl) ?_))
  refine wWh (I := fun i L H => ∃ ρ, L = [some (.ref 26), some (.int (nI s)), some (.int (nI d)), some (.int (nI c)), some (.int (nI i))] ∧ H = hs n ρ ∧ (∀ j, j < i → ρ 51 j = G 1 j) ∧ FX (fun a _ => a = 51) τ ρ) (e := 8) ?_ ?_ ?_ 600 0 _ _ (by omega) (by omega) ⟨τ, rfl, rfl, fun j hj => by omega, FX.r _ τ⟩
  · rintro i _ _ ⟨ρ, rfl, rfl, -⟩ hi
    simp only [e_fI, e_fLd, e_fLr, e_fB, e_fD, e_fC, e_fT, e_fAnd, e_fOr, e_fNot, e_fCC, e_fIf, e_gI, e_gR, e_aI, e_aR, e_aN, e_cV, e_cS, e_fNil, e_fAi, e_fAr, e_sSeq, e_sSkip, e_sSt, e_sSr, e_sInc, e_sRI, e_sRR, e_sRV, e_sIf, e_sCall, e_sPI, e_sPZ, e_sPR, e_sPO, e_sAI, e_sAZ, e_sAO, e_sAR, e_sPopI, e_sPopR, e_sCopy, e_mI, e_mZ, e_mR, e_mV, jAdd_n, jMul_n, z0, z1, Option.bind_some, List.getElem?_cons_zero, List.getElem?_cons_succ, List.set_cons_zero, List.set_cons_succ, eq_self, if_true, ite_and, ite_or, ite_I, ite_bI, ite_bJ, bI_ne, bI_01, List.cons_append, List.nil_append, Bool.false_eq_true, if_false, jLt, nI_ltI (show i < 2 ^ 31 by omega) (show 8 < 2 ^ 31 by omega)]
  · rintro i _ _ ⟨ρ, rfl, rfl, hV, hFρ⟩ hi
    have k49 : ρ 49 (8 * d + i) = G 1 i := by rw [hFρ 49 _ (by omega)]; exact hG1.2 i hi
    refine wSeq (wS_l (by simp only [e_fI, e_fLd, e_fLr, e_fB, e_fD, e_fC, e_fT, e_fAnd, e_fOr, e_fNot, e_fCC, e_fIf, e_gI, e_gR, e_aI, e_aR, e_aN, e_cV, e_cS, e_fNil, e_fAi, e_fAr, e_sSeq, e_sSkip, e_sSt, e_sSr, e_sInc, e_sRI, e_sRR, e_sRV, e_sIf, e_sCall, e_sPI, e_sPZ, e_sPR, e_sPO, e_sAI, e_sAZ, e_sAO, e_sAR, e_sPopI, e_sPopR, e_sCopy, e_mI, e_mZ, e_mR, e_mV, jAdd_n, jMul_n, z0, z1, Option.bind_some, List.getElem?_cons_zero, List.getElem?_cons_succ, List.set_cons_zero, List.set_cons_succ, eq_self, if_true, ite_and, ite_or, ite_I, ite_bI, ite_bJ, bI_ne, bI_01, List.cons_append, List.nil_append, Bool.false_eq_true, if_false, gT26_27 h, gT26_29 h, iT49 h (show 8 * d + i < 72 by omega), k49, wT51 h hi]; rfl) ?_)
    refine wS_l (by simp only [e_fI, e_fLd, e_fLr, e_fB, e_fD, e_fC, e_fT, e_fAnd, e_fOr, e_fNot, e_fCC, e_fIf, e_gI, e_gR, e_aI, e_aR, e_aN, e_cV, e_cS, e_fNil, e_fAi, e_fAr, e_sSeq, e_sSkip, e_sSt, e_sSr, e_sInc, e_sRI, e_sRR, e_sRV, e_sIf, e_sCall, e_sPI, e_sPZ, e_sPR, e_sPO, e_sAI, e_sAZ, e_sAO, e_sAR, e_sPopI, e_sPopR, e_sCopy, e_mI, e_mZ, e_mR, e_mV, jAdd_n, jMul_n, z0, z1, Option.bind_some, List.getElem?_cons_zero, List.getElem?_cons_succ, List.set_cons_zero, List.set_cons_succ, eq_self, if_true, ite_and, ite_or, ite_I, ite_bI, ite_bJ, bI_ne, bI_01, List.cons_append, List.nil_append, Bool.false_eq_true, if_false, nI_add]; rfl) ?_
    refine ⟨_, rfl, rfl, fun j hj => ?_, hFρ.u rfl⟩
    unfold up
    by_cases qj : j = i
    · rw [if_pos ⟨rfl, qj⟩, qj]
    · rw [if_neg (fun k => qj k.2)]
      exact hV j (by omega)
  rintro _ _ ⟨ρ, rfl, rfl, hV, hFρ⟩
  have hA2 : RR ρ s A := hA1.o hFρ (fun a i q k => by have := q.b; omega)
  have hG2 : RG ρ d G := hG1.o hFρ (fun a i q k => by rcases q with q | q <;> omega)
  have hM0 : RM ρ s d (A, G 1, false, false) := ⟨hA2, hG2.2, by rw [hFρ 26 30 (by omega)]; exact e30, by rw [hFρ 26 31 (by omega)]; exact e31⟩
  have hF1 : FX (HC s d) σ ρ := (hF0.m (fun a i q => Or.inr (Or.inr (Or.inr (Or.inr q))))).t (hFρ.m (fun a i q => Or.inr (Or.inr (Or.inr (Or.inl q)))))
  refine wSeq (wSeq (wS_l (by simp only [e_fI, e_fLd, e_fLr, e_fB, e_fD, e_fC, e_fT, e_fAnd, e_fOr, e_fNot, e_fCC, e_fIf, e_gI, e_gR, e_aI, e_aR, e_aN, e_cV, e_cS, e_fNil, e_fAi, e_fAr, e_sSeq, e_sSkip, e_sSt, e_sSr, e_sInc, e_sRI, e_sRR, e_sRV, e_sIf, e_sCall, e_sPI, e_sPZ, e_sPR, e_sPO, e_sAI, e_sAZ, e_sAO, e_sAR, e_sPopI, e_sPopR, e_sCopy, e_mI, e_mZ, e_mR, e_mV, jAdd_n, jMul_n, z0, z1, Option.bind_some, List.getElem?_cons_zero, List.getElem?_cons_succ, List.set_cons_zero, List.set_cons_succ, eq_self, if_true, ite_and, ite_or, ite_I, ite_bI, ite_bJ, bI_ne, bI_01, List.cons_append, List.nil_append, Bool.false_eq_true, if_false]; rfl) ?_))
  refine wWh (I := fun m L H => ∃ υ, L = [some (.ref 26), some (.int (nI s)), some (.int (nI d)), some (.int (nI c)), some (.int (nI m))] ∧ H = hs n υ ∧ RM υ s d (mpL (G 1) (G 0 0) (adN G) (kN G) (A, G 1, false, false) m) ∧ FX (MC s d) ρ υ) (e := 4) ?_ ?_ ?_ 600 0 _ _ (by omega) (by omega) ⟨ρ, rfl, rfl, hM0, FX.r _ ρ⟩
  · rintro i _ _ ⟨υ, rfl, rfl, -⟩ hi
    simp only [e_fI, e_fLd, e_fLr, e_fB, e_fD, e_fC, e_fT, e_fAnd, e_fOr, e_fNot, e_fCC, e_fIf, e_gI, e_gR, e_aI, e_aR, e_aN, e_cV, e_cS, e_fNil, e_fAi, e_fAr, e_sSeq, e_sSkip, e_sSt, e_sSr, e_sInc, e_sRI, e_sRR, e_sRV, e_sIf, e_sCall, e_sPI, e_sPZ, e_sPR, e_sPO, e_sAI, e_sAZ, e_sAO, e_sAR, e_sPopI, e_sPopR, e_sCopy, e_mI, e_mZ, e_mR, e_mV, jAdd_n, jMul_n, z0, z1, Option.bind_some, List.getElem?_cons_zero, List.getElem?_cons_succ, List.set_cons_zero, List.set_cons_succ, eq_self, if_true, ite_and, ite_or, ite_I, ite_bI, ite_bJ, bI_ne, bI_01, List.cons_append, List.nil_append, Bool.false_eq_true, if_false, jLt, nI_ltI (show i < 2 ^ 31 by omega) (show 4 < 2 ^ 31 by omega)]
  · rintro m _ _ ⟨υ, rfl, rfl, hM, hFu⟩ hi
    have no : ∀ a i, (44 ≤ a ∧ a ≤ 48 ∨ a = 51) → υ a i = ρ a i := fun a i q => hFu a i (fun k => by
      rcases k with k | k | k | k
      · have := k.b; omega
      all_goals omega)
    obtain ⟨υ', e, hM', hF'⟩ := q_R_map (m := m) (a := adN G) (k := kN G) (C := G 1) (w := G 0 0) h hs6 hd hi hM (mpL_ok (T := (A, G 1, false, false)) hk8 hok hgb m).1 (mpL_F (T := (A, G 1, false, false)) hk8 hok hgb hf m) (fun j hj => by rw [no 51 j (Or.inr rfl)]; exact hV j hj) (by rw [no 44 d (by omega)]; exact hG2.1 0 (by omega)) (by rw [no 45 d (by omega)]; exact (hG2.1 1 (by omega)).trans g1) (by rw [no 47 d (by omega)]; exact (hG2.1 3 (by omega)).trans g3) ha hk1 hk8
    refine wSeq (wS_l (by simp only [e_fI, e_fLd, e_fLr, e_fB, e_fD, e_fC, e_fT, e_fAnd, e_fOr, e_fNot, e_fCC, e_fIf, e_gI, e_gR, e_aI, e_aR, e_aN, e_cV, e_cS, e_fNil, e_fAi, e_fAr, e_sSeq, e_sSkip, e_sSt, e_sSr, e_sInc, e_sRI, e_sRR, e_sRV, e_sIf, e_sCall, e_sPI, e_sPZ, e_sPR, e_sPO, e_sAI, e_sAZ, e_sAO, e_sAR, e_sPopI, e_sPopR, e_sCopy, e_mI, e_mZ, e_mR, e_mV, jAdd_n, jMul_n, z0, z1, Option.bind_some, List.getElem?_cons_zero, List.getElem?_cons_succ, List.set_cons_zero, List.set_cons_succ, eq_self, if_true, ite_and, ite_or, ite_I, ite_bI, ite_bJ, bI_ne, bI_01, List.cons_append, List.nil_append, Bool.false_eq_true, if_false, kT26 h, e]; rfl) ?_)
    refine wS_l (by simp only [e_fI, e_fLd, e_fLr, e_fB, e_fD, e_fC, e_fT, e_fAnd, e_fOr, e_fNot, e_fCC, e_fIf, e_gI, e_gR, e_aI, e_aR, e_aN, e_cV, e_cS, e_fNil, e_fAi, e_fAr, e_sSeq, e_sSkip, e_sSt, e_sSr, e_sInc, e_sRI, e_sRR, e_sRV, e_sIf, e_sCall, e_sPI, e_sPZ, e_sPR, e_sPO, e_sAI, e_sAZ, e_sAO, e_sAR, e_sPopI, e_sPopR, e_sCopy, e_mI, e_mZ, e_mR, e_mV, jAdd_n, jMul_n, z0, z1, Option.bind_some, List.getElem?_cons_zero, List.getElem?_cons_succ, List.set_cons_zero, List.set_cons_succ, eq_self, if_true, ite_and, ite_or, ite_I, ite_bI, ite_bJ, bI_ne, bI_01, List.cons_append, List.nil_append, Bool.false_eq_true, if_false, nI_add]; rfl) ?_
    exact ⟨υ', rfl, rfl, hM', hFu.t hF'⟩
  rintro _ _ ⟨υ, rfl, rfl, hMu, hFu⟩
  have hL : mpL (G 1) (G 0 0) (adN G) (kN G) (A, G 1, false, false) 4 = lgT A G := by unfold lgT; rfl
  rw [hL] at hMu
  obtain ⟨hRu, hBu, k30', k31'⟩ := hMu
  have no : ∀ i, i < 5 → υ (44 + i) d = G 0 i := fun i hi => by
    rw [hFu _ _ (fun k => by
      rcases k with k | k | k | k
      · have := k.b; omega
      all_goals omega)]
    exact hG2.1 i hi
  have k26 : υ 48 d = G 0 4 := no 4 (by omega)
  have e12 : jEq (nI c) (nI 12) = decide (G 0 0 = nI 12) := by rw [ec]; rfl
  refine wSeq (wS_l (by simp only [e_fI, e_fLd, e_fLr, e_fB, e_fD, e_fC, e_fT, e_fAnd, e_fOr, e_fNot, e_fCC, e_fIf, e_gI, e_gR, e_aI, e_aR, e_aN, e_cV, e_cS, e_fNil, e_fAi, e_fAr, e_sSeq, e_sSkip, e_sSt, e_sSr, e_sInc, e_sRI, e_sRR, e_sRV, e_sIf, e_sCall, e_sPI, e_sPZ, e_sPR, e_sPO, e_sAI, e_sAZ, e_sAO, e_sAR, e_sPopI, e_sPopR, e_sCopy, e_mI, e_mZ, e_mR, e_mV, jAdd_n, jMul_n, z0, z1, Option.bind_some, List.getElem?_cons_zero, List.getElem?_cons_succ, List.set_cons_zero, List.set_cons_succ, eq_self, if_true, ite_and, ite_or, ite_I, ite_bI, ite_bJ, bI_ne, bI_01, List.cons_append, List.nil_append, Bool.false_eq_true, if_false, kT26 h, gT26_26 h, iT48 h hd, k26, gT26_30 h, gT26_31 h, k30', k31', ctr, wT48 h hd]; rfl) ?_)
  refine wS_r rfl ⟨rfl, _, rfl, ?_, ⟨fun i hi => ?_, fun i hi => ?_⟩, hF1.t (FX.u (hFu.m (fun a i q => ?_)) (Or.inr (Or.inl (Or.inl ⟨by omega, by omega, rfl⟩))))⟩
  · exact hRu.o ((FX.r (fun a _ => a = 48) υ).u rfl) (fun a i q k => by have := q.b; omega)
  · by_cases q : i = 4
    · subst q
      have e12' : (if jEq (nI c) (nI 12) = true then nI 2 else nI 1) = if G 0 0 = nI 12 then nI 2 else nI 1 := by
        rw [e12]
        simp only [decide_eq_true_eq]
      have e1 : lgG A G 0 4 = if (lgT A G).2.2.2 = true then jAdd (if (lgT A G).2.2.1 = true then jAdd (G 0 4) (nI 1) else G 0 4) (if G 0 0 = nI 12 then nI 2 else nI 1) else if (lgT A G).2.2.1 = true then jAdd (G 0 4) (nI 1) else G 0 4 := by
        unfold lgG
        rw [if_neg (show ¬ 0 = 1 by omega), if_pos (show 0 = 0 ∧ 4 = 4 from ⟨rfl, rfl⟩)]
      rw [e1, ← e12']
      unfold up
      rw [if_pos (show 44 + 4 = 48 ∧ d = d from ⟨rfl, rfl⟩)]
    · have e1 : lgG A G 0 i = G 0 i := by
        unfold lgG
        rw [if_neg (show ¬ 0 = 1 by omega), if_neg (show ¬ (0 = 0 ∧ i = 4) from fun k => q k.2)]
      rw [e1, up_ne (by omega)]
      exact no i hi
  · unfold lgG
    rw [if_pos rfl, up_ne (by omega)]
    exact hBu i hi
  · rcases q with q | q | q | q
    · exact Or.inl q
    · exact Or.inr (Or.inl (Or.inr q))
    · exact Or.inr (Or.inr (Or.inl q))
    · exact Or.inr (Or.inr (Or.inr (Or.inr q)))
theorem ite_BB {h : hp_H} {x y z : Bool} : (if x = true then some (y, h) else some (z, h)) = some ((if x = true then y else z), h) := by cases x <;> rfl
def itB (A G : sg) (c : Nat) : Bool := if c ≤ 2 then jEq (G 0 1) 0 else if c ≤ 5 then jEq (G 0 1) (A 4 0) else true
theorem q_R_handleD {c : Nat} (h : okB n) (hA : RR σ s A) (hs6 : s < 6) (hok : okA A) (hf : okF A) (hG : RG σ d G) (hd : d < 9) (hg : okG G) (ec : G 0 0 = nI c) (hc : c = 1 ∨ c = 2 ∨ c = 4 ∨ c = 5 ∨ c = 7 ∨ c = 8) : ∃ τ, G_R_handle [.ref 26, .int (nI s), .int (nI d)] (hs n σ) = some (hs n τ) ∧ RR τ s (dirP A G (itB A G c)).1 ∧ RG τ d (if c = 4 ∨ c = 5 then (dirP A G (itB A G c)).2 else incG (dirP A G (itB A G c)).2) ∧ FX (HC s d) σ τ := by
  have c22 : σ 44 d = nI c := (hG.1 0 (by omega)).trans ec
  have c23 : σ 45 d = G 0 1 := hG.1 1 (by omega)
  refine mV_s (Nat.le_of_ble_eq_true rfl) ?_
  simp only [jx_L0, List.map_cons, List.map_nil, List.length_cons, List.length_nil, Nat.reduceAdd, Nat.reduceSub, List.replicate, List.cons_append, List.nil_append]
  unfold P_R_handle
  refine wSeq (wS_l (by simp only [e_fI, e_fLd, e_fLr, e_fB, e_fD, e_fC, e_fT, e_fAnd, e_fOr, e_fNot, e_fCC, e_fIf, e_gI, e_gR, e_aI, e_aR, e_aN, e_cV, e_cS, e_fNil, e_fAi, e_fAr, e_sSeq, e_sSkip, e_sSt, e_sSr, e_sInc, e_sRI, e_sRR, e_sRV, e_sIf, e_sCall, e_sPI, e_sPZ, e_sPR, e_sPO, e_sAI, e_sAZ, e_sAO, e_sAR, e_sPopI, e_sPopR, e_sCopy, e_mI, e_mZ, e_mR, e_mV, jAdd_n, jMul_n, z0, z1, Option.bind_some, List.getElem?_cons_zero, List.getElem?_cons_succ, List.set_cons_zero, List.set_cons_succ, eq_self, if_true, ite_and, ite_or, ite_I, ite_bI, ite_bJ, bI_ne, bI_01, List.cons_append, List.nil_append, Bool.false_eq_true, if_false, gT26_22 h, iT44 h hd, c22]; rfl) ?_)
  refine wSeq (wIf (by simp only [e_fI, e_fLd, e_fLr, e_fB, e_fD, e_fC, e_fT, e_fAnd, e_fOr, e_fNot, e_fCC, e_fIf, e_gI, e_gR, e_aI, e_aR, e_aN, e_cV, e_cS, e_fNil, e_fAi, e_fAr, e_sSeq, e_sSkip, e_sSt, e_sSr, e_sInc, e_sRI, e_sRR, e_sRV, e_sIf, e_sCall, e_sPI, e_sPZ, e_sPR, e_sPO, e_sAI, e_sAZ, e_sAO, e_sAR, e_sPopI, e_sPopR, e_sCopy, e_mI, e_mZ, e_mR, e_mV, jAdd_n, jMul_n, z0, z1, Option.bind_some, List.getElem?_cons_zero, List.getElem?_cons_succ, List.set_cons_zero, List.set_cons_succ, eq_self, if_true, ite_and, ite_or, ite_I, ite_bI, ite_bJ, bI_ne, bI_01, List.cons_append, List.nil_append, Bool.false_eq_true, if_false, jGe, nI_leI (show 10 < 2 ^ 31 by omega) (show c < 2 ^ 31 by omega)]; rfl) (fun hb => ?_) (fun hb => ?_))
  · have := of_decide_eq_true hb
    omega
  clear hb
  refine wS_l rfl ?_
  have ei : (if jGe (nI c) (nI 7) = true then true else if jLe (nI c) (nI 2) = true then jEq (G 0 1) 0 else jEq (G 0 1) (A 4 0)) = itB A G c := by
    unfold itB
    rcases hc with rfl | rfl | rfl | rfl | rfl | rfl <;> simp (decide := true)
  refine wSeq (wS_l (by simp only [e_fI, e_fLd, e_fLr, e_fB, e_fD, e_fC, e_fT, e_fAnd, e_fOr, e_fNot, e_fCC, e_fIf, e_gI, e_gR, e_aI, e_aR, e_aN, e_cV, e_cS, e_fNil, e_fAi, e_fAr, e_sSeq, e_sSkip, e_sSt, e_sSr, e_sInc, e_sRI, e_sRR, e_sRV, e_sIf, e_sCall, e_sPI, e_sPZ, e_sPR, e_sPO, e_sAI, e_sAZ, e_sAO, e_sAR, e_sPopI, e_sPopR, e_sCopy, e_mI, e_mZ, e_mR, e_mV, jAdd_n, jMul_n, z0, z1, Option.bind_some, List.getElem?_cons_zero, List.getElem?_cons_succ, List.set_cons_zero, List.set_cons_succ, eq_self, if_true, ite_and, ite_or, ite_I, ite_bI, ite_bJ, bI_ne, bI_01, List.cons_append, List.nil_append, Bool.false_eq_true, if_false, kT26 h, gT26_23 h, iT45 h hd, c23, q_R_at h hA hs6 (show 0 < 128 by omega), ite_BB, ei]; rfl) ?_)
  refine wSeq (wMono (Q' := fun L1 h1 => ∃ τ, L1 = [some (.ref 26), some (.int (nI s)), some (.int (nI d)), some (.int (nI c)), some (.int (bI (itB A G c)))] ∧ h1 = hs n τ ∧ RR τ s (dirP A G (itB A G c)).1 ∧ RG τ d (dirP A G (itB A G c)).2 ∧ FX (HC s d) σ τ) ?_ ?_ (fun _ _ q => q))
  · unfold dirP
    refine wIf (by simp only [e_fI, e_fLd, e_fLr, e_fB, e_fD, e_fC, e_fT, e_fAnd, e_fOr, e_fNot, e_fCC, e_fIf, e_gI, e_gR, e_aI, e_aR, e_aN, e_cV, e_cS, e_fNil, e_fAi, e_fAr, e_sSeq, e_sSkip, e_sSt, e_sSr, e_sInc, e_sRI, e_sRR, e_sRV, e_sIf, e_sCall, e_sPI, e_sPZ, e_sPR, e_sPO, e_sAI, e_sAZ, e_sAO, e_sAR, e_sPopI, e_sPopR, e_sCopy, e_mI, e_mZ, e_mR, e_mV, jAdd_n, jMul_n, z0, z1, Option.bind_some, List.getElem?_cons_zero, List.getElem?_cons_succ, List.set_cons_zero, List.set_cons_succ, eq_self, if_true, ite_and, ite_or, ite_I, ite_bI, ite_bJ, bI_ne, bI_01, List.cons_append, List.nil_append, Bool.false_eq_true, if_false]; rfl) (fun hb => ?_) (fun hb => ?_)
    · rw [if_pos hb]
      obtain ⟨τ, e, r1, r2, r3⟩ := q_R_touch h hA hs6 hok hf hG hd hg ec hc
      refine wS_l (by simp only [e_fI, e_fLd, e_fLr, e_fB, e_fD, e_fC, e_fT, e_fAnd, e_fOr, e_fNot, e_fCC, e_fIf, e_gI, e_gR, e_aI, e_aR, e_aN, e_cV, e_cS, e_fNil, e_fAi, e_fAr, e_sSeq, e_sSkip, e_sSt, e_sSr, e_sInc, e_sRI, e_sRR, e_sRV, e_sIf, e_sCall, e_sPI, e_sPZ, e_sPR, e_sPO, e_sAI, e_sAZ, e_sAO, e_sAR, e_sPopI, e_sPopR, e_sCopy, e_mI, e_mZ, e_mR, e_mV, jAdd_n, jMul_n, z0, z1, Option.bind_some, List.getElem?_cons_zero, List.getElem?_cons_succ, List.set_cons_zero, List.set_cons_succ, eq_self, if_true, ite_and, ite_or, ite_I, ite_bI, ite_bJ, bI_ne, bI_01, List.cons_append, List.nil_append, Bool.false_eq_true, if_false, kT26 h, e]; rfl) ?_
      exact ⟨τ, rfl, rfl, r1, r2, r3⟩
    · rw [hb, if_neg Bool.false_ne_true]
      exact wS_l rfl ⟨σ, rfl, rfl, hA, hG, FX.r _ σ⟩
  rintro _ _ ⟨τ, rfl, rfl, r1, r2, r3⟩
  have k23 : τ 45 d = (dirP A G (itB A G c)).2 0 1 := r2.1 1 (by omega)
  have e45 : (jNe (nI c) (nI 4) && jNe (nI c) (nI 5)) = decide (¬ (c = 4 ∨ c = 5)) := by
    rcases hc with rfl | rfl | rfl | rfl | rfl | rfl <;> decide
  refine wSeq (wIf (by simp only [e_fI, e_fLd, e_fLr, e_fB, e_fD, e_fC, e_fT, e_fAnd, e_fOr, e_fNot, e_fCC, e_fIf, e_gI, e_gR, e_aI, e_aR, e_aN, e_cV, e_cS, e_fNil, e_fAi, e_fAr, e_sSeq, e_sSkip, e_sSt, e_sSr, e_sInc, e_sRI, e_sRR, e_sRV, e_sIf, e_sCall, e_sPI, e_sPZ, e_sPR, e_sPO, e_sAI, e_sAZ, e_sAO, e_sAR, e_sPopI, e_sPopR, e_sCopy, e_mI, e_mZ, e_mR, e_mV, jAdd_n, jMul_n, z0, z1, Option.bind_some, List.getElem?_cons_zero, List.getElem?_cons_succ, List.set_cons_zero, List.set_cons_succ, eq_self, if_true, ite_and, ite_or, ite_I, ite_bI, ite_bJ, bI_ne, bI_01, List.cons_append, List.nil_append, Bool.false_eq_true, if_false, e45]; rfl) (fun hb => ?_) (fun hb => ?_))
  · rw [if_neg (of_decide_eq_true hb)]
    refine wS_l (by simp only [e_fI, e_fLd, e_fLr, e_fB, e_fD, e_fC, e_fT, e_fAnd, e_fOr, e_fNot, e_fCC, e_fIf, e_gI, e_gR, e_aI, e_aR, e_aN, e_cV, e_cS, e_fNil, e_fAi, e_fAr, e_sSeq, e_sSkip, e_sSt, e_sSr, e_sInc, e_sRI, e_sRR, e_sRV, e_sIf, e_sCall, e_sPI, e_sPZ, e_sPR, e_sPO, e_sAI, e_sAZ, e_sAO, e_sAR, e_sPopI, e_sPopR, e_sCopy, e_mI, e_mZ, e_mR, e_mV, jAdd_n, jMul_n, z0, z1, Option.bind_some, List.getElem?_cons_zero, List.getElem?_cons_succ, List.set_cons_zero, List.set_cons_succ, eq_self, if_true, ite_and, ite_or, ite_I, ite_bI, ite_bJ, bI_ne, bI_01, List.cons_append, List.nil_append, Bool.false_eq_true, if_false, gT26_23 h, iT45 h hd, k23, wT45 h hd]; rfl) ?_
    refine wS_r rfl ⟨rfl, _, rfl, ?_, r2.u0 (i := 1) (by omega), r3.u (Or.inr (Or.inl (Or.inl ⟨by omega, by omega, rfl⟩)))⟩
    exact r1.o ((FX.r (fun a _ => a = 45) τ).u rfl) (fun a i q k => by have := q.b; omega)
  · rw [if_pos (Classical.not_not.mp (of_decide_eq_false hb))]
    refine wS_l rfl ?_
    exact wS_r rfl ⟨rfl, τ, rfl, r1, r2, r3⟩
theorem q_R_handle (h : okB n) (hA : RR σ s A) (hs6 : s < 6) (hok : okA A) (hf : okF A) (hG : RG σ d G) (hd : d < 9) (hg : okP G) : ∃ τ, G_R_handle [.ref 26, .int (nI s), .int (nI d)] (hs n σ) = some (hs n τ) ∧ RR τ s (pf A G).1 ∧ RG τ d (pf A G).2 ∧ FX (HC s d) σ τ := by
  obtain ⟨c, hc, e0, h1, h2⟩ := hg
  rw [pf_e e0 (by omega)]
  by_cases q : 10 ≤ c
  · rw [if_neg (by omega), if_neg (by omega), if_neg (by omega)]
    dsimp only
    exact q_R_handleL h hA hs6 hok hf hG hd h2 e0 q (by omega)
  · obtain ⟨τ, e, r1, r2, r3⟩ := q_R_handleD h hA hs6 hok hf hG hd (h1 (by omega)) e0 (by omega)
    refine ⟨τ, e, ?_⟩
    unfold itB at r1 r2
    by_cases c1 : c = 1 ∨ c = 2
    · rw [if_pos c1]
      dsimp only
      rw [if_pos (show c ≤ 2 by omega)] at r1 r2
      rw [if_neg (by omega)] at r2
      exact ⟨r1, r2, r3⟩
    rw [if_neg c1]
    by_cases c2 : c = 4 ∨ c = 5
    · rw [if_pos c2]
      rw [if_neg (show ¬ c ≤ 2 by omega), if_pos (show c ≤ 5 by omega)] at r1 r2
      rw [if_pos c2] at r2
      exact ⟨r1, r2, r3⟩
    · rw [if_neg c2, if_pos (by omega)]
      dsimp only
      rw [if_neg (show ¬ c ≤ 2 by omega), if_neg (show ¬ c ≤ 5 by omega)] at r1 r2
      rw [if_neg c2] at r2
      exact ⟨r1, r2, r3⟩
end HND
