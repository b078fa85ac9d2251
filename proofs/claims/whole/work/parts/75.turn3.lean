/-! the reference: a tick of a station, all together -/
section TU3
variable {A : sg} {y2 y3 : Int32}
theorem s23_id : st23 A (A 4 2) (A 4 3) = A := by
  funext j i
  unfold st23 up
  by_cases q3 : j = 4 ∧ i = 3
  · rw [if_pos q3, q3.1, q3.2]
  · rw [if_neg q3]
    by_cases q2 : j = 4 ∧ i = 2
    · rw [if_pos q2, q2.1, q2.2]
    · rw [if_neg q2]
theorem s23_c {j0 j1 k : Nat} (h0 : j0 ≠ 4) (h1 : j1 ≠ 4) : st23 (cpy A j0 0 j1 0 k) y2 y3 = cpy (st23 A y2 y3) j0 0 j1 0 k := by
  funext j i
  by_cases q : j = 4
  · subst q
    rw [cpy_ne (Ne.symm h1)]
    unfold st23 up
    rw [cpy_ne (Ne.symm h1)]
  · rw [s23_j q]
    unfold cpy
    rw [s23_j h0, s23_j q]
theorem s23_f {j0 k : Nat} {v : Int32} (h0 : j0 ≠ 4) : st23 (fil A j0 k v) y2 y3 = fil (st23 A y2 y3) j0 k v := by
  funext j i
  by_cases q : j = 4
  · subst q
    rw [fil_ne (Ne.symm h0)]
    unfold st23 up
    rw [fil_ne (Ne.symm h0)]
  · rw [s23_j q]
    unfold fil
    rw [s23_j q]
theorem s23_wk {v : Int32} : ∀ i, st23 (wmk A 12 v i) y2 y3 = wmk (st23 A y2 y3) 12 v i
  | 0 => rfl
  | i + 1 => by
    show st23 (up _ _ _ _) y2 y3 = up _ _ _ _
    rw [s23_u (by omega), s23_wk i]
theorem s23_wm {k x v : Int32} : st23 (wm A 12 k x v) y2 y3 = wm (st23 A y2 y3) 12 k x v := by
  unfold wm
  rw [s23_wk, s23_u (by omega), s23_u (by omega)]
theorem s23_dm {k v : Int32} {x : Nat} : st23 (dmA A k x v) y2 y3 = dmA (st23 A y2 y3) k x v := by
  unfold dmA
  rw [s23_j (by omega)]
  split
  · exact s23_wm
  split
  · exact s23_wm
  split
  · exact s23_wm
  split
  · rw [s23_wm, s23_u (by omega)]
  · exact s23_wm
theorem s23_r2 : st23 (rpZ A) y2 y3 = rpZ (st23 A y2 y3) := by
  unfold rpZ
  rw [s23_u (by omega), s23_u (by omega), s23_u (by omega), s23_j (by omega)]
theorem s23_vl : vlA (st23 A y2 y3) = vlA A := by
  unfold vlA
  rw [s23_j (by omega)]
theorem mdA.e {B : sg} {m k : Nat} (h : mdA A m k) (e : ∀ i, i = 2 ∨ i = 3 → B 4 i = A 4 i) : mdA B m k := by
  unfold mdA
  rw [e 2 (Or.inl rfl), e 3 (Or.inr rfl)]
  exact h
theorem en1_37 {w x : Int32} : en1 (up A 3 7 x) w = up (en1 A w) 3 7 x := by
  unfold en1
  have : prA (up A 3 7 x) = prA A := by unfold prA; rw [up_ne (by omega)]
  rw [this]
  split
  · rw [up_cm (by omega)]
  · rfl
theorem en2_37 {w x : Int32} : en2 (up A 3 7 x) w = up (en2 A w) 3 7 x := by
  unfold en2
  have : prA (up A 3 7 x) = prA A := by unfold prA; rw [up_ne (by omega)]
  rw [this]
  split
  · rw [up_cm (by omega)]
  · rfl
theorem bc_37 {w c x : Int32} : bcA (up A 3 7 x) w c = up (bcA A w c) 3 7 x := by
  unfold bcA
  rw [up_cm (a := 3) (b := 4) (by omega), up_cm (a := 3) (b := 4) (by omega)]
theorem obj_37 {w x : Int32} : obj (up A 3 7 x) w = obj A w := by
  have e4 : up A 3 7 x 4 = A 4 := up_ne (by omega)
  have e0 : up A 3 7 x 0 = A 0 := up_ne (by omega)
  have e15 : up A 3 7 x 15 = A 15 := up_ne (by omega)
  have e8 : up A 3 7 x 3 8 = A 3 8 := by unfold up; rw [if_neg (by omega)]
  unfold obj mbA suA opA prA
  rw [e4, e0, e15, e8]
theorem ob1_37 {x : Int32} : ob1 (up A 3 7 x) = up (ob1 A) 3 7 x := by
  have e4 : up A 3 7 x 4 = A 4 := up_ne (by omega)
  unfold ob1
  rw [obj_37, e4]
  have : prA (up A 3 7 x) = prA A := by unfold prA; rw [e4]
  rw [this]
  split
  · rfl
  split
  · exact bc_37
  · unfold enA
    rw [en1_37, en2_37, bc_37]
theorem ob_e (h : A 3 7 = nI 0 ∨ A 3 7 = nI 1) : obA A = up (if jNe (A 3 7) 0 = true then ob1 A else A) 3 7 (nI 0) := by
  unfold obA
  rcases h with e | e
  · rw [e, if_pos (by decide), if_neg (by decide)]
    funext j i
    unfold up
    by_cases q : j = 3 ∧ i = 7
    · rw [if_pos q, q.1, q.2, e]
    · rw [if_neg q]
  · rw [e, if_neg (by decide), if_pos (by decide)]
    exact ob1_37
theorem ob_4 {i : Nat} (h2 : i ≠ 2) (h3 : i ≠ 3) : obA A 4 i = A 4 i := by
  have bc : ∀ (B : sg) (x c : Int32), bcA B x c 4 i = B 4 i := fun B x c => by
    unfold bcA up
    rw [if_neg (fun e => h3 e.2), if_neg (fun e => h2 e.2)]
  unfold obA
  split
  · rfl
  unfold ob1
  split
  · rw [up_ne (by omega)]
  split
  · rw [bc, up_ne (by omega)]
  · unfold enA
    rw [bc, en2_j (by omega), en1_j (by omega), up_ne (by omega)]
theorem okF.ob (h : okF A) : okF (obA A) := fun c hc => by rw [ob_4 (by omega) (by omega)]; exact h c hc
theorem okO.e {B : sg} (h : okO A) (e0 : B 0 = A 0) (e1 : B 21 0 = A 21 0) : okO B := by
  unfold okO
  rw [e0, e1]
  exact h
end TU3
section TU4
variable {n s m k : Nat} {σ A : sg} {y2 y3 : Int32}
theorem turn_sens {σ : sg} (h : okB n) (hB : RR σ s (st23 A y2 y3)) (hs6 : s < 6) (hT : okT A) (hM : MD σ s m k) (hmd : mdA A m k) {Q : hp_L → hp_H → Prop} {R : Option Value → hp_H → Prop} (hQ : ∀ τ x2, RR τ s (st23 (tsA A) y2 y3) → MD τ s m k → FX (NC s) σ τ → Q [some (.ref 26), some (.int (nI s)), x2] (hs n τ)) : wS (sIf (fAnd (fAnd (fC jGe (aI 50 (gR 8 8 (fLr 0)) (fLd 1)) (fI (nI 4))) (fC jGt (aI 50 (gR 8 2 (fLr 0)) (fLd 1)) (fI 0))) (fT (cV 8 (fAr (fLr 0) (fAi (fLd 1) (fAi (fI (nI 3)) (fAi (fI (nI 0)) (fAi (aI 50 (gR 8 2 (fLr 0)) (fLd 1)) (fNil)))))) G_R_like))) (sSeq (sSeq (sSt 2 (fI (nI 0))) (sWh (fC jLt (fLd 2) (aI 50 (gR 8 2 (fLr 0)) (fLd 1))) (sSeq (sAI (gR 8 6 (fLr 0)) (fB jAdd (fB jMul (fI (nI 8)) (fB jAdd (fB jMul (fI (nI 4)) (fLd 1)) (fI (nI 3)))) (fLd 2)) (aI 50 (gR 8 16 (fLr 0)) (fB jAdd (fB jMul (fI (nI 2)) (fLd 1)) (fLd 2)))) (sInc 2 (nI 1))) 600)) (sAZ (gR 8 7 (fLr 0)) (fB jAdd (fB jMul (fI (nI 4)) (fLd 1)) (fI (nI 3))) (fI (nI 1)))) sSkip) [some (.ref 26), some (.int (nI s)), none] (hs n σ) Q R := by
  have o1 : σ 28 s = A 0 1 := by rw [hB.k1, s23_j (by omega)]
  have pr := md_pr hmd
  unfold tsA at hQ
  rw [pr] at hQ
  refine wIf (by simp only [e_fI, e_fLd, e_fLr, e_fB, e_fD, e_fC, e_fT, e_fAnd, e_fOr, e_fNot, e_fCC, e_fIf, e_gI, e_gR, e_aI, e_aR, e_aN, e_cV, e_cS, e_fNil, e_fAi, e_fAr, e_sSeq, e_sSkip, e_sSt, e_sSr, e_sInc, e_sRI, e_sRR, e_sRV, e_sIf, e_sCall, e_sPI, e_sPZ, e_sPR, e_sPO, e_sAI, e_sAZ, e_sAO, e_sAR, e_sPopI, e_sPopR, e_sCopy, e_mI, e_mZ, e_mR, e_mV, jAdd_n, jMul_n, z0, z1, Option.bind_some, List.getElem?_cons_zero, List.getElem?_cons_succ, List.set_cons_zero, List.set_cons_succ, eq_self, if_true, ite_and, ite_or, ite_I, ite_bI, ite_bJ, bI_ne, bI_01, List.cons_append, List.nil_append, Bool.false_eq_true, if_false, kT26 h, gT26_8 h, iT34 h hs6, hM.1, gT26_2 h, iT28 h hs6, o1, q_R_like h hB hs6 (show 3 < 4 by omega), s23_op]; rfl) (fun hb => ?_) (fun hb => ?_)
  · rw [if_pos hb, s23_u (by omega), s23_c (by omega) (by omega)] at hQ
    refine wSeq (wSeq (wS_l (by simp only [e_fI, e_fLd, e_fLr, e_fB, e_fD, e_fC, e_fT, e_fAnd, e_fOr, e_fNot, e_fCC, e_fIf, e_gI, e_gR, e_aI, e_aR, e_aN, e_cV, e_cS, e_fNil, e_fAi, e_fAr, e_sSeq, e_sSkip, e_sSt, e_sSr, e_sInc, e_sRI, e_sRR, e_sRV, e_sIf, e_sCall, e_sPI, e_sPZ, e_sPR, e_sPO, e_sAI, e_sAZ, e_sAO, e_sAR, e_sPopI, e_sPopR, e_sCopy, e_mI, e_mZ, e_mR, e_mV, jAdd_n, jMul_n, z0, z1, Option.bind_some, List.getElem?_cons_zero, List.getElem?_cons_succ, List.set_cons_zero, List.set_cons_succ, eq_self, if_true, ite_and, ite_or, ite_I, ite_bI, ite_bJ, bI_ne, bI_01, List.cons_append, List.nil_append, Bool.false_eq_true, if_false]; rfl) ?_))
    refine wWh (I := fun i L H => ∃ τ, L = [some (.ref 26), some (.int (nI s)), some (.int (nI i))] ∧ H = hs n τ ∧ RR τ s (cpy (st23 A y2 y3) 1 0 14 0 i) ∧ FX (SC s) σ τ) (e := iN A) ?_ ?_ ?_ 600 0 _ _ (by omega) (by have := hT.2.2.2; omega) ⟨σ, rfl, rfl, by rw [cpy_0]; exact hB, FX.r _ σ⟩
    · rintro i _ _ ⟨τ, rfl, rfl, hR, -⟩ hi
      have := hT.2.2.2
      have k28 : τ 28 s = nI (iN A) := by rw [hR.k1, cpy_ne (by omega), s23_j (by omega)]; exact hT.2.2.1
      simp only [e_fI, e_fLd, e_fLr, e_fB, e_fD, e_fC, e_fT, e_fAnd, e_fOr, e_fNot, e_fCC, e_fIf, e_gI, e_gR, e_aI, e_aR, e_aN, e_cV, e_cS, e_fNil, e_fAi, e_fAr, e_sSeq, e_sSkip, e_sSt, e_sSr, e_sInc, e_sRI, e_sRR, e_sRV, e_sIf, e_sCall, e_sPI, e_sPZ, e_sPR, e_sPO, e_sAI, e_sAZ, e_sAO, e_sAR, e_sPopI, e_sPopR, e_sCopy, e_mI, e_mZ, e_mR, e_mV, jAdd_n, jMul_n, z0, z1, Option.bind_some, List.getElem?_cons_zero, List.getElem?_cons_succ, List.set_cons_zero, List.set_cons_succ, eq_self, if_true, ite_and, ite_or, ite_I, ite_bI, ite_bJ, bI_ne, bI_01, List.cons_append, List.nil_append, Bool.false_eq_true, if_false, gT26_2 h, iT28 h hs6, k28, jLt, nI_ltI (show i < 2 ^ 31 by omega) (show iN A < 2 ^ 31 by omega)]
    · rintro i _ _ ⟨τ, rfl, rfl, hR, hF⟩ hi
      have := hT.2.2.2
      have k42 : τ 42 (2 * s + i) = st23 A y2 y3 1 i := by
        have := hR 1 i (by unfold celR; omega)
        rw [cpy_ne (by omega)] at this
        exact this
      refine wSeq (wS_l (by simp only [e_fI, e_fLd, e_fLr, e_fB, e_fD, e_fC, e_fT, e_fAnd, e_fOr, e_fNot, e_fCC, e_fIf, e_gI, e_gR, e_aI, e_aR, e_aN, e_cV, e_cS, e_fNil, e_fAi, e_fAr, e_sSeq, e_sSkip, e_sSt, e_sSr, e_sInc, e_sRI, e_sRR, e_sRV, e_sIf, e_sCall, e_sPI, e_sPZ, e_sPR, e_sPO, e_sAI, e_sAZ, e_sAO, e_sAR, e_sPopI, e_sPopR, e_sCopy, e_mI, e_mZ, e_mR, e_mV, jAdd_n, jMul_n, z0, z1, Option.bind_some, List.getElem?_cons_zero, List.getElem?_cons_succ, List.set_cons_zero, List.set_cons_succ, eq_self, if_true, ite_and, ite_or, ite_I, ite_bI, ite_bJ, bI_ne, bI_01, List.cons_append, List.nil_append, Bool.false_eq_true, if_false, gT26_6 h, gT26_16 h, iT42 h (show 2 * s + i < 12 by omega), k42, wT32 h (show 8 * (4 * s + 3) + i < 192 by omega)]; rfl) ?_)
      refine wS_l (by simp only [e_fI, e_fLd, e_fLr, e_fB, e_fD, e_fC, e_fT, e_fAnd, e_fOr, e_fNot, e_fCC, e_fIf, e_gI, e_gR, e_aI, e_aR, e_aN, e_cV, e_cS, e_fNil, e_fAi, e_fAr, e_sSeq, e_sSkip, e_sSt, e_sSr, e_sInc, e_sRI, e_sRR, e_sRV, e_sIf, e_sCall, e_sPI, e_sPZ, e_sPR, e_sPO, e_sAI, e_sAZ, e_sAO, e_sAR, e_sPopI, e_sPopR, e_sCopy, e_mI, e_mZ, e_mR, e_mV, jAdd_n, jMul_n, z0, z1, Option.bind_some, List.getElem?_cons_zero, List.getElem?_cons_succ, List.set_cons_zero, List.set_cons_succ, eq_self, if_true, ite_and, ite_or, ite_I, ite_bI, ite_bJ, bI_ne, bI_01, List.cons_append, List.nil_append, Bool.false_eq_true, if_false, nI_add]; rfl) ?_
      refine ⟨_, rfl, rfl, ?_, hF.u (SC.d (by omega) (by omega))⟩
      rw [← cpy_st (by omega)]
      exact hR.u11 (c := 3) (by omega) (by omega)
    · rintro _ _ ⟨τ, rfl, rfl, hR, hF⟩
      refine wS_l (by simp only [e_fI, e_fLd, e_fLr, e_fB, e_fD, e_fC, e_fT, e_fAnd, e_fOr, e_fNot, e_fCC, e_fIf, e_gI, e_gR, e_aI, e_aR, e_aN, e_cV, e_cS, e_fNil, e_fAi, e_fAr, e_sSeq, e_sSkip, e_sSt, e_sSr, e_sInc, e_sRI, e_sRR, e_sRV, e_sIf, e_sCall, e_sPI, e_sPZ, e_sPR, e_sPO, e_sAI, e_sAZ, e_sAO, e_sAR, e_sPopI, e_sPopR, e_sCopy, e_mI, e_mZ, e_mR, e_mV, jAdd_n, jMul_n, z0, z1, Option.bind_some, List.getElem?_cons_zero, List.getElem?_cons_succ, List.set_cons_zero, List.set_cons_succ, eq_self, if_true, ite_and, ite_or, ite_I, ite_bI, ite_bJ, bI_ne, bI_01, List.cons_append, List.nil_append, Bool.false_eq_true, if_false, gT26_7 h, wT33 h (show 4 * s + 3 < 24 by omega)]; rfl) ?_
      exact hQ _ _ (hR.u15 (by omega)) ((hM.sc hF).sc ((FX.r _ τ).u (SC.w (by omega)))) ((hF.u (SC.w (by omega))).m (fun _ _ => Or.inl))
  · rw [hb, if_neg Bool.false_ne_true] at hQ
    exact wS_l rfl (hQ σ _ hB hM (FX.r _ σ))
theorem turn_act {σ : sg} {x2 : Option Value} (h : okB n) (hB : RR σ s (st23 A y2 y3)) (hs6 : s < 6) (hT : okT A) (hM : MD σ s m k) (hmd : mdA A m k) {g : jx_fS} {Q : hp_L → hp_H → Prop} {R : Option Value → hp_H → Prop} (hQ : ∀ τ x2, RR τ s (st23 (mvA A) y2 y3) → MD τ s m k → FX (NC s) σ τ → wS g [some (.ref 26), some (.int (nI s)), x2] (hs n τ) Q R) : wS (sSeq (sIf (fAnd (fAnd (fAnd (fC jEq (aI 50 (gR 8 8 (fLr 0)) (fLd 1)) (fI (nI 8))) (fC jGt (aI 50 (gR 8 1 (fLr 0)) (fLd 1)) (fI 0))) (fT (cV 8 (fAr (fLr 0) (fAi (fLd 1) (fAi (fI (nI 2)) (fAi (fI (nI 2)) (fAi (aI 50 (gR 8 1 (fLr 0)) (fLd 1)) (fNil)))))) G_R_like))) (fT (aI 51 (gR 8 7 (fLr 0)) (fB jAdd (fB jMul (fI (nI 4)) (fLd 1)) (fI (nI 2)))))) (sSeq (sSt 2 (fI (nI 0))) (sWh (fC jLt (fLd 2) (aI 50 (gR 8 1 (fLr 0)) (fLd 1))) (sSeq (sAI (gR 8 17 (fLr 0)) (fB jAdd (fB jMul (fI (nI 2)) (fLd 1)) (fLd 2)) (aI 50 (gR 8 6 (fLr 0)) (fB jAdd (fB jMul (fI (nI 8)) (fB jAdd (fB jMul (fI (nI 4)) (fLd 1)) (fI (nI 2)))) (fLd 2)))) (sInc 2 (nI 1))) 600)) sSkip) (sSeq (sIf (fC jNe (aI 50 (gR 8 8 (fLr 0)) (fLd 1)) (fI (nI 8))) (sCall (cV 8 (fAr (fLr 0) (fAi (fLd 1) (fNil))) G_R_rest)) sSkip) g)) [some (.ref 26), some (.int (nI s)), x2] (hs n σ) Q R := by
  have o0 : σ 27 s = A 0 0 := by rw [hB.k0, s23_j (by omega)]
  have w2 : σ 33 (4 * s + 2) = A 15 2 := by rw [hB.wr (by omega), s23_j (by omega)]
  have pr := md_pr hmd
  have hm := hmd.1
  unfold mvA at hQ
  rw [pr] at hQ
  by_cases m8 : m = 8
  · subst m8
    rw [if_neg (by decide)] at hQ
    have second : ∀ (τ : sg) (x2 : Option Value), MD τ s 8 k → (∀ x2, wS g [some (.ref 26), some (.int (nI s)), x2] (hs n τ) Q R) → wS (sSeq (sIf (fC jNe (aI 50 (gR 8 8 (fLr 0)) (fLd 1)) (fI (nI 8))) (sCall (cV 8 (fAr (fLr 0) (fAi (fLd 1) (fNil))) G_R_rest)) sSkip) g) [some (.ref 26), some (.int (nI s)), x2] (hs n τ) Q R := fun τ x2 hMτ hg => by
      refine wSeq (wIf (by simp only [e_fI, e_fLd, e_fLr, e_fB, e_fD, e_fC, e_fT, e_fAnd, e_fOr, e_fNot, e_fCC, e_fIf, e_gI, e_gR, e_aI, e_aR, e_aN, e_cV, e_cS, e_fNil, e_fAi, e_fAr, e_sSeq, e_sSkip, e_sSt, e_sSr, e_sInc, e_sRI, e_sRR, e_sRV, e_sIf, e_sCall, e_sPI, e_sPZ, e_sPR, e_sPO, e_sAI, e_sAZ, e_sAO, e_sAR, e_sPopI, e_sPopR, e_sCopy, e_mI, e_mZ, e_mR, e_mV, jAdd_n, jMul_n, z0, z1, Option.bind_some, List.getElem?_cons_zero, List.getElem?_cons_succ, List.set_cons_zero, List.set_cons_succ, eq_self, if_true, ite_and, ite_or, ite_I, ite_bI, ite_bJ, bI_ne, bI_01, List.cons_append, List.nil_append, Bool.false_eq_true, if_false, gT26_8 h, iT34 h hs6, hMτ.1]; rfl) (fun hb => ?_) (fun hb => ?_))
      · exact absurd hb (by decide)
      · exact wS_l rfl (hg _)
    refine wSeq (wIf (by simp only [e_fI, e_fLd, e_fLr, e_fB, e_fD, e_fC, e_fT, e_fAnd, e_fOr, e_fNot, e_fCC, e_fIf, e_gI, e_gR, e_aI, e_aR, e_aN, e_cV, e_cS, e_fNil, e_fAi, e_fAr, e_sSeq, e_sSkip, e_sSt, e_sSr, e_sInc, e_sRI, e_sRR, e_sRV, e_sIf, e_sCall, e_sPI, e_sPZ, e_sPR, e_sPO, e_sAI, e_sAZ, e_sAO, e_sAR, e_sPopI, e_sPopR, e_sCopy, e_mI, e_mZ, e_mR, e_mV, jAdd_n, jMul_n, z0, z1, Option.bind_some, List.getElem?_cons_zero, List.getElem?_cons_succ, List.set_cons_zero, List.set_cons_succ, eq_self, if_true, ite_and, ite_or, ite_I, ite_bI, ite_bJ, bI_ne, bI_01, List.cons_append, List.nil_append, Bool.false_eq_true, if_false, kT26 h, gT26_8 h, iT34 h hs6, hM.1, (show jEq (nI 8) (nI 8) = true by decide), gT26_1 h, iT27 h hs6, o0, q_R_like h hB hs6 (show 2 < 4 by omega), s23_op, gT26_7 h, iT33 h (show 4 * s + 2 < 24 by omega), w2, Bool.true_and]; rfl) (fun hb => ?_) (fun hb => ?_))
    · rw [if_pos hb, s23_c (by omega) (by omega)] at hQ
      have := hT.2.1
      refine wSeq (wS_l (by simp only [e_fI, e_fLd, e_fLr, e_fB, e_fD, e_fC, e_fT, e_fAnd, e_fOr, e_fNot, e_fCC, e_fIf, e_gI, e_gR, e_aI, e_aR, e_aN, e_cV, e_cS, e_fNil, e_fAi, e_fAr, e_sSeq, e_sSkip, e_sSt, e_sSr, e_sInc, e_sRI, e_sRR, e_sRV, e_sIf, e_sCall, e_sPI, e_sPZ, e_sPR, e_sPO, e_sAI, e_sAZ, e_sAO, e_sAR, e_sPopI, e_sPopR, e_sCopy, e_mI, e_mZ, e_mR, e_mV, jAdd_n, jMul_n, z0, z1, Option.bind_some, List.getElem?_cons_zero, List.getElem?_cons_succ, List.set_cons_zero, List.set_cons_succ, eq_self, if_true, ite_and, ite_or, ite_I, ite_bI, ite_bJ, bI_ne, bI_01, List.cons_append, List.nil_append, Bool.false_eq_true, if_false]; rfl) ?_)
      refine wWh (I := fun i L H => ∃ τ, L = [some (.ref 26), some (.int (nI s)), some (.int (nI i))] ∧ H = hs n τ ∧ RR τ s (cpy (st23 A y2 y3) 13 0 2 0 i) ∧ FX (SC s) σ τ) (e := oN A) ?_ ?_ ?_ 600 0 _ _ (by omega) (by omega) ⟨σ, rfl, rfl, by rw [cpy_0]; exact hB, FX.r _ σ⟩
      · rintro i _ _ ⟨τ, rfl, rfl, hR, -⟩ hi
        have k27 : τ 27 s = nI (oN A) := by rw [hR.k0, cpy_ne (by omega), s23_j (by omega)]; exact hT.1
        simp only [e_fI, e_fLd, e_fLr, e_fB, e_fD, e_fC, e_fT, e_fAnd, e_fOr, e_fNot, e_fCC, e_fIf, e_gI, e_gR, e_aI, e_aR, e_aN, e_cV, e_cS, e_fNil, e_fAi, e_fAr, e_sSeq, e_sSkip, e_sSt, e_sSr, e_sInc, e_sRI, e_sRR, e_sRV, e_sIf, e_sCall, e_sPI, e_sPZ, e_sPR, e_sPO, e_sAI, e_sAZ, e_sAO, e_sAR, e_sPopI, e_sPopR, e_sCopy, e_mI, e_mZ, e_mR, e_mV, jAdd_n, jMul_n, z0, z1, Option.bind_some, List.getElem?_cons_zero, List.getElem?_cons_succ, List.set_cons_zero, List.set_cons_succ, eq_self, if_true, ite_and, ite_or, ite_I, ite_bI, ite_bJ, bI_ne, bI_01, List.cons_append, List.nil_append, Bool.false_eq_true, if_false, gT26_1 h, iT27 h hs6, k27, jLt, nI_ltI (show i < 2 ^ 31 by omega) (show oN A < 2 ^ 31 by omega)]
      · rintro i _ _ ⟨τ, rfl, rfl, hR, hF⟩ hi
        have k32 : τ 32 (8 * (4 * s + 2) + i) = st23 A y2 y3 13 i := by rw [hR.dn (by omega) (by omega), cpy_ne (by omega)]
        have hc : celR 2 i := by unfold celR; omega
        refine wSeq (wS_l (by simp only [e_fI, e_fLd, e_fLr, e_fB, e_fD, e_fC, e_fT, e_fAnd, e_fOr, e_fNot, e_fCC, e_fIf, e_gI, e_gR, e_aI, e_aR, e_aN, e_cV, e_cS, e_fNil, e_fAi, e_fAr, e_sSeq, e_sSkip, e_sSt, e_sSr, e_sInc, e_sRI, e_sRR, e_sRV, e_sIf, e_sCall, e_sPI, e_sPZ, e_sPR, e_sPO, e_sAI, e_sAZ, e_sAO, e_sAR, e_sPopI, e_sPopR, e_sCopy, e_mI, e_mZ, e_mR, e_mV, jAdd_n, jMul_n, z0, z1, Option.bind_some, List.getElem?_cons_zero, List.getElem?_cons_succ, List.set_cons_zero, List.set_cons_succ, eq_self, if_true, ite_and, ite_or, ite_I, ite_bI, ite_bJ, bI_ne, bI_01, List.cons_append, List.nil_append, Bool.false_eq_true, if_false, gT26_6 h, gT26_17 h, iT32 h (show 8 * (4 * s + 2) + i < 192 by omega), k32, wT43 h (show 2 * s + i < 12 by omega)]; rfl) ?_)
        refine wS_l (by simp only [e_fI, e_fLd, e_fLr, e_fB, e_fD, e_fC, e_fT, e_fAnd, e_fOr, e_fNot, e_fCC, e_fIf, e_gI, e_gR, e_aI, e_aR, e_aN, e_cV, e_cS, e_fNil, e_fAi, e_fAr, e_sSeq, e_sSkip, e_sSt, e_sSr, e_sInc, e_sRI, e_sRR, e_sRV, e_sIf, e_sCall, e_sPI, e_sPZ, e_sPR, e_sPO, e_sAI, e_sAZ, e_sAO, e_sAR, e_sPopI, e_sPopR, e_sCopy, e_mI, e_mZ, e_mR, e_mV, jAdd_n, jMul_n, z0, z1, Option.bind_some, List.getElem?_cons_zero, List.getElem?_cons_succ, List.set_cons_zero, List.set_cons_succ, eq_self, if_true, ite_and, ite_or, ite_I, ite_bI, ite_bJ, bI_ne, bI_01, List.cons_append, List.nil_append, Bool.false_eq_true, if_false, nI_add]; rfl) ?_
        refine ⟨_, rfl, rfl, ?_, hF.u (SC.c (j := 2) (i := i) hc)⟩
        rw [← cpy_st (by omega)]
        exact hR.u (j := 2) (i := i) hc
      · rintro _ _ ⟨τ, rfl, rfl, hR, hF⟩
        exact second τ _ (hM.sc hF) (fun x2 => hQ τ x2 hR (hM.sc hF) (hF.m (fun _ _ => Or.inl)))
    · rw [hb, if_neg Bool.false_ne_true] at hQ
      refine wS_l rfl ?_
      exact second σ _ hM (fun x2 => hQ σ x2 hB hM (FX.r _ σ))
  · rw [if_pos (show jNe (nI m) (nI 8) = true from decide_eq_true (fun e => m8 ((nI_eq (by omega) (by omega)).mp e))), s23_f (by omega)] at hQ
    have e8 : jEq (nI m) (nI 8) = false := by rw [jEq_n (by omega) (by omega), decide_eq_false m8]
    refine wSeq (wIf (by simp only [e_fI, e_fLd, e_fLr, e_fB, e_fD, e_fC, e_fT, e_fAnd, e_fOr, e_fNot, e_fCC, e_fIf, e_gI, e_gR, e_aI, e_aR, e_aN, e_cV, e_cS, e_fNil, e_fAi, e_fAr, e_sSeq, e_sSkip, e_sSt, e_sSr, e_sInc, e_sRI, e_sRR, e_sRV, e_sIf, e_sCall, e_sPI, e_sPZ, e_sPR, e_sPO, e_sAI, e_sAZ, e_sAO, e_sAR, e_sPopI, e_sPopR, e_sCopy, e_mI, e_mZ, e_mR, e_mV, jAdd_n, jMul_n, z0, z1, Option.bind_some, List.getElem?_cons_zero, List.getElem?_cons_succ, List.set_cons_zero, List.set_cons_succ, eq_self, if_true, ite_and, ite_or, ite_I, ite_bI, ite_bJ, bI_ne, bI_01, List.cons_append, List.nil_append, Bool.false_eq_true, if_false, kT26 h, gT26_8 h, iT34 h hs6, hM.1, e8]; rfl) (fun hb => ?_) (fun hb => ?_))
    · cases hb
    refine wS_l rfl ?_
    refine wSeq (wIf (by simp only [e_fI, e_fLd, e_fLr, e_fB, e_fD, e_fC, e_fT, e_fAnd, e_fOr, e_fNot, e_fCC, e_fIf, e_gI, e_gR, e_aI, e_aR, e_aN, e_cV, e_cS, e_fNil, e_fAi, e_fAr, e_sSeq, e_sSkip, e_sSt, e_sSr, e_sInc, e_sRI, e_sRR, e_sRV, e_sIf, e_sCall, e_sPI, e_sPZ, e_sPR, e_sPO, e_sAI, e_sAZ, e_sAO, e_sAR, e_sPopI, e_sPopR, e_sCopy, e_mI, e_mZ, e_mR, e_mV, jAdd_n, jMul_n, z0, z1, Option.bind_some, List.getElem?_cons_zero, List.getElem?_cons_succ, List.set_cons_zero, List.set_cons_succ, eq_self, if_true, ite_and, ite_or, ite_I, ite_bI, ite_bJ, bI_ne, bI_01, List.cons_append, List.nil_append, Bool.false_eq_true, if_false, gT26_8 h, iT34 h hs6, hM.1]; rfl) (fun hb => ?_) (fun hb => ?_))
    · obtain ⟨τ, e, hR, hF⟩ := q_R_rest h hB hs6
      refine wS_l (by simp only [e_fI, e_fLd, e_fLr, e_fB, e_fD, e_fC, e_fT, e_fAnd, e_fOr, e_fNot, e_fCC, e_fIf, e_gI, e_gR, e_aI, e_aR, e_aN, e_cV, e_cS, e_fNil, e_fAi, e_fAr, e_sSeq, e_sSkip, e_sSt, e_sSr, e_sInc, e_sRI, e_sRR, e_sRV, e_sIf, e_sCall, e_sPI, e_sPZ, e_sPR, e_sPO, e_sAI, e_sAZ, e_sAO, e_sAR, e_sPopI, e_sPopR, e_sCopy, e_mI, e_mZ, e_mR, e_mV, jAdd_n, jMul_n, z0, z1, Option.bind_some, List.getElem?_cons_zero, List.getElem?_cons_succ, List.set_cons_zero, List.set_cons_succ, eq_self, if_true, ite_and, ite_or, ite_I, ite_bI, ite_bJ, bI_ne, bI_01, List.cons_append, List.nil_append, Bool.false_eq_true, if_false, kT26 h, e]; rfl) ?_
      exact hQ τ _ hR (hM.sc hF) (hF.m (fun _ _ => Or.inl))
    · have := Classical.not_not.mp (of_decide_eq_false hb)
      exact absurd ((nI_eq (by omega) (by omega)).mp this) m8
end TU4
