/-! a station's tick, all together; what stays well made -/
section TIC3
variable {n s : Nat} {σ A : sg}
theorem okA.bc {x c : Int32} (h : okA A) (hx : byt x) (hc : byt c) : okA (bcA A x c) := by
  unfold bcA
  refine okA.u4 (okA.u4 h ?_) hc
  split
  · exact hx
  · exact byt_or hx (byt_n (by omega))
theorem byt_obj {w : Int32} : byt (obj A w) := by
  unfold obj
  repeat' split
  all_goals exact byt_n (by omega)
theorem bc_j {x c : Int32} {j : Nat} (hj : j ≠ 4) : bcA A x c j = A j := (up_ne hj).trans (up_ne hj)
theorem okA.e1 {w : Int32} (h : okA A) : okA (en1 A w) := by
  unfold en1
  split
  · exact h.ux (by omega)
  · exact h
theorem okA.e2 {w : Int32} (h : okA A) : okA (en2 A w) := by
  unfold en2
  split
  · exact h.ux (by omega)
  · exact h
theorem okA.o1 (h : okA A) : okA (ob1 A) := by
  unfold ob1
  split
  · exact h
  split
  · exact h.bc (byt_and _ (h.1 2 (by omega))) byt_obj
  · exact (h.e1.e2).bc (byt_and _ (h.1 1 (by omega))) (byt_n (by omega))
theorem okA.ob (h : okA A) : okA (obA A) := by
  unfold obA
  split
  · exact h
  · exact (h.ux (by omega)).o1
theorem en1_j {w : Int32} {j : Nat} (hj : j ≠ 3) : en1 A w j = A j := by
  unfold en1
  split
  · exact up_ne hj
  · rfl
theorem en2_j {w : Int32} {j : Nat} (hj : j ≠ 3) : en2 A w j = A j := by
  unfold en2
  split
  · exact up_ne hj
  · rfl
theorem ob_j {j : Nat} (h4 : j ≠ 4) (h3 : j ≠ 3) : obA A j = A j := by
  unfold obA
  split
  · rfl
  unfold ob1
  split
  · exact up_ne h3
  split
  · rw [bc_j h4, up_ne h3]
  · unfold enA
    rw [bc_j h4, en2_j h3, en1_j h3, up_ne h3]
theorem dm_j {k v : Int32} {x j : Nat} (h : j ≠ 12) (h21 : j ≠ 21) : dmA A k x v j = A j := by
  unfold dmA
  split
  · exact wm_ne h
  split
  · exact wm_ne h
  split
  · exact wm_ne h
  split
  · rw [wm_ne h, up_ne h21]
  · exact wm_ne h
theorem t1_j {j : Nat} (h : j ≠ 12) (h21 : j ≠ 21) (h4 : j ≠ 4) : tk1 A j = A j := by
  unfold tk1
  split
  · unfold rpA
    split
    · rfl
    · unfold rpZ
      rw [up_ne h4, up_ne h4, up_ne h21, dm_j h h21]
  · rfl
theorem ts_j {j : Nat} (h : j ≠ 14) (h15 : j ≠ 15) : tsA A j = A j := by
  unfold tsA
  split
  · rw [up_ne h15, cpy_ne h]
  · rfl
theorem mv_j {j : Nat} (h : j ≠ 2) : mvA A j = A j := by
  unfold mvA
  split
  · exact fil_ne h
  split
  · exact cpy_ne h
  · rfl
theorem wa_j {j : Nat} (h : j ≠ 2) (h4 : j ≠ 4) (h3 : j ≠ 3) : waA A j = A j := by
  unfold waA wa1
  split
  · rw [fil_ne h, up_ne h3, bc_j h4, up_ne h3]
  · exact up_ne h3
theorem okT.e {B : sg} (h : okT A) (e : B 0 = A 0) : okT B := by
  unfold okT oN iN
  rw [e]
  exact h
theorem q_S_makeTick (h : okS n s) (hA : RC σ s A) (hok : okA A) (hT : okT A) : ∃ τ, G_S_makeTick [.ref (sa s 0)] (hs n σ) = some (hs n τ) ∧ RC τ s (tkA A) ∧ FS s σ τ := by
  refine mV_s (Nat.le_of_ble_eq_true rfl) ?_
  simp only [jx_L0, List.map_cons, List.map_nil, List.length_cons, List.length_nil, Nat.reduceAdd, Nat.reduceSub, List.replicate, List.cons_append, List.nil_append]
  unfold P_S_makeTick tkA
  obtain ⟨τ1, e1, hA1, hF1⟩ := q_S_obeyControl h hA
  have ok1 := hok.ob
  have hT1 : okT (obA A) := hT.e (ob_j (by omega) (by omega))
  refine wSeq (wS_l (by simp only [e_fI, e_fLd, e_fLr, e_fB, e_fD, e_fC, e_fT, e_fAnd, e_fOr, e_fNot, e_fCC, e_fIf, e_gI, e_gR, e_aI, e_aR, e_aN, e_cV, e_cS, e_fNil, e_fAi, e_fAr, e_sSeq, e_sSkip, e_sSt, e_sSr, e_sInc, e_sRI, e_sRR, e_sRV, e_sIf, e_sCall, e_sPI, e_sPZ, e_sPR, e_sPO, e_sAI, e_sAZ, e_sAO, e_sAR, e_sPopI, e_sPopR, e_sCopy, e_mI, e_mZ, e_mR, e_mV, jAdd_n, jMul_n, z0, z1, Option.bind_some, List.getElem?_cons_zero, List.getElem?_cons_succ, List.set_cons_zero, List.set_cons_succ, eq_self, if_true, ite_and, ite_or, ite_I, ite_bI, ite_bJ, bI_ne, bI_01, List.cons_append, List.nil_append, Bool.false_eq_true, if_false, kS0 h, e1]; rfl) ?_)
  generalize obA A = A1 at hA1 ok1 hT1 ⊢
  refine wSeq (wMono (Q' := fun L1 h1 => L1 = [some (.ref (sa s 0))] ∧ ∃ τ, h1 = hs n τ ∧ RC τ s (tk1 A1) ∧ FS s σ τ) ?_ ?_ (fun _ _ q => q))
  · unfold tk1
    refine wIf (by simp only [e_fI, e_fLd, e_fLr, e_fB, e_fD, e_fC, e_fT, e_fAnd, e_fOr, e_fNot, e_fCC, e_fIf, e_gI, e_gR, e_aI, e_aR, e_aN, e_cV, e_cS, e_fNil, e_fAi, e_fAr, e_sSeq, e_sSkip, e_sSt, e_sSr, e_sInc, e_sRI, e_sRR, e_sRV, e_sIf, e_sCall, e_sPI, e_sPZ, e_sPR, e_sPO, e_sAI, e_sAZ, e_sAO, e_sAR, e_sPopI, e_sPopR, e_sCopy, e_mI, e_mZ, e_mR, e_mV, jAdd_n, jMul_n, z0, z1, Option.bind_some, List.getElem?_cons_zero, List.getElem?_cons_succ, List.set_cons_zero, List.set_cons_succ, eq_self, if_true, ite_and, ite_or, ite_I, ite_bI, ite_bJ, bI_ne, bI_01, List.cons_append, List.nil_append, Bool.false_eq_true, if_false, kS0 h, q_S_present h hA1]; rfl) (fun hb => ?_) (fun hb => ?_)
    · rw [if_pos hb]
      obtain ⟨τ2, e2, hA2, hF2⟩ := q_S_replyToMessage h hA1 ok1
      refine wS_l (by simp only [e_fI, e_fLd, e_fLr, e_fB, e_fD, e_fC, e_fT, e_fAnd, e_fOr, e_fNot, e_fCC, e_fIf, e_gI, e_gR, e_aI, e_aR, e_aN, e_cV, e_cS, e_fNil, e_fAi, e_fAr, e_sSeq, e_sSkip, e_sSt, e_sSr, e_sInc, e_sRI, e_sRR, e_sRV, e_sIf, e_sCall, e_sPI, e_sPZ, e_sPR, e_sPO, e_sAI, e_sAZ, e_sAO, e_sAR, e_sPopI, e_sPopR, e_sCopy, e_mI, e_mZ, e_mR, e_mV, jAdd_n, jMul_n, z0, z1, Option.bind_some, List.getElem?_cons_zero, List.getElem?_cons_succ, List.set_cons_zero, List.set_cons_succ, eq_self, if_true, ite_and, ite_or, ite_I, ite_bI, ite_bJ, bI_ne, bI_01, List.cons_append, List.nil_append, Bool.false_eq_true, if_false, kS0 h, e2]; rfl) ?_
      exact ⟨rfl, _, rfl, hA2, hF1.t hF2⟩
    · rw [hb, if_neg Bool.false_ne_true]
      exact wS_l rfl ⟨rfl, _, rfl, hA1, hF1⟩
  rintro _ _ ⟨rfl, τ2, rfl, hA2, hF2⟩
  have hT2 : okT (tk1 A1) := hT1.e (t1_j (by omega) (by omega) (by omega))
  obtain ⟨τ3, e3, hA3, hF3⟩ := q_S_takeSensors h hA2 hT2
  have hT3 : okT (tsA (tk1 A1)) := hT2.e (ts_j (by omega) (by omega))
  obtain ⟨τ4, e4, hA4, hF4⟩ := q_S_moveActuators h hA3 hT3
  obtain ⟨τ5, e5, hA5, hF5⟩ := q_S_watch h hA4
  refine wSeq (wS_l (by simp only [e_fI, e_fLd, e_fLr, e_fB, e_fD, e_fC, e_fT, e_fAnd, e_fOr, e_fNot, e_fCC, e_fIf, e_gI, e_gR, e_aI, e_aR, e_aN, e_cV, e_cS, e_fNil, e_fAi, e_fAr, e_sSeq, e_sSkip, e_sSt, e_sSr, e_sInc, e_sRI, e_sRR, e_sRV, e_sIf, e_sCall, e_sPI, e_sPZ, e_sPR, e_sPO, e_sAI, e_sAZ, e_sAO, e_sAR, e_sPopI, e_sPopR, e_sCopy, e_mI, e_mZ, e_mR, e_mV, jAdd_n, jMul_n, z0, z1, Option.bind_some, List.getElem?_cons_zero, List.getElem?_cons_succ, List.set_cons_zero, List.set_cons_succ, eq_self, if_true, ite_and, ite_or, ite_I, ite_bI, ite_bJ, bI_ne, bI_01, List.cons_append, List.nil_append, Bool.false_eq_true, if_false, kS0 h, e3]; rfl) ?_)
  refine wSeq (wS_l (by simp only [e_fI, e_fLd, e_fLr, e_fB, e_fD, e_fC, e_fT, e_fAnd, e_fOr, e_fNot, e_fCC, e_fIf, e_gI, e_gR, e_aI, e_aR, e_aN, e_cV, e_cS, e_fNil, e_fAi, e_fAr, e_sSeq, e_sSkip, e_sSt, e_sSr, e_sInc, e_sRI, e_sRR, e_sRV, e_sIf, e_sCall, e_sPI, e_sPZ, e_sPR, e_sPO, e_sAI, e_sAZ, e_sAO, e_sAR, e_sPopI, e_sPopR, e_sCopy, e_mI, e_mZ, e_mR, e_mV, jAdd_n, jMul_n, z0, z1, Option.bind_some, List.getElem?_cons_zero, List.getElem?_cons_succ, List.set_cons_zero, List.set_cons_succ, eq_self, if_true, ite_and, ite_or, ite_I, ite_bI, ite_bJ, bI_ne, bI_01, List.cons_append, List.nil_append, Bool.false_eq_true, if_false, kS0 h, e4]; rfl) ?_)
  refine wSeq (wS_l (by simp only [e_fI, e_fLd, e_fLr, e_fB, e_fD, e_fC, e_fT, e_fAnd, e_fOr, e_fNot, e_fCC, e_fIf, e_gI, e_gR, e_aI, e_aR, e_aN, e_cV, e_cS, e_fNil, e_fAi, e_fAr, e_sSeq, e_sSkip, e_sSt, e_sSr, e_sInc, e_sRI, e_sRR, e_sRV, e_sIf, e_sCall, e_sPI, e_sPZ, e_sPR, e_sPO, e_sAI, e_sAZ, e_sAO, e_sAR, e_sPopI, e_sPopR, e_sCopy, e_mI, e_mZ, e_mR, e_mV, jAdd_n, jMul_n, z0, z1, Option.bind_some, List.getElem?_cons_zero, List.getElem?_cons_succ, List.set_cons_zero, List.set_cons_succ, eq_self, if_true, ite_and, ite_or, ite_I, ite_bI, ite_bJ, bI_ne, bI_01, List.cons_append, List.nil_append, Bool.false_eq_true, if_false, kS0 h, e5]; rfl) ?_)
  exact wS_r rfl ⟨rfl, _, rfl, hA5, hF2.t (hF3.t (hF4.t hF5))⟩
end TIC3
