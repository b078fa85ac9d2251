/-! the reference: where it keeps what a station holds -/
def celR (j i : Nat) : Prop := (j = 4 ∧ i < 128) ∨ ((6 ≤ j ∧ j < 10 ∨ 11 ≤ j ∧ j < 15) ∧ i < 8) ∨ (j = 15 ∧ i < 4) ∨ (j = 3 ∧ 7 ≤ i ∧ i < 10) ∨ ((j = 0 ∨ j = 1 ∨ j = 2) ∧ i < 2) ∨ (j = 21 ∧ 1 ≤ i ∧ i < 4)
def pqa (j i : Nat) : Nat := if j = 4 then 30 else if 6 ≤ j ∧ j < 10 then 31 else if 11 ≤ j ∧ j < 15 then 32 else if j = 15 then 33 else if j = 3 then 30 + i else if j = 0 then 27 + i else if j = 1 then 42 else if j = 2 then 43 else if i = 3 then 40 else 41
def pqi (s j i : Nat) : Nat := if j = 4 then 128 * s + i else if 6 ≤ j ∧ j < 10 then 8 * (4 * s + (j - 6)) + i else if 11 ≤ j ∧ j < 15 then 8 * (4 * s + (j - 11)) + i else if j = 15 then 4 * s + i else if j = 3 then s else if j = 0 then s else if j = 1 then 2 * s + i else if j = 2 then 2 * s + i else if i = 3 then s else 2 * s + i - 1
theorem pq_c {s j i : Nat} (h : celR j i) : (j = 4 ∧ i < 128 ∧ pqa j i = 30 ∧ pqi s j i = 128 * s + i) ∨ (6 ≤ j ∧ j < 10 ∧ i < 8 ∧ pqa j i = 31 ∧ pqi s j i = 32 * s + 8 * (j - 6) + i) ∨ (11 ≤ j ∧ j < 15 ∧ i < 8 ∧ pqa j i = 32 ∧ pqi s j i = 32 * s + 8 * (j - 11) + i) ∨ (j = 15 ∧ i < 4 ∧ pqa j i = 33 ∧ pqi s j i = 4 * s + i) ∨ (j = 3 ∧ 7 ≤ i ∧ i < 10 ∧ pqa j i = 30 + i ∧ pqi s j i = s) ∨ (j = 0 ∧ i < 2 ∧ pqa j i = 27 + i ∧ pqi s j i = s) ∨ (j = 1 ∧ i < 2 ∧ pqa j i = 42 ∧ pqi s j i = 2 * s + i) ∨ (j = 2 ∧ i < 2 ∧ pqa j i = 43 ∧ pqi s j i = 2 * s + i) ∨ (j = 21 ∧ i = 3 ∧ pqa j i = 40 ∧ pqi s j i = s) ∨ (j = 21 ∧ 1 ≤ i ∧ i < 3 ∧ pqa j i = 41 ∧ pqi s j i = 2 * s + i - 1) := by
  unfold celR at h
  unfold pqa pqi
  rcases h with ⟨rfl, h⟩ | ⟨h1 | h1, h⟩ | ⟨rfl, h⟩ | ⟨rfl, h⟩ | ⟨rfl | rfl | rfl, h⟩ | ⟨rfl, h⟩
  · exact Or.inl ⟨rfl, h, rfl, rfl⟩
  · rw [if_neg (by omega), if_pos h1, if_neg (by omega), if_pos h1]
    exact Or.inr (Or.inl ⟨h1.1, h1.2, h, rfl, by omega⟩)
  · rw [if_neg (by omega), if_neg (by omega), if_pos h1, if_neg (by omega), if_neg (by omega), if_pos h1]
    exact Or.inr (Or.inr (Or.inl ⟨h1.1, h1.2, h, rfl, by omega⟩))
  · exact Or.inr (Or.inr (Or.inr (Or.inl ⟨rfl, h, rfl, rfl⟩)))
  · exact Or.inr (Or.inr (Or.inr (Or.inr (Or.inl ⟨rfl, h.1, h.2, rfl, rfl⟩))))
  · exact Or.inr (Or.inr (Or.inr (Or.inr (Or.inr (Or.inl ⟨rfl, h, rfl, rfl⟩)))))
  · exact Or.inr (Or.inr (Or.inr (Or.inr (Or.inr (Or.inr (Or.inl ⟨rfl, h, rfl, rfl⟩))))))
  · exact Or.inr (Or.inr (Or.inr (Or.inr (Or.inr (Or.inr (Or.inr (Or.inl ⟨rfl, h, rfl, rfl⟩)))))))
  · by_cases q : i = 3
    · subst q
      exact Or.inr (Or.inr (Or.inr (Or.inr (Or.inr (Or.inr (Or.inr (Or.inr (Or.inl ⟨rfl, rfl, rfl, rfl⟩))))))))
    · refine Or.inr (Or.inr (Or.inr (Or.inr (Or.inr (Or.inr (Or.inr (Or.inr (Or.inr ⟨rfl, h.1, by omega, ?_, ?_⟩))))))))
      · simp (decide := true) [q]
      · simp (decide := true) [q]
theorem pq_inj {s t j i j' i' : Nat} (h : celR j i) (h' : celR j' i') (e1 : pqa j i = pqa j' i') (e2 : pqi s j i = pqi t j' i') : s = t ∧ j = j' ∧ i = i' := by
  have a := pq_c (s := s) h
  have b := pq_c (s := t) h'
  clear h h'
  generalize pqa j i = x at *
  generalize pqi s j i = y at *
  generalize pqa j' i' = x' at *
  generalize pqi t j' i' = y' at *
  subst e1 e2
  rcases a with a | a | a | a | a | a | a | a | a | a <;> rcases b with b | b | b | b | b | b | b | b | b | b <;> omega
/-- the reference holds A as station s -/
def RR (σ : sg) (s : Nat) (A : sg) : Prop := ∀ j i, celR j i → σ (pqa j i) (pqi s j i) = A j i
/-- nothing but what P names changes -/
def FX (P : Nat → Nat → Prop) (σ τ : sg) : Prop := ∀ a i, ¬ P a i → τ a i = σ a i
def SC (s a i : Nat) : Prop := ∃ j m, celR j m ∧ a = pqa j m ∧ i = pqi s j m
theorem FX.r (P : Nat → Nat → Prop) (σ : sg) : FX P σ σ := fun _ _ _ => rfl
theorem FX.t {P : Nat → Nat → Prop} {σ τ ρ : sg} (h : FX P σ τ) (k : FX P τ ρ) : FX P σ ρ := fun a i q => (k a i q).trans (h a i q)
theorem FX.m {P P' : Nat → Nat → Prop} {σ τ : sg} (h : FX P σ τ) (k : ∀ a i, P a i → P' a i) : FX P' σ τ := fun a i q => h a i (fun p => q (k a i p))
theorem FX.u {P : Nat → Nat → Prop} {σ τ : sg} {v : Int32} {a i : Nat} (h : FX P σ τ) (k : P a i) : FX P σ (up τ a i v) := fun b m q => by
  unfold up
  rw [if_neg (fun e => q (by rw [e.1, e.2]; exact k))]
  exact h b m q
theorem SC.s {x y a i : Nat} (h : SC x a i) (k : SC y a i) : x = y := by
  obtain ⟨j, m, hc, rfl, rfl⟩ := h
  obtain ⟨j', m', hc', e1, e2⟩ := k
  exact (pq_inj hc hc' e1 e2).1
section REF1
variable {σ τ ρ A B : sg} {s t j i : Nat} {v : Int32} {P P' : Nat → Nat → Prop}
theorem SC.c (h : celR j i) : SC s (pqa j i) (pqi s j i) := ⟨j, i, h, rfl, rfl⟩
theorem SC.b {a i : Nat} (h : SC s a i) : 27 ≤ a ∧ a ≤ 43 ∧ a ≠ 29 ∧ a ≠ 34 ∧ a ≠ 35 ∧ a ≠ 36 := by
  obtain ⟨j, m, hc, rfl, rfl⟩ := h
  unfold celR at hc
  unfold pqa
  repeat' split
  all_goals omega
theorem RR.u (h : RR σ s A) (hc : celR j i) : RR (up σ (pqa j i) (pqi s j i) v) s (up A j i v) := fun j' i' hc' => by
  unfold up
  by_cases q : j' = j ∧ i' = i
  · obtain ⟨rfl, rfl⟩ := q
    rw [if_pos ⟨rfl, rfl⟩, if_pos ⟨rfl, rfl⟩]
  · rw [if_neg q, if_neg (fun e => q (pq_inj hc' hc e.1 e.2).2)]
    exact h j' i' hc'
theorem RR.o (h : RR σ t B) (hF : FX P σ τ) (hP : ∀ a i, SC t a i → ¬ P a i) : RR τ t B := fun j i hc => by
  rw [hF _ _ (hP _ _ (SC.c hc))]
  exact h j i hc
theorem RR.mem (h : RR σ s A) (hi : i < 128) : σ 30 (128 * s + i) = A 4 i := h 4 i (by unfold celR; omega)
theorem RR.fr {c : Nat} (h : RR σ s A) (hc : c < 4) (hi : i < 8) : σ 31 (8 * (4 * s + c) + i) = A (6 + c) i := by
  have := h (6 + c) i (by unfold celR; omega)
  unfold pqa pqi at this
  rw [if_neg (by omega), if_pos (by omega), if_neg (by omega), if_pos (by omega), show 6 + c - 6 = c by omega] at this
  exact this
theorem RR.dn {c : Nat} (h : RR σ s A) (hc : c < 4) (hi : i < 8) : σ 32 (8 * (4 * s + c) + i) = A (11 + c) i := by
  have := h (11 + c) i (by unfold celR; omega)
  unfold pqa pqi at this
  rw [if_neg (by omega), if_neg (by omega), if_pos (by omega), if_neg (by omega), if_neg (by omega), if_pos (by omega), show 11 + c - 11 = c by omega] at this
  exact this
theorem RR.wr {c : Nat} (h : RR σ s A) (hc : c < 4) : σ 33 (4 * s + c) = A 15 c := h 15 c (by unfold celR; omega)
theorem RR.u4 (h : RR σ s A) (hi : i < 128) : RR (up σ 30 (128 * s + i) v) s (up A 4 i v) := h.u (j := 4) (i := i) (by unfold celR; omega)
theorem RR.u6 {c : Nat} (h : RR σ s A) (hc : c < 4) (hi : i < 8) : RR (up σ 31 (8 * (4 * s + c) + i) v) s (up A (6 + c) i v) := by
  have := h.u (j := 6 + c) (i := i) (v := v) (by unfold celR; omega)
  unfold pqa pqi at this
  rw [if_neg (by omega), if_pos (by omega), if_neg (by omega), if_pos (by omega), show 6 + c - 6 = c by omega] at this
  exact this
theorem RR.u11 {c : Nat} (h : RR σ s A) (hc : c < 4) (hi : i < 8) : RR (up σ 32 (8 * (4 * s + c) + i) v) s (up A (11 + c) i v) := by
  have := h.u (j := 11 + c) (i := i) (v := v) (by unfold celR; omega)
  unfold pqa pqi at this
  rw [if_neg (by omega), if_neg (by omega), if_pos (by omega), if_neg (by omega), if_neg (by omega), if_pos (by omega), show 11 + c - 11 = c by omega] at this
  exact this
theorem RR.u15 {c : Nat} (h : RR σ s A) (hc : c < 4) : RR (up σ 33 (4 * s + c) v) s (up A 15 c v) := h.u (j := 15) (i := c) (by unfold celR; omega)
theorem RR.u37 (h : RR σ s A) : RR (up σ 37 s v) s (up A 3 7 v) := h.u (j := 3) (i := 7) (by unfold celR; omega)
theorem RR.u38 (h : RR σ s A) : RR (up σ 38 s v) s (up A 3 8 v) := h.u (j := 3) (i := 8) (by unfold celR; omega)
theorem RR.u39 (h : RR σ s A) : RR (up σ 39 s v) s (up A 3 9 v) := h.u (j := 3) (i := 9) (by unfold celR; omega)
theorem SC.m (hi : i < 128) : SC s 30 (128 * s + i) := SC.c (j := 4) (i := i) (by unfold celR; omega)
theorem SC.f {c : Nat} (hc : c < 4) (hi : i < 8) : SC s 31 (8 * (4 * s + c) + i) := by
  refine ⟨6 + c, i, by unfold celR; omega, ?_, ?_⟩
  · unfold pqa
    rw [if_neg (by omega), if_pos (by omega)]
  · unfold pqi
    rw [if_neg (by omega), if_pos (by omega), show 6 + c - 6 = c by omega]
theorem SC.d {c : Nat} (hc : c < 4) (hi : i < 8) : SC s 32 (8 * (4 * s + c) + i) := by
  refine ⟨11 + c, i, by unfold celR; omega, ?_, ?_⟩
  · unfold pqa
    rw [if_neg (by omega), if_neg (by omega), if_pos (by omega)]
  · unfold pqi
    rw [if_neg (by omega), if_neg (by omega), if_pos (by omega), show 11 + c - 11 = c by omega]
theorem SC.w {c : Nat} (hc : c < 4) : SC s 33 (4 * s + c) := SC.c (j := 15) (i := c) (by unfold celR; omega)
theorem SC.x7 : SC s 37 s := SC.c (j := 3) (i := 7) (by unfold celR; omega)
theorem SC.x8 : SC s 38 s := SC.c (j := 3) (i := 8) (by unfold celR; omega)
theorem SC.x9 : SC s 39 s := SC.c (j := 3) (i := 9) (by unfold celR; omega)
end REF1
section REF2
variable {n s c : Nat} {σ A : sg}
theorem q_R_at {b : Nat} (h : okB n) (hA : RR σ s A) (hs6 : s < 6) (hb : b < 128) : G_R_at [.ref 26, .int (nI s), .int (nI b)] (hs n σ) = some (A 4 b, hs n σ) := by
  refine mI_q (Nat.le_of_ble_eq_true rfl) ?_
  simp only [jx_L0, List.map_cons, List.map_nil, List.length_cons, List.length_nil, Nat.reduceAdd, Nat.reduceSub, List.replicate, List.cons_append, List.nil_append]
  unfold P_R_at
  refine wS_r (by simp only [e_fI, e_fLd, e_fLr, e_fB, e_fD, e_fC, e_fT, e_fAnd, e_fOr, e_fNot, e_fCC, e_fIf, e_gI, e_gR, e_aI, e_aR, e_aN, e_cV, e_cS, e_fNil, e_fAi, e_fAr, e_sSeq, e_sSkip, e_sSt, e_sSr, e_sInc, e_sRI, e_sRR, e_sRV, e_sIf, e_sCall, e_sPI, e_sPZ, e_sPR, e_sPO, e_sAI, e_sAZ, e_sAO, e_sAR, e_sPopI, e_sPopR, e_sCopy, e_mI, e_mZ, e_mR, e_mV, jAdd_n, jMul_n, z0, z1, Option.bind_some, List.getElem?_cons_zero, List.getElem?_cons_succ, List.set_cons_zero, List.set_cons_succ, eq_self, if_true, ite_and, ite_or, ite_I, ite_bI, ite_bJ, bI_ne, bI_01, List.cons_append, List.nil_append, Bool.false_eq_true, if_false, gT26_4 h, iT30 h (show 128 * s + b < 768 by omega), hA.mem hb]; rfl) ?_
  exact ⟨rfl, rfl⟩
theorem q_R_begin (h : okB n) (hA : RR σ s A) (hs6 : s < 6) (hc : c < 4) : G_R_begin [.ref 26, .int (nI s), .int (nI c)] (hs n σ) = some (A 4 (32 + c * 4), hs n σ) := by
  refine mI_q (Nat.le_of_ble_eq_true rfl) ?_
  simp only [jx_L0, List.map_cons, List.map_nil, List.length_cons, List.length_nil, Nat.reduceAdd, Nat.reduceSub, List.replicate, List.cons_append, List.nil_append]
  unfold P_R_begin
  refine wS_r (by simp only [e_fI, e_fLd, e_fLr, e_fB, e_fD, e_fC, e_fT, e_fAnd, e_fOr, e_fNot, e_fCC, e_fIf, e_gI, e_gR, e_aI, e_aR, e_aN, e_cV, e_cS, e_fNil, e_fAi, e_fAr, e_sSeq, e_sSkip, e_sSt, e_sSr, e_sInc, e_sRI, e_sRR, e_sRV, e_sIf, e_sCall, e_sPI, e_sPZ, e_sPR, e_sPO, e_sAI, e_sAZ, e_sAO, e_sAR, e_sPopI, e_sPopR, e_sCopy, e_mI, e_mZ, e_mR, e_mV, jAdd_n, jMul_n, z0, z1, Option.bind_some, List.getElem?_cons_zero, List.getElem?_cons_succ, List.set_cons_zero, List.set_cons_succ, eq_self, if_true, ite_and, ite_or, ite_I, ite_bI, ite_bJ, bI_ne, bI_01, List.cons_append, List.nil_append, Bool.false_eq_true, if_false, kT26 h, q_R_at h hA hs6 (show 32 + 4 * c < 128 by omega)]; rfl) ?_
  rw [Nat.mul_comm]
  exact ⟨rfl, rfl⟩
theorem q_R_many (h : okB n) (hA : RR σ s A) (hs6 : s < 6) (hc : c < 4) : G_R_many [.ref 26, .int (nI s), .int (nI c)] (hs n σ) = some (A 4 (32 + c * 4 + 1), hs n σ) := by
  refine mI_q (Nat.le_of_ble_eq_true rfl) ?_
  simp only [jx_L0, List.map_cons, List.map_nil, List.length_cons, List.length_nil, Nat.reduceAdd, Nat.reduceSub, List.replicate, List.cons_append, List.nil_append]
  unfold P_R_many
  refine wS_r (by simp only [e_fI, e_fLd, e_fLr, e_fB, e_fD, e_fC, e_fT, e_fAnd, e_fOr, e_fNot, e_fCC, e_fIf, e_gI, e_gR, e_aI, e_aR, e_aN, e_cV, e_cS, e_fNil, e_fAi, e_fAr, e_sSeq, e_sSkip, e_sSt, e_sSr, e_sInc, e_sRI, e_sRR, e_sRV, e_sIf, e_sCall, e_sPI, e_sPZ, e_sPR, e_sPO, e_sAI, e_sAZ, e_sAO, e_sAR, e_sPopI, e_sPopR, e_sCopy, e_mI, e_mZ, e_mR, e_mV, jAdd_n, jMul_n, z0, z1, Option.bind_some, List.getElem?_cons_zero, List.getElem?_cons_succ, List.set_cons_zero, List.set_cons_succ, eq_self, if_true, ite_and, ite_or, ite_I, ite_bI, ite_bJ, bI_ne, bI_01, List.cons_append, List.nil_append, Bool.false_eq_true, if_false, kT26 h, q_R_at h hA hs6 (show 33 + 4 * c < 128 by omega)]; rfl) ?_
  rw [show 33 + 4 * c = 32 + c * 4 + 1 by omega]
  exact ⟨rfl, rfl⟩
theorem q_R_kind (h : okB n) (hA : RR σ s A) (hs6 : s < 6) (hc : c < 4) : G_R_kind [.ref 26, .int (nI s), .int (nI c)] (hs n σ) = some (A 4 (32 + c * 4 + 2), hs n σ) := by
  refine mI_q (Nat.le_of_ble_eq_true rfl) ?_
  simp only [jx_L0, List.map_cons, List.map_nil, List.length_cons, List.length_nil, Nat.reduceAdd, Nat.reduceSub, List.replicate, List.cons_append, List.nil_append]
  unfold P_R_kind
  refine wS_r (by simp only [e_fI, e_fLd, e_fLr, e_fB, e_fD, e_fC, e_fT, e_fAnd, e_fOr, e_fNot, e_fCC, e_fIf, e_gI, e_gR, e_aI, e_aR, e_aN, e_cV, e_cS, e_fNil, e_fAi, e_fAr, e_sSeq, e_sSkip, e_sSt, e_sSr, e_sInc, e_sRI, e_sRR, e_sRV, e_sIf, e_sCall, e_sPI, e_sPZ, e_sPR, e_sPO, e_sAI, e_sAZ, e_sAO, e_sAR, e_sPopI, e_sPopR, e_sCopy, e_mI, e_mZ, e_mR, e_mV, jAdd_n, jMul_n, z0, z1, Option.bind_some, List.getElem?_cons_zero, List.getElem?_cons_succ, List.set_cons_zero, List.set_cons_succ, eq_self, if_true, ite_and, ite_or, ite_I, ite_bI, ite_bJ, bI_ne, bI_01, List.cons_append, List.nil_append, Bool.false_eq_true, if_false, kT26 h, q_R_at h hA hs6 (show 34 + 4 * c < 128 by omega)]; rfl) ?_
  rw [show 34 + 4 * c = 32 + c * 4 + 2 by omega]
  exact ⟨rfl, rfl⟩
theorem q_R_open (h : okB n) (hA : RR σ s A) (hs6 : s < 6) (hc : c < 4) : G_R_open [.ref 26, .int (nI s), .int (nI c)] (hs n σ) = some (bI (opn (A 4) c), hs n σ) := by
  refine mZ_q (Nat.le_of_ble_eq_true rfl) ?_
  simp only [jx_L0, List.map_cons, List.map_nil, List.length_cons, List.length_nil, Nat.reduceAdd, Nat.reduceSub, List.replicate, List.cons_append, List.nil_append]
  unfold P_R_open
  have e3 : 35 + 4 * c = 32 + c * 4 + 3 := by omega
  refine wSeq (wS_l (by simp only [e_fI, e_fLd, e_fLr, e_fB, e_fD, e_fC, e_fT, e_fAnd, e_fOr, e_fNot, e_fCC, e_fIf, e_gI, e_gR, e_aI, e_aR, e_aN, e_cV, e_cS, e_fNil, e_fAi, e_fAr, e_sSeq, e_sSkip, e_sSt, e_sSr, e_sInc, e_sRI, e_sRR, e_sRV, e_sIf, e_sCall, e_sPI, e_sPZ, e_sPR, e_sPO, e_sAI, e_sAZ, e_sAO, e_sAR, e_sPopI, e_sPopR, e_sCopy, e_mI, e_mZ, e_mR, e_mV, jAdd_n, jMul_n, z0, z1, Option.bind_some, List.getElem?_cons_zero, List.getElem?_cons_succ, List.set_cons_zero, List.set_cons_succ, eq_self, if_true, ite_and, ite_or, ite_I, ite_bI, ite_bJ, bI_ne, bI_01, List.cons_append, List.nil_append, Bool.false_eq_true, if_false, kT26 h, q_R_many h hA hs6 hc]; rfl) ?_)
  refine wS_r (by simp only [e_fI, e_fLd, e_fLr, e_fB, e_fD, e_fC, e_fT, e_fAnd, e_fOr, e_fNot, e_fCC, e_fIf, e_gI, e_gR, e_aI, e_aR, e_aN, e_cV, e_cS, e_fNil, e_fAi, e_fAr, e_sSeq, e_sSkip, e_sSt, e_sSr, e_sInc, e_sRI, e_sRR, e_sRV, e_sIf, e_sCall, e_sPI, e_sPZ, e_sPR, e_sPO, e_sAI, e_sAZ, e_sAO, e_sAR, e_sPopI, e_sPopR, e_sCopy, e_mI, e_mZ, e_mR, e_mV, jAdd_n, jMul_n, z0, z1, Option.bind_some, List.getElem?_cons_zero, List.getElem?_cons_succ, List.set_cons_zero, List.set_cons_succ, eq_self, if_true, ite_and, ite_or, ite_I, ite_bI, ite_bJ, bI_ne, bI_01, List.cons_append, List.nil_append, Bool.false_eq_true, if_false, kT26 h, q_R_begin h hA hs6 hc, q_R_at h hA hs6 (show 32 + c * 4 + 3 < 128 by omega), e3]; rfl) ?_
  exact ⟨rfl, rfl⟩
theorem q_R_like {m k : Int32} (h : okB n) (hA : RR σ s A) (hs6 : s < 6) (hc : c < 4) : G_R_like [.ref 26, .int (nI s), .int (nI c), .int m, .int k] (hs n σ) = some (bI (opA A c m k), hs n σ) := by
  refine mZ_q (Nat.le_of_ble_eq_true rfl) ?_
  simp only [jx_L0, List.map_cons, List.map_nil, List.length_cons, List.length_nil, Nat.reduceAdd, Nat.reduceSub, List.replicate, List.cons_append, List.nil_append]
  unfold P_R_like
  refine wS_r (by simp only [e_fI, e_fLd, e_fLr, e_fB, e_fD, e_fC, e_fT, e_fAnd, e_fOr, e_fNot, e_fCC, e_fIf, e_gI, e_gR, e_aI, e_aR, e_aN, e_cV, e_cS, e_fNil, e_fAi, e_fAr, e_sSeq, e_sSkip, e_sSt, e_sSr, e_sInc, e_sRI, e_sRR, e_sRV, e_sIf, e_sCall, e_sPI, e_sPZ, e_sPR, e_sPO, e_sAI, e_sAZ, e_sAO, e_sAR, e_sPopI, e_sPopR, e_sCopy, e_mI, e_mZ, e_mR, e_mV, jAdd_n, jMul_n, z0, z1, Option.bind_some, List.getElem?_cons_zero, List.getElem?_cons_succ, List.set_cons_zero, List.set_cons_succ, eq_self, if_true, ite_and, ite_or, ite_I, ite_bI, ite_bJ, bI_ne, bI_01, List.cons_append, List.nil_append, Bool.false_eq_true, if_false, kT26 h, q_R_open h hA hs6 hc, q_R_kind h hA hs6 hc, q_R_many h hA hs6 hc]; rfl) ?_
  exact ⟨rfl, rfl⟩
theorem own_no {F : Nat → Int32} {b : Nat} (h : ∀ d, d < 4 → inC F d b = false) : own F b = -1 := by
  unfold own
  rw [h 0 (by omega), h 1 (by omega), h 2 (by omega), h 3 (by omega)]
  rfl
theorem own_fst {F : Nat → Int32} {b : Nat} (hc : c < 4) (h : ∀ d, d < c → inC F d b = false) (h1 : inC F c b = true) : own F b = nI c := by
  unfold own
  rcases (show c = 0 ∨ c = 1 ∨ c = 2 ∨ c = 3 by omega) with rfl | rfl | rfl | rfl
  · rw [if_pos h1]
  · rw [h 0 (by omega), if_neg Bool.false_ne_true, if_pos h1]
  · rw [h 0 (by omega), h 1 (by omega), if_neg Bool.false_ne_true, if_neg Bool.false_ne_true, if_pos h1]
  · rw [h 0 (by omega), h 1 (by omega), h 2 (by omega), if_neg Bool.false_ne_true, if_neg Bool.false_ne_true, if_neg Bool.false_ne_true, if_pos h1]
theorem jGe_Le (x y : Int32) : jGe x y = jLe y x := rfl
theorem q_R_channelOf {b : Nat} (h : okB n) (hA : RR σ s A) (hs6 : s < 6) : G_R_channelOf [.ref 26, .int (nI s), .int (nI b)] (hs n σ) = some (own (A 4) b, hs n σ) := by
  refine mI_q (Nat.le_of_ble_eq_true rfl) ?_
  simp only [jx_L0, List.map_cons, List.map_nil, List.length_cons, List.length_nil, Nat.reduceAdd, Nat.reduceSub, List.replicate, List.cons_append, List.nil_append]
  unfold P_R_channelOf
  refine wSeq (wSeq (wS_l (by simp only [e_fI, e_fLd, e_fLr, e_fB, e_fD, e_fC, e_fT, e_fAnd, e_fOr, e_fNot, e_fCC, e_fIf, e_gI, e_gR, e_aI, e_aR, e_aN, e_cV, e_cS, e_fNil, e_fAi, e_fAr, e_sSeq, e_sSkip, e_sSt, e_sSr, e_sInc, e_sRI, e_sRR, e_sRV, e_sIf, e_sCall, e_sPI, e_sPZ, e_sPR, e_sPO, e_sAI, e_sAZ, e_sAO, e_sAR, e_sPopI, e_sPopR, e_sCopy, e_mI, e_mZ, e_mR, e_mV, jAdd_n, jMul_n, z0, z1, Option.bind_some, List.getElem?_cons_zero, List.getElem?_cons_succ, List.set_cons_zero, List.set_cons_succ, eq_self, if_true, ite_and, ite_or, ite_I, ite_bI, ite_bJ, bI_ne, bI_01, List.cons_append, List.nil_append, Bool.false_eq_true, if_false]; rfl) ?_))
  refine wWh (I := fun c L H => L = [some (.ref 26), some (.int (nI s)), some (.int (nI b)), some (.int (nI c))] ∧ H = hs n σ ∧ ∀ d, d < c → inC (A 4) d b = false) (e := 4) ?_ ?_ ?_ 600 0 _ _ (by omega) (by omega) ⟨rfl, rfl, fun d hd => by omega⟩
  · rintro c _ _ ⟨rfl, rfl, -⟩ hi
    simp only [e_fI, e_fLd, e_fLr, e_fB, e_fD, e_fC, e_fT, e_fAnd, e_fOr, e_fNot, e_fCC, e_fIf, e_gI, e_gR, e_aI, e_aR, e_aN, e_cV, e_cS, e_fNil, e_fAi, e_fAr, e_sSeq, e_sSkip, e_sSt, e_sSr, e_sInc, e_sRI, e_sRR, e_sRV, e_sIf, e_sCall, e_sPI, e_sPZ, e_sPR, e_sPO, e_sAI, e_sAZ, e_sAO, e_sAR, e_sPopI, e_sPopR, e_sCopy, e_mI, e_mZ, e_mR, e_mV, jAdd_n, jMul_n, z0, z1, Option.bind_some, List.getElem?_cons_zero, List.getElem?_cons_succ, List.set_cons_zero, List.set_cons_succ, eq_self, if_true, ite_and, ite_or, ite_I, ite_bI, ite_bJ, bI_ne, bI_01, List.cons_append, List.nil_append, Bool.false_eq_true, if_false, jLt, nI_ltI (show c < 2 ^ 31 by omega) (show 4 < 2 ^ 31 by omega)]
  · rintro c _ _ ⟨rfl, rfl, hd⟩ hi
    have ei : (opn (A 4) c && jLe (A 4 (32 + c * 4)) (nI b) && jLt (nI b) (jAdd (A 4 (32 + c * 4)) (A 4 (32 + c * 4 + 1)))) = inC (A 4) c b := rfl
    refine wSeq (wIf (by simp only [e_fI, e_fLd, e_fLr, e_fB, e_fD, e_fC, e_fT, e_fAnd, e_fOr, e_fNot, e_fCC, e_fIf, e_gI, e_gR, e_aI, e_aR, e_aN, e_cV, e_cS, e_fNil, e_fAi, e_fAr, e_sSeq, e_sSkip, e_sSt, e_sSr, e_sInc, e_sRI, e_sRR, e_sRV, e_sIf, e_sCall, e_sPI, e_sPZ, e_sPR, e_sPO, e_sAI, e_sAZ, e_sAO, e_sAR, e_sPopI, e_sPopR, e_sCopy, e_mI, e_mZ, e_mR, e_mV, jAdd_n, jMul_n, z0, z1, Option.bind_some, List.getElem?_cons_zero, List.getElem?_cons_succ, List.set_cons_zero, List.set_cons_succ, eq_self, if_true, ite_and, ite_or, ite_I, ite_bI, ite_bJ, bI_ne, bI_01, List.cons_append, List.nil_append, Bool.false_eq_true, if_false, kT26 h, q_R_open h hA hs6 hi, q_R_begin h hA hs6 hi, q_R_many h hA hs6 hi, jGe_Le, ei]; rfl) (fun hb => ?_) (fun hb => ?_))
    · exact wS_r rfl ⟨by rw [own_fst hi hd hb], rfl⟩
    · refine wS_l rfl ?_
      refine wS_l (by simp only [e_fI, e_fLd, e_fLr, e_fB, e_fD, e_fC, e_fT, e_fAnd, e_fOr, e_fNot, e_fCC, e_fIf, e_gI, e_gR, e_aI, e_aR, e_aN, e_cV, e_cS, e_fNil, e_fAi, e_fAr, e_sSeq, e_sSkip, e_sSt, e_sSr, e_sInc, e_sRI, e_sRR, e_sRV, e_sIf, e_sCall, e_sPI, e_sPZ, e_sPR, e_sPO, e_sAI, e_sAZ, e_sAO, e_sAR, e_sPopI, e_sPopR, e_sCopy, e_mI, e_mZ, e_mR, e_mV, jAdd_n, jMul_n, z0, z1, Option.bind_some, List.getElem?_cons_zero, List.getElem?_cons_succ, List.set_cons_zero, List.set_cons_succ, eq_self, if_true, ite_and, ite_or, ite_I, ite_bI, ite_bJ, bI_ne, bI_01, List.cons_append, List.nil_append, Bool.false_eq_true, if_false, nI_add]; rfl) ?_
      refine ⟨rfl, rfl, fun d hd2 => ?_⟩
      rcases Nat.lt_succ_iff_lt_or_eq.mp hd2 with q | q
      · exact hd d q
      · rw [q]; exact hb
  · rintro _ _ ⟨rfl, rfl, hd⟩
    refine wS_r rfl ⟨?_, rfl⟩
    rw [own_no hd]
end REF2
