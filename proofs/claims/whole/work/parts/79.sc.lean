/-! scan -/
def fgW (w : wd) : wd := (w.1, w.2.1, w.2.2.1, fun j i => if j = 2 ∨ j = 3 then nI 0 else if j = 0 ∧ (i = 6 ∨ i = 7) then nI 0 else vW w j i)
theorem vW_fg {w : wd} {j i : Nat} (h : ¬ (j = 2 ∨ j = 3)) (k : ¬ (j = 0 ∧ (i = 6 ∨ i = 7))) : vW (fgW w) j i = vW w j i := by
  unfold fgW vW
  dsimp only
  rw [if_neg h, if_neg k]
theorem okW.fg {w : wd} (hW : okW w) : okW (fgW w) ∧ sW (fgW w) = 0 ∧ mW (fgW w) = 0 := by
  obtain ⟨h1, h2, h3, h4, h5, h6, h7, h8, h9, h10, h11, h12, h13, h14, h15, h16, h17, h18, h19, h20⟩ := hW
  have es : sW (fgW w) = 0 := nC_n (show 0 < 2 ^ 31 by omega)
  have em : mW (fgW w) = 0 := nC_n (show 0 < 2 ^ 31 by omega)
  refine ⟨⟨h1, h2, h3, h4, h5, h6, h7, h8, h9, h10, by rw [em]; rfl, by rw [em]; omega, by rw [es]; rfl, by rw [es]; omega, fun _ => es, h16, h17, h18, fun s hs => by rw [em] at hs; omega, fun i hi => by rw [es] at hi; omega⟩, es, em⟩
theorem okW.v3 {w : wd} {c : Nat} (hW : okW w) (hc : c ≤ kW w) : okW (setV w 0 3 (nI c)) := by
  obtain ⟨h1, h2, h3, h4, h5, h6, h7, h8, h9, h10, h11, h12, h13, h14, h15, h16, h17, h18, h19, h20⟩ := hW
  have ef : fW (setV w 0 3 (nI c)) = c := nC_n (by omega)
  exact ⟨h1, h2, h3, h4, by rw [ef]; rfl, by rw [ef]; exact hc, h7, h8, h9, h10, h11, h12, h13, h14, h15, h16, h17, h18, h19, h20⟩
section SCC
variable {n X : Nat} {σ : sg} {w : wd}
theorem isF_A {a j : Nat} (ha : a < 58) (h3 : 3 ≤ a) (hr : rt_T.getD a [] = []) : isF a j := cT_I ha (rT_n hr) (by omega)
theorem q_I_forget (hC : CPc n X σ w) : ∃ τ, G_I_forget [.ref 4] (hs n σ) = some (hs n τ) ∧ CPc n X τ (fgW w) ∧ FK σ τ := by
  have h := hC.B
  have hX := hC.ix
  have hb10 : X = 10 ∨ X = 18 := hX
  refine mV_s (Nat.le_of_ble_eq_true rfl) ?_
  simp only [jx_L0, List.map_cons, List.map_nil, List.length_cons, List.length_nil, Nat.reduceAdd, Nat.reduceSub, List.replicate, List.cons_append, List.nil_append]
  unfold P_I_forget
  have f5 : ∀ σ, G_A_fill [.ref 5, .int (nI 0)] (hs n σ) = some (hs n (fil σ 5 24 (nI 0))) := fun σ => q_A_fill (by unfold okB at h; omega) ((kb (by omega)).trans rfl) ((sb (by omega)).trans rfl) (by omega) (fun j _ => isF_A (by omega) (by omega) rfl)
  have f6 : ∀ σ, G_A_fill [.ref 6, .int (nI 0)] (hs n σ) = some (hs n (fil σ 6 24 (nI 0))) := fun σ => q_A_fill (by unfold okB at h; omega) ((kb (by omega)).trans rfl) ((sb (by omega)).trans rfl) (by omega) (fun j _ => isF_A (by omega) (by omega) rfl)
  refine wSeq (wS_l (by simp only [e_fI, e_fLd, e_fLr, e_fB, e_fD, e_fC, e_fT, e_fAnd, e_fOr, e_fNot, e_fCC, e_fIf, e_gI, e_gR, e_aI, e_aR, e_aN, e_cV, e_cS, e_fNil, e_fAi, e_fAr, e_sSeq, e_sSkip, e_sSt, e_sSr, e_sInc, e_sRI, e_sRR, e_sRV, e_sIf, e_sCall, e_sPI, e_sPZ, e_sPR, e_sPO, e_sAI, e_sAZ, e_sAO, e_sAR, e_sPopI, e_sPopR, e_sCopy, e_mI, e_mZ, e_mR, e_mV, jAdd_n, jMul_n, z0, z1, Option.bind_some, List.getElem?_cons_zero, List.getElem?_cons_succ, List.set_cons_zero, List.set_cons_succ, eq_self, if_true, ite_and, ite_or, ite_I, ite_bI, ite_bJ, bI_ne, bI_01, List.cons_append, List.nil_append, Bool.false_eq_true, if_false, pT4_5 h]; rfl) ?_)
  refine wSeq (wS_l (by simp only [e_fI, e_fLd, e_fLr, e_fB, e_fD, e_fC, e_fT, e_fAnd, e_fOr, e_fNot, e_fCC, e_fIf, e_gI, e_gR, e_aI, e_aR, e_aN, e_cV, e_cS, e_fNil, e_fAi, e_fAr, e_sSeq, e_sSkip, e_sSt, e_sSr, e_sInc, e_sRI, e_sRR, e_sRV, e_sIf, e_sCall, e_sPI, e_sPZ, e_sPR, e_sPO, e_sAI, e_sAZ, e_sAO, e_sAR, e_sPopI, e_sPopR, e_sCopy, e_mI, e_mZ, e_mR, e_mV, jAdd_n, jMul_n, z0, z1, Option.bind_some, List.getElem?_cons_zero, List.getElem?_cons_succ, List.set_cons_zero, List.set_cons_succ, eq_self, if_true, ite_and, ite_or, ite_I, ite_bI, ite_bJ, bI_ne, bI_01, List.cons_append, List.nil_append, Bool.false_eq_true, if_false, pT4_6 h]; rfl) ?_)
  refine wSeq (wS_l (by simp only [e_fI, e_fLd, e_fLr, e_fB, e_fD, e_fC, e_fT, e_fAnd, e_fOr, e_fNot, e_fCC, e_fIf, e_gI, e_gR, e_aI, e_aR, e_aN, e_cV, e_cS, e_fNil, e_fAi, e_fAr, e_sSeq, e_sSkip, e_sSt, e_sSr, e_sInc, e_sRI, e_sRR, e_sRV, e_sIf, e_sCall, e_sPI, e_sPZ, e_sPR, e_sPO, e_sAI, e_sAZ, e_sAO, e_sAR, e_sPopI, e_sPopR, e_sCopy, e_mI, e_mZ, e_mR, e_mV, jAdd_n, jMul_n, z0, z1, Option.bind_some, List.getElem?_cons_zero, List.getElem?_cons_succ, List.set_cons_zero, List.set_cons_succ, eq_self, if_true, ite_and, ite_or, ite_I, ite_bI, ite_bJ, bI_ne, bI_01, List.cons_append, List.nil_append, Bool.false_eq_true, if_false, gT4_0 h, f5]; rfl) ?_)
  refine wSeq (wS_l (by simp only [e_fI, e_fLd, e_fLr, e_fB, e_fD, e_fC, e_fT, e_fAnd, e_fOr, e_fNot, e_fCC, e_fIf, e_gI, e_gR, e_aI, e_aR, e_aN, e_cV, e_cS, e_fNil, e_fAi, e_fAr, e_sSeq, e_sSkip, e_sSt, e_sSr, e_sInc, e_sRI, e_sRR, e_sRV, e_sIf, e_sCall, e_sPI, e_sPZ, e_sPR, e_sPO, e_sAI, e_sAZ, e_sAO, e_sAR, e_sPopI, e_sPopR, e_sCopy, e_mI, e_mZ, e_mR, e_mV, jAdd_n, jMul_n, z0, z1, Option.bind_some, List.getElem?_cons_zero, List.getElem?_cons_succ, List.set_cons_zero, List.set_cons_succ, eq_self, if_true, ite_and, ite_or, ite_I, ite_bI, ite_bJ, bI_ne, bI_01, List.cons_append, List.nil_append, Bool.false_eq_true, if_false, gT4_1 h, f6]; rfl) ?_)
  have ot : ∀ a, a ≠ 4 → a ≠ 5 → a ≠ 6 → fil (fil (up (up σ 4 5 (nI 0)) 4 6 (nI 0)) 5 24 (nI 0)) 6 24 (nI 0) a = σ a := fun a g4 g5 g6 => by rw [fil_ne g6, fil_ne g5, up_ne g4, up_ne g4]
  obtain ⟨h1, ⟨-, hy3, hz3⟩, h2, h3, h4, h5, h6, h7⟩ := hC
  refine wS_r rfl ⟨rfl, _, rfl, ⟨h1, ⟨hX, hy3, hz3⟩, by rw [ot 0 (by omega) (by omega) (by omega)]; exact h2, by rw [ot 0 (by omega) (by omega) (by omega)]; exact h3, fun j i hc => ?_, fun t ht => (h5 t ht).ot (fun j _ => ot _ (by have := sa_ge t j; omega) (by have := sa_ge t j; omega) (by have := sa_ge t j; omega)), fun e he => (h6 e he).keep (ot _ (by omega) (by omega) (by omega)) (ot _ (by omega) (by omega) (by omega)), fun e he => (h7 e he).keep (ot _ (by omega) (by omega) (by omega)) (ot _ (by omega) (by omega) (by omega))⟩, fun a g1 g2 => ot a (by omega) (by omega) (by omega)⟩
  have c := cv_c (X := X) hc
  by_cases q2 : j = 2
  · subst q2
    have hi : i < 24 := by unfold celV at hc; omega
    show fil _ 6 24 (nI 0) 5 i = nI 0
    rw [fil_ne (by omega)]
    unfold fil
    rw [if_pos ⟨rfl, hi⟩]
  by_cases q3 : j = 3
  · subst q3
    have hi : i < 24 := by unfold celV at hc; omega
    show fil _ 6 24 (nI 0) 6 i = nI 0
    unfold fil
    rw [if_pos ⟨rfl, hi⟩]
  by_cases q6 : j = 0 ∧ i = 6
  · obtain ⟨rfl, rfl⟩ := q6
    rfl
  by_cases q7 : j = 0 ∧ i = 7
  · obtain ⟨rfl, rfl⟩ := q7
    rfl
  rw [vW_fg (by omega) (by omega), ← h4 j i hc, ot _ (by omega) (by omega) (by omega)]
/-- the datagram that gives station s its address -/
def pwG (s : Nat) : sg := sgG (nI 2) (nI ((65536 - s) % 65536)) (nI 0) (nI (s + 1))
theorem pwG_ok {s : Nat} : okP (pwG s) := okP_sg (by omega) (by omega) (by omega)
theorem and255 {x : Nat} (h : x < 2 ^ 31) : jAnd (nI x) (nI 255) = nI (x % 256) := by
  unfold jAnd
  apply Int32.toBitVec_inj.mp
  rw [Int32.toBitVec_and]
  apply BitVec.eq_of_toNat_eq
  rw [BitVec.toNat_and, nI_nat h, nI_nat (by decide), nI_nat (by omega)]
  exact Nat.and_two_pow_sub_one_eq_mod x 8
theorem sgG_0 {c a o : Int32} : sgG c a o (nI 0) = nwG c a o (nI 1) := by
  unfold sgG
  rw [and255 (by omega)]
  funext j i
  unfold up
  split
  · rename_i q
    rw [q.1, q.2]
    rfl
  · rfl
def alG : sg := nwG (nI 7) (nI 0) (nI 0) (nI 1)
theorem alG_ok : okP alG := by
  unfold alG
  rw [← sgG_0]
  exact okP_sg (by omega) (by omega) (by omega)
def scL (w : wd) : Nat → wd
  | 0 => w
  | s + 1 => sndW (frW (scL w s) 1 (fun _ => pwG s))
theorem scL_ok (hW : okW w) : ∀ s, okW (scL w s) ∧ kW (scL w s) = kW w ∧ vW (scL w s) 0 3 = vW w 0 3
  | 0 => ⟨hW, rfl, rfl⟩
  | s + 1 => by
    obtain ⟨i1, i2, i3⟩ := scL_ok hW s
    exact ⟨(i1.fr (by omega) (fun _ _ => pwG_ok)).sn, i2, i3⟩
theorem scL_3 {x : Int32} : ∀ s, scL (setV w 0 3 x) s = setV (scL w s) 0 3 x
  | 0 => rfl
  | s + 1 => by
    show sndW (frW (scL (setV w 0 3 x) s) 1 _) = setV (sndW (frW (scL w s) 1 _)) 0 3 x
    rw [scL_3 s]
    generalize scL w s = u
    have e : up (up (up (up (vW u) 0 3 x) 0 5 (nI 1)) 0 1 (-1)) 0 2 (bI (tW (frW u 1 (fun _ => pwG s)))) = up (up (up (up (vW u) 0 5 (nI 1)) 0 1 (-1)) 0 2 (bI (tW (frW u 1 (fun _ => pwG s))))) 0 3 x := by
      rw [up_cm (i := 3) (j := 5) (by omega), up_cm (i := 3) (j := 1) (by omega), up_cm (i := 3) (j := 2) (by omega)]
    unfold setV sndW
    refine congrArg (fun v => ((runL u.1 (fun _ => pwG s) (zW (frW u 1 (fun _ => pwG s))) (dW (frW u 1 (fun _ => pwG s)))).1, u.2.1, (runL u.1 (fun _ => pwG s) (zW (frW u 1 (fun _ => pwG s))) (dW (frW u 1 (fun _ => pwG s)))).2, v)) e
theorem pf_4 {A G : sg} {m : Nat} (e0 : G 0 0 = nI m) (hm : m = 7) : (pf A G).2 0 0 = G 0 0 ∧ ((pf A G).2 0 4 = G 0 4 ∨ (pf A G).2 0 4 = jAdd (G 0 4) (nI 1)) := by
  rw [pf_e e0 (by omega), if_neg (by omega), if_neg (by omega), if_pos (by omega)]
  dsimp only
  unfold dirP
  rw [if_pos rfl]
  dsimp only
  unfold incG dirG
  split
  · split
    · exact ⟨rfl, Or.inr rfl⟩
    · exact ⟨rfl, Or.inl rfl⟩
  · split
    · exact ⟨rfl, Or.inr rfl⟩
    · exact ⟨rfl, Or.inl rfl⟩
theorem cnt_le {A : Nat → sg} : ∀ s, s ≤ 6 → (runL A (fun _ => alG) 1 s).2 0 0 0 = nI 7 ∧ ∃ c, c ≤ s ∧ (runL A (fun _ => alG) 1 s).2 0 0 4 = nI c
  | 0, _ => ⟨rfl, 0, by omega, rfl⟩
  | s + 1, hs => by
    obtain ⟨i0, c, hc, i4⟩ := cnt_le (A := A) s (by omega)
    have p := pf_4 (A := (runL A (fun _ => alG) 1 s).1 s) i0 rfl
    show (pf ((runL A (fun _ => alG) 1 s).1 s) ((runL A (fun _ => alG) 1 s).2 0)).2 0 0 = nI 7 ∧ ∃ c, c ≤ s + 1 ∧ (pf ((runL A (fun _ => alG) 1 s).1 s) ((runL A (fun _ => alG) 1 s).2 0)).2 0 4 = nI c
    refine ⟨p.1.trans i0, ?_⟩
    rcases p.2 with e | e
    · exact ⟨c, by omega, e.trans i4⟩
    · exact ⟨c + 1, by omega, by rw [e, i4, jAdd_n]⟩
end SCC
