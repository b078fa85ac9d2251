/-! the first heap, and the law -/
def sg0 : sg := fun a i => if a = 0 ∧ i = 2 then nI 10 else if a = 0 ∧ i = 3 then nI 18 else if a = 1 ∧ i = 3 then -1 else if a = 26 ∧ i = 21 then -1 else nI 0
theorem ini_L : fNew 7 df_L fNil G_L_init [] [] = some (0, hs 26 sg0) := by decide +kernel
theorem ini_R : fNew 8 df_R fNil G_R_init [] (hs 26 sg0) = some (26, hs 58 sg0) := by decide +kernel
theorem fNew_L {ci : Nat} {fs : List Value} {G : List Value → hp_H → Option hp_H} {L : hp_L} {h : hp_H} : fNew ci fs fNil G L h = fNew ci fs fNil G [] h := rfl
def wd0 : wd := (fun _ _ _ => nI 0, fun _ _ _ => nI 0, fun _ _ _ => nI 0, fun j i => if j = 0 ∧ i = 1 then -1 else nI 0)
theorem nC0 : (nI 0).toNatClampNeg = 0 := nC_n (by omega)
theorem okW_0 : okW wd0 := by
  have k : kW wd0 = 0 := nC0
  have f : fW wd0 = 0 := nC0
  have y : yW wd0 = 0 := nC0
  have z : zW wd0 = 0 := nC0
  have m : mW wd0 = 0 := nC0
  have s : sW wd0 = 0 := nC0
  refine ⟨by rw [k]; rfl, by rw [k]; omega, Or.inl rfl, ?_, by rw [f]; rfl, by rw [f]; omega, by rw [y]; rfl, by rw [y]; omega, by rw [z]; rfl, by rw [z]; omega, by rw [m]; rfl, by rw [m]; omega, by rw [s]; rfl, by rw [s]; omega, fun _ => s, fun t ht => by rw [k] at ht; omega, fun t ht => by rw [y] at ht; omega, fun t ht => by rw [z] at ht; omega, fun t ht => by rw [m] at ht; omega, fun t ht => by rw [s] at ht; omega⟩
  decide
theorem CPc_0 : CPc 58 18 sg0 wd0 := by
  have k : kW wd0 = 0 := nC0
  have y : yW wd0 = 0 := nC0
  have z : zW wd0 = 0 := nC0
  have hX : isX 18 := Or.inr rfl
  refine ⟨by rw [k], ⟨hX, by rw [y]; omega, by rw [z]; omega⟩, rfl, rfl, fun j i hc => ?_, fun t ht => by rw [k] at ht; omega, fun t ht => by rw [y] at ht; omega, fun t ht => by rw [z] at ht; omega⟩
  have c := cv_c (X := 18) hc
  have b := cva_b hX hc
  show sg0 (cva 18 j i) (cvi j i) = if j = 0 ∧ i = 1 then -1 else nI 0
  by_cases q : j = 0 ∧ i = 1
  · obtain ⟨rfl, rfl⟩ := q
    rfl
  · rw [if_neg q]
    generalize cva 18 j i = x at *
    generalize cvi j i = v at *
    unfold sg0
    rw [if_neg (by omega), if_neg (by omega), if_neg (by omega), if_neg (by omega)]
theorem CPr_0 : CPr sg0 wd0 := by
  have k : kW wd0 = 0 := nC0
  have y : yW wd0 = 0 := nC0
  have z : zW wd0 = 0 := nC0
  have m : mW wd0 = 0 := nC0
  have s : sW wd0 = 0 := nC0
  have b : bW wd0 = false := by decide
  have o : ∀ a i, 27 ≤ a ∨ a = 26 ∧ i ≠ 21 → sg0 a i = nI 0 := fun a i q => by
    unfold sg0
    rw [if_neg (by omega), if_neg (by omega), if_neg (by omega), if_neg (by omega)]
  refine ⟨fun j i hc => ?_, ?_, fun t ht => by rw [k] at ht; omega, fun t _ _ => ⟨fun j i hc => o _ _ (by have := (SC.c (s := t) hc).b; omega), o _ _ (by omega), o _ _ (by omega)⟩, fun t ht => by rw [y] at ht; omega, fun q => by rw [b] at q; cases q⟩
  · have c := rv_c hc
    show sg0 (rva j) (rvi j i) = if j = 0 ∧ i = 1 then -1 else nI 0
    by_cases q : j = 0 ∧ i = 1
    · obtain ⟨rfl, rfl⟩ := q
      rfl
    · rw [if_neg q]
      exact o _ _ (by omega)
  · rw [b, if_neg Bool.false_ne_true]
    rfl
section SQC
variable {LN : Nat} {LX : Nat → Int32} {R : Option Value → hp_H → Prop}
theorem lw_body {t : Nat} {L : hp_L} {H : hp_H} (hI : lwI t L H) (h5 : 5 * t + 5 ≤ LN) (hL : LN ≤ 2560) : wS (sSw (fB jAnd (fSc0 LN LX 3) (fI (nI 31))) 0 [sIf (fC jNe (cV 7 (fAr (fLr 1) (fAi (fSk LN LX 3 (nI 1)) (fAi (fSk LN LX 3 (nI 2)) (fNil)))) G_L_station) (cV 8 (fAr (fLr 2) (fAi (fSk LN LX 3 (nI 1)) (fAi (fSk LN LX 3 (nI 2)) (fNil)))) G_R_station)) (sRI (fI (nI 0))) sSkip, sIf (fC jNe (cV 7 (fAr (fLr 1) (fAi (fSk LN LX 3 (nI 1)) (fAi (fSk LN LX 3 (nI 2)) (fAi (fSk LN LX 3 (nI 3)) (fAi (fSk LN LX 3 (nI 4)) (fNil)))))) G_L_datagram) (cV 8 (fAr (fLr 2) (fAi (fSk LN LX 3 (nI 1)) (fAi (fSk LN LX 3 (nI 2)) (fAi (fSk LN LX 3 (nI 3)) (fAi (fSk LN LX 3 (nI 4)) (fNil)))))) G_R_datagram)) (sRI (fI (nI 0))) sSkip, sIf (fC jNe (cV 7 (fAr (fLr 1) (fAi (fSk LN LX 3 (nI 1)) (fAi (fSk LN LX 3 (nI 2)) (fAi (fSk LN LX 3 (nI 3)) (fNil))))) G_L_data) (cV 8 (fAr (fLr 2) (fAi (fSk LN LX 3 (nI 1)) (fAi (fSk LN LX 3 (nI 2)) (fAi (fSk LN LX 3 (nI 3)) (fNil))))) G_R_data)) (sRI (fI (nI 0))) sSkip, sIf (fC jNe (cV 7 (fAr (fLr 1) (fNil)) G_L_send) (cV 8 (fAr (fLr 2) (fNil)) G_R_send)) (sRI (fI (nI 0))) sSkip, sIf (fC jNe (cV 7 (fAr (fLr 1) (fAi (fSk LN LX 3 (nI 1)) (fAi (fSk LN LX 3 (nI 2)) (fNil)))) G_L_returned) (cV 8 (fAr (fLr 2) (fAi (fSk LN LX 3 (nI 1)) (fAi (fSk LN LX 3 (nI 2)) (fNil)))) G_R_returned)) (sRI (fI (nI 0))) sSkip, sIf (fC jNe (cV 7 (fAr (fLr 1) (fAi (fSk LN LX 3 (nI 1)) (fAi (fIf (fC jNe (fSk LN LX 3 (nI 2)) (fI 0)) (fI (nI 1)) (fI (nI 0))) (fNil)))) G_L_cut) (cV 8 (fAr (fLr 2) (fAi (fSk LN LX 3 (nI 1)) (fAi (fIf (fC jNe (fSk LN LX 3 (nI 2)) (fI 0)) (fI (nI 1)) (fI (nI 0))) (fNil)))) G_R_cut)) (sRI (fI (nI 0))) sSkip, sIf (fC jNe (cV 7 (fAr (fLr 1) (fAi (fSk LN LX 3 (nI 1)) (fNil))) G_L_spoil) (cV 8 (fAr (fLr 2) (fAi (fSk LN LX 3 (nI 1)) (fNil))) G_R_spoil)) (sRI (fI (nI 0))) sSkip, sSeq (sCall (cV 7 (fAr (fLr 1) (fNil)) G_L_tick)) (sCall (cV 8 (fAr (fLr 2) (fNil)) G_R_tick)), sIf (fC jNe (cV 7 (fAr (fLr 1) (fAi (fSk LN LX 3 (nI 1)) (fAi (fSk LN LX 3 (nI 2)) (fAi (fSk LN LX 3 (nI 3)) (fNil))))) G_L_sense) (cV 8 (fAr (fLr 2) (fAi (fSk LN LX 3 (nI 1)) (fAi (fSk LN LX 3 (nI 2)) (fAi (fSk LN LX 3 (nI 3)) (fNil))))) G_R_sense)) (sRI (fI (nI 0))) sSkip, sIf (fC jNe (cV 7 (fAr (fLr 1) (fAi (fSk LN LX 3 (nI 1)) (fAi (fSk LN LX 3 (nI 2)) (fNil)))) G_L_actuator) (cV 8 (fAr (fLr 2) (fAi (fSk LN LX 3 (nI 1)) (fAi (fSk LN LX 3 (nI 2)) (fNil)))) G_R_actuator)) (sRI (fI (nI 0))) sSkip, sIf (fC jNe (cV 7 (fAr (fLr 1) (fAi (fSk LN LX 3 (nI 1)) (fNil))) G_L_state) (cV 8 (fAr (fLr 2) (fAi (fSk LN LX 3 (nI 1)) (fNil))) G_R_state)) (sRI (fI (nI 0))) sSkip, sIf (fC jNe (cV 7 (fAr (fLr 1) (fNil)) G_L_scan) (cV 8 (fAr (fLr 2) (fNil)) G_R_scan)) (sRI (fI (nI 0))) sSkip, sIf (fC jNe (cV 7 (fAr (fLr 1) (fNil)) G_L_setup) (cV 8 (fAr (fLr 2) (fNil)) G_R_setup)) (sRI (fI (nI 0))) sSkip, sIf (fC jNe (cV 7 (fAr (fLr 1) (fAi (fSk LN LX 3 (nI 1)) (fNil))) G_L_request) (cV 8 (fAr (fLr 2) (fAi (fSk LN LX 3 (nI 1)) (fNil))) G_R_request)) (sRI (fI (nI 0))) sSkip, sIf (fC jNe (cV 7 (fAr (fLr 1) (fAi (fSk LN LX 3 (nI 1)) (fAi (fSk LN LX 3 (nI 2)) (fNil)))) G_L_output) (cV 8 (fAr (fLr 2) (fAi (fSk LN LX 3 (nI 1)) (fAi (fSk LN LX 3 (nI 2)) (fNil)))) G_R_output)) (sRI (fI (nI 0))) sSkip, sIf (fC jNe (cV 7 (fAr (fLr 1) (fNil)) G_L_cycle) (cV 8 (fAr (fLr 2) (fNil)) G_R_cycle)) (sRI (fI (nI 0))) sSkip, sIf (fC jNe (cV 7 (fAr (fLr 1) (fAi (fSk LN LX 3 (nI 1)) (fNil))) G_L_input) (cV 8 (fAr (fLr 2) (fAi (fSk LN LX 3 (nI 1)) (fNil))) G_R_input)) (sRI (fI (nI 0))) sSkip, sIf (fC jNe (cV 7 (fAr (fLr 1) (fAi (fSk LN LX 3 (nI 1)) (fAi (fSk LN LX 3 (nI 2)) (fAi (fSk LN LX 3 (nI 3)) (fAi (fSk LN LX 3 (nI 4)) (fNil)))))) G_L_ask) (cV 8 (fAr (fLr 2) (fAi (fSk LN LX 3 (nI 1)) (fAi (fSk LN LX 3 (nI 2)) (fAi (fSk LN LX 3 (nI 3)) (fAi (fSk LN LX 3 (nI 4)) (fNil)))))) G_R_ask)) (sRI (fI (nI 0))) sSkip, sIf (fC jNe (cV 7 (fAr (fLr 1) (fAi (fSk LN LX 3 (nI 1)) (fNil))) G_L_answer) (cV 8 (fAr (fLr 2) (fAi (fSk LN LX 3 (nI 1)) (fNil))) G_R_answer)) (sRI (fI (nI 0))) sSkip] sSkip) L H (fun L' H' => lwI t L' H') R := by
  obtain ⟨n, X, σ, w, rfl, rfl, hC, hR, hW⟩ := hI
  obtain ⟨m, hm, em⟩ := and31 (LX (5 * t))
  have e1 : fB jAnd (fSc0 LN LX 3) (fI (nI 31)) (lwL t) (hs n σ) = some (nI m, hs n σ) := by
    rw [e_fB, s0 h5 hL, Option.bind_some]
    show some (jAnd (LX (5 * t)) (nI 31), hs n σ) = _
    rw [em]
  by_cases q : 19 ≤ m
  · refine wSw (g := sSkip) (show m < 2 ^ 31 by omega) e1 (by rw [List.getD_eq_getElem?_getD, List.getElem?_eq_none (by simp only [List.length_cons, List.length_nil]; omega)]; rfl) ?_
    exact wS_l rfl ⟨n, X, σ, w, rfl, rfl, hC, hR, hW⟩
  · rcases (show m = 0 ∨ m = 1 ∨ m = 2 ∨ m = 3 ∨ m = 4 ∨ m = 5 ∨ m = 6 ∨ m = 7 ∨ m = 8 ∨ m = 9 ∨ m = 10 ∨ m = 11 ∨ m = 12 ∨ m = 13 ∨ m = 14 ∨ m = 15 ∨ m = 16 ∨ m = 17 ∨ m = 18 by omega) with rfl | rfl | rfl | rfl | rfl | rfl | rfl | rfl | rfl | rfl | rfl | rfl | rfl | rfl | rfl | rfl | rfl | rfl | rfl
    · exact wSw (m := 0) (by omega) e1 rfl (lw_station h5 hL hC hR hW)
    · exact wSw (m := 1) (by omega) e1 rfl (lw_datagram h5 hL hC hR hW)
    · exact wSw (m := 2) (by omega) e1 rfl (lw_data h5 hL hC hR hW)
    · exact wSw (m := 3) (by omega) e1 rfl (lw_send h5 hL hC hR hW)
    · exact wSw (m := 4) (by omega) e1 rfl (lw_returned h5 hL hC hR hW)
    · exact wSw (m := 5) (by omega) e1 rfl (lw_cut h5 hL hC hR hW)
    · exact wSw (m := 6) (by omega) e1 rfl (lw_spoil h5 hL hC hR hW)
    · exact wSw (m := 7) (by omega) e1 rfl (lw_tick h5 hL hC hR hW)
    · exact wSw (m := 8) (by omega) e1 rfl (lw_sense h5 hL hC hR hW)
    · exact wSw (m := 9) (by omega) e1 rfl (lw_actuator h5 hL hC hR hW)
    · exact wSw (m := 10) (by omega) e1 rfl (lw_state h5 hL hC hR hW)
    · exact wSw (m := 11) (by omega) e1 rfl (lw_scan h5 hL hC hR hW)
    · exact wSw (m := 12) (by omega) e1 rfl (lw_setup h5 hL hC hR hW)
    · exact wSw (m := 13) (by omega) e1 rfl (lw_request h5 hL hC hR hW)
    · exact wSw (m := 14) (by omega) e1 rfl (lw_output h5 hL hC hR hW)
    · exact wSw (m := 15) (by omega) e1 rfl (lw_cycle h5 hL hC hR hW)
    · exact wSw (m := 16) (by omega) e1 rfl (lw_input h5 hL hC hR hW)
    · exact wSw (m := 17) (by omega) e1 rfl (lw_ask h5 hL hC hR hW)
    · exact wSw (m := 18) (by omega) e1 rfl (lw_answer h5 hL hC hR hW)
theorem lw_loop (hL : LN ≤ 2560) {L : hp_L} {H : hp_H} {Q : hp_L → hp_H → Prop} (hI : lwI 0 L H) (hQ : ∀ L' H', Q L' H') : wS (sWh (fC jLe (fLd 3) (fB jSub (fScN LN) (fI (nI 5)))) (sSeq (sSw (fB jAnd (fSc0 LN LX 3) (fI (nI 31))) 0 [sIf (fC jNe (cV 7 (fAr (fLr 1) (fAi (fSk LN LX 3 (nI 1)) (fAi (fSk LN LX 3 (nI 2)) (fNil)))) G_L_station) (cV 8 (fAr (fLr 2) (fAi (fSk LN LX 3 (nI 1)) (fAi (fSk LN LX 3 (nI 2)) (fNil)))) G_R_station)) (sRI (fI (nI 0))) sSkip, sIf (fC jNe (cV 7 (fAr (fLr 1) (fAi (fSk LN LX 3 (nI 1)) (fAi (fSk LN LX 3 (nI 2)) (fAi (fSk LN LX 3 (nI 3)) (fAi (fSk LN LX 3 (nI 4)) (fNil)))))) G_L_datagram) (cV 8 (fAr (fLr 2) (fAi (fSk LN LX 3 (nI 1)) (fAi (fSk LN LX 3 (nI 2)) (fAi (fSk LN LX 3 (nI 3)) (fAi (fSk LN LX 3 (nI 4)) (fNil)))))) G_R_datagram)) (sRI (fI (nI 0))) sSkip, sIf (fC jNe (cV 7 (fAr (fLr 1) (fAi (fSk LN LX 3 (nI 1)) (fAi (fSk LN LX 3 (nI 2)) (fAi (fSk LN LX 3 (nI 3)) (fNil))))) G_L_data) (cV 8 (fAr (fLr 2) (fAi (fSk LN LX 3 (nI 1)) (fAi (fSk LN LX 3 (nI 2)) (fAi (fSk LN LX 3 (nI 3)) (fNil))))) G_R_data)) (sRI (fI (nI 0))) sSkip, sIf (fC jNe (cV 7 (fAr (fLr 1) (fNil)) G_L_send) (cV 8 (fAr (fLr 2) (fNil)) G_R_send)) (sRI (fI (nI 0))) sSkip, sIf (fC jNe (cV 7 (fAr (fLr 1) (fAi (fSk LN LX 3 (nI 1)) (fAi (fSk LN LX 3 (nI 2)) (fNil)))) G_L_returned) (cV 8 (fAr (fLr 2) (fAi (fSk LN LX 3 (nI 1)) (fAi (fSk LN LX 3 (nI 2)) (fNil)))) G_R_returned)) (sRI (fI (nI 0))) sSkip, sIf (fC jNe (cV 7 (fAr (fLr 1) (fAi (fSk LN LX 3 (nI 1)) (fAi (fIf (fC jNe (fSk LN LX 3 (nI 2)) (fI 0)) (fI (nI 1)) (fI (nI 0))) (fNil)))) G_L_cut) (cV 8 (fAr (fLr 2) (fAi (fSk LN LX 3 (nI 1)) (fAi (fIf (fC jNe (fSk LN LX 3 (nI 2)) (fI 0)) (fI (nI 1)) (fI (nI 0))) (fNil)))) G_R_cut)) (sRI (fI (nI 0))) sSkip, sIf (fC jNe (cV 7 (fAr (fLr 1) (fAi (fSk LN LX 3 (nI 1)) (fNil))) G_L_spoil) (cV 8 (fAr (fLr 2) (fAi (fSk LN LX 3 (nI 1)) (fNil))) G_R_spoil)) (sRI (fI (nI 0))) sSkip, sSeq (sCall (cV 7 (fAr (fLr 1) (fNil)) G_L_tick)) (sCall (cV 8 (fAr (fLr 2) (fNil)) G_R_tick)), sIf (fC jNe (cV 7 (fAr (fLr 1) (fAi (fSk LN LX 3 (nI 1)) (fAi (fSk LN LX 3 (nI 2)) (fAi (fSk LN LX 3 (nI 3)) (fNil))))) G_L_sense) (cV 8 (fAr (fLr 2) (fAi (fSk LN LX 3 (nI 1)) (fAi (fSk LN LX 3 (nI 2)) (fAi (fSk LN LX 3 (nI 3)) (fNil))))) G_R_sense)) (sRI (fI (nI 0))) sSkip, sIf (fC jNe (cV 7 (fAr (fLr 1) (fAi (fSk LN LX 3 (nI 1)) (fAi (fSk LN LX 3 (nI 2)) (fNil)))) G_L_actuator) (cV 8 (fAr (fLr 2) (fAi (fSk LN LX 3 (nI 1)) (fAi (fSk LN LX 3 (nI 2)) (fNil)))) G_R_actuator)) (sRI (fI (nI 0))) sSkip, sIf (fC jNe (cV 7 (fAr (fLr 1) (fAi (fSk LN LX 3 (nI 1)) (fNil))) G_L_state) (cV 8 (fAr (fLr 2) (fAi (fSk LN LX 3 (nI 1)) (fNil))) G_R_state)) (sRI (fI (nI 0))) sSkip, sIf (fC jNe (cV 7 (fAr (fLr 1) (fNil)) G_L_scan) (cV 8 (fAr (fLr 2) (fNil)) G_R_scan)) (sRI (fI (nI 0))) sSkip, sIf (fC jNe (cV 7 (fAr (fLr 1) (fNil)) G_L_setup) (cV 8 (fAr (fLr 2) (fNil)) G_R_setup)) (sRI (fI (nI 0))) sSkip, sIf (fC jNe (cV 7 (fAr (fLr 1) (fAi (fSk LN LX 3 (nI 1)) (fNil))) G_L_request) (cV 8 (fAr (fLr 2) (fAi (fSk LN LX 3 (nI 1)) (fNil))) G_R_request)) (sRI (fI (nI 0))) sSkip, sIf (fC jNe (cV 7 (fAr (fLr 1) (fAi (fSk LN LX 3 (nI 1)) (fAi (fSk LN LX 3 (nI 2)) (fNil)))) G_L_output) (cV 8 (fAr (fLr 2) (fAi (fSk LN LX 3 (nI 1)) (fAi (fSk LN LX 3 (nI 2)) (fNil)))) G_R_output)) (sRI (fI (nI 0))) sSkip, sIf (fC jNe (cV 7 (fAr (fLr 1) (fNil)) G_L_cycle) (cV 8 (fAr (fLr 2) (fNil)) G_R_cycle)) (sRI (fI (nI 0))) sSkip, sIf (fC jNe (cV 7 (fAr (fLr 1) (fAi (fSk LN LX 3 (nI 1)) (fNil))) G_L_input) (cV 8 (fAr (fLr 2) (fAi (fSk LN LX 3 (nI 1)) (fNil))) G_R_input)) (sRI (fI (nI 0))) sSkip, sIf (fC jNe (cV 7 (fAr (fLr 1) (fAi (fSk LN LX 3 (nI 1)) (fAi (fSk LN LX 3 (nI 2)) (fAi (fSk LN LX 3 (nI 3)) (fAi (fSk LN LX 3 (nI 4)) (fNil)))))) G_L_ask) (cV 8 (fAr (fLr 2) (fAi (fSk LN LX 3 (nI 1)) (fAi (fSk LN LX 3 (nI 2)) (fAi (fSk LN LX 3 (nI 3)) (fAi (fSk LN LX 3 (nI 4)) (fNil)))))) G_R_ask)) (sRI (fI (nI 0))) sSkip, sIf (fC jNe (cV 7 (fAr (fLr 1) (fAi (fSk LN LX 3 (nI 1)) (fNil))) G_L_answer) (cV 8 (fAr (fLr 2) (fAi (fSk LN LX 3 (nI 1)) (fNil))) G_R_answer)) (sRI (fI (nI 0))) sSkip] sSkip) (sInc 3 (nI 5))) 513) L H Q R := by
  refine wWh (I := lwI) (e := LN / 5) ?_ ?_ (fun L' H' _ => hQ L' H') 513 0 _ _ (by omega) (by omega) hI
  · rintro t _ _ ⟨n, X, σ, w, rfl, rfl, -⟩ hi
    have e1 : fB jSub (fScN LN) (fI (nI 5)) (lwL t) (hs n σ) = some (jSub (nI LN) (nI 5), hs n σ) := rfl
    have e2 : fLd 3 (lwL t) (hs n σ) = some (nI (5 * t), hs n σ) := rfl
    rw [e_fC, e2, Option.bind_some]
    dsimp only
    rw [e1, Option.bind_some]
    have : jLe (nI (5 * t)) (jSub (nI LN) (nI 5)) = decide (t < LN / 5) := by
      unfold jLe jSub
      rw [decide_eq_decide, Int32.le_iff_toInt_le, nI_toInt (by omega), pk_sub_toInt (by omega) (by omega)]
      omega
    rw [this]
  · intro t L' H' hI hi
    refine wSeq (wMono (lw_body hI (by omega) hL) (fun L1 H1 q => ?_) (fun _ _ q => q))
    obtain ⟨n, X, σ, w, rfl, rfl, hC, hR, hW⟩ := q
    have e1 : sInc 3 (nI 5) (lwL t) (hs n σ) = some (.inl (lwL (t + 1), hs n σ)) := by
      show some (Sum.inl ([none, some (Value.ref 0), some (Value.ref 26), some (Value.int (nI (5 * t) + nI 5))], hs n σ)) = _
      rw [nI_add]
      rfl
    exact wS_l e1 ⟨n, X, σ, w, rfl, rfl, hC, hR, hW⟩
end SQC
