/-! a datagram at a station, any command -/
def incG (G : sg) : sg := up G 0 1 (jAnd (jAdd (G 0 1) (nI 1)) (nI 65535))
def dirP (A G : sg) (b : Bool) : sg × sg := if b = true then (dirS A G, dirG A G) else (A, G)
def pf (A G : sg) : sg × sg := if G 0 0 = nI 1 ∨ G 0 0 = nI 2 then ((dirP A G (jEq (G 0 1) 0)).1, incG (dirP A G (jEq (G 0 1) 0)).2) else if G 0 0 = nI 4 ∨ G 0 0 = nI 5 then dirP A G (jEq (G 0 1) (A 4 0)) else if G 0 0 = nI 7 ∨ G 0 0 = nI 8 then ((dirP A G true).1, incG (dirP A G true).2) else ((lgT A G).1, lgG A G)
/-- a datagram that is well made -/
def okP (G : sg) : Prop := ∃ c : Nat, (c = 1 ∨ c = 2 ∨ c = 4 ∨ c = 5 ∨ c = 7 ∨ c = 8 ∨ c = 10 ∨ c = 11 ∨ c = 12) ∧ G 0 0 = nI c ∧ (c < 10 → okG G) ∧ okH G
section PF
variable {n s D : Nat} {σ A G : sg}
theorem q_dirP {b : Bool} (h : okS n s) (hD : isD D) (hA : RC σ s A) (hok : okA A) (hG : RD σ D G) (hg : okG G) {f : jx_fB} (hf : f [some (.ref (sa s 0)), some (.ref D)] (hs n σ) = some (b, hs n σ)) : ∃ τ, sIf f (sCall (cV 6 (fAr (fLr 0) (fAr (fLr 1) (fNil))) G_S_performDirect)) sSkip [some (.ref (sa s 0)), some (.ref D)] (hs n σ) = some (.inl ([some (.ref (sa s 0)), some (.ref D)], hs n τ)) ∧ RC τ s (dirP A G b).1 ∧ RD τ D (dirP A G b).2 ∧ (∀ a, (∀ j, j < 22 → a ≠ sa s j) → a ≠ D → a ≠ D + 1 → τ a = σ a) := by
  cases b with
  | false => exact ⟨σ, (sIf_f hf).trans rfl, hA, hG, fun _ _ _ _ => rfl⟩
  | true =>
    obtain ⟨τ, q, r1, r2, r3⟩ := q_S_performDirect h hD hA hok hG hg
    exact ⟨τ, (sIf_t hf).trans (by simp [e_fI, e_fLd, e_fLr, e_fB, e_fD, e_fC, e_fT, e_fAnd, e_fOr, e_fNot, e_fCC, e_fIf, e_gI, e_gR, e_aI, e_aR, e_aN, e_cV, e_cS, e_fNil, e_fAi, e_fAr, e_sSeq, e_sSkip, e_sSt, e_sSr, e_sInc, e_sRI, e_sRR, e_sRV, e_sIf, e_sCall, e_sPI, e_sPZ, e_sPR, e_sPO, e_sAI, e_sAZ, e_sAO, e_sAR, e_sPopI, e_sPopR, e_sCopy, e_mI, e_mZ, e_mR, e_mV, jx_L0, jAdd_n, jMul_n, z0, z1, kS0 h, q]), r1, r2, r3⟩
theorem q_inc {τ X : sg} {Y : sg} {a0 : sg} (h : okS n s) (hD : isD D) (hA : RC τ s X) (hG : RD τ D Y) (hF : ∀ a, (∀ j, j < 22 → a ≠ sa s j) → a ≠ D → a ≠ D + 1 → τ a = a0 a) : ∃ τ', sPI 0 1 (fLr 1) (fB jAnd (fB jAdd (gI 0 1 (fLr 1)) (fI (nI 1))) (fI (nI 65535))) [some (.ref (sa s 0)), some (.ref D)] (hs n τ) = some (.inl ([some (.ref (sa s 0)), some (.ref D)], hs n τ')) ∧ RC τ' s X ∧ RD τ' D (incG Y) ∧ (∀ a, (∀ j, j < 22 → a ≠ sa s j) → a ≠ D → a ≠ D + 1 → τ' a = a0 a) := by
  have hB := h.B
  have e1 : τ D 1 = Y 0 1 := hG.1 1 (by omega)
  refine ⟨up τ D 1 (jAnd (jAdd (Y 0 1) (nI 1)) (nI 65535)), by simp [e_fI, e_fLd, e_fLr, e_fB, e_fD, e_fC, e_fT, e_fAnd, e_fOr, e_fNot, e_fCC, e_fIf, e_gI, e_gR, e_aI, e_aR, e_aN, e_cV, e_cS, e_fNil, e_fAi, e_fAr, e_sSeq, e_sSkip, e_sSt, e_sSr, e_sInc, e_sRI, e_sRR, e_sRV, e_sIf, e_sCall, e_sPI, e_sPZ, e_sPR, e_sPO, e_sAI, e_sAZ, e_sAO, e_sAR, e_sPopI, e_sPopR, e_sCopy, e_mI, e_mZ, e_mR, e_mV, jx_L0, jAdd_n, jMul_n, z0, z1, gD hB hD, pD hB hD, e1], hA.keep (fun j _ _ _ _ _ _ => up_ne (sa_D hD).1), hG.u, fun a c1 c2 c3 => (up_ne c2).trans (hF a c1 c2 c3)⟩
abbrev pfSw : jx_fS := sSw (gI 0 0 (fLr 1)) 1 [sSeq (sIf (fC jEq (gI 0 1 (fLr 1)) (fI 0)) (sCall (cV 6 (fAr (fLr 0) (fAr (fLr 1) (fNil))) G_S_performDirect)) sSkip) (sPI 0 1 (fLr 1) (fB jAnd (fB jAdd (gI 0 1 (fLr 1)) (fI (nI 1))) (fI (nI 65535)))), sSeq (sIf (fC jEq (gI 0 1 (fLr 1)) (fI 0)) (sCall (cV 6 (fAr (fLr 0) (fAr (fLr 1) (fNil))) G_S_performDirect)) sSkip) (sPI 0 1 (fLr 1) (fB jAnd (fB jAdd (gI 0 1 (fLr 1)) (fI (nI 1))) (fI (nI 65535)))), sCall (cV 6 (fAr (fLr 0) (fAr (fLr 1) (fNil))) G_S_performLogical), sIf (fC jEq (gI 0 1 (fLr 1)) (aI 50 (gR 5 0 (gR 6 4 (fLr 0))) (fI (nI 0)))) (sCall (cV 6 (fAr (fLr 0) (fAr (fLr 1) (fNil))) G_S_performDirect)) sSkip, sIf (fC jEq (gI 0 1 (fLr 1)) (aI 50 (gR 5 0 (gR 6 4 (fLr 0))) (fI (nI 0)))) (sCall (cV 6 (fAr (fLr 0) (fAr (fLr 1) (fNil))) G_S_performDirect)) sSkip, sCall (cV 6 (fAr (fLr 0) (fAr (fLr 1) (fNil))) G_S_performLogical), sSeq (sCall (cV 6 (fAr (fLr 0) (fAr (fLr 1) (fNil))) G_S_performDirect)) (sPI 0 1 (fLr 1) (fB jAnd (fB jAdd (gI 0 1 (fLr 1)) (fI (nI 1))) (fI (nI 65535)))), sSeq (sCall (cV 6 (fAr (fLr 0) (fAr (fLr 1) (fNil))) G_S_performDirect)) (sPI 0 1 (fLr 1) (fB jAnd (fB jAdd (gI 0 1 (fLr 1)) (fI (nI 1))) (fI (nI 65535))))] (sCall (cV 6 (fAr (fLr 0) (fAr (fLr 1) (fNil))) G_S_performLogical))
theorem q_pf_fin {τ : sg} (q : pfSw [some (.ref (sa s 0)), some (.ref D)] (hs n σ) = some (.inl ([some (.ref (sa s 0)), some (.ref D)], hs n τ))) : G_S_perform [.ref (sa s 0), .ref D] (hs n σ) = some (hs n τ) := by
  refine mV_e (Nat.le_of_ble_eq_true rfl) ?_
  exact (sSeq_l q).trans rfl
theorem pf_sw {c : Nat} (hD : isD D) (hB : okB n) (ec : σ D 0 = nI c) (hc : 1 ≤ c) (hc2 : c < 100) {gs : List jx_fS} {gd g : jx_fS} (eg : gs[c - 1]? = some g) : sSw (gI 0 0 (fLr 1)) 1 gs gd [some (.ref (sa s 0)), some (.ref D)] (hs n σ) = g [some (.ref (sa s 0)), some (.ref D)] (hs n σ) := by
  have hti : (nI c).toInt = (c : Int) := nI_toInt (by omega)
  rw [e_sSw]
  simp only [e_gI, e_fLr]
  simp only [List.getElem?_cons_succ, List.getElem?_cons_zero, Option.bind_some, gD hB hD (show 0 < 5 by omega), ec]
  rw [if_neg (by rw [hti]; omega), hti, show ((c : Int) - 1).toNat = c - 1 by omega, List.getD_eq_getElem?_getD, eg]
  rfl
theorem pf_sx {c : Nat} (hD : isD D) (hB : okB n) (ec : σ D 0 = nI c) (hc : 1 ≤ c) (hc2 : c < 100) {gs : List jx_fS} {gd : jx_fS} (hl : gs.length < c) : sSw (gI 0 0 (fLr 1)) 1 gs gd [some (.ref (sa s 0)), some (.ref D)] (hs n σ) = gd [some (.ref (sa s 0)), some (.ref D)] (hs n σ) := by
  have hti : (nI c).toInt = (c : Int) := nI_toInt (by omega)
  rw [e_sSw]
  simp only [e_gI, e_fLr]
  simp only [List.getElem?_cons_succ, List.getElem?_cons_zero, Option.bind_some, gD hB hD (show 0 < 5 by omega), ec]
  rw [if_neg (by rw [hti]; omega), hti, show ((c : Int) - 1).toNat = c - 1 by omega, List.getD_eq_getElem?_getD, List.getElem?_eq_none (by omega)]
  rfl
theorem pf_L (h : okS n s) (hD : isD D) (hA : RC σ s A) (hok : okA A) (hG : RD σ D G) (hg2 : okH G) : ∃ τ, sCall (cV 6 (fAr (fLr 0) (fAr (fLr 1) (fNil))) G_S_performLogical) [some (.ref (sa s 0)), some (.ref D)] (hs n σ) = some (.inl ([some (.ref (sa s 0)), some (.ref D)], hs n τ)) ∧ RC τ s (lgT A G).1 ∧ RD τ D (lgG A G) ∧ (∀ a, (∀ j, j < 22 → a ≠ sa s j) → a ≠ D → a ≠ D + 1 → τ a = σ a) := by
  obtain ⟨τ, q, r1, r2, r3⟩ := q_S_performLogical h hD hA hok hG hg2
  exact ⟨τ, by simp [e_fI, e_fLd, e_fLr, e_fB, e_fD, e_fC, e_fT, e_fAnd, e_fOr, e_fNot, e_fCC, e_fIf, e_gI, e_gR, e_aI, e_aR, e_aN, e_cV, e_cS, e_fNil, e_fAi, e_fAr, e_sSeq, e_sSkip, e_sSt, e_sSr, e_sInc, e_sRI, e_sRR, e_sRV, e_sIf, e_sCall, e_sPI, e_sPZ, e_sPR, e_sPO, e_sAI, e_sAZ, e_sAO, e_sAR, e_sPopI, e_sPopR, e_sCopy, e_mI, e_mZ, e_mR, e_mV, jx_L0, jAdd_n, jMul_n, z0, z1, kS0 h, q], r1, r2, r3⟩
theorem pf_78 (h : okS n s) (hD : isD D) (hA : RC σ s A) (hok : okA A) (hG : RD σ D G) (k : okG G) : ∃ τ, sSeq (sCall (cV 6 (fAr (fLr 0) (fAr (fLr 1) (fNil))) G_S_performDirect)) (sPI 0 1 (fLr 1) (fB jAnd (fB jAdd (gI 0 1 (fLr 1)) (fI (nI 1))) (fI (nI 65535)))) [some (.ref (sa s 0)), some (.ref D)] (hs n σ) = some (.inl ([some (.ref (sa s 0)), some (.ref D)], hs n τ)) ∧ RC τ s (dirP A G true).1 ∧ RD τ D (incG (dirP A G true).2) ∧ (∀ a, (∀ j, j < 22 → a ≠ sa s j) → a ≠ D → a ≠ D + 1 → τ a = σ a) := by
  obtain ⟨τ, q, r1, r2, r3⟩ := q_S_performDirect h hD hA hok hG k
  obtain ⟨τ', q', t1, t2, t3⟩ := q_inc (a0 := σ) h hD r1 r2 r3
  exact ⟨τ', (sSeq_l (L1 := [some (.ref (sa s 0)), some (.ref D)]) (h1 := hs n τ) (by simp [e_fI, e_fLd, e_fLr, e_fB, e_fD, e_fC, e_fT, e_fAnd, e_fOr, e_fNot, e_fCC, e_fIf, e_gI, e_gR, e_aI, e_aR, e_aN, e_cV, e_cS, e_fNil, e_fAi, e_fAr, e_sSeq, e_sSkip, e_sSt, e_sSr, e_sInc, e_sRI, e_sRR, e_sRV, e_sIf, e_sCall, e_sPI, e_sPZ, e_sPR, e_sPO, e_sAI, e_sAZ, e_sAO, e_sAR, e_sPopI, e_sPopR, e_sCopy, e_mI, e_mZ, e_mR, e_mV, jx_L0, jAdd_n, jMul_n, z0, z1, kS0 h, q])).trans q', by rw [dirP, if_pos rfl]; exact t1, by rw [dirP, if_pos rfl]; exact t2, t3⟩
end PF
