/-! access: what a channel allows -/
theorem ow_own {F : Nat → Int32} {f l j : Nat} (h : f + j ≤ l) : ow F f l 0 (ow F f l 1 (ow F f l 2 (ow F f l 3 (fun _ => -1)))) j = own F (f + j) := by
  simp [ow, own, h]
def whl (F : Nat → Int32) (c f l : Nat) : Bool := jLe (nI f) (F (32 + c * 4)) && jGe (nI l) (jSub (jAdd (F (32 + c * 4)) (F (32 + c * 4 + 1))) (nI 1))
def lets (F wr : Nat → Int32) (c f l : Nat) (w : Bool) : Bool := if F (32 + c * 4 + 2) = nI 0 then !w && jNe (wr c) 0 else if F (32 + c * 4 + 2) = nI 1 then !w && whl F c f l && jEq (F (48 + c)) (nI 1) else if F (32 + c * 4 + 2) = nI 2 then w else if F (32 + c * 4 + 2) = nI 3 then w && whl F c f l && jEq (F (48 + c)) 0 else false
/-! steps of an evaluation -/
theorem sSeq_l {f g : jx_fS} {L L1 : hp_L} {h h1 : hp_H} (e : f L h = some (.inl (L1, h1))) : sSeq f g L h = g L1 h1 := by
  rw [e_sSeq, e, Option.bind_some]
theorem sSeq_r {f g : jx_fS} {L : hp_L} {h : hp_H} {r : Option Value × hp_H} (e : f L h = some (.inr r)) : sSeq f g L h = some (.inr r) := by
  rw [e_sSeq, e, Option.bind_some]
theorem fAnd_e {fa fb : jx_fB} {L : hp_L} {h : hp_H} {x y : Bool} (e1 : fa L h = some (x, h)) (e2 : fb L h = some (y, h)) : fAnd fa fb L h = some (x && y, h) := by
  rw [e_fAnd, e1, Option.bind_some]
  cases x
  · rfl
  · rw [if_pos rfl, e2]
    rfl
theorem fOr_e {fa fb : jx_fB} {L : hp_L} {h : hp_H} {x y : Bool} (e1 : fa L h = some (x, h)) (e2 : fb L h = some (y, h)) : fOr fa fb L h = some (x || y, h) := by
  rw [e_fOr, e1, Option.bind_some]
  cases x
  · rw [if_neg (by simp), e2]
    rfl
  · rfl
theorem fNot_e {fa : jx_fB} {L : hp_L} {h h1 : hp_H} {x : Bool} (e1 : fa L h = some (x, h1)) : fNot fa L h = some (!x, h1) := by
  rw [e_fNot, e1, Option.bind_some]
theorem fT_e {fa : jx_fI} {L : hp_L} {h h1 : hp_H} {x : Int32} (e1 : fa L h = some (x, h1)) : fT fa L h = some (jNe x 0, h1) := by
  rw [e_fT, e_fC, e1, Option.bind_some]
  rfl
theorem fT_b {fa : jx_fI} {L : hp_L} {h h1 : hp_H} {x : Bool} (e1 : fa L h = some (bI x, h1)) : fT fa L h = some (x, h1) := by
  rw [fT_e e1, bI_ne]
theorem fC_e {op : Int32 → Int32 → Bool} {fa fb : jx_fI} {L : hp_L} {h h1 h2 : hp_H} {x y : Int32} (e1 : fa L h = some (x, h1)) (e2 : fb L h1 = some (y, h2)) : fC op fa fb L h = some (op x y, h2) := by
  rw [e_fC, e1, Option.bind_some, e2, Option.bind_some]
theorem fB_e {op : Int32 → Int32 → Int32} {fa fb : jx_fI} {L : hp_L} {h h1 h2 : hp_H} {x y : Int32} (e1 : fa L h = some (x, h1)) (e2 : fb L h1 = some (y, h2)) : fB op fa fb L h = some (op x y, h2) := by
  rw [e_fB, e1, Option.bind_some, e2, Option.bind_some]
theorem fIf_b {fc : jx_fB} {L : hp_L} {h h1 : hp_H} {x : Bool} (e1 : fc L h = some (x, h1)) : fIf fc (fI (nI 1)) (fI (nI 0)) L h = some (bI x, h1) := by
  rw [e_fIf, e1, Option.bind_some]
  cases x
  · show some (nI 0, h1) = some (0, h1)
    rw [nI_0]
  · show some (nI 1, h1) = some (1, h1)
    rw [nI_1e]
theorem sIf_t {fc : jx_fB} {f g : jx_fS} {L : hp_L} {h h1 : hp_H} (e1 : fc L h = some (true, h1)) : sIf fc f g L h = f L h1 := by
  rw [e_sIf, e1, Option.bind_some, if_pos rfl]
theorem sIf_f {fc : jx_fB} {f g : jx_fS} {L : hp_L} {h h1 : hp_H} (e1 : fc L h = some (false, h1)) : sIf fc f g L h = g L h1 := by
  rw [e_sIf, e1, Option.bind_some, if_neg (by simp)]
theorem sRI_e {f : jx_fI} {L : hp_L} {h h1 : hp_H} {x : Int32} (e1 : f L h = some (x, h1)) : sRI f L h = some (.inr (some (.int x), h1)) := by
  rw [e_sRI, e1, Option.bind_some]
theorem sSt_e {f : jx_fI} {i : Nat} {L : hp_L} {h h1 : hp_H} {x : Int32} (e1 : f L h = some (x, h1)) : sSt i f L h = some (.inl (L.set i (some (.int x)), h1)) := by
  rw [e_sSt, e1, Option.bind_some]
theorem sSr_e {f : jx_fR} {i : Nat} {L : hp_L} {h h1 : hp_H} {x : Nat} (e1 : f L h = some (x, h1)) : sSr i f L h = some (.inl (L.set i (some (.ref x)), h1)) := by
  rw [e_sSr, e1, Option.bind_some]
theorem sCall_e {f : hp_L → hp_H → Option hp_H} {L : hp_L} {h h1 : hp_H} (e1 : f L h = some h1) : sCall f L h = some (.inl (L, h1)) := by
  rw [e_sCall, e1, Option.bind_some]
theorem sSw_e {fe : jx_fI} {gs : List jx_fS} {gd : jx_fS} {L : hp_L} {h h1 : hp_H} {m : Nat} (hm : m < 2 ^ 31) (e1 : fe L h = some (nI m, h1)) : sSw fe 0 gs gd L h = gs.getD m gd L h1 := by
  rw [e_sSw, e1, Option.bind_some]
  show (if (nI m).toInt < 0 then gd else gs.getD ((nI m).toInt - 0).toNat gd) L h1 = _
  rw [nI_toInt hm, if_neg (by omega)]
  rfl
theorem mI_e {nL : Nat} {body : jx_fS} {as : List Value} {h h1 : hp_H} {x : Int32} (hle : as.length ≤ nL) (e1 : body (jx_L0 nL as) h = some (.inr (some (.int x), h1))) : mI nL body as h = some (x, h1) := by
  rw [e_mI, if_pos hle, e1]
theorem mZ_e {nL : Nat} {body : jx_fS} {as : List Value} {h h1 : hp_H} {x : Bool} (hle : as.length ≤ nL) (e1 : body (jx_L0 nL as) h = some (.inr (some (.int (bI x)), h1))) : mZ nL body as h = some (bI x, h1) := by
  rw [e_mZ, if_pos hle, e1]
  show (if bI x = 0 ∨ bI x = 1 then _ else _) = _
  rw [if_pos (bI_01 x)]
theorem mV_e {nL : Nat} {body : jx_fS} {as : List Value} {h h1 : hp_H} (hle : as.length ≤ nL) (e1 : body (jx_L0 nL as) h = some (.inr (none, h1))) : mV nL body as h = some h1 := by
  rw [e_mV, if_pos hle, e1]
theorem mR_e {nL : Nat} {body : jx_fS} {as : List Value} {h h1 : hp_H} {x : Nat} (hle : as.length ≤ nL) (e1 : body (jx_L0 nL as) h = some (.inr (some (.ref x), h1))) : mR nL body as h = some (x, h1) := by
  rw [e_mR, if_pos hle, e1]
theorem bI_f : bI false = nI 0 := by decide
theorem bI_t : bI true = nI 1 := by decide
theorem nI_ne {a b : Nat} (ha : a < 2 ^ 31) (hb : b < 2 ^ 31) (h : a ≠ b) : ¬ nI a = nI b := fun q => h ((nI_eq ha hb).mp q)
section ALW
variable {n s : Nat} {σ : sg}
theorem q_E_allows {c f l m : Nat} {w : Bool} (h : okS n s) (hc : c < 4) (hm : m < 256) (em : σ (sa s 4) (32 + c * 4 + 2) = nI m) : G_E_allows [.ref (sa s 3), .int (nI c), .int (nI f), .int (nI l), .int (bI w)] (hs n σ) = some (bI (lets (σ (sa s 4)) (σ (sa s 15)) c f l w), hs n σ) := by
  have i0 := iS4 (σ := σ) h (show 32 + c * 4 < 128 by omega)
  have i1 := iS4 (σ := σ) h (show 32 + c * 4 + 1 < 128 by omega)
  have i2 := iS4 (σ := σ) h (show 32 + c * 4 + 2 < 128 by omega)
  have i3 := iS4 (σ := σ) h (show 48 + c < 128 by omega)
  have i4 := iS15 (σ := σ) h hc
  rw [em] at i2
  refine mZ_e (Nat.le_of_ble_eq_true rfl) ?_
  unfold P_E_allows
  rw [sSeq_l (L1 := [some (.ref (sa s 3)), some (.int (nI c)), some (.int (nI f)), some (.int (nI l)), some (.int (bI w)), some (.int (nI (32 + c * 4))), none]) (h1 := hs n σ) (by simp [e_fI, e_fLd, e_fLr, e_fB, e_fD, e_fC, e_fT, e_fAnd, e_fOr, e_fNot, e_fCC, e_fIf, e_gI, e_gR, e_aI, e_aR, e_aN, e_cV, e_cS, e_fNil, e_fAi, e_fAr, e_sSeq, e_sSkip, e_sSt, e_sSr, e_sInc, e_sRI, e_sRR, e_sRV, e_sIf, e_sCall, e_sPI, e_sPZ, e_sPR, e_sPO, e_sAI, e_sAZ, e_sAO, e_sAR, e_sPopI, e_sPopR, e_sCopy, e_mI, e_mZ, e_mR, e_mV, jx_L0, jAdd_n, jMul_n, z0, z1, List.replicate])]
  rw [sSeq_l (L1 := [some (.ref (sa s 3)), some (.int (nI c)), some (.int (nI f)), some (.int (nI l)), some (.int (bI w)), some (.int (nI (32 + c * 4))), some (.int (bI (whl (σ (sa s 4)) c f l)))]) (h1 := hs n σ) (sSt_e (fIf_b (fAnd_e (by simp [e_fI, e_fLd, e_fLr, e_fB, e_fD, e_fC, e_fT, e_fAnd, e_fOr, e_fNot, e_fCC, e_fIf, e_gI, e_gR, e_aI, e_aR, e_aN, e_cV, e_cS, e_fNil, e_fAi, e_fAr, e_sSeq, e_sSkip, e_sSt, e_sSr, e_sInc, e_sRI, e_sRR, e_sRV, e_sIf, e_sCall, e_sPI, e_sPZ, e_sPR, e_sPO, e_sAI, e_sAZ, e_sAO, e_sAR, e_sPopI, e_sPopR, e_sCopy, e_mI, e_mZ, e_mR, e_mV, jx_L0, jAdd_n, jMul_n, z0, z1, gS3_0 h, i0]) (by simp [e_fI, e_fLd, e_fLr, e_fB, e_fD, e_fC, e_fT, e_fAnd, e_fOr, e_fNot, e_fCC, e_fIf, e_gI, e_gR, e_aI, e_aR, e_aN, e_cV, e_cS, e_fNil, e_fAi, e_fAr, e_sSeq, e_sSkip, e_sSt, e_sSr, e_sInc, e_sRI, e_sRR, e_sRV, e_sIf, e_sCall, e_sPI, e_sPZ, e_sPR, e_sPO, e_sAI, e_sAZ, e_sAO, e_sAR, e_sPopI, e_sPopR, e_sCopy, e_mI, e_mZ, e_mR, e_mV, jx_L0, jAdd_n, jMul_n, z0, z1, gS3_0 h, i0, i1]))))]
  have el4 : fT (fLd 4) [some (.ref (sa s 3)), some (.int (nI c)), some (.int (nI f)), some (.int (nI l)), some (.int (bI w)), some (.int (nI (32 + c * 4))), some (.int (bI (whl (σ (sa s 4)) c f l)))] (hs n σ) = some (w, hs n σ) := fT_b (by simp [e_fI, e_fLd, e_fLr, e_fB, e_fD, e_fC, e_fT, e_fAnd, e_fOr, e_fNot, e_fCC, e_fIf, e_gI, e_gR, e_aI, e_aR, e_aN, e_cV, e_cS, e_fNil, e_fAi, e_fAr, e_sSeq, e_sSkip, e_sSt, e_sSr, e_sInc, e_sRI, e_sRR, e_sRV, e_sIf, e_sCall, e_sPI, e_sPZ, e_sPR, e_sPO, e_sAI, e_sAZ, e_sAO, e_sAR, e_sPopI, e_sPopR, e_sCopy, e_mI, e_mZ, e_mR, e_mV, jx_L0, jAdd_n, jMul_n, z0, z1])
  have el6 : fT (fLd 6) [some (.ref (sa s 3)), some (.int (nI c)), some (.int (nI f)), some (.int (nI l)), some (.int (bI w)), some (.int (nI (32 + c * 4))), some (.int (bI (whl (σ (sa s 4)) c f l)))] (hs n σ) = some (whl (σ (sa s 4)) c f l, hs n σ) := fT_b (by simp [e_fI, e_fLd, e_fLr, e_fB, e_fD, e_fC, e_fT, e_fAnd, e_fOr, e_fNot, e_fCC, e_fIf, e_gI, e_gR, e_aI, e_aR, e_aN, e_cV, e_cS, e_fNil, e_fAi, e_fAr, e_sSeq, e_sSkip, e_sSt, e_sSr, e_sInc, e_sRI, e_sRR, e_sRV, e_sIf, e_sCall, e_sPI, e_sPZ, e_sPR, e_sPO, e_sAI, e_sAZ, e_sAO, e_sAR, e_sPopI, e_sPopR, e_sCopy, e_mI, e_mZ, e_mR, e_mV, jx_L0, jAdd_n, jMul_n, z0, z1])
  rw [sSw_e (m := m) (h1 := hs n σ) (by omega) (by simp [e_fI, e_fLd, e_fLr, e_fB, e_fD, e_fC, e_fT, e_fAnd, e_fOr, e_fNot, e_fCC, e_fIf, e_gI, e_gR, e_aI, e_aR, e_aN, e_cV, e_cS, e_fNil, e_fAi, e_fAr, e_sSeq, e_sSkip, e_sSt, e_sSr, e_sInc, e_sRI, e_sRR, e_sRV, e_sIf, e_sCall, e_sPI, e_sPZ, e_sPR, e_sPO, e_sAI, e_sAZ, e_sAO, e_sAR, e_sPopI, e_sPopR, e_sCopy, e_mI, e_mZ, e_mR, e_mV, jx_L0, jAdd_n, jMul_n, z0, z1, gS3_0 h, i2])]
  by_cases m0 : m = 0
  · subst m0
    rw [show lets (σ (sa s 4)) (σ (sa s 15)) c f l w = (!w && jNe (σ (sa s 15) c) 0) by unfold lets; rw [em, if_pos rfl]]
    exact sRI_e (fIf_b (fAnd_e (fNot_e el4) (fT_e (by simp [e_fI, e_fLd, e_fLr, e_fB, e_fD, e_fC, e_fT, e_fAnd, e_fOr, e_fNot, e_fCC, e_fIf, e_gI, e_gR, e_aI, e_aR, e_aN, e_cV, e_cS, e_fNil, e_fAi, e_fAr, e_sSeq, e_sSkip, e_sSt, e_sSr, e_sInc, e_sRI, e_sRR, e_sRV, e_sIf, e_sCall, e_sPI, e_sPZ, e_sPR, e_sPO, e_sAI, e_sAZ, e_sAO, e_sAR, e_sPopI, e_sPopR, e_sCopy, e_mI, e_mZ, e_mR, e_mV, jx_L0, jAdd_n, jMul_n, z0, z1, gS3_3 h, i4]))))
  by_cases m1 : m = 1
  · subst m1
    rw [show lets (σ (sa s 4)) (σ (sa s 15)) c f l w = (!w && whl (σ (sa s 4)) c f l && jEq (σ (sa s 4) (48 + c)) (nI 1)) by unfold lets; rw [em, if_neg (by decide), if_pos rfl]]
    exact sRI_e (fIf_b (fAnd_e (fAnd_e (fNot_e el4) el6) (by simp [e_fI, e_fLd, e_fLr, e_fB, e_fD, e_fC, e_fT, e_fAnd, e_fOr, e_fNot, e_fCC, e_fIf, e_gI, e_gR, e_aI, e_aR, e_aN, e_cV, e_cS, e_fNil, e_fAi, e_fAr, e_sSeq, e_sSkip, e_sSt, e_sSr, e_sInc, e_sRI, e_sRR, e_sRV, e_sIf, e_sCall, e_sPI, e_sPZ, e_sPR, e_sPO, e_sAI, e_sAZ, e_sAO, e_sAR, e_sPopI, e_sPopR, e_sCopy, e_mI, e_mZ, e_mR, e_mV, jx_L0, jAdd_n, jMul_n, z0, z1, gS3_0 h, i3])))
  by_cases m2 : m = 2
  · subst m2
    rw [show lets (σ (sa s 4)) (σ (sa s 15)) c f l w = w by unfold lets; rw [em, if_neg (by decide), if_neg (by decide), if_pos rfl]]
    rfl
  by_cases m3 : m = 3
  · subst m3
    rw [show lets (σ (sa s 4)) (σ (sa s 15)) c f l w = (w && whl (σ (sa s 4)) c f l && jEq (σ (sa s 4) (48 + c)) 0) by unfold lets; rw [em, if_neg (by decide), if_neg (by decide), if_neg (by decide), if_pos rfl]]
    exact sRI_e (fIf_b (fAnd_e (fAnd_e el4 el6) (by simp [e_fI, e_fLd, e_fLr, e_fB, e_fD, e_fC, e_fT, e_fAnd, e_fOr, e_fNot, e_fCC, e_fIf, e_gI, e_gR, e_aI, e_aR, e_aN, e_cV, e_cS, e_fNil, e_fAi, e_fAr, e_sSeq, e_sSkip, e_sSt, e_sSr, e_sInc, e_sRI, e_sRR, e_sRV, e_sIf, e_sCall, e_sPI, e_sPZ, e_sPR, e_sPO, e_sAI, e_sAZ, e_sAO, e_sAR, e_sPopI, e_sPopR, e_sCopy, e_mI, e_mZ, e_mR, e_mV, jx_L0, jAdd_n, jMul_n, z0, z1, gS3_0 h, i3])))
  · rw [show lets (σ (sa s 4)) (σ (sa s 15)) c f l w = false by unfold lets; rw [em, if_neg (nI_ne (by omega) (by omega) m0), if_neg (nI_ne (by omega) (by omega) m1), if_neg (nI_ne (by omega) (by omega) m2), if_neg (nI_ne (by omega) (by omega) m3)]]
    rw [List.getD_eq_getElem?_getD, List.getElem?_eq_none (by simp; omega)]
    rw [bI_f]
    exact sRI_e (f := fI (nI 0)) rfl
/-- a row of bytes: all its owners let it -/
def alw (F wr : Nat → Int32) (f l : Nat) (w : Bool) (b : Nat) : Bool := jLt (own F b) 0 || (if own F b = nI 0 then lets F wr 0 f l w else if own F b = nI 1 then lets F wr 1 f l w else if own F b = nI 2 then lets F wr 2 f l w else lets F wr 3 f l w)
def alwR (F wr : Nat → Int32) (f l : Nat) (w : Bool) : Bool := (List.range (l + 1 - f)).all (fun j => alw F wr f l w (f + j))
theorem own_cases (F : Nat → Int32) (b : Nat) : own F b = -1 ∨ ∃ c, c < 4 ∧ own F b = nI c := by
  unfold own
  split
  · exact Or.inr ⟨0, by decide, rfl⟩
  split
  · exact Or.inr ⟨1, by decide, rfl⟩
  split
  · exact Or.inr ⟨2, by decide, rfl⟩
  split
  · exact Or.inr ⟨3, by decide, rfl⟩
  · exact Or.inl rfl
theorem alw_c {F wr : Nat → Int32} {f l b c : Nat} {w : Bool} (hc : c < 4) (h : own F b = nI c) : alw F wr f l w b = lets F wr c f l w := by
  unfold alw
  rw [h]
  rcases (show c = 0 ∨ c = 1 ∨ c = 2 ∨ c = 3 by omega) with rfl | rfl | rfl | rfl
  · rw [show jLt (nI 0) 0 = false by decide, if_pos rfl, Bool.false_or]
  · rw [show jLt (nI 1) 0 = false by decide, if_neg (by decide), if_pos rfl, Bool.false_or]
  · rw [show jLt (nI 2) 0 = false by decide, if_neg (by decide), if_neg (by decide), if_pos rfl, Bool.false_or]
  · rw [show jLt (nI 3) 0 = false by decide, if_neg (by decide), if_neg (by decide), if_neg (by decide), Bool.false_or]
theorem alw_m {F wr : Nat → Int32} {f l b : Nat} {w : Bool} (h : own F b = -1) : alw F wr f l w b = true := by
  unfold alw
  rw [h, show jLt (-1) 0 = true by decide, Bool.true_or]
/-- the class's loop, with the owners found -/
theorem q_E_isAllowed {f l : Nat} {w : Bool} (h : okS n s) (hB : ∀ j, j < 128 → ∃ m, m < 256 ∧ σ (sa s 4) j = nI m) (hfl : f ≤ l) (hl : l < 128) (hr : l < f + 9) (ho : ∀ j, f + j ≤ l → σ (sa s 18) j = own (σ (sa s 4)) (f + j)) : G_E_isAllowed [.ref (sa s 3), .int (nI f), .int (nI l), .int (bI w)] (hs n σ) = some (bI (alwR (σ (sa s 4)) (σ (sa s 15)) f l w), hs n σ) := by
  refine mZ_e (Nat.le_of_ble_eq_true rfl) ?_
  unfold P_E_isAllowed
  have hcond : ∀ i x, i < 2 ^ 31 → fC jLe (fLd 4) (fLd 2) [some (.ref (sa s 3)), some (.int (nI f)), some (.int (nI l)), some (.int (bI w)), some (.int (nI i)), x] (hs n σ) = some (decide (i < l + 1), hs n σ) := fun i x hi => by
    simp [e_fI, e_fLd, e_fLr, e_fB, e_fD, e_fC, e_fT, e_fAnd, e_fOr, e_fNot, e_fCC, e_fIf, e_gI, e_gR, e_aI, e_aR, e_aN, e_cV, e_cS, e_fNil, e_fAi, e_fAr, e_sSeq, e_sSkip, e_sSt, e_sSr, e_sInc, e_sRI, e_sRR, e_sRV, e_sIf, e_sCall, e_sPI, e_sPZ, e_sPR, e_sPO, e_sAI, e_sAZ, e_sAO, e_sAR, e_sPopI, e_sPopR, e_sCopy, e_mI, e_mZ, e_mR, e_mV, jx_L0, jAdd_n, jMul_n, z0, z1, jLe, nI_leI hi (show l < 2 ^ 31 by omega)]
    omega
  have hstep : ∀ i x, f ≤ i → i ≤ l → sSeq (sSt 5 (aI 50 (gR 5 6 (fLr 0)) (fB jSub (fLd 4) (fLd 1)))) (sIf (fAnd (fC jGe (fLd 5) (fI 0)) (fNot (fT (cV 5 (fAr (fLr 0) (fAi (fLd 5) (fAi (fLd 1) (fAi (fLd 2) (fAi (fLd 3) (fNil)))))) G_E_allows)))) (sRI (fI (nI 0))) sSkip) [some (.ref (sa s 3)), some (.int (nI f)), some (.int (nI l)), some (.int (bI w)), some (.int (nI i)), x] (hs n σ) = if alw (σ (sa s 4)) (σ (sa s 15)) f l w i = true then some (.inl ([some (.ref (sa s 3)), some (.int (nI f)), some (.int (nI l)), some (.int (bI w)), some (.int (nI i)), some (.int (own (σ (sa s 4)) i))], hs n σ)) else some (.inr (some (.int (nI 0)), hs n σ)) := fun i x h1 h2 => by
    have e3 : jSub (nI i) (nI f) = nI (i - f) := pk_sub h1
    have eo : σ (sa s 18) (i - f) = own (σ (sa s 4)) i := by
      rw [ho (i - f) (by omega), show f + (i - f) = i by omega]
    have io := iS18 (σ := σ) h (show i - f < 9 by omega)
    rw [eo] at io
    rw [sSeq_l (L1 := [some (.ref (sa s 3)), some (.int (nI f)), some (.int (nI l)), some (.int (bI w)), some (.int (nI i)), some (.int (own (σ (sa s 4)) i))]) (h1 := hs n σ) (by simp [e_fI, e_fLd, e_fLr, e_fB, e_fD, e_fC, e_fT, e_fAnd, e_fOr, e_fNot, e_fCC, e_fIf, e_gI, e_gR, e_aI, e_aR, e_aN, e_cV, e_cS, e_fNil, e_fAi, e_fAr, e_sSeq, e_sSkip, e_sSt, e_sSr, e_sInc, e_sRI, e_sRR, e_sRV, e_sIf, e_sCall, e_sPI, e_sPZ, e_sPR, e_sPO, e_sAI, e_sAZ, e_sAO, e_sAR, e_sPopI, e_sPopR, e_sCopy, e_mI, e_mZ, e_mR, e_mV, jx_L0, jAdd_n, jMul_n, z0, z1, gS3_6 h, e3, io])]
    rcases own_cases (σ (sa s 4)) i with e | ⟨c, hc, e⟩
    · rw [alw_m e, if_pos rfl, e]
      refine (sIf_f (h1 := hs n σ) ?_).trans rfl
      simp [e_fI, e_fLd, e_fLr, e_fB, e_fD, e_fC, e_fT, e_fAnd, e_fOr, e_fNot, e_fCC, e_fIf, e_gI, e_gR, e_aI, e_aR, e_aN, e_cV, e_cS, e_fNil, e_fAi, e_fAr, e_sSeq, e_sSkip, e_sSt, e_sSr, e_sInc, e_sRI, e_sRR, e_sRV, e_sIf, e_sCall, e_sPI, e_sPZ, e_sPR, e_sPO, e_sAI, e_sAZ, e_sAO, e_sAR, e_sPopI, e_sPopR, e_sCopy, e_mI, e_mZ, e_mR, e_mV, jx_L0, jAdd_n, jMul_n, z0, z1, jGe]
    · obtain ⟨m, hm, em⟩ := hB (32 + c * 4 + 2) (by omega)
      have qa := q_E_allows (f := f) (l := l) (w := w) h hc hm em
      rw [alw_c hc e, e]
      have hcall : fAnd (fC jGe (fLd 5) (fI 0)) (fNot (fT (cV 5 (fAr (fLr 0) (fAi (fLd 5) (fAi (fLd 1) (fAi (fLd 2) (fAi (fLd 3) (fNil)))))) G_E_allows))) [some (.ref (sa s 3)), some (.int (nI f)), some (.int (nI l)), some (.int (bI w)), some (.int (nI i)), some (.int (nI c))] (hs n σ) = some (true && !(lets (σ (sa s 4)) (σ (sa s 15)) c f l w), hs n σ) := fAnd_e (by simp [e_fI, e_fLd, e_fLr, e_fB, e_fD, e_fC, e_fT, e_fAnd, e_fOr, e_fNot, e_fCC, e_fIf, e_gI, e_gR, e_aI, e_aR, e_aN, e_cV, e_cS, e_fNil, e_fAi, e_fAr, e_sSeq, e_sSkip, e_sSt, e_sSr, e_sInc, e_sRI, e_sRR, e_sRV, e_sIf, e_sCall, e_sPI, e_sPZ, e_sPR, e_sPO, e_sAI, e_sAZ, e_sAO, e_sAR, e_sPopI, e_sPopR, e_sCopy, e_mI, e_mZ, e_mR, e_mV, jx_L0, jAdd_n, jMul_n, z0, z1, jGe, nI_pos' (show c < 2 ^ 31 by omega)]) (fNot_e (fT_b (by simp [e_fI, e_fLd, e_fLr, e_fB, e_fD, e_fC, e_fT, e_fAnd, e_fOr, e_fNot, e_fCC, e_fIf, e_gI, e_gR, e_aI, e_aR, e_aN, e_cV, e_cS, e_fNil, e_fAi, e_fAr, e_sSeq, e_sSkip, e_sSt, e_sSr, e_sInc, e_sRI, e_sRR, e_sRV, e_sIf, e_sCall, e_sPI, e_sPZ, e_sPR, e_sPO, e_sAI, e_sAZ, e_sAO, e_sAR, e_sPopI, e_sPopR, e_sCopy, e_mI, e_mZ, e_mR, e_mV, jx_L0, jAdd_n, jMul_n, z0, z1, kS3 h, qa])))
      cases hlet : lets (σ (sa s 4)) (σ (sa s 15)) c f l w
      · rw [hlet] at hcall
        rw [if_neg (by simp), sIf_t hcall]
        rfl
      · rw [hlet] at hcall
        rw [if_pos rfl, sIf_f hcall]
        rfl
  generalize hBd : sSeq (sSt 5 (aI 50 (gR 5 6 (fLr 0)) (fB jSub (fLd 4) (fLd 1)))) (sIf (fAnd (fC jGe (fLd 5) (fI 0)) (fNot (fT (cV 5 (fAr (fLr 0) (fAi (fLd 5) (fAi (fLd 1) (fAi (fLd 2) (fAi (fLd 3) (fNil)))))) G_E_allows)))) (sRI (fI (nI 0))) sSkip) = body at hstep ⊢
  have hinc : ∀ i x, sInc 4 (nI 1) [some (.ref (sa s 3)), some (.int (nI f)), some (.int (nI l)), some (.int (bI w)), some (.int (nI i)), x] (hs n σ) = some (.inl ([some (.ref (sa s 3)), some (.int (nI f)), some (.int (nI l)), some (.int (bI w)), some (.int (nI (i + 1))), x], hs n σ)) := fun i x => by
    simp [e_fI, e_fLd, e_fLr, e_fB, e_fD, e_fC, e_fT, e_fAnd, e_fOr, e_fNot, e_fCC, e_fIf, e_gI, e_gR, e_aI, e_aR, e_aN, e_cV, e_cS, e_fNil, e_fAi, e_fAr, e_sSeq, e_sSkip, e_sSt, e_sSr, e_sInc, e_sRI, e_sRR, e_sRV, e_sIf, e_sCall, e_sPI, e_sPZ, e_sPR, e_sPO, e_sAI, e_sAZ, e_sAO, e_sAR, e_sPopI, e_sPopR, e_sCopy, e_mI, e_mZ, e_mR, e_mV, jx_L0, jAdd_n, jMul_n, z0, z1, nI_add]
  have hbt : ∀ i x, f ≤ i → i ≤ l → alw (σ (sa s 4)) (σ (sa s 15)) f l w i = true → sSeq body (sInc 4 (nI 1)) [some (.ref (sa s 3)), some (.int (nI f)), some (.int (nI l)), some (.int (bI w)), some (.int (nI i)), x] (hs n σ) = some (.inl ([some (.ref (sa s 3)), some (.int (nI f)), some (.int (nI l)), some (.int (bI w)), some (.int (nI (i + 1))), some (.int (own (σ (sa s 4)) i))], hs n σ)) := fun i x h1 h2 h3 => by
    rw [sSeq_l ((hstep i x h1 h2).trans (if_pos h3)), hinc]
  have hbf : ∀ i x, f ≤ i → i ≤ l → alw (σ (sa s 4)) (σ (sa s 15)) f l w i = false → sSeq body (sInc 4 (nI 1)) [some (.ref (sa s 3)), some (.int (nI f)), some (.int (nI l)), some (.int (bI w)), some (.int (nI i)), x] (hs n σ) = some (.inr (some (.int (nI 0)), hs n σ)) := fun i x h1 h2 h3 => by
    rw [sSeq_r ((hstep i x h1 h2).trans (if_neg (by rw [h3]; simp)))]
  have hst : sSt 4 (fLd 1) (jx_L0 6 [.ref (sa s 3), .int (nI f), .int (nI l), .int (bI w)]) (hs n σ) = some (.inl ([some (.ref (sa s 3)), some (.int (nI f)), some (.int (nI l)), some (.int (bI w)), some (.int (nI f)), none], hs n σ)) := by
    simp [e_fI, e_fLd, e_fLr, e_fB, e_fD, e_fC, e_fT, e_fAnd, e_fOr, e_fNot, e_fCC, e_fIf, e_gI, e_gR, e_aI, e_aR, e_aN, e_cV, e_cS, e_fNil, e_fAi, e_fAr, e_sSeq, e_sSkip, e_sSt, e_sSr, e_sInc, e_sRI, e_sRR, e_sRV, e_sIf, e_sCall, e_sPI, e_sPZ, e_sPR, e_sPO, e_sAI, e_sAZ, e_sAO, e_sAR, e_sPopI, e_sPopR, e_sCopy, e_mI, e_mZ, e_mR, e_mV, jx_L0, jAdd_n, jMul_n, z0, z1, List.replicate]
  cases hall : alwR (σ (sa s 4)) (σ (sa s 15)) f l w with
  | true =>
    have hal : ∀ i, f ≤ i → i ≤ l → alw (σ (sa s 4)) (σ (sa s 15)) f l w i = true := fun i h1 h2 => by
      have := List.all_eq_true.mp hall (i - f) (List.mem_range.mpr (by omega))
      rwa [show f + (i - f) = i by omega] at this
    have key := sWh_for (fc := fC jLe (fLd 4) (fLd 2)) (fb := sSeq body (sInc 4 (nI 1))) (Ls := fun i => [some (.ref (sa s 3)), some (.int (nI f)), some (.int (nI l)), some (.int (bI w)), some (.int (nI i)), if i = f then none else some (.int (own (σ (sa s 4)) (i - 1)))]) (Hs := fun _ => hs n σ) (i0 := f) (e := l + 1) (by omega) (fun i _ hi => hcond i _ (by omega)) (fun i h1 h2 => by
      rw [hbt i _ h1 (by omega) (hal i h1 (by omega)), if_neg (by omega), Nat.add_sub_cancel]) 600 (by omega)
    rw [if_pos rfl] at key
    rw [sSeq_l ((sSeq_l hst).trans key), bI_t]
    rfl
  | false =>
    obtain ⟨k, ⟨hk1, hk2, hk3⟩, hk4⟩ := pk_least (fun i => f ≤ i ∧ i ≤ l ∧ alw (σ (sa s 4)) (σ (sa s 15)) f l w i = false) (by
      obtain ⟨j, hj, hj2⟩ := List.all_eq_false.mp hall
      exact ⟨f + j, by omega, by have := List.mem_range.mp hj; omega, by simpa using hj2⟩)
    have hal : ∀ i, f ≤ i → i < k → alw (σ (sa s 4)) (σ (sa s 15)) f l w i = true := fun i h1 h2 => by
      have := hk4 i h2
      cases ha : alw (σ (sa s 4)) (σ (sa s 15)) f l w i
      · exact absurd ⟨h1, by omega, ha⟩ this
      · rfl
    have key := sWh_ret (fc := fC jLe (fLd 4) (fLd 2)) (fb := sSeq body (sInc 4 (nI 1))) (Ls := fun i => [some (.ref (sa s 3)), some (.int (nI f)), some (.int (nI l)), some (.int (bI w)), some (.int (nI i)), if i = f then none else some (.int (own (σ (sa s 4)) (i - 1)))]) (Hs := fun _ => hs n σ) (i0 := f) (e := l + 1) (k := k) hk1 (by omega) (fun i _ hi => hcond i _ (by omega)) (fun i h1 h2 => by
      rw [hbt i _ h1 (by omega) (hal i h1 h2), if_neg (by omega), Nat.add_sub_cancel]) (hbf k _ hk1 hk2 hk3) 600 (by omega)
    rw [if_pos rfl] at key
    rw [sSeq_r ((sSeq_l hst).trans key), bI_f]
end ALW
