/-! the memory of a station: what its channels say. f: the bytes -/
theorem nI_1e : nI 1 = 1 := by decide
def bI (b : Bool) : Int32 := if b = true then 1 else 0
theorem bI_01 (b : Bool) : bI b = 0 ∨ bI b = 1 := by cases b <;> simp [bI]
theorem bI_ne (b : Bool) : jNe (bI b) 0 = b := by cases b <;> decide
def opn (f : Nat → Int32) (c : Nat) : Bool := jEq (f (32 + c * 4 + 3)) (nI 1) && jGe (f (32 + c * 4)) (nI 64) && jGe (f (32 + c * 4 + 1)) (nI 1) && jLe (f (32 + c * 4 + 1)) (nI 8) && jLe (jAdd (f (32 + c * 4)) (f (32 + c * 4 + 1))) (nI 128)
def clr (σ : sg) (s c k : Nat) : sg := fun a j => if (a = sa s (6 + c) ∨ a = sa s (11 + c)) ∧ j < k then nI 0 else σ a j
theorem sWh_for {fc : jx_fB} {fb : jx_fS} {Ls : Nat → hp_L} {Hs : Nat → hp_H} {i0 e : Nat} (hie : i0 ≤ e) (hc : ∀ i, i0 ≤ i → i ≤ e → fc (Ls i) (Hs i) = some (decide (i < e), Hs i)) (hb : ∀ i, i0 ≤ i → i < e → fb (Ls i) (Hs i) = some (.inl (Ls (i + 1), Hs (i + 1)))) : ∀ N, e - i0 < N → sWh fc fb N (Ls i0) (Hs i0) = some (.inl (Ls e, Hs e)) := by
  intro N
  induction N generalizing i0 with
  | zero => intro h; omega
  | succ N ih =>
    intro hN
    show ((fc (Ls i0) (Hs i0)).bind fun q => if q.1 = true then (fb (Ls i0) q.2).bind (fun o => match o with
      | .inl w => sWh fc fb N w.1 w.2
      | .inr r => some (.inr r)) else some (.inl (Ls i0, q.2))) = _
    rw [hc i0 (Nat.le_refl _) hie, Option.bind_some]
    by_cases h : i0 < e
    · simp only [h, decide_true, if_true]
      rw [hb i0 (Nat.le_refl _) h, Option.bind_some]
      exact ih (by omega) (fun i h1 h2 => hc i (by omega) h2) (fun i h1 h2 => hb i (by omega) h2) (by omega)
    · have : i0 = e := by omega
      subst this
      simp
theorem sWh_ret {fc : jx_fB} {fb : jx_fS} {Ls : Nat → hp_L} {Hs : Nat → hp_H} {i0 e k : Nat} {r : Option Value × hp_H} (hk : i0 ≤ k) (hke : k < e) (hc : ∀ i, i0 ≤ i → i ≤ k → fc (Ls i) (Hs i) = some (decide (i < e), Hs i)) (hb : ∀ i, i0 ≤ i → i < k → fb (Ls i) (Hs i) = some (.inl (Ls (i + 1), Hs (i + 1)))) (hr : fb (Ls k) (Hs k) = some (.inr r)) : ∀ N, k - i0 < N → sWh fc fb N (Ls i0) (Hs i0) = some (.inr r) := by
  intro N
  induction N generalizing i0 with
  | zero => intro h; omega
  | succ N ih =>
    intro hN
    show ((fc (Ls i0) (Hs i0)).bind fun q => if q.1 = true then (fb (Ls i0) q.2).bind (fun o => match o with
      | .inl w => sWh fc fb N w.1 w.2
      | .inr r => some (.inr r)) else some (.inl (Ls i0, q.2))) = _
    rw [hc i0 (Nat.le_refl _) hk, Option.bind_some]
    simp only [show i0 < e by omega, decide_true, if_true]
    by_cases h : i0 = k
    · subst h
      rw [hr, Option.bind_some]
    · rw [hb i0 (Nat.le_refl _) (by omega), Option.bind_some]
      exact ih (by omega) (fun i h1 h2 => hc i (by omega) h2) (fun i h1 h2 => hb i (by omega) h2) (by omega)
section MEM
variable {n s c : Nat} {σ : sg}
theorem q_E_startOf (h : okS n s) (hc : c < 4) : G_E_startOf [.ref (sa s 3), .int (nI c)] (hs n σ) = some (σ (sa s 4) (32 + c * 4), hs n σ) := by
  simp [G_E_startOf, P_E_startOf, e_fI, e_fLd, e_fLr, e_fB, e_fD, e_fC, e_fT, e_fAnd, e_fOr, e_fNot, e_fCC, e_fIf, e_gI, e_gR, e_aI, e_aR, e_aN, e_cV, e_cS, e_fNil, e_fAi, e_fAr, e_sSeq, e_sSkip, e_sSt, e_sSr, e_sInc, e_sRI, e_sRR, e_sRV, e_sIf, e_sCall, e_sPI, e_sPZ, e_sPR, e_sPO, e_sAI, e_sAZ, e_sAO, e_sAR, e_sPopI, e_sPopR, e_sCopy, e_mI, e_mZ, e_mR, e_mV, jx_L0, jAdd_n, jMul_n, z0, z1, gS3_0 h, iS4 h (show 32 + c * 4 < 128 by omega)]
theorem q_E_lengthOf (h : okS n s) (hc : c < 4) : G_E_lengthOf [.ref (sa s 3), .int (nI c)] (hs n σ) = some (σ (sa s 4) (32 + c * 4 + 1), hs n σ) := by
  simp [G_E_lengthOf, P_E_lengthOf, e_fI, e_fLd, e_fLr, e_fB, e_fD, e_fC, e_fT, e_fAnd, e_fOr, e_fNot, e_fCC, e_fIf, e_gI, e_gR, e_aI, e_aR, e_aN, e_cV, e_cS, e_fNil, e_fAi, e_fAr, e_sSeq, e_sSkip, e_sSt, e_sSr, e_sInc, e_sRI, e_sRR, e_sRV, e_sIf, e_sCall, e_sPI, e_sPZ, e_sPR, e_sPO, e_sAI, e_sAZ, e_sAO, e_sAR, e_sPopI, e_sPopR, e_sCopy, e_mI, e_mZ, e_mR, e_mV, jx_L0, jAdd_n, jMul_n, z0, z1, gS3_0 h, iS4 h (show 32 + c * 4 + 1 < 128 by omega)]
theorem q_E_modeOf (h : okS n s) (hc : c < 4) : G_E_modeOf [.ref (sa s 3), .int (nI c)] (hs n σ) = some (σ (sa s 4) (32 + c * 4 + 2), hs n σ) := by
  simp [G_E_modeOf, P_E_modeOf, e_fI, e_fLd, e_fLr, e_fB, e_fD, e_fC, e_fT, e_fAnd, e_fOr, e_fNot, e_fCC, e_fIf, e_gI, e_gR, e_aI, e_aR, e_aN, e_cV, e_cS, e_fNil, e_fAi, e_fAr, e_sSeq, e_sSkip, e_sSt, e_sSr, e_sInc, e_sRI, e_sRR, e_sRV, e_sIf, e_sCall, e_sPI, e_sPZ, e_sPR, e_sPO, e_sAI, e_sAZ, e_sAO, e_sAR, e_sPopI, e_sPopR, e_sCopy, e_mI, e_mZ, e_mR, e_mV, jx_L0, jAdd_n, jMul_n, z0, z1, gS3_0 h, iS4 h (show 32 + c * 4 + 2 < 128 by omega)]
theorem q_E_isOpen (h : okS n s) (hc : c < 4) : G_E_isOpen [.ref (sa s 3), .int (nI c)] (hs n σ) = some (bI (opn (σ (sa s 4)) c), hs n σ) := by
  simp only [opn]
  simp [G_E_isOpen, P_E_isOpen, e_fI, e_fLd, e_fLr, e_fB, e_fD, e_fC, e_fT, e_fAnd, e_fOr, e_fNot, e_fCC, e_fIf, e_gI, e_gR, e_aI, e_aR, e_aN, e_cV, e_cS, e_fNil, e_fAi, e_fAr, e_sSeq, e_sSkip, e_sSt, e_sSr, e_sInc, e_sRI, e_sRR, e_sRV, e_sIf, e_sCall, e_sPI, e_sPZ, e_sPR, e_sPO, e_sAI, e_sAZ, e_sAO, e_sAR, e_sPopI, e_sPopR, e_sCopy, e_mI, e_mZ, e_mR, e_mV, jx_L0, jAdd_n, jMul_n, z0, z1, gS3_0 h, iS4 h (show 32 + c * 4 < 128 by omega), iS4 h (show 32 + c * 4 + 1 < 128 by omega), iS4 h (show 32 + c * 4 + 3 < 128 by omega)]
  cases jEq (σ (sa s 4) (32 + c * 4 + 3)) (nI 1) <;> cases jGe (σ (sa s 4) (32 + c * 4)) (nI 64) <;> cases jGe (σ (sa s 4) (32 + c * 4 + 1)) (nI 1) <;> cases jLe (σ (sa s 4) (32 + c * 4 + 1)) (nI 8) <;> cases jLe (jAdd (σ (sa s 4) (32 + c * 4)) (σ (sa s 4) (32 + c * 4 + 1))) (nI 128) <;> simp [bI, nI_0] <;> decide
theorem q_E_isOn (h : okS n s) (hc : c < 4) : G_E_isOn [.ref (sa s 3), .int (nI c)] (hs n σ) = some (bI (jNe (σ (sa s 4) (32 + c * 4 + 3)) 0), hs n σ) := by
  simp [G_E_isOn, P_E_isOn, e_fI, e_fLd, e_fLr, e_fB, e_fD, e_fC, e_fT, e_fAnd, e_fOr, e_fNot, e_fCC, e_fIf, e_gI, e_gR, e_aI, e_aR, e_aN, e_cV, e_cS, e_fNil, e_fAi, e_fAr, e_sSeq, e_sSkip, e_sSt, e_sSr, e_sInc, e_sRI, e_sRR, e_sRV, e_sIf, e_sCall, e_sPI, e_sPZ, e_sPR, e_sPO, e_sAI, e_sAZ, e_sAO, e_sAR, e_sPopI, e_sPopR, e_sCopy, e_mI, e_mZ, e_mR, e_mV, jx_L0, jAdd_n, jMul_n, z0, z1, gS3_0 h, iS4 h (show 32 + c * 4 + 3 < 128 by omega)]
  cases jNe (σ (sa s 4) (32 + c * 4 + 3)) 0 <;> simp [bI, nI_0] <;> decide
theorem q_E_isOpenAs {m k : Int32} (h : okS n s) (hc : c < 4) : G_E_isOpenAs [.ref (sa s 3), .int (nI c), .int m, .int k] (hs n σ) = some (bI (opn (σ (sa s 4)) c && jEq (σ (sa s 4) (32 + c * 4 + 2)) m && jEq (σ (sa s 4) (32 + c * 4 + 1)) k), hs n σ) := by
  cases h1 : opn (σ (sa s 4)) c <;> cases h2 : jEq (σ (sa s 4) (32 + c * 4 + 2)) m <;> cases h3 : jEq (σ (sa s 4) (32 + c * 4 + 1)) k <;> simp [G_E_isOpenAs, P_E_isOpenAs, e_fI, e_fLd, e_fLr, e_fB, e_fD, e_fC, e_fT, e_fAnd, e_fOr, e_fNot, e_fCC, e_fIf, e_gI, e_gR, e_aI, e_aR, e_aN, e_cV, e_cS, e_fNil, e_fAi, e_fAr, e_sSeq, e_sSkip, e_sSt, e_sSr, e_sInc, e_sRI, e_sRR, e_sRV, e_sIf, e_sCall, e_sPI, e_sPZ, e_sPR, e_sPO, e_sAI, e_sAZ, e_sAO, e_sAR, e_sPopI, e_sPopR, e_sCopy, e_mI, e_mZ, e_mR, e_mV, jx_L0, jAdd_n, jMul_n, z0, z1, kS3 h, q_E_isOpen h hc, q_E_modeOf h hc, q_E_lengthOf h hc, h1, h2, h3, bI, nI_0, jNe, nI_1e]
theorem w_fr {i : Nat} {x : Int32} (h : okS n s) (hc : c < 4) (hi : i < 8) : hp_w (hs n σ) (sa s (6 + c)) 50 (nI i) (.int x) = some (hs n (up σ (sa s (6 + c)) i x)) := by
  rcases (show c = 0 ∨ c = 1 ∨ c = 2 ∨ c = 3 by omega) with rfl | rfl | rfl | rfl
  · exact wS6 h hi x
  · exact wS7 h hi x
  · exact wS8 h hi x
  · exact wS9 h hi x
theorem i_fr {i : Nat} (h : okS n s) (hc : c < 4) (hi : i < 8) : hp_i (hs n σ) (sa s (6 + c)) 50 (nI i) = some (.int (σ (sa s (6 + c)) i)) := by
  rcases (show c = 0 ∨ c = 1 ∨ c = 2 ∨ c = 3 by omega) with rfl | rfl | rfl | rfl
  · exact iS6 h hi
  · exact iS7 h hi
  · exact iS8 h hi
  · exact iS9 h hi
theorem w_dn {i : Nat} {x : Int32} (h : okS n s) (hc : c < 4) (hi : i < 8) : hp_w (hs n σ) (sa s (11 + c)) 50 (nI i) (.int x) = some (hs n (up σ (sa s (11 + c)) i x)) := by
  rcases (show c = 0 ∨ c = 1 ∨ c = 2 ∨ c = 3 by omega) with rfl | rfl | rfl | rfl
  · exact wS11 h hi x
  · exact wS12 h hi x
  · exact wS13 h hi x
  · exact wS14 h hi x
theorem i_dn {i : Nat} (h : okS n s) (hc : c < 4) (hi : i < 8) : hp_i (hs n σ) (sa s (11 + c)) 50 (nI i) = some (.int (σ (sa s (11 + c)) i)) := by
  rcases (show c = 0 ∨ c = 1 ∨ c = 2 ∨ c = 3 by omega) with rfl | rfl | rfl | rfl
  · exact iS11 h hi
  · exact iS12 h hi
  · exact iS13 h hi
  · exact iS14 h hi
theorem q_E_clearChannel (h : okS n s) (hc : c < 4) : G_E_clearChannel [.ref (sa s 3), .int (nI c)] (hs n σ) = some (hs n (up (up (clr σ s c 8) (sa s 15) c (nI 0)) (sa s 4) (48 + c) (nI 0))) := by
  have hloop : ∀ N, 8 < N → sWh (fC jLt (fLd 2) (fI (nI 8))) (sSeq (sSeq (sAI (aR 54 (gR 5 1 (fLr 0)) (fLd 1)) (fLd 2) (fI (nI 0))) (sAI (aR 54 (gR 5 2 (fLr 0)) (fLd 1)) (fLd 2) (fI (nI 0)))) (sInc 2 (nI 1))) N [some (.ref (sa s 3)), some (.int (nI c)), some (.int (nI 0))] (hs n (clr σ s c 0)) = some (.inl ([some (.ref (sa s 3)), some (.int (nI c)), some (.int (nI 8))], hs n (clr σ s c 8))) := by
    intro N hN
    refine sWh_for (Ls := fun i => [some (.ref (sa s 3)), some (.int (nI c)), some (.int (nI i))]) (Hs := fun i => hs n (clr σ s c i)) (i0 := 0) (e := 8) (by omega) (fun i _ hi => ?_) (fun i _ hi => ?_) N (by omega)
    · simp [e_fI, e_fLd, e_fLr, e_fB, e_fD, e_fC, e_fT, e_fAnd, e_fOr, e_fNot, e_fCC, e_fIf, e_gI, e_gR, e_aI, e_aR, e_aN, e_cV, e_cS, e_fNil, e_fAi, e_fAr, e_sSeq, e_sSkip, e_sSt, e_sSr, e_sInc, e_sRI, e_sRR, e_sRV, e_sIf, e_sCall, e_sPI, e_sPZ, e_sPR, e_sPO, e_sAI, e_sAZ, e_sAO, e_sAR, e_sPopI, e_sPopR, e_sCopy, e_mI, e_mZ, e_mR, e_mV, jx_L0, jAdd_n, jMul_n, z0, z1, jLt, nI_ltI (show i < 2 ^ 31 by omega) (show 8 < 2 ^ 31 by omega)]
    · simp [e_fI, e_fLd, e_fLr, e_fB, e_fD, e_fC, e_fT, e_fAnd, e_fOr, e_fNot, e_fCC, e_fIf, e_gI, e_gR, e_aI, e_aR, e_aN, e_cV, e_cS, e_fNil, e_fAi, e_fAr, e_sSeq, e_sSkip, e_sSt, e_sSr, e_sInc, e_sRI, e_sRR, e_sRV, e_sIf, e_sCall, e_sPI, e_sPZ, e_sPR, e_sPO, e_sAI, e_sAZ, e_sAO, e_sAR, e_sPopI, e_sPopR, e_sCopy, e_mI, e_mZ, e_mR, e_mV, jx_L0, jAdd_n, jMul_n, z0, z1, gS3_1 h, gS3_2 h, iS5 h hc, iS10 h hc, w_fr h hc hi, w_dn h hc hi, nI_add]
      congr 1
      funext a j
      simp only [up, clr]
      by_cases h1 : a = sa s (6 + c) <;> by_cases h2 : a = sa s (11 + c) <;> by_cases h3 : j = i <;> by_cases h4 : j < i <;> simp [h1, h2, h3, h4] <;> omega
  have h0 : clr σ s c 0 = σ := by
    funext a j
    simp [clr]
  rw [h0] at hloop
  simp [G_E_clearChannel, P_E_clearChannel, e_fI, e_fLd, e_fLr, e_fB, e_fD, e_fC, e_fT, e_fAnd, e_fOr, e_fNot, e_fCC, e_fIf, e_gI, e_gR, e_aI, e_aR, e_aN, e_cV, e_cS, e_fNil, e_fAi, e_fAr, e_sSeq, e_sSkip, e_sSt, e_sSr, e_sInc, e_sRI, e_sRR, e_sRV, e_sIf, e_sCall, e_sPI, e_sPZ, e_sPR, e_sPO, e_sAI, e_sAZ, e_sAO, e_sAR, e_sPopI, e_sPopR, e_sCopy, e_mI, e_mZ, e_mR, e_mV, jx_L0, jAdd_n, jMul_n, z0, z1, hloop 600 (by omega), gS3_3 h, wS15 h hc, gS3_0 h, wS4 h (show 48 + c < 128 by omega)]
end MEM
