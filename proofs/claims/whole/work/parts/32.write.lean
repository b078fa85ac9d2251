/-! a row is written -/
theorem W1_cfg {A : sg} {b : Nat} {v : Int32} (hb : 48 ≤ b) {j : Nat} (hj : j < 16) : W1 A b v 4 (32 + j) = A 4 (32 + j) := by
  have hc : ∀ c i v, chA A c i v 4 (32 + j) = A 4 (32 + j) := fun c i v => by
    unfold chA
    split
    · simp only [up]
      rw [if_neg (by omega), if_neg (by omega)]
    · simp only [up]
      rw [if_neg (by omega)]
  have hm : ∀ X c, cmA X c 4 (32 + j) = X 4 (32 + j) := fun X c => by
    unfold cmA
    split
    · simp only [up, cpy]
      rw [if_neg (by omega), if_neg (by omega), if_neg (by omega), if_neg (by omega)]
    · simp only [up, cpy]
      rw [if_neg (by omega), if_neg (by omega)]
  unfold W1
  split
  · unfold plA
    split
    · rfl
    split
    · omega
    split
    · omega
    · simp only [up]
      rw [if_neg (by omega)]
  split
  · exact hc _ _ _
  split
  · rw [hm]
    exact hc _ _ _
  · exact hc _ _ _
theorem cW_cfg {A : sg} {f : Nat} {r m : Nat → Int32} (hf : 48 ≤ f) {j : Nat} (hj : j < 16) : ∀ k, cW A f r m k 4 (32 + j) = A 4 (32 + j)
  | 0 => rfl
  | k + 1 => by
    show W1 _ (f + k) _ 4 (32 + j) = _
    rw [W1_cfg (by omega) hj]
    exact cW_cfg hf hj k
theorem cW_own {A : sg} {f l k b : Nat} {r m : Nat → Int32} (h : okA A) (hr : ∀ j, j < k → byt (r j)) (hk : f + k ≤ 128) (hl : l < f + 9) (hb : b ≤ l) : own (cW A f r m k 4) b = own (A 4) b := by
  by_cases hf : f < 48
  · rw [own_low (h.cw k hk hr).b (by omega), own_low h.b (by omega)]
  · exact own_cg (fun j hj => cW_cfg (by omega) hj k) b
theorem lets_w {F wr : Nat → Int32} {c f l : Nat} (h : lets F wr c f l true = true) : F (32 + c * 4 + 2) = nI 2 ∨ F (32 + c * 4 + 2) = nI 3 := by
  unfold lets at h
  split at h
  · simp at h
  split at h
  · simp at h
  split at h
  · rename_i e
    exact Or.inl e
  split at h
  · rename_i e
    exact Or.inr e
  · cases h
/-- what a row that is written may change -/
def Fw (σ τ : sg) (s : Nat) : Prop := ∀ a, (∀ j, 3 ≤ j → j < 16 → a ≠ sa s j) → τ a = σ a
theorem Fw.tr {σ τ ρ : sg} {s : Nat} (h : Fw σ τ s) (h2 : Fw τ ρ s) : Fw σ ρ s := fun a ha => (h2 a ha).trans (h a ha)
theorem Fw.rf {σ : sg} {s : Nat} : Fw σ σ s := fun _ _ => rfl
theorem Fw.u {σ : sg} {s j i : Nat} {v : Int32} (h : 3 ≤ j) (h1 : j < 16) : Fw σ (up σ (sa s j) i v) s := fun a ha => up_ne (ha j h h1)
theorem Fw.sp {σ : sg} {s b : Nat} {v : Int32} (hb : b < 128) : Fw σ (spl σ s b v) s := fun a ha => by
  have n3 := ha 3 (by omega) (by omega)
  have n4 := ha 4 (by omega) (by omega)
  have n15 := ha 15 (by omega) (by omega)
  unfold spl
  split
  · rfl
  split
  · rw [up_ne n3, up_ne n4]
  split
  · rw [up_ne n4, up_ne n15, clr_ne (ha _ (by omega) (by omega)) (ha _ (by omega) (by omega)), up_ne n4]
  · rw [up_ne n4]
theorem Fw.si {σ : sg} {s c i q : Nat} {v : Int32} (hc : c < 4) : Fw σ (sic σ s c i q v) s := fun a ha => by
  have n3 := ha 3 (by omega) (by omega)
  have n4 := ha 4 (by omega) (by omega)
  have n15 := ha 15 (by omega) (by omega)
  have n6 := ha (6 + c) (by omega) (by omega)
  have n11 := ha (11 + c) (by omega) (by omega)
  unfold sic
  split
  · rw [up_ne n4, up_ne n11]
  split
  · split
    · rw [up_ne n3, up_ne n3, up_ne n15, cpy_ne n11, up_ne n6]
    · rw [up_ne n15, cpy_ne n11, up_ne n6]
  · rw [up_ne n6]
section WR
variable {n s : Nat} {σ A : sg}
abbrev wrB : jx_fS := sSeq (sSt 4 (aI 50 (gR 5 6 (fLr 0)) (fB jSub (fLd 3) (fLd 1)))) (sSeq (sSt 5 (aI 50 (gR 5 5 (fLr 0)) (fB jSub (fLd 3) (fLd 1)))) (sSeq (sSt 6 (fB jOr (fB jAnd (cV 5 (fAr (fLr 0) (fAi (fLd 3) (fAi (fLd 4) (fNil)))) G_E_heldByte) (fB jXor (fLd 5) (fI (-1)))) (fB jAnd (aI 50 (gR 5 4 (fLr 0)) (fB jSub (fLd 3) (fLd 1))) (fLd 5)))) (sIf (fC jGe (fLd 4) (fI 0)) (sCall (cV 5 (fAr (fLr 0) (fAi (fLd 3) (fAi (fLd 4) (fAi (fLd 6) (fNil))))) G_E_storeInChannel)) (sCall (cV 5 (fAr (fLr 0) (fAi (fLd 3) (fAi (fLd 6) (fNil)))) G_E_storePlain)))))
theorem q_heldA {τ X : sg} {b : Nat} (h : okS n s) (hX : RC τ s X) (hok : okA X) (hb : b < 128) : G_E_heldByte [.ref (sa s 3), .int (nI b), .int (own (X 4) b)] (hs n τ) = some (hldA X b, hs n τ) := by
  unfold hldA
  rcases own_d hok.b hb with e | ⟨e, eo, hc, ep, eq, h64, h1, h8, hpq, hpb, hbq⟩
  · rw [if_pos e, e, q_E_held_m h hb, hX.mem]
  · rw [if_neg e, eo, q_E_held (p := pN (X 4) (cN (X 4) b)) h hc (by rw [hX.mem]; exact ep) hpb (by omega) hb, hX.mem]
    unfold hld
    dsimp only
    rw [hX.fr hc (by omega), hX.dn hc (by omega)]
theorem wr_step {τ X : sg} {f l b : Nat} {x4 x5 x6 : Option Value} (h : okS n s) (hX : RC τ s X) (hok : okA X) (hfb : f ≤ b) (hbl : b ≤ l) (hl : l < 128) (hr : l < f + 9) (ho : τ (sa s 18) (b - f) = own (X 4) b) : ∃ τ' y4 y5 y6, wrB [some (.ref (sa s 3)), some (.int (nI f)), some (.int (nI l)), some (.int (nI b)), x4, x5, x6] (hs n τ) = some (.inl ([some (.ref (sa s 3)), some (.int (nI f)), some (.int (nI l)), some (.int (nI b)), y4, y5, y6], hs n τ')) ∧ RC τ' s (W1 X b (mrg (hldA X b) (τ (sa s 16) (b - f)) (τ (sa s 17) (b - f)))) ∧ Fw τ τ' s ∧ τ' (sa s 18) = τ (sa s 18) := by
  have e3 : jSub (nI b) (nI f) = nI (b - f) := pk_sub hfb
  have io := iS18 (σ := τ) h (show b - f < 9 by omega)
  have im := iS17 (σ := τ) h (show b - f < 9 by omega)
  have ir := iS16 (σ := τ) h (show b - f < 9 by omega)
  rw [ho] at io
  have qh := q_heldA h hX hok (show b < 128 by omega)
  have hpre : ∀ g, sSeq (sSt 4 (aI 50 (gR 5 6 (fLr 0)) (fB jSub (fLd 3) (fLd 1)))) (sSeq (sSt 5 (aI 50 (gR 5 5 (fLr 0)) (fB jSub (fLd 3) (fLd 1)))) (sSeq (sSt 6 (fB jOr (fB jAnd (cV 5 (fAr (fLr 0) (fAi (fLd 3) (fAi (fLd 4) (fNil)))) G_E_heldByte) (fB jXor (fLd 5) (fI (-1)))) (fB jAnd (aI 50 (gR 5 4 (fLr 0)) (fB jSub (fLd 3) (fLd 1))) (fLd 5)))) g)) [some (.ref (sa s 3)), some (.int (nI f)), some (.int (nI l)), some (.int (nI b)), x4, x5, x6] (hs n τ) = g [some (.ref (sa s 3)), some (.int (nI f)), some (.int (nI l)), some (.int (nI b)), some (.int (own (X 4) b)), some (.int (τ (sa s 17) (b - f))), some (.int (mrg (hldA X b) (τ (sa s 16) (b - f)) (τ (sa s 17) (b - f))))] (hs n τ) := fun g => by
    rw [sSeq_l (L1 := [some (.ref (sa s 3)), some (.int (nI f)), some (.int (nI l)), some (.int (nI b)), some (.int (own (X 4) b)), x5, x6]) (h1 := hs n τ) (by simp [e_fI, e_fLd, e_fLr, e_fB, e_fD, e_fC, e_fT, e_fAnd, e_fOr, e_fNot, e_fCC, e_fIf, e_gI, e_gR, e_aI, e_aR, e_aN, e_cV, e_cS, e_fNil, e_fAi, e_fAr, e_sSeq, e_sSkip, e_sSt, e_sSr, e_sInc, e_sRI, e_sRR, e_sRV, e_sIf, e_sCall, e_sPI, e_sPZ, e_sPR, e_sPO, e_sAI, e_sAZ, e_sAO, e_sAR, e_sPopI, e_sPopR, e_sCopy, e_mI, e_mZ, e_mR, e_mV, jx_L0, jAdd_n, jMul_n, z0, z1, gS3_6 h, e3, io])]
    rw [sSeq_l (L1 := [some (.ref (sa s 3)), some (.int (nI f)), some (.int (nI l)), some (.int (nI b)), some (.int (own (X 4) b)), some (.int (τ (sa s 17) (b - f))), x6]) (h1 := hs n τ) (by simp [e_fI, e_fLd, e_fLr, e_fB, e_fD, e_fC, e_fT, e_fAnd, e_fOr, e_fNot, e_fCC, e_fIf, e_gI, e_gR, e_aI, e_aR, e_aN, e_cV, e_cS, e_fNil, e_fAi, e_fAr, e_sSeq, e_sSkip, e_sSt, e_sSr, e_sInc, e_sRI, e_sRR, e_sRV, e_sIf, e_sCall, e_sPI, e_sPZ, e_sPR, e_sPO, e_sAI, e_sAZ, e_sAO, e_sAR, e_sPopI, e_sPopR, e_sCopy, e_mI, e_mZ, e_mR, e_mV, jx_L0, jAdd_n, jMul_n, z0, z1, gS3_5 h, e3, im])]
    rw [sSeq_l (L1 := [some (.ref (sa s 3)), some (.int (nI f)), some (.int (nI l)), some (.int (nI b)), some (.int (own (X 4) b)), some (.int (τ (sa s 17) (b - f))), some (.int (mrg (hldA X b) (τ (sa s 16) (b - f)) (τ (sa s 17) (b - f))))]) (h1 := hs n τ) (by simp [e_fI, e_fLd, e_fLr, e_fB, e_fD, e_fC, e_fT, e_fAnd, e_fOr, e_fNot, e_fCC, e_fIf, e_gI, e_gR, e_aI, e_aR, e_aN, e_cV, e_cS, e_fNil, e_fAi, e_fAr, e_sSeq, e_sSkip, e_sSt, e_sSr, e_sInc, e_sRI, e_sRR, e_sRV, e_sIf, e_sCall, e_sPI, e_sPZ, e_sPR, e_sPO, e_sAI, e_sAZ, e_sAO, e_sAR, e_sPopI, e_sPopR, e_sCopy, e_mI, e_mZ, e_mR, e_mV, jx_L0, jAdd_n, jMul_n, z0, z1, gS3_4 h, e3, ir, kS3 h, qh, mrg])]
  unfold wrB
  rw [hpre]
  generalize mrg (hldA X b) (τ (sa s 16) (b - f)) (τ (sa s 17) (b - f)) = v
  unfold W1
  rcases own_d hok.b (show b < 128 by omega) with e | ⟨e, eo, hc, ep, eq, h64, h1, h8, hpq, hpb, hbq⟩
  · rw [if_pos e, e]
    refine ⟨spl τ s b v, some (.int (-1)), some (.int (τ (sa s 17) (b - f))), some (.int v), (sIf_f (h1 := hs n τ) (by simp [e_fI, e_fLd, e_fLr, e_fB, e_fD, e_fC, e_fT, e_fAnd, e_fOr, e_fNot, e_fCC, e_fIf, e_gI, e_gR, e_aI, e_aR, e_aN, e_cV, e_cS, e_fNil, e_fAi, e_fAr, e_sSeq, e_sSkip, e_sSt, e_sSr, e_sInc, e_sRI, e_sRR, e_sRV, e_sIf, e_sCall, e_sPI, e_sPZ, e_sPR, e_sPO, e_sAI, e_sAZ, e_sAO, e_sAR, e_sPopI, e_sPopR, e_sCopy, e_mI, e_mZ, e_mR, e_mV, jx_L0, jAdd_n, jMul_n, z0, z1, jGe])).trans (by simp [e_fI, e_fLd, e_fLr, e_fB, e_fD, e_fC, e_fT, e_fAnd, e_fOr, e_fNot, e_fCC, e_fIf, e_gI, e_gR, e_aI, e_aR, e_aN, e_cV, e_cS, e_fNil, e_fAi, e_fAr, e_sSeq, e_sSkip, e_sSt, e_sSr, e_sInc, e_sRI, e_sRR, e_sRV, e_sIf, e_sCall, e_sPI, e_sPZ, e_sPR, e_sPO, e_sAI, e_sAZ, e_sAO, e_sAR, e_sPopI, e_sPopR, e_sCopy, e_mI, e_mZ, e_mR, e_mV, jx_L0, jAdd_n, jMul_n, z0, z1, kS3 h, q_E_storePlain (σ := τ) (v := v) h (show b < 128 by omega)]), hX.sp, Fw.sp (by omega), Fw.sp (by omega) _ (fun j a1 a2 => sa_ne (by omega))⟩
  · rw [if_neg e]
    have qs := q_E_storeInChannel (σ := τ) (v := v) (p := pN (X 4) (cN (X 4) b)) (q := qN (X 4) (cN (X 4) b)) h hc (by rw [hX.mem]; exact ep) (by rw [hX.mem]; exact eq) hpb (by omega) (show b < 128 by omega) h1 h8
    refine ⟨sic τ s (cN (X 4) b) (b - pN (X 4) (cN (X 4) b)) (qN (X 4) (cN (X 4) b)) v, some (.int (nI (cN (X 4) b))), some (.int (τ (sa s 17) (b - f))), some (.int v), (sIf_t (h1 := hs n τ) (by rw [eo]; simp [e_fI, e_fLd, e_fLr, e_fB, e_fD, e_fC, e_fT, e_fAnd, e_fOr, e_fNot, e_fCC, e_fIf, e_gI, e_gR, e_aI, e_aR, e_aN, e_cV, e_cS, e_fNil, e_fAi, e_fAr, e_sSeq, e_sSkip, e_sSt, e_sSr, e_sInc, e_sRI, e_sRR, e_sRV, e_sIf, e_sCall, e_sPI, e_sPZ, e_sPR, e_sPO, e_sAI, e_sAZ, e_sAO, e_sAR, e_sPopI, e_sPopR, e_sCopy, e_mI, e_mZ, e_mR, e_mV, jx_L0, jAdd_n, jMul_n, z0, z1, jGe, nI_pos' (show cN (X 4) b < 2 ^ 31 by omega)])).trans (by rw [eo]; simp [e_fI, e_fLd, e_fLr, e_fB, e_fD, e_fC, e_fT, e_fAnd, e_fOr, e_fNot, e_fCC, e_fIf, e_gI, e_gR, e_aI, e_aR, e_aN, e_cV, e_cS, e_fNil, e_fAi, e_fAr, e_sSeq, e_sSkip, e_sSt, e_sSr, e_sInc, e_sRI, e_sRR, e_sRV, e_sIf, e_sCall, e_sPI, e_sPZ, e_sPR, e_sPO, e_sAI, e_sAZ, e_sAO, e_sAR, e_sPopI, e_sPopR, e_sCopy, e_mI, e_mZ, e_mR, e_mV, jx_L0, jAdd_n, jMul_n, z0, z1, kS3 h, qs]), ?_, Fw.si hc, Fw.si hc _ (fun j a1 a2 => sa_ne (by omega))⟩
    have := hX.si (i := b - pN (X 4) (cN (X 4) b)) (q := qN (X 4) (cN (X 4) b)) (v := v) hc
    simp only [show (b - pN (X 4) (cN (X 4) b) + 1 = qN (X 4) (cN (X 4) b)) = (b + 1 = pN (X 4) (cN (X 4) b) + qN (X 4) (cN (X 4) b)) from propext (by omega)] at this
    exact this
theorem q_E_writeRow_big {f l : Nat} (hl : 128 ≤ l) (hl2 : l < 2 ^ 31) : G_E_writeRow [.ref (sa s 3), .int (nI f), .int (nI l)] (hs n σ) = some (bI false, hs n σ) := by
  refine mZ_e (Nat.le_of_ble_eq_true rfl) ?_
  unfold P_E_writeRow
  rw [bI_f]
  refine sSeq_r ((sIf_t (h1 := hs n σ) ?_).trans rfl)
  simp [e_fI, e_fLd, e_fLr, e_fB, e_fD, e_fC, e_fT, e_fAnd, e_fOr, e_fNot, e_fCC, e_fIf, e_gI, e_gR, e_aI, e_aR, e_aN, e_cV, e_cS, e_fNil, e_fAi, e_fAr, e_sSeq, e_sSkip, e_sSt, e_sSr, e_sInc, e_sRI, e_sRR, e_sRV, e_sIf, e_sCall, e_sPI, e_sPZ, e_sPR, e_sPO, e_sAI, e_sAZ, e_sAO, e_sAR, e_sPopI, e_sPopR, e_sCopy, e_mI, e_mZ, e_mR, e_mV, jx_L0, jAdd_n, jMul_n, z0, z1, List.replicate, jGe, nI_leI (show 128 < 2 ^ 31 by decide) hl2, hl]
theorem q_E_writeRow {f l : Nat} (h : okS n s) (hA : RC σ s A) (hok : okA A) (hfl : f ≤ l) (hl : l < 128) (hr : l < f + 9) (hb : ∀ j, f + j ≤ l → byt (σ (sa s 16) j)) : ∃ τ, G_E_writeRow [.ref (sa s 3), .int (nI f), .int (nI l)] (hs n σ) = some (bI (alwR (A 4) (A 15) f l true), hs n τ) ∧ (∀ a, a ≠ sa s 18 → (∀ j, 3 ≤ j → j < 16 → a ≠ sa s j) → τ a = σ a) ∧ RC τ s (if alwR (A 4) (A 15) f l true = true then cW A f (σ (sa s 16)) (σ (sa s 17)) (l + 1 - f) else A) := by
  have qf := q_E_findOwners (σ := σ) h (by rw [hA.mem]; exact hok.b) hfl hl hr
  generalize hσ : owS σ s (ow (σ (sa s 4)) f l 0 (ow (σ (sa s 4)) f l 1 (ow (σ (sa s 4)) f l 2 (ow (σ (sa s 4)) f l 3 (fun _ => -1))))) = ρ at qf
  have hne : ∀ a, a ≠ sa s 18 → ρ a = σ a := fun a ha => by rw [← hσ]; exact owS_ne ha
  have hR : RC ρ s A := hA.keep (fun j _ _ _ h18 _ _ => hne _ (sa_ne h18))
  have ho : ∀ j, f + j ≤ l → ρ (sa s 18) j = own (A 4) (f + j) := fun j hj => by
    rw [← hA.mem, ← ow_own hj, ← hσ]
    unfold owS
    rw [if_pos ⟨rfl, by omega⟩]
  have qa := q_E_isAllowed (σ := ρ) (w := true) h (by rw [hR.mem]; exact hok.b) hfl hl hr (by rw [hR.mem]; exact ho)
  rw [hR.mem, hR.wr, bI_t] at qa
  have step0 : ∀ g, sSeq (sIf (fC jGe (fLd 2) (fI (nI 128))) (sRI (fI (nI 0))) sSkip) (sSeq (sCall (cV 5 (fAr (fLr 0) (fAi (fLd 1) (fAi (fLd 2) (fNil)))) G_E_findOwners)) g) (jx_L0 7 [.ref (sa s 3), .int (nI f), .int (nI l)]) (hs n σ) = g [some (.ref (sa s 3)), some (.int (nI f)), some (.int (nI l)), none, none, none, none] (hs n ρ) := fun g => by
    rw [sSeq_l (L1 := [some (.ref (sa s 3)), some (.int (nI f)), some (.int (nI l)), none, none, none, none]) (h1 := hs n σ) ((sIf_f (h1 := hs n σ) (by simp [e_fI, e_fLd, e_fLr, e_fB, e_fD, e_fC, e_fT, e_fAnd, e_fOr, e_fNot, e_fCC, e_fIf, e_gI, e_gR, e_aI, e_aR, e_aN, e_cV, e_cS, e_fNil, e_fAi, e_fAr, e_sSeq, e_sSkip, e_sSt, e_sSr, e_sInc, e_sRI, e_sRR, e_sRV, e_sIf, e_sCall, e_sPI, e_sPZ, e_sPR, e_sPO, e_sAI, e_sAZ, e_sAO, e_sAR, e_sPopI, e_sPopR, e_sCopy, e_mI, e_mZ, e_mR, e_mV, jx_L0, jAdd_n, jMul_n, z0, z1, List.replicate, jGe, nI_leI (show 128 < 2 ^ 31 by decide) (show l < 2 ^ 31 by omega)]; omega)).trans rfl)]
    rw [sSeq_l (L1 := [some (.ref (sa s 3)), some (.int (nI f)), some (.int (nI l)), none, none, none, none]) (h1 := hs n ρ) (by simp [e_fI, e_fLd, e_fLr, e_fB, e_fD, e_fC, e_fT, e_fAnd, e_fOr, e_fNot, e_fCC, e_fIf, e_gI, e_gR, e_aI, e_aR, e_aN, e_cV, e_cS, e_fNil, e_fAi, e_fAr, e_sSeq, e_sSkip, e_sSt, e_sSr, e_sInc, e_sRI, e_sRR, e_sRV, e_sIf, e_sCall, e_sPI, e_sPZ, e_sPR, e_sPO, e_sAI, e_sAZ, e_sAO, e_sAR, e_sPopI, e_sPopR, e_sCopy, e_mI, e_mZ, e_mR, e_mV, jx_L0, jAdd_n, jMul_n, z0, z1, kS3 h, qf])]
  have ca : fNot (fT (cV 5 (fAr (fLr 0) (fAi (fLd 1) (fAi (fLd 2) (fAi (fI (nI 1)) (fNil))))) G_E_isAllowed)) [some (.ref (sa s 3)), some (.int (nI f)), some (.int (nI l)), none, none, none, none] (hs n ρ) = some (!(alwR (A 4) (A 15) f l true), hs n ρ) := fNot_e (fT_b (by simp [e_fI, e_fLd, e_fLr, e_fB, e_fD, e_fC, e_fT, e_fAnd, e_fOr, e_fNot, e_fCC, e_fIf, e_gI, e_gR, e_aI, e_aR, e_aN, e_cV, e_cS, e_fNil, e_fAi, e_fAr, e_sSeq, e_sSkip, e_sSt, e_sSr, e_sInc, e_sRI, e_sRR, e_sRV, e_sIf, e_sCall, e_sPI, e_sPZ, e_sPR, e_sPO, e_sAI, e_sAZ, e_sAO, e_sAR, e_sPopI, e_sPopR, e_sCopy, e_mI, e_mZ, e_mR, e_mV, jx_L0, jAdd_n, jMul_n, z0, z1, kS3 h, qa]))
  cases hall : alwR (A 4) (A 15) f l true with
  | false =>
    rw [hall] at ca
    refine ⟨ρ, mZ_e (Nat.le_of_ble_eq_true rfl) ?_, (fun a ha _ => hne a ha), by simpa using hR⟩
    unfold P_E_writeRow
    rw [step0, bI_f]
    exact sSeq_r ((sIf_t ca).trans rfl)
  | true =>
    rw [hall] at ca
    rw [if_pos rfl]
    have hbk : ∀ k, f + k ≤ l + 1 → okA (cW A f (σ (sa s 16)) (σ (sa s 17)) k) := fun k hk => hok.cw k (by omega) (fun j hj => hb j (by omega))
    obtain ⟨L', H', hw, τ, y4, y5, y6, rfl, rfl, -, hJ, hF, h18⟩ := sWh_inv (fc := fC jLe (fLd 3) (fLd 2)) (fb := sSeq wrB (sInc 3 (nI 1))) (I := fun i L H => ∃ τ x4 x5 x6, L = [some (.ref (sa s 3)), some (.int (nI f)), some (.int (nI l)), some (.int (nI i)), x4, x5, x6] ∧ H = hs n τ ∧ f ≤ i ∧ RC τ s (cW A f (σ (sa s 16)) (σ (sa s 17)) (i - f)) ∧ Fw ρ τ s ∧ τ (sa s 18) = ρ (sa s 18)) (e := l + 1) (fun i L H hI hi => by
        obtain ⟨τ, x4, x5, x6, rfl, rfl, hfi, hJ⟩ := hI
        simp [e_fI, e_fLd, e_fLr, e_fB, e_fD, e_fC, e_fT, e_fAnd, e_fOr, e_fNot, e_fCC, e_fIf, e_gI, e_gR, e_aI, e_aR, e_aN, e_cV, e_cS, e_fNil, e_fAi, e_fAr, e_sSeq, e_sSkip, e_sSt, e_sSr, e_sInc, e_sRI, e_sRR, e_sRV, e_sIf, e_sCall, e_sPI, e_sPZ, e_sPR, e_sPO, e_sAI, e_sAZ, e_sAO, e_sAR, e_sPopI, e_sPopR, e_sCopy, e_mI, e_mZ, e_mR, e_mV, jx_L0, jAdd_n, jMul_n, z0, z1, jLe, nI_leI (show i < 2 ^ 31 by omega) (show l < 2 ^ 31 by omega)]
        omega) (fun i L H hI hi => by
        obtain ⟨τ, x4, x5, x6, rfl, rfl, hfi, hJ, hF, h18⟩ := hI
        have hokX := hbk (i - f) (by omega)
        have eown : own (cW A f (σ (sa s 16)) (σ (sa s 17)) (i - f) 4) i = own (A 4) i := cW_own hok (fun j hj => hb j (by omega)) (by omega) hr (show i ≤ l by omega)
        have e16 : τ (sa s 16) = σ (sa s 16) := (hF _ (fun j a1 a2 => sa_ne (by omega))).trans (hne _ (sa_ne (by omega)))
        have e17 : τ (sa s 17) = σ (sa s 17) := (hF _ (fun j a1 a2 => sa_ne (by omega))).trans (hne _ (sa_ne (by omega)))
        obtain ⟨τ', y4, y5, y6, e1, hJ', hF', h18'⟩ := wr_step (x4 := x4) (x5 := x5) (x6 := x6) h hJ hokX hfi (show i ≤ l by omega) hl hr (by rw [h18, ho (i - f) (by omega), eown, show f + (i - f) = i by omega])
        rw [e16, e17] at hJ'
        refine ⟨[some (.ref (sa s 3)), some (.int (nI f)), some (.int (nI l)), some (.int (nI (i+1))), y4, y5, y6], hs n τ', (sSeq_l e1).trans (by simp [e_fI, e_fLd, e_fLr, e_fB, e_fD, e_fC, e_fT, e_fAnd, e_fOr, e_fNot, e_fCC, e_fIf, e_gI, e_gR, e_aI, e_aR, e_aN, e_cV, e_cS, e_fNil, e_fAi, e_fAr, e_sSeq, e_sSkip, e_sSt, e_sSr, e_sInc, e_sRI, e_sRR, e_sRV, e_sIf, e_sCall, e_sPI, e_sPZ, e_sPR, e_sPO, e_sAI, e_sAZ, e_sAO, e_sAR, e_sPopI, e_sPopR, e_sCopy, e_mI, e_mZ, e_mR, e_mV, jx_L0, jAdd_n, jMul_n, z0, z1, nI_add]), τ', y4, y5, y6, rfl, rfl, by omega, ?_, hF.tr hF', h18'.trans h18⟩
        rw [show i + 1 - f = (i - f) + 1 by omega]
        show RC τ' s (W1 _ (f + (i - f)) (mrg (hldA _ (f + (i - f))) _ _))
        rw [show f + (i - f) = i by omega]
        exact hJ') 600 f [some (.ref (sa s 3)), some (.int (nI f)), some (.int (nI l)), some (.int (nI f)), none, none, none] (hs n ρ) (by omega) (by omega) ⟨ρ, none, none, none, rfl, rfl, Nat.le_refl _, by rw [Nat.sub_self]; exact hR, Fw.rf, rfl⟩
    refine ⟨τ, mZ_e (Nat.le_of_ble_eq_true rfl) ?_, (fun a ha h2 => (hF a h2).trans (hne a ha)), hJ⟩
    unfold P_E_writeRow
    rw [step0, bI_t]
    rw [sSeq_l ((sIf_f ca).trans rfl)]
    rw [sSeq_l ((sSeq_l (L1 := [some (.ref (sa s 3)), some (.int (nI f)), some (.int (nI l)), some (.int (nI f)), none, none, none]) (h1 := hs n ρ) (by simp [e_fI, e_fLd, e_fLr, e_fB, e_fD, e_fC, e_fT, e_fAnd, e_fOr, e_fNot, e_fCC, e_fIf, e_gI, e_gR, e_aI, e_aR, e_aN, e_cV, e_cS, e_fNil, e_fAi, e_fAr, e_sSeq, e_sSkip, e_sSt, e_sSr, e_sInc, e_sRI, e_sRR, e_sRV, e_sIf, e_sCall, e_sPI, e_sPZ, e_sPR, e_sPO, e_sAI, e_sAZ, e_sAO, e_sAR, e_sPopI, e_sPopR, e_sCopy, e_mI, e_mZ, e_mR, e_mV, jx_L0, jAdd_n, jMul_n, z0, z1])).trans hw)]
    rfl
end WR
