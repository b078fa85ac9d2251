theorem lets_r {F wr : Nat → Int32} {c f l : Nat} (h : lets F wr c f l false = true) : F (32 + c * 4 + 2) = nI 0 ∨ F (32 + c * 4 + 2) = nI 1 := by
  unfold lets at h
  split at h
  · rename_i e
    exact Or.inl e
  split at h
  · rename_i e
    exact Or.inr e
  split at h
  · cases h
  split at h
  · simp at h
  · cases h
section RD
variable {n s : Nat} {σ : sg}
abbrev rdB : jx_fS := sSeq (sSt 4 (aI 50 (gR 5 6 (fLr 0)) (fB jSub (fLd 3) (fLd 1)))) (sSeq (sIf (fC jGe (fLd 4) (fI 0)) (sCall (cV 5 (fAr (fLr 0) (fAi (fLd 3) (fAi (fLd 4) (fNil)))) G_E_beforeReading)) sSkip) (sAI (gR 5 4 (fLr 0)) (fB jSub (fLd 3) (fLd 1)) (cV 5 (fAr (fLr 0) (fAi (fLd 3) (fAi (fLd 4) (fNil)))) G_E_heldByte)))
theorem rd_step {τ : sg} {f l b : Nat} {x4 : Option Value} (h : okS n s) (hB : bOK (σ (sa s 4))) (hfb : f ≤ b) (hbl : b ≤ l) (hl : l < 128) (hr : l < f + 9) (ho : ∀ j, f + j ≤ l → σ (sa s 18) j = own (σ (sa s 4)) (f + j)) (hal : alw (σ (sa s 4)) (σ (sa s 15)) f l false b = true) (hI : RdJ σ τ s f b b) : ∃ τ', rdB [some (.ref (sa s 3)), some (.int (nI f)), some (.int (nI l)), some (.int (nI b)), x4] (hs n τ) = some (.inl ([some (.ref (sa s 3)), some (.int (nI f)), some (.int (nI l)), some (.int (nI b)), some (.int (own (σ (sa s 4)) b))], hs n τ')) ∧ RdJ σ τ' s f (b + 1) (b + 1) := by
  have e3 : jSub (nI b) (nI f) = nI (b - f) := pk_sub hfb
  have h18 : τ (sa s 18) = σ (sa s 18) := hI.1 _ (sa_ne (by omega)) (sa_ne (by omega)) (fun c hc => sa_ne (by omega))
  have io := iS18 (σ := τ) h (show b - f < 9 by omega)
  rw [h18, ho (b - f) (by omega), show f + (b - f) = b by omega] at io
  have hst : sSt 4 (aI 50 (gR 5 6 (fLr 0)) (fB jSub (fLd 3) (fLd 1))) [some (.ref (sa s 3)), some (.int (nI f)), some (.int (nI l)), some (.int (nI b)), x4] (hs n τ) = some (.inl ([some (.ref (sa s 3)), some (.int (nI f)), some (.int (nI l)), some (.int (nI b)), some (.int (own (σ (sa s 4)) b))], hs n τ)) := by
    simp [e_fI, e_fLd, e_fLr, e_fB, e_fD, e_fC, e_fT, e_fAnd, e_fOr, e_fNot, e_fCC, e_fIf, e_gI, e_gR, e_aI, e_aR, e_aN, e_cV, e_cS, e_fNil, e_fAi, e_fAr, e_sSeq, e_sSkip, e_sSt, e_sSr, e_sInc, e_sRI, e_sRR, e_sRV, e_sIf, e_sCall, e_sPI, e_sPZ, e_sPR, e_sPO, e_sAI, e_sAZ, e_sAO, e_sAR, e_sPopI, e_sPopR, e_sCopy, e_mI, e_mZ, e_mR, e_mV, jx_L0, jAdd_n, jMul_n, z0, z1, gS3_6 h, e3, io]
  unfold rdB
  rw [sSeq_l hst]
  rcases own_cases (σ (sa s 4)) b with eo | ⟨c, hc, eo⟩
  · have hnI : ∀ c, c < 4 → cI (σ (sa s 4)) f (b + 1) c → cI (σ (sa s 4)) f b c := fun c hc q => by
      rcases cI_up q with q | ⟨-, -, q⟩
      · exact q
      · rw [eo] at q
        exact absurd q ((show ∀ k, k < 4 → ¬ (-1 : Int32) = nI k by decide) c hc)
    have hnO : ∀ c, c < 4 → cO (σ (sa s 4)) f (b + 1) c → cO (σ (sa s 4)) f b c := fun c hc q => by
      rcases cO_up q with q | ⟨-, q⟩
      · exact q
      · rw [eo] at q
        exact absurd q ((show ∀ k, k < 4 → ¬ (-1 : Int32) = nI k by decide) c hc)
    have hJ := hI.keep hnI hnO
    have hF : τ (sa s 4) b = σ (sa s 4) b := by
      by_cases q : ∃ c, c < 4 ∧ b = 48 + c
      · obtain ⟨c, hc, rfl⟩ := q
        refine (hI.2.2.2.1 c hc).2 ?_
        rintro ⟨-, b', h1, h2, h3⟩
        obtain ⟨p, q, -, -, h4, -, -, -, h5, -⟩ := own_N hB (by omega) hc h3
        omega
      · exact hI.2.2.1 b (fun c hc e => q ⟨c, hc, e⟩)
    have qh := q_E_held_m (σ := τ) h (show b < 128 by omega)
    rw [hF] at qh
    refine ⟨up τ (sa s 16) (b - f) (σ (sa s 4) b), ?_, hJ.row hfb ⟨fun _ => rfl, fun c p hc q => ?_⟩⟩
    · rw [eo, sSeq_l ((sIf_f (h1 := hs n τ) (by simp [e_fI, e_fLd, e_fLr, e_fB, e_fD, e_fC, e_fT, e_fAnd, e_fOr, e_fNot, e_fCC, e_fIf, e_gI, e_gR, e_aI, e_aR, e_aN, e_cV, e_cS, e_fNil, e_fAi, e_fAr, e_sSeq, e_sSkip, e_sSt, e_sSr, e_sInc, e_sRI, e_sRR, e_sRV, e_sIf, e_sCall, e_sPI, e_sPZ, e_sPR, e_sPO, e_sAI, e_sAZ, e_sAO, e_sAR, e_sPopI, e_sPopR, e_sCopy, e_mI, e_mZ, e_mR, e_mV, jx_L0, jAdd_n, jMul_n, z0, z1, jGe])).trans rfl)]
      simp [e_fI, e_fLd, e_fLr, e_fB, e_fD, e_fC, e_fT, e_fAnd, e_fOr, e_fNot, e_fCC, e_fIf, e_gI, e_gR, e_aI, e_aR, e_aN, e_cV, e_cS, e_fNil, e_fAi, e_fAr, e_sSeq, e_sSkip, e_sSt, e_sSr, e_sInc, e_sRI, e_sRR, e_sRV, e_sIf, e_sCall, e_sPI, e_sPZ, e_sPR, e_sPO, e_sAI, e_sAZ, e_sAO, e_sAR, e_sPopI, e_sPopR, e_sCopy, e_mI, e_mZ, e_mR, e_mV, jx_L0, jAdd_n, jMul_n, z0, z1, gS3_4 h, e3, kS3 h, qh, wS16 h (show b - f < 9 by omega)]
    · rw [eo] at q
      exact absurd q ((show ∀ k, k < 4 → ¬ (-1 : Int32) = nI k by decide) c hc)
  · rw [alw_c hc eo] at hal
    obtain ⟨p, q, ep, eq, h64, hq1, hq8, hpq, hpb, hbq⟩ := own_N hB (by omega) hc eo
    have hFk : ∀ k, k < 16 → τ (sa s 4) (32 + k) = σ (sa s 4) (32 + k) := fun k hk => hI.2.2.1 (32 + k) (fun c hc => by omega)
    have eτm : τ (sa s 4) (32 + c * 4 + 2) = σ (sa s 4) (32 + c * 4 + 2) := by have := hFk (c * 4 + 2) (by omega); rwa [← Nat.add_assoc] at this
    have eτp : τ (sa s 4) (32 + c * 4) = nI p := by rw [hFk (c * 4) (by omega)]; exact ep
    have hdn : τ (sa s (11 + c)) = σ (sa s (11 + c)) := hI.1 _ (sa_ne (by omega)) (sa_ne (by omega)) (fun c' hc' => sa_ne (by omega))
    have qb := q_E_beforeReading (σ := τ) (b := b) h hc
    have hge : ∀ τ0 : sg, fC jGe (fLd 4) (fI 0) [some (.ref (sa s 3)), some (.int (nI f)), some (.int (nI l)), some (.int (nI b)), some (.int (nI c))] (hs n τ0) = some (true, hs n τ0) := fun τ0 => by simp [e_fI, e_fLd, e_fLr, e_fB, e_fD, e_fC, e_fT, e_fAnd, e_fOr, e_fNot, e_fCC, e_fIf, e_gI, e_gR, e_aI, e_aR, e_aN, e_cV, e_cS, e_fNil, e_fAi, e_fAr, e_sSeq, e_sSkip, e_sSt, e_sSr, e_sInc, e_sRI, e_sRR, e_sRV, e_sIf, e_sCall, e_sPI, e_sPZ, e_sPR, e_sPO, e_sAI, e_sAZ, e_sAO, e_sAR, e_sPopI, e_sPopR, e_sCopy, e_mI, e_mZ, e_mR, e_mV, jx_L0, jAdd_n, jMul_n, z0, z1, jGe, nI_pos' (show c < 2 ^ 31 by omega)]
    have fin : ∀ τ1 x, bfr τ s c b = τ1 → RdJ σ τ1 s f b (b + 1) → τ1 (sa s 4) (32 + c * 4) = nI p → hld (τ1 (sa s 4)) (fun c => τ1 (sa s (6 + c))) (fun c => τ1 (sa s (11 + c))) c (b - p) = x → RV (σ (sa s 4)) (fun c => σ (sa s (6 + c))) (fun c => σ (sa s (11 + c))) f b x → ∃ τ', sSeq (sIf (fC jGe (fLd 4) (fI 0)) (sCall (cV 5 (fAr (fLr 0) (fAi (fLd 3) (fAi (fLd 4) (fNil)))) G_E_beforeReading)) sSkip) (sAI (gR 5 4 (fLr 0)) (fB jSub (fLd 3) (fLd 1)) (cV 5 (fAr (fLr 0) (fAi (fLd 3) (fAi (fLd 4) (fNil)))) G_E_heldByte)) [some (.ref (sa s 3)), some (.int (nI f)), some (.int (nI l)), some (.int (nI b)), some (.int (own (σ (sa s 4)) b))] (hs n τ) = some (.inl ([some (.ref (sa s 3)), some (.int (nI f)), some (.int (nI l)), some (.int (nI b)), some (.int (own (σ (sa s 4)) b))], hs n τ')) ∧ RdJ σ τ' s f (b + 1) (b + 1) := by
      intro τ1 x hbf hJ hp1 hx hRV
      subst hbf
      refine ⟨up (bfr τ s c b) (sa s 16) (b - f) x, ?_, hJ.row hfb hRV⟩
      have qh := q_E_held (σ := bfr τ s c b) (b := b) h hc hp1 hpb (by omega) (by omega)
      rw [hx] at qh
      rw [eo, sSeq_l (L1 := [some (.ref (sa s 3)), some (.int (nI f)), some (.int (nI l)), some (.int (nI b)), some (.int (nI c))]) (h1 := hs n (bfr τ s c b)) ((sIf_t (hge τ)).trans (by simp [e_fI, e_fLd, e_fLr, e_fB, e_fD, e_fC, e_fT, e_fAnd, e_fOr, e_fNot, e_fCC, e_fIf, e_gI, e_gR, e_aI, e_aR, e_aN, e_cV, e_cS, e_fNil, e_fAi, e_fAr, e_sSeq, e_sSkip, e_sSt, e_sSr, e_sInc, e_sRI, e_sRR, e_sRV, e_sIf, e_sCall, e_sPI, e_sPZ, e_sPR, e_sPO, e_sAI, e_sAZ, e_sAO, e_sAR, e_sPopI, e_sPopR, e_sCopy, e_mI, e_mZ, e_mR, e_mV, jx_L0, jAdd_n, jMul_n, z0, z1, kS3 h, qb]))]
      simp [e_fI, e_fLd, e_fLr, e_fB, e_fD, e_fC, e_fT, e_fAnd, e_fOr, e_fNot, e_fCC, e_fIf, e_gI, e_gR, e_aI, e_aR, e_aN, e_cV, e_cS, e_fNil, e_fAi, e_fAr, e_sSeq, e_sSkip, e_sSt, e_sSr, e_sInc, e_sRI, e_sRR, e_sRV, e_sIf, e_sCall, e_sPI, e_sPZ, e_sPR, e_sPO, e_sAI, e_sAZ, e_sAO, e_sAR, e_sPopI, e_sPopR, e_sCopy, e_mI, e_mZ, e_mR, e_mV, jx_L0, jAdd_n, jMul_n, z0, z1, gS3_4 h, e3, kS3 h, qh, wS16 h (show b - f < 9 by omega)]
    have hnO' : ∀ c', c' < 4 → c' ≠ c → cO (σ (sa s 4)) f (b + 1) c' → cO (σ (sa s 4)) f b c' := fun c' hc' hne q => by
      rcases cO_up q with q | ⟨-, q⟩
      · exact q
      · exact absurd (own_uniq hc' hc q eo) hne
    have hnI' : ∀ c', c' < 4 → c' ≠ c → cI (σ (sa s 4)) f (b + 1) c' → cI (σ (sa s 4)) f b c' := fun c' hc' hne q => by
      rcases cI_up q with q | ⟨-, -, q⟩
      · exact q
      · exact absurd (own_uniq hc' hc q eo) hne
    obtain ⟨i1, i2, i3, i4, i5⟩ := hI
    rcases lets_r hal with em | em
    · -- INPUTS
      have hnO : ∀ c', c' < 4 → cO (σ (sa s 4)) f (b + 1) c' → cO (σ (sa s 4)) f b c' := fun c' hc' q => by
        by_cases e : c' = c
        · subst e
          have := q.1
          rw [em] at this
          exact absurd this (by decide)
        · exact hnO' c' hc' e q
      by_cases hpb2 : p = b
      · have hcI : cI (σ (sa s 4)) f (b + 1) c := ⟨em, p, ep, by omega, by omega, by omega, by rw [hpb2]; exact eo⟩
        have e1 : bfr τ s c b = cpy τ (sa s (11 + c)) 0 (sa s (6 + c)) 0 8 := by
          unfold bfr
          rw [eτm, em, if_neg (by decide), if_pos ⟨by decide, by rw [eτp, hpb2]⟩]
        refine fin _ (σ (sa s (11 + c)) (b - p)) e1 ⟨fun a q1 q2 q3 => (cpy_ne (q3 c hc)).trans (i1 a q1 q2 q3), fun c' hc' => ?_, fun j hj => ?_, fun c' hc' => ?_, fun j hj => ?_⟩ ?_ ?_ ?_
        · by_cases e : c' = c
          · subst e
            refine ⟨fun _ j hj => ?_, fun q => absurd hcI q⟩
            rw [show cpy τ (sa s (11 + c')) 0 (sa s (6 + c')) 0 8 (sa s (6 + c')) j = τ (sa s (11 + c')) j by simp [cpy, hj], hdn]
          · rw [cpy_ne (sa_ne (by omega))]
            exact ⟨fun q => (i2 c' hc').1 (hnI' c' hc' e q), fun q => (i2 c' hc').2 (fun q2 => q (cI_mono q2))⟩
        · rw [cpy_ne (sa_ne (by omega))]
          exact i3 j hj
        · rw [cpy_ne (sa_ne (by omega))]
          exact ⟨fun q => (i4 c' hc').1 (hnO c' hc' q), fun q => (i4 c' hc').2 (fun q2 => q (cO_mono q2))⟩
        · rw [cpy_ne (sa_ne (by omega))]
          exact i5 j hj
        · rw [cpy_ne (sa_ne (by omega))]
          exact eτp
        · unfold hld
          rw [show cpy τ (sa s (11 + c)) 0 (sa s (6 + c)) 0 8 (sa s 4) = τ (sa s 4) from cpy_ne (sa_ne (by omega)), eτm, em]
          rw [if_neg (by decide)]
          dsimp only
          rw [show cpy τ (sa s (11 + c)) 0 (sa s (6 + c)) 0 8 (sa s (6 + c)) (b - p) = τ (sa s (11 + c)) (b - p) by simp [cpy, show b - p < 8 by omega], hdn]
        · refine ⟨fun q => absurd (q.symm.trans eo) ((show ∀ k, k < 4 → ¬ (-1 : Int32) = nI k by decide) c hc), fun c' p' hc' q1 q2 q3 => ?_⟩
          obtain rfl := own_uniq hc' hc q1 eo
          have : p' = p := (nI_eq (by omega) (by omega)).mp (q2.symm.trans ep)
          subst this
          exact ⟨fun q => absurd (q.symm.trans em) (by decide), fun _ => ⟨fun _ => rfl, fun q => absurd hcI q⟩⟩
      · have hnI : ∀ c', c' < 4 → cI (σ (sa s 4)) f (b + 1) c' → cI (σ (sa s 4)) f b c' := fun c' hc' q => by
          rcases cI_up q with q | ⟨-, q1, q⟩
          · exact q
          · have := own_uniq hc' hc q eo
            subst this
            exact absurd ((nI_eq (by omega) (by omega)).mp (ep.symm.trans q1)) hpb2
        have e1 : bfr τ s c b = τ := by
          unfold bfr
          rw [eτm, em, if_neg (by decide), if_neg]
          rintro ⟨-, q⟩
          rw [eτp] at q
          exact hpb2 ((nI_eq (by omega) (by omega)).mp q).symm
        have hJ : RdJ σ τ s f b (b + 1) := RdJ.keep ⟨i1, i2, i3, i4, i5⟩ hnI hnO
        refine fin _ (τ (sa s (6 + c)) (b - p)) e1 hJ eτp ?_ ?_
        · unfold hld
          rw [eτm, em, if_neg (by decide)]
        · refine ⟨fun q => absurd (q.symm.trans eo) ((show ∀ k, k < 4 → ¬ (-1 : Int32) = nI k by decide) c hc), fun c' p' hc' q1 q2 q3 => ?_⟩
          obtain rfl := own_uniq hc' hc q1 eo
          have : p' = p := (nI_eq (by omega) (by omega)).mp (q2.symm.trans ep)
          subst this
          exact ⟨fun q => absurd (q.symm.trans em) (by decide), fun _ => ⟨fun q => (hJ.2.1 c' hc).1 q _ (by omega), fun q => (hJ.2.1 c' hc).2 q _ (by omega)⟩⟩
    · -- OUTBOX
      have hcO : cO (σ (sa s 4)) f (b + 1) c := ⟨em, b, hfb, by omega, eo⟩
      have hnI : ∀ c', c' < 4 → cI (σ (sa s 4)) f (b + 1) c' → cI (σ (sa s 4)) f b c' := fun c' hc' q => by
        by_cases e : c' = c
        · subst e
          have := q.1
          rw [em] at this
          exact absurd this (by decide)
        · exact hnI' c' hc' e q
      have e1 : bfr τ s c b = up τ (sa s 4) (48 + c) (nI 0) := by
        unfold bfr
        rw [eτm, em, if_pos rfl]
      refine fin _ (σ (sa s (11 + c)) (b - p)) e1 ⟨fun a q1 q2 q3 => (up_ne q1).trans (i1 a q1 q2 q3), fun c' hc' => ?_, fun j hj => ?_, fun c' hc' => ?_, fun j hj => ?_⟩ ?_ ?_ ?_
      · rw [up_ne (sa_ne (by omega))]
        exact ⟨fun q => (i2 c' hc').1 (hnI c' hc' q), fun q => (i2 c' hc').2 (fun q2 => q (cI_mono q2))⟩
      · rw [show up τ (sa s 4) (48 + c) (nI 0) (sa s 4) j = τ (sa s 4) j by simp [up, hj c hc]]
        exact i3 j hj
      · by_cases e : c' = c
        · subst e
          exact ⟨fun _ => by simp [up], fun q => absurd hcO q⟩
        · rw [show up τ (sa s 4) (48 + c) (nI 0) (sa s 4) (48 + c') = τ (sa s 4) (48 + c') by simp [up, e]]
          exact ⟨fun q => (i4 c' hc').1 (hnO' c' hc' e q), fun q => (i4 c' hc').2 (fun q2 => q (cO_mono q2))⟩
      · rw [up_ne (sa_ne (by omega))]
        exact i5 j hj
      · rw [show up τ (sa s 4) (48 + c) (nI 0) (sa s 4) (32 + c * 4) = τ (sa s 4) (32 + c * 4) by simp [up]; omega]
        exact eτp
      · unfold hld
        rw [show up τ (sa s 4) (48 + c) (nI 0) (sa s 4) (32 + c * 4 + 2) = τ (sa s 4) (32 + c * 4 + 2) by simp [up]; omega, eτm, em]
        rw [if_pos (by decide)]
        dsimp only
        rw [show up τ (sa s 4) (48 + c) (nI 0) (sa s (11 + c)) = τ (sa s (11 + c)) from up_ne (sa_ne (by omega)), hdn]
      · refine ⟨fun q => absurd (q.symm.trans eo) ((show ∀ k, k < 4 → ¬ (-1 : Int32) = nI k by decide) c hc), fun c' p' hc' q1 q2 q3 => ?_⟩
        obtain rfl := own_uniq hc' hc q1 eo
        have : p' = p := (nI_eq (by omega) (by omega)).mp (q2.symm.trans ep)
        subst this
        exact ⟨fun _ => rfl, fun q => absurd (q.symm.trans em) (by decide)⟩
theorem sWh_inv {fc : jx_fB} {fb : jx_fS} {I : Nat → hp_L → hp_H → Prop} {e : Nat} (hc : ∀ i L H, I i L H → i ≤ e → fc L H = some (decide (i < e), H)) (hb : ∀ i L H, I i L H → i < e → ∃ L' H', fb L H = some (.inl (L', H')) ∧ I (i + 1) L' H') : ∀ N i L H, i ≤ e → e - i < N → I i L H → ∃ L' H', sWh fc fb N L H = some (.inl (L', H')) ∧ I e L' H' := by
  intro N
  induction N with
  | zero => intro i L H _ h; omega
  | succ N ih =>
    intro i L H hi hN hI
    by_cases h : i < e
    · obtain ⟨L1, H1, e1, h1⟩ := hb i L H hI h
      have ec := hc i L H hI hi
      rw [decide_eq_true h] at ec
      rw [sWh_step ec e1]
      exact ih (i + 1) L1 H1 (by omega) (by omega) h1
    · have : i = e := by omega
      subst this
      have ec := hc i L H hI hi
      rw [decide_eq_false h] at ec
      exact ⟨L, H, sWh_end ec, hI⟩
/-- behind a row that was read -/
def RdK (σ τ : sg) (s f l : Nat) : Prop :=
  (∀ a, a ≠ sa s 4 → a ≠ sa s 16 → a ≠ sa s 18 → (∀ c, c < 4 → a ≠ sa s (6 + c)) → τ a = σ a) ∧
  (∀ c, c < 4 → (cI (σ (sa s 4)) f (l + 1) c → ∀ j, j < 8 → τ (sa s (6 + c)) j = σ (sa s (11 + c)) j) ∧ (¬ cI (σ (sa s 4)) f (l + 1) c → ∀ j, j < 8 → τ (sa s (6 + c)) j = σ (sa s (6 + c)) j)) ∧
  (∀ j, (∀ c, c < 4 → j ≠ 48 + c) → τ (sa s 4) j = σ (sa s 4) j) ∧
  (∀ c, c < 4 → (cO (σ (sa s 4)) f (l + 1) c → τ (sa s 4) (48 + c) = nI 0) ∧ (¬ cO (σ (sa s 4)) f (l + 1) c → τ (sa s 4) (48 + c) = σ (sa s 4) (48 + c))) ∧
  (∀ j, f + j ≤ l → RV (σ (sa s 4)) (fun c => σ (sa s (6 + c))) (fun c => σ (sa s (11 + c))) f (f + j) (τ (sa s 16) j))
theorem q_E_readRow_big {f l : Nat} (hl : 128 ≤ l) (hl2 : l < 2 ^ 31) : G_E_readRow [.ref (sa s 3), .int (nI f), .int (nI l)] (hs n σ) = some (bI false, hs n σ) := by
  refine mZ_e (Nat.le_of_ble_eq_true rfl) ?_
  unfold P_E_readRow
  rw [bI_f]
  refine sSeq_r ((sIf_t (h1 := hs n σ) ?_).trans rfl)
  simp [e_fI, e_fLd, e_fLr, e_fB, e_fD, e_fC, e_fT, e_fAnd, e_fOr, e_fNot, e_fCC, e_fIf, e_gI, e_gR, e_aI, e_aR, e_aN, e_cV, e_cS, e_fNil, e_fAi, e_fAr, e_sSeq, e_sSkip, e_sSt, e_sSr, e_sInc, e_sRI, e_sRR, e_sRV, e_sIf, e_sCall, e_sPI, e_sPZ, e_sPR, e_sPO, e_sAI, e_sAZ, e_sAO, e_sAR, e_sPopI, e_sPopR, e_sCopy, e_mI, e_mZ, e_mR, e_mV, jx_L0, jAdd_n, jMul_n, z0, z1, List.replicate, jGe, nI_leI (show 128 < 2 ^ 31 by decide) hl2, hl]
theorem q_E_readRow {f l : Nat} (h : okS n s) (hB : bOK (σ (sa s 4))) (hfl : f ≤ l) (hl : l < 128) (hr : l < f + 9) : ∃ τ, G_E_readRow [.ref (sa s 3), .int (nI f), .int (nI l)] (hs n σ) = some (bI (alwR (σ (sa s 4)) (σ (sa s 15)) f l false), hs n τ) ∧ (alwR (σ (sa s 4)) (σ (sa s 15)) f l false = false → ∀ a, a ≠ sa s 18 → τ a = σ a) ∧ (alwR (σ (sa s 4)) (σ (sa s 15)) f l false = true → RdK σ τ s f l) := by
  have qf := q_E_findOwners (σ := σ) h hB hfl hl hr
  generalize hσ : owS σ s (ow (σ (sa s 4)) f l 0 (ow (σ (sa s 4)) f l 1 (ow (σ (sa s 4)) f l 2 (ow (σ (sa s 4)) f l 3 (fun _ => -1))))) = ρ at qf
  have hne : ∀ a, a ≠ sa s 18 → ρ a = σ a := fun a ha => by rw [← hσ]; exact owS_ne ha
  have e4 : ρ (sa s 4) = σ (sa s 4) := hne _ (sa_ne (by omega))
  have e15 : ρ (sa s 15) = σ (sa s 15) := hne _ (sa_ne (by omega))
  have ho : ∀ j, f + j ≤ l → ρ (sa s 18) j = own (ρ (sa s 4)) (f + j) := fun j hj => by
    rw [e4, ← ow_own hj, ← hσ]
    unfold owS
    rw [if_pos ⟨rfl, by omega⟩]
  have hB2 : bOK (ρ (sa s 4)) := by rw [e4]; exact hB
  have qa := q_E_isAllowed (σ := ρ) (w := false) h hB2 hfl hl hr ho
  rw [e4, e15, bI_f] at qa
  have step0 : ∀ g, sSeq (sIf (fC jGe (fLd 2) (fI (nI 128))) (sRI (fI (nI 0))) sSkip) (sSeq (sCall (cV 5 (fAr (fLr 0) (fAi (fLd 1) (fAi (fLd 2) (fNil)))) G_E_findOwners)) g) (jx_L0 5 [.ref (sa s 3), .int (nI f), .int (nI l)]) (hs n σ) = g [some (.ref (sa s 3)), some (.int (nI f)), some (.int (nI l)), none, none] (hs n ρ) := fun g => by
    rw [sSeq_l (L1 := [some (.ref (sa s 3)), some (.int (nI f)), some (.int (nI l)), none, none]) (h1 := hs n σ) ((sIf_f (h1 := hs n σ) (by simp [e_fI, e_fLd, e_fLr, e_fB, e_fD, e_fC, e_fT, e_fAnd, e_fOr, e_fNot, e_fCC, e_fIf, e_gI, e_gR, e_aI, e_aR, e_aN, e_cV, e_cS, e_fNil, e_fAi, e_fAr, e_sSeq, e_sSkip, e_sSt, e_sSr, e_sInc, e_sRI, e_sRR, e_sRV, e_sIf, e_sCall, e_sPI, e_sPZ, e_sPR, e_sPO, e_sAI, e_sAZ, e_sAO, e_sAR, e_sPopI, e_sPopR, e_sCopy, e_mI, e_mZ, e_mR, e_mV, jx_L0, jAdd_n, jMul_n, z0, z1, List.replicate, jGe, nI_leI (show 128 < 2 ^ 31 by decide) (show l < 2 ^ 31 by omega)]; omega)).trans rfl)]
    rw [sSeq_l (L1 := [some (.ref (sa s 3)), some (.int (nI f)), some (.int (nI l)), none, none]) (h1 := hs n ρ) (by simp [e_fI, e_fLd, e_fLr, e_fB, e_fD, e_fC, e_fT, e_fAnd, e_fOr, e_fNot, e_fCC, e_fIf, e_gI, e_gR, e_aI, e_aR, e_aN, e_cV, e_cS, e_fNil, e_fAi, e_fAr, e_sSeq, e_sSkip, e_sSt, e_sSr, e_sInc, e_sRI, e_sRR, e_sRV, e_sIf, e_sCall, e_sPI, e_sPZ, e_sPR, e_sPO, e_sAI, e_sAZ, e_sAO, e_sAR, e_sPopI, e_sPopR, e_sCopy, e_mI, e_mZ, e_mR, e_mV, jx_L0, jAdd_n, jMul_n, z0, z1, kS3 h, qf])]
  have ca : fNot (fT (cV 5 (fAr (fLr 0) (fAi (fLd 1) (fAi (fLd 2) (fAi (fI (nI 0)) (fNil))))) G_E_isAllowed)) [some (.ref (sa s 3)), some (.int (nI f)), some (.int (nI l)), none, none] (hs n ρ) = some (!(alwR (σ (sa s 4)) (σ (sa s 15)) f l false), hs n ρ) := fNot_e (fT_b (by simp [e_fI, e_fLd, e_fLr, e_fB, e_fD, e_fC, e_fT, e_fAnd, e_fOr, e_fNot, e_fCC, e_fIf, e_gI, e_gR, e_aI, e_aR, e_aN, e_cV, e_cS, e_fNil, e_fAi, e_fAr, e_sSeq, e_sSkip, e_sSt, e_sSr, e_sInc, e_sRI, e_sRR, e_sRV, e_sIf, e_sCall, e_sPI, e_sPZ, e_sPR, e_sPO, e_sAI, e_sAZ, e_sAO, e_sAR, e_sPopI, e_sPopR, e_sCopy, e_mI, e_mZ, e_mR, e_mV, jx_L0, jAdd_n, jMul_n, z0, z1, kS3 h, qa]))
  cases hall : alwR (σ (sa s 4)) (σ (sa s 15)) f l false with
  | false =>
    rw [hall] at ca
    refine ⟨ρ, mZ_e (Nat.le_of_ble_eq_true rfl) ?_, fun _ => hne, (fun q => by cases q)⟩
    unfold P_E_readRow
    rw [step0, bI_f]
    exact sSeq_r ((sIf_t ca).trans rfl)
  | true =>
    rw [hall] at ca
    have hal : ∀ i, f ≤ i → i ≤ l → alw (ρ (sa s 4)) (ρ (sa s 15)) f l false i = true := fun i h1 h2 => by
      rw [e4, e15]
      have := List.all_eq_true.mp hall (i - f) (List.mem_range.mpr (by omega))
      rwa [show f + (i - f) = i by omega] at this
    have hI0 : RdJ ρ ρ s f f f := by
      refine ⟨fun _ _ _ _ => rfl, fun c hc => ⟨fun q => ?_, fun _ _ _ => rfl⟩, fun _ _ => rfl, fun c hc => ⟨fun q => ?_, fun _ => rfl⟩, fun j hj => by omega⟩
      · obtain ⟨-, p, -, -, q1, q2, -⟩ := q
        omega
      · obtain ⟨-, p, q1, q2, -⟩ := q
        omega
    obtain ⟨L', H', hw, τ, x4, rfl, rfl, hJ⟩ := sWh_inv (fc := fC jLe (fLd 3) (fLd 2)) (fb := sSeq rdB (sInc 3 (nI 1))) (I := fun i L H => ∃ τ x4, L = [some (.ref (sa s 3)), some (.int (nI f)), some (.int (nI l)), some (.int (nI i)), x4] ∧ H = hs n τ ∧ f ≤ i ∧ RdJ ρ τ s f i i) (e := l + 1) (fun i L H hI hi => by
        obtain ⟨τ, x4, rfl, rfl, hfi, hJ⟩ := hI
        simp [e_fI, e_fLd, e_fLr, e_fB, e_fD, e_fC, e_fT, e_fAnd, e_fOr, e_fNot, e_fCC, e_fIf, e_gI, e_gR, e_aI, e_aR, e_aN, e_cV, e_cS, e_fNil, e_fAi, e_fAr, e_sSeq, e_sSkip, e_sSt, e_sSr, e_sInc, e_sRI, e_sRR, e_sRV, e_sIf, e_sCall, e_sPI, e_sPZ, e_sPR, e_sPO, e_sAI, e_sAZ, e_sAO, e_sAR, e_sPopI, e_sPopR, e_sCopy, e_mI, e_mZ, e_mR, e_mV, jx_L0, jAdd_n, jMul_n, z0, z1, jLe, nI_leI (show i < 2 ^ 31 by omega) (show l < 2 ^ 31 by omega)]
        omega) (fun i L H hI hi => by
        obtain ⟨τ, x4, rfl, rfl, hfi, hJ⟩ := hI
        obtain ⟨τ', e1, hJ'⟩ := rd_step (x4 := x4) h hB2 hfi (show i ≤ l by omega) hl hr ho (hal i hfi (by omega)) hJ
        exact ⟨[some (.ref (sa s 3)), some (.int (nI f)), some (.int (nI l)), some (.int (nI (i+1))), some (.int (own (ρ (sa s 4)) i))], hs n τ', (sSeq_l e1).trans (by simp [e_fI, e_fLd, e_fLr, e_fB, e_fD, e_fC, e_fT, e_fAnd, e_fOr, e_fNot, e_fCC, e_fIf, e_gI, e_gR, e_aI, e_aR, e_aN, e_cV, e_cS, e_fNil, e_fAi, e_fAr, e_sSeq, e_sSkip, e_sSt, e_sSr, e_sInc, e_sRI, e_sRR, e_sRV, e_sIf, e_sCall, e_sPI, e_sPZ, e_sPR, e_sPO, e_sAI, e_sAZ, e_sAO, e_sAR, e_sPopI, e_sPopR, e_sCopy, e_mI, e_mZ, e_mR, e_mV, jx_L0, jAdd_n, jMul_n, z0, z1, nI_add]), τ', _, rfl, rfl, by omega, hJ'⟩) 600 f [some (.ref (sa s 3)), some (.int (nI f)), some (.int (nI l)), some (.int (nI f)), none] (hs n ρ) (by omega) (by omega) ⟨ρ, none, rfl, rfl, Nat.le_refl _, hI0⟩
    obtain ⟨-, j1, j2, j3, j4, j5⟩ := hJ
    refine ⟨τ, mZ_e (Nat.le_of_ble_eq_true rfl) ?_, (fun q => by cases q), fun _ => ⟨fun a q1 q2 q3 q4 => (j1 a q1 q2 q4).trans (hne a q3), fun c hc => ?_, fun j hj => ?_, fun c hc => ?_, fun j hj => ?_⟩⟩
    · unfold P_E_readRow
      rw [step0, bI_t]
      rw [sSeq_l ((sIf_f ca).trans rfl)]
      rw [sSeq_l ((sSeq_l (L1 := [some (.ref (sa s 3)), some (.int (nI f)), some (.int (nI l)), some (.int (nI f)), none]) (h1 := hs n ρ) (by simp [e_fI, e_fLd, e_fLr, e_fB, e_fD, e_fC, e_fT, e_fAnd, e_fOr, e_fNot, e_fCC, e_fIf, e_gI, e_gR, e_aI, e_aR, e_aN, e_cV, e_cS, e_fNil, e_fAi, e_fAr, e_sSeq, e_sSkip, e_sSt, e_sSr, e_sInc, e_sRI, e_sRR, e_sRV, e_sIf, e_sCall, e_sPI, e_sPZ, e_sPR, e_sPO, e_sAI, e_sAZ, e_sAO, e_sAR, e_sPopI, e_sPopR, e_sCopy, e_mI, e_mZ, e_mR, e_mV, jx_L0, jAdd_n, jMul_n, z0, z1])).trans hw)]
      rfl
    · have := j2 c hc
      rw [e4, hne _ (sa_ne (by omega)), hne _ (sa_ne (by omega))] at this
      exact this
    · rw [← e4]
      exact j3 j hj
    · rw [← e4]
      exact j4 c hc
    · have := j5 j (by omega)
      rw [e4] at this
      refine ⟨this.1, fun c p hc q1 q2 q3 => ?_⟩
      have k := this.2 c p hc q1 q2 q3
      dsimp only at k
      rw [hne (sa s (6 + c)) (sa_ne (by omega)), hne (sa s (11 + c)) (sa_ne (by omega))] at k
      exact k
end RD
