/-! the reference: a row is read -/
def rd1 (A : sg) (f b : Nat) : sg := fun j i => if 6 ≤ j ∧ j < 10 ∧ i < 8 ∧ cIb (A 4) f b (j - 6) = true then A (j + 5) i else A j i
def rd3 (A : sg) (f l b : Nat) : sg := fun j i => if 6 ≤ j ∧ j < 10 ∧ i < 8 ∧ cIb (A 4) f (l + 1) (j - 6) = true then A (j + 5) i else if j = 4 ∧ 48 ≤ i ∧ i < 52 ∧ cOb (A 4) f b (i - 48) = true then nI 0 else A j i
section REF4
variable {n s c f l b : Nat} {σ A : sg}
theorem rd1_j {j : Nat} (h : j < 6 ∨ 10 ≤ j) : rd1 A f b j = A j := by
  funext i
  unfold rd1
  rw [if_neg (by omega)]
theorem rd1_0 : rd1 A f f = A := by
  funext j i
  unfold rd1
  rw [if_neg]
  rintro ⟨-, -, -, q⟩
  have := of_decide_eq_true q
  omega
theorem cIb_s {d : Nat} (h : ¬ (A 4 (32 + d * 4 + 2) = nI 0 ∧ pN (A 4) d = b ∧ own (A 4) b = nI d)) : cIb (A 4) f (b + 1) d = cIb (A 4) f b d := by
  unfold cIb
  rw [decide_eq_decide]
  constructor
  · rintro ⟨h1, h2, h3, h4⟩
    refine ⟨h1, h2, ?_, h4⟩
    rcases Nat.lt_succ_iff_lt_or_eq.mp h3 with q | q
    · exact q
    · exact absurd ⟨h1, q, by rw [← q]; exact h4⟩ h
  · rintro ⟨h1, h2, h3, h4⟩
    exact ⟨h1, h2, by omega, h4⟩
theorem rd1_s (h : ∀ d, d < 4 → ¬ (A 4 (32 + d * 4 + 2) = nI 0 ∧ pN (A 4) d = b ∧ own (A 4) b = nI d)) : rd1 A f (b + 1) = rd1 A f b := by
  funext j i
  unfold rd1
  by_cases q : 6 ≤ j ∧ j < 10
  · rw [cIb_s (h (j - 6) (by omega))]
  · rw [if_neg (fun e => q ⟨e.1, e.2.1⟩), if_neg (fun e => q ⟨e.1, e.2.1⟩)]
theorem rd1_c (hc : c < 4) (hf : f ≤ b) (h1 : A 4 (32 + c * 4 + 2) = nI 0) (h2 : pN (A 4) c = b) (h3 : own (A 4) b = nI c) : cpy (rd1 A f b) (11 + c) 0 (6 + c) 0 8 = rd1 A f (b + 1) := by
  funext j i
  unfold cpy
  by_cases q : j = 6 + c
  · subst q
    have t : cIb (A 4) f (b + 1) c = true := decide_eq_true ⟨h1, by omega, by omega, by rw [h2]; exact h3⟩
    by_cases q2 : i < 8
    · rw [if_pos ⟨rfl, by omega, by omega⟩, rd1_j (by omega)]
      unfold rd1
      rw [show 6 + c - 6 = c by omega, if_pos ⟨by omega, by omega, q2, t⟩, show 6 + c + 5 = 11 + c by omega, Nat.zero_add, Nat.sub_zero]
    · rw [if_neg (by omega)]
      unfold rd1
      rw [if_neg (by omega), if_neg (by omega)]
  · rw [if_neg (fun e => q e.1)]
    unfold rd1
    by_cases q3 : 6 ≤ j ∧ j < 10
    · rw [cIb_s (d := j - 6)]
      rintro ⟨-, -, e⟩
      have := own_uniq (show j - 6 < 4 by omega) hc e h3
      omega
    · rw [if_neg (fun e => q3 ⟨e.1, e.2.1⟩), if_neg (fun e => q3 ⟨e.1, e.2.1⟩)]
theorem rd3_0 : rd3 A f l f = rd1 A f (l + 1) := by
  funext j i
  unfold rd3 rd1
  have : ∀ c, cOb (A 4) f f c = false := fun c => by
    unfold cOb
    rw [Nat.sub_self]
    simp
  split
  · rfl
  · rw [if_neg]
    rintro ⟨-, -, -, q⟩
    rw [this] at q
    cases q
theorem cOb_s {d : Nat} (hf : f ≤ b) : cOb (A 4) f (b + 1) d = true ↔ cOb (A 4) f b d = true ∨ (A 4 (32 + d * 4 + 2) = nI 1 ∧ own (A 4) b = nI d) := by
  rw [cOb_e, cOb_e]
  unfold cO
  constructor
  · rintro ⟨h1, b', h2, h3, h4⟩
    rcases Nat.lt_succ_iff_lt_or_eq.mp h3 with q | q
    · exact Or.inl ⟨h1, b', h2, q, h4⟩
    · exact Or.inr ⟨h1, by rw [← q]; exact h4⟩
  · rintro (⟨h1, b', h2, h3, h4⟩ | ⟨h1, h2⟩)
    · exact ⟨h1, b', h2, by omega, h4⟩
    · exact ⟨h1, b, hf, by omega, h2⟩
theorem rd3_s (hf : f ≤ b) (h : ∀ d, d < 4 → ¬ (A 4 (32 + d * 4 + 2) = nI 1 ∧ own (A 4) b = nI d)) : rd3 A f l (b + 1) = rd3 A f l b := by
  funext j i
  unfold rd3
  by_cases q : 48 ≤ i ∧ i < 52
  · have : cOb (A 4) f (b + 1) (i - 48) = cOb (A 4) f b (i - 48) := by
      rw [Bool.eq_iff_iff, cOb_s hf]
      have := h (i - 48) (by omega)
      constructor
      · rintro (e | e)
        · exact e
        · exact absurd e this
      · exact Or.inl
    rw [this]
  · have e1 : ¬ (j = 4 ∧ 48 ≤ i ∧ i < 52 ∧ cOb (A 4) f (b + 1) (i - 48) = true) := fun e => q ⟨e.2.1, e.2.2.1⟩
    have e2 : ¬ (j = 4 ∧ 48 ≤ i ∧ i < 52 ∧ cOb (A 4) f b (i - 48) = true) := fun e => q ⟨e.2.1, e.2.2.1⟩
    rw [if_neg e1, if_neg e2]
theorem rd3_c (hc : c < 4) (hf : f ≤ b) (h1 : A 4 (32 + c * 4 + 2) = nI 1) (h3 : own (A 4) b = nI c) : up (rd3 A f l b) 4 (48 + c) (nI 0) = rd3 A f l (b + 1) := by
  funext j i
  unfold up rd3
  by_cases q : j = 4 ∧ i = 48 + c
  · obtain ⟨rfl, rfl⟩ := q
    rw [if_pos ⟨rfl, rfl⟩, if_neg (by omega), if_pos ⟨rfl, by omega, by omega, (cOb_s hf).mpr (Or.inr ⟨by rw [show 48 + c - 48 = c by omega]; exact h1, by rw [show 48 + c - 48 = c by omega]; exact h3⟩)⟩]
  · rw [if_neg q]
    by_cases q3 : j = 4 ∧ 48 ≤ i ∧ i < 52
    · have : cOb (A 4) f (b + 1) (i - 48) = cOb (A 4) f b (i - 48) := by
        rw [Bool.eq_iff_iff, cOb_s hf]
        constructor
        · rintro (e | e)
          · exact e
          · have := own_uniq (show i - 48 < 4 by omega) hc e.2 h3
            omega
        · exact Or.inl
      rw [this]
    · have e1 : ¬ (j = 4 ∧ 48 ≤ i ∧ i < 52 ∧ cOb (A 4) f (b + 1) (i - 48) = true) := fun e => q3 ⟨e.1, e.2.1, e.2.2.1⟩
      have e2 : ¬ (j = 4 ∧ 48 ≤ i ∧ i < 52 ∧ cOb (A 4) f b (i - 48) = true) := fun e => q3 ⟨e.1, e.2.1, e.2.2.1⟩
      rw [if_neg e1, if_neg e2]
theorem rd3_e : rd3 A f l (l + 1) = rdA A f l := rfl
theorem rd3_4 {i : Nat} (h : i < 48 ∨ 52 ≤ i) : rd3 A f l b 4 i = A 4 i := by
  unfold rd3
  rw [if_neg (by omega), if_neg (by omega)]
theorem rv_e (hok : okA A) (hfb : f ≤ b) (hbl : b ≤ l) (hl : l < 128) (hc : c < 4) (ho : own (A 4) b = nI c) (hm : A 4 (32 + c * 4 + 2) = nI 0 ∨ A 4 (32 + c * 4 + 2) = nI 1) : rvA A f b = if A 4 (32 + c * 4 + 2) = nI 0 then rd1 A f (l + 1) (6 + c) (b - pN (A 4) c) else A (11 + c) (b - pN (A 4) c) := by
  obtain e | ⟨e, e1, hc', -, -, -, -, h8, -, hp, hq⟩ := own_d hok.b (show b < 128 by omega)
  · rw [e] at ho
    exact absurd ho.symm (m1_ne hc)
  · have ec : cN (A 4) b = c := own_uniq hc' hc e1 ho
    rw [ec] at hp hq h8
    unfold rvA
    rw [if_neg e, ec]
    rcases hm with m | m
    · rw [if_pos m, if_neg (by rw [m]; decide)]
      unfold rd1
      have : cIb (A 4) f (b + 1) c = cIb (A 4) f (l + 1) c := by
        unfold cIb
        rw [decide_eq_decide]
        constructor
        · rintro ⟨h1, h2, h3, h4⟩
          exact ⟨h1, h2, by omega, h4⟩
        · rintro ⟨h1, h2, h3, h4⟩
          exact ⟨h1, h2, by omega, h4⟩
      rw [this, show 6 + c - 6 = c by omega, show 6 + c + 5 = 11 + c by omega]
      by_cases q : cIb (A 4) f (l + 1) c = true
      · rw [if_pos q, if_pos ⟨by omega, by omega, by omega, q⟩]
      · rw [if_neg q, if_neg (fun e => q e.2.2.2)]
    · rw [if_pos m, if_neg (by rw [m]; decide)]
theorem own_q {F : Nat → Int32} {b : Nat} (hB : bOK F) (hb : b < 128) : own F b = -1 ∨ ∃ c, c < 4 ∧ own F b = nI c ∧ F (32 + c * 4) = nI (pN F c) ∧ F (32 + c * 4 + 1) = nI (qN F c) ∧ 64 ≤ pN F c ∧ 1 ≤ qN F c ∧ qN F c ≤ 8 ∧ pN F c + qN F c ≤ 128 ∧ pN F c ≤ b ∧ b < pN F c + qN F c := by
  rcases own_d hB hb with e | ⟨-, e, hc, r⟩
  · exact Or.inl e
  · exact Or.inr ⟨_, hc, e, r⟩
theorem jEq_n {a b : Nat} (ha : a < 2 ^ 31) (hb : b < 2 ^ 31) : jEq (nI a) (nI b) = decide (a = b) := by
  unfold jEq
  rw [decide_eq_decide]
  exact nI_eq ha hb
theorem q_R_reads (h : okB n) (hA : RR σ s A) (hs6 : s < 6) (hok : okA A) (hf : okF A) (hfl : f ≤ l) (hr : l < f + 9) (hf2 : f < 1000) : ∃ τ, G_R_reads [.ref 26, .int (nI s), .int (nI f), .int (nI l)] (hs n σ) = some (bI (decide (l < 128) && alwR (A 4) (A 15) f l false), hs n τ) ∧ RR τ s (if (decide (l < 128) && alwR (A 4) (A 15) f l false) = true then rdA A f l else A) ∧ ((decide (l < 128) && alwR (A 4) (A 15) f l false) = true → ∀ j, f + j ≤ l → τ 50 j = rvA A f (f + j)) ∧ FX (fun a i => SC s a i ∨ a = 50) σ τ := by
  refine mZ_t (Nat.le_of_ble_eq_true rfl) ?_
  simp only [jx_L0, List.map_cons, List.map_nil, List.length_cons, List.length_nil, Nat.reduceAdd, Nat.reduceSub, List.replicate, List.cons_append, List.nil_append]
  unfold P_R_reads
  have qa := q_R_allowed (w := false) h hA hs6 hok hf hfl hr hf2
  rw [bI_f] at qa
  refine wSeq (wIf (by simp only [e_fI, e_fLd, e_fLr, e_fB, e_fD, e_fC, e_fT, e_fAnd, e_fOr, e_fNot, e_fCC, e_fIf, e_gI, e_gR, e_aI, e_aR, e_aN, e_cV, e_cS, e_fNil, e_fAi, e_fAr, e_sSeq, e_sSkip, e_sSt, e_sSr, e_sInc, e_sRI, e_sRR, e_sRV, e_sIf, e_sCall, e_sPI, e_sPZ, e_sPR, e_sPO, e_sAI, e_sAZ, e_sAO, e_sAR, e_sPopI, e_sPopR, e_sCopy, e_mI, e_mZ, e_mR, e_mV, jAdd_n, jMul_n, z0, z1, Option.bind_some, List.getElem?_cons_zero, List.getElem?_cons_succ, List.set_cons_zero, List.set_cons_succ, eq_self, if_true, ite_and, ite_or, ite_I, ite_bI, ite_bJ, bI_ne, bI_01, List.cons_append, List.nil_append, Bool.false_eq_true, if_false, kT26 h, qa]; rfl) (fun hb => ?_) (fun hb => ?_))
  · have e : (decide (l < 128) && alwR (A 4) (A 15) f l false) = false := by
      cases q : (decide (l < 128) && alwR (A 4) (A 15) f l false)
      · rfl
      · rw [q] at hb; cases hb
    rw [e]
    exact wS_r rfl ⟨rfl, σ, rfl, by rw [if_neg Bool.false_ne_true]; exact hA, (fun q => by cases q), FX.r _ σ⟩
  have e : (decide (l < 128) && alwR (A 4) (A 15) f l false) = true := by
    cases q : (decide (l < 128) && alwR (A 4) (A 15) f l false)
    · rw [q] at hb; cases hb
    · rfl
  rw [e, if_pos rfl]
  have hl : l < 128 := of_decide_eq_true (Bool.and_eq_true_iff.mp e).1
  have hal := (Bool.and_eq_true_iff.mp e).2
  have hmo : ∀ b c, f ≤ b → b ≤ l → c < 4 → own (A 4) b = nI c → A 4 (32 + c * 4 + 2) = nI 0 ∨ A 4 (32 + c * 4 + 2) = nI 1 := fun b c h1 h2 hc ho => by
    have := alw_at hal h1 h2
    rw [alw_c hc ho] at this
    exact lets_rd this
  clear hb e qa
  refine wS_l rfl ?_
  refine wSeq (wSeq (wS_l (by simp only [e_fI, e_fLd, e_fLr, e_fB, e_fD, e_fC, e_fT, e_fAnd, e_fOr, e_fNot, e_fCC, e_fIf, e_gI, e_gR, e_aI, e_aR, e_aN, e_cV, e_cS, e_fNil, e_fAi, e_fAr, e_sSeq, e_sSkip, e_sSt, e_sSr, e_sInc, e_sRI, e_sRR, e_sRV, e_sIf, e_sCall, e_sPI, e_sPZ, e_sPR, e_sPO, e_sAI, e_sAZ, e_sAO, e_sAR, e_sPopI, e_sPopR, e_sCopy, e_mI, e_mZ, e_mR, e_mV, jAdd_n, jMul_n, z0, z1, Option.bind_some, List.getElem?_cons_zero, List.getElem?_cons_succ, List.set_cons_zero, List.set_cons_succ, eq_self, if_true, ite_and, ite_or, ite_I, ite_bI, ite_bJ, bI_ne, bI_01, List.cons_append, List.nil_append, Bool.false_eq_true, if_false]; rfl) ?_))
  refine wWh (I := fun b L H => f ≤ b ∧ ∃ τ x5, L = [some (.ref 26), some (.int (nI s)), some (.int (nI f)), some (.int (nI l)), some (.int (nI b)), x5] ∧ H = hs n τ ∧ RR τ s (rd1 A f b) ∧ FX (fun a i => SC s a i ∨ a = 50) σ τ) (e := l + 1) ?_ ?_ ?_ 600 f _ _ (by omega) (by omega) ⟨Nat.le_refl _, σ, _, rfl, rfl, by rw [rd1_0]; exact hA, FX.r _ σ⟩
  · rintro b _ _ ⟨-, τ, x5, rfl, rfl, -⟩ hi
    simp only [e_fI, e_fLd, e_fLr, e_fB, e_fD, e_fC, e_fT, e_fAnd, e_fOr, e_fNot, e_fCC, e_fIf, e_gI, e_gR, e_aI, e_aR, e_aN, e_cV, e_cS, e_fNil, e_fAi, e_fAr, e_sSeq, e_sSkip, e_sSt, e_sSr, e_sInc, e_sRI, e_sRR, e_sRV, e_sIf, e_sCall, e_sPI, e_sPZ, e_sPR, e_sPO, e_sAI, e_sAZ, e_sAO, e_sAR, e_sPopI, e_sPopR, e_sCopy, e_mI, e_mZ, e_mR, e_mV, jAdd_n, jMul_n, z0, z1, Option.bind_some, List.getElem?_cons_zero, List.getElem?_cons_succ, List.set_cons_zero, List.set_cons_succ, eq_self, if_true, ite_and, ite_or, ite_I, ite_bI, ite_bJ, bI_ne, bI_01, List.cons_append, List.nil_append, Bool.false_eq_true, if_false, jLe, nI_leI (show b < 2 ^ 31 by omega) (show l < 2 ^ 31 by omega), Nat.lt_succ_iff]
  · rintro b _ _ ⟨hfb, τ, x5, rfl, rfl, hR, hF⟩ hi
    have e4 : rd1 A f b 4 = A 4 := rd1_j (by omega)
    refine wSeq (wSeq (wS_l (by simp only [e_fI, e_fLd, e_fLr, e_fB, e_fD, e_fC, e_fT, e_fAnd, e_fOr, e_fNot, e_fCC, e_fIf, e_gI, e_gR, e_aI, e_aR, e_aN, e_cV, e_cS, e_fNil, e_fAi, e_fAr, e_sSeq, e_sSkip, e_sSt, e_sSr, e_sInc, e_sRI, e_sRR, e_sRV, e_sIf, e_sCall, e_sPI, e_sPZ, e_sPR, e_sPO, e_sAI, e_sAZ, e_sAO, e_sAR, e_sPopI, e_sPopR, e_sCopy, e_mI, e_mZ, e_mR, e_mV, jAdd_n, jMul_n, z0, z1, Option.bind_some, List.getElem?_cons_zero, List.getElem?_cons_succ, List.set_cons_zero, List.set_cons_succ, eq_self, if_true, ite_and, ite_or, ite_I, ite_bI, ite_bJ, bI_ne, bI_01, List.cons_append, List.nil_append, Bool.false_eq_true, if_false, kT26 h, q_R_channelOf h hR hs6, e4]; rfl) ?_))
    rcases own_q hok.b (show b < 128 by omega) with o | ⟨c, hc, o, ep, -, -, -, -, -, hpb, -⟩
    · rw [o]
      refine wIf (by simp only [e_fI, e_fLd, e_fLr, e_fB, e_fD, e_fC, e_fT, e_fAnd, e_fOr, e_fNot, e_fCC, e_fIf, e_gI, e_gR, e_aI, e_aR, e_aN, e_cV, e_cS, e_fNil, e_fAi, e_fAr, e_sSeq, e_sSkip, e_sSt, e_sSr, e_sInc, e_sRI, e_sRR, e_sRV, e_sIf, e_sCall, e_sPI, e_sPZ, e_sPR, e_sPO, e_sAI, e_sAZ, e_sAO, e_sAR, e_sPopI, e_sPopR, e_sCopy, e_mI, e_mZ, e_mR, e_mV, jAdd_n, jMul_n, z0, z1, Option.bind_some, List.getElem?_cons_zero, List.getElem?_cons_succ, List.set_cons_zero, List.set_cons_succ, eq_self, if_true, ite_and, ite_or, ite_I, ite_bI, ite_bJ, bI_ne, bI_01, List.cons_append, List.nil_append, Bool.false_eq_true, if_false, gm1]; rfl) (fun hb => ?_) (fun hb => ?_)
      · cases hb
      · refine wS_l rfl ?_
        refine wS_l (by simp only [e_fI, e_fLd, e_fLr, e_fB, e_fD, e_fC, e_fT, e_fAnd, e_fOr, e_fNot, e_fCC, e_fIf, e_gI, e_gR, e_aI, e_aR, e_aN, e_cV, e_cS, e_fNil, e_fAi, e_fAr, e_sSeq, e_sSkip, e_sSt, e_sSr, e_sInc, e_sRI, e_sRR, e_sRV, e_sIf, e_sCall, e_sPI, e_sPZ, e_sPR, e_sPO, e_sAI, e_sAZ, e_sAO, e_sAR, e_sPopI, e_sPopR, e_sCopy, e_mI, e_mZ, e_mR, e_mV, jAdd_n, jMul_n, z0, z1, Option.bind_some, List.getElem?_cons_zero, List.getElem?_cons_succ, List.set_cons_zero, List.set_cons_succ, eq_self, if_true, ite_and, ite_or, ite_I, ite_bI, ite_bJ, bI_ne, bI_01, List.cons_append, List.nil_append, Bool.false_eq_true, if_false, nI_add]; rfl) ?_
        exact ⟨by omega, τ, _, rfl, rfl, by rw [rd1_s (fun d hd q => by rw [o] at q; exact m1_ne hd q.2.2.symm)]; exact hR, hF⟩
    · rw [o]
      refine wIf (by simp only [e_fI, e_fLd, e_fLr, e_fB, e_fD, e_fC, e_fT, e_fAnd, e_fOr, e_fNot, e_fCC, e_fIf, e_gI, e_gR, e_aI, e_aR, e_aN, e_cV, e_cS, e_fNil, e_fAi, e_fAr, e_sSeq, e_sSkip, e_sSt, e_sSr, e_sInc, e_sRI, e_sRR, e_sRV, e_sIf, e_sCall, e_sPI, e_sPZ, e_sPR, e_sPO, e_sAI, e_sAZ, e_sAO, e_sAR, e_sPopI, e_sPopR, e_sCopy, e_mI, e_mZ, e_mR, e_mV, jAdd_n, jMul_n, z0, z1, Option.bind_some, List.getElem?_cons_zero, List.getElem?_cons_succ, List.set_cons_zero, List.set_cons_succ, eq_self, if_true, ite_and, ite_or, ite_I, ite_bI, ite_bJ, bI_ne, bI_01, List.cons_append, List.nil_append, Bool.false_eq_true, if_false, kT26 h, gN0 (show c < 2 ^ 31 by omega), q_R_kind h hR hs6 hc, q_R_begin h hR hs6 hc, e4, ep, jEq_n (show b < 2 ^ 31 by omega) (show pN (A 4) c < 2 ^ 31 by omega)]; rfl) (fun hb => ?_) (fun hb => ?_)
      · obtain ⟨t1, t2⟩ := Bool.and_eq_true_iff.mp hb
        have t1' : A 4 (32 + c * 4 + 2) = nI 0 := (of_decide_eq_true t1).trans nI_0.symm
        have t2' := of_decide_eq_true t2
        obtain ⟨ρ, e5, hR5, hF5⟩ := q_R_copy (w := false) h hR hs6 hc
        rw [bI_f] at e5
        rw [if_neg Bool.false_ne_true, rd1_c hc hfb t1' t2'.symm o] at hR5
        refine wS_l (by simp only [e_fI, e_fLd, e_fLr, e_fB, e_fD, e_fC, e_fT, e_fAnd, e_fOr, e_fNot, e_fCC, e_fIf, e_gI, e_gR, e_aI, e_aR, e_aN, e_cV, e_cS, e_fNil, e_fAi, e_fAr, e_sSeq, e_sSkip, e_sSt, e_sSr, e_sInc, e_sRI, e_sRR, e_sRV, e_sIf, e_sCall, e_sPI, e_sPZ, e_sPR, e_sPO, e_sAI, e_sAZ, e_sAO, e_sAR, e_sPopI, e_sPopR, e_sCopy, e_mI, e_mZ, e_mR, e_mV, jAdd_n, jMul_n, z0, z1, Option.bind_some, List.getElem?_cons_zero, List.getElem?_cons_succ, List.set_cons_zero, List.set_cons_succ, eq_self, if_true, ite_and, ite_or, ite_I, ite_bI, ite_bJ, bI_ne, bI_01, List.cons_append, List.nil_append, Bool.false_eq_true, if_false, kT26 h, e5]; rfl) ?_
        refine wS_l (by simp only [e_fI, e_fLd, e_fLr, e_fB, e_fD, e_fC, e_fT, e_fAnd, e_fOr, e_fNot, e_fCC, e_fIf, e_gI, e_gR, e_aI, e_aR, e_aN, e_cV, e_cS, e_fNil, e_fAi, e_fAr, e_sSeq, e_sSkip, e_sSt, e_sSr, e_sInc, e_sRI, e_sRR, e_sRV, e_sIf, e_sCall, e_sPI, e_sPZ, e_sPR, e_sPO, e_sAI, e_sAZ, e_sAO, e_sAR, e_sPopI, e_sPopR, e_sCopy, e_mI, e_mZ, e_mR, e_mV, jAdd_n, jMul_n, z0, z1, Option.bind_some, List.getElem?_cons_zero, List.getElem?_cons_succ, List.set_cons_zero, List.set_cons_succ, eq_self, if_true, ite_and, ite_or, ite_I, ite_bI, ite_bJ, bI_ne, bI_01, List.cons_append, List.nil_append, Bool.false_eq_true, if_false, nI_add]; rfl) ?_
        exact ⟨by omega, ρ, _, rfl, rfl, hR5, hF.t (hF5.m (fun _ _ => Or.inl))⟩
      · refine wS_l rfl ?_
        refine wS_l (by simp only [e_fI, e_fLd, e_fLr, e_fB, e_fD, e_fC, e_fT, e_fAnd, e_fOr, e_fNot, e_fCC, e_fIf, e_gI, e_gR, e_aI, e_aR, e_aN, e_cV, e_cS, e_fNil, e_fAi, e_fAr, e_sSeq, e_sSkip, e_sSt, e_sSr, e_sInc, e_sRI, e_sRR, e_sRV, e_sIf, e_sCall, e_sPI, e_sPZ, e_sPR, e_sPO, e_sAI, e_sAZ, e_sAO, e_sAR, e_sPopI, e_sPopR, e_sCopy, e_mI, e_mZ, e_mR, e_mV, jAdd_n, jMul_n, z0, z1, Option.bind_some, List.getElem?_cons_zero, List.getElem?_cons_succ, List.set_cons_zero, List.set_cons_succ, eq_self, if_true, ite_and, ite_or, ite_I, ite_bI, ite_bJ, bI_ne, bI_01, List.cons_append, List.nil_append, Bool.false_eq_true, if_false, nI_add]; rfl) ?_
        refine ⟨by omega, τ, _, rfl, rfl, ?_, hF⟩
        rw [rd1_s]
        · exact hR
        rintro d hd ⟨k1, k2, k3⟩
        have : d = c := own_uniq hd hc k3 o
        subst this
        rw [k1, k2, decide_eq_true rfl] at hb
        cases hb
  · rintro _ _ ⟨-, τ, x5, rfl, rfl, hR, hF⟩
    refine wSeq (wSeq (wS_l (by simp only [e_fI, e_fLd, e_fLr, e_fB, e_fD, e_fC, e_fT, e_fAnd, e_fOr, e_fNot, e_fCC, e_fIf, e_gI, e_gR, e_aI, e_aR, e_aN, e_cV, e_cS, e_fNil, e_fAi, e_fAr, e_sSeq, e_sSkip, e_sSt, e_sSr, e_sInc, e_sRI, e_sRR, e_sRV, e_sIf, e_sCall, e_sPI, e_sPZ, e_sPR, e_sPO, e_sAI, e_sAZ, e_sAO, e_sAR, e_sPopI, e_sPopR, e_sCopy, e_mI, e_mZ, e_mR, e_mV, jAdd_n, jMul_n, z0, z1, Option.bind_some, List.getElem?_cons_zero, List.getElem?_cons_succ, List.set_cons_zero, List.set_cons_succ, eq_self, if_true, ite_and, ite_or, ite_I, ite_bI, ite_bJ, bI_ne, bI_01, List.cons_append, List.nil_append, Bool.false_eq_true, if_false]; rfl) ?_))
    refine wWh (I := fun b L H => f ≤ b ∧ ∃ ρ x5, L = [some (.ref 26), some (.int (nI s)), some (.int (nI f)), some (.int (nI l)), some (.int (nI b)), x5] ∧ H = hs n ρ ∧ RR ρ s (rd1 A f (l + 1)) ∧ (∀ j, f + j < b → ρ 50 j = rvA A f (f + j)) ∧ FX (fun a i => SC s a i ∨ a = 50) σ ρ) (e := l + 1) ?_ ?_ ?_ 600 f _ _ (by omega) (by omega) ⟨Nat.le_refl _, τ, _, rfl, rfl, hR, fun j hj => by omega, hF⟩
    · rintro b _ _ ⟨-, ρ, x5, rfl, rfl, -⟩ hi
      simp only [e_fI, e_fLd, e_fLr, e_fB, e_fD, e_fC, e_fT, e_fAnd, e_fOr, e_fNot, e_fCC, e_fIf, e_gI, e_gR, e_aI, e_aR, e_aN, e_cV, e_cS, e_fNil, e_fAi, e_fAr, e_sSeq, e_sSkip, e_sSt, e_sSr, e_sInc, e_sRI, e_sRR, e_sRV, e_sIf, e_sCall, e_sPI, e_sPZ, e_sPR, e_sPO, e_sAI, e_sAZ, e_sAO, e_sAR, e_sPopI, e_sPopR, e_sCopy, e_mI, e_mZ, e_mR, e_mV, jAdd_n, jMul_n, z0, z1, Option.bind_some, List.getElem?_cons_zero, List.getElem?_cons_succ, List.set_cons_zero, List.set_cons_succ, eq_self, if_true, ite_and, ite_or, ite_I, ite_bI, ite_bJ, bI_ne, bI_01, List.cons_append, List.nil_append, Bool.false_eq_true, if_false, jLe, nI_leI (show b < 2 ^ 31 by omega) (show l < 2 ^ 31 by omega), Nat.lt_succ_iff]
    · rintro b _ _ ⟨hfb, ρ, x5, rfl, rfl, hR, hV, hF⟩ hi
      have e4 : rd1 A f (l + 1) 4 = A 4 := rd1_j (by omega)
      have fin : ∀ x5 : Option Value, ∀ v : Int32, v = rvA A f b → ∀ ρ', ρ' = up ρ 50 (b - f) v → (f ≤ b + 1 ∧ ∃ ρ x5', [some (.ref 26), some (.int (nI s)), some (.int (nI f)), some (.int (nI l)), some (.int (nI (b + 1))), x5] = [some (.ref 26), some (.int (nI s)), some (.int (nI f)), some (.int (nI l)), some (.int (nI (b + 1))), x5'] ∧ hs n ρ' = hs n ρ ∧ RR ρ s (rd1 A f (l + 1)) ∧ (∀ j, f + j < b + 1 → ρ 50 j = rvA A f (f + j)) ∧ FX (fun a i => SC s a i ∨ a = 50) σ ρ) := fun x5 v ev ρ' e' => by
        subst e'
        refine ⟨by omega, _, _, rfl, rfl, hR.o ((FX.r (fun a i => a = 50) ρ).u rfl) (fun a i q e => by have := q.b; omega), fun j hj => ?_, hF.u (Or.inr rfl)⟩
        unfold up
        by_cases q : j = b - f
        · rw [if_pos ⟨rfl, q⟩, ev, q, show f + (b - f) = b by omega]
        · rw [if_neg (fun e => q e.2)]
          exact hV j (by omega)
      refine wSeq (wSeq (wS_l (by simp only [e_fI, e_fLd, e_fLr, e_fB, e_fD, e_fC, e_fT, e_fAnd, e_fOr, e_fNot, e_fCC, e_fIf, e_gI, e_gR, e_aI, e_aR, e_aN, e_cV, e_cS, e_fNil, e_fAi, e_fAr, e_sSeq, e_sSkip, e_sSt, e_sSr, e_sInc, e_sRI, e_sRR, e_sRV, e_sIf, e_sCall, e_sPI, e_sPZ, e_sPR, e_sPO, e_sAI, e_sAZ, e_sAO, e_sAR, e_sPopI, e_sPopR, e_sCopy, e_mI, e_mZ, e_mR, e_mV, jAdd_n, jMul_n, z0, z1, Option.bind_some, List.getElem?_cons_zero, List.getElem?_cons_succ, List.set_cons_zero, List.set_cons_succ, eq_self, if_true, ite_and, ite_or, ite_I, ite_bI, ite_bJ, bI_ne, bI_01, List.cons_append, List.nil_append, Bool.false_eq_true, if_false, kT26 h, q_R_channelOf h hR hs6, e4]; rfl) ?_))
      have eb : jSub (nI b) (nI f) = nI (b - f) := jSub_n hfb
      rcases own_q hok.b (show b < 128 by omega) with o | ⟨c, hc, o, ep, -, -, -, h8, -, hpb, hbq⟩
      · rw [o]
        refine wS_l (by simp only [e_fI, e_fLd, e_fLr, e_fB, e_fD, e_fC, e_fT, e_fAnd, e_fOr, e_fNot, e_fCC, e_fIf, e_gI, e_gR, e_aI, e_aR, e_aN, e_cV, e_cS, e_fNil, e_fAi, e_fAr, e_sSeq, e_sSkip, e_sSt, e_sSr, e_sInc, e_sRI, e_sRR, e_sRV, e_sIf, e_sCall, e_sPI, e_sPZ, e_sPR, e_sPO, e_sAI, e_sAZ, e_sAO, e_sAR, e_sPopI, e_sPopR, e_sCopy, e_mI, e_mZ, e_mR, e_mV, jAdd_n, jMul_n, z0, z1, Option.bind_some, List.getElem?_cons_zero, List.getElem?_cons_succ, List.set_cons_zero, List.set_cons_succ, eq_self, if_true, ite_and, ite_or, ite_I, ite_bI, ite_bJ, bI_ne, bI_01, List.cons_append, List.nil_append, Bool.false_eq_true, if_false, kT26 h, lm1, q_R_at h hR hs6 (show b < 128 by omega), e4, eb, gT26_28 h, wT50 h (show b - f < 9 by omega)]; rfl) ?_
        refine wS_l (by simp only [e_fI, e_fLd, e_fLr, e_fB, e_fD, e_fC, e_fT, e_fAnd, e_fOr, e_fNot, e_fCC, e_fIf, e_gI, e_gR, e_aI, e_aR, e_aN, e_cV, e_cS, e_fNil, e_fAi, e_fAr, e_sSeq, e_sSkip, e_sSt, e_sSr, e_sInc, e_sRI, e_sRR, e_sRV, e_sIf, e_sCall, e_sPI, e_sPZ, e_sPR, e_sPO, e_sAI, e_sAZ, e_sAO, e_sAR, e_sPopI, e_sPopR, e_sCopy, e_mI, e_mZ, e_mR, e_mV, jAdd_n, jMul_n, z0, z1, Option.bind_some, List.getElem?_cons_zero, List.getElem?_cons_succ, List.set_cons_zero, List.set_cons_succ, eq_self, if_true, ite_and, ite_or, ite_I, ite_bI, ite_bJ, bI_ne, bI_01, List.cons_append, List.nil_append, Bool.false_eq_true, if_false, nI_add]; rfl) ?_
        exact fin _ _ (by unfold rvA; rw [if_pos o]) _ rfl
      · rw [o]
        have ce := q_R_cell (b := b) (p := pN (A 4) c) h hR hs6 hc (by rw [e4]; exact ep) hpb
        have v := rv_e (l := l) hok hfb (show b ≤ l by omega) hl hc o (hmo b c hfb (by omega) hc o)
        have e1 := hR.fr (i := b - pN (A 4) c) hc (by omega)
        have e2 := hR.dn (i := b - pN (A 4) c) hc (by omega)
        rw [rd1_j (by omega)] at e2
        have i31 := iT31 (σ := ρ) h (show 8 * (4 * s + c) + (b - pN (A 4) c) < 192 by omega)
        have i32 := iT32 (σ := ρ) h (show 8 * (4 * s + c) + (b - pN (A 4) c) < 192 by omega)
        rcases hmo b c hfb (by omega) hc o with m | m
        · rw [if_pos m] at v
          refine wS_l (by simp only [e_fI, e_fLd, e_fLr, e_fB, e_fD, e_fC, e_fT, e_fAnd, e_fOr, e_fNot, e_fCC, e_fIf, e_gI, e_gR, e_aI, e_aR, e_aN, e_cV, e_cS, e_fNil, e_fAi, e_fAr, e_sSeq, e_sSkip, e_sSt, e_sSr, e_sInc, e_sRI, e_sRR, e_sRV, e_sIf, e_sCall, e_sPI, e_sPZ, e_sPR, e_sPO, e_sAI, e_sAZ, e_sAO, e_sAR, e_sPopI, e_sPopR, e_sCopy, e_mI, e_mZ, e_mR, e_mV, jAdd_n, jMul_n, z0, z1, Option.bind_some, List.getElem?_cons_zero, List.getElem?_cons_succ, List.set_cons_zero, List.set_cons_succ, eq_self, if_true, ite_and, ite_or, ite_I, ite_bI, ite_bJ, bI_ne, bI_01, List.cons_append, List.nil_append, Bool.false_eq_true, if_false, kT26 h, lN0 (show c < 2 ^ 31 by omega), q_R_kind h hR hs6 hc, e4, m, (show jEq (nI 0) 0 = true by decide), gT26_5 h, gT26_28 h, eb, ce, i31, e1, wT50 h (show b - f < 9 by omega)]; rfl) ?_
          refine wS_l (by simp only [e_fI, e_fLd, e_fLr, e_fB, e_fD, e_fC, e_fT, e_fAnd, e_fOr, e_fNot, e_fCC, e_fIf, e_gI, e_gR, e_aI, e_aR, e_aN, e_cV, e_cS, e_fNil, e_fAi, e_fAr, e_sSeq, e_sSkip, e_sSt, e_sSr, e_sInc, e_sRI, e_sRR, e_sRV, e_sIf, e_sCall, e_sPI, e_sPZ, e_sPR, e_sPO, e_sAI, e_sAZ, e_sAO, e_sAR, e_sPopI, e_sPopR, e_sCopy, e_mI, e_mZ, e_mR, e_mV, jAdd_n, jMul_n, z0, z1, Option.bind_some, List.getElem?_cons_zero, List.getElem?_cons_succ, List.set_cons_zero, List.set_cons_succ, eq_self, if_true, ite_and, ite_or, ite_I, ite_bI, ite_bJ, bI_ne, bI_01, List.cons_append, List.nil_append, Bool.false_eq_true, if_false, nI_add]; rfl) ?_
          exact fin _ _ v.symm _ rfl
        · rw [if_neg (by rw [m]; decide)] at v
          refine wS_l (by simp only [e_fI, e_fLd, e_fLr, e_fB, e_fD, e_fC, e_fT, e_fAnd, e_fOr, e_fNot, e_fCC, e_fIf, e_gI, e_gR, e_aI, e_aR, e_aN, e_cV, e_cS, e_fNil, e_fAi, e_fAr, e_sSeq, e_sSkip, e_sSt, e_sSr, e_sInc, e_sRI, e_sRR, e_sRV, e_sIf, e_sCall, e_sPI, e_sPZ, e_sPR, e_sPO, e_sAI, e_sAZ, e_sAO, e_sAR, e_sPopI, e_sPopR, e_sCopy, e_mI, e_mZ, e_mR, e_mV, jAdd_n, jMul_n, z0, z1, Option.bind_some, List.getElem?_cons_zero, List.getElem?_cons_succ, List.set_cons_zero, List.set_cons_succ, eq_self, if_true, ite_and, ite_or, ite_I, ite_bI, ite_bJ, bI_ne, bI_01, List.cons_append, List.nil_append, Bool.false_eq_true, if_false, kT26 h, lN0 (show c < 2 ^ 31 by omega), q_R_kind h hR hs6 hc, e4, m, (show jEq (nI 1) 0 = false by decide), gT26_6 h, gT26_28 h, eb, ce, i32, e2, wT50 h (show b - f < 9 by omega)]; rfl) ?_
          refine wS_l (by simp only [e_fI, e_fLd, e_fLr, e_fB, e_fD, e_fC, e_fT, e_fAnd, e_fOr, e_fNot, e_fCC, e_fIf, e_gI, e_gR, e_aI, e_aR, e_aN, e_cV, e_cS, e_fNil, e_fAi, e_fAr, e_sSeq, e_sSkip, e_sSt, e_sSr, e_sInc, e_sRI, e_sRR, e_sRV, e_sIf, e_sCall, e_sPI, e_sPZ, e_sPR, e_sPO, e_sAI, e_sAZ, e_sAO, e_sAR, e_sPopI, e_sPopR, e_sCopy, e_mI, e_mZ, e_mR, e_mV, jAdd_n, jMul_n, z0, z1, Option.bind_some, List.getElem?_cons_zero, List.getElem?_cons_succ, List.set_cons_zero, List.set_cons_succ, eq_self, if_true, ite_and, ite_or, ite_I, ite_bI, ite_bJ, bI_ne, bI_01, List.cons_append, List.nil_append, Bool.false_eq_true, if_false, nI_add]; rfl) ?_
          exact fin _ _ v.symm _ rfl
    · rintro _ _ ⟨-, ρ, x5, rfl, rfl, hR, hV, hF⟩
      refine wSeq (wSeq (wS_l (by simp only [e_fI, e_fLd, e_fLr, e_fB, e_fD, e_fC, e_fT, e_fAnd, e_fOr, e_fNot, e_fCC, e_fIf, e_gI, e_gR, e_aI, e_aR, e_aN, e_cV, e_cS, e_fNil, e_fAi, e_fAr, e_sSeq, e_sSkip, e_sSt, e_sSr, e_sInc, e_sRI, e_sRR, e_sRV, e_sIf, e_sCall, e_sPI, e_sPZ, e_sPR, e_sPO, e_sAI, e_sAZ, e_sAO, e_sAR, e_sPopI, e_sPopR, e_sCopy, e_mI, e_mZ, e_mR, e_mV, jAdd_n, jMul_n, z0, z1, Option.bind_some, List.getElem?_cons_zero, List.getElem?_cons_succ, List.set_cons_zero, List.set_cons_succ, eq_self, if_true, ite_and, ite_or, ite_I, ite_bI, ite_bJ, bI_ne, bI_01, List.cons_append, List.nil_append, Bool.false_eq_true, if_false]; rfl) ?_))
      refine wWh (I := fun b L H => f ≤ b ∧ ∃ τ x5, L = [some (.ref 26), some (.int (nI s)), some (.int (nI f)), some (.int (nI l)), some (.int (nI b)), x5] ∧ H = hs n τ ∧ RR τ s (rd3 A f l b) ∧ (∀ j, f + j ≤ l → τ 50 j = rvA A f (f + j)) ∧ FX (fun a i => SC s a i ∨ a = 50) σ τ) (e := l + 1) ?_ ?_ ?_ 600 f _ _ (by omega) (by omega) ⟨Nat.le_refl _, ρ, _, rfl, rfl, by rw [rd3_0]; exact hR, fun j hj => hV j (by omega), hF⟩
      · rintro b _ _ ⟨-, ρ, x5, rfl, rfl, -⟩ hi
        simp only [e_fI, e_fLd, e_fLr, e_fB, e_fD, e_fC, e_fT, e_fAnd, e_fOr, e_fNot, e_fCC, e_fIf, e_gI, e_gR, e_aI, e_aR, e_aN, e_cV, e_cS, e_fNil, e_fAi, e_fAr, e_sSeq, e_sSkip, e_sSt, e_sSr, e_sInc, e_sRI, e_sRR, e_sRV, e_sIf, e_sCall, e_sPI, e_sPZ, e_sPR, e_sPO, e_sAI, e_sAZ, e_sAO, e_sAR, e_sPopI, e_sPopR, e_sCopy, e_mI, e_mZ, e_mR, e_mV, jAdd_n, jMul_n, z0, z1, Option.bind_some, List.getElem?_cons_zero, List.getElem?_cons_succ, List.set_cons_zero, List.set_cons_succ, eq_self, if_true, ite_and, ite_or, ite_I, ite_bI, ite_bJ, bI_ne, bI_01, List.cons_append, List.nil_append, Bool.false_eq_true, if_false, jLe, nI_leI (show b < 2 ^ 31 by omega) (show l < 2 ^ 31 by omega), Nat.lt_succ_iff]
      · rintro b _ _ ⟨hfb, τ, x5, rfl, rfl, hR, hV, hF⟩ hi
        have eo : own (rd3 A f l b 4) b = own (A 4) b := own_cg (fun k hk => rd3_4 (by omega)) b
        refine wSeq (wSeq (wS_l (by simp only [e_fI, e_fLd, e_fLr, e_fB, e_fD, e_fC, e_fT, e_fAnd, e_fOr, e_fNot, e_fCC, e_fIf, e_gI, e_gR, e_aI, e_aR, e_aN, e_cV, e_cS, e_fNil, e_fAi, e_fAr, e_sSeq, e_sSkip, e_sSt, e_sSr, e_sInc, e_sRI, e_sRR, e_sRV, e_sIf, e_sCall, e_sPI, e_sPZ, e_sPR, e_sPO, e_sAI, e_sAZ, e_sAO, e_sAR, e_sPopI, e_sPopR, e_sCopy, e_mI, e_mZ, e_mR, e_mV, jAdd_n, jMul_n, z0, z1, Option.bind_some, List.getElem?_cons_zero, List.getElem?_cons_succ, List.set_cons_zero, List.set_cons_succ, eq_self, if_true, ite_and, ite_or, ite_I, ite_bI, ite_bJ, bI_ne, bI_01, List.cons_append, List.nil_append, Bool.false_eq_true, if_false, kT26 h, q_R_channelOf h hR hs6, eo]; rfl) ?_))
        rcases own_q hok.b (show b < 128 by omega) with o | ⟨c, hc, o, -⟩
        · rw [o]
          refine wIf (by simp only [e_fI, e_fLd, e_fLr, e_fB, e_fD, e_fC, e_fT, e_fAnd, e_fOr, e_fNot, e_fCC, e_fIf, e_gI, e_gR, e_aI, e_aR, e_aN, e_cV, e_cS, e_fNil, e_fAi, e_fAr, e_sSeq, e_sSkip, e_sSt, e_sSr, e_sInc, e_sRI, e_sRR, e_sRV, e_sIf, e_sCall, e_sPI, e_sPZ, e_sPR, e_sPO, e_sAI, e_sAZ, e_sAO, e_sAR, e_sPopI, e_sPopR, e_sCopy, e_mI, e_mZ, e_mR, e_mV, jAdd_n, jMul_n, z0, z1, Option.bind_some, List.getElem?_cons_zero, List.getElem?_cons_succ, List.set_cons_zero, List.set_cons_succ, eq_self, if_true, ite_and, ite_or, ite_I, ite_bI, ite_bJ, bI_ne, bI_01, List.cons_append, List.nil_append, Bool.false_eq_true, if_false, gm1]; rfl) (fun hb => ?_) (fun hb => ?_)
          · cases hb
          · refine wS_l rfl ?_
            refine wS_l (by simp only [e_fI, e_fLd, e_fLr, e_fB, e_fD, e_fC, e_fT, e_fAnd, e_fOr, e_fNot, e_fCC, e_fIf, e_gI, e_gR, e_aI, e_aR, e_aN, e_cV, e_cS, e_fNil, e_fAi, e_fAr, e_sSeq, e_sSkip, e_sSt, e_sSr, e_sInc, e_sRI, e_sRR, e_sRV, e_sIf, e_sCall, e_sPI, e_sPZ, e_sPR, e_sPO, e_sAI, e_sAZ, e_sAO, e_sAR, e_sPopI, e_sPopR, e_sCopy, e_mI, e_mZ, e_mR, e_mV, jAdd_n, jMul_n, z0, z1, Option.bind_some, List.getElem?_cons_zero, List.getElem?_cons_succ, List.set_cons_zero, List.set_cons_succ, eq_self, if_true, ite_and, ite_or, ite_I, ite_bI, ite_bJ, bI_ne, bI_01, List.cons_append, List.nil_append, Bool.false_eq_true, if_false, nI_add]; rfl) ?_
            exact ⟨by omega, τ, _, rfl, rfl, by rw [rd3_s hfb (fun d hd q => by rw [o] at q; exact m1_ne hd q.2.symm)]; exact hR, hV, hF⟩
        · rw [o]
          have ek := rd3_4 (A := A) (f := f) (l := l) (b := b) (i := 32 + c * 4 + 2) (by omega)
          refine wIf (by simp only [e_fI, e_fLd, e_fLr, e_fB, e_fD, e_fC, e_fT, e_fAnd, e_fOr, e_fNot, e_fCC, e_fIf, e_gI, e_gR, e_aI, e_aR, e_aN, e_cV, e_cS, e_fNil, e_fAi, e_fAr, e_sSeq, e_sSkip, e_sSt, e_sSr, e_sInc, e_sRI, e_sRR, e_sRV, e_sIf, e_sCall, e_sPI, e_sPZ, e_sPR, e_sPO, e_sAI, e_sAZ, e_sAO, e_sAR, e_sPopI, e_sPopR, e_sCopy, e_mI, e_mZ, e_mR, e_mV, jAdd_n, jMul_n, z0, z1, Option.bind_some, List.getElem?_cons_zero, List.getElem?_cons_succ, List.set_cons_zero, List.set_cons_succ, eq_self, if_true, ite_and, ite_or, ite_I, ite_bI, ite_bJ, bI_ne, bI_01, List.cons_append, List.nil_append, Bool.false_eq_true, if_false, kT26 h, gN0 (show c < 2 ^ 31 by omega), q_R_kind h hR hs6 hc, ek]; rfl) (fun hb => ?_) (fun hb => ?_)
          · have t1' : A 4 (32 + c * 4 + 2) = nI 1 := of_decide_eq_true hb
            obtain ⟨ρ, e5, hR5, hF5⟩ := q_R_fill (v := nI 0) h hR hs6 hc
            rw [rd3_c hc hfb t1' o] at hR5
            refine wS_l (by simp only [e_fI, e_fLd, e_fLr, e_fB, e_fD, e_fC, e_fT, e_fAnd, e_fOr, e_fNot, e_fCC, e_fIf, e_gI, e_gR, e_aI, e_aR, e_aN, e_cV, e_cS, e_fNil, e_fAi, e_fAr, e_sSeq, e_sSkip, e_sSt, e_sSr, e_sInc, e_sRI, e_sRR, e_sRV, e_sIf, e_sCall, e_sPI, e_sPZ, e_sPR, e_sPO, e_sAI, e_sAZ, e_sAO, e_sAR, e_sPopI, e_sPopR, e_sCopy, e_mI, e_mZ, e_mR, e_mV, jAdd_n, jMul_n, z0, z1, Option.bind_some, List.getElem?_cons_zero, List.getElem?_cons_succ, List.set_cons_zero, List.set_cons_succ, eq_self, if_true, ite_and, ite_or, ite_I, ite_bI, ite_bJ, bI_ne, bI_01, List.cons_append, List.nil_append, Bool.false_eq_true, if_false, kT26 h, e5]; rfl) ?_
            refine wS_l (by simp only [e_fI, e_fLd, e_fLr, e_fB, e_fD, e_fC, e_fT, e_fAnd, e_fOr, e_fNot, e_fCC, e_fIf, e_gI, e_gR, e_aI, e_aR, e_aN, e_cV, e_cS, e_fNil, e_fAi, e_fAr, e_sSeq, e_sSkip, e_sSt, e_sSr, e_sInc, e_sRI, e_sRR, e_sRV, e_sIf, e_sCall, e_sPI, e_sPZ, e_sPR, e_sPO, e_sAI, e_sAZ, e_sAO, e_sAR, e_sPopI, e_sPopR, e_sCopy, e_mI, e_mZ, e_mR, e_mV, jAdd_n, jMul_n, z0, z1, Option.bind_some, List.getElem?_cons_zero, List.getElem?_cons_succ, List.set_cons_zero, List.set_cons_succ, eq_self, if_true, ite_and, ite_or, ite_I, ite_bI, ite_bJ, bI_ne, bI_01, List.cons_append, List.nil_append, Bool.false_eq_true, if_false, nI_add]; rfl) ?_
            exact ⟨by omega, ρ, _, rfl, rfl, hR5, fun j hj => by rw [hF5 50 j (fun q => by have := q.b; omega)]; exact hV j hj, hF.t (hF5.m (fun _ _ => Or.inl))⟩
          · refine wS_l rfl ?_
            refine wS_l (by simp only [e_fI, e_fLd, e_fLr, e_fB, e_fD, e_fC, e_fT, e_fAnd, e_fOr, e_fNot, e_fCC, e_fIf, e_gI, e_gR, e_aI, e_aR, e_aN, e_cV, e_cS, e_fNil, e_fAi, e_fAr, e_sSeq, e_sSkip, e_sSt, e_sSr, e_sInc, e_sRI, e_sRR, e_sRV, e_sIf, e_sCall, e_sPI, e_sPZ, e_sPR, e_sPO, e_sAI, e_sAZ, e_sAO, e_sAR, e_sPopI, e_sPopR, e_sCopy, e_mI, e_mZ, e_mR, e_mV, jAdd_n, jMul_n, z0, z1, Option.bind_some, List.getElem?_cons_zero, List.getElem?_cons_succ, List.set_cons_zero, List.set_cons_succ, eq_self, if_true, ite_and, ite_or, ite_I, ite_bI, ite_bJ, bI_ne, bI_01, List.cons_append, List.nil_append, Bool.false_eq_true, if_false, nI_add]; rfl) ?_
            refine ⟨by omega, τ, _, rfl, rfl, ?_, hV, hF⟩
            rw [rd3_s hfb]
            · exact hR
            rintro d hd ⟨k1, k3⟩
            have : d = c := own_uniq hd hc k3 o
            subst this
            rw [k1] at hb
            exact absurd hb (by decide)
      · rintro _ _ ⟨-, τ, x5, rfl, rfl, hR, hV, hF⟩
        exact wS_r rfl ⟨rfl, τ, rfl, hR, fun _ => hV, hF⟩
end REF4
