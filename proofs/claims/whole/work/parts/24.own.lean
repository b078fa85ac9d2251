/-! Arrays.fill; which channel has a byte -/
def fil (σ : sg) (a0 k : Nat) (x : Int32) : sg := fun a j => if a = a0 ∧ j < k then x else σ a j
theorem q_A_fill {n a N : Nat} {σ : sg} {x : Int32} (ha : a < n) (hk : kd a = 50) (hz : sz a = N) (hN : N < 590) (hF : ∀ j, j < N → isF a j) : G_A_fill [.ref a, .int x] (hs n σ) = some (hs n (fil σ a N x)) := by
  have hloop : ∀ M, N < M → sWh (fC jLt (fLd 2) (fLd 3)) (sSeq (sAI (fLr 0) (fLd 2) (fLd 1)) (sInc 2 (nI 1))) M [some (.ref a), some (.int x), some (.int (nI 0)), some (.int (nI N))] (hs n (fil σ a 0 x)) = some (.inl ([some (.ref a), some (.int x), some (.int (nI N)), some (.int (nI N))], hs n (fil σ a N x))) := by
    intro M hM
    refine sWh_for (Ls := fun i => [some (.ref a), some (.int x), some (.int (nI i)), some (.int (nI N))]) (Hs := fun i => hs n (fil σ a i x)) (i0 := 0) (e := N) (by omega) (fun i _ hi => ?_) (fun i _ hi => ?_) M (by omega)
    · simp [e_fI, e_fLd, e_fLr, e_fB, e_fD, e_fC, e_fT, e_fAnd, e_fOr, e_fNot, e_fCC, e_fIf, e_gI, e_gR, e_aI, e_aR, e_aN, e_cV, e_cS, e_fNil, e_fAi, e_fAr, e_sSeq, e_sSkip, e_sSt, e_sSr, e_sInc, e_sRI, e_sRR, e_sRV, e_sIf, e_sCall, e_sPI, e_sPZ, e_sPR, e_sPO, e_sAI, e_sAZ, e_sAO, e_sAR, e_sPopI, e_sPopR, e_sCopy, e_mI, e_mZ, e_mR, e_mV, jx_L0, jAdd_n, jMul_n, z0, z1, jLt, nI_ltI (show i < 2 ^ 31 by omega) (show N < 2 ^ 31 by omega)]
    · simp [e_fI, e_fLd, e_fLr, e_fB, e_fD, e_fC, e_fT, e_fAnd, e_fOr, e_fNot, e_fCC, e_fIf, e_gI, e_gR, e_aI, e_aR, e_aN, e_cV, e_cS, e_fNil, e_fAi, e_fAr, e_sSeq, e_sSkip, e_sSt, e_sSr, e_sInc, e_sRI, e_sRR, e_sRV, e_sIf, e_sCall, e_sPI, e_sPZ, e_sPR, e_sPO, e_sAI, e_sAZ, e_sAO, e_sAR, e_sPopI, e_sPopR, e_sCopy, e_mI, e_mZ, e_mR, e_mV, jx_L0, jAdd_n, jMul_n, z0, z1, w_hs (x := x) (σ := fil σ a i x) ha hk (show i < sz a by omega) (by omega) (hF i hi), nI_add]
      congr 1
      funext b j
      simp only [up, fil]
      by_cases h1 : b = a <;> by_cases h3 : j = i <;> by_cases h4 : j < i <;> simp [h1, h3, h4] <;> omega
  have h0 : fil σ a 0 x = σ := by
    funext b j
    simp [fil]
  rw [h0] at hloop
  have hl : (hs n σ)[a]? = some (50, sl σ a) := by rw [hs_get ha, hk]
  have hl2 : Int32.ofNat (sl σ a).length = nI N := by rw [sl_len, hz]; rfl
  simp [G_A_fill, P_A_fill, e_fI, e_fLd, e_fLr, e_fB, e_fD, e_fC, e_fT, e_fAnd, e_fOr, e_fNot, e_fCC, e_fIf, e_gI, e_gR, e_aI, e_aR, e_aN, e_cV, e_cS, e_fNil, e_fAi, e_fAr, e_sSeq, e_sSkip, e_sSt, e_sSr, e_sInc, e_sRI, e_sRR, e_sRV, e_sIf, e_sCall, e_sPI, e_sPZ, e_sPR, e_sPO, e_sAI, e_sAZ, e_sAO, e_sAR, e_sPopI, e_sPopR, e_sCopy, e_mI, e_mZ, e_mR, e_mV, jx_L0, jAdd_n, jMul_n, z0, z1, hl, hl2, hloop 600 (by omega)]
theorem sWh_step {fc : jx_fB} {fb : jx_fS} {N : Nat} {L L' : hp_L} {H H' : hp_H} (hc : fc L H = some (true, H)) (hb : fb L H = some (.inl (L', H'))) : sWh fc fb (N + 1) L H = sWh fc fb N L' H' := by
  show ((fc L H).bind fun q => if q.1 = true then (fb L q.2).bind (fun o => match o with
    | .inl w => sWh fc fb N w.1 w.2
    | .inr r => some (.inr r)) else some (.inl (L, q.2))) = _
  rw [hc, Option.bind_some, if_pos rfl, hb, Option.bind_some]
theorem sWh_end {fc : jx_fB} {fb : jx_fS} {N : Nat} {L : hp_L} {H : hp_H} (hc : fc L H = some (false, H)) : sWh fc fb (N + 1) L H = some (.inl (L, H)) := by
  show ((fc L H).bind fun q => if q.1 = true then (fb L q.2).bind (fun o => match o with
    | .inl w => sWh fc fb N w.1 w.2
    | .inr r => some (.inr r)) else some (.inl (L, q.2))) = _
  rw [hc, Option.bind_some, if_neg (by simp)]
/-- byte b lies in the area of channel c, which is open -/
def inC (f : Nat → Int32) (c b : Nat) : Bool := opn f c && jLe (f (32 + c * 4)) (nI b) && jLt (nI b) (jAdd (f (32 + c * 4)) (f (32 + c * 4 + 1)))
/-- the least channel from c0 on that has byte b -/
def own (f : Nat → Int32) (b : Nat) : Int32 := if inC f 0 b = true then nI 0 else if inC f 1 b = true then nI 1 else if inC f 2 b = true then nI 2 else if inC f 3 b = true then nI 3 else -1
def ow (f : Nat → Int32) (lo l : Nat) (c : Nat) (τ : Nat → Int32) : Nat → Int32 := fun j => if lo + j ≤ l ∧ inC f c (lo + j) = true then nI c else τ j
/-- an open channel's area, in numbers -/
theorem opn_N {f : Nat → Int32} (hB : ∀ j, j < 128 → ∃ m, m < 256 ∧ f j = nI m) {c : Nat} (hc : c < 4) (ho : opn f c = true) : ∃ p q : Nat, f (32 + c * 4) = nI p ∧ f (32 + c * 4 + 1) = nI q ∧ 64 ≤ p ∧ 1 ≤ q ∧ q ≤ 8 ∧ p + q ≤ 128 := by
  obtain ⟨p, hp, ep⟩ := hB (32 + c * 4) (by omega)
  obtain ⟨q, hq, eq⟩ := hB (32 + c * 4 + 1) (by omega)
  refine ⟨p, q, ep, eq, ?_⟩
  simp only [opn, ep, eq, Bool.and_eq_true, jGe_t, jLe_t, jAdd_n] at ho
  obtain ⟨⟨⟨⟨-, h2⟩, h3⟩, h4⟩, h5⟩ := ho
  rw [nI_leI (by omega) (by omega)] at h2 h3 h4 h5
  exact ⟨h2, h3, h4, h5⟩
theorem inC_N {f : Nat → Int32} {c p q b : Nat} (ho : opn f c = true) (hp : f (32 + c * 4) = nI p) (hq : f (32 + c * 4 + 1) = nI q) (h1 : p < 1000) (h2 : q < 1000) (hb : b < 1000) : inC f c b = decide (p ≤ b ∧ b < p + q) := by
  unfold inC
  rw [ho, hp, hq, jAdd_n]
  simp only [jLe, jLt, nI_leI (show p < 2 ^ 31 by omega) (show b < 2 ^ 31 by omega), nI_ltI (show b < 2 ^ 31 by omega) (show p + q < 2 ^ 31 by omega), Bool.true_and]
  by_cases a1 : p ≤ b <;> by_cases a2 : b < p + q <;> simp [a1, a2]
section OWN
variable {n s : Nat} {σ : sg}
def owS (σ : sg) (s : Nat) (w : Nat → Int32) : sg := fun a j => if a = sa s 18 ∧ j < 9 then w j else σ a j
theorem own_fill {f lo hi c : Nat} (h : okS n s) (hf : f ≤ lo) (hh : hi < f + 9) (hhi : hi < 1000) (hlo : lo < 1000) {L1 L2 : Int32} {w : Nat → Int32} (M : Nat) (hM : 20 < M) : sWh (fC jLe (fLd 5) (fLd 4)) (sSeq (sAI (gR 5 6 (fLr 0)) (fB jSub (fLd 5) (fLd 1)) (fLd 3)) (sInc 5 (nI 1))) M [some (.ref (sa s 3)), some (.int (nI f)), some (.int L2), some (.int (nI c)), some (.int (nI hi)), some (.int (nI lo))] (hs n (owS σ s w)) = some (.inl ([some (.ref (sa s 3)), some (.int (nI f)), some (.int L2), some (.int (nI c)), some (.int (nI hi)), some (.int (nI (if lo ≤ hi then hi + 1 else lo)))], hs n (owS σ s (fun j => if lo ≤ f + j ∧ f + j ≤ hi then nI c else w j)))) := by
  have key := sWh_for (fc := fC jLe (fLd 5) (fLd 4)) (fb := sSeq (sAI (gR 5 6 (fLr 0)) (fB jSub (fLd 5) (fLd 1)) (fLd 3)) (sInc 5 (nI 1))) (Ls := fun i => [some (.ref (sa s 3)), some (.int (nI f)), some (.int L2), some (.int (nI c)), some (.int (nI hi)), some (.int (nI i))]) (Hs := fun i => hs n (owS σ s (fun j => if lo ≤ f + j ∧ f + j < i then nI c else w j))) (i0 := lo) (e := if lo ≤ hi then hi + 1 else lo) (by split <;> omega) (fun i h1 h2 => ?_) (fun i h1 h2 => ?_) M (by split <;> omega)
  · have e0 : (fun j => if lo ≤ f + j ∧ f + j < lo then nI c else w j) = w := by
      funext j
      rw [if_neg (by omega)]
    have e1 : (fun j => if lo ≤ f + j ∧ f + j < (if lo ≤ hi then hi + 1 else lo) then nI c else w j) = (fun j => if lo ≤ f + j ∧ f + j ≤ hi then nI c else w j) := by
      funext j
      by_cases a : lo ≤ f + j ∧ f + j ≤ hi
      · rw [if_pos a, if_pos]
        split <;> omega
      · rw [if_neg a, if_neg]
        split <;> omega
    rw [e0, e1] at key
    exact key
  · have : decide (i < if lo ≤ hi then hi + 1 else lo) = decide (i ≤ hi) := by
      apply decide_eq_decide.mpr
      split at h2 <;> split <;> omega
    rw [this]
    simp [e_fI, e_fLd, e_fLr, e_fB, e_fD, e_fC, e_fT, e_fAnd, e_fOr, e_fNot, e_fCC, e_fIf, e_gI, e_gR, e_aI, e_aR, e_aN, e_cV, e_cS, e_fNil, e_fAi, e_fAr, e_sSeq, e_sSkip, e_sSt, e_sSr, e_sInc, e_sRI, e_sRR, e_sRV, e_sIf, e_sCall, e_sPI, e_sPZ, e_sPR, e_sPO, e_sAI, e_sAZ, e_sAO, e_sAR, e_sPopI, e_sPopR, e_sCopy, e_mI, e_mZ, e_mR, e_mV, jx_L0, jAdd_n, jMul_n, z0, z1, jLe, nI_leI (show i < 2 ^ 31 by split at h2 <;> omega) (show hi < 2 ^ 31 by omega)]
  · have hi2 : i ≤ hi := by split at h2 <;> omega
    have e3 : jSub (nI i) (nI f) = nI (i - f) := pk_sub (by omega)
    simp [e_fI, e_fLd, e_fLr, e_fB, e_fD, e_fC, e_fT, e_fAnd, e_fOr, e_fNot, e_fCC, e_fIf, e_gI, e_gR, e_aI, e_aR, e_aN, e_cV, e_cS, e_fNil, e_fAi, e_fAr, e_sSeq, e_sSkip, e_sSt, e_sSr, e_sInc, e_sRI, e_sRR, e_sRV, e_sIf, e_sCall, e_sPI, e_sPZ, e_sPR, e_sPO, e_sAI, e_sAZ, e_sAO, e_sAR, e_sPopI, e_sPopR, e_sCopy, e_mI, e_mZ, e_mR, e_mV, jx_L0, jAdd_n, jMul_n, z0, z1, gS3_6 h, e3, wS18 h (show i - f < 9 by omega), nI_add]
    congr 1
    funext a j
    simp only [up, owS]
    by_cases h5 : a = sa s 18 <;> by_cases h6 : j = i - f <;> by_cases h7 : j < 9 <;> by_cases h8 : f + j < i <;> by_cases h9 : lo ≤ f + j <;> simp [h5, h6, h7, h8, h9] <;> (try omega) <;> (try (intro hh; omega)) <;> (try (rw [if_pos (by omega), if_pos (by omega)]))
theorem jMin_n {a b : Nat} (ha : a < 2 ^ 31) (hb : b < 2 ^ 31) : jMin (nI a) (nI b) = nI (min a b) := by
  unfold jMin
  by_cases h : b < a
  · rw [if_pos ((nI_ltI hb ha).mpr h), Nat.min_eq_right (by omega)]
  · rw [if_neg (fun q => h ((nI_ltI hb ha).mp q)), Nat.min_eq_left (by omega)]
theorem jMax_n {a b : Nat} (ha : a < 2 ^ 31) (hb : b < 2 ^ 31) : jMax (nI a) (nI b) = nI (max a b) := by
  unfold jMax
  by_cases h : a < b
  · rw [if_pos ((nI_ltI ha hb).mpr h), Nat.max_eq_right (by omega)]
  · rw [if_neg (fun q => h ((nI_ltI ha hb).mp q)), Nat.max_eq_left (by omega)]
theorem owS_ne {w : Nat → Int32} {a : Nat} (h : a ≠ sa s 18) : owS σ s w a = σ a := by
  funext j
  unfold owS
  rw [if_neg (fun q => h q.1)]
theorem own_c {f l c : Nat} {w : Nat → Int32} (h : okS n s) (hB : ∀ j, j < 128 → ∃ m, m < 256 ∧ σ (sa s 4) j = nI m) (hfl : f ≤ l) (hl : l < 128) (hr : l < f + 9) (hc : c < 4) (x4 x5 : Option Value) : ∃ x4' x5', sSeq (sIf (fT (cV 5 (fAr (fLr 0) (fAi (fLd 3) (fNil))) G_E_isOpen)) (sSeq (sSt 4 (fB jMin (fLd 2) (fB jSub (fB jAdd (cV 5 (fAr (fLr 0) (fAi (fLd 3) (fNil))) G_E_startOf) (cV 5 (fAr (fLr 0) (fAi (fLd 3) (fNil))) G_E_lengthOf)) (fI (nI 1))))) (sSeq (sSt 5 (fB jMax (fLd 1) (cV 5 (fAr (fLr 0) (fAi (fLd 3) (fNil))) G_E_startOf))) (sWh (fC jLe (fLd 5) (fLd 4)) (sSeq (sAI (gR 5 6 (fLr 0)) (fB jSub (fLd 5) (fLd 1)) (fLd 3)) (sInc 5 (nI 1))) 600))) sSkip) (sInc 3 (-1)) [some (.ref (sa s 3)), some (.int (nI f)), some (.int (nI l)), some (.int (nI c)), x4, x5] (hs n (owS σ s w)) = some (.inl ([some (.ref (sa s 3)), some (.int (nI f)), some (.int (nI l)), some (.int (nI c + (-1))), x4', x5'], hs n (owS σ s (ow (σ (sa s 4)) f l c w)))) := by
  have e4 : owS σ s w (sa s 4) = σ (sa s 4) := owS_ne (fun q => by have := (sa_inj (by decide) (by decide)).mp q; omega)
  have qo := q_E_isOpen (σ := owS σ s w) h hc
  have qs := q_E_startOf (σ := owS σ s w) h hc
  have ql := q_E_lengthOf (σ := owS σ s w) h hc
  rw [e4] at qo qs ql
  cases ho : opn (σ (sa s 4)) c with
  | false =>
    have ew : ow (σ (sa s 4)) f l c w = w := by
      funext j
      unfold ow
      rw [if_neg]
      rintro ⟨-, q⟩
      simp [inC, ho] at q
    refine ⟨x4, x5, ?_⟩
    rw [ew]
    rw [ho] at qo
    simp [e_fI, e_fLd, e_fLr, e_fB, e_fD, e_fC, e_fT, e_fAnd, e_fOr, e_fNot, e_fCC, e_fIf, e_gI, e_gR, e_aI, e_aR, e_aN, e_cV, e_cS, e_fNil, e_fAi, e_fAr, e_sSeq, e_sSkip, e_sSt, e_sSr, e_sInc, e_sRI, e_sRR, e_sRV, e_sIf, e_sCall, e_sPI, e_sPZ, e_sPR, e_sPO, e_sAI, e_sAZ, e_sAO, e_sAR, e_sPopI, e_sPopR, e_sCopy, e_mI, e_mZ, e_mR, e_mV, jx_L0, jAdd_n, jMul_n, z0, z1, kS3 h, qo, bI, jNe]
  | true =>
    obtain ⟨p, q, ep, eq, h64, h1, h8, h128⟩ := opn_N hB hc ho
    rw [ho] at qo
    rw [ep] at qs
    rw [eq] at ql
    have e1 : jSub (nI (p + q)) (nI 1) = nI (p + q - 1) := pk_sub (by omega)
    have hfill := own_fill (σ := σ) (f := f) (lo := max f p) (hi := min l (p + q - 1)) (c := c) h (by omega) (by omega) (by omega) (by omega) (L2 := nI l) (w := w) (L1 := 0) 600 (by omega)
    have ew : ow (σ (sa s 4)) f l c w = (fun j => if max f p ≤ f + j ∧ f + j ≤ min l (p + q - 1) then nI c else w j) := by
      funext j
      unfold ow
      by_cases a : f + j ≤ l
      · rw [inC_N ho ep eq (by omega) (by omega) (by omega)]
        by_cases b : max f p ≤ f + j ∧ f + j ≤ min l (p + q - 1)
        · rw [if_pos b, if_pos ⟨a, by simp; omega⟩]
        · rw [if_neg b, if_neg]
          rintro ⟨-, q⟩
          simp at q
          omega
      · rw [if_neg (fun q => a q.1), if_neg (by omega)]
    rw [ew]
    refine ⟨some (.int (nI (min l (p + q - 1)))), some (.int (nI (if max f p ≤ min l (p + q - 1) then min l (p + q - 1) + 1 else max f p))), ?_⟩
    simp [e_fI, e_fLd, e_fLr, e_fB, e_fD, e_fC, e_fT, e_fAnd, e_fOr, e_fNot, e_fCC, e_fIf, e_gI, e_gR, e_aI, e_aR, e_aN, e_cV, e_cS, e_fNil, e_fAi, e_fAr, e_sSeq, e_sSkip, e_sSt, e_sSr, e_sInc, e_sRI, e_sRR, e_sRV, e_sIf, e_sCall, e_sPI, e_sPZ, e_sPR, e_sPO, e_sAI, e_sAZ, e_sAO, e_sAR, e_sPopI, e_sPopR, e_sCopy, e_mI, e_mZ, e_mR, e_mV, jx_L0, jAdd_n, jMul_n, z0, z1, kS3 h, qo, qs, ql, bI, jNe, e1, jMin_n (show l < 2 ^ 31 by omega) (show p + q - 1 < 2 ^ 31 by omega), jMax_n (show f < 2 ^ 31 by omega) (show p < 2 ^ 31 by omega), hfill]
theorem q_E_findOwners {f l : Nat} (h : okS n s) (hB : ∀ j, j < 128 → ∃ m, m < 256 ∧ σ (sa s 4) j = nI m) (hfl : f ≤ l) (hl : l < 128) (hr : l < f + 9) : G_E_findOwners [.ref (sa s 3), .int (nI f), .int (nI l)] (hs n σ) = some (hs n (owS σ s (ow (σ (sa s 4)) f l 0 (ow (σ (sa s 4)) f l 1 (ow (σ (sa s 4)) f l 2 (ow (σ (sa s 4)) f l 3 (fun _ => -1))))))) := by
  have hfill : G_A_fill [.ref (sa s 18), .int (-1)] (hs n σ) = some (hs n (owS σ s (fun _ => -1))) := q_A_fill (N := 9) (sa_lt h (by decide)) (by rw [sa, ks (by decide)]; rfl) (by rw [sa, ss (by decide)]; rfl) (by omega) (fun j _ => cS_I (by decide) (rS_n rfl))
  obtain ⟨a3, b3, s3⟩ := own_c (w := fun _ => -1) h hB hfl hl hr (show 3 < 4 by decide) none none
  obtain ⟨a2, b2, s2⟩ := own_c (w := ow (σ (sa s 4)) f l 3 (fun _ => -1)) h hB hfl hl hr (show 2 < 4 by decide) a3 b3
  obtain ⟨a1, b1, s1⟩ := own_c (w := ow (σ (sa s 4)) f l 2 (ow (σ (sa s 4)) f l 3 (fun _ => -1))) h hB hfl hl hr (show 1 < 4 by decide) a2 b2
  obtain ⟨a0, b0, s0⟩ := own_c (w := ow (σ (sa s 4)) f l 1 (ow (σ (sa s 4)) f l 2 (ow (σ (sa s 4)) f l 3 (fun _ => -1)))) h hB hfl hl hr (show 0 < 4 by decide) a1 b1
  rw [show nI 3 + (-1) = nI 2 by decide] at s3
  rw [show nI 2 + (-1) = nI 1 by decide] at s2
  rw [show nI 1 + (-1) = nI 0 by decide] at s1
  have hc3 : ∀ (k : Nat) (x y : Option Value) (H : hp_H), k < 4 → fC jGe (fLd 3) (fI 0) [some (.ref (sa s 3)), some (.int (nI f)), some (.int (nI l)), some (.int (nI k)), x, y] H = some (true, H) := fun k x y H hk => by
    simp [e_fI, e_fLd, e_fLr, e_fB, e_fD, e_fC, e_fT, e_fAnd, e_fOr, e_fNot, e_fCC, e_fIf, e_gI, e_gR, e_aI, e_aR, e_aN, e_cV, e_cS, e_fNil, e_fAi, e_fAr, e_sSeq, e_sSkip, e_sSt, e_sSr, e_sInc, e_sRI, e_sRR, e_sRV, e_sIf, e_sCall, e_sPI, e_sPZ, e_sPR, e_sPO, e_sAI, e_sAZ, e_sAO, e_sAR, e_sPopI, e_sPopR, e_sCopy, e_mI, e_mZ, e_mR, e_mV, jx_L0, jAdd_n, jMul_n, z0, z1, jGe, nI_pos' (show k < 2 ^ 31 by omega)]
  have hcm : ∀ (x y : Option Value) (H : hp_H), fC jGe (fLd 3) (fI 0) [some (.ref (sa s 3)), some (.int (nI f)), some (.int (nI l)), some (.int (nI 0 + (-1))), x, y] H = some (false, H) := fun x y H => by
    simp [e_fI, e_fLd, e_fLr, e_fB, e_fD, e_fC, e_fT, e_fAnd, e_fOr, e_fNot, e_fCC, e_fIf, e_gI, e_gR, e_aI, e_aR, e_aN, e_cV, e_cS, e_fNil, e_fAi, e_fAr, e_sSeq, e_sSkip, e_sSt, e_sSr, e_sInc, e_sRI, e_sRR, e_sRV, e_sIf, e_sCall, e_sPI, e_sPZ, e_sPR, e_sPO, e_sAI, e_sAZ, e_sAO, e_sAR, e_sPopI, e_sPopR, e_sCopy, e_mI, e_mZ, e_mR, e_mV, jx_L0, jAdd_n, jMul_n, z0, z1, jGe]
    decide
  have hw : ∀ N, sWh (fC jGe (fLd 3) (fI 0)) (sSeq (sIf (fT (cV 5 (fAr (fLr 0) (fAi (fLd 3) (fNil))) G_E_isOpen)) (sSeq (sSt 4 (fB jMin (fLd 2) (fB jSub (fB jAdd (cV 5 (fAr (fLr 0) (fAi (fLd 3) (fNil))) G_E_startOf) (cV 5 (fAr (fLr 0) (fAi (fLd 3) (fNil))) G_E_lengthOf)) (fI (nI 1))))) (sSeq (sSt 5 (fB jMax (fLd 1) (cV 5 (fAr (fLr 0) (fAi (fLd 3) (fNil))) G_E_startOf))) (sWh (fC jLe (fLd 5) (fLd 4)) (sSeq (sAI (gR 5 6 (fLr 0)) (fB jSub (fLd 5) (fLd 1)) (fLd 3)) (sInc 5 (nI 1))) 600))) sSkip) (sInc 3 (-1))) (N + 5) [some (.ref (sa s 3)), some (.int (nI f)), some (.int (nI l)), some (.int (nI 3)), none, none] (hs n (owS σ s (fun _ => -1))) = some (.inl ([some (.ref (sa s 3)), some (.int (nI f)), some (.int (nI l)), some (.int (nI 0 + (-1))), a0, b0], hs n (owS σ s (ow (σ (sa s 4)) f l 0 (ow (σ (sa s 4)) f l 1 (ow (σ (sa s 4)) f l 2 (ow (σ (sa s 4)) f l 3 (fun _ => -1)))))))) := by
    intro N
    rw [sWh_step (hc3 3 _ _ _ (by decide)) s3, sWh_step (hc3 2 _ _ _ (by decide)) s2, sWh_step (hc3 1 _ _ _ (by decide)) s1, sWh_step (hc3 0 _ _ _ (by decide)) s0, sWh_end (hcm _ _ _)]
  simp [G_E_findOwners, P_E_findOwners, e_fI, e_fLd, e_fLr, e_fB, e_fD, e_fC, e_fT, e_fAnd, e_fOr, e_fNot, e_fCC, e_fIf, e_gI, e_gR, e_aI, e_aR, e_aN, e_cV, e_cS, e_fNil, e_fAi, e_fAr, e_sSeq, e_sSkip, e_sSt, e_sSr, e_sInc, e_sRI, e_sRR, e_sRV, e_sIf, e_sCall, e_sPI, e_sPZ, e_sPR, e_sPO, e_sAI, e_sAZ, e_sAO, e_sAR, e_sPopI, e_sPopR, e_sCopy, e_mI, e_mZ, e_mR, e_mV, jx_L0, jAdd_n, jMul_n, z0, z1, gS3_6 h, hfill, hw 595]
end OWN
