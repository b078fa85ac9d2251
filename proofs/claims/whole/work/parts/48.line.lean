/-! the line: a frame passes the stations -/
def isX (X : Nat) : Prop := X = 10 ∨ X = 18
section FRM
variable {n X : Nat} {σ : sg}
theorem isX.t (hX : isX X) : kd_T.getD X 99 = 1 ∧ sz_T.getD X 0 = 2 ∧ rt_T.getD X [] = [some (X + 1)] ∧ kd_T.getD (X + 1) 99 = 52 ∧ sz_T.getD (X + 1) 0 = 3 ∧ rt_T.getD (X + 1) [] = [some (X + 2), some (X + 4), some (X + 6)] := by
  rcases hX with rfl | rfl <;> decide
theorem isX.D (hX : isX X) {d : Nat} (hd : d < 3) : isD (X + 2 + 2 * d) := by unfold isX at hX; unfold isD; omega
theorem kX (h : okB n) (hX : isX X) : hp_k (hs n σ) X = some 1 := by
  rw [cT_k h X (by unfold isX at hX; omega), hX.t.1]
theorem gX0 (h : okB n) (hX : isX X) : hp_g (hs n σ) X 1 0 = some (.ref (X + 1)) := by
  have := cT_r (σ := σ) h X 0 (X + 1) (by unfold isX at hX; omega) (by rw [hX.t.2.1]; omega) (by rw [hX.t.2.2.1]; rfl) (by unfold isX at hX; omega)
  rwa [hX.t.1] at this
theorem gX1 (h : okB n) (hX : isX X) : hp_g (hs n σ) X 1 1 = some (.int (σ X 1)) := by
  have := cT_g (σ := σ) h X 1 (by unfold isX at hX; omega) (by rw [hX.t.2.1]; omega) (by rw [hX.t.2.2.1]; rfl) (by unfold isX at hX; omega)
  rwa [hX.t.1] at this
theorem pX1 (h : okB n) (hX : isX X) (x : Int32) : hp_p (hs n σ) X 1 1 (.int x) = some (hs n (up σ X 1 x)) := by
  have := cT_p (σ := σ) h X 1 x (by unfold isX at hX; omega) (by rw [hX.t.2.1]; omega) (by rw [hX.t.2.2.1]; rfl) (by unfold isX at hX; omega)
  rwa [hX.t.1] at this
theorem iX {d : Nat} (h : okB n) (hX : isX X) (hd : d < 3) : hp_i (hs n σ) (X + 1) 52 (nI d) = some (.ref (X + 2 + 2 * d)) := by
  have := cT_q (σ := σ) h (X + 1) d (X + 2 + 2 * d) (by unfold isX at hX; omega) (by rw [hX.t.2.2.2.2.1]; omega) (by
    rw [hX.t.2.2.2.2.2]
    rcases (show d = 0 ∨ d = 1 ∨ d = 2 by omega) with rfl | rfl | rfl <;> rfl) (by unfold isX at hX; omega)
  rwa [hX.t.2.2.2.1] at this
theorem iTs {s k : Nat} (h : okB n) (ek : σ 1 2 = nI k) (hk : k ≤ 6) (hs' : s < k) : hp_i (hs n σ) 2 53 (nI s) = some (.ref (sa s 0)) := by
  rw [i_hs (a := 2) (t := 53) (j := s) (by unfold okB at h; omega) ((kb (by omega)).trans rfl) (by rw [sb (by omega)]; exact Nat.lt_of_lt_of_le hs' hk) (by rw [sb (by omega)]; decide)]
  unfold vl
  rw [if_neg (by omega), if_pos rfl, ek, nC_n (by omega), if_pos hs']
  rfl
end FRM
/-- r stations stand before the break of the k -/
def isR (B : Nat → Int32) (k r : Nat) : Prop := r ≤ k ∧ (∀ s, s < r → jNe (B s) 0 = false) ∧ (r < k → jNe (B r) 0 = true)
theorem isR.uniq {B : Nat → Int32} {k r q : Nat} (h : isR B k r) (g : isR B k q) : r = q := by
  rcases Nat.lt_trichotomy r q with c | c | c
  · have a := h.2.2 (by have := g.1; omega)
    rw [g.2.1 r c] at a
    cases a
  · exact c
  · have a := g.2.2 (by have := h.1; omega)
    rw [h.2.1 q c] at a
    cases a
theorem isR.ex (B : Nat → Int32) : ∀ k, ∃ r, isR B k r
  | 0 => ⟨0, by omega, fun _ h => by omega, fun h => by omega⟩
  | k + 1 => by
    obtain ⟨r, h1, h2, h3⟩ := isR.ex B k
    by_cases q : r < k
    · exact ⟨r, by omega, h2, fun _ => h3 q⟩
    · have : r = k := by omega
      subst this
      cases e : jNe (B r) 0 with
      | true => exact ⟨r, by omega, h2, fun _ => e⟩
      | false => exact ⟨r + 1, by omega, fun s hs => by
          rcases Nat.lt_succ_iff_lt_or_eq.mp hs with c | c
          · exact h2 s c
          · rw [c]; exact e, fun h => by omega⟩
def runS (A : sg) (G : Nat → sg) : Nat → sg × (Nat → sg)
  | 0 => (A, G)
  | d + 1 => ((pf (runS A G d).1 ((runS A G d).2 d)).1, fun e => if e = d then (pf (runS A G d).1 ((runS A G d).2 d)).2 else (runS A G d).2 e)
def runL (A G : Nat → sg) (z : Nat) : Nat → (Nat → sg) × (Nat → sg)
  | 0 => (A, G)
  | s + 1 => (fun t => if t = s then (runS ((runL A G z s).1 s) (runL A G z s).2 z).1 else (runL A G z s).1 t, (runS ((runL A G z s).1 s) (runL A G z s).2 z).2)
theorem runS_ok {A : sg} {G : Nat → sg} {z : Nat} (h : okA A) (hg : ∀ e, e < z → okP (G e)) : ∀ d, d ≤ z → okA (runS A G d).1 ∧ ∀ e, e < z → okP ((runS A G d).2 e)
  | 0, _ => ⟨h, hg⟩
  | d + 1, hd => by
    have ih := runS_ok h hg d (by omega)
    have := pf_ok ih.1 (ih.2 d (by omega))
    refine ⟨this.1, fun e he => ?_⟩
    show okP (if e = d then _ else _)
    split
    · exact this.2
    · exact ih.2 e he
theorem runL_ok {A G : Nat → sg} {k z : Nat} (h : ∀ t, t < k → okA (A t)) (hg : ∀ e, e < z → okP (G e)) : ∀ s, s ≤ k → (∀ t, t < k → okA ((runL A G z s).1 t)) ∧ ∀ e, e < z → okP ((runL A G z s).2 e)
  | 0, _ => ⟨h, hg⟩
  | s + 1, hs => by
    have ih := runL_ok h hg s (by omega)
    have := runS_ok (z := z) (ih.1 s (by omega)) ih.2 z (Nat.le_refl _)
    refine ⟨fun t ht => ?_, this.2⟩
    show okA (if t = s then _ else _)
    split
    · exact this.1
    · exact ih.1 t ht
/-- what a frame at X may change below the stations -/
def FC (X : Nat) (σ τ : sg) : Prop := ∀ a, a < 58 → a < X + 2 ∨ X + 8 ≤ a → τ a = σ a
theorem FC.r (X : Nat) (σ : sg) : FC X σ σ := fun _ _ _ => rfl
theorem FC.t {X : Nat} {σ τ ρ : sg} (h : FC X σ τ) (k : FC X τ ρ) : FC X σ ρ := fun a h1 h2 => (k a h1 h2).trans (h a h1 h2)
theorem RC.ot {σ τ A : sg} {t : Nat} (h : RC σ t A) (e : ∀ j, j < 22 → τ (sa t j) = σ (sa t j)) : RC τ t A := fun j i hj => by
  rw [e j hj.1]
  exact h j i hj
section CARRY
variable {n X k z : Nat} {σ : sg}
theorem q_N_stationsBeforeBreak {r : Nat} (h : okB n) (ek : σ 1 2 = nI k) (hk : k ≤ 6) (hr : isR (σ 3) k r) : G_N_stationsBeforeBreak [.ref 1] (hs n σ) = some (nI r, hs n σ) := by
  refine mI_q (Nat.le_of_ble_eq_true rfl) ?_
  simp only [jx_L0, List.map_cons, List.map_nil, List.length_cons, List.length_nil, Nat.reduceAdd, Nat.reduceSub, List.replicate, List.cons_append, List.nil_append]
  unfold P_N_stationsBeforeBreak
  refine wSeq (wSeq (wS_l (by simp only [e_fI, e_fLd, e_fLr, e_fB, e_fD, e_fC, e_fT, e_fAnd, e_fOr, e_fNot, e_fCC, e_fIf, e_gI, e_gR, e_aI, e_aR, e_aN, e_cV, e_cS, e_fNil, e_fAi, e_fAr, e_sSeq, e_sSkip, e_sSt, e_sSr, e_sInc, e_sRI, e_sRR, e_sRV, e_sIf, e_sCall, e_sPI, e_sPZ, e_sPR, e_sPO, e_sAI, e_sAZ, e_sAO, e_sAR, e_sPopI, e_sPopR, e_sCopy, e_mI, e_mZ, e_mR, e_mV, jAdd_n, jMul_n, z0, z1, Option.bind_some, List.getElem?_cons_zero, List.getElem?_cons_succ, List.set_cons_zero, List.set_cons_succ, eq_self, if_true, ite_and, ite_or, ite_I, ite_bI, ite_bJ, bI_ne, bI_01, List.cons_append, List.nil_append, Bool.false_eq_true, if_false]; rfl) ?_))
  refine wWh (I := fun i L H => L = [some (.ref 1), some (.int (nI i))] ∧ H = hs n σ ∧ i ≤ r) (e := k) ?_ ?_ ?_ 600 0 _ _ (by omega) (by omega) ⟨rfl, rfl, by omega⟩
  · rintro i _ _ ⟨rfl, rfl, -⟩ hi
    simp only [e_fI, e_fLd, e_fLr, e_fB, e_fD, e_fC, e_fT, e_fAnd, e_fOr, e_fNot, e_fCC, e_fIf, e_gI, e_gR, e_aI, e_aR, e_aN, e_cV, e_cS, e_fNil, e_fAi, e_fAr, e_sSeq, e_sSkip, e_sSt, e_sSr, e_sInc, e_sRI, e_sRR, e_sRV, e_sIf, e_sCall, e_sPI, e_sPZ, e_sPR, e_sPO, e_sAI, e_sAZ, e_sAO, e_sAR, e_sPopI, e_sPopR, e_sCopy, e_mI, e_mZ, e_mR, e_mV, jAdd_n, jMul_n, z0, z1, Option.bind_some, List.getElem?_cons_zero, List.getElem?_cons_succ, List.set_cons_zero, List.set_cons_succ, eq_self, if_true, ite_and, ite_or, ite_I, ite_bI, ite_bJ, bI_ne, bI_01, List.cons_append, List.nil_append, Bool.false_eq_true, if_false, gT1_2 h, ek, jLt, nI_ltI (show i < 2 ^ 31 by omega) (show k < 2 ^ 31 by omega)]
  · rintro i _ _ ⟨rfl, rfl, hir⟩ hi
    refine wSeq (wIf (by simp only [e_fI, e_fLd, e_fLr, e_fB, e_fD, e_fC, e_fT, e_fAnd, e_fOr, e_fNot, e_fCC, e_fIf, e_gI, e_gR, e_aI, e_aR, e_aN, e_cV, e_cS, e_fNil, e_fAi, e_fAr, e_sSeq, e_sSkip, e_sSt, e_sSr, e_sInc, e_sRI, e_sRR, e_sRV, e_sIf, e_sCall, e_sPI, e_sPZ, e_sPR, e_sPO, e_sAI, e_sAZ, e_sAO, e_sAR, e_sPopI, e_sPopR, e_sCopy, e_mI, e_mZ, e_mR, e_mV, jAdd_n, jMul_n, z0, z1, Option.bind_some, List.getElem?_cons_zero, List.getElem?_cons_succ, List.set_cons_zero, List.set_cons_succ, eq_self, if_true, ite_and, ite_or, ite_I, ite_bI, ite_bJ, bI_ne, bI_01, List.cons_append, List.nil_append, Bool.false_eq_true, if_false, gT1_1 h, iT3 h (show i < 6 by omega)]; rfl) (fun hb => ?_) (fun hb => ?_))
    · have : i = r := by
        rcases Nat.lt_or_ge i r with c | c
        · rw [hr.2.1 i c] at hb; cases hb
        · omega
      rw [this]
      exact wS_r rfl ⟨rfl, rfl⟩
    · refine wS_l rfl ?_
      refine wS_l (by simp only [e_fI, e_fLd, e_fLr, e_fB, e_fD, e_fC, e_fT, e_fAnd, e_fOr, e_fNot, e_fCC, e_fIf, e_gI, e_gR, e_aI, e_aR, e_aN, e_cV, e_cS, e_fNil, e_fAi, e_fAr, e_sSeq, e_sSkip, e_sSt, e_sSr, e_sInc, e_sRI, e_sRR, e_sRV, e_sIf, e_sCall, e_sPI, e_sPZ, e_sPR, e_sPO, e_sAI, e_sAZ, e_sAO, e_sAR, e_sPopI, e_sPopR, e_sCopy, e_mI, e_mZ, e_mR, e_mV, jAdd_n, jMul_n, z0, z1, Option.bind_some, List.getElem?_cons_zero, List.getElem?_cons_succ, List.set_cons_zero, List.set_cons_succ, eq_self, if_true, ite_and, ite_or, ite_I, ite_bI, ite_bJ, bI_ne, bI_01, List.cons_append, List.nil_append, Bool.false_eq_true, if_false, nI_add]; rfl) ?_
      refine ⟨rfl, rfl, ?_⟩
      rcases Nat.lt_or_ge i r with c | c
      · omega
      · have : i = r := by omega
        subst this
        rw [hr.2.2 hi] at hb
        cases hb
  · rintro _ _ ⟨rfl, rfl, hkr⟩
    have : r = k := by have := hr.1; omega
    refine wS_r (by simp only [e_fI, e_fLd, e_fLr, e_fB, e_fD, e_fC, e_fT, e_fAnd, e_fOr, e_fNot, e_fCC, e_fIf, e_gI, e_gR, e_aI, e_aR, e_aN, e_cV, e_cS, e_fNil, e_fAi, e_fAr, e_sSeq, e_sSkip, e_sSt, e_sSr, e_sInc, e_sRI, e_sRR, e_sRV, e_sIf, e_sCall, e_sPI, e_sPZ, e_sPR, e_sPO, e_sAI, e_sAZ, e_sAO, e_sAR, e_sPopI, e_sPopR, e_sCopy, e_mI, e_mZ, e_mR, e_mV, jAdd_n, jMul_n, z0, z1, Option.bind_some, List.getElem?_cons_zero, List.getElem?_cons_succ, List.set_cons_zero, List.set_cons_succ, eq_self, if_true, ite_and, ite_or, ite_I, ite_bI, ite_bJ, bI_ne, bI_01, List.cons_append, List.nil_append, Bool.false_eq_true, if_false, gT1_2 h, ek]; rfl) ?_
    rw [this]
    exact ⟨rfl, rfl⟩
/-- lost before the line's end, and how many stations it passes -/
def lst (p : Int32) (r k : Nat) : Bool := jGe p 0 && (jLt p (nI r) || (jEq p (nI r) && jEq (nI r) (nI k)))
def dng (p : Int32) (r k : Nat) : Nat := if lst p r k = true then p.toNatClampNeg else r
theorem dng_e {p : Int32} {r k : Nat} (hr : r ≤ k) (hk : k ≤ 6) (hp : p = -1 ∨ ∃ q, q < 7 ∧ p = nI q) : (if lst p r k = true then p else nI r) = nI (dng p r k) ∧ dng p r k ≤ k := by
  unfold dng
  by_cases c : lst p r k = true
  · rw [if_pos c, if_pos c]
    rcases hp with rfl | ⟨q, hq, rfl⟩
    · unfold lst at c
      rw [show jGe (-1) 0 = false by decide] at c
      cases c
    · rw [nC_n (by omega)]
      refine ⟨rfl, ?_⟩
      unfold lst at c
      have c2 := (Bool.and_eq_true_iff.mp c).2
      rcases Bool.or_eq_true_iff.mp c2 with d | d
      · have := of_decide_eq_true d
        rw [nI_ltI (by omega) (by omega)] at this
        omega
      · have := of_decide_eq_true (Bool.and_eq_true_iff.mp d).1
        rw [nI_eq (by omega) (by omega)] at this
        omega
  · rw [if_neg c, if_neg c]
    exact ⟨rfl, hr⟩
end CARRY
