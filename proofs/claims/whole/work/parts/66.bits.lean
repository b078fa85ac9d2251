/-! bits put into a row one by one, and by a mask: the same -/
theorem and2 (x : Int32) : jAnd x (nI 2) = nI 0 ∨ jAnd x (nI 2) = nI 2 := by
  have t2 : ∀ i, i < 32 → (2#32).getLsbD i = decide (i = 1) := by decide
  unfold jAnd
  cases q : x.toBitVec.getLsbD 1 with
  | false =>
    refine Or.inl (Int32.toBitVec_inj.mp ?_)
    rw [Int32.toBitVec_and, show (nI 2).toBitVec = 2#32 by decide, show (nI 0).toBitVec = 0#32 by decide]
    apply BitVec.eq_of_getLsbD_eq
    intro i hi
    rw [BitVec.getLsbD_and, t2 i hi, BitVec.getLsbD_zero]
    by_cases e : i = 1
    · rw [e, q, Bool.false_and]
    · rw [decide_eq_false e, Bool.and_false]
  | true =>
    refine Or.inr (Int32.toBitVec_inj.mp ?_)
    rw [Int32.toBitVec_and, show (nI 2).toBitVec = 2#32 by decide]
    apply BitVec.eq_of_getLsbD_eq
    intro i hi
    rw [BitVec.getLsbD_and, t2 i hi]
    by_cases e : i = 1
    · rw [e, q, Bool.true_and]
    · rw [decide_eq_false e, Bool.and_false]
theorem e1and (x : Int32) : jEq (jAnd x (nI 1)) (nI 1) = jNe (jAnd x (nI 1)) 0 := by
  rcases and1 x with e | e <;> rw [e] <;> decide
theorem e2and (x : Int32) : jEq (jAnd x (nI 2)) (nI 2) = jNe (jAnd x (nI 2)) 0 := by
  rcases and2 x with e | e <;> rw [e] <;> decide
theorem mrg_bit {S R M B V : Int32} (hV : V &&& B = V) (hR : R &&& B = 0) : jOr (jAnd (mrg S R M) (jXor B (-1))) V = mrg S (jOr R V) (jOr M B) := by
  unfold mrg jOr jAnd jXor
  apply Int32.toBitVec_inj.mp
  have hV' := congrArg Int32.toBitVec hV
  have hR' := congrArg Int32.toBitVec hR
  rw [Int32.toBitVec_and] at hV' hR'
  have z : (0 : Int32).toBitVec = 0#32 := by decide
  rw [z] at hR'
  have m1 : (-1 : Int32).toBitVec = BitVec.allOnes 32 := by decide
  simp only [Int32.toBitVec_or, Int32.toBitVec_and, Int32.toBitVec_xor, m1]
  generalize S.toBitVec = s at *
  generalize R.toBitVec = r at *
  generalize M.toBitVec = m at *
  generalize B.toBitVec = b at *
  generalize V.toBitVec = v at *
  apply BitVec.eq_of_getLsbD_eq
  intro i hi
  have a1 := congrArg (fun x => x.getLsbD i) hV'
  have a2 := congrArg (fun x => x.getLsbD i) hR'
  simp only [BitVec.getLsbD_and, BitVec.getLsbD_zero] at a1 a2
  simp only [BitVec.getLsbD_or, BitVec.getLsbD_and, BitVec.getLsbD_xor, BitVec.getLsbD_allOnes, hi, decide_true]
  revert a1 a2
  cases s.getLsbD i <;> cases r.getLsbD i <;> cases m.getLsbD i <;> cases b.getLsbD i <;> cases v.getLsbD i <;> decide
theorem sh_in {v : Int32} {r : Nat} (hr : r < 8) (hv : v = nI 0 ∨ v = nI 1) : jShl v (nI r) &&& jShl (nI 1) (nI r) = jShl v (nI r) := by
  rcases hv with rfl | rfl
  · exact (show ∀ r, r < 8 → jShl (nI 0) (nI r) &&& jShl (nI 1) (nI r) = jShl (nI 0) (nI r) by decide) r hr
  · exact (show ∀ r, r < 8 → jShl (nI 1) (nI r) &&& jShl (nI 1) (nI r) = jShl (nI 1) (nI r) by decide) r hr
theorem sh_out {v : Int32} {r q : Nat} (hr : r < 8) (hq : q < 8) (hne : r ≠ q) (hv : v = nI 0 ∨ v = nI 1) : jShl v (nI r) &&& jShl (nI 1) (nI q) = 0 := by
  rcases hv with rfl | rfl
  · exact (show ∀ r, r < 8 → ∀ q, q < 8 → r ≠ q → jShl (nI 0) (nI r) &&& jShl (nI 1) (nI q) = 0 by decide) r hr q hq hne
  · exact (show ∀ r, r < 8 → ∀ q, q < 8 → r ≠ q → jShl (nI 1) (nI r) &&& jShl (nI 1) (nI q) = 0 by decide) r hr q hq hne
theorem or_and_0 {x y b : Int32} (h : x &&& b = 0) (k : y &&& b = 0) : (x ||| y) &&& b = 0 := by
  apply Int32.toBitVec_inj.mp
  have h' := congrArg Int32.toBitVec h
  have k' := congrArg Int32.toBitVec k
  rw [Int32.toBitVec_and] at h' k'
  rw [Int32.toBitVec_and, Int32.toBitVec_or]
  rw [show (0 : Int32).toBitVec = 0#32 by decide] at *
  apply BitVec.eq_of_getLsbD_eq
  intro i hi
  have a1 := congrArg (fun x => x.getLsbD i) h'
  have a2 := congrArg (fun x => x.getLsbD i) k'
  simp only [BitVec.getLsbD_and, BitVec.getLsbD_zero] at a1 a2
  simp only [BitVec.getLsbD_or, BitVec.getLsbD_and, BitVec.getLsbD_zero]
  revert a1 a2
  cases x.toBitVec.getLsbD i <;> cases y.toBitVec.getLsbD i <;> cases b.toBitVec.getLsbD i <;> decide
theorem pir_free {C : Nat → Int32} {p q : Nat} : ∀ k t, q + k ≤ t → pir C p q k (t / 8) &&& jShl (nI 1) (nI (t % 8)) = 0
  | 0, t, _ => by
    show nI 0 &&& _ = 0
    rw [nI_0]
    exact Int32.zero_and
  | k + 1, t, h => by
    have ih := pir_free (C := C) (p := p) (q := q) k t (by omega)
    show rput _ _ _ _ &&& _ = 0
    unfold rput
    split
    · rename_i e
      unfold jOr
      exact or_and_0 ih (sh_out (by omega) (by omega) (by omega) (bget_01 _ _))
    · exact ih
theorem pid_mrg {C S : Nat → Int32} {p q : Nat} : ∀ k j, pid C S p q k j = mrg (S j) (pir C p q k j) (pim q k j)
  | 0, j => by
    show S j = mrg (S j) (nI 0) (nI 0)
    unfold mrg jOr jAnd jXor
    rw [nI_0, Int32.zero_and, Int32.or_zero, Int32.zero_xor]
    exact (Int32.and_neg_one).symm
  | k + 1, j => by
    have ih := pid_mrg (C := C) (S := S) (p := p) (q := q) k j
    show bput _ _ _ j = mrg (S j) (rput _ _ _ j) (rput _ _ _ j)
    unfold bput rput
    by_cases e : j = (q + k) / 8
    · rw [if_pos e, if_pos e, if_pos e, ih]
      refine mrg_bit (sh_in (by omega) (bget_01 _ _)) ?_
      have := pir_free (C := C) (p := p) (q := q) k (q + k) (Nat.le_refl _)
      rw [← e] at this
      exact this
    · rw [if_neg e, if_neg e, if_neg e, ih]
