/-! a map at a station -/
theorem and1 (x : Int32) : jAnd x (nI 1) = nI 0 ∨ jAnd x (nI 1) = nI 1 := by
  have hn : ∀ m, m < 2 ^ 31 → (nI m).toBitVec.toNat = m := fun m hm => by
    have : (nI m).toBitVec.toNat = m % 2 ^ 32 := by simp [nI, Int32.toBitVec_ofNat', BitVec.toNat_ofNat]
    rw [this]
    omega
  have h : (jAnd x (nI 1)).toBitVec.toNat = x.toBitVec.toNat % 2 := by
    unfold jAnd
    rw [Int32.toBitVec_and, BitVec.toNat_and, hn 1 (by decide)]
    exact Nat.and_two_pow_sub_one_eq_mod _ 1
  have inj : ∀ m, m < 2 → (jAnd x (nI 1)).toBitVec.toNat = m → jAnd x (nI 1) = nI m := fun m hm e => by
    apply Int32.toBitVec_inj.mp
    apply BitVec.eq_of_toNat_eq
    rw [e, hn m (by omega)]
  rcases Nat.mod_two_eq_zero_or_one x.toBitVec.toNat with e | e
  · exact Or.inl (inj 0 (by omega) (h.trans e))
  · exact Or.inr (inj 1 (by omega) (h.trans e))
theorem bget_01 (R : Nat → Int32) (t : Nat) : bget R t = nI 0 ∨ bget R t = nI 1 := and1 _
theorem byt_sh {v : Int32} {r : Nat} (hr : r < 8) (h : v = nI 0 ∨ v = nI 1) : byt (jShl v (nI r)) := by
  have h0 : ∀ r, r < 8 → (jShl (nI 0) (nI r)).toBitVec.toNat < 256 := by decide
  have h1 : ∀ r, r < 8 → (jShl (nI 1) (nI r)).toBitVec.toNat < 256 := by decide
  rw [byt_iff]
  rcases h with rfl | rfl
  · exact h0 r hr
  · exact h1 r hr
theorem byt_pir {R : Nat → Int32} {p q : Nat} : ∀ k j, byt (pir R p q k j)
  | 0, _ => byt_n (by omega)
  | k + 1, j => by
    show byt (rput _ _ _ j)
    unfold rput
    split
    · exact byt_or (byt_pir k j) (byt_sh (by omega) (bget_01 _ _))
    · exact byt_pir k j
theorem byt_pid {R X : Nat → Int32} {p q : Nat} (hX : ∀ j, j < 8 → byt (X j)) : ∀ k j, j < 8 → byt (pid R X p q k j)
  | 0, j, hj => hX j hj
  | k + 1, j, hj => by
    show byt (bput _ _ _ j)
    unfold bput
    split
    · exact byt_or (byt_and _ (byt_pid hX k j hj)) (byt_sh (by omega) (bget_01 _ _))
    · exact byt_pid hX k j hj
theorem pid_cg {R R' X : Nat → Int32} {p q : Nat} : ∀ k, (∀ i, i < k → R ((p + i) / 8) = R' ((p + i) / 8)) → pid R X p q k = pid R' X p q k
  | 0, _ => rfl
  | k + 1, h => by
    show bput _ _ _ = bput _ _ _
    rw [pid_cg k (fun i hi => h i (by omega)), bget_cg (h k (by omega))]
theorem okA.rd {A : sg} {f l : Nat} (h : okA A) : okA (rdA A f l) := by
  refine ⟨fun j hj => ?_, fun c hc i hi => ⟨?_, ?_⟩⟩
  · unfold rdA
    rw [if_neg (by omega)]
    split
    · exact byt_n (by omega)
    · exact h.1 j hj
  · unfold rdA
    split
    · rw [show 6 + c + 5 = 11 + c by omega]
      exact (h.2 c hc i hi).2
    · rw [if_neg (by omega)]
      exact (h.2 c hc i hi).1
  · unfold rdA
    rw [if_neg (by omega), if_neg (by omega)]
    exact (h.2 c hc i hi).2
abbrev mpT : Type := sg × (Nat → Int32) × Bool × Bool
def rdsA (A : sg) (w : Int32) (m : Nat) : Bool := jNe (jAnd (A 4 (8 + m * 6 + 5)) (nI 1)) 0 && jNe w (nI 11)
def wtsA (A : sg) (w : Int32) (m : Nat) : Bool := jNe (jAnd (A 4 (8 + m * 6 + 5)) (nI 2)) 0 && jNe w (nI 10)
def mfB (F : Nat → Int32) (m a : Nat) : Nat := mbB F m a / 8
def mlB (F : Nat → Int32) (m a k : Nat) : Nat := (mbB F m a + ctB F m a k - 1) / 8
/-- the reading of map m -/
def mpR (w : Int32) (a k m : Nat) (T : mpT) : mpT := if (rdsA T.1 w m && alwR (T.1 4) (T.1 15) (mfB (T.1 4) m a) (mlB (T.1 4) m a k) false) = true then (rdA T.1 (mfB (T.1 4) m a) (mlB (T.1 4) m a k), pid (fun j => rvA T.1 (mfB (T.1 4) m a) (mfB (T.1 4) m a + j)) T.2.1 (mbB (T.1 4) m a % 8) (dbB (T.1 4) m a) (ctB (T.1 4) m a k), true, T.2.2.2) else T
/-- the writing of map m: where it is, F says -/
def mpW (C F : Nat → Int32) (w : Bool) (a k m : Nat) (T : mpT) : mpT := if (w && alwR (T.1 4) (T.1 15) (mfB F m a) (mlB F m a k) true) = true then (cW T.1 (mfB F m a) (pir C (dbB F m a) (mbB F m a % 8) (ctB F m a k)) (pim (mbB F m a % 8) (ctB F m a k)) (mlB F m a k + 1 - mfB F m a), T.2.1, T.2.2.1, true) else T
def mpA (C : Nat → Int32) (w : Int32) (a k m : Nat) (T : mpT) : mpT := if fnB (T.1 4) m a k = true then mpW C (T.1 4) (wtsA T.1 w m) a k m (mpR w a k m T) else T
def mpL (C : Nat → Int32) (w : Int32) (a k : Nat) (T : mpT) : Nat → mpT
  | 0 => T
  | m + 1 => mpA C w a k m (mpL C w a k T m)
theorem mrow {F : Nat → Int32} {m a k : Nat} (hk : k ≤ 8) (h : fnB F m a k = true) : mfB F m a ≤ mlB F m a k ∧ mlB F m a k < 128 ∧ mlB F m a k < mfB F m a + 9 := by
  obtain ⟨h1, h2, h3, h4, h5⟩ := fnB_b hk h
  unfold mfB mlB
  omega
theorem mp_ok {C : Nat → Int32} {w : Int32} {a k m : Nat} {T : mpT} (hk : k ≤ 8) (h : okA T.1) (hX : ∀ j, j < 8 → byt (T.2.1 j)) : okA (mpA C w a k m T).1 ∧ ∀ j, j < 8 → byt ((mpA C w a k m T).2.1 j) := by
  unfold mpA
  split
  · rename_i hf
    have hr := mrow hk hf
    have h1 : okA (mpR w a k m T).1 ∧ ∀ j, j < 8 → byt ((mpR w a k m T).2.1 j) := by
      unfold mpR
      split
      · exact ⟨h.rd, fun j hj => byt_pid hX _ j hj⟩
      · exact ⟨h, hX⟩
    unfold mpW
    split
    · exact ⟨h1.1.cw _ (by omega) (fun j _ => byt_pir _ j), h1.2⟩
    · exact h1
  · exact ⟨h, hX⟩
theorem mpL_ok {C : Nat → Int32} {w : Int32} {a k : Nat} {T : mpT} (hk : k ≤ 8) (h : okA T.1) (hX : ∀ j, j < 8 → byt (T.2.1 j)) : ∀ m, okA (mpL C w a k T m).1 ∧ ∀ j, j < 8 → byt ((mpL C w a k T m).2.1 j)
  | 0 => ⟨h, hX⟩
  | m + 1 => mp_ok hk (mpL_ok hk h hX m).1 (mpL_ok hk h hX m).2
