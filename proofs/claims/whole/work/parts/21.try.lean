theorem jAdd_n (a b : Nat) : jAdd (nI a) (nI b) = nI (a + b) := nI_add a b
theorem jMul_n (a b : Nat) : jMul (nI a) (nI b) = nI (a * b) := pk_mul a b
set_option maxHeartbeats 400000 in
theorem q_E_startOf {n s c : Nat} {σ : sg} (hn : 58 + 22 * s + 22 ≤ n) (hc : c < 4) : G_E_startOf [.ref (58 + 22 * s + 3), .int (nI c)] (hs n σ) = some (σ (58 + 22 * s + 4) (32 + c * 4), hs n σ) := by
  have g0 : hp_g (hs n σ) (58 + 22 * s + 3) 5 0 = some (.ref (58 + 22 * s + 4)) := by
    rw [g_hs (by omega) (ks (by decide)) (by rw [ss (by decide)]; decide)]
    unfold vl
    rw [if_neg (by omega), if_neg (by omega), rs (by decide)]
    rfl
  have i0 : hp_i (hs n σ) (58 + 22 * s + 4) 50 (nI (32 + c * 4)) = some (.int (σ (58 + 22 * s + 4) (32 + c * 4))) := by
    rw [i_hs (by omega) (ks (by decide)) (by rw [ss (by decide)]; show _ < 128; omega) (by rw [ss (by decide)]; decide), vl_I (Or.inl ⟨by rw [rs (by decide)]; rfl, by omega, by omega⟩)]
  simp [G_E_startOf, mI, P_E_startOf, sRI, aI, gR, fLr, fLd, fB, fI, jx_L0, jAdd_n, jMul_n, g0, i0]
