theorem pure_step {LN : Nat} {LX : Nat → Int32} {H1 H2 : hp_H} (hL : LN ≤ 2560) (a1 : fNew 7 df_L fNil G_L_init [] [] = some (0, H1)) (a2 : fNew 8 df_R fNil G_R_init [] H1 = some (26, H2)) (a3 : lwI 0 (lwL 0) H2) : wS (P_W_law LN LX) [none, none, none, none] [] (fun _ _ => False) (fun v _ => v = some (.int 1)) := by
  unfold P_W_law
  have e1 : sSr 1 (fNew 7 df_L (fNil) G_L_init) [none, none, none, none] [] = some (.inl ([none, some (.ref 0), none, none], H1)) := by
    have q : fNew 7 df_L (fNil) G_L_init [none, none, none, none] [] = some (0, H1) := a1
    rw [e_sSr, q]
    rfl
  refine wSeq (wS_l e1 ?_)
  have e2 : sSr 2 (fNew 8 df_R (fNil) G_R_init) [none, some (.ref 0), none, none] H1 = some (.inl ([none, some (.ref 0), some (.ref 26), none], H2)) := by
    have q : fNew 8 df_R (fNil) G_R_init [none, some (.ref 0), none, none] H1 = some (26, H2) := a2
    rw [e_sSr, q]
    rfl
  refine wSeq (wS_l e2 ?_)
  have e3 : sSt 3 (fI (nI 0)) [none, some (.ref 0), some (.ref 26), none] H2 = some (.inl (lwL 0, H2)) := rfl
  refine wSeq (wSeq (wS_l e3 ?_))
  refine lw_loop hL a3 (fun L' H' => ?_)
  exact wS_r rfl rfl
theorem pure_law (LN : Nat) (hL : LN ≤ 2560) (LX : Nat → Int32) : ∃ h', P_W_law LN LX [none, none, none, none] [] = some (.inr (some (.int 1), h')) := by
  have a1 := ini_L
  have a2 := ini_R
  have a3 : lwI 0 (lwL 0) (hs 58 sg0) := ⟨58, 18, sg0, wd0, rfl, rfl, CPc_0, CPr_0, okW_0⟩
  generalize hs 26 sg0 = H1 at a1 a2
  generalize hs 58 sg0 = H2 at a2 a3
  have k := pure_step (LX := LX) hL a1 a2 a3
  unfold wS at k
  generalize P_W_law LN LX [none, none, none, none] [] = z at k ⊢
  match z, k with
  | some (.inr (v, h')), k =>
    have e : v = some (.int 1) := k
    rw [e]
    exact ⟨h', rfl⟩
