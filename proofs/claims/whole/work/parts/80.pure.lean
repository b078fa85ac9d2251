theorem pure_gen {fx fr : jx_fR} {wl : jx_fS} {H0 H1 H2 : hp_H} (a1 : fx [none, none, none, none] H0 = some (0, H1)) (a2 : fr [none, some (.ref 0), none, none] H1 = some (26, H2)) (a3 : ∀ Q : hp_L → hp_H → Prop, (∀ L' H', Q L' H') → wS wl (lwL 0) H2 Q (fun v _ => v = some (.int 1))) : wS (sSeq (sSr 1 fx) (sSeq (sSr 2 fr) (sSeq (sSeq (sSt 3 (fI (nI 0))) wl) (sRI (fI (nI 1)))))) [none, none, none, none] H0 (fun _ _ => False) (fun v _ => v = some (.int 1)) := by
  have e1 : sSr 1 fx [none, none, none, none] H0 = some (.inl ([none, some (.ref 0), none, none], H1)) := by
    rw [e_sSr, a1]
    rfl
  refine wSeq (wS_l e1 ?_)
  have e2 : sSr 2 fr [none, some (.ref 0), none, none] H1 = some (.inl ([none, some (.ref 0), some (.ref 26), none], H2)) := by
    rw [e_sSr, a2]
    rfl
  refine wSeq (wS_l e2 ?_)
  have e3 : sSt 3 (fI (nI 0)) [none, some (.ref 0), some (.ref 26), none] H2 = some (.inl (lwL 0, H2)) := rfl
  refine wSeq (wSeq (wS_l e3 ?_))
  refine a3 _ (fun L' H' => ?_)
  exact wS_r rfl rfl
theorem pure_end {f : jx_fS} {L : hp_L} {h : hp_H} (k : wS f L h (fun _ _ => False) (fun v _ => v = some (.int 1))) : ∃ h', f L h = some (.inr (some (.int 1), h')) := by
  unfold wS at k
  generalize f L h = z at k ⊢
  match z, k with
  | some (.inr (v, h')), k =>
    have e : v = some (.int 1) := k
    rw [e]
    exact ⟨h', rfl⟩
theorem pure_law (LN : Nat) (hL : LN ≤ 2560) (LX : Nat → Int32) : ∃ h', P_W_law LN LX [none, none, none, none] [] = some (.inr (some (.int 1), h')) := by
  have a1 : fNew 7 df_L fNil G_L_init [none, none, none, none] [] = some (0, hs 26 sg0) := fNew_L.trans ini_L
  have a2 : fNew 8 df_R fNil G_R_init [none, some (.ref 0), none, none] (hs 26 sg0) = some (26, hs 58 sg0) := fNew_L.trans ini_R
  have a3 : lwI 0 (lwL 0) (hs 58 sg0) := ⟨58, 18, sg0, wd0, rfl, rfl, CPc_0, CPr_0, okW_0⟩
  generalize hs 26 sg0 = H1 at a1 a2
  generalize hs 58 sg0 = H2 at a2 a3
  unfold P_W_law
  generalize fNew 7 df_L fNil G_L_init = fx at a1 ⊢
  generalize fNew 8 df_R fNil G_R_init = fr at a2 ⊢
  generalize ([] : hp_H) = H0 at a1 ⊢
  exact pure_end (pure_gen a1 a2 (fun Q hQ => lw_loop hL a3 hQ))
