/-! station: the program makes the cells -/
section SMC
variable {h : hp_H} {L : hp_L}
theorem get_ap {t : hp_H} (j : Nat) : (h ++ t)[h.length + j]? = t[j]? := by
  rw [List.getElem?_append_right (by omega), Nat.add_sub_cancel_left]
theorem set_ap {t : hp_H} {x : Nat × List Value} (j : Nat) : (h ++ t).set (h.length + j) x = h ++ t.set j x := by
  rw [List.set_append_right _ _ (by omega), Nat.add_sub_cancel_left]
theorem p_hd {ci k : Nat} {fs : List Value} {t : hp_H} {v : Value} (hk : k < fs.length) : hp_p (h ++ (ci, fs) :: t) h.length ci k v = some (h ++ (ci, fs.set k v) :: t) := by
  unfold hp_p
  have e := get_ap (h := h) (t := (ci, fs) :: t) 0
  have s := set_ap (h := h) (t := (ci, fs) :: t) (x := (ci, fs.set k v)) 0
  rw [Nat.add_zero] at e s
  rw [e]
  show (if ci = ci ∧ k < fs.length then some ((h ++ (ci, fs) :: t).set h.length (ci, fs.set k v)) else none) = _
  rw [if_pos ⟨rfl, hk⟩, s]
  rfl
theorem g_ap {ci k j : Nat} {fs : List Value} {t : hp_H} {v : Value} (e : t[j]? = some (ci, fs)) (hk : fs[k]? = some v) : hp_g (h ++ t) (h.length + j) ci k = some v := by
  unfold hp_g
  rw [get_ap, e]
  show (if ci = ci then fs[k]? else none) = _
  rw [if_pos rfl, hk]
theorem w_ap {ty j m : Nat} {fs : List Value} {t : hp_H} {v : Value} (e : t[j]? = some (ty, fs)) (hm : m < fs.length) (hl : fs.length < 2 ^ 31) : hp_w (h ++ t) (h.length + j) ty (nI m) v = some (h ++ t.set j (ty, fs.set m v)) := by
  unfold hp_w
  rw [get_ap, e]
  show (if ty = ty ∧ ¬ (nI m < 0 ∨ fs.length ≤ (nI m).toNatClampNeg) then some ((h ++ t).set (h.length + j) (ty, fs.set (nI m).toNatClampNeg v)) else none) = _
  rw [if_pos ⟨rfl, nI_ix hm hl⟩, set_ap, nI_clamp (by omega)]
theorem sPR_g {fv : jx_fR} {H : hp_H} {ci k r : Nat} {fs : List Value} {t : hp_H} (hL : L[0]? = some (some (.ref h.length))) (e : fv L H = some (r, h ++ (ci, fs) :: t)) (hk : k < fs.length) : sPR ci k (fLr 0) fv L H = some (.inl (L, h ++ (ci, fs.set k (.ref r)) :: t)) := by
  have e0 : fLr 0 L H = some (h.length, H) := by rw [e_fLr, hL]
  rw [e_sPR, e0, Option.bind_some]
  dsimp only
  rw [e, Option.bind_some]
  dsimp only
  rw [p_hd hk]
  rfl
theorem sPI_g {v : Int32} {j ci k : Nat} {fs : List Value} {t : hp_H} (hL : L[0]? = some (some (.ref h.length))) (hj : L[j]? = some (some (.int v))) (hk : k < fs.length) : sPI ci k (fLr 0) (fLd j) L (h ++ (ci, fs) :: t) = some (.inl (L, h ++ (ci, fs.set k (.int v)) :: t)) := by
  have e0 : fLr 0 L (h ++ (ci, fs) :: t) = some (h.length, h ++ (ci, fs) :: t) := by rw [e_fLr, hL]
  have e1 : fLd j L (h ++ (ci, fs) :: t) = some (v, h ++ (ci, fs) :: t) := by rw [e_fLd, hj]
  rw [e_sPI, e0, Option.bind_some]
  dsimp only
  rw [e1, Option.bind_some]
  dsimp only
  rw [p_hd hk]
  rfl
theorem fNA_g {ty N : Nat} {v0 : Value} {c : Nat × List Value} {t : hp_H} : fNA ty N v0 L (h ++ c :: t) = some (h.length + (t.length + 1), h ++ c :: (t ++ [(ty, List.replicate N v0)])) := by
  unfold fNA
  rw [List.length_append, List.length_cons, List.append_assoc]
  rfl
theorem fNM_g {N K : Nat} {c : Nat × List Value} {t : hp_H} : fNM N K L (h ++ c :: t) = some (h.length + (t.length + 1), h ++ c :: (t ++ ((54, (List.range N).map (fun i => Value.ref (h.length + (t.length + 1) + 1 + i))) :: List.replicate N (50, List.replicate K (Value.int 0))))) := by
  unfold fNM
  rw [List.length_append, List.length_cons, List.append_assoc]
  rfl
def rp (N : Nat) : List Value := List.replicate N (Value.int 0)
theorem rp_len {N : Nat} : (rp N).length = N := List.length_replicate
def eBk (M : Nat) : hp_H := [(5, [.ref (M + 1), .ref (M + 2), .ref (M + 7), .ref (M + 12), .ref (M + 13), .ref (M + 14), .ref (M + 15), .int 0, .int 0, .int 0]), (50, rp 128), (54, [.ref (M + 3), .ref (M + 4), .ref (M + 5), .ref (M + 6)]), (50, rp 8), (50, rp 8), (50, rp 8), (50, rp 8), (54, [.ref (M + 8), .ref (M + 9), .ref (M + 10), .ref (M + 11)]), (50, rp 8), (50, rp 8), (50, rp 8), (50, rp 8), (51, rp 4), (50, rp 9), (50, rp 9), (50, rp 9)]
theorem wObj {c : Nat × List Value} {t : hp_H} {g : jx_fS} {Q : hp_L → hp_H → Prop} {R : Option Value → hp_H → Prop} (hL : L[0]? = some (some (.ref h.length))) (k : wS g L (h ++ c :: t) Q R) : wS (sSeq sObj g) L (h ++ c :: t) Q R := by
  refine wSeq (wS_l (L1 := L) (h1 := h ++ c :: t) ?_ k)
  unfold sObj
  rw [hL]
theorem q_E_init : G_E_init [.ref h.length] (h ++ [(5, df_E)]) = some (h ++ eBk h.length) := by
  refine mV_q (Nat.le_of_ble_eq_true rfl) ?_
  simp only [jx_L0, List.map_cons, List.map_nil, List.length_cons, List.length_nil, Nat.reduceAdd, Nat.reduceSub, List.replicate, List.cons_append, List.nil_append]
  unfold P_E_init
  refine wObj rfl ?_
  refine wSeq (wS_l (sPR_g rfl fNA_g (Nat.le_of_ble_eq_true rfl)) ?_)
  refine wSeq (wS_l (sPR_g rfl fNM_g (Nat.le_of_ble_eq_true rfl)) ?_)
  refine wSeq (wS_l (sPR_g rfl fNM_g (Nat.le_of_ble_eq_true rfl)) ?_)
  refine wSeq (wS_l (sPR_g rfl fNA_g (Nat.le_of_ble_eq_true rfl)) ?_)
  refine wSeq (wS_l (sPR_g rfl fNA_g (Nat.le_of_ble_eq_true rfl)) ?_)
  refine wSeq (wS_l (sPR_g rfl fNA_g (Nat.le_of_ble_eq_true rfl)) ?_)
  refine wSeq (wS_l (sPR_g rfl fNA_g (Nat.le_of_ble_eq_true rfl)) ?_)
  exact wS_r rfl ⟨rfl, rfl⟩
theorem q_B_init : G_B_init [.ref h.length] (h ++ [(4, df_B)]) = some (h ++ [(4, df_B)]) := by
  refine mV_q (Nat.le_of_ble_eq_true rfl) ?_
  simp only [jx_L0, List.map_cons, List.map_nil, List.length_cons, List.length_nil, Nat.reduceAdd, Nat.reduceSub, List.replicate, List.cons_append, List.nil_append]
  unfold P_B_init
  refine wObj rfl ?_
  exact wS_r rfl ⟨rfl, rfl⟩
theorem fNew_g {ci : Nat} {fs0 : List Value} {G : List Value → hp_H → Option hp_H} {c : Nat × List Value} {t blk : hp_H} (e : G [.ref (h ++ c :: t).length] ((h ++ c :: t) ++ [(ci, fs0)]) = some ((h ++ c :: t) ++ blk)) : fNew ci fs0 fNil G L (h ++ c :: t) = some (h.length + (t.length + 1), h ++ c :: (t ++ blk)) := by
  unfold fNew
  rw [e_fNil, Option.bind_some]
  dsimp only
  rw [e, Option.bind_some, List.length_append, List.length_cons, List.append_assoc]
  rfl
theorem fNew_E {c : Nat × List Value} {t : hp_H} : fNew 5 df_E fNil G_E_init L (h ++ c :: t) = some (h.length + (t.length + 1), h ++ c :: (t ++ eBk (h.length + (t.length + 1)))) := by
  have := fNew_g (L := L) (h := h) (c := c) (t := t) (q_E_init (h := h ++ c :: t))
  rw [List.length_append, List.length_cons] at this
  exact this
def sBk (N : Nat) (o i : Int32) : hp_H := (6, [.int o, .int i, .ref (N + 1), .ref (N + 2), .ref (N + 3), .ref (N + 19), .ref (N + 20), .ref (N + 21)]) :: (50, rp 2) :: (50, rp 2) :: ((eBk (N + 3)).set 1 (50, (rp 128).set 2 (.int (nI 1))) ++ [(4, df_B), (50, rp 8), (50, (rp 4).set 0 (.int (jAdd (jAdd (nI 1000) (jMul (nI 16) o)) i)))])
theorem q_S_init {o i : Int32} : G_S_init [.ref h.length, .int o, .int i] (h ++ [(6, df_S)]) = some (h ++ sBk h.length o i) := by
  refine mV_q (Nat.le_of_ble_eq_true rfl) ?_
  simp only [jx_L0, List.map_cons, List.map_nil, List.length_cons, List.length_nil, Nat.reduceAdd, Nat.reduceSub, List.replicate, List.cons_append, List.nil_append]
  unfold P_S_init
  refine wObj rfl ?_
  refine wSeq (wS_l (sPR_g rfl fNA_g (Nat.le_of_ble_eq_true rfl)) ?_)
  refine wSeq (wS_l (sPR_g rfl fNA_g (Nat.le_of_ble_eq_true rfl)) ?_)
  refine wSeq (wS_l (sPR_g rfl fNew_E (Nat.le_of_ble_eq_true rfl)) ?_)
  refine wSeq (wS_l (sPR_g rfl (fNew_g q_B_init) (Nat.le_of_ble_eq_true rfl)) ?_)
  refine wSeq (wS_l (sPR_g rfl fNA_g (Nat.le_of_ble_eq_true rfl)) ?_)
  refine wSeq (wS_l (sPR_g rfl fNA_g (Nat.le_of_ble_eq_true rfl)) ?_)
  refine wSeq (wS_l (sPI_g rfl rfl (Nat.le_of_ble_eq_true rfl)) ?_)
  refine wSeq (wS_l (sPI_g rfl rfl (Nat.le_of_ble_eq_true rfl)) ?_)
  let T : hp_H := (6, [.int o, .int i, .ref (h.length + 1), .ref (h.length + 2), .ref (h.length + 3), .ref (h.length + 19), .ref (h.length + 20), .ref (h.length + 21)]) :: (50, rp 2) :: (50, rp 2) :: (eBk (h.length + 3) ++ [(4, df_B), (50, rp 8), (50, rp 4)])
  change wS _ [some (.ref h.length), some (.int o), some (.int i)] (h ++ T) _ _
  have a1 : hp_g (h ++ T) h.length 6 4 = some (.ref (h.length + 3)) := g_ap (j := 0) rfl rfl
  have a2 : hp_g (h ++ T) (h.length + 3) 5 0 = some (.ref (h.length + 4)) := g_ap (j := 3) rfl rfl
  have a3 : hp_w (h ++ T) (h.length + 4) 50 (nI 2) (.int (nI 1)) = some (h ++ T.set 4 (50, (rp 128).set 2 (.int (nI 1)))) := w_ap (j := 4) (fs := rp 128) rfl (by rw [rp_len]; omega) (by rw [rp_len]; omega)
  generalize hT : T = T0 at a1 a2 a3 ⊢
  refine wSeq (wS_l (by simp only [e_fI, e_fLd, e_fLr, e_fB, e_fD, e_fC, e_fT, e_fAnd, e_fOr, e_fNot, e_fCC, e_fIf, e_gI, e_gR, e_aI, e_aR, e_aN, e_cV, e_cS, e_fNil, e_fAi, e_fAr, e_sSeq, e_sSkip, e_sSt, e_sSr, e_sInc, e_sRI, e_sRR, e_sRV, e_sIf, e_sCall, e_sPI, e_sPZ, e_sPR, e_sPO, e_sAI, e_sAZ, e_sAO, e_sAR, e_sPopI, e_sPopR, e_sCopy, e_mI, e_mZ, e_mR, e_mV, jAdd_n, jMul_n, z0, z1, Option.bind_some, List.getElem?_cons_zero, List.getElem?_cons_succ, List.set_cons_zero, List.set_cons_succ, eq_self, if_true, ite_and, ite_or, ite_I, ite_bI, ite_bJ, bI_ne, bI_01, List.cons_append, List.nil_append, Bool.false_eq_true, if_false, a1, a2, a3]; rfl) ?_)
  have a4 : hp_g (h ++ T0.set 4 (50, (rp 128).set 2 (.int (nI 1)))) h.length 6 7 = some (.ref (h.length + 21)) := by
    subst hT
    exact g_ap (j := 0) rfl rfl
  have a5 : ∀ v, hp_w (h ++ T0.set 4 (50, (rp 128).set 2 (.int (nI 1)))) (h.length + 21) 50 (nI 0) v = some (h ++ (T0.set 4 (50, (rp 128).set 2 (.int (nI 1)))).set 21 (50, (rp 4).set 0 v)) := by
    subst hT
    exact fun v => w_ap (j := 21) (fs := rp 4) rfl (by rw [rp_len]; omega) (by rw [rp_len]; omega)
  refine wSeq (wS_l (by simp only [e_fI, e_fLd, e_fLr, e_fB, e_fD, e_fC, e_fT, e_fAnd, e_fOr, e_fNot, e_fCC, e_fIf, e_gI, e_gR, e_aI, e_aR, e_aN, e_cV, e_cS, e_fNil, e_fAi, e_fAr, e_sSeq, e_sSkip, e_sSt, e_sSr, e_sInc, e_sRI, e_sRR, e_sRV, e_sIf, e_sCall, e_sPI, e_sPZ, e_sPR, e_sPO, e_sAI, e_sAZ, e_sAO, e_sAR, e_sPopI, e_sPopR, e_sCopy, e_mI, e_mZ, e_mR, e_mV, jAdd_n, jMul_n, z0, z1, Option.bind_some, List.getElem?_cons_zero, List.getElem?_cons_succ, List.set_cons_zero, List.set_cons_succ, eq_self, if_true, ite_and, ite_or, ite_I, ite_bI, ite_bJ, bI_ne, bI_01, List.cons_append, List.nil_append, Bool.false_eq_true, if_false, a4, a5]; rfl) ?_)
  subst hT
  exact wS_r rfl ⟨rfl, rfl⟩
end SMC
/-! the state with one station more -/
def nsg (σ : sg) (k : Nat) (o i : Int32) : sg := fun a m => if a < 58 + 22 * k then (if a = 1 ∧ m = 2 then nI (k + 1) else σ a m) else nwA o i (a - (58 + 22 * k)) m
section SMD
variable {n X k : Nat} {σ : sg} {w : wd} {o i : Int32}
theorem ns_b {j m : Nat} (hj : j < 22) : nsg σ k o i (sa k j) m = nwA o i j m := by
  unfold nsg sa
  rw [if_neg (by omega), show 58 + 22 * k + j - (58 + 22 * k) = j by omega]
theorem ns_o {a m : Nat} (ha : a < 58 + 22 * k) (h : ¬ (a = 1 ∧ m = 2)) : nsg σ k o i a m = σ a m := by
  unfold nsg
  rw [if_pos ha, if_neg h]
theorem sl_z {j N : Nat} (hj : j < 22) (hr : rt_S.getD j [] = []) (hz : sz_S.getD j 0 = N) (h0 : j ≠ 0) (h4 : j ≠ 4) (h21 : j ≠ 21) : sl (nsg σ k o i) (sa k j) = rp N := by
  unfold sl rp
  rw [show sz (sa k j) = N from (ss hj).trans hz]
  apply List.ext_getElem?
  intro m
  by_cases hm : m < N
  · rw [List.getElem?_map, List.getElem?_range hm, List.getElem?_replicate, if_pos hm]
    show some (vl (nsg σ k o i) (sa k j) m) = _
    rw [vl_I (cS_I hj (rS_n hr)).1, ns_b hj]
    unfold nwA
    rw [if_neg (by omega), if_neg (by omega), if_neg (by omega), if_neg (by omega), nI_0]
  · rw [List.getElem?_eq_none (by rw [List.length_map, List.length_range]; omega), List.getElem?_eq_none (by rw [List.length_replicate]; omega)]
theorem sl_s {j N p : Nat} {v : Int32} (hj : j < 22) (hr : rt_S.getD j [] = []) (hz : sz_S.getD j 0 = N) (h0 : ∀ m, m < N → nwA o i j m = if m = p then v else nI 0) : sl (nsg σ k o i) (sa k j) = (rp N).set p (.int v) := by
  unfold sl
  rw [show sz (sa k j) = N from (ss hj).trans hz]
  apply List.ext_getElem?
  intro m
  by_cases hm : m < N
  · rw [List.getElem?_map, List.getElem?_range hm, List.getElem?_set, rp_len]
    show some (vl (nsg σ k o i) (sa k j) m) = _
    rw [vl_I (cS_I hj (rS_n hr)).1, ns_b hj, h0 m hm]
    by_cases q : p = m
    · rw [if_pos q.symm, if_pos q, if_pos (by omega)]
    · rw [if_neg (fun e => q e.symm), if_neg q]
      unfold rp
      rw [List.getElem?_replicate, if_pos hm, nI_0]
  · rw [List.getElem?_eq_none (by rw [List.length_map, List.length_range]; omega), List.getElem?_eq_none (by rw [List.length_set, rp_len]; omega)]
theorem vS_r {σ : sg} {j m r : Nat} (hj : j < 22) (hr : (rt_S.getD j []).getD m none = some r) : vl σ (sa k j) m = .ref (sa k r) := by
  have e : rt (sa k j) m = some (sa k r) := by
    unfold sa
    rw [rs hj, hr]
    rfl
  unfold vl
  rw [if_neg (by unfold sa; omega), if_neg (by unfold sa; omega), e]
theorem vS_i {j m : Nat} (hj : j < 22) (hr : (rt_S.getD j []).getD m none = none) : vl (nsg σ k o i) (sa k j) m = .int (nwA o i j m) := by
  rw [vl_I (cS_I hj hr).1, ns_b hj]
theorem sBk_g : ∀ j, j < 22 → (sBk (58 + 22 * k) o i)[j]? = some (kd (sa k j), sl (nsg σ k o i) (sa k j)) := by
  have kk : ∀ j, j < 22 → kd (sa k j) = kd_S.getD j 99 := fun j hj => ks hj
  have s0 : sl (nsg σ k o i) (sa k 0) = [.int o, .int i, .ref (58 + 22 * k + 1), .ref (58 + 22 * k + 2), .ref (58 + 22 * k + 3), .ref (58 + 22 * k + 19), .ref (58 + 22 * k + 20), .ref (58 + 22 * k + 21)] := by
    unfold sl
    rw [show sz (sa k 0) = 8 from ss (by omega)]
    show [vl _ _ 0, vl _ _ 1, vl _ _ 2, vl _ _ 3, vl _ _ 4, vl _ _ 5, vl _ _ 6, vl _ _ 7] = _
    rw [vS_i (by omega) rfl, vS_i (by omega) rfl, vS_r (r := 1) (by omega) rfl, vS_r (r := 2) (by omega) rfl, vS_r (r := 3) (by omega) rfl, vS_r (r := 19) (by omega) rfl, vS_r (r := 20) (by omega) rfl, vS_r (r := 21) (by omega) rfl]
    rfl
  have s3 : sl (nsg σ k o i) (sa k 3) = [.ref (58 + 22 * k + 3 + 1), .ref (58 + 22 * k + 3 + 2), .ref (58 + 22 * k + 3 + 7), .ref (58 + 22 * k + 3 + 12), .ref (58 + 22 * k + 3 + 13), .ref (58 + 22 * k + 3 + 14), .ref (58 + 22 * k + 3 + 15), .int 0, .int 0, .int 0] := by
    unfold sl
    rw [show sz (sa k 3) = 10 from ss (by omega)]
    show [vl _ _ 0, vl _ _ 1, vl _ _ 2, vl _ _ 3, vl _ _ 4, vl _ _ 5, vl _ _ 6, vl _ _ 7, vl _ _ 8, vl _ _ 9] = _
    rw [vS_r (r := 4) (by omega) rfl, vS_r (r := 5) (by omega) rfl, vS_r (r := 10) (by omega) rfl, vS_r (r := 15) (by omega) rfl, vS_r (r := 16) (by omega) rfl, vS_r (r := 17) (by omega) rfl, vS_r (r := 18) (by omega) rfl, vS_i (by omega) rfl, vS_i (by omega) rfl, vS_i (by omega) rfl]
    rfl
  have s5 : sl (nsg σ k o i) (sa k 5) = [.ref (58 + 22 * k + 3 + 3), .ref (58 + 22 * k + 3 + 4), .ref (58 + 22 * k + 3 + 5), .ref (58 + 22 * k + 3 + 6)] := by
    unfold sl
    rw [show sz (sa k 5) = 4 from ss (by omega)]
    show [vl _ _ 0, vl _ _ 1, vl _ _ 2, vl _ _ 3] = _
    rw [vS_r (r := 6) (by omega) rfl, vS_r (r := 7) (by omega) rfl, vS_r (r := 8) (by omega) rfl, vS_r (r := 9) (by omega) rfl]
    rfl
  have s10 : sl (nsg σ k o i) (sa k 10) = [.ref (58 + 22 * k + 3 + 8), .ref (58 + 22 * k + 3 + 9), .ref (58 + 22 * k + 3 + 10), .ref (58 + 22 * k + 3 + 11)] := by
    unfold sl
    rw [show sz (sa k 10) = 4 from ss (by omega)]
    show [vl _ _ 0, vl _ _ 1, vl _ _ 2, vl _ _ 3] = _
    rw [vS_r (r := 11) (by omega) rfl, vS_r (r := 12) (by omega) rfl, vS_r (r := 13) (by omega) rfl, vS_r (r := 14) (by omega) rfl]
    rfl
  have s4 : sl (nsg σ k o i) (sa k 4) = (rp 128).set 2 (.int (nI 1)) := sl_s (by omega) rfl rfl (fun m hm => by
    unfold nwA
    rw [if_neg (by omega), if_neg (by omega)]
    by_cases q : m = 2
    · rw [if_pos ⟨rfl, q⟩, if_pos q]
    · rw [if_neg (by omega), if_neg (by omega), if_neg q])
  have s21 : sl (nsg σ k o i) (sa k 21) = (rp 4).set 0 (.int (jAdd (jAdd (nI 1000) (jMul (nI 16) o)) i)) := sl_s (by omega) rfl rfl (fun m hm => by
    unfold nwA
    rw [if_neg (by omega), if_neg (by omega), if_neg (by omega)]
    by_cases q : m = 0
    · rw [if_pos ⟨rfl, q⟩, if_pos q]
    · rw [if_neg (by omega), if_neg q])
  have sz' : ∀ j N, j < 22 → rt_S.getD j [] = [] → sz_S.getD j 0 = N → j ≠ 0 → j ≠ 4 → j ≠ 21 → sl (nsg σ k o i) (sa k j) = rp N := fun j N h1 h2 h3 h4 h5 h6 => sl_z h1 h2 h3 h4 h5 h6
  intro j hj
  rw [kk j hj]
  rcases (show j = 0 ∨ j = 1 ∨ j = 2 ∨ j = 3 ∨ j = 4 ∨ j = 5 ∨ j = 6 ∨ j = 7 ∨ j = 8 ∨ j = 9 ∨ j = 10 ∨ j = 11 ∨ j = 12 ∨ j = 13 ∨ j = 14 ∨ j = 15 ∨ j = 16 ∨ j = 17 ∨ j = 18 ∨ j = 19 ∨ j = 20 ∨ j = 21 by omega) with rfl | rfl | rfl | rfl | rfl | rfl | rfl | rfl | rfl | rfl | rfl | rfl | rfl | rfl | rfl | rfl | rfl | rfl | rfl | rfl | rfl | rfl
  · rw [s0]; rfl
  · rw [sz' 1 2 (by omega) rfl rfl (by omega) (by omega) (by omega)]; rfl
  · rw [sz' 2 2 (by omega) rfl rfl (by omega) (by omega) (by omega)]; rfl
  · rw [s3]; rfl
  · rw [s4]; rfl
  · rw [s5]; rfl
  · rw [sz' 6 8 (by omega) rfl rfl (by omega) (by omega) (by omega)]; rfl
  · rw [sz' 7 8 (by omega) rfl rfl (by omega) (by omega) (by omega)]; rfl
  · rw [sz' 8 8 (by omega) rfl rfl (by omega) (by omega) (by omega)]; rfl
  · rw [sz' 9 8 (by omega) rfl rfl (by omega) (by omega) (by omega)]; rfl
  · rw [s10]; rfl
  · rw [sz' 11 8 (by omega) rfl rfl (by omega) (by omega) (by omega)]; rfl
  · rw [sz' 12 8 (by omega) rfl rfl (by omega) (by omega) (by omega)]; rfl
  · rw [sz' 13 8 (by omega) rfl rfl (by omega) (by omega) (by omega)]; rfl
  · rw [sz' 14 8 (by omega) rfl rfl (by omega) (by omega) (by omega)]; rfl
  · rw [sz' 15 4 (by omega) rfl rfl (by omega) (by omega) (by omega)]; rfl
  · rw [sz' 16 9 (by omega) rfl rfl (by omega) (by omega) (by omega)]; rfl
  · rw [sz' 17 9 (by omega) rfl rfl (by omega) (by omega) (by omega)]; rfl
  · rw [sz' 18 9 (by omega) rfl rfl (by omega) (by omega) (by omega)]; rfl
  · rw [sz' 19 3 (by omega) rfl rfl (by omega) (by omega) (by omega)]; rfl
  · rw [sz' 20 8 (by omega) rfl rfl (by omega) (by omega) (by omega)]; rfl
  · rw [s21]; rfl
theorem sBk_len {N : Nat} : (sBk N o i).length = 22 := rfl
theorem hs_new (ek : σ 1 2 = nI k) (hk : k < 6) : ((hs (58 + 22 * k) σ).set 2 (53, (sl σ 2).set k (.ref (58 + 22 * k)))).set 1 (3, (sl σ 1).set 2 (.int (nI (k + 1)))) ++ sBk (58 + 22 * k) o i = hs (58 + 22 * (k + 1)) (nsg σ k o i) := by
  have k1 : kd 1 = 3 := (kb (by omega)).trans rfl
  have k2 : kd 2 = 53 := (kb (by omega)).trans rfl
  have z1 : sz 1 = 4 := (sb (by omega)).trans rfl
  have z2 : sz 2 = 6 := (sb (by omega)).trans rfl
  apply List.ext_getElem?
  intro a
  by_cases ha : a < 58 + 22 * k
  · rw [List.getElem?_append_left (by rw [List.length_set, List.length_set, hs_len]; exact ha), hs_get (by omega), List.getElem?_set, List.length_set, hs_len]
    by_cases q1 : 1 = a
    · subst q1
      rw [if_pos rfl, if_pos (by omega), k1]
      congr 2
      apply List.ext_getElem?
      intro m
      rw [List.getElem?_set, sl_len, z1]
      by_cases qm : 2 = m
      · subst qm
        rw [if_pos rfl, if_pos (by omega), sl_get (by omega)]
        have : vl (nsg σ k o i) 1 2 = .int (nI (k + 1)) := by
          rw [vl_I (Or.inl ⟨(rb (by omega)).trans rfl, by omega, by omega⟩)]
          unfold nsg
          rw [if_pos (by omega), if_pos ⟨rfl, rfl⟩]
        rw [this]
      · rw [if_neg qm]
        by_cases hm : m < sz 1
        · rw [sl_get hm, sl_get hm, vl_ext (ns_o (by omega) (fun e => qm e.2.symm)) (by omega) (by omega)]
        · rw [List.getElem?_eq_none (by rw [sl_len]; omega), List.getElem?_eq_none (by rw [sl_len]; omega)]
    rw [if_neg q1, List.getElem?_set, hs_len]
    by_cases q2 : 2 = a
    · subst q2
      rw [if_pos rfl, if_pos (by omega), k2]
      congr 2
      apply List.ext_getElem?
      intro m
      have v' : ∀ m, vl (nsg σ k o i) 2 m = if m < k + 1 then .ref (58 + 22 * m) else .null := fun m => by
        unfold vl
        have : nsg σ k o i 1 2 = nI (k + 1) := by
          unfold nsg
          rw [if_pos (by omega), if_pos ⟨rfl, rfl⟩]
        rw [if_neg (by omega), if_pos rfl, this, nC_n (by omega)]
      have v0 : ∀ m, vl σ 2 m = if m < k then .ref (58 + 22 * m) else .null := fun m => by
        unfold vl
        rw [if_neg (by omega), if_pos rfl, ek, nC_n (by omega)]
      rw [List.getElem?_set, sl_len, z2]
      by_cases qm : k = m
      · subst qm
        rw [if_pos rfl, if_pos (by omega), sl_get (by omega), v', if_pos (by omega)]
      · rw [if_neg qm]
        by_cases hm : m < sz 2
        · rw [sl_get hm, sl_get hm, v', v0]
          by_cases q3 : m < k
          · rw [if_pos q3, if_pos (by omega)]
          · rw [if_neg q3, if_neg (by omega)]
        · rw [List.getElem?_eq_none (by rw [sl_len]; omega), List.getElem?_eq_none (by rw [sl_len]; omega)]
    rw [if_neg q2, hs_get ha]
    congr 2
    unfold sl
    apply List.map_congr_left
    intro m _
    by_cases q0 : a = 0
    · subst q0
      unfold vl
      rw [ns_o (by omega) (by omega), if_neg (show ¬ (0 : Nat) = 2 by omega), if_neg (show ¬ (0 : Nat) = 2 by omega)]
    · exact (vl_ext (ns_o ha (by omega)) q0 (by omega)).symm
  · rw [List.getElem?_append_right (by rw [List.length_set, List.length_set, hs_len]; omega), List.length_set, List.length_set, hs_len]
    by_cases hb : a < 58 + 22 * (k + 1)
    · rw [hs_get hb, sBk_g (σ := σ) (a - (58 + 22 * k)) (by omega)]
      have : sa k (a - (58 + 22 * k)) = a := by unfold sa; omega
      rw [this]
    · rw [List.getElem?_eq_none (by rw [sBk_len]; omega), List.getElem?_eq_none (by rw [hs_len]; omega)]
end SMD
