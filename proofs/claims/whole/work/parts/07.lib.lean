/-! Math.min, Math.max -/
def jMin (x y : Int32) : Int32 := if y < x then y else x
def jMax (x y : Int32) : Int32 := if x < y then y else x
theorem ei_min {M : jx_M} {d pc p1 p2 index : Nat} {fa fb : jx_fI} (ha : jx_EI M d pc p1 fa) (hb : jx_EI M (d + 1) p1 p2 fb) (w : Cond.methodLink M.2.1 index Lib.Math.min.name ∈ jx_ws ∧ Cond.static Lib.Math.min.name ∈ jx_ws ∧ Cond.initialized "java/lang/Math" ∈ jx_ws ∧ Cond.code Lib.Math.min.name Lib.Math.min.code 2 (some .int) ∈ jx_ws) (hr : 1 ≤ M.2.2.2.1 ∧ d + 13 ≤ M.2.2.2.2.1) (hdg : decode M.1 p2 = .ok (.invokestatic index, 3)) : jx_EI M d pc (p2 + 3) (fB jMin fa fb) := by
  intro p l e R s m args below meth c Q z D tc sc X L st h r h' k n hf hst hk hn K
  obtain ⟨⟨x, h1⟩, e1, hf⟩ := Option.bind_eq_some_iff.mp hf
  obtain ⟨⟨y, h2⟩, e2, hf⟩ := Option.bind_eq_some_iff.mp hf
  replace hf : some (jMin x y, h2) = some (r, h') := hf
  cases hf
  refine ha p l e R s m args below meth c Q z D tc sc X L st _ _ _ k n e1 hst hk hn ?_
  refine hb p l e R s m args below meth c Q z D tc sc X L (.int x :: st) _ _ _ k n e2 (hst.cons rfl) hk hn ?_
  intro H locs ls hR hS hl
  have hts := X.2.2.2.2.1
  have f1 := X.2.2.2.2.2.2.1
  have f2 := X.2.2.2.2.2.2.2.1
  exact va_mmin X.1 X.2.1 (by rw [X.2.2.1]; exact hl.1.symm) X.2.2.2.1 (hts _ w.1) (hts _ w.2.1) (hts _ w.2.2.1) (hts _ w.2.2.2) (by omega) (by rw [hp_vs_cat z st hst.2, hst.1]; omega) hk hn hdg (K H locs ls hR hS hl)
theorem ei_max {M : jx_M} {d pc p1 p2 index : Nat} {fa fb : jx_fI} (ha : jx_EI M d pc p1 fa) (hb : jx_EI M (d + 1) p1 p2 fb) (w : Cond.methodLink M.2.1 index Lib.Math.max.name ∈ jx_ws ∧ Cond.static Lib.Math.max.name ∈ jx_ws ∧ Cond.initialized "java/lang/Math" ∈ jx_ws ∧ Cond.code Lib.Math.max.name Lib.Math.max.code 2 (some .int) ∈ jx_ws) (hr : 1 ≤ M.2.2.2.1 ∧ d + 13 ≤ M.2.2.2.2.1) (hdg : decode M.1 p2 = .ok (.invokestatic index, 3)) : jx_EI M d pc (p2 + 3) (fB jMax fa fb) := by
  intro p l e R s m args below meth c Q z D tc sc X L st h r h' k n hf hst hk hn K
  obtain ⟨⟨x, h1⟩, e1, hf⟩ := Option.bind_eq_some_iff.mp hf
  obtain ⟨⟨y, h2⟩, e2, hf⟩ := Option.bind_eq_some_iff.mp hf
  replace hf : some (jMax x y, h2) = some (r, h') := hf
  cases hf
  refine ha p l e R s m args below meth c Q z D tc sc X L st _ _ _ k n e1 hst hk hn ?_
  refine hb p l e R s m args below meth c Q z D tc sc X L (.int x :: st) _ _ _ k n e2 (hst.cons rfl) hk hn ?_
  intro H locs ls hR hS hl
  have hts := X.2.2.2.2.1
  have f1 := X.2.2.2.2.2.2.1
  have f2 := X.2.2.2.2.2.2.2.1
  exact va_mmax X.1 X.2.1 (by rw [X.2.2.1]; exact hl.1.symm) X.2.2.2.1 (hts _ w.1) (hts _ w.2.1) (hts _ w.2.2.1) (hts _ w.2.2.2) (by omega) (by rw [hp_vs_cat z st hst.2, hst.1]; omega) hk hn hdg (K H locs ls hR hS hl)
/-! System.arraycopy of ints -/
def hp_isI (v : Value) : Bool := match v with
  | .int _ => true
  | _ => false
def hp_cpl (f g : List Value) (sp dp n : Nat) : List Value := (List.range g.length).map (va_cpy (fun j => f.getD j .null) (fun j => g.getD j .null) sp dp n)
def hp_cp (h : hp_H) (a0 : Nat) (sp : Int32) (a1 : Nat) (dp n : Int32) : Option hp_H := (h[a0]?).bind fun c0 => (h[a1]?).bind fun c1 =>
  if c0.1 = 50 ∧ c1.1 = 50 ∧ ¬ sp < 0 ∧ ¬ dp < 0 ∧ ¬ n < 0 ∧ sp.toNatClampNeg + n.toNatClampNeg ≤ c0.2.length ∧ dp.toNatClampNeg + n.toNatClampNeg ≤ c1.2.length ∧ c0.2.all hp_isI = true then some (h.set a1 (50, hp_cpl c0.2 c1.2 sp.toNatClampNeg dp.toNatClampNeg n.toNatClampNeg)) else none
def sCopy (g : jx_fA) : jx_fS := fun L h => (g L h).bind fun q => match q.1 with
  | [.ref a0, .int sp, .ref a1, .int dp, .int n] => (hp_cp q.2 a0 sp a1 dp n).bind fun h' => some (.inl (L, h'))
  | _ => none
theorem hp_cpv {z : Nat} {f g : List Value} {sp dp n : Nat} {cA : ClassId} (h1 : sp + n ≤ f.length) (h2 : dp + n ≤ g.length) : arrV cA g.length (va_cpy (fun j => hp_v z (f.getD j .null)) (fun j => hp_v z (g.getD j .null)) sp dp n) = arrV cA (hp_cpl f g sp dp n).length (fun j => hp_v z ((hp_cpl f g sp dp n).getD j .null)) := by
  unfold hp_cpl
  rw [List.length_map, List.length_range]
  unfold arrV
  congr 1
  apply congrArg
  funext j
  have : ((List.range g.length).map (va_cpy (fun j => f.getD j .null) (fun j => g.getD j .null) sp dp n))[j.val]? = some (va_cpy (fun j => f.getD j .null) (fun j => g.getD j .null) sp dp n j.val) := by
    rw [List.getElem?_map, List.getElem?_range j.isLt]
    rfl
  dsimp only
  rw [List.getD_eq_getElem?_getD, this]
  unfold va_cpy
  by_cases h : dp ≤ j.val ∧ j.val < dp + n
  · simp [h]
  · simp [h]
theorem jx_nn (z : Int32) (hz : ¬ z < 0) : z.toInt = (z.toNatClampNeg : Int) := by
  have hz0 : (0 : Int) ≤ z.toInt := by
    have := Int32.not_lt.mp hz
    simpa using Int32.le_iff_toInt_le.mp this
  show z.toInt = ((z.toInt.toNat : Nat) : Int)
  omega
theorem sx_copy {M : jx_M} {pc p1 index : Nat} {g : jx_fA} (hg : jx_EA M 0 5 pc p1 g) (w : Cond.methodLink M.2.1 index arraycopyName ∈ jx_ws ∧ Cond.native arraycopyName ∈ jx_ws ∧ Cond.static arraycopyName ∈ jx_ws ∧ Cond.initialized "java/lang/System" ∈ jx_ws) (hr : 1 ≤ M.2.2.2.1 ∧ nativeFrameWords "java/lang/System" "arraycopy" 5 + 11 ≤ M.2.2.2.2.1) (hdg : decode M.1 p1 = .ok (.invokestatic index, 3)) : jx_SX M pc (p1 + 3) (sCopy g) 0 0 := by
  intro p l e R s m args below meth c Q z D tc sc X L h o k0 n0 hf hk hn K1 K2
  obtain ⟨⟨vs, h1⟩, e1, hf⟩ := Option.bind_eq_some_iff.mp hf
  refine hg p l e R s m args below meth c Q z D tc sc X L [] _ _ _ k0 n0 e1 jx_st0 hk hn (fun _ _ => ?_)
  dsimp only at hf
  split at hf
  · rename_i a0 sp a1 dp n hx1 hx2
    obtain ⟨h2, e2, hf⟩ := Option.bind_eq_some_iff.mp hf
    cases hf
    obtain ⟨⟨t0, f⟩, q0, e3⟩ := Option.bind_eq_some_iff.mp e2
    clear e2
    obtain ⟨⟨t1, g1⟩, q1, e4⟩ := Option.bind_eq_some_iff.mp e3
    clear e3
    dsimp only at e4
    split at e4
    · rename_i hc
      obtain ⟨rfl, rfl, c1, c2, c3, c4, c5, c6⟩ := hc
      cases e4
      intro H locs ls hR hS hl
      have hts := X.2.2.2.2.1
      have f1 := X.2.2.2.2.2.2.1
      have f2 := X.2.2.2.2.2.2.2.1
      have hK := X.2.2.2.2.2.1
      have hc0 := (hR.2 a0 _ q0).2 (Nat.le_of_ble_eq_true rfl)
      have hc1 := (hR.2 a1 _ q1).2 (Nat.le_of_ble_eq_true rfl)
      intro T hT XS
      obtain ⟨-, k0', hk0, cm0, hkk0⟩ := (hK.1.2 0 _ rfl).1 f.length (fun j => hp_v z (f.getD j .null))
      obtain ⟨-, k1', hk1, cm1, hkk1⟩ := (hK.1.2 0 _ rfl).1 g1.length (fun j => hp_v z (g1.getD j .null))
      obtain ⟨vm', X', step⟩ := XS.arraycopy X.1 X.2.2.2.1 (hts _ w.1) (hts _ w.2.1) (hts _ w.2.2.1) (hts _ w.2.2.2) (src := z + a0) (dst := z + a1) (cs := arrV (tc 50) f.length (fun j => hp_v z (f.getD j .null))) (cd := arrV (tc 50) g1.length (fun j => hp_v z (g1.getD j .null))) (srcPos := sp) (destPos := dp) (n := n) (by rw [hT]; exact hc0) (by rw [hT]; exact hc1)
        (fun _ h => by cases h) (fun _ h => by cases h) (fun h => by cases h) (fun h => by cases h) hk0 hk1 hkk0 hkk1 (by rfl) c1 c2 c3
        (by rw [jx_nn sp c1, jx_nn n c3, arrV_size]; omega)
        (by rw [jx_nn dp c2, jx_nn n c3, arrV_size]; omega)
        (fun vm₁ _ i hi => by
          have hlt : sp.toNatClampNeg + i < f.length := by omega
          have e9 : f[sp.toNatClampNeg + i]? = some f[sp.toNatClampNeg + i] := List.getElem?_eq_getElem hlt
          have e8 : hp_isI f[sp.toNatClampNeg + i] = true := List.all_eq_true.mp c6 _ (List.getElem_mem hlt)
          have e7 : (arrV (tc 50) f.length (fun j => hp_v z (f.getD j .null))).slots.getD (sp.toNatClampNeg + i) .null = hp_v z f[sp.toNatClampNeg + i] := by
            rw [Array.getD_eq_getD_getElem?, arrV_read _ _ hlt]
            simp [List.getD_eq_getElem?_getD, e9]
          rw [e7]
          unfold hp_isI at e8
          split at e8
          · rename_i x hx
            rw [hx]
            exact ⟨rfl, trivial⟩
          · cases e8)
        (g := F0 m p1 ls [.int n, .int dp, .ref (z + a1), .int sp, .ref (z + a0)]) rfl (by rw [X.2.2.1]; exact hl.1) (rest := []) rfl (by rw [X.2.1]; exact hdg) (by omega) (by show 2 * 0 + 0 + _ ≤ _; omega)
      have e1 : copied (arrV (tc 50) f.length (fun j => hp_v z (f.getD j .null))) (arrV (tc 50) g1.length (fun j => hp_v z (g1.getD j .null))) sp dp n = arrV (tc 50) (hp_cpl f g1 sp.toNatClampNeg dp.toNatClampNeg n.toNatClampNeg).length (fun j => hp_v z ((hp_cpl f g1 sp.toNatClampNeg dp.toNatClampNeg n.toNatClampNeg).getD j .null)) := (va_copied (fun z => z) (tc 50) (tc 50) _ _ c4).trans (hp_cpv c4 c5)
      rw [e1] at X' step
      have hlt : z + a1 < H.size := (Array.getElem?_eq_some_iff.mp hc1).1
      have hheap : ((T.setVm vm').setCell (z + a1) (arrV (tc 50) (hp_cpl f g1 sp.toNatClampNeg dp.toNatClampNeg n.toNatClampNeg).length (fun j => hp_v z ((hp_cpl f g1 sp.toNatClampNeg dp.toNatClampNeg n.toNatClampNeg).getD j .null)))).heap = H.setIfInBounds (z + a1) (arrV (tc 50) (hp_cpl f g1 sp.toNatClampNeg dp.toNatClampNeg n.toNatClampNeg).length (fun j => hp_v z ((hp_cpl f g1 sp.toNatClampNeg dp.toNatClampNeg n.toNatClampNeg).getD j .null))) := by rw [← hT]; rfl
      have oq : ∀ q : Nat, q ≠ z + a1 → (H.setIfInBounds (z + a1) (arrV (tc 50) (hp_cpl f g1 sp.toNatClampNeg dp.toNatClampNeg n.toNatClampNeg).length (fun j => hp_v z ((hp_cpl f g1 sp.toNatClampNeg dp.toNatClampNeg n.toNatClampNeg).getD j .null))))[q]? = H[q]? := fun q hq => by simp [Array.getElem?_setIfInBounds, Ne.symm hq]
      obtain ⟨t, a1', b1⟩ := K1 L _ rfl (H.setIfInBounds (z + a1) (arrV (tc 50) (hp_cpl f g1 sp.toNatClampNeg dp.toNatClampNeg n.toNatClampNeg).length (fun j => hp_v z ((hp_cpl f g1 sp.toNatClampNeg dp.toNatClampNeg n.toNatClampNeg).getD j .null)))) _ ls (hR.set (hp_lt q1) ⟨fun h50 => absurd (show 50 < 50 from h50) (by decide), fun _ => by simp [Array.getElem?_setIfInBounds, hlt]⟩ (by simp) oq) ⟨by simp; exact hS.1, fun q g1 g2 => by
          rw [oq q (fun e => g2 (by rw [e]; exact Nat.le_add_right _ _))]
          exact hS.2.1 q g1 g2, fun q hq => by
          rcases List.mem_append.mp hq with h | h
          · exact hS.2.2 q h
          · obtain ⟨z', -, hz⟩ := List.mem_map.mp h
            rw [← hz]
            exact Nat.le_add_right _ _⟩ hl _ hheap X'
      exact ⟨t, step t a1', b1⟩
    · cases e4
  · cases hf
/-! the law's script, in its local 0 -/
def fScN (N : Nat) : jx_fI := fun _ h => some (Int32.ofNat N, h)
def fSk (N : Nat) (xs : Nat → Int32) (i : Nat) (v : Int32) : jx_fI := fun L h => match L[i]? with
  | some (some (.int x)) => if ¬ (x + v < 0 ∨ N ≤ (x + v).toNatClampNeg) then some (xs (x + v).toNatClampNeg, h) else none
  | _ => none
def fSc0 (N : Nat) (xs : Nat → Int32) (i : Nat) : jx_fI := fun L h => match L[i]? with
  | some (some (.int x)) => if ¬ (x < 0 ∨ N ≤ x.toNatClampNeg) then some (xs x.toNatClampNeg, h) else none
  | _ => none
theorem ei_scn {M : jx_M} {d pc N : Nat} (hN : M.2.2.2.2.2.2.1 = N + 1) (h0 : decode M.1 pc = .ok (.aload_n 0, 1)) (hdg : decode M.1 (pc + 1) = .ok (.arraylength, 1)) : jx_EI M d pc (pc + 1 + 1) (fScN N) := by
  intro p l e R s m args below meth c Q z D tc sc X L st h r h' k n hf hst hk hn K H locs ls hR hS hl
  replace hf : some (Int32.ofNat N, h) = some (r, h') := hf
  cases hf
  obtain ⟨b, rfl, hX, hbz⟩ := X.2.2.2.2.2.2.2.2.2.2 N hN
  refine lv_aload_n (i := 0) X.1 X.2.1 h0 rfl (hl.2.2.2 b rfl) ?_
  exact va_slen (A := fun q => z ≤ q) X.1 X.2.1 hX (Nat.lt_of_lt_of_le hbz X.2.2.2.2.2.2.2.2.1) (fun h => by have h : z ≤ b := h; omega) hS hdg (K H locs ls hR hS hl)
theorem ei_sc0 {M : jx_M} {d pc N i : Nat} {j : Fin 4} (hN : M.2.2.2.2.2.2.1 = N + 1) (h0 : decode M.1 pc = .ok (.aload_n 0, 1)) (h1 : decode M.1 (pc + 1) = .ok (.iload_n j, 1)) (hj : (j : Nat) = i) (hdg : decode M.1 (pc + 1 + 1) = .ok (.iaload, 1)) : jx_EI M d pc (pc + 1 + 1 + 1) (fSc0 N M.2.2.2.2.2.2.2 i) := by
  intro p l e R s m args below meth c Q z D tc sc X L st h r h' k n hf hst hk hn K H locs ls hR hS hl
  obtain ⟨b, rfl, hX, hbz⟩ := X.2.2.2.2.2.2.2.2.2.2 N hN
  unfold fSc0 at hf
  split at hf
  · rename_i x hx
    split at hf
    · rename_i hin
      cases hf
      refine lv_aload_n (i := 0) X.1 X.2.1 h0 rfl (hl.2.2.2 b rfl) ?_
      refine lv_iload_n X.1 X.2.1 h1 hj (hp_int hl hx) ?_
      exact va_sld (A := fun q => z ≤ q) X.1 X.2.1 hX (Nat.lt_of_lt_of_le hbz X.2.2.2.2.2.2.2.2.1) (fun h => by have h : z ≤ b := h; omega) hS hin hdg (K H locs ls hR hS hl)
    · cases hf
  · cases hf
theorem ei_sck {M : jx_M} {d pc N i : Nat} {j : Fin 4} {v : Int} {w : Int32} (hN : M.2.2.2.2.2.2.1 = N + 1) (h0 : decode M.1 pc = .ok (.aload_n 0, 1)) (h1 : decode M.1 (pc + 1) = .ok (.iload_n j, 1)) (hj : (j : Nat) = i) (h2 : decode M.1 (pc + 1 + 1) = .ok (.iconst v, 1)) (hw : Int32.ofInt v = w) (h3 : decode M.1 (pc + 1 + 1 + 1) = .ok (.iadd, 1)) (hdg : decode M.1 (pc + 1 + 1 + 1 + 1) = .ok (.iaload, 1)) : jx_EI M d pc (pc + 1 + 1 + 1 + 1 + 1) (fSk N M.2.2.2.2.2.2.2 i w) := by
  intro p l e R s m args below meth c Q z D tc sc X L st h r h' k n hf hst hk hn K H locs ls hR hS hl
  obtain ⟨b, rfl, hX, hbz⟩ := X.2.2.2.2.2.2.2.2.2.2 N hN
  unfold fSk at hf
  split at hf
  · rename_i x hx
    split at hf
    · rename_i hin
      cases hf
      refine lv_aload_n (i := 0) X.1 X.2.1 h0 rfl (hl.2.2.2 b rfl) ?_
      refine lv_iload_n X.1 X.2.1 h1 hj (hp_int hl hx) ?_
      refine lv_iconst X.1 X.2.1 h2 hw ?_
      refine lv_iadd X.1 X.2.1 h3 ?_
      exact va_sld (A := fun q => z ≤ q) X.1 X.2.1 hX (Nat.lt_of_lt_of_le hbz X.2.2.2.2.2.2.2.2.1) (fun h => by have h : z ≤ b := h; omega) hS hin hdg (K H locs ls hR hS hl)
    · cases hf
  · cases hf
