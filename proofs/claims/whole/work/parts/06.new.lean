/-! what is made -/
def fNew (ci : Nat) (fs0 : List Value) (g : jx_fA) (G : List Value → hp_H → Option hp_H) : jx_fR := fun L h => (g L (h ++ [(ci, fs0)])).bind fun q => (G (.ref h.length :: q.1) q.2).bind fun h' => some (h.length, h')
/-- the words and tables of a class that is made -/
def jx_NW (own : String) (index ci : Nat) (fs0 : List Value) : Prop := ∃ (C : String) (T : u_T) (N : Nat) (tt : Nat → FieldType), vwCl[ci]? = some (C, T, N) ∧ ci < 50 ∧ fs0.length = N ∧ (∀ w ∈ u_ws C T N, w ∈ jx_ws) ∧ (∀ k, k < N → parseFieldDescriptor (T k).2.2.1 = some (tt k)) ∧ (∀ k, k < N → defaultValue (tt k) = fs0.getD k .null) ∧ (∀ v ∈ fs0, v = .int 0 ∨ v = .null) ∧ Cond.classLink own index C ∈ jx_ws ∧ Cond.instantiable C N ∈ jx_ws ∧ Cond.initialized C ∈ jx_ws
theorem va_S.grow {A : Nat → Prop} {H0 H H1 : Heap} {locs : List Loc} (h : va_S A H0 H locs) (hz : H.size ≤ H1.size) (ho : ∀ q : Nat, q < H.size → H1[q]? = H[q]?) : va_S A H0 H1 locs := ⟨Nat.le_trans h.1 hz, fun q h1 h2 => (ho q (Nat.lt_of_lt_of_le h1 h.1)).trans (h.2.1 q h1 h2), h.2.2⟩
theorem er_new {M : jx_M} {d na pc p1 i1 i2 ci : Nat} {fs0 : List Value} {g : jx_fA} {y : MethodName} {b : ByteArray} {nL fr lc : Nat} {G : List Value → hp_H → Option hp_H} {mc ms : Nat} (hdn : decode M.1 pc = .ok (.new i1, 3)) (hdd : decode M.1 (pc + 3) = .ok (.dup, 1)) (hN : jx_NW M.2.1 i1 ci fs0) (hg : jx_EA M (d + 1 + 1) na (pc + 3 + 1) p1 g) (hM : jx_MV y b nL fr lc G mc ms) (w : jx_W M i2 y b nL fr lc none na) (hi : Cond.instanceMethod y ∈ jx_ws) (hy : y.name = "<init>") (hd : d + 1 ≤ 8) (hdg : decode M.1 p1 = .ok (.invokespecial i2, 3)) : jx_ERc M d pc (p1 + 3) (fNew ci fs0 g G) (1 + mc) (fs0.length + ms) := by
  intro p l e R s m args below meth c Q z D tc sc X L st h r h' k n hf hst hk hn K
  obtain ⟨⟨As, h1⟩, e1, hf⟩ := Option.bind_eq_some_iff.mp hf
  obtain ⟨h2, e2, hf⟩ := Option.bind_eq_some_iff.mp hf
  replace hf : some (h.length, h2) = some (r, h') := hf
  cases hf
  obtain ⟨C, T, N, tt, hc, hci, hle, hin, hty, hdf, hv0, w1, w2, w3⟩ := hN
  have hts := X.2.2.2.2.1
  have hK := X.2.2.2.2.2.1
  have hKn := hK.1.1 ci _ hc
  rw [← Nat.add_assoc, ← Nat.add_assoc] at K
  rw [← Nat.add_assoc] at hk hn
  intro H locs ls hR hS hl
  refine W.newcK X.1 X.2.1 X.2.2.2.1 (hts _ w1) (hts _ w2) (hts _ w3) rfl hdn (by omega) (by omega) hKn.2.1 rfl fun H1 kC hkC g1 z1 o1 => ?_
  have hR1 : hp_R z D tc (h ++ [(ci, fs0)]) H1 := by
    refine hR.push ⟨fun _ => ⟨_, hc, hle, ?_⟩, fun h50 => ?_⟩ z1 o1
    · rw [hR.1] at g1
      refine (u_born tt hts hin hKn hkC g1 hty).to (fun k hk => ?_)
      rw [hdf k hk]
      rcases hq : fs0[k]? with _ | v
      · simp [List.getD_eq_getElem?_getD, hq, hp_v]
      · rcases hv0 v (List.mem_of_getElem? hq) with rfl | rfl <;> simp [List.getD_eq_getElem?_getD, hq, hp_v]
    · have h50 : 50 ≤ ci := h50
      omega
  have hS1 : va_S (fun q => z ≤ q) s.heap H1 locs := hS.grow (by omega) o1
  refine lv_dup X.1 X.2.1 hdd rfl ?_
  rw [hR.1]
  rw [← hle]
  refine hg p l e R s m args below meth c Q z D tc sc X L (.ref h.length :: .ref h.length :: st) _ _ _ (k + 1) (n + fs0.length) e1 ((hst.cons rfl).cons rfl) (by omega) (by omega) (fun hle2 hcat => ?_) H1 locs ls hR1 hS1 hl
  intro H locs ls hR hS hl
  have est : (As.reverse ++ .ref h.length :: .ref h.length :: st).map (hp_v z) = (As.map (hp_v z)).reverse ++ .ref (z + h.length) :: (.ref h.length :: st).map (hp_v z) := by
    simp [List.map_append, List.map_reverse, hp_v]
  rw [est]
  refine va_callv (jx_runI (As := As.map (hp_v z)) X w hi hy (hM l z D tc (.ref h.length :: As) _ _ e2 (fun v hv => by
    rcases List.mem_cons.mp hv with rfl | hv
    · rfl
    · exact hcat v hv)) ⟨jx_blind, jx_pre hK hR⟩ (by rw [List.length_map]; exact hle2) hl.1 (jx_room (hst.cons (v := .ref h.length) rfl) hd) hdg ⟨by omega, by omega⟩) hS (fun q _ hq => hq) (fun q hq => hq) (fun u t H1 locs1 ht hvm hpost hB hz1 hk1 hS1 => ?_)
  subst ht
  exact K _ locs1 ls hB hS1 hl
def fNA (t N : Nat) (v0 : Value) : jx_fR := fun _ h => some (h.length, h ++ [(t, List.replicate N v0)])
theorem hp_repl {z N : Nat} {v0 : Value} (h0 : hp_v z v0 = v0) {cA : ClassId} : arrV cA N (fun _ => v0) = arrV cA (List.replicate N v0).length (fun j => hp_v z ((List.replicate N v0).getD j .null)) := by
  rw [List.length_replicate]
  unfold arrV
  congr 1
  apply congrArg
  funext j
  have : (List.replicate N v0)[j.val]? = some v0 := by rw [List.getElem?_replicate, if_pos j.isLt]
  simp [List.getD_eq_getElem?_getD, this, h0]
theorem er_newi {M : jx_M} {d pc p1 N : Nat} {x : Int32} (hs : jx_EI M d pc p1 (fI x)) (hx : ¬ x < 0) (hN : x.toNatClampNeg = N) (hsm : N * 4 ≤ 536870912) (hw : Cond.arrayClass .int ∈ jx_ws) (hdg : decode M.1 p1 = .ok (.newarray .int, 2)) : jx_ERc M d pc (p1 + 2) (fNA 50 N (.int 0)) 1 N := by
  intro p l e R s m args below meth c Q z D tc sc X L st h r h' k n hf hst hk hn K
  replace hf : some (h.length, h ++ [(50, List.replicate N (Value.int 0))]) = some (r, h') := hf
  cases hf
  refine hs p l e R s m args below meth c Q z D tc sc X L st h x h k n rfl hst (by omega) (by omega) ?_
  intro H locs ls hR hS hl
  refine va_newaK (atype := .int) X.1 X.2.1 (X.2.2.2.2.1 _ hw) rfl hdg rfl hx hN hsm hk hn rfl (fun H1 cA g1 z1 o1 _ hcA => ?_)
  have hcA : cA = tc 50 := Option.some.inj (hcA.symm.trans (X.2.2.2.2.2.1.1.2 0 _ rfl).2)
  subst hcA
  rw [hR.1] at g1 ⊢
  refine K H1 locs ls (hR.push ⟨fun h50 => ?_, fun _ => ?_⟩ z1 o1) (hS.grow (by omega) o1) hl
  · have h50 : 50 < 50 := h50
    omega
  · rw [g1]
    exact congrArg some (hp_repl (v0 := .int 0) rfl)
theorem er_newz {M : jx_M} {d pc p1 N : Nat} {x : Int32} (hs : jx_EI M d pc p1 (fI x)) (hx : ¬ x < 0) (hN : x.toNatClampNeg = N) (hsm : N * 1 ≤ 536870912) (hw : Cond.arrayClass .boolean ∈ jx_ws) (hdg : decode M.1 p1 = .ok (.newarray .boolean, 2)) : jx_ERc M d pc (p1 + 2) (fNA 51 N (.int 0)) 1 N := by
  intro p l e R s m args below meth c Q z D tc sc X L st h r h' k n hf hst hk hn K
  replace hf : some (h.length, h ++ [(51, List.replicate N (Value.int 0))]) = some (r, h') := hf
  cases hf
  refine hs p l e R s m args below meth c Q z D tc sc X L st h x h k n rfl hst (by omega) (by omega) ?_
  intro H locs ls hR hS hl
  refine va_newaK (atype := .boolean) X.1 X.2.1 (X.2.2.2.2.1 _ hw) rfl hdg rfl hx hN hsm hk hn rfl (fun H1 cA g1 z1 o1 _ hcA => ?_)
  have hcA : cA = tc 51 := Option.some.inj (hcA.symm.trans (X.2.2.2.2.2.1.1.2 1 _ rfl).2)
  subst hcA
  rw [hR.1] at g1 ⊢
  refine K H1 locs ls (hR.push ⟨fun h50 => ?_, fun _ => ?_⟩ z1 o1) (hS.grow (by omega) o1) hl
  · have h50 : 51 < 50 := h50
    omega
  · rw [g1]
    exact congrArg some (hp_repl (v0 := .int 0) rfl)
theorem er_newq {M : jx_M} {d pc p1 N t index : Nat} {C : String} {x : Int32} (ht : t = 52 ∧ C = "StationLine$Datagram" ∨ t = 53 ∧ C = "StationLine$Station") (hs : jx_EI M d pc p1 (fI x)) (hx : ¬ x < 0) (hN : x.toNatClampNeg = N) (hsm : N * 4 ≤ 536870912) (hw1 : Cond.classLink M.2.1 index C ∈ jx_ws) (hdg : decode M.1 p1 = .ok (.anewarray index, 3)) : jx_ERc M d pc (p1 + 3) (fNA t N .null) 1 N := by
  intro p l e R s m args below meth c Q z D tc sc X L st h r h' k n hf hst hk hn K
  replace hf : some (h.length, h ++ [(t, List.replicate N Value.null)]) = some (r, h') := hf
  cases hf
  refine hs p l e R s m args below meth c Q z D tc sc X L st h x h k n rfl hst (by omega) (by omega) ?_
  intro H locs ls hR hS hl
  subst hN
  have hAO : (Cond.arrayOver (.object C)).before args s = true := by
    rcases ht with ⟨-, rfl⟩ | ⟨-, rfl⟩
    · exact X.2.2.2.2.2.1.2.2.1
    · exact X.2.2.2.2.2.1.2.2.2.1
  refine W.anew X.1 X.2.1 X.2.2.2.1 (X.2.2.2.2.1 _ hw1) hAO rfl hdg rfl hx hsm hk hn (fun cA kA comp q1 q2 q3 q4 => ?_)
  have ht50 : 50 ≤ t := by rcases ht with ⟨rfl, -⟩ | ⟨rfl, -⟩ <;> decide
  have hcA : cA = tc t := by
    rcases ht with ⟨rfl, rfl⟩ | ⟨rfl, rfl⟩
    · obtain ⟨_, _, _, _, _, h4⟩ := (X.2.2.2.2.2.1.1.2 2 _ rfl).2
      exact Option.some.inj (q1.symm.trans h4)
    · obtain ⟨_, _, _, _, _, h4⟩ := (X.2.2.2.2.2.1.1.2 3 _ rfl).2
      exact Option.some.inj (q1.symm.trans h4)
  subst hcA
  rw [arrV_new]
  have o1 : ∀ q : Nat, q < H.size → (H.push (arrV (tc t) x.toNatClampNeg (fun _ => .null)))[q]? = H[q]? := fun q hq => by
    rw [Array.getElem?_push, if_neg (Nat.ne_of_lt hq)]
  have z1 : (H.push (arrV (tc t) x.toNatClampNeg (fun _ => .null))).size = H.size + 1 := by simp
  have e0 : H.size = z + h.length := hR.1
  have := K _ locs ls (hR.push ⟨fun h50 => ?_, fun _ => ?_⟩ z1 o1) (hS.grow (by omega) o1) hl
  · rw [e0]
    exact this
  · have h50 : t < 50 := h50
    omega
  · rw [← e0]
    simp only [Array.getElem?_push, if_pos]
    exact congrArg some (hp_repl (v0 := .null) rfl)
/-! an object put into an array of its class -/
def sAR (t : Nat) (fa : jx_fR) (fi : jx_fI) (fv : jx_fR) (ci : Nat) : jx_fS := fun L h => (fa L h).bind fun q => (fi L q.2).bind fun w => (fv L w.2).bind fun x => if hp_k x.2 x.1 = some ci then (hp_w x.2 q.1 t w.1 (.ref x.1)).bind fun h' => some (.inl (L, h')) else none
theorem sx_aast {M : jx_M} {pc p1 p2 p3 t t0 ci : Nat} {C : String} {fa fv : jx_fR} {fi : jx_fI} {mc ms : Nat} (ht : t = 52 ∧ C = "StationLine$Datagram" ∧ t0 = 2 ∨ t = 53 ∧ C = "StationLine$Station" ∧ t0 = 3) (hci : jx_cl ci C) (ha : jx_ER M 0 pc p1 fa) (hi : jx_EI M 1 p1 p2 fi) (hv : jx_ERc M 2 p2 p3 fv mc ms) (hdg : decode M.1 p3 = .ok (.aastore, 1)) : jx_SX M pc (p3 + 1) (sAR t fa fi fv ci) mc ms := by
  intro p l e R s m args below meth c Q z D tc sc X L h o k0 n0 hf hk hn K1 K2
  obtain ⟨⟨a, h1⟩, e1, hf⟩ := Option.bind_eq_some_iff.mp hf
  obtain ⟨⟨i, h2⟩, e2, hf⟩ := Option.bind_eq_some_iff.mp hf
  obtain ⟨⟨x, h3⟩, e3, hf⟩ := Option.bind_eq_some_iff.mp hf
  replace hf : (if hp_k h3 x = some ci then (hp_w h3 a t i (.ref x)).bind fun h' => some (Sum.inl (L, h')) else none) = some o := hf
  split at hf
  · rename_i hx
    obtain ⟨h4, e4, hf⟩ := Option.bind_eq_some_iff.mp hf
    cases hf
    refine ha p l e R s m args below meth c Q z D tc sc X L [] _ _ _ k0 n0 e1 jx_st0 (by omega) (by omega) ?_
    refine hi p l e R s m args below meth c Q z D tc sc X L [.ref a] _ _ _ k0 n0 e2 (jx_st0.cons rfl) (by omega) (by omega) ?_
    refine hv p l e R s m args below meth c Q z D tc sc X L [.int i, .ref a] _ _ _ k0 n0 e3 ((jx_st0.cons rfl).cons rfl) hk hn ?_
    intro H locs ls hR hS hl
    obtain ⟨fs, g1, g2, rfl⟩ := hp_w_spec e4
    obtain ⟨fv0, gx⟩ := hp_k_spec hx
    have hlt : i.toNatClampNeg < fs.length := Nat.not_le.mp fun q => g2 (Or.inr q)
    have h0 : ¬ i < 0 := fun q => g2 (Or.inl q)
    obtain ⟨hci, T, N, hc⟩ := hci
    have hK := X.2.2.2.2.2.1
    obtain ⟨r, r1, r2, cellV, v1, v2, v3, -⟩ := (hR.2 x _ gx).1 hci
    have hcls := (hK.1.1 ci _ hc).2
    have hRA : ∃ (kA : Class) (comp : ClassId), s.vm.classes[tc t]? = some kA ∧ kA.kind = .array comp (.object C) ∧ s.vm.findClass C = some comp := by
      rcases ht with ⟨rfl, rfl, rfl⟩ | ⟨rfl, rfl, rfl⟩
      · obtain ⟨kA, comp, k1, k2, k3, -⟩ := (hK.1.2 2 _ rfl).2
        exact ⟨kA, comp, k1, k2, k3⟩
      · obtain ⟨kA, comp, k1, k2, k3, -⟩ := (hK.1.2 3 _ rfl).2
        exact ⟨kA, comp, k1, k2, k3⟩
    obtain ⟨kA, comp, k1, k2, k3⟩ := hRA
    have hcomp : comp = D.1 ci := Option.some.inj (k3.symm.trans hcls.1)
    subst hcomp
    obtain ⟨kC, hkC, -⟩ := hcls.2
    have ht50 : 50 ≤ t := by rcases ht with ⟨rfl, -⟩ | ⟨rfl, -⟩ <;> decide
    exact W.aast X.1 X.2.1 ((hR.2 a _ g1).2 ht50) (fun q h => by cases h) (fun h => by cases h) k1 k2 rfl hkC ⟨h0, by rw [arrV_size]; exact hlt⟩ v1 (fun q h => by rw [v3] at h; cases h) (by rw [v2]; exact hkC) (by rw [v2]; exact va_assign hcls) rfl rfl hdg (fun H1 e1 e2 e3 => K1 L _ rfl H1 _ ls (hp_arr (v := .ref x) hR g1 ht50 hlt e1 e2 e3) (hS.put e2 e3 (Nat.le_add_right _ _)) hl)
  · cases hf
/-! Object's constructor; Math; System.arraycopy -/
def sObj : jx_fS := fun L h => match L[0]? with
  | some (some (Value.ref _)) => some (.inl (L, h))
  | _ => none
theorem sx_obj {M : jx_M} {pc idx : Nat} (h0 : decode M.1 pc = .ok (.aload_n 0, 1)) (hdg : decode M.1 (pc + 1) = .ok (.invokespecial idx, 3)) (w1 : Cond.methodLink M.2.1 idx objectInit ∈ jx_ws) (w2 : Cond.instanceMethod objectInit ∈ jx_ws) (w3 : Cond.code objectInit ⟨#[0xb1]⟩ 1 none ∈ jx_ws) (hfr : 1 ≤ M.2.2.2.1) (hlo : 12 ≤ M.2.2.2.2.1) : jx_SX M pc (pc + 1 + 3) sObj 0 0 := by
  intro p l e R s m args below meth c Q z D tc sc X L h o k n hf hk hn K1 K2
  unfold sObj at hf
  split at hf
  · rename_i a ha
    cases hf
    intro H locs ls hR hS hl
    have f1 := X.2.2.2.2.2.2.1
    have f2 := X.2.2.2.2.2.2.2.1
    refine lv_aload_n (i := 0) X.1 X.2.1 h0 rfl (hp_ref hl ha) ?_
    refine W.objInit X.1 X.2.1 X.2.2.2.1 (X.2.2.2.2.1 _ w1) (X.2.2.2.2.1 _ w2) (X.2.2.2.2.1 _ w3) rfl (by rw [X.2.2.1]; exact hl.1) rfl hdg (by omega) (by show 2 * 0 + 0 + 12 ≤ _; omega) ?_
    exact K1 L h rfl H locs ls hR hS hl
  · cases hf
/-! new int[N][K]: the outer array, then the rows -/
def fNM (N K : Nat) : jx_fR := fun _ h => some (h.length, h ++ ((54, (List.range N).map (fun i => Value.ref (h.length + 1 + i))) :: List.replicate N (50, List.replicate K (Value.int 0))))
theorem hp_outer (c : ClassId) (N h0 : Nat) : ∀ i : Nat, Jvm.Free.Multi.outerC c N h0 i = arrV c N (fun j => if j < i then .ref (h0 + 1 + j) else .null)
  | 0 => by
    show ({ cls := c, slots := Array.replicate N .null, vm := .none } : Cell) = _
    rw [arrV_new]
    refine congrArg (arrV c N) (funext fun j => ?_)
    simp
  | i + 1 => by
    show (Jvm.Free.Multi.outerC c N h0 i).setSlot i (.ref (h0 + 1 + i)) = _
    rw [hp_outer c N h0 i, arrV_store]
    refine congrArg (arrV c N) (funext fun j => ?_)
    by_cases e : j = i
    · subst e
      simp [updV]
    · by_cases h : j < i
      · simp [updV, e, h, Nat.lt_succ_of_lt h]
      · simp [updV, e, h, show ¬ j < i + 1 by omega]
theorem er_newm {M : jx_M} {d pc p1 p2 index N K : Nat} {n k : Int32} (hn0 : jx_EI M d pc p1 (fI n)) (hk0 : jx_EI M (d + 1) p1 p2 (fI k)) (hw : Cond.classLink M.2.1 index "[[I" ∈ jx_ws) (hdg : decode M.1 p2 = .ok (.multianewarray index 2, 4)) (hn : ¬ n < 0) (hk : ¬ k < 0) (hN : n.toNatClampNeg = N) (hK : k.toNatClampNeg = K) (hb1 : N * 4 ≤ 536870912) (hb2 : K * 4 ≤ 536870912) : jx_ERc M d pc (p2 + 4) (fNM N K) (1 + N) (N + N * K) := by
  intro p l e R s m args below meth c Q z D tc sc X L st h r h' k1 n1 hf hst hcl hsl Kk
  replace hf : some (h.length, h ++ ((54, (List.range N).map (fun i => Value.ref (h.length + 1 + i))) :: List.replicate N (50, List.replicate K (Value.int 0)))) = some (r, h') := hf
  cases hf
  refine hn0 p l e R s m args below meth c Q z D tc sc X L st _ _ _ k1 n1 rfl hst (by omega) (by omega) ?_
  refine hk0 p l e R s m args below meth c Q z D tc sc X L (.int n :: st) _ _ _ k1 n1 rfl (hst.cons rfl) (by omega) (by omega) ?_
  intro H locs ls hR hS hl
  subst hN
  subst hK
  intro T hT Xs
  have hts := X.2.2.2.2.1
  obtain ⟨vm₁, cA, comp, -, fA, fC, -, -, X', step⟩ := Xs.multianewarray2F (ty := .int) X.1 X.2.2.2.1 (hts _ hw) X.2.2.2.2.2.1.2.2.2.2 (hts _ jw_ai) (g := F0 m p2 ls (.int k :: .int n :: st.map (hp_v z))) rfl (by rw [X.2.1]; exact hdg) rfl hn hk hb1 hb2 (by omega) rfl rfl hcl hsl
  have eA : cA = tc 54 := Option.some.inj (fA.symm.trans (X.2.2.2.2.2.1.1.2 4 _ rfl).2)
  have eC : comp = tc 50 := Option.some.inj (fC.symm.trans (X.2.2.2.2.2.1.1.2 0 _ rfl).2)
  subst eA
  subst eC
  have hTh : (T.setVm vm₁).heap = H := hT
  obtain ⟨f1, f2, -, -⟩ := Jvm.Free.Multi.fill_facts (T.setVm vm₁) (tc 54) (tc 50) n.toNatClampNeg k.toNatClampNeg (defaultValue .int) n.toNatClampNeg
  have hold : ∀ x : Nat, x < H.size → (Jvm.Free.Multi.fill (T.setVm vm₁) (tc 54) (tc 50) n.toNatClampNeg k.toNatClampNeg (defaultValue .int) n.toNatClampNeg).heap[x]? = H[x]? := fun x hx => by
    have := Jvm.Free.Multi.fill_old (T.setVm vm₁) (tc 54) (tc 50) n.toNatClampNeg k.toNatClampNeg (defaultValue .int) (a := x) (by rw [hTh]; exact hx) n.toNatClampNeg
    rw [hTh] at this
    exact this
  have hrow : ∀ j : Nat, j < n.toNatClampNeg → (Jvm.Free.Multi.fill (T.setVm vm₁) (tc 54) (tc 50) n.toNatClampNeg k.toNatClampNeg (defaultValue .int) n.toNatClampNeg).heap[H.size + 1 + j]? = some (Jvm.Free.Multi.innerC (tc 50) k.toNatClampNeg (defaultValue .int)) := fun j hj => by
    have := Jvm.Free.Multi.fill_inner (T.setVm vm₁) (tc 54) (tc 50) n.toNatClampNeg k.toNatClampNeg (defaultValue .int) n.toNatClampNeg j hj
    rw [hTh] at this
    exact this
  rw [hTh] at f1 f2
  rw [hp_outer] at f2
  generalize Jvm.Free.Multi.fill (T.setVm vm₁) (tc 54) (tc 50) n.toNatClampNeg k.toNatClampNeg (defaultValue .int) n.toNatClampNeg = F at *
  have hz : F.heap.size = H.size + 1 + n.toNatClampNeg := by omega
  have hR1 : hp_R z D tc (h ++ ((54, (List.range n.toNatClampNeg).map (fun i => Value.ref (h.length + 1 + i))) :: List.replicate n.toNatClampNeg (50, List.replicate k.toNatClampNeg (Value.int 0)))) F.heap := by
    refine ⟨?_, fun i x hx => ?_⟩
    · rw [hz, hR.1, List.length_append, List.length_cons, List.length_replicate]
      omega
    · by_cases hi : i < h.length
      · rw [List.getElem?_append_left hi] at hx
        exact (hR.2 i x hx).kept (hold _ (by rw [hR.1]; omega))
      · rw [List.getElem?_append_right (by omega)] at hx
        cases hj : i - h.length with
        | zero =>
          rw [hj, List.getElem?_cons_zero] at hx
          cases hx
          refine ⟨fun q => absurd (show 54 < 50 from q) (by decide), fun _ => ?_⟩
          rw [show z + i = H.size by rw [hR.1]; omega, f2]
          show some (arrV _ _ _) = some (arrV _ _ _)
          rw [List.length_map, List.length_range]
          unfold arrV
          congr 2
          apply congrArg
          funext q
          have : ((List.range n.toNatClampNeg).map (fun i => Value.ref (h.length + 1 + i)))[q.val]? = some (Value.ref (h.length + 1 + q.val)) := by
            rw [List.getElem?_map, List.getElem?_range q.isLt]
            rfl
          dsimp only
          rw [List.getD_eq_getElem?_getD, this, if_pos q.isLt, hR.1]
          exact congrArg Value.ref (show z + h.length + 1 + q.val = z + (h.length + 1 + q.val) by omega)
        | succ j =>
          rw [hj, List.getElem?_cons_succ] at hx
          have hjl : j < n.toNatClampNeg := by
            have := (List.getElem?_eq_some_iff.mp hx).1
            rwa [List.length_replicate] at this
          rw [List.getElem?_replicate, if_pos hjl] at hx
          cases hx
          refine ⟨fun q => absurd (show 50 < 50 from q) (by decide), fun _ => ?_⟩
          rw [show z + i = H.size + 1 + j by rw [hR.1]; omega, hrow j hjl]
          show some ({ cls := tc 50, slots := Array.replicate k.toNatClampNeg (.int 0), vm := .none } : Cell) = _
          rw [arrV_new]
          exact congrArg some (hp_repl (v0 := .int 0) rfl)
  have hW := Kk F.heap locs ls hR1 (hS.grow (by omega) hold) hl
  obtain ⟨t, a1, b1⟩ := hW F rfl (by
    rw [show k1 + 0 + 1 + n.toNatClampNeg = k1 + (1 + n.toNatClampNeg) by omega, show n1 + 0 + n.toNatClampNeg + n.toNatClampNeg * k.toNatClampNeg = n1 + (n.toNatClampNeg + n.toNatClampNeg * k.toNatClampNeg) by omega] at X'
    exact X')
  have hsz : T.heap.size = z + h.length := by rw [hT]; exact hR.1
  rw [hsz] at step
  exact ⟨t, step t a1, b1⟩
