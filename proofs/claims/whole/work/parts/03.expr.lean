/-! expressions: what they compute, and that the machine does so -/
def fI (v : Int32) : jx_fI := fun _ h => some (v, h)
def fLd (i : Nat) : jx_fI := fun L h => match L[i]? with
  | some (some (.int x)) => some (x, h)
  | _ => none
def fLr (i : Nat) : jx_fR := fun L h => match L[i]? with
  | some (some (.ref a)) => some (a, h)
  | _ => none
theorem fLd_spec {i : Nat} {L : hp_L} {h h' : hp_H} {x : Int32} (e : fLd i L h = some (x, h')) : L[i]? = some (some (.int x)) ∧ h' = h := by
  unfold fLd at e
  split at e
  · rename_i y hy
    cases e
    exact ⟨hy, rfl⟩
  · cases e
theorem fLr_spec {i : Nat} {L : hp_L} {h h' : hp_H} {x : Nat} (e : fLr i L h = some (x, h')) : L[i]? = some (some (.ref x)) ∧ h' = h := by
  unfold fLr at e
  split at e
  · rename_i y hy
    cases e
    exact ⟨hy, rfl⟩
  · cases e
theorem ei_iconst {M : jx_M} {d pc : Nat} {n : Int} {v : Int32} (hdg : decode M.1 pc = .ok (.iconst n, 1)) (hv : Int32.ofInt n = v) : jx_EI M d pc (pc + 1) (fI v) := by
  intro p l e R s m args below meth c Q z D tc sc X L st h r h' k n hf hst hk hn K H locs ls hR hS hl
  replace hf : some (v, h) = some (r, h') := hf
  cases hf
  exact lv_iconst X.1 X.2.1 hdg hv (K H locs ls hR hS hl)
theorem ei_bipush {M : jx_M} {d pc : Nat} {n : Int} {v : Int32} (hdg : decode M.1 pc = .ok (.bipush n, 2)) (hv : (Int8.ofInt n).toInt32 = v) : jx_EI M d pc (pc + 2) (fI v) := by
  intro p l e R s m args below meth c Q z D tc sc X L st h r h' k n hf hst hk hn K H locs ls hR hS hl
  replace hf : some (v, h) = some (r, h') := hf
  cases hf
  exact lv_bipush X.1 X.2.1 hdg hv (K H locs ls hR hS hl)
theorem ei_sipush {M : jx_M} {d pc : Nat} {n : Int} {v : Int32} (hdg : decode M.1 pc = .ok (.sipush n, 3)) (hv : (Int16.ofInt n).toInt32 = v) : jx_EI M d pc (pc + 3) (fI v) := by
  intro p l e R s m args below meth c Q z D tc sc X L st h r h' k n hf hst hk hn K H locs ls hR hS hl
  replace hf : some (v, h) = some (r, h') := hf
  cases hf
  exact lv_sipush X.1 X.2.1 hdg hv (K H locs ls hR hS hl)
theorem ei_ldc {M : jx_M} {d pc index : Nat} {v : Int32} (hdg : decode M.1 pc = .ok (.ldc index, 2)) (hw : Cond.constant M.2.1 index v ∈ jx_ws) : jx_EI M d pc (pc + 2) (fI v) := by
  intro p l e R s m args below meth c Q z D tc sc X L st h r h' k n hf hst hk hn K H locs ls hR hS hl
  replace hf : some (v, h) = some (r, h') := hf
  cases hf
  exact lv_ldc X.1 X.2.1 X.2.2.2.1 (X.2.2.2.2.1 _ hw) hdg (K H locs ls hR hS hl)
theorem ei_iload_n {M : jx_M} {d pc i : Nat} {j : Fin 4} (hdg : decode M.1 pc = .ok (.iload_n j, 1)) (hi : (j : Nat) = i) : jx_EI M d pc (pc + 1) (fLd i) := by
  intro p l e R s m args below meth c Q z D tc sc X L st h r h' k n hf hst hk hn K H locs ls hR hS hl
  obtain ⟨e1, rfl⟩ := fLd_spec hf
  exact lv_iload_n X.1 X.2.1 hdg hi (hp_int hl e1) (K H locs ls hR hS hl)
theorem ei_iload {M : jx_M} {d pc i : Nat} (hdg : decode M.1 pc = .ok (.iload i, 2)) : jx_EI M d pc (pc + 2) (fLd i) := by
  intro p l e R s m args below meth c Q z D tc sc X L st h r h' k n hf hst hk hn K H locs ls hR hS hl
  obtain ⟨e1, rfl⟩ := fLd_spec hf
  exact lv_iload X.1 X.2.1 hdg (hp_int hl e1) (K H locs ls hR hS hl)
theorem er_aload_n {M : jx_M} {d pc i : Nat} {j : Fin 4} (hdg : decode M.1 pc = .ok (.aload_n j, 1)) (hi : (j : Nat) = i) : jx_ER M d pc (pc + 1) (fLr i) := by
  intro p l e R s m args below meth c Q z D tc sc X L st h r h' k n hf hst hk hn K H locs ls hR hS hl
  obtain ⟨e1, rfl⟩ := fLr_spec hf
  exact lv_aload_n X.1 X.2.1 hdg hi (hp_ref hl e1) (K H locs ls hR hS hl)
theorem er_aload {M : jx_M} {d pc i : Nat} (hdg : decode M.1 pc = .ok (.aload i, 2)) : jx_ER M d pc (pc + 2) (fLr i) := by
  intro p l e R s m args below meth c Q z D tc sc X L st h r h' k n hf hst hk hn K H locs ls hR hS hl
  obtain ⟨e1, rfl⟩ := fLr_spec hf
  exact lv_aload X.1 X.2.1 hdg (hp_ref hl e1) (K H locs ls hR hS hl)
/-! operators -/
def jAdd (x y : Int32) : Int32 := x + y
def jSub (x y : Int32) : Int32 := x - y
def jMul (x y : Int32) : Int32 := x * y
def jAnd (x y : Int32) : Int32 := x &&& y
def jOr (x y : Int32) : Int32 := x ||| y
def jXor (x y : Int32) : Int32 := x ^^^ y
def jShl (x y : Int32) : Int32 := x <<< (y &&& 31)
def jShr (x y : Int32) : Int32 := x >>> (y &&& 31)
def jUsh (x y : Int32) : Int32 := (x.toUInt32 >>> (y.toUInt32 &&& Int32.toUInt32 31)).toInt32
def jDiv (x y : Int32) : Int32 := x / y
def jRem (x y : Int32) : Int32 := x - x / y * y
def jx_op2 (M : jx_M) (pc : Nat) (op : Int32 → Int32 → Int32) : Prop :=
  ∀ (p : Program) (l : Launch) (e : Env) (R : Room) (s : State) (m : MethodId) (args : Array Value) (below : List Frame) (meth : Method) (c : Code) (Q : State → Prop) (H : Heap) (locs : List Loc) (k n : Nat) (ls : Array Slot) (rest : List Value) (x y : Int32), p.tables.exec = Jvm.exec → c.code = M.1 →
    W p l e R s m args below meth c H locs k n Q (F0 m (pc + 1) ls (.int (op x y) :: rest)) → W p l e R s m args below meth c H locs k n Q (F0 m pc ls (.int y :: .int x :: rest))
theorem o_add {M : jx_M} {pc : Nat} (hdg : decode M.1 pc = .ok (.iadd, 1)) : jx_op2 M pc jAdd := fun _ _ _ _ _ _ _ _ _ _ _ _ _ _ _ _ _ _ _ hx hb k => lv_iadd hx hb hdg k
theorem o_sub {M : jx_M} {pc : Nat} (hdg : decode M.1 pc = .ok (.isub, 1)) : jx_op2 M pc jSub := fun _ _ _ _ _ _ _ _ _ _ _ _ _ _ _ _ _ _ _ hx hb k => lv_isub hx hb hdg k
theorem o_mul {M : jx_M} {pc : Nat} (hdg : decode M.1 pc = .ok (.imul, 1)) : jx_op2 M pc jMul := fun _ _ _ _ _ _ _ _ _ _ _ _ _ _ _ _ _ _ _ hx hb k => lv_imul hx hb hdg k
theorem o_and {M : jx_M} {pc : Nat} (hdg : decode M.1 pc = .ok (.iand, 1)) : jx_op2 M pc jAnd := fun _ _ _ _ _ _ _ _ _ _ _ _ _ _ _ _ _ _ _ hx hb k => lv_iand hx hb hdg k
theorem o_or {M : jx_M} {pc : Nat} (hdg : decode M.1 pc = .ok (.ior, 1)) : jx_op2 M pc jOr := fun _ _ _ _ _ _ _ _ _ _ _ _ _ _ _ _ _ _ _ hx hb k => lv_ior hx hb hdg k
theorem o_xor {M : jx_M} {pc : Nat} (hdg : decode M.1 pc = .ok (.ixor, 1)) : jx_op2 M pc jXor := fun _ _ _ _ _ _ _ _ _ _ _ _ _ _ _ _ _ _ _ hx hb k => lv_ixor hx hb hdg k
theorem o_shl {M : jx_M} {pc : Nat} (hdg : decode M.1 pc = .ok (.ishl, 1)) : jx_op2 M pc jShl := fun _ _ _ _ _ _ _ _ _ _ _ _ _ _ _ _ _ _ _ hx hb k => lv_ishl hx hb hdg k
theorem o_shr {M : jx_M} {pc : Nat} (hdg : decode M.1 pc = .ok (.ishr, 1)) : jx_op2 M pc jShr := fun _ _ _ _ _ _ _ _ _ _ _ _ _ _ _ _ _ _ _ hx hb k => lv_ishr hx hb hdg k
theorem o_ush {M : jx_M} {pc : Nat} (hdg : decode M.1 pc = .ok (.iushr, 1)) : jx_op2 M pc jUsh := fun _ _ _ _ _ _ _ _ _ _ _ _ _ _ _ _ _ _ _ hx hb k => lv_iushr hx hb hdg rfl k
def fB (op : Int32 → Int32 → Int32) (fa fb : jx_fI) : jx_fI := fun L h => (fa L h).bind fun q => (fb L q.2).bind fun w => some (op q.1 w.1, w.2)
theorem ei_bin {M : jx_M} {d pc p1 p2 : Nat} {op : Int32 → Int32 → Int32} {fa fb : jx_fI} (ha : jx_EI M d pc p1 fa) (hb : jx_EI M (d + 1) p1 p2 fb) (ho : jx_op2 M p2 op) : jx_EI M d pc (p2 + 1) (fB op fa fb) := by
  intro p l e R s m args below meth c Q z D tc sc X L st h r h' k n hf hst hk hn K
  obtain ⟨⟨x, h1⟩, e1, hf⟩ := Option.bind_eq_some_iff.mp hf
  obtain ⟨⟨y, h2⟩, e2, hf⟩ := Option.bind_eq_some_iff.mp hf
  replace hf : some (op x y, h2) = some (r, h') := hf
  cases hf
  refine ha p l e R s m args below meth c Q z D tc sc X L st _ _ _ k n e1 hst hk hn ?_
  refine hb p l e R s m args below meth c Q z D tc sc X L (.int x :: st) _ _ _ k n e2 (hst.cons rfl) hk hn ?_
  intro H locs ls hR hS hl
  exact ho _ _ _ _ _ _ _ _ _ _ _ _ _ _ _ _ _ _ _ X.1 X.2.1 (K H locs ls hR hS hl)
/-- division and remainder: the divisor isn't 0 -/
def fD (op : Int32 → Int32 → Int32) (fa fb : jx_fI) : jx_fI := fun L h => (fa L h).bind fun q => (fb L q.2).bind fun w => if w.1 = 0 then none else some (op q.1 w.1, w.2)
theorem ei_div {M : jx_M} {d pc p1 p2 : Nat} {fa fb : jx_fI} (ha : jx_EI M d pc p1 fa) (hb : jx_EI M (d + 1) p1 p2 fb) (hdg : decode M.1 p2 = .ok (.idiv, 1)) : jx_EI M d pc (p2 + 1) (fD jDiv fa fb) := by
  intro p l e R s m args below meth c Q z D tc sc X L st h r h' k n hf hst hk hn K
  obtain ⟨⟨x, h1⟩, e1, hf⟩ := Option.bind_eq_some_iff.mp hf
  obtain ⟨⟨y, h2⟩, e2, hf⟩ := Option.bind_eq_some_iff.mp hf
  replace hf : (if y = 0 then none else some (jDiv x y, h2)) = some (r, h') := hf
  by_cases hy : y = 0
  · rw [if_pos hy] at hf
    cases hf
  rw [if_neg hy] at hf
  cases hf
  refine ha p l e R s m args below meth c Q z D tc sc X L st _ _ _ k n e1 hst hk hn ?_
  refine hb p l e R s m args below meth c Q z D tc sc X L (.int x :: st) _ _ _ k n e2 (hst.cons rfl) hk hn ?_
  intro H locs ls hR hS hl
  exact lv_idiv X.1 X.2.1 hdg hy (K H locs ls hR hS hl)
theorem ei_rem {M : jx_M} {d pc p1 p2 : Nat} {fa fb : jx_fI} (ha : jx_EI M d pc p1 fa) (hb : jx_EI M (d + 1) p1 p2 fb) (hdg : decode M.1 p2 = .ok (.irem, 1)) : jx_EI M d pc (p2 + 1) (fD jRem fa fb) := by
  intro p l e R s m args below meth c Q z D tc sc X L st h r h' k n hf hst hk hn K
  obtain ⟨⟨x, h1⟩, e1, hf⟩ := Option.bind_eq_some_iff.mp hf
  obtain ⟨⟨y, h2⟩, e2, hf⟩ := Option.bind_eq_some_iff.mp hf
  replace hf : (if y = 0 then none else some (jRem x y, h2)) = some (r, h') := hf
  by_cases hy : y = 0
  · rw [if_pos hy] at hf
    cases hf
  rw [if_neg hy] at hf
  cases hf
  refine ha p l e R s m args below meth c Q z D tc sc X L st _ _ _ k n e1 hst hk hn ?_
  refine hb p l e R s m args below meth c Q z D tc sc X L (.int x :: st) _ _ _ k n e2 (hst.cons rfl) hk hn ?_
  intro H locs ls hR hS hl
  exact lv_irem X.1 X.2.1 hdg hy (K H locs ls hR hS hl)
/-! fields -/
/-- field k of class ci, linked at index of class own's pool; plain or of a nest mate -/
def jx_FL (own : String) (index ci k : Nat) : Prop := ∃ (C : String) (T : u_T) (N : Nat), vwCl[ci]? = some (C, T, N) ∧ ci < 50 ∧ k < N ∧ (∀ w ∈ u_ws C T N, w ∈ jx_ws) ∧ (Cond.fieldLink own index (T k).1 (T k).2.1 (T k).2.2.1 ∈ jx_ws ∨ ∃ host : String, Cond.fieldLinkNest own index (T k).1 (T k).2.1 (T k).2.2.1 host ∈ jx_ws)
def hp_g (h : hp_H) (a ci k : Nat) : Option Value := (h[a]?).bind fun c => if c.1 = ci then c.2[k]? else none
theorem hp_g_spec {h : hp_H} {a ci k : Nat} {v : Value} (e : hp_g h a ci k = some v) : ∃ fs, h[a]? = some (ci, fs) ∧ fs[k]? = some v := by
  obtain ⟨⟨c, fs⟩, e1, e2⟩ := Option.bind_eq_some_iff.mp e
  replace e2 : (if c = ci then fs[k]? else none) = some v := e2
  by_cases hc : c = ci
  · rw [if_pos hc] at e2
    subst hc
    exact ⟨fs, e1, e2⟩
  · rw [if_neg hc] at e2
    cases e2
theorem jx_get {M : jx_M} {pc index ci k : Nat} (hF : jx_FL M.2.1 index ci k) (hdg : decode M.1 pc = .ok (.getfield index, 3)) {p : Program} {l : Launch} {e : Env} {R : Room} {s : State} {m : MethodId} {args : Array Value} {below : List Frame} {meth : Method} {c : Code} {Q : State → Prop} {z : Nat} {D : va_G} {tc : Nat → ClassId} {sc : Option Nat} (X : jx_C M p R s m args meth c z D tc sc) {h : hp_H} {a : Nat} {v : Value} (hg : hp_g h a ci k = some v) {H : Heap} (hR : hp_R z D tc h H) {locs : List Loc} {k0 n0 : Nat} {ls : Array Slot} {rest : List Value} (kk : W p l e R s m args below meth c H locs k0 n0 Q (F0 m (pc + 3) ls (hp_v z v :: rest))) : W p l e R s m args below meth c H locs k0 n0 Q (F0 m pc ls (.ref (z + a) :: rest)) := by
  obtain ⟨C, T, N, hc, hci, hk, hin, hlk⟩ := hF
  obtain ⟨fs, hf, hv⟩ := hp_g_spec hg
  obtain ⟨hx, hb, hml, hown, hts, ⟨hK, -⟩, -⟩ := X
  obtain ⟨r, h1, h2, cell, q1, q2, q3, q4⟩ := (hR.2 a _ hf).1 hci
  have hr : r = (C, T, N) := Option.some.inj (h1.symm.trans hc)
  subst hr
  obtain ⟨hS, hfc, kC, hkC, hkind⟩ := hK.1 ci _ hc
  obtain ⟨cf, kf, fi, f, hi, hsl⟩ := hS k hk
  have hsl2 : cell.slots[f.slot]? = some (hp_v z v) := by
    rw [hsl, q4 k hk]
    simp [List.getD_eq_getElem?_getD, hv]
  have hst := (u_facts hfc hkC (u_lays hts hin hk) hi).1
  rcases hlk with hlk | ⟨host, hlk⟩
  · exact W.getf hx hb hown (hts _ hlk) hi hst q1 (by rw [q3]; exact fun h => by cases h) (v := hp_v z v) hsl2 rfl rfl hdg kk
  · exact va_Wgetf hx hb hown (hts _ hlk) hi hst q1 (by rw [q3]; exact fun h => by cases h) (v := hp_v z v) hsl2 rfl rfl hdg kk
def gI (ci k : Nat) (f : jx_fR) : jx_fI := fun L h => (f L h).bind fun q => match hp_g q.2 q.1 ci k with
  | some (.int x) => some (x, q.2)
  | _ => none
def gR (ci k : Nat) (f : jx_fR) : jx_fR := fun L h => (f L h).bind fun q => match hp_g q.2 q.1 ci k with
  | some (.ref a) => some (a, q.2)
  | _ => none
theorem ei_get {M : jx_M} {d pc p1 index ci k : Nat} {f : jx_fR} (hf0 : jx_ER M d pc p1 f) (hF : jx_FL M.2.1 index ci k) (hdg : decode M.1 p1 = .ok (.getfield index, 3)) : jx_EI M d pc (p1 + 3) (gI ci k f) := by
  intro p l e R s m args below meth c Q z D tc sc X L st h r h' k0 n0 hf hst hk hn K
  obtain ⟨⟨a, h1⟩, e1, hf⟩ := Option.bind_eq_some_iff.mp hf
  refine hf0 p l e R s m args below meth c Q z D tc sc X L st _ _ _ k0 n0 e1 hst hk hn ?_
  intro H locs ls hR hS hl
  split at hf
  · rename_i x hx
    cases hf
    exact jx_get hF hdg X hx hR (K H locs ls hR hS hl)
  · cases hf
theorem er_get {M : jx_M} {d pc p1 index ci k : Nat} {f : jx_fR} (hf0 : jx_ER M d pc p1 f) (hF : jx_FL M.2.1 index ci k) (hdg : decode M.1 p1 = .ok (.getfield index, 3)) : jx_ER M d pc (p1 + 3) (gR ci k f) := by
  intro p l e R s m args below meth c Q z D tc sc X L st h r h' k0 n0 hf hst hk hn K
  obtain ⟨⟨a, h1⟩, e1, hf⟩ := Option.bind_eq_some_iff.mp hf
  refine hf0 p l e R s m args below meth c Q z D tc sc X L st _ _ _ k0 n0 e1 hst hk hn ?_
  intro H locs ls hR hS hl
  split at hf
  · rename_i x hx
    cases hf
    exact jx_get hF hdg X hx hR (K H locs ls hR hS hl)
  · cases hf
/-! arrays -/
/-- the place of an array's cell, if the index is in it -/
def hp_i (h : hp_H) (a t : Nat) (i : Int32) : Option Value := (h[a]?).bind fun c => if c.1 = t ∧ ¬ (i < 0 ∨ c.2.length ≤ i.toNatClampNeg) then c.2[i.toNatClampNeg]? else none
theorem hp_i_spec {h : hp_H} {a t : Nat} {i : Int32} {v : Value} (e : hp_i h a t i = some v) : ∃ fs, h[a]? = some (t, fs) ∧ ¬ (i < 0 ∨ fs.length ≤ i.toNatClampNeg) ∧ fs[i.toNatClampNeg]? = some v := by
  obtain ⟨⟨c, fs⟩, e1, e2⟩ := Option.bind_eq_some_iff.mp e
  replace e2 : (if c = t ∧ ¬ (i < 0 ∨ fs.length ≤ i.toNatClampNeg) then fs[i.toNatClampNeg]? else none) = some v := e2
  split at e2
  · rename_i hc
    obtain ⟨rfl, h2⟩ := hc
    exact ⟨fs, e1, h2, e2⟩
  · cases e2
def aI (t : Nat) (fa : jx_fR) (fi : jx_fI) : jx_fI := fun L h => (fa L h).bind fun q => (fi L q.2).bind fun w => match hp_i w.2 q.1 t w.1 with
  | some (.int x) => some (x, w.2)
  | _ => none
def aR (t : Nat) (fa : jx_fR) (fi : jx_fI) : jx_fR := fun L h => (fa L h).bind fun q => (fi L q.2).bind fun w => match hp_i w.2 q.1 t w.1 with
  | some (.ref x) => some (x, w.2)
  | _ => none
theorem ei_iald {M : jx_M} {d pc p1 p2 : Nat} {fa : jx_fR} {fi : jx_fI} (ha : jx_ER M d pc p1 fa) (hi : jx_EI M (d + 1) p1 p2 fi) (hdg : decode M.1 p2 = .ok (.iaload, 1)) : jx_EI M d pc (p2 + 1) (aI 50 fa fi) := by
  intro p l e R s m args below meth c Q z D tc sc X L st h r h' k0 n0 hf hst hk hn K
  obtain ⟨⟨a, h1⟩, e1, hf⟩ := Option.bind_eq_some_iff.mp hf
  obtain ⟨⟨i, h2⟩, e2, hf⟩ := Option.bind_eq_some_iff.mp hf
  refine ha p l e R s m args below meth c Q z D tc sc X L st _ _ _ k0 n0 e1 hst hk hn ?_
  refine hi p l e R s m args below meth c Q z D tc sc X L (.ref a :: st) _ _ _ k0 n0 e2 (hst.cons rfl) hk hn ?_
  intro H locs ls hR hS hl
  split at hf
  · rename_i x hx
    cases hf
    obtain ⟨fs, g1, g2, g3⟩ := hp_i_spec hx
    have hc := (hR.2 a _ g1).2 (Nat.le_of_ble_eq_true rfl)
    have hlt : i.toNatClampNeg < fs.length := Nat.not_le.mp fun q => g2 (Or.inr q)
    exact W.iald (v := .int r) X.1 X.2.1 hc ((X.2.2.2.2.2.1.1.2 0 _ rfl).1 _ _) (fun q => by cases q) (by rw [arrV_size]; exact g2) (by rw [arrV_read _ _ hlt]; simp [List.getD_eq_getElem?_getD, g3, hp_v]) rfl rfl hdg (K H locs ls hR hS hl)
  · cases hf
theorem ei_bald {M : jx_M} {d pc p1 p2 : Nat} {fa : jx_fR} {fi : jx_fI} (ha : jx_ER M d pc p1 fa) (hi : jx_EI M (d + 1) p1 p2 fi) (hdg : decode M.1 p2 = .ok (.baload, 1)) : jx_EI M d pc (p2 + 1) (aI 51 fa fi) := by
  intro p l e R s m args below meth c Q z D tc sc X L st h r h' k0 n0 hf hst hk hn K
  obtain ⟨⟨a, h1⟩, e1, hf⟩ := Option.bind_eq_some_iff.mp hf
  obtain ⟨⟨i, h2⟩, e2, hf⟩ := Option.bind_eq_some_iff.mp hf
  refine ha p l e R s m args below meth c Q z D tc sc X L st _ _ _ k0 n0 e1 hst hk hn ?_
  refine hi p l e R s m args below meth c Q z D tc sc X L (.ref a :: st) _ _ _ k0 n0 e2 (hst.cons rfl) hk hn ?_
  intro H locs ls hR hS hl
  split at hf
  · rename_i x hx
    cases hf
    obtain ⟨fs, g1, g2, g3⟩ := hp_i_spec hx
    have hc := (hR.2 a _ g1).2 (Nat.le_of_ble_eq_true rfl)
    have hlt : i.toNatClampNeg < fs.length := Nat.not_le.mp fun q => g2 (Or.inr q)
    exact W.zald (v := .int r) X.1 X.2.1 hc ((X.2.2.2.2.2.1.1.2 1 _ rfl).1 _ _) (fun q => by cases q) (by rw [arrV_size]; exact g2) (by rw [arrV_read _ _ hlt]; simp [List.getD_eq_getElem?_getD, g3, hp_v]) rfl rfl hdg (K H locs ls hR hS hl)
  · cases hf
/-- an element of an array of references: t - 50 is its place in the table of array classes -/
theorem er_aald {M : jx_M} {d pc p1 p2 t : Nat} {fa : jx_fR} {fi : jx_fI} (ht : t = 52 ∨ t = 53 ∨ t = 54) (ha : jx_ER M d pc p1 fa) (hi : jx_EI M (d + 1) p1 p2 fi) (hdg : decode M.1 p2 = .ok (.aaload, 1)) : jx_ER M d pc (p2 + 1) (aR t fa fi) := by
  intro p l e R s m args below meth c Q z D tc sc X L st h r h' k0 n0 hf hst hk hn K
  obtain ⟨⟨a, h1⟩, e1, hf⟩ := Option.bind_eq_some_iff.mp hf
  obtain ⟨⟨i, h2⟩, e2, hf⟩ := Option.bind_eq_some_iff.mp hf
  refine ha p l e R s m args below meth c Q z D tc sc X L st _ _ _ k0 n0 e1 hst hk hn ?_
  refine hi p l e R s m args below meth c Q z D tc sc X L (.ref a :: st) _ _ _ k0 n0 e2 (hst.cons rfl) hk hn ?_
  intro H locs ls hR hS hl
  split at hf
  · rename_i x hx
    cases hf
    obtain ⟨fs, g1, g2, g3⟩ := hp_i_spec hx
    have hlt : i.toNatClampNeg < fs.length := Nat.not_le.mp fun q => g2 (Or.inr q)
    rcases ht with rfl | rfl | rfl
    · exact W.aald (v := .ref (z + r)) X.1 X.2.1 ((hR.2 a _ g1).2 (Nat.le_of_ble_eq_true rfl)) ((X.2.2.2.2.2.1.1.2 2 _ rfl).1 _ _) rfl (fun q => by cases q) (by rw [arrV_size]; exact g2) (by rw [arrV_read _ _ hlt]; simp [List.getD_eq_getElem?_getD, g3, hp_v]) rfl rfl hdg (K H locs ls hR hS hl)
    · exact W.aald (v := .ref (z + r)) X.1 X.2.1 ((hR.2 a _ g1).2 (Nat.le_of_ble_eq_true rfl)) ((X.2.2.2.2.2.1.1.2 3 _ rfl).1 _ _) rfl (fun q => by cases q) (by rw [arrV_size]; exact g2) (by rw [arrV_read _ _ hlt]; simp [List.getD_eq_getElem?_getD, g3, hp_v]) rfl rfl hdg (K H locs ls hR hS hl)
    · exact W.aald (v := .ref (z + r)) X.1 X.2.1 ((hR.2 a _ g1).2 (Nat.le_of_ble_eq_true rfl)) ((X.2.2.2.2.2.1.1.2 4 _ rfl).1 _ _) rfl (fun q => by cases q) (by rw [arrV_size]; exact g2) (by rw [arrV_read _ _ hlt]; simp [List.getD_eq_getElem?_getD, g3, hp_v]) rfl rfl hdg (K H locs ls hR hS hl)
  · cases hf
def aN (t : Nat) (fa : jx_fR) : jx_fI := fun L h => (fa L h).bind fun q => (q.2[q.1]?).bind fun c => if c.1 = t then some (Int32.ofNat c.2.length, q.2) else none
theorem ei_alen {M : jx_M} {d pc p1 : Nat} {fa : jx_fR} (ha : jx_ER M d pc p1 fa) (hdg : decode M.1 p1 = .ok (.arraylength, 1)) : jx_EI M d pc (p1 + 1) (aN 50 fa) := by
  intro p l e R s m args below meth c Q z D tc sc X L st h r h' k0 n0 hf hst hk hn K
  obtain ⟨⟨a, h1⟩, e1, hf⟩ := Option.bind_eq_some_iff.mp hf
  obtain ⟨⟨t, fs⟩, e2, hf⟩ := Option.bind_eq_some_iff.mp hf
  refine ha p l e R s m args below meth c Q z D tc sc X L st _ _ _ k0 n0 e1 hst hk hn ?_
  intro H locs ls hR hS hl
  replace hf : (if t = 50 then some (Int32.ofNat fs.length, h1) else none) = some (r, h') := hf
  split at hf
  · rename_i ht
    subst ht
    cases hf
    exact W.alen X.1 X.2.1 ((hR.2 a _ e2).2 (Nat.le_of_ble_eq_true rfl)) ((X.2.2.2.2.2.1.1.2 0 _ rfl).1 _ _) (by rw [arrV_size]) rfl rfl hdg (K H locs ls hR hS hl)
  · cases hf
/-! conditions -/
def jLt (x y : Int32) : Bool := decide (x < y)
def jGe (x y : Int32) : Bool := decide (y ≤ x)
def jGt (x y : Int32) : Bool := decide (y < x)
def jLe (x y : Int32) : Bool := decide (x ≤ y)
def jEq (x y : Int32) : Bool := decide (x = y)
def jNe (x y : Int32) : Bool := decide (¬ x = y)
theorem jLt_t {x y : Int32} : jLt x y = true ↔ x < y := decide_eq_true_iff
theorem jGe_t {x y : Int32} : jGe x y = true ↔ y ≤ x := decide_eq_true_iff
theorem jGt_t {x y : Int32} : jGt x y = true ↔ y < x := decide_eq_true_iff
theorem jLe_t {x y : Int32} : jLe x y = true ↔ x ≤ y := decide_eq_true_iff
theorem jEq_t {x y : Int32} : jEq x y = true ↔ x = y := decide_eq_true_iff
theorem jNe_t {x y : Int32} : jNe x y = true ↔ ¬ x = y := decide_eq_true_iff
theorem jLt_f {x y : Int32} : jLt x y = false ↔ y ≤ x := by rw [jLt, decide_eq_false_iff_not, Int32.not_lt]
theorem jGe_f {x y : Int32} : jGe x y = false ↔ x < y := by rw [jGe, decide_eq_false_iff_not, Int32.not_le]
theorem jGt_f {x y : Int32} : jGt x y = false ↔ x ≤ y := by rw [jGt, decide_eq_false_iff_not, Int32.not_lt]
theorem jLe_f {x y : Int32} : jLe x y = false ↔ y < x := by rw [jLe, decide_eq_false_iff_not, Int32.not_le]
theorem jEq_f {x y : Int32} : jEq x y = false ↔ ¬ x = y := by rw [jEq, decide_eq_false_iff_not]
theorem jNe_f {x y : Int32} : jNe x y = false ↔ x = y := by rw [jNe, decide_eq_false_iff_not, Decidable.not_not]
/-- a compare of two ints: to tg if it is b0 -/
def jx_cmp (M : jx_M) (pc tg : Nat) (b0 : Bool) (op : Int32 → Int32 → Bool) : Prop :=
  ∀ (p : Program) (l : Launch) (e : Env) (R : Room) (s : State) (m : MethodId) (args : Array Value) (below : List Frame) (meth : Method) (c : Code) (Q : State → Prop) (H : Heap) (locs : List Loc) (k n : Nat) (ls : Array Slot) (rest : List Value) (x y : Int32), p.tables.exec = Jvm.exec → c.code = M.1 →
    (op x y = b0 → W p l e R s m args below meth c H locs k n Q (F0 m tg ls rest)) → (op x y = !b0 → W p l e R s m args below meth c H locs k n Q (F0 m (pc + 3) ls rest)) → W p l e R s m args below meth c H locs k n Q (F0 m pc ls (.int y :: .int x :: rest))
/-- .. of an int with 0 -/
def jx_cm0 (M : jx_M) (pc tg : Nat) (b0 : Bool) (op : Int32 → Int32 → Bool) : Prop :=
  ∀ (p : Program) (l : Launch) (e : Env) (R : Room) (s : State) (m : MethodId) (args : Array Value) (below : List Frame) (meth : Method) (c : Code) (Q : State → Prop) (H : Heap) (locs : List Loc) (k n : Nat) (ls : Array Slot) (rest : List Value) (x : Int32), p.tables.exec = Jvm.exec → c.code = M.1 →
    (op x 0 = b0 → W p l e R s m args below meth c H locs k n Q (F0 m tg ls rest)) → (op x 0 = !b0 → W p l e R s m args below meth c H locs k n Q (F0 m (pc + 3) ls rest)) → W p l e R s m args below meth c H locs k n Q (F0 m pc ls (.int x :: rest))
theorem k_lt_t {M : jx_M} {pc tg : Nat} {off : Int} (hdg : decode M.1 pc = .ok (.if_icmp .lt off, 3)) (ht : (pc : Int) + off = (tg : Int)) : jx_cmp M pc tg true jLt := by
  intro p l e R s m args below meth c Q H locs k n ls rest x y hx hb kt kf
  exact lv_icmp_lt hx hb hdg ht (fun h => kt (jLt_t.mpr h)) (fun h => kf (by cases hq : jLt x y <;> first | rfl | exact absurd (jLt_t.mp hq) h | exact absurd h (jLt_t.mp hq)))
theorem k_lt_t0 {M : jx_M} {pc tg : Nat} {off : Int} (hdg : decode M.1 pc = .ok (.ifCond .lt off, 3)) (ht : (pc : Int) + off = (tg : Int)) : jx_cm0 M pc tg true jLt := by
  intro p l e R s m args below meth c Q H locs k n ls rest x hx hb kt kf
  exact lv_if_lt hx hb hdg ht (fun h => kt (jLt_t.mpr h)) (fun h => kf (by cases hq : jLt x 0 <;> first | rfl | exact absurd (jLt_t.mp hq) h | exact absurd h (jLt_t.mp hq)))
theorem k_lt_f {M : jx_M} {pc tg : Nat} {off : Int} (hdg : decode M.1 pc = .ok (.if_icmp .ge off, 3)) (ht : (pc : Int) + off = (tg : Int)) : jx_cmp M pc tg false jLt := by
  intro p l e R s m args below meth c Q H locs k n ls rest x y hx hb kt kf
  exact lv_icmp_ge hx hb hdg ht (fun h => kt (jLt_f.mpr h)) (fun h => kf (by cases hq : jLt x y <;> first | rfl | exact absurd (jLt_f.mp hq) h | exact absurd h (jLt_f.mp hq)))
theorem k_lt_f0 {M : jx_M} {pc tg : Nat} {off : Int} (hdg : decode M.1 pc = .ok (.ifCond .ge off, 3)) (ht : (pc : Int) + off = (tg : Int)) : jx_cm0 M pc tg false jLt := by
  intro p l e R s m args below meth c Q H locs k n ls rest x hx hb kt kf
  exact lv_if_ge hx hb hdg ht (fun h => kt (jLt_f.mpr h)) (fun h => kf (by cases hq : jLt x 0 <;> first | rfl | exact absurd (jLt_f.mp hq) h | exact absurd h (jLt_f.mp hq)))
theorem k_ge_t {M : jx_M} {pc tg : Nat} {off : Int} (hdg : decode M.1 pc = .ok (.if_icmp .ge off, 3)) (ht : (pc : Int) + off = (tg : Int)) : jx_cmp M pc tg true jGe := by
  intro p l e R s m args below meth c Q H locs k n ls rest x y hx hb kt kf
  exact lv_icmp_ge hx hb hdg ht (fun h => kt (jGe_t.mpr h)) (fun h => kf (by cases hq : jGe x y <;> first | rfl | exact absurd (jGe_t.mp hq) h | exact absurd h (jGe_t.mp hq)))
theorem k_ge_t0 {M : jx_M} {pc tg : Nat} {off : Int} (hdg : decode M.1 pc = .ok (.ifCond .ge off, 3)) (ht : (pc : Int) + off = (tg : Int)) : jx_cm0 M pc tg true jGe := by
  intro p l e R s m args below meth c Q H locs k n ls rest x hx hb kt kf
  exact lv_if_ge hx hb hdg ht (fun h => kt (jGe_t.mpr h)) (fun h => kf (by cases hq : jGe x 0 <;> first | rfl | exact absurd (jGe_t.mp hq) h | exact absurd h (jGe_t.mp hq)))
theorem k_ge_f {M : jx_M} {pc tg : Nat} {off : Int} (hdg : decode M.1 pc = .ok (.if_icmp .lt off, 3)) (ht : (pc : Int) + off = (tg : Int)) : jx_cmp M pc tg false jGe := by
  intro p l e R s m args below meth c Q H locs k n ls rest x y hx hb kt kf
  exact lv_icmp_lt hx hb hdg ht (fun h => kt (jGe_f.mpr h)) (fun h => kf (by cases hq : jGe x y <;> first | rfl | exact absurd (jGe_f.mp hq) h | exact absurd h (jGe_f.mp hq)))
theorem k_ge_f0 {M : jx_M} {pc tg : Nat} {off : Int} (hdg : decode M.1 pc = .ok (.ifCond .lt off, 3)) (ht : (pc : Int) + off = (tg : Int)) : jx_cm0 M pc tg false jGe := by
  intro p l e R s m args below meth c Q H locs k n ls rest x hx hb kt kf
  exact lv_if_lt hx hb hdg ht (fun h => kt (jGe_f.mpr h)) (fun h => kf (by cases hq : jGe x 0 <;> first | rfl | exact absurd (jGe_f.mp hq) h | exact absurd h (jGe_f.mp hq)))
theorem k_gt_t {M : jx_M} {pc tg : Nat} {off : Int} (hdg : decode M.1 pc = .ok (.if_icmp .gt off, 3)) (ht : (pc : Int) + off = (tg : Int)) : jx_cmp M pc tg true jGt := by
  intro p l e R s m args below meth c Q H locs k n ls rest x y hx hb kt kf
  exact lv_icmp_gt hx hb hdg ht (fun h => kt (jGt_t.mpr h)) (fun h => kf (by cases hq : jGt x y <;> first | rfl | exact absurd (jGt_t.mp hq) h | exact absurd h (jGt_t.mp hq)))
theorem k_gt_t0 {M : jx_M} {pc tg : Nat} {off : Int} (hdg : decode M.1 pc = .ok (.ifCond .gt off, 3)) (ht : (pc : Int) + off = (tg : Int)) : jx_cm0 M pc tg true jGt := by
  intro p l e R s m args below meth c Q H locs k n ls rest x hx hb kt kf
  exact lv_if_gt hx hb hdg ht (fun h => kt (jGt_t.mpr h)) (fun h => kf (by cases hq : jGt x 0 <;> first | rfl | exact absurd (jGt_t.mp hq) h | exact absurd h (jGt_t.mp hq)))
theorem k_gt_f {M : jx_M} {pc tg : Nat} {off : Int} (hdg : decode M.1 pc = .ok (.if_icmp .le off, 3)) (ht : (pc : Int) + off = (tg : Int)) : jx_cmp M pc tg false jGt := by
  intro p l e R s m args below meth c Q H locs k n ls rest x y hx hb kt kf
  exact lv_icmp_le hx hb hdg ht (fun h => kt (jGt_f.mpr h)) (fun h => kf (by cases hq : jGt x y <;> first | rfl | exact absurd (jGt_f.mp hq) h | exact absurd h (jGt_f.mp hq)))
theorem k_gt_f0 {M : jx_M} {pc tg : Nat} {off : Int} (hdg : decode M.1 pc = .ok (.ifCond .le off, 3)) (ht : (pc : Int) + off = (tg : Int)) : jx_cm0 M pc tg false jGt := by
  intro p l e R s m args below meth c Q H locs k n ls rest x hx hb kt kf
  exact lv_if_le hx hb hdg ht (fun h => kt (jGt_f.mpr h)) (fun h => kf (by cases hq : jGt x 0 <;> first | rfl | exact absurd (jGt_f.mp hq) h | exact absurd h (jGt_f.mp hq)))
theorem k_le_t {M : jx_M} {pc tg : Nat} {off : Int} (hdg : decode M.1 pc = .ok (.if_icmp .le off, 3)) (ht : (pc : Int) + off = (tg : Int)) : jx_cmp M pc tg true jLe := by
  intro p l e R s m args below meth c Q H locs k n ls rest x y hx hb kt kf
  exact lv_icmp_le hx hb hdg ht (fun h => kt (jLe_t.mpr h)) (fun h => kf (by cases hq : jLe x y <;> first | rfl | exact absurd (jLe_t.mp hq) h | exact absurd h (jLe_t.mp hq)))
theorem k_le_t0 {M : jx_M} {pc tg : Nat} {off : Int} (hdg : decode M.1 pc = .ok (.ifCond .le off, 3)) (ht : (pc : Int) + off = (tg : Int)) : jx_cm0 M pc tg true jLe := by
  intro p l e R s m args below meth c Q H locs k n ls rest x hx hb kt kf
  exact lv_if_le hx hb hdg ht (fun h => kt (jLe_t.mpr h)) (fun h => kf (by cases hq : jLe x 0 <;> first | rfl | exact absurd (jLe_t.mp hq) h | exact absurd h (jLe_t.mp hq)))
theorem k_le_f {M : jx_M} {pc tg : Nat} {off : Int} (hdg : decode M.1 pc = .ok (.if_icmp .gt off, 3)) (ht : (pc : Int) + off = (tg : Int)) : jx_cmp M pc tg false jLe := by
  intro p l e R s m args below meth c Q H locs k n ls rest x y hx hb kt kf
  exact lv_icmp_gt hx hb hdg ht (fun h => kt (jLe_f.mpr h)) (fun h => kf (by cases hq : jLe x y <;> first | rfl | exact absurd (jLe_f.mp hq) h | exact absurd h (jLe_f.mp hq)))
theorem k_le_f0 {M : jx_M} {pc tg : Nat} {off : Int} (hdg : decode M.1 pc = .ok (.ifCond .gt off, 3)) (ht : (pc : Int) + off = (tg : Int)) : jx_cm0 M pc tg false jLe := by
  intro p l e R s m args below meth c Q H locs k n ls rest x hx hb kt kf
  exact lv_if_gt hx hb hdg ht (fun h => kt (jLe_f.mpr h)) (fun h => kf (by cases hq : jLe x 0 <;> first | rfl | exact absurd (jLe_f.mp hq) h | exact absurd h (jLe_f.mp hq)))
theorem k_eq_t {M : jx_M} {pc tg : Nat} {off : Int} (hdg : decode M.1 pc = .ok (.if_icmp .eq off, 3)) (ht : (pc : Int) + off = (tg : Int)) : jx_cmp M pc tg true jEq := by
  intro p l e R s m args below meth c Q H locs k n ls rest x y hx hb kt kf
  exact lv_icmp_eq hx hb hdg ht (fun h => kt (jEq_t.mpr h)) (fun h => kf (by cases hq : jEq x y <;> first | rfl | exact absurd (jEq_t.mp hq) h | exact absurd h (jEq_t.mp hq)))
theorem k_eq_t0 {M : jx_M} {pc tg : Nat} {off : Int} (hdg : decode M.1 pc = .ok (.ifCond .eq off, 3)) (ht : (pc : Int) + off = (tg : Int)) : jx_cm0 M pc tg true jEq := by
  intro p l e R s m args below meth c Q H locs k n ls rest x hx hb kt kf
  exact lv_if_eq hx hb hdg ht (fun h => kt (jEq_t.mpr h)) (fun h => kf (by cases hq : jEq x 0 <;> first | rfl | exact absurd (jEq_t.mp hq) h | exact absurd h (jEq_t.mp hq)))
theorem k_eq_f {M : jx_M} {pc tg : Nat} {off : Int} (hdg : decode M.1 pc = .ok (.if_icmp .ne off, 3)) (ht : (pc : Int) + off = (tg : Int)) : jx_cmp M pc tg false jEq := by
  intro p l e R s m args below meth c Q H locs k n ls rest x y hx hb kt kf
  exact lv_icmp_ne hx hb hdg ht (fun h => kt (jEq_f.mpr h)) (fun h => kf (by cases hq : jEq x y <;> first | rfl | exact absurd (jEq_f.mp hq) h | exact absurd h (jEq_f.mp hq)))
theorem k_eq_f0 {M : jx_M} {pc tg : Nat} {off : Int} (hdg : decode M.1 pc = .ok (.ifCond .ne off, 3)) (ht : (pc : Int) + off = (tg : Int)) : jx_cm0 M pc tg false jEq := by
  intro p l e R s m args below meth c Q H locs k n ls rest x hx hb kt kf
  exact lv_if_ne hx hb hdg ht (fun h => kt (jEq_f.mpr h)) (fun h => kf (by cases hq : jEq x 0 <;> first | rfl | exact absurd (jEq_f.mp hq) h | exact absurd h (jEq_f.mp hq)))
theorem k_ne_t {M : jx_M} {pc tg : Nat} {off : Int} (hdg : decode M.1 pc = .ok (.if_icmp .ne off, 3)) (ht : (pc : Int) + off = (tg : Int)) : jx_cmp M pc tg true jNe := by
  intro p l e R s m args below meth c Q H locs k n ls rest x y hx hb kt kf
  exact lv_icmp_ne hx hb hdg ht (fun h => kt (jNe_t.mpr h)) (fun h => kf (by cases hq : jNe x y <;> first | rfl | exact absurd (jNe_t.mp hq) h | exact absurd h (jNe_t.mp hq)))
theorem k_ne_t0 {M : jx_M} {pc tg : Nat} {off : Int} (hdg : decode M.1 pc = .ok (.ifCond .ne off, 3)) (ht : (pc : Int) + off = (tg : Int)) : jx_cm0 M pc tg true jNe := by
  intro p l e R s m args below meth c Q H locs k n ls rest x hx hb kt kf
  exact lv_if_ne hx hb hdg ht (fun h => kt (jNe_t.mpr h)) (fun h => kf (by cases hq : jNe x 0 <;> first | rfl | exact absurd (jNe_t.mp hq) h | exact absurd h (jNe_t.mp hq)))
theorem k_ne_f {M : jx_M} {pc tg : Nat} {off : Int} (hdg : decode M.1 pc = .ok (.if_icmp .eq off, 3)) (ht : (pc : Int) + off = (tg : Int)) : jx_cmp M pc tg false jNe := by
  intro p l e R s m args below meth c Q H locs k n ls rest x y hx hb kt kf
  exact lv_icmp_eq hx hb hdg ht (fun h => kt (jNe_f.mpr h)) (fun h => kf (by cases hq : jNe x y <;> first | rfl | exact absurd (jNe_f.mp hq) h | exact absurd h (jNe_f.mp hq)))
theorem k_ne_f0 {M : jx_M} {pc tg : Nat} {off : Int} (hdg : decode M.1 pc = .ok (.ifCond .eq off, 3)) (ht : (pc : Int) + off = (tg : Int)) : jx_cm0 M pc tg false jNe := by
  intro p l e R s m args below meth c Q H locs k n ls rest x hx hb kt kf
  exact lv_if_eq hx hb hdg ht (fun h => kt (jNe_f.mpr h)) (fun h => kf (by cases hq : jNe x 0 <;> first | rfl | exact absurd (jNe_f.mp hq) h | exact absurd h (jNe_f.mp hq)))
def fC (op : Int32 → Int32 → Bool) (fa fb : jx_fI) : jx_fB := fun L h => (fa L h).bind fun q => (fb L q.2).bind fun w => some (op q.1 w.1, w.2)
theorem c2_cmt {M : jx_M} {d pc p1 p2 tg : Nat} {op : Int32 → Int32 → Bool} {fa fb : jx_fI} {mc ms : Nat} (ha : jx_EIc M d pc p1 fa mc ms) (hb : jx_EI M (d + 1) p1 p2 fb) (ho : jx_cmp M p2 tg true op) : jx_C2c M d pc tg (p2 + 3) (fC op fa fb) mc ms := by
  intro p l e R s m args below meth c Q z D tc sc X L st h r h' k n hf hst hk hn K1 K2
  obtain ⟨⟨x, h1⟩, e1, hf⟩ := Option.bind_eq_some_iff.mp hf
  obtain ⟨⟨y, h2⟩, e2, hf⟩ := Option.bind_eq_some_iff.mp hf
  replace hf : some (op x y, h2) = some (r, h') := hf
  cases hf
  refine ha p l e R s m args below meth c Q z D tc sc X L st _ _ _ k n e1 hst hk hn ?_
  refine hb p l e R s m args below meth c Q z D tc sc X L (.int x :: st) _ _ _ (k + mc) (n + ms) e2 (hst.cons rfl) hk hn ?_
  intro H locs ls hR hS hl
  exact ho _ _ _ _ _ _ _ _ _ _ _ _ _ _ _ _ _ _ _ X.1 X.2.1 (fun q => K1 q H locs ls hR hS hl) (fun q => K2 q H locs ls hR hS hl)
theorem c2_cmf {M : jx_M} {d pc p1 p2 tg : Nat} {op : Int32 → Int32 → Bool} {fa fb : jx_fI} {mc ms : Nat} (ha : jx_EIc M d pc p1 fa mc ms) (hb : jx_EI M (d + 1) p1 p2 fb) (ho : jx_cmp M p2 tg false op) : jx_C2c M d pc (p2 + 3) tg (fC op fa fb) mc ms := by
  intro p l e R s m args below meth c Q z D tc sc X L st h r h' k n hf hst hk hn K1 K2
  obtain ⟨⟨x, h1⟩, e1, hf⟩ := Option.bind_eq_some_iff.mp hf
  obtain ⟨⟨y, h2⟩, e2, hf⟩ := Option.bind_eq_some_iff.mp hf
  replace hf : some (op x y, h2) = some (r, h') := hf
  cases hf
  refine ha p l e R s m args below meth c Q z D tc sc X L st _ _ _ k n e1 hst hk hn ?_
  refine hb p l e R s m args below meth c Q z D tc sc X L (.int x :: st) _ _ _ (k + mc) (n + ms) e2 (hst.cons rfl) hk hn ?_
  intro H locs ls hR hS hl
  exact ho _ _ _ _ _ _ _ _ _ _ _ _ _ _ _ _ _ _ _ X.1 X.2.1 (fun q => K2 q H locs ls hR hS hl) (fun q => K1 q H locs ls hR hS hl)
theorem c2_c0t {M : jx_M} {d pc p1 tg : Nat} {op : Int32 → Int32 → Bool} {fa : jx_fI} (ha : jx_EI M d pc p1 fa) (ho : jx_cm0 M p1 tg true op) : jx_C2 M d pc tg (p1 + 3) (fC op fa (fI 0)) := by
  intro p l e R s m args below meth c Q z D tc sc X L st h r h' k n hf hst hk hn K1 K2
  obtain ⟨⟨x, h1⟩, e1, hf⟩ := Option.bind_eq_some_iff.mp hf
  replace hf : some (op x 0, h1) = some (r, h') := hf
  cases hf
  refine ha p l e R s m args below meth c Q z D tc sc X L st _ _ _ k n e1 hst hk hn ?_
  intro H locs ls hR hS hl
  exact ho _ _ _ _ _ _ _ _ _ _ _ _ _ _ _ _ _ _ X.1 X.2.1 (fun q => K1 q H locs ls hR hS hl) (fun q => K2 q H locs ls hR hS hl)
theorem c2_c0f {M : jx_M} {d pc p1 tg : Nat} {op : Int32 → Int32 → Bool} {fa : jx_fI} (ha : jx_EI M d pc p1 fa) (ho : jx_cm0 M p1 tg false op) : jx_C2 M d pc (p1 + 3) tg (fC op fa (fI 0)) := by
  intro p l e R s m args below meth c Q z D tc sc X L st h r h' k n hf hst hk hn K1 K2
  obtain ⟨⟨x, h1⟩, e1, hf⟩ := Option.bind_eq_some_iff.mp hf
  replace hf : some (op x 0, h1) = some (r, h') := hf
  cases hf
  refine ha p l e R s m args below meth c Q z D tc sc X L st _ _ _ k n e1 hst hk hn ?_
  intro H locs ls hR hS hl
  exact ho _ _ _ _ _ _ _ _ _ _ _ _ _ _ _ _ _ _ X.1 X.2.1 (fun q => K2 q H locs ls hR hS hl) (fun q => K1 q H locs ls hR hS hl)
/-- an int as a truth -/
def fT (fa : jx_fI) : jx_fB := fC jNe fa (fI 0)
theorem c2_t {M : jx_M} {d pc p1 tg : Nat} {off : Int} {fa : jx_fI} (ha : jx_EI M d pc p1 fa) (hdg : decode M.1 p1 = .ok (.ifCond .ne off, 3)) (ht : (p1 : Int) + off = (tg : Int)) : jx_C2 M d pc tg (p1 + 3) (fT fa) := c2_c0t ha (k_ne_t0 hdg ht)
theorem c2_f {M : jx_M} {d pc p1 tg : Nat} {off : Int} {fa : jx_fI} (ha : jx_EI M d pc p1 fa) (hdg : decode M.1 p1 = .ok (.ifCond .eq off, 3)) (ht : (p1 : Int) + off = (tg : Int)) : jx_C2 M d pc (p1 + 3) tg (fT fa) := c2_c0f ha (k_ne_f0 hdg ht)
theorem c2_ty {M : jx_M} {d pc T F : Nat} {f : jx_fB} {mc ms : Nat} (h : jx_C2c M d pc T F f mc ms) : jx_C2c M d pc T F f mc ms := h
def fAnd (fa fb : jx_fB) : jx_fB := fun L h => (fa L h).bind fun q => if q.1 = true then fb L q.2 else some (false, q.2)
def fOr (fa fb : jx_fB) : jx_fB := fun L h => (fa L h).bind fun q => if q.1 = true then some (true, q.2) else fb L q.2
def fNot (fa : jx_fB) : jx_fB := fun L h => (fa L h).bind fun q => some (!q.1, q.2)
def fCC (fc fa fb : jx_fB) : jx_fB := fun L h => (fc L h).bind fun q => if q.1 = true then fa L q.2 else fb L q.2
theorem c2_not {M : jx_M} {d pc T F : Nat} {fa : jx_fB} (ha : jx_C2 M d pc T F fa) : jx_C2 M d pc F T (fNot fa) := by
  intro p l e R s m args below meth c Q z D tc sc X L st h r h' k n hf hst hk hn K1 K2
  obtain ⟨⟨x, h1⟩, e1, hf⟩ := Option.bind_eq_some_iff.mp hf
  replace hf : some (!x, h1) = some (r, h') := hf
  cases hf
  exact ha p l e R s m args below meth c Q z D tc sc X L st _ _ _ k n e1 hst hk hn (fun q => K2 (by rw [q]; rfl)) (fun q => K1 (by rw [q]; rfl))
theorem c2_and {M : jx_M} {d pc p1 T F : Nat} {fa fb : jx_fB} (ha : jx_C2 M d pc p1 F fa) (hb : jx_C2 M d p1 T F fb) : jx_C2 M d pc T F (fAnd fa fb) := by
  intro p l e R s m args below meth c Q z D tc sc X L st h r h' k n hf hst hk hn K1 K2
  obtain ⟨⟨x, h1⟩, e1, hf⟩ := Option.bind_eq_some_iff.mp hf
  replace hf : (if x = true then fb L h1 else some (false, h1)) = some (r, h') := hf
  refine ha p l e R s m args below meth c Q z D tc sc X L st _ _ _ k n e1 hst hk hn (fun q => ?_) (fun q => ?_)
  · rw [q] at hf
    exact hb p l e R s m args below meth c Q z D tc sc X L st _ _ _ k n hf hst hk hn K1 K2
  · rw [q] at hf
    cases hf
    exact K2 rfl
theorem c2_or {M : jx_M} {d pc p1 T F : Nat} {fa fb : jx_fB} (ha : jx_C2 M d pc T p1 fa) (hb : jx_C2 M d p1 T F fb) : jx_C2 M d pc T F (fOr fa fb) := by
  intro p l e R s m args below meth c Q z D tc sc X L st h r h' k n hf hst hk hn K1 K2
  obtain ⟨⟨x, h1⟩, e1, hf⟩ := Option.bind_eq_some_iff.mp hf
  replace hf : (if x = true then some (true, h1) else fb L h1) = some (r, h') := hf
  refine ha p l e R s m args below meth c Q z D tc sc X L st _ _ _ k n e1 hst hk hn (fun q => ?_) (fun q => ?_)
  · rw [q] at hf
    cases hf
    exact K1 rfl
  · rw [q] at hf
    exact hb p l e R s m args below meth c Q z D tc sc X L st _ _ _ k n hf hst hk hn K1 K2
theorem c2_cc {M : jx_M} {d pc p1 p2 T F : Nat} {fc fa fb : jx_fB} (hc : jx_C2 M d pc p1 p2 fc) (ha : jx_C2 M d p1 T F fa) (hb : jx_C2 M d p2 T F fb) : jx_C2 M d pc T F (fCC fc fa fb) := by
  intro p l e R s m args below meth c Q z D tc sc X L st h r h' k n hf hst hk hn K1 K2
  obtain ⟨⟨x, h1⟩, e1, hf⟩ := Option.bind_eq_some_iff.mp hf
  replace hf : (if x = true then fa L h1 else fb L h1) = some (r, h') := hf
  refine hc p l e R s m args below meth c Q z D tc sc X L st _ _ _ k n e1 hst hk hn (fun q => ?_) (fun q => ?_)
  · rw [q] at hf
    exact ha p l e R s m args below meth c Q z D tc sc X L st _ _ _ k n hf hst hk hn K1 K2
  · rw [q] at hf
    exact hb p l e R s m args below meth c Q z D tc sc X L st _ _ _ k n hf hst hk hn K1 K2
theorem c2_gT {M : jx_M} {d pc T0 T F : Nat} {off : Int} {fa : jx_fB} (ha : jx_C2 M d pc T0 F fa) (hdg : decode M.1 T0 = .ok (.goto off, 3)) (ht : (T0 : Int) + off = (T : Int)) : jx_C2 M d pc T F fa := by
  intro p l e R s m args below meth c Q z D tc sc X L st h r h' k n hf hst hk hn K1 K2
  refine ha p l e R s m args below meth c Q z D tc sc X L st _ _ _ k n hf hst hk hn (fun q => ?_) K2
  intro H locs ls hR hS hl
  exact lv_goto X.1 X.2.1 hdg ht (K1 q H locs ls hR hS hl)
theorem c2_gF {M : jx_M} {d pc F0 T F : Nat} {off : Int} {fa : jx_fB} (ha : jx_C2 M d pc T F0 fa) (hdg : decode M.1 F0 = .ok (.goto off, 3)) (ht : (F0 : Int) + off = (F : Int)) : jx_C2 M d pc T F fa := by
  intro p l e R s m args below meth c Q z D tc sc X L st h r h' k n hf hst hk hn K1 K2
  refine ha p l e R s m args below meth c Q z D tc sc X L st _ _ _ k n hf hst hk hn K1 (fun q => ?_)
  intro H locs ls hR hS hl
  exact lv_goto X.1 X.2.1 hdg ht (K2 q H locs ls hR hS hl)
/-! a choice of two ints -/
def fIf (fc : jx_fB) (fa fb : jx_fI) : jx_fI := fun L h => (fc L h).bind fun q => if q.1 = true then fa L q.2 else fb L q.2
theorem ei_if {M : jx_M} {d pc p1 tE pE : Nat} {fc : jx_fB} {fa fb : jx_fI} (hc : jx_C2 M d pc p1 tE fc) (ha : jx_EI M d p1 pE fa) (hb : jx_EI M d tE pE fb) : jx_EI M d pc pE (fIf fc fa fb) := by
  intro p l e R s m args below meth c Q z D tc sc X L st h r h' k n hf hst hk hn K
  obtain ⟨⟨x, h1⟩, e1, hf⟩ := Option.bind_eq_some_iff.mp hf
  replace hf : (if x = true then fa L h1 else fb L h1) = some (r, h') := hf
  refine hc p l e R s m args below meth c Q z D tc sc X L st _ _ _ k n e1 hst hk hn (fun q => ?_) (fun q => ?_)
  · rw [q] at hf
    exact ha p l e R s m args below meth c Q z D tc sc X L st _ _ _ k n hf hst hk hn K
  · rw [q] at hf
    exact hb p l e R s m args below meth c Q z D tc sc X L st _ _ _ k n hf hst hk hn K
theorem ei_goto {M : jx_M} {d pc p2 pE : Nat} {off : Int} {fa : jx_fI} (ha : jx_EI M d pc p2 fa) (hdg : decode M.1 p2 = .ok (.goto off, 3)) (ht : (p2 : Int) + off = (pE : Int)) : jx_EI M d pc pE fa := by
  intro p l e R s m args below meth c Q z D tc sc X L st h r h' k n hf hst hk hn K
  refine ha p l e R s m args below meth c Q z D tc sc X L st _ _ _ k n hf hst hk hn ?_
  intro H locs ls hR hS hl
  exact lv_goto X.1 X.2.1 hdg ht (K H locs ls hR hS hl)
/-! arguments -/
def fNil : jx_fA := fun _ h => some ([], h)
def fAi (f : jx_fI) (g : jx_fA) : jx_fA := fun L h => (f L h).bind fun q => (g L q.2).bind fun w => some (.int q.1 :: w.1, w.2)
def fAr (f : jx_fR) (g : jx_fA) : jx_fA := fun L h => (f L h).bind fun q => (g L q.2).bind fun w => some (.ref q.1 :: w.1, w.2)
theorem ea_nil {M : jx_M} {d pc : Nat} : jx_EA M d 0 pc pc fNil := by
  intro p l e R s m args below meth c Q z D tc sc X L st h r h' k n hf hst hk hn K
  replace hf : some (([] : List Value), h) = some (r, h') := hf
  cases hf
  exact K rfl (fun _ h => by cases h)
theorem ea_i {M : jx_M} {d na pc p1 p2 : Nat} {f : jx_fI} {g : jx_fA} (hf0 : jx_EI M d pc p1 f) (hg : jx_EA M (d + 1) na p1 p2 g) : jx_EA M d (na + 1) pc p2 (fAi f g) := by
  intro p l e R s m args below meth c Q z D tc sc X L st h r h' k n hf hst hk hn K
  obtain ⟨⟨x, h1⟩, e1, hf⟩ := Option.bind_eq_some_iff.mp hf
  obtain ⟨⟨vs, h2⟩, e2, hf⟩ := Option.bind_eq_some_iff.mp hf
  replace hf : some (Value.int x :: vs, h2) = some (r, h') := hf
  cases hf
  refine hf0 p l e R s m args below meth c Q z D tc sc X L st _ _ _ k n e1 hst hk hn ?_
  refine hg p l e R s m args below meth c Q z D tc sc X L (.int x :: st) _ _ _ k n e2 (hst.cons rfl) hk hn (fun hle hv => ?_)
  have := K (by rw [List.length_cons, hle]) (fun v hm => by
    rcases List.mem_cons.mp hm with rfl | hm
    · rfl
    · exact hv v hm)
  rw [List.reverse_cons, List.append_assoc] at this
  exact this
theorem ea_r {M : jx_M} {d na pc p1 p2 : Nat} {f : jx_fR} {g : jx_fA} (hf0 : jx_ER M d pc p1 f) (hg : jx_EA M (d + 1) na p1 p2 g) : jx_EA M d (na + 1) pc p2 (fAr f g) := by
  intro p l e R s m args below meth c Q z D tc sc X L st h r h' k n hf hst hk hn K
  obtain ⟨⟨x, h1⟩, e1, hf⟩ := Option.bind_eq_some_iff.mp hf
  obtain ⟨⟨vs, h2⟩, e2, hf⟩ := Option.bind_eq_some_iff.mp hf
  replace hf : some (Value.ref x :: vs, h2) = some (r, h') := hf
  cases hf
  refine hf0 p l e R s m args below meth c Q z D tc sc X L st _ _ _ k n e1 hst hk hn ?_
  refine hg p l e R s m args below meth c Q z D tc sc X L (.ref x :: st) _ _ _ k n e2 (hst.cons rfl) hk hn (fun hle hv => ?_)
  have := K (by rw [List.length_cons, hle]) (fun v hm => by
    rcases List.mem_cons.mp hm with rfl | hm
    · rfl
    · exact hv v hm)
  rw [List.reverse_cons, List.append_assoc] at this
  exact this
