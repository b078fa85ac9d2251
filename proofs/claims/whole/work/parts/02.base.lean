/-! The abstract heap: a list of cells (kind, slots); place k is the machine's cell z + k. Kinds below 50: classes of vwCl; 50 int[], 51 boolean[], 52 Datagram[], 53 Station[], 54 int[][]. -/
abbrev hp_H : Type := List (Nat × List Value)
abbrev hp_L : Type := List (Option Value)
def hp_v (z : Nat) (v : Value) : Value := match v with
  | .ref a => .ref (z + a)
  | w => w
theorem hp_v_cat (z : Nat) (v : Value) : (hp_v z v).category = v.category := by cases v <;> rfl
theorem hp_vs_cat (z : Nat) (st : List Value) (h : ∀ v ∈ st, v.category = 1) : ((st.map (hp_v z)).map fun v => v.category).sum = st.length := by
  induction st with
  | nil => rfl
  | cons a t ih =>
    have h1 : a.category = 1 := h a List.mem_cons_self
    simp only [List.map_cons, List.sum_cons, hp_v_cat, h1, List.length_cons]
    rw [ih (fun v hv => h v (List.mem_cons_of_mem _ hv))]
    omega
def hp_ty (k : Nat) : FieldType := match k with
  | 50 => .int
  | 51 => .boolean
  | 52 => .object "StationLine$Datagram"
  | 53 => .object "StationLine$Station"
  | _ => .array .int
def hp_c (z : Nat) (D : va_G) (tc : Nat → ClassId) (c : Nat × List Value) (q : Nat) (H : Heap) : Prop :=
  (c.1 < 50 → ∃ r : vw_C, vwCl[c.1]? = some r ∧ c.2.length = r.2.2 ∧ t_OB q (D.1 c.1) r.2.2 (D.2 c.1) H (fun k => hp_v z (c.2.getD k .null))) ∧
  (50 ≤ c.1 → H[q]? = some (arrV (tc c.1) c.2.length (fun j => hp_v z (c.2.getD j .null))))
theorem hp_c.kept {z : Nat} {D : va_G} {tc : Nat → ClassId} {c : Nat × List Value} {q : Nat} {H H1 : Heap} (h : hp_c z D tc c q H) (hq : H1[q]? = H[q]?) : hp_c z D tc c q H1 := by
  refine ⟨fun h0 => ?_, fun h0 => hq.trans (h.2 h0)⟩
  obtain ⟨r, h1, h2, h3⟩ := h.1 h0
  exact ⟨r, h1, h2, h3.kept hq⟩
def hp_R (z : Nat) (D : va_G) (tc : Nat → ClassId) (h : hp_H) (H : Heap) : Prop := H.size = z + h.length ∧ ∀ (k : Nat) (c : Nat × List Value), h[k]? = some c → hp_c z D tc c (z + k) H
theorem hp_R.set {z : Nat} {D : va_G} {tc : Nat → ClassId} {h : hp_H} {H H1 : Heap} (hR : hp_R z D tc h H) {a : Nat} {c : Nat × List Value} (ha : a < h.length) (hc : hp_c z D tc c (z + a) H1) (hz : H1.size = H.size) (ho : ∀ q : Nat, q ≠ z + a → H1[q]? = H[q]?) : hp_R z D tc (h.set a c) H1 := by
  refine ⟨by rw [hz, hR.1, List.length_set], fun k x hk => ?_⟩
  rw [List.getElem?_set] at hk
  by_cases e : a = k
  · subst e
    rw [if_pos rfl, if_pos ha] at hk
    cases hk
    exact hc
  · rw [if_neg e] at hk
    exact (hR.2 k x hk).kept (ho _ (by omega))
theorem hp_R.push {z : Nat} {D : va_G} {tc : Nat → ClassId} {h : hp_H} {H H1 : Heap} (hR : hp_R z D tc h H) {c : Nat × List Value} (hc : hp_c z D tc c (z + h.length) H1) (hz : H1.size = H.size + 1) (ho : ∀ q : Nat, q < H.size → H1[q]? = H[q]?) : hp_R z D tc (h ++ [c]) H1 := by
  refine ⟨by rw [hz, hR.1, List.length_append]; rfl, fun k x hk => ?_⟩
  by_cases e : k < h.length
  · rw [List.getElem?_append_left e] at hk
    exact (hR.2 k x hk).kept (ho _ (by rw [hR.1]; omega))
  · rw [List.getElem?_append_right (by omega)] at hk
    have h1 : k - h.length < 1 := (List.getElem?_eq_some_iff.mp hk).1
    have h2 : k = h.length := by omega
    subst h2
    rw [Nat.sub_self] at hk
    cases hk
    exact hc
theorem hp_lt {h : hp_H} {a : Nat} {c : Nat × List Value} (ha : h[a]? = some c) : a < h.length := (List.getElem?_eq_some_iff.mp ha).1
/-- words that a callee's list can't hold: links to a nest mate's private constructor, array classes that are there -/
def hp_N (U : State) : Prop := (∀ q ∈ jx_nl, va_Nw (.methodLinkNest q.1 q.2.1 q.2.2.1 q.2.2.2) U) ∧ va_AO "StationLine$Datagram" U ∧ va_AO "StationLine$Station" U ∧ (Cond.arrayOver (.array .int)).before #[] U = true
theorem hp_N.warm {s U : State} (hW : s.WarmedH U.vm) (h : hp_N s) : hp_N U := ⟨fun q hq => va_Nw.warmM hW (h.1 q hq), va_AO.moved hW.alike h.2.1, va_AO.moved hW.alike h.2.2.1, over_moved hW.alike h.2.2.2⟩
theorem hp_N.same {s U : State} (hv : s.vm = U.vm) (h : hp_N s) : hp_N U := ⟨fun q hq => va_Nw.same rfl hv (h.1 q hq), va_AO.moved (by rw [hv]; exact Vm.Alike.refl _) h.2.1, va_AO.moved (by rw [hv]; exact Vm.Alike.refl _) h.2.2.1, over_moved (by rw [hv]; exact Vm.Alike.refl _) h.2.2.2⟩
def hp_K (D : va_G) (tc : Nat → ClassId) (U : State) : Prop := va_K D vwCl [(tc 50, .int), (tc 51, .boolean), (tc 52, .object "StationLine$Datagram"), (tc 53, .object "StationLine$Station"), (tc 54, .array .int)] U ∧ hp_N U
theorem hp_K.warm {D : va_G} {tc : Nat → ClassId} {s U : State} (hW : s.WarmedH U.vm) (h : hp_K D tc s) : hp_K D tc U := ⟨va_K.moved hW.alike h.1, h.2.warm hW⟩
theorem hp_K.same {D : va_G} {tc : Nat → ClassId} {s U : State} (hv : s.vm = U.vm) (h : hp_K D tc s) : hp_K D tc U := ⟨va_K.moved (by rw [hv]; exact Vm.Alike.refl _) h.1, h.2.same hv⟩
/-- locals -/
def hp_l (z : Nat) (sc : Option Nat) (nL : Nat) (ls : Array Slot) (L : hp_L) : Prop := ls.size = nL ∧ lv_wf ls ∧ (∀ (i : Nat) (v : Value), L[i]? = some (some v) → v.category = 1 ∧ ls[i]? = some (.val (hp_v z v))) ∧ ∀ b : Nat, sc = some b → ls[0]? = some (.val (.ref b))
def hp_all (ls : Array Slot) : List (Nat × Value) := (List.range ls.size).filterMap (fun j => match ls[j]? with
  | some (Slot.val v) => some (j, v)
  | _ => none)
theorem hp_all_mem {ls : Array Slot} {j : Nat} {v : Value} : (j, v) ∈ hp_all ls ↔ ls[j]? = some (.val v) := by
  unfold hp_all
  rw [List.mem_filterMap]
  constructor
  · rintro ⟨i, -, hi⟩
    split at hi
    · rename_i w hw
      cases hi
      exact hw
    · cases hi
  · intro h
    refine ⟨j, List.mem_range.mpr (Array.getElem?_eq_some_iff.mp h).1, ?_⟩
    rw [h]
theorem hp_all_has {ls : Array Slot} {nL : Nat} (hl : ls.size = nL) (hw : lv_wf ls) : lv_has ls nL (hp_all ls) := ⟨hl, hw, fun q hq => hp_all_mem.mp hq⟩
theorem hp_store {z : Nat} {sc : Option Nat} {nL : Nat} {ls ls' : Array Slot} {L : hp_L} (hl : hp_l z sc nL ls L) {i : Nat} {v : Value} (hi : i ≠ 0) (hc : v.category = 1) (h' : lv_has ls' nL ((i, hp_v z v) :: (hp_all ls).filter (fun q => !(q.1 == i) && !(q.1 + 1 == i && q.2.category == 2)))) : hp_l z sc nL ls' (L.set i (some v)) := by
  refine ⟨h'.1, h'.2.1, fun j w hj => ?_, fun b hb => ?_⟩
  · rw [List.getElem?_set] at hj
    by_cases e : i = j
    · subst e
      rw [if_pos rfl] at hj
      split at hj
      · cases hj
        exact ⟨hc, h'.2.2 (i, hp_v z v) List.mem_cons_self⟩
      · cases hj
    · rw [if_neg e] at hj
      obtain ⟨c1, c2⟩ := hl.2.2.1 j w hj
      refine ⟨c1, h'.2.2 (j, hp_v z w) (List.mem_cons_of_mem _ (List.mem_filter.mpr ⟨hp_all_mem.mpr c2, ?_⟩))⟩
      simp [hp_v_cat, c1, Ne.symm e]
  · refine h'.2.2 (0, .ref b) (List.mem_cons_of_mem _ (List.mem_filter.mpr ⟨hp_all_mem.mpr (hl.2.2.2 b hb), ?_⟩))
    simp [Value.category, Ne.symm hi]
theorem hp_int {z : Nat} {sc : Option Nat} {nL : Nat} {ls : Array Slot} {L : hp_L} (hl : hp_l z sc nL ls L) {i : Nat} {x : Int32} (h : L[i]? = some (some (.int x))) : ls[i]? = some (.val (.int x)) := (hl.2.2.1 i _ h).2
theorem hp_ref {z : Nat} {sc : Option Nat} {nL : Nat} {ls : Array Slot} {L : hp_L} (hl : hp_l z sc nL ls L) {i a : Nat} (h : L[i]? = some (some (.ref a))) : ls[i]? = some (.val (.ref (z + a))) := (hl.2.2.1 i _ h).2
/-! judgements -/
/-- a method's data: code, class, locals, frames and words of its room, is it a constructor, the script's length + 1 (0: none; the law's alone) and the script -/
abbrev jx_M : Type := ByteArray × String × Nat × Nat × Nat × Bool × Nat × (Nat → Int32)
def jx_At (p : Program) (l : Launch) (e : Env) (R : Room) (s : State) (m : MethodId) (args : Array Value) (below : List Frame) (meth : Method) (c : Code) (Q : State → Prop) (z : Nat) (D : va_G) (tc : Nat → ClassId) (sc : Option Nat) (nL : Nat) (pc : Nat) (L : hp_L) (st : List Value) (h : hp_H) (k n : Nat) : Prop :=
  ∀ (H : Heap) (locs : List Loc) (ls : Array Slot), hp_R z D tc h H → va_S (fun q => z ≤ q) s.heap H locs → hp_l z sc nL ls L → W p l e R s m args below meth c H locs k n Q (F0 m pc ls (st.map (hp_v z)))
def jx_C (M : jx_M) (p : Program) (R : Room) (s : State) (m : MethodId) (args : Array Value) (meth : Method) (c : Code) (z : Nat) (D : va_G) (tc : Nat → ClassId) (sc : Option Nat) : Prop :=
  p.tables.exec = Jvm.exec ∧ c.code = M.1 ∧ c.maxLocals = M.2.2.1 ∧ s.vm.findClass M.2.1 = some m.cls ∧ (∀ w ∈ jx_ws, w.before args s = true) ∧ hp_K D tc s ∧ M.2.2.2.1 ≤ R.frames ∧ M.2.2.2.2.1 ≤ R.locals ∧ z ≤ s.heap.size ∧ (M.2.2.2.2.2.1 = true → meth.name = "<init>") ∧ ∀ N : Nat, M.2.2.2.2.2.2.1 = N + 1 → ∃ b : Nat, sc = some b ∧ va_X b N M.2.2.2.2.2.2.2 s s.heap ∧ b < z
def jx_st (d : Nat) (st : List Value) : Prop := st.length = d ∧ ∀ v ∈ st, v.category = 1
theorem jx_st.cons {d : Nat} {st : List Value} {v : Value} (h : jx_st d st) (hv : v.category = 1) : jx_st (d + 1) (v :: st) := ⟨by rw [List.length_cons, h.1], fun w hw => by
  rcases List.mem_cons.mp hw with rfl | hw
  · exact hv
  · exact h.2 w hw⟩
theorem jx_At.widen {p : Program} {l : Launch} {e : Env} {R : Room} {s : State} {m : MethodId} {args : Array Value} {below : List Frame} {meth : Method} {c : Code} {Q : State → Prop} {z : Nat} {D : va_G} {tc : Nat → ClassId} {sc : Option Nat} {nL : Nat} {pc : Nat} {L : hp_L} {st : List Value} {h : hp_H} {k n k' n' : Nat} (hk : k ≤ k') (hn : n ≤ n') (K : jx_At p l e R s m args below meth c Q z D tc sc nL pc L st h k' n') : jx_At p l e R s m args below meth c Q z D tc sc nL pc L st h k n :=
  fun H locs ls hR hS hl => W.widen hk hn (K H locs ls hR hS hl)
abbrev jx_fI : Type := hp_L → hp_H → Option (Int32 × hp_H)
abbrev jx_fR : Type := hp_L → hp_H → Option (Nat × hp_H)
abbrev jx_fB : Type := hp_L → hp_H → Option (Bool × hp_H)
abbrev jx_fA : Type := hp_L → hp_H → Option (List Value × hp_H)
abbrev jx_fS : Type := hp_L → hp_H → Option ((hp_L × hp_H) ⊕ (Option Value × hp_H))
/-- an expression that leaves an int: from pc to pc', over d values of the stack; mc cells, ms slots at most come -/
def jx_EIc (M : jx_M) (d pc pc' : Nat) (f : jx_fI) (mc ms : Nat) : Prop :=
  ∀ (p : Program) (l : Launch) (e : Env) (R : Room) (s : State) (m : MethodId) (args : Array Value) (below : List Frame) (meth : Method) (c : Code) (Q : State → Prop) (z : Nat) (D : va_G) (tc : Nat → ClassId) (sc : Option Nat), jx_C M p R s m args meth c z D tc sc →
    ∀ (L : hp_L) (st : List Value) (h : hp_H) (r : Int32) (h' : hp_H) (k n : Nat), f L h = some (r, h') → jx_st d st → k + mc ≤ R.cells → n + ms ≤ R.slots →
      jx_At p l e R s m args below meth c Q z D tc sc M.2.2.1 pc' L (.int r :: st) h' (k + mc) (n + ms) → jx_At p l e R s m args below meth c Q z D tc sc M.2.2.1 pc L st h k n
abbrev jx_EI (M : jx_M) (d pc pc' : Nat) (f : jx_fI) : Prop := jx_EIc M d pc pc' f 0 0
/-- .. that leaves a reference -/
def jx_ERc (M : jx_M) (d pc pc' : Nat) (f : jx_fR) (mc ms : Nat) : Prop :=
  ∀ (p : Program) (l : Launch) (e : Env) (R : Room) (s : State) (m : MethodId) (args : Array Value) (below : List Frame) (meth : Method) (c : Code) (Q : State → Prop) (z : Nat) (D : va_G) (tc : Nat → ClassId) (sc : Option Nat), jx_C M p R s m args meth c z D tc sc →
    ∀ (L : hp_L) (st : List Value) (h : hp_H) (r : Nat) (h' : hp_H) (k n : Nat), f L h = some (r, h') → jx_st d st → k + mc ≤ R.cells → n + ms ≤ R.slots →
      jx_At p l e R s m args below meth c Q z D tc sc M.2.2.1 pc' L (.ref r :: st) h' (k + mc) (n + ms) → jx_At p l e R s m args below meth c Q z D tc sc M.2.2.1 pc L st h k n
abbrev jx_ER (M : jx_M) (d pc pc' : Nat) (f : jx_fR) : Prop := jx_ERc M d pc pc' f 0 0
/-- a condition: on at T if it is true, at F if it is false -/
def jx_C2c (M : jx_M) (d pc T F : Nat) (f : jx_fB) (mc ms : Nat) : Prop :=
  ∀ (p : Program) (l : Launch) (e : Env) (R : Room) (s : State) (m : MethodId) (args : Array Value) (below : List Frame) (meth : Method) (c : Code) (Q : State → Prop) (z : Nat) (D : va_G) (tc : Nat → ClassId) (sc : Option Nat), jx_C M p R s m args meth c z D tc sc →
    ∀ (L : hp_L) (st : List Value) (h : hp_H) (r : Bool) (h' : hp_H) (k n : Nat), f L h = some (r, h') → jx_st d st → k + mc ≤ R.cells → n + ms ≤ R.slots →
      (r = true → jx_At p l e R s m args below meth c Q z D tc sc M.2.2.1 T L st h' (k + mc) (n + ms)) → (r = false → jx_At p l e R s m args below meth c Q z D tc sc M.2.2.1 F L st h' (k + mc) (n + ms)) → jx_At p l e R s m args below meth c Q z D tc sc M.2.2.1 pc L st h k n
abbrev jx_C2 (M : jx_M) (d pc T F : Nat) (f : jx_fB) : Prop := jx_C2c M d pc T F f 0 0
/-- arguments, one behind the other -/
def jx_EA (M : jx_M) (d na pc pc' : Nat) (f : jx_fA) : Prop :=
  ∀ (p : Program) (l : Launch) (e : Env) (R : Room) (s : State) (m : MethodId) (args : Array Value) (below : List Frame) (meth : Method) (c : Code) (Q : State → Prop) (z : Nat) (D : va_G) (tc : Nat → ClassId) (sc : Option Nat), jx_C M p R s m args meth c z D tc sc →
    ∀ (L : hp_L) (st : List Value) (h : hp_H) (r : List Value) (h' : hp_H) (k n : Nat), f L h = some (r, h') → jx_st d st → k ≤ R.cells → n ≤ R.slots →
      (r.length = na → (∀ v ∈ r, v.category = 1) → jx_At p l e R s m args below meth c Q z D tc sc M.2.2.1 pc' L (r.reverse ++ st) h' k n) → jx_At p l e R s m args below meth c Q z D tc sc M.2.2.1 pc L st h k n
/-- the end of a method, at its return -/
def jx_Rt (p : Program) (l : Launch) (e : Env) (R : Room) (s : State) (m : MethodId) (args : Array Value) (below : List Frame) (meth : Method) (c : Code) (Q : State → Prop) (z : Nat) (D : va_G) (tc : Nat → ClassId) (rv : Option Value) (h : hp_H) (k n : Nat) : Prop :=
  ∀ (H : Heap) (locs : List Loc) (pc : Nat) (ls : Array Slot), hp_R z D tc h H → va_S (fun q => z ≤ q) s.heap H locs → (match rv with
    | none => decode c.code pc = .ok (.return_, 1) → W p l e R s m args below meth c H locs k n Q (F0 m pc ls [])
    | some (.int r) => decode c.code pc = .ok (.ireturn, 1) → W p l e R s m args below meth c H locs k n Q (F0 m pc ls [.int r])
    | some v => decode c.code pc = .ok (.areturn, 1) → W p l e R s m args below meth c H locs k n Q (F0 m pc ls [hp_v z v]))
theorem jx_Rt.widen {p : Program} {l : Launch} {e : Env} {R : Room} {s : State} {m : MethodId} {args : Array Value} {below : List Frame} {meth : Method} {c : Code} {Q : State → Prop} {z : Nat} {D : va_G} {tc : Nat → ClassId} {rv : Option Value} {h : hp_H} {k n k' n' : Nat} (hk : k ≤ k') (hn : n ≤ n') (K : jx_Rt p l e R s m args below meth c Q z D tc rv h k' n') : jx_Rt p l e R s m args below meth c Q z D tc rv h k n := by
  intro H locs pc ls hR hS
  have := K H locs pc ls hR hS
  cases rv with
  | none => exact fun hd => W.widen hk hn (this hd)
  | some v => cases v <;> exact fun hd => W.widen hk hn (this hd)
/-- a statement, over an empty stack -/
def jx_SX (M : jx_M) (pc pc' : Nat) (f : jx_fS) (mc ms : Nat) : Prop :=
  ∀ (p : Program) (l : Launch) (e : Env) (R : Room) (s : State) (m : MethodId) (args : Array Value) (below : List Frame) (meth : Method) (c : Code) (Q : State → Prop) (z : Nat) (D : va_G) (tc : Nat → ClassId) (sc : Option Nat), jx_C M p R s m args meth c z D tc sc →
    ∀ (L : hp_L) (h : hp_H) (o : (hp_L × hp_H) ⊕ (Option Value × hp_H)) (k n : Nat), f L h = some o → k + mc ≤ R.cells → n + ms ≤ R.slots →
      (∀ L' h', o = .inl (L', h') → jx_At p l e R s m args below meth c Q z D tc sc M.2.2.1 pc' L' [] h' (k + mc) (n + ms)) → (∀ rv h', o = .inr (rv, h') → jx_Rt p l e R s m args below meth c Q z D tc rv h' (k + mc) (n + ms)) → jx_At p l e R s m args below meth c Q z D tc sc M.2.2.1 pc L [] h k n
theorem jx_st0 : jx_st 0 [] := ⟨rfl, fun _ h => by cases h⟩
