/-! calls -/
abbrev jx_Pre (z : Nat) (D : va_G) (tc : Nat → ClassId) (as : List Value) (h : hp_H) : Array Value → State → Prop := va_Pc (as.map (hp_v z)) (fun U => hp_K D tc U ∧ hp_R z D tc h U.heap)
/-- a method that answers an int: what it does to the abstract heap -/
def jx_MI (y : MethodName) (b : ByteArray) (nL fr lc : Nat) (ret : FieldType) (G : List Value → hp_H → Option (Int32 × hp_H)) (mc ms : Nat) : Prop :=
  ∀ (l : Launch) (z : Nat) (D : va_G) (tc : Nat → ClassId) (as : List Value) (h : hp_H) (r : Int32) (h' : hp_H), G as h = some (r, h') → (∀ v ∈ as, v.category = 1) →
    Met l y (Cond.code y b nL (some ret) :: jx_ws) { frames := fr, cells := mc, slots := ms, locals := lc } (jx_Pre z D tc as h) (va_Qi (fun r' (_ : Unit) => r' = r) (fun _ t => hp_R z D tc h' t.heap) (fun q => z ≤ q)) mc ms (fun q => z ≤ q)
def jx_MV (y : MethodName) (b : ByteArray) (nL fr lc : Nat) (G : List Value → hp_H → Option hp_H) (mc ms : Nat) : Prop :=
  ∀ (l : Launch) (z : Nat) (D : va_G) (tc : Nat → ClassId) (as : List Value) (h : hp_H) (h' : hp_H), G as h = some h' → (∀ v ∈ as, v.category = 1) →
    Met l y (Cond.code y b nL none :: jx_ws) { frames := fr, cells := mc, slots := ms, locals := lc } (jx_Pre z D tc as h) (va_Qv (fun (_ : Unit) => True) (fun _ t => hp_R z D tc h' t.heap) (fun q => z ≤ q)) mc ms (fun q => z ≤ q)
def jx_MR (y : MethodName) (b : ByteArray) (nL fr lc : Nat) (ret : FieldType) (G : List Value → hp_H → Option (Nat × hp_H)) (mc ms : Nat) : Prop :=
  ∀ (l : Launch) (z : Nat) (D : va_G) (tc : Nat → ClassId) (as : List Value) (h : hp_H) (r : Nat) (h' : hp_H), G as h = some (r, h') → (∀ v ∈ as, v.category = 1) →
    Met l y (Cond.code y b nL (some ret) :: jx_ws) { frames := fr, cells := mc, slots := ms, locals := lc } (jx_Pre z D tc as h) (va_Qr (fun (_ : Unit) => True) (fun _ a t => a = z + r ∧ hp_R z D tc h' t.heap) (fun q => z ≤ q)) mc ms (fun q => z ≤ q)
theorem jx_blind {z : Nat} {D : va_G} {tc : Nat → ClassId} {as : List Value} {h : hp_H} : FrameBlind (jx_Pre z D tc as h) := fun a U g mk q => ⟨q.1, q.2.1.same (U := U.calling g mk a) rfl, q.2.2⟩
theorem jx_good {y : MethodName} {b : ByteArray} {nL : Nat} {ret : Option FieldType} (h : Cond.code y b nL ret ∈ jx_ws) : GoodIn jx_ws (Cond.code y b nL ret :: jx_ws) := fun w hw => by
  rcases List.mem_cons.mp hw with rfl | hw
  · exact ⟨h, jx_allgood _ h⟩
  · exact ⟨hw, jx_allgood _ hw⟩
/-- the words of a call: n arguments beside the receiver -/
def jx_W (M : jx_M) (index : Nat) (y : MethodName) (b : ByteArray) (nL fr lc : Nat) (ret : Option FieldType) (n : Nat) : Prop :=
  (Cond.methodLink M.2.1 index y ∈ jx_ws ∨ ∃ host : String, (M.2.1, index, y, host) ∈ jx_nl) ∧ Cond.code y b nL ret ∈ jx_ws ∧ Cond.initialized y.cls ∈ jx_ws ∧ (y.cls ≠ "java/lang/invoke/MethodHandle" ∧ y.cls ≠ "java/lang/invoke/VarHandle" ∧ (parseMethodDescriptor y.desc).map (fun d => d.parameters.length) = some n) ∧ fr + 1 ≤ M.2.2.2.1 ∧ 8 + (nL + 11) + lc ≤ M.2.2.2.2.1
section JXC
variable {M : jx_M} {index : Nat} {y : MethodName} {b : ByteArray} {nL fr lc : Nat} {ret : Option FieldType} {na : Nat} {p : Program} {l : Launch} {e : Env} {R : Room} {s : State} {m : MethodId} {args : Array Value} {below : List Frame} {meth : Method} {c : Code} {z : Nat} {D : va_G} {tc : Nat → ClassId} {sc : Option Nat} {mc ms : Nat}
theorem jx_callB (X : jx_C M p R s m args meth c z D tc sc) (w : jx_W M index y b nL fr lc ret na) (hl : Cond.methodLink M.2.1 index y ∈ jx_ws) : CallB R s args M.2.1 index y b nL ret (Cond.code y b nL ret :: jx_ws) { frames := fr, cells := mc, slots := ms, locals := lc } mc ms na := by
  obtain ⟨-, w2, w3, w4, w5, w6⟩ := w
  have hts := X.2.2.2.2.1
  have hfr := X.2.2.2.2.2.2.1
  have hlo := X.2.2.2.2.2.2.2.1
  exact callB_of na hts (jx_good w2) rfl rfl rfl (hts _ w3) (hts _ hl) w4 ⟨by show fr + 1 ≤ R.frames; omega, by show 8 + (nL + 11) + lc ≤ R.locals; omega⟩
theorem jx_callN {host : String} (X : jx_C M p R s m args meth c z D tc sc) (w : jx_W M index y b nL fr lc ret na) (hl : (M.2.1, index, y, host) ∈ jx_nl) : va_CN R s args M.2.1 index y host b nL ret (Cond.code y b nL ret :: jx_ws) { frames := fr, cells := mc, slots := ms, locals := lc } mc ms na := by
  obtain ⟨-, w2, w3, w4, w5, w6⟩ := w
  have hts := X.2.2.2.2.1
  have hfr := X.2.2.2.2.2.2.1
  have hlo := X.2.2.2.2.2.2.2.1
  refine ⟨⟨rfl, rfl, by show fr + 1 ≤ R.frames; omega, by show 8 + (nL + 11) + lc ≤ R.locals; omega, pay_in hts (jx_good w2), List.mem_cons_self⟩, hts _ w2, hts _ w3, ⟨w4.1, w4.2.1⟩, fun sig h => ?_, va_Nw.use rfl (X.2.2.2.2.2.1.2.1 _ hl)⟩
  have h2 := w4.2.2
  rw [h] at h2
  exact (Option.some.inj h2).symm
variable {Pc : Array Value → State → Prop} {Qc : Array Value → State → Outcome → State → Prop} {free : Addr → Prop} {H : Heap} {locs : List Loc} {k n pc : Nat} {ls : Array Slot} {rest As : List Value} {o : Addr}
theorem jx_runV (X : jx_C M p R s m args meth c z D tc sc) (w : jx_W M index y b nL fr lc ret na) (hi : Cond.instanceMethod y ∈ jx_ws) (hs : Cond.selects y.cls y y ∈ jx_ws) (hM : Met l y (Cond.code y b nL ret :: jx_ws) { frames := fr, cells := mc, slots := ms, locals := lc } Pc Qc mc ms free) (hp : PreV s H y.cls o Pc As) (hn : As.length = na) (hsize : ls.size = M.2.2.1) (hW : 2 * (F0 m pc ls (As.reverse ++ .ref o :: rest)).monitorRoom + (rest.map fun v => v.category).sum ≤ 8) (hdg : decode M.1 pc = .ok (.invokevirtual index, 3)) (hf : k + mc ≤ R.cells ∧ n + ms ≤ R.slots) :
    va_Run p l e R s m args below meth c H locs k n mc ms (F0 m pc ls (As.reverse ++ .ref o :: rest)) rest (Qc (Value.ref o :: As).toArray) free := by
  have hts := X.2.2.2.2.1
  rcases w.1 with hl | ⟨host, hl⟩
  · exact va_runV ⟨X.1, X.2.1, X.2.2.1, X.2.2.2.1, hts⟩ hM ⟨jx_callB X w hl, hts _ hi, hts _ hs⟩ hp rfl hn hsize rfl hW hdg hf
  · exact va_runVN ⟨X.1, X.2.1, X.2.2.1, X.2.2.2.1, hts⟩ hM ⟨jx_callN X w hl, hts _ hi, hts _ hs⟩ hp rfl hn hsize rfl hW hdg hf
theorem jx_runS (X : jx_C M p R s m args meth c z D tc sc) (w : jx_W M index y b nL fr lc ret na) (hi : Cond.static y ∈ jx_ws) (hM : Met l y (Cond.code y b nL ret :: jx_ws) { frames := fr, cells := mc, slots := ms, locals := lc } Pc Qc mc ms free) (hp : PreS s H Pc As) (hn : As.length = na) (hsize : ls.size = M.2.2.1) (hW : 2 * (F0 m pc ls (As.reverse ++ rest)).monitorRoom + (rest.map fun v => v.category).sum ≤ 8) (hdg : decode M.1 pc = .ok (.invokestatic index, 3)) (hf : k + mc ≤ R.cells ∧ n + ms ≤ R.slots) :
    va_Run p l e R s m args below meth c H locs k n mc ms (F0 m pc ls (As.reverse ++ rest)) rest (Qc As.toArray) free := by
  have hts := X.2.2.2.2.1
  rcases w.1 with hl | ⟨host, hl⟩
  · exact va_runS ⟨X.1, X.2.1, X.2.2.1, X.2.2.2.1, hts⟩ hM ⟨jx_callB X w hl, hts _ hi⟩ hp rfl hn hsize rfl hW hdg hf
  · exact va_runSN ⟨X.1, X.2.1, X.2.2.1, X.2.2.2.1, hts⟩ hM ⟨jx_callN X w hl, hts _ hi, trivial⟩ hp rfl hn hsize rfl hW hdg hf
theorem jx_runI (X : jx_C M p R s m args meth c z D tc sc) (w : jx_W M index y b nL fr lc none na) (hi : Cond.instanceMethod y ∈ jx_ws) (hy : y.name = "<init>") (hM : Met l y (Cond.code y b nL none :: jx_ws) { frames := fr, cells := mc, slots := ms, locals := lc } Pc Qc mc ms free) (hp : PreS s H Pc (.ref o :: As)) (hn : As.length = na) (hsize : ls.size = M.2.2.1) (hW : 2 * (F0 m pc ls (As.reverse ++ .ref o :: rest)).monitorRoom + (rest.map fun v => v.category).sum ≤ 8) (hdg : decode M.1 pc = .ok (.invokespecial index, 3)) (hf : k + mc ≤ R.cells ∧ n + ms ≤ R.slots) :
    va_Run p l e R s m args below meth c H locs k n mc ms (F0 m pc ls (As.reverse ++ .ref o :: rest)) rest (Qc (Value.ref o :: As).toArray) free := by
  have hts := X.2.2.2.2.1
  rcases w.1 with hl | ⟨host, hl⟩
  · exact va_runI ⟨X.1, X.2.1, X.2.2.1, X.2.2.2.1, hts⟩ hM ⟨jx_callB X w hl, hy, hts _ hi⟩ hp rfl hn hsize rfl hW hdg hf
  · exact va_runIN ⟨X.1, X.2.1, X.2.2.1, X.2.2.2.1, hts⟩ hM ⟨jx_callN X w hl, hy, hts _ hi⟩ hp rfl hn hsize rfl hW hdg hf
/-- the receiver: an object of the class -/
theorem jx_recv {ci : Nat} {T : u_T} {N : Nat} {C : String} (hK : hp_K D tc s) {h : hp_H} (hR : hp_R z D tc h H) {a : Nat} {fs : List Value} (ha : h[a]? = some (ci, fs)) (hci : ci < 50) (hc : vwCl[ci]? = some (C, T, N)) : ∃ cellB : Cell, H[z + a]? = some cellB ∧ cellB.vm.isStatics = false ∧ s.vm.findClass C = some cellB.cls := by
  obtain ⟨r, h1, h2, cell, q1, q2, q3, q4⟩ := (hR.2 a _ ha).1 hci
  have hr : r = (C, T, N) := Option.some.inj (h1.symm.trans hc)
  subst hr
  exact ⟨cell, q1, by rw [q3]; rfl, by rw [q2]; exact (hK.1.1 ci _ hc).2.1⟩
theorem jx_pre {as : List Value} {h : hp_H} (hK : hp_K D tc s) (hR : hp_R z D tc h H) : ∀ U : State, U.heap = H → s.WarmedH U.vm → jx_Pre z D tc as h (as.map (hp_v z)).toArray U := fun U hU hW => ⟨rfl, hK.warm hW, by rw [hU]; exact hR⟩
end JXC
/-- the class number of a receiver -/
def hp_k (h : hp_H) (a : Nat) : Option Nat := (h[a]?).map fun c => c.1
theorem hp_k_spec {h : hp_H} {a ci : Nat} (e : hp_k h a = some ci) : ∃ fs, h[a]? = some (ci, fs) := by
  obtain ⟨⟨c, fs⟩, e1, e2⟩ := Option.map_eq_some_iff.mp e
  cases e2
  exact ⟨fs, e1⟩
def jx_cl (ci : Nat) (C : String) : Prop := ci < 50 ∧ ∃ (T : u_T) (N : Nat), vwCl[ci]? = some (C, T, N)
/-- a call on a receiver of class ci -/
def cV {α : Type} (ci : Nat) (g : jx_fA) (G : List Value → hp_H → Option α) : hp_L → hp_H → Option α := fun L h => (g L h).bind fun q => match q.1 with
  | .ref a :: _ => if hp_k q.2 a = some ci then G q.1 q.2 else none
  | _ => none
def cS {α : Type} (g : jx_fA) (G : List Value → hp_H → Option α) : hp_L → hp_H → Option α := fun L h => (g L h).bind fun q => G q.1 q.2
theorem cV_spec {α : Type} {ci : Nat} {g : jx_fA} {G : List Value → hp_H → Option α} {L : hp_L} {h : hp_H} {r : α} (e : cV ci g G L h = some r) : ∃ (a : Nat) (As : List Value) (h1 : hp_H) (fs : List Value), g L h = some (.ref a :: As, h1) ∧ h1[a]? = some (ci, fs) ∧ G (.ref a :: As) h1 = some r := by
  obtain ⟨⟨vs, h1⟩, e1, e2⟩ := Option.bind_eq_some_iff.mp e
  dsimp only at e2
  split at e2
  · rename_i a As
    split at e2
    · rename_i hk
      obtain ⟨fs, hfs⟩ := hp_k_spec hk
      exact ⟨a, As, h1, fs, e1, hfs, e2⟩
    · cases e2
  · cases e2
theorem jx_room {m : MethodId} {pc : Nat} {ls : Array Slot} {st0 : List Value} {z d : Nat} {st : List Value} (hst : jx_st d st) (hd : d ≤ 8) : 2 * (F0 m pc ls st0).monitorRoom + ((st.map (hp_v z)).map fun v => v.category).sum ≤ 8 := by
  refine lv_room ?_
  rw [hp_vs_cat z st hst.2, hst.1]
  exact hd
theorem jx_stk (z a : Nat) (As st : List Value) : ((Value.ref a :: As).reverse ++ st).map (hp_v z) = (As.map (hp_v z)).reverse ++ .ref (z + a) :: st.map (hp_v z) := by
  simp [List.map_append, List.map_reverse, hp_v]
theorem jx_stk0 (z : Nat) (As st : List Value) : (As.reverse ++ st).map (hp_v z) = (As.map (hp_v z)).reverse ++ st.map (hp_v z) := by
  simp [List.map_append, List.map_reverse]
theorem ei_callV {M : jx_M} {d na pc p1 index ci : Nat} {g : jx_fA} {y : MethodName} {b : ByteArray} {nL fr lc : Nat} {ret : FieldType} {G : List Value → hp_H → Option (Int32 × hp_H)} {mc ms : Nat} (hg : jx_EA M d (na + 1) pc p1 g) (hM : jx_MI y b nL fr lc ret G mc ms) (w : jx_W M index y b nL fr lc (some ret) na) (hi : Cond.instanceMethod y ∈ jx_ws) (hs : Cond.selects y.cls y y ∈ jx_ws) (hci : jx_cl ci y.cls) (hd : d ≤ 8) (hdg : decode M.1 p1 = .ok (.invokevirtual index, 3)) : jx_EIc M d pc (p1 + 3) (cV ci g G) mc ms := by
  intro p l e R s m args below meth c Q z D tc sc X L st h r h' k n hf hst hk hn K
  obtain ⟨a, As, h1, fs, e1, e2, e3⟩ := cV_spec hf
  refine hg p l e R s m args below meth c Q z D tc sc X L st _ _ _ k n e1 hst (by omega) (by omega) (fun hle hcat => ?_)
  obtain ⟨hci, T, N, hc⟩ := hci
  intro H locs ls hR hS hl
  rw [jx_stk]
  have hK := X.2.2.2.2.2.1
  refine va_calli (jx_runV (As := As.map (hp_v z)) X w hi hs (hM l z D tc _ h1 r h' e3 hcat) ⟨jx_blind, jx_recv hK hR e2 hci hc, jx_pre hK hR⟩ (by rw [List.length_map]; exact Nat.succ.inj hle) hl.1 (jx_room hst hd) hdg ⟨hk, hn⟩) hS (fun q _ hq => hq) (fun q hq => hq) (fun r' u t H1 locs1 ht hvm hpost hB hz1 hk1 hS1 => ?_)
  subst hpost
  subst ht
  exact K _ locs1 ls hB hS1 hl
theorem ei_callS {M : jx_M} {d na pc p1 index : Nat} {g : jx_fA} {y : MethodName} {b : ByteArray} {nL fr lc : Nat} {ret : FieldType} {G : List Value → hp_H → Option (Int32 × hp_H)} {mc ms : Nat} (hg : jx_EA M d na pc p1 g) (hM : jx_MI y b nL fr lc ret G mc ms) (w : jx_W M index y b nL fr lc (some ret) na) (hi : Cond.static y ∈ jx_ws) (hd : d ≤ 8) (hdg : decode M.1 p1 = .ok (.invokestatic index, 3)) : jx_EIc M d pc (p1 + 3) (cS g G) mc ms := by
  intro p l e R s m args below meth c Q z D tc sc X L st h r h' k n hf hst hk hn K
  obtain ⟨⟨As, h1⟩, e1, e3⟩ := Option.bind_eq_some_iff.mp hf
  refine hg p l e R s m args below meth c Q z D tc sc X L st _ _ _ k n e1 hst (by omega) (by omega) (fun hle hcat => ?_)
  intro H locs ls hR hS hl
  rw [jx_stk0]
  have hK := X.2.2.2.2.2.1
  refine va_calli (jx_runS (As := As.map (hp_v z)) X w hi (hM l z D tc _ h1 r h' e3 hcat) ⟨jx_blind, jx_pre hK hR⟩ (by rw [List.length_map]; exact hle) hl.1 (jx_room hst hd) hdg ⟨hk, hn⟩) hS (fun q _ hq => hq) (fun q hq => hq) (fun r' u t H1 locs1 ht hvm hpost hB hz1 hk1 hS1 => ?_)
  subst hpost
  subst ht
  exact K _ locs1 ls hB hS1 hl
theorem er_callV {M : jx_M} {d na pc p1 index ci : Nat} {g : jx_fA} {y : MethodName} {b : ByteArray} {nL fr lc : Nat} {ret : FieldType} {G : List Value → hp_H → Option (Nat × hp_H)} {mc ms : Nat} (hg : jx_EA M d (na + 1) pc p1 g) (hM : jx_MR y b nL fr lc ret G mc ms) (w : jx_W M index y b nL fr lc (some ret) na) (hi : Cond.instanceMethod y ∈ jx_ws) (hs : Cond.selects y.cls y y ∈ jx_ws) (hci : jx_cl ci y.cls) (hd : d ≤ 8) (hdg : decode M.1 p1 = .ok (.invokevirtual index, 3)) : jx_ERc M d pc (p1 + 3) (cV ci g G) mc ms := by
  intro p l e R s m args below meth c Q z D tc sc X L st h r h' k n hf hst hk hn K
  obtain ⟨a, As, h1, fs, e1, e2, e3⟩ := cV_spec hf
  refine hg p l e R s m args below meth c Q z D tc sc X L st _ _ _ k n e1 hst (by omega) (by omega) (fun hle hcat => ?_)
  obtain ⟨hci, T, N, hc⟩ := hci
  intro H locs ls hR hS hl
  rw [jx_stk]
  have hK := X.2.2.2.2.2.1
  refine va_callr (jx_runV (As := As.map (hp_v z)) X w hi hs (hM l z D tc _ h1 r h' e3 hcat) ⟨jx_blind, jx_recv hK hR e2 hci hc, jx_pre hK hR⟩ (by rw [List.length_map]; exact Nat.succ.inj hle) hl.1 (jx_room hst hd) hdg ⟨hk, hn⟩) hS (fun q _ hq => hq) (fun q hq => hq) (fun u r' t H1 locs1 ht hvm hpost hB hz1 hk1 hS1 => ?_)
  obtain ⟨rfl, hB⟩ := hB
  subst ht
  exact K _ locs1 ls hB hS1 hl
def sCall (f : hp_L → hp_H → Option hp_H) : jx_fS := fun L h => (f L h).bind fun h' => some (.inl (L, h'))
theorem sx_callV {M : jx_M} {na pc p1 index ci : Nat} {g : jx_fA} {y : MethodName} {b : ByteArray} {nL fr lc : Nat} {G : List Value → hp_H → Option hp_H} {mc ms : Nat} (hg : jx_EA M 0 (na + 1) pc p1 g) (hM : jx_MV y b nL fr lc G mc ms) (w : jx_W M index y b nL fr lc none na) (hi : Cond.instanceMethod y ∈ jx_ws) (hs : Cond.selects y.cls y y ∈ jx_ws) (hci : jx_cl ci y.cls) (hdg : decode M.1 p1 = .ok (.invokevirtual index, 3)) : jx_SX M pc (p1 + 3) (sCall (cV ci g G)) mc ms := by
  intro p l e R s m args below meth c Q z D tc sc X L h o k n hf hk hn K1 K2
  obtain ⟨h', e0, hf⟩ := Option.bind_eq_some_iff.mp hf
  cases hf
  obtain ⟨a, As, h1, fs, e1, e2, e3⟩ := cV_spec e0
  refine hg p l e R s m args below meth c Q z D tc sc X L [] _ _ _ k n e1 jx_st0 (by omega) (by omega) (fun hle hcat => ?_)
  obtain ⟨hci, T, N, hc⟩ := hci
  intro H locs ls hR hS hl
  rw [jx_stk]
  have hK := X.2.2.2.2.2.1
  refine va_callv (jx_runV (As := As.map (hp_v z)) X w hi hs (hM l z D tc _ h1 h' e3 hcat) ⟨jx_blind, jx_recv hK hR e2 hci hc, jx_pre hK hR⟩ (by rw [List.length_map]; exact Nat.succ.inj hle) hl.1 (jx_room jx_st0 (by decide)) hdg ⟨hk, hn⟩) hS (fun q _ hq => hq) (fun q hq => hq) (fun u t H1 locs1 ht hvm hpost hB hz1 hk1 hS1 => ?_)
  subst ht
  exact K1 L h' rfl _ locs1 ls hB hS1 hl
theorem sx_callS {M : jx_M} {na pc p1 index : Nat} {g : jx_fA} {y : MethodName} {b : ByteArray} {nL fr lc : Nat} {G : List Value → hp_H → Option hp_H} {mc ms : Nat} (hg : jx_EA M 0 na pc p1 g) (hM : jx_MV y b nL fr lc G mc ms) (w : jx_W M index y b nL fr lc none na) (hi : Cond.static y ∈ jx_ws) (hdg : decode M.1 p1 = .ok (.invokestatic index, 3)) : jx_SX M pc (p1 + 3) (sCall (cS g G)) mc ms := by
  intro p l e R s m args below meth c Q z D tc sc X L h o k n hf hk hn K1 K2
  obtain ⟨h', e0, hf⟩ := Option.bind_eq_some_iff.mp hf
  cases hf
  obtain ⟨⟨As, h1⟩, e1, e3⟩ := Option.bind_eq_some_iff.mp e0
  refine hg p l e R s m args below meth c Q z D tc sc X L [] _ _ _ k n e1 jx_st0 (by omega) (by omega) (fun hle hcat => ?_)
  intro H locs ls hR hS hl
  rw [jx_stk0]
  have hK := X.2.2.2.2.2.1
  refine va_callv (jx_runS (As := As.map (hp_v z)) X w hi (hM l z D tc _ h1 h' e3 hcat) ⟨jx_blind, jx_pre hK hR⟩ (by rw [List.length_map]; exact hle) hl.1 (jx_room jx_st0 (by decide)) hdg ⟨hk, hn⟩) hS (fun q _ hq => hq) (fun q hq => hq) (fun u t H1 locs1 ht hvm hpost hB hz1 hk1 hS1 => ?_)
  subst ht
  exact K1 L h' rfl _ locs1 ls hB hS1 hl
