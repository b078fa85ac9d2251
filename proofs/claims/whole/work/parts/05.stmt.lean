/-! statements -/
theorem sx_ty {M : jx_M} {pc pc' : Nat} {f : jx_fS} {mc ms : Nat} (h : jx_SX M pc pc' f mc ms) : jx_SX M pc pc' f mc ms := h
theorem sx_cnt {M : jx_M} {pc pc' : Nat} {f : jx_fS} {a b a' b' : Nat} (h : jx_SX M pc pc' f a b) (ha : a = a') (hb : b = b') : jx_SX M pc pc' f a' b' := by
  subst ha
  subst hb
  exact h
def sSkip : jx_fS := fun L h => some (.inl (L, h))
def sSeq (f g : jx_fS) : jx_fS := fun L h => (f L h).bind fun o => match o with
  | .inl q => g q.1 q.2
  | .inr r => some (.inr r)
theorem sx_skip {M : jx_M} {pc : Nat} : jx_SX M pc pc sSkip 0 0 := by
  intro p l e R s m args below meth c Q z D tc sc X L h o k n hf hk hn K1 K2
  replace hf : some (Sum.inl (L, h)) = some o := hf
  cases hf
  exact K1 L h rfl
theorem sx_seqc {M : jx_M} {pc p1 p2 : Nat} {f g : jx_fS} {a1 b1 a2 b2 : Nat} (hf0 : jx_SX M pc p1 f a1 b1) (hg : jx_SX M p1 p2 g a2 b2) : jx_SX M pc p2 (sSeq f g) (a1 + a2) (b1 + b2) := by
  intro p l e R s m args below meth c Q z D tc sc X L h o k n hf hk hn K1 K2
  obtain ⟨o1, e1, e2⟩ := Option.bind_eq_some_iff.mp hf
  refine hf0 p l e R s m args below meth c Q z D tc sc X L h o1 k n e1 (by omega) (by omega) (fun L' h' q => ?_) (fun rv h' q => ?_)
  · subst q
    replace e2 : g L' h' = some o := e2
    refine hg p l e R s m args below meth c Q z D tc sc X L' h' o (k + a1) (n + b1) e2 (by omega) (by omega) (fun L2 h2 q2 => ?_) (fun rv h2 q2 => ?_)
    · rw [Nat.add_assoc, Nat.add_assoc]
      exact K1 L2 h2 q2
    · rw [Nat.add_assoc, Nat.add_assoc]
      exact K2 rv h2 q2
  · subst q
    replace e2 : some (Sum.inr (rv, h')) = some o := e2
    cases e2
    exact (K2 rv h' rfl).widen (by omega) (by omega)
theorem sx_seq {M : jx_M} {pc p1 p2 : Nat} {f g : jx_fS} (hf0 : jx_SX M pc p1 f 0 0) (hg : jx_SX M p1 p2 g 0 0) : jx_SX M pc p2 (sSeq f g) 0 0 := sx_seqc hf0 hg
/-- more room than is needed -/
theorem sx_pad {M : jx_M} {pc p1 : Nat} {f : jx_fS} {a1 b1 a2 b2 : Nat} (hf0 : jx_SX M pc p1 f a1 b1) (ha : a1 ≤ a2) (hb : b1 ≤ b2) : jx_SX M pc p1 f a2 b2 := by
  intro p l e R s m args below meth c Q z D tc sc X L h o k n hf hk hn K1 K2
  exact hf0 p l e R s m args below meth c Q z D tc sc X L h o k n hf (by omega) (by omega) (fun L' h' q => (K1 L' h' q).widen (by omega) (by omega)) (fun rv h' q => (K2 rv h' q).widen (by omega) (by omega))
theorem sx_goto {M : jx_M} {pc p2 pE : Nat} {off : Int} {f : jx_fS} {mc ms : Nat} (ha : jx_SX M pc p2 f mc ms) (hdg : decode M.1 p2 = .ok (.goto off, 3)) (ht : (p2 : Int) + off = (pE : Int)) : jx_SX M pc pE f mc ms := by
  intro p l e R s m args below meth c Q z D tc sc X L h o k n hf hk hn K1 K2
  refine ha p l e R s m args below meth c Q z D tc sc X L h o k n hf hk hn (fun L' h' q => ?_) K2
  intro H locs ls hR hS hl
  exact lv_goto X.1 X.2.1 hdg ht (K1 L' h' q H locs ls hR hS hl)
/-! locals -/
def sSt (i : Nat) (f : jx_fI) : jx_fS := fun L h => (f L h).bind fun q => some (.inl (L.set i (some (.int q.1)), q.2))
def sSr (i : Nat) (f : jx_fR) : jx_fS := fun L h => (f L h).bind fun q => some (.inl (L.set i (some (.ref q.1)), q.2))
def sInc (i : Nat) (v : Int32) : jx_fS := fun L h => match L[i]? with
  | some (some (.int x)) => some (.inl (L.set i (some (.int (x + v))), h))
  | _ => none
theorem sx_st_n {M : jx_M} {pc p1 i : Nat} {j : Fin 4} {f : jx_fI} (hf0 : jx_EI M 0 pc p1 f) (hdg : decode M.1 p1 = .ok (.istore_n j, 1)) (hi : (j : Nat) = i) (h0 : i ≠ 0) (hn0 : i < M.2.2.1) : jx_SX M pc (p1 + 1) (sSt i f) 0 0 := by
  intro p l e R s m args below meth c Q z D tc sc X L h o k n hf hk hn K1 K2
  obtain ⟨⟨x, h1⟩, e1, hf⟩ := Option.bind_eq_some_iff.mp hf
  replace hf : some (Sum.inl (L.set i (some (.int x)), h1)) = some o := hf
  cases hf
  refine hf0 p l e R s m args below meth c Q z D tc sc X L [] _ _ _ k n e1 jx_st0 hk hn ?_
  intro H locs ls hR hS hl
  exact lv_istore_n X.1 X.2.1 hdg hi (hp_all_has hl.1 hl.2.1) hn0 rfl (fun ls' h' => K1 _ _ rfl H locs ls' hR hS (hp_store hl h0 rfl h'))
theorem sx_st {M : jx_M} {pc p1 i : Nat} {f : jx_fI} (hf0 : jx_EI M 0 pc p1 f) (hdg : decode M.1 p1 = .ok (.istore i, 2)) (h0 : i ≠ 0) (hn0 : i < M.2.2.1) : jx_SX M pc (p1 + 2) (sSt i f) 0 0 := by
  intro p l e R s m args below meth c Q z D tc sc X L h o k n hf hk hn K1 K2
  obtain ⟨⟨x, h1⟩, e1, hf⟩ := Option.bind_eq_some_iff.mp hf
  replace hf : some (Sum.inl (L.set i (some (.int x)), h1)) = some o := hf
  cases hf
  refine hf0 p l e R s m args below meth c Q z D tc sc X L [] _ _ _ k n e1 jx_st0 hk hn ?_
  intro H locs ls hR hS hl
  exact lv_istore X.1 X.2.1 hdg (hp_all_has hl.1 hl.2.1) hn0 rfl (fun ls' h' => K1 _ _ rfl H locs ls' hR hS (hp_store hl h0 rfl h'))
theorem sx_sr_n {M : jx_M} {pc p1 i : Nat} {j : Fin 4} {f : jx_fR} {mc ms : Nat} (hf0 : jx_ERc M 0 pc p1 f mc ms) (hdg : decode M.1 p1 = .ok (.astore_n j, 1)) (hi : (j : Nat) = i) (h0 : i ≠ 0) (hn0 : i < M.2.2.1) : jx_SX M pc (p1 + 1) (sSr i f) mc ms := by
  intro p l e R s m args below meth c Q z D tc sc X L h o k n hf hk hn K1 K2
  obtain ⟨⟨x, h1⟩, e1, hf⟩ := Option.bind_eq_some_iff.mp hf
  replace hf : some (Sum.inl (L.set i (some (.ref x)), h1)) = some o := hf
  cases hf
  refine hf0 p l e R s m args below meth c Q z D tc sc X L [] _ _ _ k n e1 jx_st0 hk hn ?_
  intro H locs ls hR hS hl
  exact lv_astore_n X.1 X.2.1 hdg hi (hp_all_has hl.1 hl.2.1) hn0 rfl (fun ls' h' => K1 _ _ rfl H locs ls' hR hS (hp_store hl h0 rfl h'))
theorem sx_sr {M : jx_M} {pc p1 i : Nat} {f : jx_fR} {mc ms : Nat} (hf0 : jx_ERc M 0 pc p1 f mc ms) (hdg : decode M.1 p1 = .ok (.astore i, 2)) (h0 : i ≠ 0) (hn0 : i < M.2.2.1) : jx_SX M pc (p1 + 2) (sSr i f) mc ms := by
  intro p l e R s m args below meth c Q z D tc sc X L h o k n hf hk hn K1 K2
  obtain ⟨⟨x, h1⟩, e1, hf⟩ := Option.bind_eq_some_iff.mp hf
  replace hf : some (Sum.inl (L.set i (some (.ref x)), h1)) = some o := hf
  cases hf
  refine hf0 p l e R s m args below meth c Q z D tc sc X L [] _ _ _ k n e1 jx_st0 hk hn ?_
  intro H locs ls hR hS hl
  exact lv_astore X.1 X.2.1 hdg (hp_all_has hl.1 hl.2.1) hn0 rfl (fun ls' h' => K1 _ _ rfl H locs ls' hR hS (hp_store hl h0 rfl h'))
theorem sx_inc {M : jx_M} {pc i : Nat} {v : Int} {w : Int32} (hdg : decode M.1 pc = .ok (.iinc i v, 3)) (hw : Int32.ofInt v = w) (h0 : i ≠ 0) (hn0 : i < M.2.2.1) : jx_SX M pc (pc + 3) (sInc i w) 0 0 := by
  intro p l e R s m args below meth c Q z D tc sc X L h o k n hf hk hn K1 K2
  intro H locs ls hR hS hl
  unfold sInc at hf
  split at hf
  · rename_i x hx
    cases hf
    obtain ⟨kk, hkk⟩ := List.getElem?_of_mem (hp_all_mem.mpr (hp_int hl hx))
    exact lv_iinc X.1 X.2.1 hdg (hp_all_has hl.1 hl.2.1) hkk (by rw [hw]) hn0 rfl (fun ls' h' => K1 _ _ rfl H locs ls' hR hS (hp_store hl h0 rfl h'))
  · cases hf
/-! fields -/
def hp_p (h : hp_H) (a ci k : Nat) (v : Value) : Option hp_H := (h[a]?).bind fun c => if c.1 = ci ∧ k < c.2.length then some (h.set a (ci, c.2.set k v)) else none
theorem hp_p_spec {h h' : hp_H} {a ci k : Nat} {v : Value} (e : hp_p h a ci k v = some h') : ∃ fs, h[a]? = some (ci, fs) ∧ k < fs.length ∧ h' = h.set a (ci, fs.set k v) := by
  obtain ⟨⟨c, fs⟩, e1, e2⟩ := Option.bind_eq_some_iff.mp e
  replace e2 : (if c = ci ∧ k < fs.length then some (h.set a (ci, fs.set k v)) else none) = some h' := e2
  split at e2
  · rename_i hc
    obtain ⟨rfl, h2⟩ := hc
    cases e2
    exact ⟨fs, e1, h2, rfl⟩
  · cases e2
/-- a field that is put: its type ty; final ones in a constructor alone -/
def jx_FP (M : jx_M) (index ci k : Nat) (ty : FieldType) : Prop := ∃ (C : String) (T : u_T) (N : Nat) (tt : Nat → FieldType), vwCl[ci]? = some (C, T, N) ∧ ci < 50 ∧ k < N ∧ (∀ w ∈ u_ws C T N, w ∈ jx_ws) ∧ (∀ k, k < N → parseFieldDescriptor (T k).2.2.1 = some (tt k)) ∧ (∀ a, a < N → ∀ b, b < N → a ≠ b → (T a).2.1 ≠ (T b).2.1) ∧ tt k = ty ∧
  (((T k).2.2.2 = false ∧ (Cond.fieldLink M.2.1 index (T k).1 (T k).2.1 (T k).2.2.1 ∈ jx_ws ∨ ∃ host : String, Cond.fieldLinkNest M.2.1 index (T k).1 (T k).2.1 (T k).2.2.1 host ∈ jx_ws)) ∨ ((T k).2.2.2 = true ∧ (T k).1 = M.2.1 ∧ M.2.2.2.2.2.1 = true ∧ Cond.fieldLink M.2.1 index (T k).1 (T k).2.1 (T k).2.2.1 ∈ jx_ws))
theorem hp_upd {z : Nat} {fs : List Value} {k : Nat} (hk : k < fs.length) (v : Value) (j : Nat) : updV (fun k => hp_v z (fs.getD k .null)) k (hp_v z v) j = hp_v z ((fs.set k v).getD j .null) := by
  unfold updV
  by_cases hj : j = k
  · subst hj
    simp [List.getD_eq_getElem?_getD, List.getElem?_set, hk]
  · rw [if_neg hj]
    simp [List.getD_eq_getElem?_getD, List.getElem?_set, Ne.symm hj]
theorem jx_put {M : jx_M} {pc index ci k : Nat} {ty : FieldType} (hF : jx_FP M index ci k ty) (hdg : decode M.1 pc = .ok (.putfield index, 3)) {p : Program} {l : Launch} {e : Env} {R : Room} {s : State} {m : MethodId} {args : Array Value} {below : List Frame} {meth : Method} {c : Code} {Q : State → Prop} {z : Nat} {D : va_G} {tc : Nat → ClassId} {sc : Option Nat} (X : jx_C M p R s m args meth c z D tc sc) {h h' : hp_H} {a : Nat} {v : Value} (hg : hp_p h a ci k v = some h') (hnv : narrow ty (hp_v z v) = hp_v z v) (hfv : fits ty (hp_v z v) = true) {H : Heap} (hR : hp_R z D tc h H) {locs : List Loc} (hS0 : va_S (fun q => z ≤ q) s.heap H locs) {k0 n0 : Nat} {ls : Array Slot} {rest : List Value} (kk : ∀ (H1 : Heap) (locs1 : List Loc), hp_R z D tc h' H1 → va_S (fun q => z ≤ q) s.heap H1 locs1 → W p l e R s m args below meth c H1 locs1 k0 n0 Q (F0 m (pc + 3) ls rest)) : W p l e R s m args below meth c H locs k0 n0 Q (F0 m pc ls (hp_v z v :: .ref (z + a) :: rest)) := by
  obtain ⟨C, T, N, tt, hc, hci, hk, hin, hty, hnm, htk, hlk⟩ := hF
  obtain ⟨fs, hf, hkl, rfl⟩ := hp_p_spec hg
  obtain ⟨hx, hb, hml, hown, hts, ⟨hK, -⟩, -, -, -, hini, -⟩ := X
  have hap := va_apart (own := M.2.1) hts hin tt hty hnm hK hc
  obtain ⟨r, h1, h2, cell, q1, q2, q3, q4⟩ := (hR.2 a _ hf).1 hci
  have hr : r = (C, T, N) := Option.some.inj (h1.symm.trans hc)
  subst hr
  obtain ⟨hS, hfc, kC, hkC, hkind⟩ := hK.1 ci _ hc
  obtain ⟨cf, kf, fi, f, hi, hsl⟩ := hS k hk
  have hlay := hts _ (hin _ (u_in_lay hk))
  have hd : parseFieldDescriptor (T k).2.2.1 = some ty := by rw [hty k hk, htk]
  have hst := (u_facts hfc hkC (u_lays hts hin hk) hi).1
  have fin : ∀ H' : Heap, H'[z + a]? = some (cell.setSlot f.slot (hp_v z v)) → H'.size = H.size → (∀ q, q ≠ z + a → H'[q]? = H[q]?) → W p l e R s m args below meth c H' (locs ++ [⟨z + a, f.slot⟩]) k0 n0 Q (F0 m (pc + 3) ls rest) := by
    intro H' e1 e2 e3
    refine kk H' _ (hR.set (hp_lt hf) ⟨fun _ => ⟨_, hc, ?_, ?_⟩, fun h50 => ?_⟩ e2 e3) (hS0.put e2 e3 (Nat.le_add_right _ _))
    · show (fs.set k v).length = N
      rw [List.length_set]
      exact h2
    · rw [hsl] at e1
      exact t_OB.to (V := updV (fun k => hp_v z (fs.getD k .null)) k (hp_v z v)) ⟨_, e1, q2, q3, t_set q4 hap hk (hp_v z v)⟩ (fun j _ => hp_upd hkl v j)
    · have h50 : 50 ≤ ci := h50
      omega
  rcases hlk with ⟨hfin, hlk⟩ | ⟨hfin, hown1, hM, hlk⟩
  · unfold u_lay at hlay
    rw [if_neg (by rw [hfin]; decide)] at hlay
    have h6 := u_store hfc hkC hkind hlay hi hd hnv hfv
    rcases hlk with hlk | ⟨host, hlk⟩
    · exact W.putK hx hb (f := f) ⟨hown, hts _ hlk, ⟨_, _, _, hi⟩, hst⟩ (by rw [q2]; exact h6) q1 q3 (by rw [hsl]; exact k2_hasslot (q4 k hk)) rfl rfl hdg fin
    · exact va_WputK hx hb (f := f) hown (hts _ hlk) hi hst (by rw [q2]; exact h6) q1 q3 (by rw [hsl]; exact k2_hasslot (q4 k hk)) rfl rfl hdg fin
  · unfold u_lay at hlay
    rw [if_pos hfin] at hlay
    have hcf : m.cls = cf := by
      obtain ⟨_, _, c', _, _, _, -, -, hf', -, -, -, hown2, -⟩ := Cond.laysFinal_spec hlay
      have e1 : c' = cf := by have := hi.symm.trans hf'; simp at this; exact this.1.symm
      rw [hown1] at hown2
      rw [← e1]; exact Option.some.inj (hown.symm.trans hown2)
    have h6 := u_fits hfc hkC hkind (Or.inr hlay) hi hd hnv hfv
    exact W.putFinK hx hb hown (hts _ hlk) hi hst hcf (hini hM) (by rw [q2]; exact h6) q1 q3 (by rw [hsl]; exact k2_hasslot (q4 k hk)) rfl rfl hdg fin
def sPI (ci k : Nat) (fo : jx_fR) (fv : jx_fI) : jx_fS := fun L h => (fo L h).bind fun q => (fv L q.2).bind fun w => (hp_p w.2 q.1 ci k (.int w.1)).bind fun h' => some (.inl (L, h'))
def sPZ (ci k : Nat) (fo : jx_fR) (fv : jx_fI) : jx_fS := fun L h => (fo L h).bind fun q => (fv L q.2).bind fun w => if w.1 = 0 ∨ w.1 = 1 then (hp_p w.2 q.1 ci k (.int w.1)).bind fun h' => some (.inl (L, h')) else none
def sPR (ci k : Nat) (fo : jx_fR) (fv : jx_fR) : jx_fS := fun L h => (fo L h).bind fun q => (fv L q.2).bind fun w => (hp_p w.2 q.1 ci k (.ref w.1)).bind fun h' => some (.inl (L, h'))
theorem sx_putI {M : jx_M} {pc p1 p2 index ci k : Nat} {fo : jx_fR} {fv : jx_fI} (ho : jx_ER M 0 pc p1 fo) (hv : jx_EI M 1 p1 p2 fv) (hF : jx_FP M index ci k .int) (hdg : decode M.1 p2 = .ok (.putfield index, 3)) : jx_SX M pc (p2 + 3) (sPI ci k fo fv) 0 0 := by
  intro p l e R s m args below meth c Q z D tc sc X L h o k0 n0 hf hk hn K1 K2
  obtain ⟨⟨a, h1⟩, e1, hf⟩ := Option.bind_eq_some_iff.mp hf
  obtain ⟨⟨x, h2⟩, e2, hf⟩ := Option.bind_eq_some_iff.mp hf
  obtain ⟨h3, e3, hf⟩ := Option.bind_eq_some_iff.mp hf
  cases hf
  refine ho p l e R s m args below meth c Q z D tc sc X L [] _ _ _ k0 n0 e1 jx_st0 hk hn ?_
  refine hv p l e R s m args below meth c Q z D tc sc X L [.ref a] _ _ _ k0 n0 e2 (jx_st0.cons rfl) hk hn ?_
  intro H locs ls hR hS hl
  exact jx_put (v := .int x) hF hdg X e3 rfl rfl hR hS (fun H1 locs1 r1 r2 => K1 L h3 rfl H1 locs1 ls r1 r2 hl)
theorem jx_bool {x : Int32} (h : x = 0 ∨ x = 1) : narrow .boolean (.int x) = .int x ∧ fits .boolean (.int x) = true := by
  rcases h with rfl | rfl
  · exact ⟨by decide +kernel, by decide +kernel⟩
  · exact ⟨by decide +kernel, by decide +kernel⟩
theorem sx_putZ {M : jx_M} {pc p1 p2 index ci k : Nat} {fo : jx_fR} {fv : jx_fI} (ho : jx_ER M 0 pc p1 fo) (hv : jx_EI M 1 p1 p2 fv) (hF : jx_FP M index ci k .boolean) (hdg : decode M.1 p2 = .ok (.putfield index, 3)) : jx_SX M pc (p2 + 3) (sPZ ci k fo fv) 0 0 := by
  intro p l e R s m args below meth c Q z D tc sc X L h o k0 n0 hf hk hn K1 K2
  obtain ⟨⟨a, h1⟩, e1, hf⟩ := Option.bind_eq_some_iff.mp hf
  obtain ⟨⟨x, h2⟩, e2, hf⟩ := Option.bind_eq_some_iff.mp hf
  replace hf : (if x = 0 ∨ x = 1 then (hp_p h2 a ci k (.int x)).bind fun h' => some (Sum.inl (L, h')) else none) = some o := hf
  split at hf
  · rename_i hx
    obtain ⟨h3, e3, hf⟩ := Option.bind_eq_some_iff.mp hf
    cases hf
    refine ho p l e R s m args below meth c Q z D tc sc X L [] _ _ _ k0 n0 e1 jx_st0 hk hn ?_
    refine hv p l e R s m args below meth c Q z D tc sc X L [.ref a] _ _ _ k0 n0 e2 (jx_st0.cons rfl) hk hn ?_
    intro H locs ls hR hS hl
    exact jx_put (v := .int x) hF hdg X e3 (jx_bool hx).1 (jx_bool hx).2 hR hS (fun H1 locs1 r1 r2 => K1 L h3 rfl H1 locs1 ls r1 r2 hl)
  · cases hf
theorem sx_putR {M : jx_M} {pc p1 p2 index ci k : Nat} {ty : FieldType} {fo fv : jx_fR} {mc ms : Nat} (hty : ∀ a, narrow ty (.ref a) = .ref a ∧ fits ty (.ref a) = true) (ho : jx_ER M 0 pc p1 fo) (hv : jx_ERc M 1 p1 p2 fv mc ms) (hF : jx_FP M index ci k ty) (hdg : decode M.1 p2 = .ok (.putfield index, 3)) : jx_SX M pc (p2 + 3) (sPR ci k fo fv) mc ms := by
  intro p l e R s m args below meth c Q z D tc sc X L h o k0 n0 hf hk hn K1 K2
  obtain ⟨⟨a, h1⟩, e1, hf⟩ := Option.bind_eq_some_iff.mp hf
  obtain ⟨⟨x, h2⟩, e2, hf⟩ := Option.bind_eq_some_iff.mp hf
  obtain ⟨h3, e3, hf⟩ := Option.bind_eq_some_iff.mp hf
  cases hf
  refine ho p l e R s m args below meth c Q z D tc sc X L [] _ _ _ k0 n0 e1 jx_st0 (by omega) (by omega) ?_
  refine hv p l e R s m args below meth c Q z D tc sc X L [.ref a] _ _ _ k0 n0 e2 (jx_st0.cons rfl) hk hn ?_
  intro H locs ls hR hS hl
  exact jx_put (v := .ref x) hF hdg X e3 (hty _).1 (hty _).2 hR hS (fun H1 locs1 r1 r2 => K1 L h3 rfl H1 locs1 ls r1 r2 hl)
/-- x.f op= e -/
def sPO (ci k : Nat) (op : Int32 → Int32 → Int32) (fo : jx_fR) (fe : jx_fI) : jx_fS := fun L h => (fo L h).bind fun q => match hp_g q.2 q.1 ci k with
  | some (.int v) => (fe L q.2).bind fun w => (hp_p w.2 q.1 ci k (.int (op v w.1))).bind fun h' => some (.inl (L, h'))
  | _ => none
theorem sx_putO {M : jx_M} {pc p1 p2 index ci k : Nat} {op : Int32 → Int32 → Int32} {fo : jx_fR} {fe : jx_fI} (ho : jx_ER M 0 pc p1 fo) (hd1 : decode M.1 p1 = .ok (.dup, 1)) (hL : jx_FL M.2.1 index ci k) (hd2 : decode M.1 (p1 + 1) = .ok (.getfield index, 3)) (he : jx_EI M 2 (p1 + 1 + 3) p2 fe) (hop : jx_op2 M p2 op) (hF : jx_FP M index ci k .int) (hdg : decode M.1 (p2 + 1) = .ok (.putfield index, 3)) : jx_SX M pc (p2 + 1 + 3) (sPO ci k op fo fe) 0 0 := by
  intro p l e R s m args below meth c Q z D tc sc X L h o k0 n0 hf hk hn K1 K2
  obtain ⟨⟨a, h1⟩, e1, hf⟩ := Option.bind_eq_some_iff.mp hf
  refine ho p l e R s m args below meth c Q z D tc sc X L [] _ _ _ k0 n0 e1 jx_st0 hk hn ?_
  dsimp only at hf
  split at hf
  · rename_i v hv
    obtain ⟨⟨x, h2⟩, e2, hf⟩ := Option.bind_eq_some_iff.mp hf
    obtain ⟨h3, e3, hf⟩ := Option.bind_eq_some_iff.mp hf
    cases hf
    intro H locs ls hR hS hl
    refine lv_dup X.1 X.2.1 hd1 rfl ?_
    refine jx_get hL hd2 X hv hR ?_
    refine he p l e R s m args below meth c Q z D tc sc X L [.int v, .ref a] _ _ _ k0 n0 e2 ((jx_st0.cons rfl).cons rfl) hk hn ?_ H locs ls hR hS hl
    intro H locs ls hR hS hl
    refine hop _ _ _ _ _ _ _ _ _ _ _ _ _ _ _ _ _ _ _ X.1 X.2.1 ?_
    exact jx_put (v := .int (op v x)) hF hdg X e3 rfl rfl hR hS (fun H1 locs1 r1 r2 => K1 L h3 rfl H1 locs1 ls r1 r2 hl)
  · cases hf
/-! arrays -/
def hp_w (h : hp_H) (a t : Nat) (i : Int32) (v : Value) : Option hp_H := (h[a]?).bind fun c => if c.1 = t ∧ ¬ (i < 0 ∨ c.2.length ≤ i.toNatClampNeg) then some (h.set a (t, c.2.set i.toNatClampNeg v)) else none
theorem hp_w_spec {h h' : hp_H} {a t : Nat} {i : Int32} {v : Value} (e : hp_w h a t i v = some h') : ∃ fs, h[a]? = some (t, fs) ∧ ¬ (i < 0 ∨ fs.length ≤ i.toNatClampNeg) ∧ h' = h.set a (t, fs.set i.toNatClampNeg v) := by
  obtain ⟨⟨c, fs⟩, e1, e2⟩ := Option.bind_eq_some_iff.mp e
  replace e2 : (if c = t ∧ ¬ (i < 0 ∨ fs.length ≤ i.toNatClampNeg) then some (h.set a (t, fs.set i.toNatClampNeg v)) else none) = some h' := e2
  split at e2
  · rename_i hc
    obtain ⟨rfl, h2⟩ := hc
    cases e2
    exact ⟨fs, e1, h2, rfl⟩
  · cases e2
theorem hp_arr {z : Nat} {D : va_G} {tc : Nat → ClassId} {h : hp_H} {H H1 : Heap} {a t i : Nat} {fs : List Value} {v : Value} (hR : hp_R z D tc h H) (ha : h[a]? = some (t, fs)) (ht : 50 ≤ t) (hi : i < fs.length) (e1 : H1[z + a]? = some ((arrV (tc t) fs.length (fun j => hp_v z (fs.getD j .null))).setSlot i (hp_v z v))) (e2 : H1.size = H.size) (e3 : ∀ q : Nat, q ≠ z + a → H1[q]? = H[q]?) : hp_R z D tc (h.set a (t, fs.set i v)) H1 := by
  refine hR.set (hp_lt ha) ⟨fun h50 => ?_, fun _ => ?_⟩ e2 e3
  · have h50 : t < 50 := h50
    omega
  · show H1[z + a]? = some (arrV (tc t) (fs.set i v).length _)
    rw [e1, arrV_store, List.length_set]
    congr 2
    funext j
    exact hp_upd hi v j
def sAI (fa : jx_fR) (fi fv : jx_fI) : jx_fS := fun L h => (fa L h).bind fun q => (fi L q.2).bind fun w => (fv L w.2).bind fun x => (hp_w x.2 q.1 50 w.1 (.int x.1)).bind fun h' => some (.inl (L, h'))
def sAZ (fa : jx_fR) (fi fv : jx_fI) : jx_fS := fun L h => (fa L h).bind fun q => (fi L q.2).bind fun w => (fv L w.2).bind fun x => if x.1 = 0 ∨ x.1 = 1 then (hp_w x.2 q.1 51 w.1 (.int x.1)).bind fun h' => some (.inl (L, h')) else none
theorem jx_iast {M : jx_M} {pc : Nat} (hdg : decode M.1 pc = .ok (.iastore, 1)) {p : Program} {l : Launch} {e : Env} {R : Room} {s : State} {m : MethodId} {args : Array Value} {below : List Frame} {meth : Method} {c : Code} {Q : State → Prop} {z : Nat} {D : va_G} {tc : Nat → ClassId} {sc : Option Nat} (X : jx_C M p R s m args meth c z D tc sc) {h h' : hp_H} {a : Nat} {i x : Int32} (hg : hp_w h a 50 i (.int x) = some h') {H : Heap} (hR : hp_R z D tc h H) {locs : List Loc} (hS0 : va_S (fun q => z ≤ q) s.heap H locs) {k0 n0 : Nat} {ls : Array Slot} {rest : List Value} (kk : ∀ (H1 : Heap) (locs1 : List Loc), hp_R z D tc h' H1 → va_S (fun q => z ≤ q) s.heap H1 locs1 → W p l e R s m args below meth c H1 locs1 k0 n0 Q (F0 m (pc + 1) ls rest)) : W p l e R s m args below meth c H locs k0 n0 Q (F0 m pc ls (.int x :: .int i :: .ref (z + a) :: rest)) := by
  obtain ⟨fs, g1, g2, rfl⟩ := hp_w_spec hg
  have hlt : i.toNatClampNeg < fs.length := Nat.not_le.mp fun q => g2 (Or.inr q)
  exact W.iast X.1 X.2.1 ((hR.2 a _ g1).2 (Nat.le_of_ble_eq_true rfl)) ((X.2.2.2.2.2.1.1.2 0 _ rfl).1 _ _) (fun q => by cases q) (by rw [arrV_size]; exact g2) rfl rfl hdg (fun H1 e1 e2 e3 => kk H1 _ (hp_arr (v := .int x) hR g1 (by decide) hlt e1 e2 e3) (hS0.put e2 e3 (Nat.le_add_right _ _)))
theorem sx_ast {M : jx_M} {pc p1 p2 p3 : Nat} {fa : jx_fR} {fi fv : jx_fI} (ha : jx_ER M 0 pc p1 fa) (hi : jx_EI M 1 p1 p2 fi) (hv : jx_EI M 2 p2 p3 fv) (hdg : decode M.1 p3 = .ok (.iastore, 1)) : jx_SX M pc (p3 + 1) (sAI fa fi fv) 0 0 := by
  intro p l e R s m args below meth c Q z D tc sc X L h o k0 n0 hf hk hn K1 K2
  obtain ⟨⟨a, h1⟩, e1, hf⟩ := Option.bind_eq_some_iff.mp hf
  obtain ⟨⟨i, h2⟩, e2, hf⟩ := Option.bind_eq_some_iff.mp hf
  obtain ⟨⟨x, h3⟩, e3, hf⟩ := Option.bind_eq_some_iff.mp hf
  obtain ⟨h4, e4, hf⟩ := Option.bind_eq_some_iff.mp hf
  cases hf
  refine ha p l e R s m args below meth c Q z D tc sc X L [] _ _ _ k0 n0 e1 jx_st0 hk hn ?_
  refine hi p l e R s m args below meth c Q z D tc sc X L [.ref a] _ _ _ k0 n0 e2 (jx_st0.cons rfl) hk hn ?_
  refine hv p l e R s m args below meth c Q z D tc sc X L [.int i, .ref a] _ _ _ k0 n0 e3 ((jx_st0.cons rfl).cons rfl) hk hn ?_
  intro H locs ls hR hS hl
  exact jx_iast hdg X e4 hR hS (fun H1 locs1 r1 r2 => K1 L h4 rfl H1 locs1 ls r1 r2 hl)
theorem sx_bst {M : jx_M} {pc p1 p2 p3 : Nat} {fa : jx_fR} {fi fv : jx_fI} (ha : jx_ER M 0 pc p1 fa) (hi : jx_EI M 1 p1 p2 fi) (hv : jx_EI M 2 p2 p3 fv) (hdg : decode M.1 p3 = .ok (.bastore, 1)) : jx_SX M pc (p3 + 1) (sAZ fa fi fv) 0 0 := by
  intro p l e R s m args below meth c Q z D tc sc X L h o k0 n0 hf hk hn K1 K2
  obtain ⟨⟨a, h1⟩, e1, hf⟩ := Option.bind_eq_some_iff.mp hf
  obtain ⟨⟨i, h2⟩, e2, hf⟩ := Option.bind_eq_some_iff.mp hf
  obtain ⟨⟨x, h3⟩, e3, hf⟩ := Option.bind_eq_some_iff.mp hf
  replace hf : (if x = 0 ∨ x = 1 then (hp_w h3 a 51 i (.int x)).bind fun h' => some (Sum.inl (L, h')) else none) = some o := hf
  split at hf
  · rename_i hx
    obtain ⟨h4, e4, hf⟩ := Option.bind_eq_some_iff.mp hf
    cases hf
    refine ha p l e R s m args below meth c Q z D tc sc X L [] _ _ _ k0 n0 e1 jx_st0 hk hn ?_
    refine hi p l e R s m args below meth c Q z D tc sc X L [.ref a] _ _ _ k0 n0 e2 (jx_st0.cons rfl) hk hn ?_
    refine hv p l e R s m args below meth c Q z D tc sc X L [.int i, .ref a] _ _ _ k0 n0 e3 ((jx_st0.cons rfl).cons rfl) hk hn ?_
    intro H locs ls hR hS hl
    obtain ⟨fs, g1, g2, rfl⟩ := hp_w_spec e4
    have hlt : i.toNatClampNeg < fs.length := Nat.not_le.mp fun q => g2 (Or.inr q)
    exact W.zast X.1 X.2.1 ((hR.2 a _ g1).2 (Nat.le_of_ble_eq_true rfl)) ((X.2.2.2.2.2.1.1.2 1 _ rfl).1 _ _) (fun q => by cases q) (by rw [arrV_size]; exact g2) rfl rfl hdg (fun H1 e1 e2 e3 => K1 L _ rfl H1 _ ls (hp_arr (v := .int x) hR g1 (by decide) hlt (by rw [(jx_bool hx).1] at e1; exact e1) e2 e3) (hS.put e2 e3 (Nat.le_add_right _ _)) hl)
  · cases hf
/-- a[i] op= e -/
def sAO (op : Int32 → Int32 → Int32) (fa : jx_fR) (fi fe : jx_fI) : jx_fS := fun L h => (fa L h).bind fun q => (fi L q.2).bind fun w => match hp_i w.2 q.1 50 w.1 with
  | some (.int v) => (fe L w.2).bind fun x => (hp_w x.2 q.1 50 w.1 (.int (op v x.1))).bind fun h' => some (.inl (L, h'))
  | _ => none
theorem sx_astO {M : jx_M} {pc p1 p2 p3 : Nat} {op : Int32 → Int32 → Int32} {fa : jx_fR} {fi fe : jx_fI} (ha : jx_ER M 0 pc p1 fa) (hi : jx_EI M 1 p1 p2 fi) (hd1 : decode M.1 p2 = .ok (.dup2, 1)) (hd2 : decode M.1 (p2 + 1) = .ok (.iaload, 1)) (he : jx_EI M 3 (p2 + 1 + 1) p3 fe) (hop : jx_op2 M p3 op) (hdg : decode M.1 (p3 + 1) = .ok (.iastore, 1)) : jx_SX M pc (p3 + 1 + 1) (sAO op fa fi fe) 0 0 := by
  intro p l e R s m args below meth c Q z D tc sc X L h o k0 n0 hf hk hn K1 K2
  obtain ⟨⟨a, h1⟩, e1, hf⟩ := Option.bind_eq_some_iff.mp hf
  obtain ⟨⟨i, h2⟩, e2, hf⟩ := Option.bind_eq_some_iff.mp hf
  refine ha p l e R s m args below meth c Q z D tc sc X L [] _ _ _ k0 n0 e1 jx_st0 hk hn ?_
  refine hi p l e R s m args below meth c Q z D tc sc X L [.ref a] _ _ _ k0 n0 e2 (jx_st0.cons rfl) hk hn ?_
  dsimp only at hf
  split at hf
  · rename_i v hv
    obtain ⟨⟨x, h3⟩, e3, hf⟩ := Option.bind_eq_some_iff.mp hf
    obtain ⟨h4, e4, hf⟩ := Option.bind_eq_some_iff.mp hf
    cases hf
    obtain ⟨fs, g1, g2, g3⟩ := hp_i_spec hv
    have hlt : i.toNatClampNeg < fs.length := Nat.not_le.mp fun q => g2 (Or.inr q)
    intro H locs ls hR hS hl
    refine lv_dup2_11 X.1 X.2.1 hd1 rfl rfl ?_
    refine W.iald (v := .int v) X.1 X.2.1 ((hR.2 a _ g1).2 (Nat.le_of_ble_eq_true rfl)) ((X.2.2.2.2.2.1.1.2 0 _ rfl).1 _ _) (fun q => by cases q) (by rw [arrV_size]; exact g2) (by rw [arrV_read _ _ hlt]; simp [List.getD_eq_getElem?_getD, g3, hp_v]) rfl rfl hd2 ?_
    refine he p l e R s m args below meth c Q z D tc sc X L [.int v, .int i, .ref a] _ _ _ k0 n0 e3 (((jx_st0.cons rfl).cons rfl).cons rfl) hk hn ?_ H locs ls hR hS hl
    intro H locs ls hR hS hl
    refine hop _ _ _ _ _ _ _ _ _ _ _ _ _ _ _ _ _ _ _ X.1 X.2.1 ?_
    exact jx_iast hdg X e4 hR hS (fun H1 locs1 r1 r2 => K1 L h4 rfl H1 locs1 ls r1 r2 hl)
  · cases hf
/-! answers -/
def sRI (f : jx_fI) : jx_fS := fun L h => (f L h).bind fun q => some (.inr (some (.int q.1), q.2))
def sRR (f : jx_fR) : jx_fS := fun L h => (f L h).bind fun q => some (.inr (some (.ref q.1), q.2))
def sRV : jx_fS := fun _ h => some (.inr (none, h))
theorem sx_retI {M : jx_M} {pc p1 pE : Nat} {f : jx_fI} (hf0 : jx_EI M 0 pc p1 f) (hdg : decode M.1 p1 = .ok (.ireturn, 1)) : jx_SX M pc pE (sRI f) 0 0 := by
  intro p l e R s m args below meth c Q z D tc sc X L h o k n hf hk hn K1 K2
  obtain ⟨⟨x, h1⟩, e1, hf⟩ := Option.bind_eq_some_iff.mp hf
  replace hf : some (Sum.inr (some (.int x), h1)) = some o := hf
  cases hf
  refine hf0 p l e R s m args below meth c Q z D tc sc X L [] _ _ _ k n e1 jx_st0 hk hn ?_
  intro H locs ls hR hS hl
  exact K2 _ _ rfl H locs p1 ls hR hS (by rw [X.2.1]; exact hdg)
theorem sx_retR {M : jx_M} {pc p1 pE : Nat} {f : jx_fR} (hf0 : jx_ER M 0 pc p1 f) (hdg : decode M.1 p1 = .ok (.areturn, 1)) : jx_SX M pc pE (sRR f) 0 0 := by
  intro p l e R s m args below meth c Q z D tc sc X L h o k n hf hk hn K1 K2
  obtain ⟨⟨x, h1⟩, e1, hf⟩ := Option.bind_eq_some_iff.mp hf
  replace hf : some (Sum.inr (some (.ref x), h1)) = some o := hf
  cases hf
  refine hf0 p l e R s m args below meth c Q z D tc sc X L [] _ _ _ k n e1 jx_st0 hk hn ?_
  intro H locs ls hR hS hl
  exact K2 _ _ rfl H locs p1 ls hR hS (by rw [X.2.1]; exact hdg)
theorem sx_retV {M : jx_M} {pc pE : Nat} (hdg : decode M.1 pc = .ok (.return_, 1)) : jx_SX M pc pE sRV 0 0 := by
  intro p l e R s m args below meth c Q z D tc sc X L h o k n hf hk hn K1 K2
  replace hf : some (Sum.inr (none, h)) = some o := hf
  cases hf
  intro H locs ls hR hS hl
  exact K2 _ _ rfl H locs pc ls hR hS (by rw [X.2.1]; exact hdg)
/-- an answer that nobody wants -/
def sPopI (f : jx_fI) : jx_fS := fun L h => (f L h).bind fun q => some (.inl (L, q.2))
def sPopR (f : jx_fR) : jx_fS := fun L h => (f L h).bind fun q => some (.inl (L, q.2))
theorem sx_popI {M : jx_M} {pc p1 : Nat} {f : jx_fI} (hf0 : jx_EI M 0 pc p1 f) (hdg : decode M.1 p1 = .ok (.pop, 1)) : jx_SX M pc (p1 + 1) (sPopI f) 0 0 := by
  intro p l e R s m args below meth c Q z D tc sc X L h o k n hf hk hn K1 K2
  obtain ⟨⟨x, h1⟩, e1, hf⟩ := Option.bind_eq_some_iff.mp hf
  replace hf : some (Sum.inl (L, h1)) = some o := hf
  cases hf
  refine hf0 p l e R s m args below meth c Q z D tc sc X L [] _ _ _ k n e1 jx_st0 hk hn ?_
  intro H locs ls hR hS hl
  exact lv_pop X.1 X.2.1 hdg rfl (K1 L h1 rfl H locs ls hR hS hl)
theorem sx_popR {M : jx_M} {pc p1 : Nat} {f : jx_fR} (hf0 : jx_ER M 0 pc p1 f) (hdg : decode M.1 p1 = .ok (.pop, 1)) : jx_SX M pc (p1 + 1) (sPopR f) 0 0 := by
  intro p l e R s m args below meth c Q z D tc sc X L h o k n hf hk hn K1 K2
  obtain ⟨⟨x, h1⟩, e1, hf⟩ := Option.bind_eq_some_iff.mp hf
  replace hf : some (Sum.inl (L, h1)) = some o := hf
  cases hf
  refine hf0 p l e R s m args below meth c Q z D tc sc X L [] _ _ _ k n e1 jx_st0 hk hn ?_
  intro H locs ls hR hS hl
  exact lv_pop X.1 X.2.1 hdg rfl (K1 L h1 rfl H locs ls hR hS hl)
/-! choice and loop -/
def sIf (fc : jx_fB) (f g : jx_fS) : jx_fS := fun L h => (fc L h).bind fun q => if q.1 = true then f L q.2 else g L q.2
theorem sx_ifc {M : jx_M} {pc p1 tE pE : Nat} {fc : jx_fB} {f g : jx_fS} {a1 b1 a2 b2 : Nat} (hc : jx_C2c M 0 pc p1 tE fc a1 b1) (ha : jx_SX M p1 pE f a2 b2) (hb : jx_SX M tE pE g a2 b2) : jx_SX M pc pE (sIf fc f g) (a1 + a2) (b1 + b2) := by
  intro p l e R s m args below meth c Q z D tc sc X L h o k n hf hk hn K1 K2
  obtain ⟨⟨x, h1⟩, e1, hf⟩ := Option.bind_eq_some_iff.mp hf
  replace hf : (if x = true then f L h1 else g L h1) = some o := hf
  rw [← Nat.add_assoc] at hk hn
  rw [← Nat.add_assoc, ← Nat.add_assoc] at K1 K2
  refine hc p l e R s m args below meth c Q z D tc sc X L [] _ _ _ k n e1 jx_st0 (by omega) (by omega) (fun q => ?_) (fun q => ?_)
  · rw [q] at hf
    exact ha p l e R s m args below meth c Q z D tc sc X L h1 o (k + a1) (n + b1) hf hk hn K1 K2
  · rw [q] at hf
    exact hb p l e R s m args below meth c Q z D tc sc X L h1 o (k + a1) (n + b1) hf hk hn K1 K2
theorem sx_ife {M : jx_M} {pc p1 tE pE : Nat} {fc : jx_fB} {f g : jx_fS} (hc : jx_C2 M 0 pc p1 tE fc) (ha : jx_SX M p1 pE f 0 0) (hb : jx_SX M tE pE g 0 0) : jx_SX M pc pE (sIf fc f g) 0 0 := sx_ifc hc ha hb
theorem sx_if {M : jx_M} {pc p1 pE : Nat} {fc : jx_fB} {f : jx_fS} (hc : jx_C2 M 0 pc p1 pE fc) (ha : jx_SX M p1 pE f 0 0) : jx_SX M pc pE (sIf fc f sSkip) 0 0 := sx_ifc hc ha sx_skip
def sWh (fc : jx_fB) (fb : jx_fS) : Nat → jx_fS
  | 0 => fun _ _ => none
  | N + 1 => fun L h => (fc L h).bind fun q => if q.1 = true then (fb L q.2).bind (fun o => match o with
    | .inl w => sWh fc fb N w.1 w.2
    | .inr r => some (.inr r)) else some (.inl (L, q.2))
theorem sx_whn {M : jx_M} {pc p1 pE : Nat} {fc : jx_fB} {fb : jx_fS} {a b : Nat} (hc : jx_C2 M 0 pc p1 pE fc) (hb : jx_SX M p1 pc fb a b) : ∀ N : Nat, jx_SX M pc pE (sWh fc fb N) (N * a) (N * b)
  | 0 => by
    intro p l e R s m args below meth c Q z D tc sc X L h o k n hf
    cases hf
  | N + 1 => by
    intro p l e R s m args below meth c Q z D tc sc X L h o k n hf hk hn K1 K2
    obtain ⟨⟨x, h1⟩, e1, hf⟩ := Option.bind_eq_some_iff.mp hf
    replace hf : (if x = true then (fb L h1).bind (fun o => match o with
      | .inl w => sWh fc fb N w.1 w.2
      | .inr r => some (.inr r)) else some (.inl (L, h1))) = some o := hf
    have ea : k + (N + 1) * a = k + a + N * a := by rw [Nat.add_mul, Nat.one_mul]; omega
    have eb : n + (N + 1) * b = n + b + N * b := by rw [Nat.add_mul, Nat.one_mul]; omega
    rw [ea] at hk
    rw [eb] at hn
    rw [ea, eb] at K1 K2
    refine hc p l e R s m args below meth c Q z D tc sc X L [] _ _ _ k n e1 jx_st0 (by omega) (by omega) (fun q => ?_) (fun q => ?_)
    · rw [q, if_pos rfl] at hf
      obtain ⟨o1, e2, hf⟩ := Option.bind_eq_some_iff.mp hf
      refine hb p l e R s m args below meth c Q z D tc sc X L h1 o1 k n e2 (by omega) (by omega) (fun L2 h2 q2 => ?_) (fun rv h2 q2 => ?_)
      · subst q2
        exact sx_whn hc hb N p l e R s m args below meth c Q z D tc sc X L2 h2 o (k + a) (n + b) hf hk hn K1 K2
      · subst q2
        cases hf
        exact (K2 rv h2 rfl).widen (by omega) (by omega)
    · rw [q] at hf
      cases hf
      exact (K1 L h1 rfl).widen (by omega) (by omega)
theorem sx_whc {M : jx_M} {pc p1 pE : Nat} {fc : jx_fB} {fb : jx_fS} {a b N : Nat} (hc : jx_C2 M 0 pc p1 pE fc) (hb : jx_SX M p1 pc fb a b) : jx_SX M pc pE (sWh fc fb N) (N * a) (N * b) := sx_whn hc hb N
theorem sx_wh {M : jx_M} {pc p1 pE N : Nat} {fc : jx_fB} {fb : jx_fS} (hc : jx_C2 M 0 pc p1 pE fc) (hb : jx_SX M p1 pc fb 0 0) : jx_SX M pc pE (sWh fc fb N) 0 0 := by
  have := sx_whn hc hb N
  rwa [Nat.mul_zero] at this
/-- a switch: the cases' statements by the values from lo on; gd otherwise -/
def sSw (fe : jx_fI) (lo : Int) (gs : List jx_fS) (gd : jx_fS) : jx_fS := fun L h => (fe L h).bind fun q => (if q.1.toInt < lo then gd else gs.getD (q.1.toInt - lo).toNat gd) L q.2
theorem sx_sw {M : jx_M} {pc p1 pE len td : Nat} {fe : jx_fI} {dflt lo hi : Int} {offs : Array Int} {gs : List jx_fS} {gd : jx_fS} {mc ms : Nat} (he : jx_EI M 0 pc p1 fe) (hdg : decode M.1 p1 = .ok (.tableswitch dflt lo hi offs, len)) (hlen : hi + 1 - lo = (gs.length : Int)) (htd : (p1 : Int) + dflt = (td : Int)) (hd : jx_SX M td pE gd mc ms) (hg : ∀ (i : Nat) (f : jx_fS), gs[i]? = some f → ∃ (off : Int) (tg : Nat), offs[i]? = some off ∧ (p1 : Int) + off = (tg : Int) ∧ jx_SX M tg pE f mc ms) : jx_SX M pc pE (sSw fe lo gs gd) mc ms := by
  intro p l e R s m args below meth c Q z D tc sc X L h o k n hf hk hn K1 K2
  obtain ⟨⟨x, h1⟩, e1, hf⟩ := Option.bind_eq_some_iff.mp hf
  replace hf : (if x.toInt < lo then gd else gs.getD (x.toInt - lo).toNat gd) L h1 = some o := hf
  refine he p l e R s m args below meth c Q z D tc sc X L [] _ _ _ k n e1 jx_st0 (by omega) (by omega) ?_
  intro H locs ls hR hS hl
  by_cases h1' : x.toInt < lo
  · rw [if_pos h1'] at hf
    exact lv_tableOut X.1 X.2.1 hdg (Or.inl h1') htd (hd p l e R s m args below meth c Q z D tc sc X L h1 o k n hf hk hn K1 K2 H locs ls hR hS hl)
  · rw [if_neg h1'] at hf
    by_cases h2' : hi < x.toInt
    · have hb : gs.length ≤ (x.toInt - lo).toNat := by omega
      rw [List.getD_eq_getElem?_getD, List.getElem?_eq_none hb] at hf
      exact lv_tableOut X.1 X.2.1 hdg (Or.inr h2') htd (hd p l e R s m args below meth c Q z D tc sc X L h1 o k n hf hk hn K1 K2 H locs ls hR hS hl)
    · have hb : (x.toInt - lo).toNat < gs.length := by omega
      have hget : gs[(x.toInt - lo).toNat]? = some gs[(x.toInt - lo).toNat] := List.getElem?_eq_getElem hb
      rw [List.getD_eq_getElem?_getD, hget] at hf
      obtain ⟨off, tg, g1, g2, g3⟩ := hg _ _ hget
      exact lv_tableIn X.1 X.2.1 hdg h1' h2' g1 g2 (g3 p l e R s m args below meth c Q z D tc sc X L h1 o k n hf hk hn K1 K2 H locs ls hR hS hl)
theorem sw_nil {M : jx_M} {p1 pE : Nat} {offs : Array Int} {mc ms : Nat} {i0 : Nat} : ∀ (i : Nat) (f : jx_fS), ([] : List jx_fS)[i]? = some f → ∃ (off : Int) (tg : Nat), offs[i0 + i]? = some off ∧ (p1 : Int) + off = (tg : Int) ∧ jx_SX M tg pE f mc ms := fun i f h => by simp at h
theorem sw_cons {M : jx_M} {p1 pE : Nat} {offs : Array Int} {mc ms : Nat} {i0 tg : Nat} {off : Int} {f0 : jx_fS} {gs : List jx_fS} (h1 : offs[i0]? = some off) (h2 : (p1 : Int) + off = (tg : Int)) (h3 : jx_SX M tg pE f0 mc ms) (hr : ∀ (i : Nat) (f : jx_fS), gs[i]? = some f → ∃ (off : Int) (tg : Nat), offs[(i0 + 1) + i]? = some off ∧ (p1 : Int) + off = (tg : Int) ∧ jx_SX M tg pE f mc ms) : ∀ (i : Nat) (f : jx_fS), (f0 :: gs)[i]? = some f → ∃ (off : Int) (tg : Nat), offs[i0 + i]? = some off ∧ (p1 : Int) + off = (tg : Int) ∧ jx_SX M tg pE f mc ms
  | 0, f, h => by
    rw [List.getElem?_cons_zero] at h
    cases h
    exact ⟨off, tg, h1, h2, h3⟩
  | i + 1, f, h => by
    rw [List.getElem?_cons_succ] at h
    rw [show i0 + (i + 1) = (i0 + 1) + i by omega]
    exact hr i f h
theorem sw_done {M : jx_M} {p1 pE : Nat} {offs : Array Int} {mc ms : Nat} {gs : List jx_fS} (hr : ∀ (i : Nat) (f : jx_fS), gs[i]? = some f → ∃ (off : Int) (tg : Nat), offs[0 + i]? = some off ∧ (p1 : Int) + off = (tg : Int) ∧ jx_SX M tg pE f mc ms) : ∀ (i : Nat) (f : jx_fS), gs[i]? = some f → ∃ (off : Int) (tg : Nat), offs[i]? = some off ∧ (p1 : Int) + off = (tg : Int) ∧ jx_SX M tg pE f mc ms := fun i f h => by
  have := hr i f h
  rwa [Nat.zero_add] at this
/-! a method out of its body -/
def jx_L0 (nL : Nat) (as : List Value) : hp_L := as.map some ++ List.replicate (nL - as.length) none
def mI (nL : Nat) (body : jx_fS) : List Value → hp_H → Option (Int32 × hp_H) := fun as h => if as.length ≤ nL then (match body (jx_L0 nL as) h with
  | some (.inr (some (.int r), h')) => some (r, h')
  | _ => none) else none
def mZ (nL : Nat) (body : jx_fS) : List Value → hp_H → Option (Int32 × hp_H) := fun as h => if as.length ≤ nL then (match body (jx_L0 nL as) h with
  | some (.inr (some (.int r), h')) => if r = 0 ∨ r = 1 then some (r, h') else none
  | _ => none) else none
def mR (nL : Nat) (body : jx_fS) : List Value → hp_H → Option (Nat × hp_H) := fun as h => if as.length ≤ nL then (match body (jx_L0 nL as) h with
  | some (.inr (some (.ref r), h')) => some (r, h')
  | _ => none) else none
def mV (nL : Nat) (body : jx_fS) : List Value → hp_H → Option hp_H := fun as h => if as.length ≤ nL then (match body (jx_L0 nL as) h with
  | some (.inr (none, h')) => some h'
  | _ => none) else none
theorem jx_entry {z nL : Nat} {as : List Value} (hc : ∀ v ∈ as, v.category = 1) (hle : as.length ≤ nL) : hp_l z none nL (((as.map (hp_v z)).map Slot.val ++ List.replicate (nL - (as.map (hp_v z)).length) Slot.unset).toArray) (jx_L0 nL as) := by
  have hn2 : ∀ (i : Nat) (x : Slot), (((as.map (hp_v z)).map Slot.val ++ List.replicate (nL - (as.map (hp_v z)).length) Slot.unset).toArray)[i]? = some x → x = .unset ∨ ∃ v, x = .val v ∧ v.category = 1 := by
    intro i x hx
    rw [List.getElem?_toArray] at hx
    rcases List.mem_append.mp (List.mem_of_getElem? hx) with h | h
    · obtain ⟨w, hw, rfl⟩ := List.mem_map.mp h
      obtain ⟨v, hv, rfl⟩ := List.mem_map.mp hw
      exact Or.inr ⟨_, rfl, by rw [hp_v_cat]; exact hc v hv⟩
    · exact Or.inl (List.eq_of_mem_replicate h)
  refine ⟨by simp; omega, ⟨fun i v h h2 => ?_, fun i h => ?_⟩, fun i v h => ?_, fun b h => by cases h⟩
  · rcases hn2 _ _ h with e | ⟨w, e, hw⟩
    · cases e
    · cases e
      omega
  · rcases hn2 _ _ h with e | ⟨w, e, hw⟩
    · cases e
    · cases e
  · unfold jx_L0 at h
    by_cases hi : i < as.length
    · rw [List.getElem?_append_left (by rw [List.length_map]; exact hi), List.getElem?_map] at h
      obtain ⟨w, hw, e⟩ := Option.map_eq_some_iff.mp h
      cases e
      refine ⟨hc _ (List.mem_of_getElem? hw), ?_⟩
      rw [List.getElem?_toArray, List.getElem?_append_left (by simpa using hi), List.getElem?_map, List.getElem?_map, hw]
      rfl
    · rw [List.getElem?_append_right (by rw [List.length_map]; omega)] at h
      have := List.eq_of_mem_replicate (List.mem_of_getElem? h)
      cases this
theorem jx_cats {z : Nat} {as : List Value} (hc : ∀ v ∈ as, v.category = 1) : ∀ v ∈ as.map (hp_v z), v.category = 1 := fun v hv => by
  obtain ⟨w, hw, rfl⟩ := List.mem_map.mp hv
  rw [hp_v_cat]
  exact hc w hw
theorem hp_Rh {z : Nat} {D : va_G} {tc : Nat → ClassId} {h : hp_H} {H : Heap} {t : State} (ht : t.heap = H) (hR : hp_R z D tc h H) : hp_R z D tc h t.heap := by rw [ht]; exact hR
section JXM
variable {y : MethodName} {b : ByteArray} {nL fr lc mc ms pE : Nat} {body : jx_fS} {ini : Bool}
/-- a method's body, walked from its entry -/
theorem jx_walk {l : Launch} {ret : Option FieldType} {Qc : Array Value → State → Outcome → State → Prop} {z : Nat} {D : va_G} {tc : Nat → ClassId} {as : List Value} {h h' : hp_H} {rv : Option Value} (hy : plainName y.cls = true) (hini : ini = true → y.name = "<init>") (hb0 : jx_SX (b, y.cls, nL, fr, lc, ini, 0, fun _ => 0) 0 pE body mc ms) (hcat : ∀ v ∈ as, v.category = 1) (hle : as.length ≤ nL) (hbody : body (jx_L0 nL as) h = some (.inr (rv, h')))
    (hend : ∀ (p : Program) (e : Env) (R : Room) (s : State) (m : MethodId) (below : List Frame) (meth : Method) (c : Code), p.tables.exec = Jvm.exec → c.code = b → meth.sig.returnType = ret → meth.locks = false → jx_Rt p l e R s m (as.map (hp_v z)).toArray below meth c (MQ below Qc (as.map (hp_v z)).toArray s mc ms (fun q => z ≤ q)) z D tc rv h' mc ms) : Met l y (Cond.code y b nL ret :: jx_ws) { frames := fr, cells := mc, slots := ms, locals := lc } (jx_Pre z D tc as h) Qc mc ms (fun q => z ≤ q) := by
  refine Met.ofW (cc := b) (maxL := nL) (ret := ret) hy rfl ?_
  intro p e s m args below meth c s₁ B hml hv
  obtain ⟨rfl, hK, hR⟩ := hv
  have hts := atoms_spec (ws := Cond.code y b nL ret :: jx_ws) B.pre
  have hown : s.vm.findClass y.cls = some m.cls := findClass_of_methodNamed B.named
  have hin : meth.name = y.name := (name_of_methodNamed B.named B.method).1
  rw [entry_eq m _ (jx_cats hcat) nL]
  have X : jx_C (b, y.cls, nL, fr, lc, ini, 0, fun _ => 0) p (headSpec (Cond.code y b nL ret :: jx_ws) { frames := fr, cells := mc, slots := ms, locals := lc }).room s m (as.map (hp_v z)).toArray meth c z D tc none := ⟨B.exec, B.bytes, hml, hown, fun w hw => hts w (List.mem_cons_of_mem _ hw), hK, Nat.le_refl _, Nat.le_refl _, by rw [hR.1]; exact Nat.le_add_right _ _, fun hi => by rw [hin]; exact hini hi, fun N h => by cases h⟩
  refine hb0 p l e _ s m _ below meth c _ z D tc none X (jx_L0 nL as) h _ 0 0 hbody (by show 0 + mc ≤ mc; omega) (by show 0 + ms ≤ ms; omega) (fun L' h2 q => by cases q) (fun rv2 h2 q => ?_) s.heap [] _ hR va_S.rf (jx_entry hcat hle)
  cases q
  rw [Nat.zero_add, Nat.zero_add]
  exact hend p e _ s m below meth c B.exec B.bytes B.returns B.notSynchronized
theorem mi_of (hy : plainName y.cls = true) (hb0 : jx_SX (b, y.cls, nL, fr, lc, false, 0, fun _ => 0) 0 pE body mc ms) : jx_MI y b nL fr lc .int (mI nL body) mc ms := by
  intro l z D tc as h r h' hG hcat
  unfold mI at hG
  split at hG
  · rename_i hle
    split at hG
    · rename_i r' h'' hbody
      cases hG
      refine jx_walk hy (fun h => by cases h) hb0 hcat hle hbody ?_
      intro p e R s m below meth c hx hb hr hlk H locs pc ls hR hS hd
      exact W.iret hx hb hr (fun t ht hW => ⟨⟨_, (), rfl, rfl, hp_Rh ht hR⟩, hS.F ht⟩) hS.2.2 (by rw [← hb]; exact hd) hlk
    · cases hG
  · cases hG
theorem mz_of (hy : plainName y.cls = true) (hb0 : jx_SX (b, y.cls, nL, fr, lc, false, 0, fun _ => 0) 0 pE body mc ms) : jx_MI y b nL fr lc .boolean (mZ nL body) mc ms := by
  intro l z D tc as h r h' hG hcat
  unfold mZ at hG
  split at hG
  · rename_i hle
    split at hG
    · rename_i r' h'' hbody
      split at hG
      · rename_i hr01
        cases hG
        refine jx_walk hy (fun h => by cases h) hb0 hcat hle hbody ?_
        intro p e R s m below meth c hx hb hr hlk H locs pc ls hR hS hd
        exact W.zret hx hb hr (jx_bool hr01).1 (fun t ht hW => ⟨⟨_, (), rfl, rfl, hp_Rh ht hR⟩, hS.F ht⟩) hS.2.2 (by rw [← hb]; exact hd) hlk
      · cases hG
    · cases hG
  · cases hG
theorem mv_of (hy : plainName y.cls = true) (hini : ini = true → y.name = "<init>") (hb0 : jx_SX (b, y.cls, nL, fr, lc, ini, 0, fun _ => 0) 0 pE body mc ms) : jx_MV y b nL fr lc (mV nL body) mc ms := by
  intro l z D tc as h h' hG hcat
  unfold mV at hG
  split at hG
  · rename_i hle
    split at hG
    · rename_i h'' hbody
      cases hG
      refine jx_walk hy hini hb0 hcat hle hbody ?_
      intro p e R s m below meth c hx hb hr hlk H locs pc ls hR hS hd
      exact W.vret hx hb hr (fun t ht hW => ⟨⟨(), rfl, trivial, hp_Rh ht hR⟩, hS.F ht⟩) hS.2.2 (by rw [← hb]; exact hd) hlk
    · cases hG
  · cases hG
theorem mr_of {C : String} (hy : plainName y.cls = true) (hb0 : jx_SX (b, y.cls, nL, fr, lc, false, 0, fun _ => 0) 0 pE body mc ms) : jx_MR y b nL fr lc (.object C) (mR nL body) mc ms := by
  intro l z D tc as h r h' hG hcat
  unfold mR at hG
  split at hG
  · rename_i hle
    split at hG
    · rename_i r' h'' hbody
      cases hG
      refine jx_walk hy (fun h => by cases h) hb0 hcat hle hbody ?_
      intro p e R s m below meth c hx hb hr hlk H locs pc ls hR hS hd
      exact W.aret hx hb hr (Or.inl ⟨_, rfl⟩) (Or.inr ⟨_, rfl⟩) (fun t ht hW => ⟨⟨(), _, rfl, trivial, rfl, hp_Rh ht hR⟩, hS.F ht⟩) hS.2.2 (by rw [← hb]; exact hd) hlk
    · cases hG
  · cases hG
end JXM
