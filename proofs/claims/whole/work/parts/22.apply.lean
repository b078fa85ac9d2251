/-! the combinators, applied: for simp (a program that is not applied stays as it is) -/
theorem e_fI (v : Int32) (L : hp_L) (h : hp_H) : fI v L h = (some (v, h)) := rfl
theorem e_fLd (i : Nat) (L : hp_L) (h : hp_H) : fLd i L h = (match L[i]? with
  | some (some (.int x)) => some (x, h)
  | _ => none) := rfl
theorem e_fLr (i : Nat) (L : hp_L) (h : hp_H) : fLr i L h = (match L[i]? with
  | some (some (.ref a)) => some (a, h)
  | _ => none) := rfl
theorem e_fB (op : Int32 → Int32 → Int32) (fa fb : jx_fI) (L : hp_L) (h : hp_H) : fB op fa fb L h = ((fa L h).bind fun q => (fb L q.2).bind fun w => some (op q.1 w.1, w.2)) := rfl
theorem e_fD (op : Int32 → Int32 → Int32) (fa fb : jx_fI) (L : hp_L) (h : hp_H) : fD op fa fb L h = ((fa L h).bind fun q => (fb L q.2).bind fun w => if w.1 = 0 then none else some (op q.1 w.1, w.2)) := rfl
theorem e_fC (op : Int32 → Int32 → Bool) (fa fb : jx_fI) (L : hp_L) (h : hp_H) : fC op fa fb L h = ((fa L h).bind fun q => (fb L q.2).bind fun w => some (op q.1 w.1, w.2)) := rfl
theorem e_fT (fa : jx_fI) (L : hp_L) (h : hp_H) : fT fa L h = fC jNe fa (fI 0) L h := rfl
theorem e_fAnd (fa fb : jx_fB) (L : hp_L) (h : hp_H) : fAnd fa fb L h = ((fa L h).bind fun q => if q.1 = true then fb L q.2 else some (false, q.2)) := rfl
theorem e_fOr (fa fb : jx_fB) (L : hp_L) (h : hp_H) : fOr fa fb L h = ((fa L h).bind fun q => if q.1 = true then some (true, q.2) else fb L q.2) := rfl
theorem e_fNot (fa : jx_fB) (L : hp_L) (h : hp_H) : fNot fa L h = ((fa L h).bind fun q => some (!q.1, q.2)) := rfl
theorem e_fCC (fc fa fb : jx_fB) (L : hp_L) (h : hp_H) : fCC fc fa fb L h = ((fc L h).bind fun q => if q.1 = true then fa L q.2 else fb L q.2) := rfl
theorem e_fIf (fc : jx_fB) (fa fb : jx_fI) (L : hp_L) (h : hp_H) : fIf fc fa fb L h = ((fc L h).bind fun q => if q.1 = true then fa L q.2 else fb L q.2) := rfl
theorem e_gI (ci k : Nat) (f : jx_fR) (L : hp_L) (h : hp_H) : gI ci k f L h = ((f L h).bind fun q => match hp_g q.2 q.1 ci k with
  | some (.int x) => some (x, q.2)
  | _ => none) := rfl
theorem e_gR (ci k : Nat) (f : jx_fR) (L : hp_L) (h : hp_H) : gR ci k f L h = ((f L h).bind fun q => match hp_g q.2 q.1 ci k with
  | some (.ref a) => some (a, q.2)
  | _ => none) := rfl
theorem e_aI (t : Nat) (fa : jx_fR) (fi : jx_fI) (L : hp_L) (h : hp_H) : aI t fa fi L h = ((fa L h).bind fun q => (fi L q.2).bind fun w => match hp_i w.2 q.1 t w.1 with
  | some (.int x) => some (x, w.2)
  | _ => none) := rfl
theorem e_aR (t : Nat) (fa : jx_fR) (fi : jx_fI) (L : hp_L) (h : hp_H) : aR t fa fi L h = ((fa L h).bind fun q => (fi L q.2).bind fun w => match hp_i w.2 q.1 t w.1 with
  | some (.ref x) => some (x, w.2)
  | _ => none) := rfl
theorem e_aN (t : Nat) (fa : jx_fR) (L : hp_L) (h : hp_H) : aN t fa L h = ((fa L h).bind fun q => (q.2[q.1]?).bind fun c => if c.1 = t then some (Int32.ofNat c.2.length, q.2) else none) := rfl
theorem e_cV {α : Type} (ci : Nat) (g : jx_fA) (G : List Value → hp_H → Option α) (L : hp_L) (h : hp_H) : cV ci g G L h = ((g L h).bind fun q => match q.1 with
  | .ref a :: _ => if hp_k q.2 a = some ci then G q.1 q.2 else none
  | _ => none) := rfl
theorem e_cS {α : Type} (g : jx_fA) (G : List Value → hp_H → Option α) (L : hp_L) (h : hp_H) : cS g G L h = ((g L h).bind fun q => G q.1 q.2) := rfl
theorem e_fNil (L : hp_L) (h : hp_H) : fNil L h = (some ([], h)) := rfl
theorem e_fAi (f : jx_fI) (g : jx_fA) (L : hp_L) (h : hp_H) : fAi f g L h = ((f L h).bind fun q => (g L q.2).bind fun w => some (.int q.1 :: w.1, w.2)) := rfl
theorem e_fAr (f : jx_fR) (g : jx_fA) (L : hp_L) (h : hp_H) : fAr f g L h = ((f L h).bind fun q => (g L q.2).bind fun w => some (.ref q.1 :: w.1, w.2)) := rfl
theorem e_sSeq (f g : jx_fS) (L : hp_L) (h : hp_H) : sSeq f g L h = ((f L h).bind fun o => match o with
  | .inl q => g q.1 q.2
  | .inr r => some (.inr r)) := rfl
theorem e_sSkip (L : hp_L) (h : hp_H) : sSkip L h = (some (.inl (L, h))) := rfl
theorem e_sSt (i : Nat) (f : jx_fI) (L : hp_L) (h : hp_H) : sSt i f L h = ((f L h).bind fun q => some (.inl (L.set i (some (.int q.1)), q.2))) := rfl
theorem e_sSr (i : Nat) (f : jx_fR) (L : hp_L) (h : hp_H) : sSr i f L h = ((f L h).bind fun q => some (.inl (L.set i (some (.ref q.1)), q.2))) := rfl
theorem e_sInc (i : Nat) (v : Int32) (L : hp_L) (h : hp_H) : sInc i v L h = (match L[i]? with
  | some (some (.int x)) => some (.inl (L.set i (some (.int (x + v))), h))
  | _ => none) := rfl
theorem e_sRI (f : jx_fI) (L : hp_L) (h : hp_H) : sRI f L h = ((f L h).bind fun q => some (.inr (some (.int q.1), q.2))) := rfl
theorem e_sRR (f : jx_fR) (L : hp_L) (h : hp_H) : sRR f L h = ((f L h).bind fun q => some (.inr (some (.ref q.1), q.2))) := rfl
theorem e_sRV (L : hp_L) (h : hp_H) : sRV L h = (some (.inr (none, h))) := rfl
theorem e_sIf (fc : jx_fB) (f g : jx_fS) (L : hp_L) (h : hp_H) : sIf fc f g L h = ((fc L h).bind fun q => if q.1 = true then f L q.2 else g L q.2) := rfl
theorem e_sCall (f : hp_L → hp_H → Option hp_H) (L : hp_L) (h : hp_H) : sCall f L h = ((f L h).bind fun h' => some (.inl (L, h'))) := rfl
theorem e_sPI (ci k : Nat) (fo : jx_fR) (fv : jx_fI) (L : hp_L) (h : hp_H) : sPI ci k fo fv L h = ((fo L h).bind fun q => (fv L q.2).bind fun w => (hp_p w.2 q.1 ci k (.int w.1)).bind fun h' => some (.inl (L, h'))) := rfl
theorem e_sPZ (ci k : Nat) (fo : jx_fR) (fv : jx_fI) (L : hp_L) (h : hp_H) : sPZ ci k fo fv L h = ((fo L h).bind fun q => (fv L q.2).bind fun w => if w.1 = 0 ∨ w.1 = 1 then (hp_p w.2 q.1 ci k (.int w.1)).bind fun h' => some (.inl (L, h')) else none) := rfl
theorem e_sPR (ci k : Nat) (fo : jx_fR) (fv : jx_fR) (L : hp_L) (h : hp_H) : sPR ci k fo fv L h = ((fo L h).bind fun q => (fv L q.2).bind fun w => (hp_p w.2 q.1 ci k (.ref w.1)).bind fun h' => some (.inl (L, h'))) := rfl
theorem e_sPO (ci k : Nat) (op : Int32 → Int32 → Int32) (fo : jx_fR) (fe : jx_fI) (L : hp_L) (h : hp_H) : sPO ci k op fo fe L h = ((fo L h).bind fun q => match hp_g q.2 q.1 ci k with
  | some (.int v) => (fe L q.2).bind fun w => (hp_p w.2 q.1 ci k (.int (op v w.1))).bind fun h' => some (.inl (L, h'))
  | _ => none) := rfl
theorem e_sAI (fa : jx_fR) (fi fv : jx_fI) (L : hp_L) (h : hp_H) : sAI fa fi fv L h = ((fa L h).bind fun q => (fi L q.2).bind fun w => (fv L w.2).bind fun x => (hp_w x.2 q.1 50 w.1 (.int x.1)).bind fun h' => some (.inl (L, h'))) := rfl
theorem e_sAZ (fa : jx_fR) (fi fv : jx_fI) (L : hp_L) (h : hp_H) : sAZ fa fi fv L h = ((fa L h).bind fun q => (fi L q.2).bind fun w => (fv L w.2).bind fun x => if x.1 = 0 ∨ x.1 = 1 then (hp_w x.2 q.1 51 w.1 (.int x.1)).bind fun h' => some (.inl (L, h')) else none) := rfl
theorem e_sAO (op : Int32 → Int32 → Int32) (fa : jx_fR) (fi fe : jx_fI) (L : hp_L) (h : hp_H) : sAO op fa fi fe L h = ((fa L h).bind fun q => (fi L q.2).bind fun w => match hp_i w.2 q.1 50 w.1 with
  | some (.int v) => (fe L w.2).bind fun x => (hp_w x.2 q.1 50 w.1 (.int (op v x.1))).bind fun h' => some (.inl (L, h'))
  | _ => none) := rfl
theorem e_sAR (t : Nat) (fa : jx_fR) (fi : jx_fI) (fv : jx_fR) (ci : Nat) (L : hp_L) (h : hp_H) : sAR t fa fi fv ci L h = ((fa L h).bind fun q => (fi L q.2).bind fun w => (fv L w.2).bind fun x => if hp_k x.2 x.1 = some ci then (hp_w x.2 q.1 t w.1 (.ref x.1)).bind fun h' => some (.inl (L, h')) else none) := rfl
theorem e_sPopI (f : jx_fI) (L : hp_L) (h : hp_H) : sPopI f L h = ((f L h).bind fun q => some (.inl (L, q.2))) := rfl
theorem e_sPopR (f : jx_fR) (L : hp_L) (h : hp_H) : sPopR f L h = ((f L h).bind fun q => some (.inl (L, q.2))) := rfl
theorem e_sCopy (g : jx_fA) (L : hp_L) (h : hp_H) : sCopy g L h = ((g L h).bind fun q => match q.1 with
  | [.ref a0, .int sp, .ref a1, .int dp, .int n] => (hp_cp q.2 a0 sp a1 dp n).bind fun h' => some (.inl (L, h'))
  | _ => none) := rfl
theorem e_sSw (fe : jx_fI) (lo : Int) (gs : List jx_fS) (gd : jx_fS) (L : hp_L) (h : hp_H) : sSw fe lo gs gd L h = ((fe L h).bind fun q => (if q.1.toInt < lo then gd else gs.getD (q.1.toInt - lo).toNat gd) L q.2) := rfl
theorem e_mI (nL : Nat) (body : jx_fS) (as : List Value) (h : hp_H) : mI nL body as h = (if as.length ≤ nL then (match body (jx_L0 nL as) h with
  | some (.inr (some (.int r), h')) => some (r, h')
  | _ => none) else none) := rfl
theorem e_mZ (nL : Nat) (body : jx_fS) (as : List Value) (h : hp_H) : mZ nL body as h = (if as.length ≤ nL then (match body (jx_L0 nL as) h with
  | some (.inr (some (.int r), h')) => if r = 0 ∨ r = 1 then some (r, h') else none
  | _ => none) else none) := rfl
theorem e_mR (nL : Nat) (body : jx_fS) (as : List Value) (h : hp_H) : mR nL body as h = (if as.length ≤ nL then (match body (jx_L0 nL as) h with
  | some (.inr (some (.ref r), h')) => some (r, h')
  | _ => none) else none) := rfl
theorem e_mV (nL : Nat) (body : jx_fS) (as : List Value) (h : hp_H) : mV nL body as h = (if as.length ≤ nL then (match body (jx_L0 nL as) h with
  | some (.inr (none, h')) => some h'
  | _ => none) else none) := rfl
theorem jAdd_n (a b : Nat) : jAdd (nI a) (nI b) = nI (a + b) := nI_add a b
theorem jMul_n (a b : Nat) : jMul (nI a) (nI b) = nI (a * b) := pk_mul a b
theorem z0 : (nI 0 = 0 ∨ nI 0 = 1) := by decide
theorem z1 : (nI 1 = 0 ∨ nI 1 = 1) := by decide
