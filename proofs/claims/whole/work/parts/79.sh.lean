/-! setup: the frames, and what they do -/
def e0G (k : Nat) : sg := up (up (sxG (nwG (nI 5) (nI (k + 1)) (nI 32) (nI 8)) (nI 64) (nI 6) (nI 3) (nI 1) (nI 72) (nI 6)) 1 6 (nI 1)) 1 7 (nI 1)
def e1G (k o i : Nat) : sg := up (up (sxG (nwG (nI 5) (nI (k + 1)) (nI 40) (nI 8)) (nI 80) (nI o) (nI 2) (bI (jGt (nI o) 0)) (nI 96) (nI i)) 1 6 (nI 0)) 1 7 (bI (jGt (nI i) 0))
def e2G (k o p : Nat) : sg := sxG (nwG (nI 5) (nI (k + 1)) (nI 8) (nI 6)) (nI p) (nI 0) (nI (8 * o)) (nI 80) (nI 0) (nI 2)
def e3G (k i p : Nat) : sg := sxG (nwG (nI 5) (nI (k + 1)) (nI 14) (nI 6)) (nI p) (nI 0) (nI (8 * i)) (nI 96) (nI 0) (nI 1)
def chF (k o i p : Nat) : Nat → sg := fun e => if e = 0 then e0G k else if e = 1 then e1G k o i else e2G k o p
def st1 (u : wd) (k o i p : Nat) : wd := sndW (frW u 3 (chF k o i p))
def st2 (u : wd) (k o i p : Nat) : wd := sndW (frW (st1 u k o i p) 1 (fun _ => e3G k i (p + o)))
def gd1 (u : wd) (k o i p : Nat) : Bool := bW (st1 u k o i p) && (List.range 3).all (fun e => jEq ((st1 u k o i p).2.2.1 e 0 4) (nI 1))
def gd2 (u : wd) (k o i p : Nat) : Bool := bW (st2 u k o i p) && (List.range 1).all (fun e => jEq ((st2 u k o i p).2.2.1 e 0 4) (nI 1))
def Pw (w : wd) : Nat → Nat
  | 0 => 0
  | s + 1 => Pw w s + (oN (w.1 s) + iN (w.1 s))
def suL (w : wd) : Nat → wd × Nat
  | 0 => (w, 0)
  | s + 1 => (st2 (suL w s).1 s (oN (w.1 s)) (iN (w.1 s)) (Pw w s), (suL w s).2 + (if (gd1 (suL w s).1 s (oN (w.1 s)) (iN (w.1 s)) (Pw w s) && gd2 (suL w s).1 s (oN (w.1 s)) (iN (w.1 s)) (Pw w s)) = true then 1 else 0))
def imP (w u : wd) (s : Nat) : wd := (u.1, u.2.1, u.2.2.1, fun j i => if j = 2 ∨ j = 3 then nI 0 else if j = 0 ∧ i = 6 then nI s else if j = 0 ∧ i = 7 then nI (Pw w s) else if j = 4 ∧ i < s then nI (Pw w i) else if j = 5 ∧ i < s then nI (Pw w i + oN (w.1 i)) else if j = 6 ∧ i < s then nI (oN (w.1 i)) else if j = 7 ∧ i < s then nI (iN (w.1 i)) else if j = 8 ∧ i < s then nI (Pw w (i + 1)) else vW u j i)
section SHC
variable {n X : Nat} {σ : sg} {w u : wd}
theorem Pw_b (hW : okW w) : ∀ s, s ≤ kW w → Pw w s ≤ 4 * s
  | 0, _ => by unfold Pw; omega
  | s + 1, hs => by
    have ih := Pw_b hW s (by omega)
    have t := (hW.u (show s < kW w by omega)).t
    have h1 := t.2.1
    have h2 := t.2.2.2
    unfold Pw
    omega
theorem Pw_m {s : Nat} : ∀ t : Nat, s ≤ t → Pw w s ≤ Pw w t
  | 0, h => by
    have : s = 0 := by omega
    subst this
    exact Nat.le_refl _
  | t + 1, h => by
    by_cases q : s = t + 1
    · subst q
      exact Nat.le_refl _
    · have := Pw_m (s := s) t (by omega)
      show Pw w s ≤ Pw w t + (oN (w.1 t) + iN (w.1 t))
      omega
theorem bI_b {b : Bool} : byt (bI b) := by
  cases b
  · exact ⟨0, by omega, rfl⟩
  · exact ⟨1, by omega, rfl⟩
theorem up_b {G : sg} {i : Nat} {v : Int32} (h : ∀ i, i < 8 → byt (G 1 i)) (hv : byt v) : ∀ j, j < 8 → byt (up G 1 i v 1 j) := fun j hj => by
  unfold up
  split
  · exact hv
  · exact h j hj
theorem e0_ok {k : Nat} (hk : k < 100) : okP (e0G k) := okP_n (c := 5) (a := k + 1) (o := 32) (l := 8) (by omega) (by omega) (by omega) (by omega) (B := e0G k 1) (up_b (up_b (sx_b nw_b (byt_n (by omega)) (byt_n (by omega)) (byt_n (by omega)) (byt_n (by omega)) (byt_n (by omega)) (byt_n (by omega))) (byt_n (by omega))) (byt_n (by omega))) (fun j _ => by unfold e0G; rw [up_ne (by omega), up_ne (by omega), sx_0]) (fun _ _ => rfl)
theorem e1_ok {k o i : Nat} (hk : k < 100) (ho : o ≤ 2) (hi : i ≤ 2) : okP (e1G k o i) := okP_n (c := 5) (a := k + 1) (o := 40) (l := 8) (by omega) (by omega) (by omega) (by omega) (B := e1G k o i 1) (up_b (up_b (sx_b nw_b (byt_n (by omega)) (byt_n (by omega)) (byt_n (by omega)) bI_b (byt_n (by omega)) (byt_n (by omega))) (byt_n (by omega))) bI_b) (fun j _ => by unfold e1G; rw [up_ne (by omega), up_ne (by omega), sx_0]) (fun _ _ => rfl)
theorem e2_ok {k o p : Nat} (hk : k < 100) (ho : o ≤ 2) (hp : p < 200) : okP (e2G k o p) := okP_n (c := 5) (a := k + 1) (o := 8) (l := 6) (by omega) (by omega) (by omega) (by omega) (B := e2G k o p 1) (sx_b nw_b (byt_n (by omega)) (byt_n (by omega)) (byt_n (by omega)) (byt_n (by omega)) (byt_n (by omega)) (byt_n (by omega))) (fun j _ => by unfold e2G; rw [sx_0]) (fun _ _ => rfl)
theorem e3_ok {k i p : Nat} (hk : k < 100) (hi : i ≤ 2) (hp : p < 200) : okP (e3G k i p) := okP_n (c := 5) (a := k + 1) (o := 14) (l := 6) (by omega) (by omega) (by omega) (by omega) (B := e3G k i p 1) (sx_b nw_b (byt_n (by omega)) (byt_n (by omega)) (byt_n (by omega)) (byt_n (by omega)) (byt_n (by omega)) (byt_n (by omega))) (fun j _ => by unfold e3G; rw [sx_0]) (fun _ _ => rfl)
theorem chF_ok {k o i p : Nat} (hk : k < 100) (ho : o ≤ 2) (hi : i ≤ 2) (hp : p < 200) (e : Nat) : okP (chF k o i p e) := by
  unfold chF
  split
  · exact e0_ok hk
  split
  · exact e1_ok hk ho hi
  · exact e2_ok hk ho hp
theorem st1_ok {k o i p : Nat} (hW : okW u) (hk : k < 100) (ho : o ≤ 2) (hi : i ≤ 2) (hp : p < 200) : okW (st1 u k o i p) := (hW.fr (by omega) (fun _ _ => chF_ok hk ho hi hp _)).sn
theorem st2_ok {k o i p : Nat} (hW : okW u) (hk : k < 100) (ho : o ≤ 2) (hi : i ≤ 2) (hp : p < 100) : okW (st2 u k o i p) := ((st1_ok hW hk ho hi (by omega)).fr (by omega) (fun _ _ => e3_ok hk hi (by omega))).sn
theorem sn_0 {z : Nat} {G : Nat → sg} (hW : okW u) (hz : z ≤ 3) (hg : ∀ e, e < z → okP (G e)) {t : Nat} (ht : t < kW u) : (sndW (frW u z G)).1 t 0 = u.1 t 0 := by
  have h1 := hW.fr hz hg
  have ez : zW (frW u z G) = z := zW_f hz
  have := runL_K (A := u.1) (G := G) (k := kW u) (z := z) (fun t ht => (hW.u ht).1) hg (dW (frW u z G)) (dW_le h1) t ht
  show (runL u.1 G (zW (frW u z G)) (dW (frW u z G))).1 t 0 = _
  rw [ez]
  exact this.1 0 (Or.inl rfl)
theorem suL_ok (hW : okW w) : ∀ s, s ≤ kW w → okW (suL w s).1 ∧ kW (suL w s).1 = kW w ∧ (∀ t, t < kW w → (suL w s).1.1 t 0 = w.1 t 0) ∧ (∀ j i, j ≠ 0 → vW (suL w s).1 j i = vW w j i) ∧ (∀ i, i = 0 ∨ i = 3 ∨ i = 4 → vW (suL w s).1 0 i = vW w 0 i) ∧ (suL w s).2 ≤ s
  | 0, _ => ⟨hW, rfl, fun _ _ => rfl, fun _ _ _ => rfl, fun _ _ => rfl, Nat.le_refl _⟩
  | s + 1, hs => by
    obtain ⟨i1, i2, i3, i4, i5, i6⟩ := suL_ok hW s (by omega)
    have t := (hW.u (show s < kW w by omega)).t
    have hp := Pw_b hW s (by omega)
    have hk := hW.2.1
    have ho := t.2.1
    have hi := t.2.2.2
    have ok1 : okW (st1 (suL w s).1 s (oN (w.1 s)) (iN (w.1 s)) (Pw w s)) := st1_ok i1 (by omega) ho hi (by omega)
    refine ⟨st2_ok i1 (by omega) ho hi (by omega), i2, fun e he => ?_, fun j i hj => ?_, fun i hi' => ?_, ?_⟩
    · show (st2 _ _ _ _ _).1 e 0 = _
      unfold st2
      rw [sn_0 ok1 (by omega) (fun _ _ => e3_ok (by omega) hi (by omega)) (t := e) (by show e < kW (suL w s).1; omega)]
      unfold st1
      rw [sn_0 i1 (by omega) (fun _ _ => chF_ok (by omega) ho hi (by omega) _) (t := e) (by omega)]
      exact i3 e he
    · show up (up (up (up (up (up (vW (suL w s).1) 0 5 _) 0 1 _) 0 2 _) 0 5 _) 0 1 _) 0 2 _ j i = _
      rw [up_ne hj, up_ne hj, up_ne hj, up_ne hj, up_ne hj, up_ne hj]
      exact i4 j i hj
    · rw [← i5 i hi']
      show up (up (up (up (up (up (vW (suL w s).1) 0 5 _) 0 1 _) 0 2 _) 0 5 _) 0 1 _) 0 2 _ 0 i = _
      unfold up
      rw [if_neg (by omega), if_neg (by omega), if_neg (by omega), if_neg (by omega), if_neg (by omega), if_neg (by omega)]
    · show (suL w s).2 + _ ≤ _
      split <;> omega
theorem imP_ok (hW : okW w) (hu : okW u) (hk : kW u = kW w) {s : Nat} (hs : s ≤ kW w) : okW (imP w u s) ∧ mW (imP w u s) = s ∧ sW (imP w u s) = Pw w s := by
  obtain ⟨h1, h2, h3, h4, h5, h6, h7, h8, h9, h10, h11, h12, h13, h14, h15, h16, h17, h18, h19, h20⟩ := hu
  have hp := Pw_b hW s hs
  have hk6 := hW.2.1
  have em : mW (imP w u s) = s := nC_n (show s < 2 ^ 31 by omega)
  have es : sW (imP w u s) = Pw w s := nC_n (show Pw w s < 2 ^ 31 by omega)
  have e20 : ∀ i, vW (imP w u s) 2 i = nI 0 := fun i => rfl
  have z11 : vW (imP w u s) 0 6 = nI (mW (imP w u s)) := by rw [em]; rfl
  have z12 : mW (imP w u s) ≤ 6 := by rw [em]; omega
  have z13 : vW (imP w u s) 0 7 = nI (sW (imP w u s)) := by rw [es]; rfl
  have z14 : sW (imP w u s) ≤ 24 := by rw [es]; omega
  have z15 : mW (imP w u s) = 0 → sW (imP w u s) = 0 := by
    intro q
    rw [em] at q
    subst q
    rw [es]
    rfl
  refine ⟨⟨h1, h2, h3, h4, h5, h6, h7, h8, h9, h10, z11, z12, z13, z14, z15, h16, h17, h18, fun t ht => ?_, fun i hi => by rw [e20]; exact byt_n (by omega)⟩, em, es⟩
  rw [em] at ht
  have tt := (hW.u (show t < kW w by omega)).t
  have hm := Pw_m (w := w) (s := t + 1) s (by omega)
  have e1 : Pw w (t + 1) = Pw w t + (oN (w.1 t) + iN (w.1 t)) := rfl
  refine ⟨Pw w t, oN (w.1 t), iN (w.1 t), ?_, ?_, ?_, ?_, ?_, tt.2.1, tt.2.2.2, by rw [es]; omega⟩
  · unfold imP vW
    dsimp only
    rw [if_neg (by omega), if_neg (by omega), if_neg (by omega), if_pos ⟨rfl, ht⟩]
  · unfold imP vW
    dsimp only
    rw [if_neg (by omega), if_neg (by omega), if_neg (by omega), if_neg (by omega), if_pos ⟨rfl, ht⟩]
  · unfold imP vW
    dsimp only
    rw [if_neg (by omega), if_neg (by omega), if_neg (by omega), if_neg (by omega), if_neg (by omega), if_pos ⟨rfl, ht⟩]
  · unfold imP vW
    dsimp only
    rw [if_neg (by omega), if_neg (by omega), if_neg (by omega), if_neg (by omega), if_neg (by omega), if_neg (by omega), if_pos ⟨rfl, ht⟩]
  · unfold imP vW
    dsimp only
    rw [if_neg (by omega), if_neg (by omega), if_neg (by omega), if_neg (by omega), if_neg (by omega), if_neg (by omega), if_neg (by omega), if_pos ⟨rfl, ht⟩, e1, Nat.add_assoc]
theorem imP_0 : imP w w 0 = fgW w := by
  unfold imP fgW
  refine congrArg (fun v => (w.1, w.2.1, w.2.2.1, v)) ?_
  funext j i
  by_cases q : j = 2 ∨ j = 3
  · rw [if_pos q, if_pos q]
  rw [if_neg q, if_neg q]
  by_cases q6 : j = 0 ∧ i = 6
  · rw [if_pos q6, if_pos (by omega)]
  rw [if_neg q6]
  by_cases q7 : j = 0 ∧ i = 7
  · rw [if_pos q7, if_pos (by omega)]
    rfl
  rw [if_neg q7, if_neg (by omega), if_neg (by omega), if_neg (by omega), if_neg (by omega), if_neg (by omega), if_neg (by omega)]
theorem imP_s {z s : Nat} {G : Nat → sg} : sndW (frW (imP w u s) z G) = imP w (sndW (frW u z G)) s := by
  have e : vW (sndW (frW (imP w u s) z G)) = vW (imP w (sndW (frW u z G)) s) := by
    funext j i
    show up (up (up (vW (imP w u s)) 0 5 (nI z)) 0 1 (-1)) 0 2 (bI (tW (frW u z G))) j i = _
    unfold imP vW
    dsimp only
    by_cases q : j = 0 ∧ (i = 5 ∨ i = 1 ∨ i = 2)
    · rw [if_neg (show ¬ (j = 2 ∨ j = 3) by omega), if_neg (show ¬ (j = 0 ∧ i = 6) by omega), if_neg (show ¬ (j = 0 ∧ i = 7) by omega), if_neg (show ¬ (j = 4 ∧ i < s) by omega), if_neg (show ¬ (j = 5 ∧ i < s) by omega), if_neg (show ¬ (j = 6 ∧ i < s) by omega), if_neg (show ¬ (j = 7 ∧ i < s) by omega), if_neg (show ¬ (j = 8 ∧ i < s) by omega)]
      obtain ⟨rfl, hi⟩ := q
      rcases hi with rfl | rfl | rfl <;> rfl
    · have ev : (sndW (frW u z G)).2.2.2 j i = u.2.2.2 j i := by
        show up (up (up u.2.2.2 0 5 (nI z)) 0 1 (-1)) 0 2 _ j i = _
        unfold up
        rw [if_neg (by omega), if_neg (by omega), if_neg (by omega)]
      rw [ev]
      unfold up
      rw [if_neg (by omega), if_neg (by omega), if_neg (by omega)]
  exact congrArg (fun v => ((runL u.1 G (zW (frW u z G)) (dW (frW u z G))).1, u.2.1, (runL u.1 G (zW (frW u z G)) (dW (frW u z G))).2, v)) e
def suW (w : wd) : wd := imP w (suL w (fW w)).1 (fW w)
theorem suW_ok (hW : okW w) : okW (suW w) := by
  have hf := hW.2.2.2.2.2.1
  obtain ⟨i1, i2, -⟩ := suL_ok hW (fW w) hf
  exact (imP_ok hW i1 i2 hf).1
end SHC
