/-! what stays well made when a frame passes -/
def KP (A B : sg) : Prop := (∀ j, j = 0 ∨ j = 1 ∨ j = 2 ∨ j = 21 → B j = A j) ∧ (∀ i, i = 2 ∨ i = 3 → B 4 i = A 4 i) ∧ (B 3 7 = A 3 7 ∨ B 3 7 = nI 1)
theorem KP.r (A : sg) : KP A A := ⟨fun _ _ => rfl, fun _ _ => rfl, Or.inl rfl⟩
theorem KP.t {A B C : sg} (h : KP A B) (k : KP B C) : KP A C := by
  refine ⟨fun j hj => (k.1 j hj).trans (h.1 j hj), fun i hi => (k.2.1 i hi).trans (h.2.1 i hi), ?_⟩
  rcases k.2.2 with e | e
  · rw [e]; exact h.2.2
  · exact Or.inr e
theorem KP.u {A : sg} {j i : Nat} {v : Int32} (hj : j ≠ 0 ∧ j ≠ 1 ∧ j ≠ 2 ∧ j ≠ 21) (h4 : ¬ (j = 4 ∧ (i = 2 ∨ i = 3))) (h3 : j = 3 → i = 7 → v = nI 1) : KP A (up A j i v) := by
  refine ⟨fun a ha => up_ne (by omega), fun a ha => ?_, ?_⟩
  · unfold up
    rw [if_neg (by omega)]
  · unfold up
    by_cases q : 3 = j ∧ 7 = i
    · rw [if_pos q]
      exact Or.inr (h3 q.1.symm q.2.symm)
    · rw [if_neg q]
      exact Or.inl rfl
theorem KP.pl {A : sg} {b : Nat} {v : Int32} : KP A (plA A b v) := by
  unfold plA
  split
  · exact KP.r A
  split
  · exact (KP.u (by omega) (by omega) (by omega)).t (KP.u (by omega) (by omega) (fun _ _ => rfl))
  split
  · refine (KP.u (j := 4) (i := b) (v := v) (by omega) (by omega) (by omega)).t ?_
    unfold wipA
    refine KP.t ?_ ((KP.u (j := 15) (by omega) (by omega) (by omega)).t (KP.u (j := 4) (by omega) (by omega) (by omega)))
    refine ⟨fun j hj => ?_, fun i hi => ?_, Or.inl ?_⟩
    · funext i
      unfold clrA
      rw [if_neg (by omega)]
    · unfold clrA
      rw [if_neg (by omega)]
    · unfold clrA
      rw [if_neg (by omega)]
  · exact KP.u (by omega) (by omega) (by omega)
theorem KP.ch {A : sg} {d i : Nat} {v : Int32} (hd : d < 4) : KP A (chA A d i v) := by
  unfold chA
  split
  · exact (KP.u (by omega) (by omega) (by omega)).t (KP.u (by omega) (by omega) (by omega))
  · exact KP.u (by omega) (by omega) (by omega)
theorem KP.cm {A : sg} {d : Nat} (hd : d < 4) : KP A (cmA A d) := by
  have c : KP A (cpy A (6 + d) 0 (11 + d) 0 8) := ⟨fun j hj => cpy_ne (by omega), fun i hi => by rw [cpy_ne (by omega)], Or.inl (by rw [cpy_ne (by omega)])⟩
  unfold cmA
  split
  · exact ((c.t (KP.u (by omega) (by omega) (by omega))).t (KP.u (by omega) (by omega) (by omega))).t (KP.u (by omega) (by omega) (by omega))
  · exact c.t (KP.u (by omega) (by omega) (by omega))
theorem KP.w1 {A : sg} {b : Nat} {v : Int32} (h : okA A) (hb : b < 128) : KP A (W1 A b v) := by
  unfold W1
  rcases own_d h.b hb with e | ⟨e, -, hc, -⟩
  · rw [if_pos e]
    exact KP.pl
  · rw [if_neg e]
    split
    · exact KP.ch hc
    split
    · exact (KP.ch hc).t (KP.cm hc)
    · exact KP.ch hc
theorem KP.cw {A : sg} {f : Nat} {r m : Nat → Int32} (h : okA A) : ∀ k, f + k ≤ 128 → (∀ j, j < k → byt (r j)) → KP A (cW A f r m k)
  | 0, _, _ => KP.r A
  | k + 1, hk, hr => (KP.cw h k (by omega) (fun j hj => hr j (by omega))).t (KP.w1 (h.cw k (by omega) (fun j hj => hr j (by omega))) (by omega))
theorem KP.rd {A : sg} {f l : Nat} : KP A (rdA A f l) := by
  refine ⟨fun j hj => ?_, fun i hi => ?_, Or.inl ?_⟩
  · funext i
    unfold rdA
    rw [if_neg (by omega), if_neg (by omega)]
  · exact rd_lo (by omega)
  · unfold rdA
    rw [if_neg (by omega), if_neg (by omega)]
theorem KP.dir {A G : sg} (h : okA A) (hg : okG G) : KP A (dirS A G) := by
  obtain ⟨-, hf, -, h1, h8, hb⟩ := hg
  unfold dirS
  split
  · split
    · rename_i q
      unfold okD at q
      have := of_decide_eq_true (Bool.and_eq_true_iff.mp q).1
      exact KP.cw h _ this (fun j hj => hb j (by omega))
    · exact KP.r A
  · split
    · exact KP.rd
    · exact KP.r A
theorem KP.dp {A G : sg} {b : Bool} (h : okA A) (hg : okG G) : KP A (dirP A G b).1 := by
  unfold dirP
  split
  · exact KP.dir h hg
  · exact KP.r A
theorem KP.mr {w : Int32} {a k m : Nat} {T : mpT} : KP T.1 (mpR w a k m T).1 := by
  unfold mpR
  split
  · exact KP.rd
  · exact KP.r _
theorem KP.mp {C : Nat → Int32} {w : Int32} {a k m : Nat} {T : mpT} (hk : k ≤ 8) (h : okA T.1) : KP T.1 (mpA C w a k m T).1 := by
  unfold mpA
  split
  · rename_i q
    obtain ⟨r1, r2, r3⟩ := mrow hk q
    unfold mpW
    split
    · exact KP.mr.t (KP.cw (mpR_A h) _ (by omega) (fun j _ => byt_pir _ _))
    · exact KP.mr
  · exact KP.r _
theorem KP.ml {C : Nat → Int32} {w : Int32} {a k : Nat} {T : mpT} (hk : k ≤ 8) (h : okA T.1) (hX : ∀ j, j < 8 → byt (T.2.1 j)) : ∀ m, KP T.1 (mpL C w a k T m).1
  | 0 => KP.r _
  | m + 1 => (KP.ml hk h hX m).t (KP.mp hk (mpL_ok hk h hX m).1)
theorem KP.pf {A G : sg} (h : okA A) (hg : okP G) : KP A (pf A G).1 := by
  obtain ⟨c, hc, e0, h1, h2⟩ := hg
  rw [pf_e e0 (by omega)]
  split
  · dsimp only
    exact KP.dp h (h1 (by omega))
  split
  · exact KP.dp h (h1 (by omega))
  split
  · dsimp only
    exact KP.dp h (h1 (by omega))
  · dsimp only
    unfold lgT
    exact KP.ml (T := (A, G 1, false, false)) h2.2.2.2.2.1 h h2.2.2.2.2.2 4
theorem okU.k {A B : sg} (h : okU A) (k : KP A B) (ha : okA B) (hf : okF B) : okU B := by
  obtain ⟨-, -, u3, u4, u5, u6, m, c, u7⟩ := h
  refine ⟨ha, hf, u3.e (k.1 0 (Or.inl rfl)), u4.e (k.1 0 (Or.inl rfl)) (by rw [k.1 21 (by omega)]), fun i hi => by rw [k.1 1 (by omega)]; exact u5 i hi, ?_, m, c, u7.e k.2.1⟩
  rcases k.2.2 with e | e
  · rw [e]; exact u6
  · exact Or.inr e
theorem runS_K {A : sg} {G : Nat → sg} {z : Nat} (h : okA A) (hg : ∀ e, e < z → okP (G e)) : ∀ d, d ≤ z → KP A (runS A G d).1
  | 0, _ => KP.r A
  | d + 1, hd => by
    have ok := runS_ok h hg d (by omega)
    exact (runS_K h hg d (by omega)).t (KP.pf ok.1 (ok.2 d (by omega)))
theorem runL_K {A G : Nat → sg} {k z : Nat} (h : ∀ t, t < k → okA (A t)) (hg : ∀ e, e < z → okP (G e)) : ∀ s, s ≤ k → ∀ t, t < k → KP (A t) ((runL A G z s).1 t)
  | 0, _ => fun t _ => KP.r _
  | s + 1, hs => fun t ht => by
    have ok := runL_ok (z := z) h hg s (by omega)
    show KP (A t) (if t = s then _ else _)
    split
    · rename_i q
      subst q
      exact (runL_K h hg t (by omega) t ht).t (runS_K (ok.1 t ht) ok.2 z (Nat.le_refl _))
    · exact runL_K h hg s (by omega) t ht
theorem dW_le {w : wd} (hW : okW w) : dW w ≤ kW w := (dng_e (rch_R (vW w 1) (kW w)).1 hW.2.1 hW.2.2.1).2
theorem bW_s {w : wd} : bW (sndW w) = tW w := by
  unfold bW sndW vW up
  exact bI_ne _
theorem okW.sn {w : wd} (hW : okW w) : okW (sndW w) := by
  have hW' := hW
  obtain ⟨h1, h2, h3, h4, h5, h6, h7, h8, h9, h10, h11, h12, h13, h14, h15, h16, h17, h18, h19, h20⟩ := hW
  have hd := dW_le hW'
  have ok := runL_ok (z := zW w) (fun t ht => (h16 t ht).1) h18 (dW w) hd
  have okf := runL_F (z := zW w) (fun t ht => (h16 t ht).2.1) (fun t ht => (h16 t ht).1) h18 (dW w) hd
  have kp := runL_K (z := zW w) (fun t ht => (h16 t ht).1) h18 (dW w) hd
  refine ⟨h1, h2, Or.inl rfl, ?_, h5, h6, h7, h8, h9, h10, h11, h12, h13, h14, h15, fun t ht => (h16 t ht).k (kp t ht) (ok.1 t ht) (okf t ht), h17, ok.2, h19, h20⟩
  rw [bW_s]
  rfl
theorem zW_f {w : wd} {z : Nat} {G : Nat → sg} (hz : z ≤ 3) : zW (frW w z G) = z := by
  unfold zW frW vW
  show (nI z).toNatClampNeg = _
  exact nC_n (by omega)
theorem okW.fr {w : wd} {z : Nat} {G : Nat → sg} (hW : okW w) (hz : z ≤ 3) (hg : ∀ e, e < z → okP (G e)) : okW (frW w z G) := by
  obtain ⟨h1, h2, h3, h4, h5, h6, h7, h8, h9, h10, h11, h12, h13, h14, h15, h16, h17, h18, h19, h20⟩ := hW
  refine ⟨h1, h2, h3, h4, h5, h6, h7, h8, ?_, ?_, h11, h12, h13, h14, h15, h16, h17, ?_, h19, h20⟩
  · rw [zW_f hz]
    rfl
  · rw [zW_f hz]
    exact hz
  · rw [zW_f hz]
    exact hg
