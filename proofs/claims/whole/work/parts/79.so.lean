/-! what stays well made, call by call -/
section SOC
variable {w : wd}
theorem okW.cut {i : Nat} {v : Int32} (hW : okW w) : okW (setV w 1 i v) := by
  obtain ⟨h1, h2, h3, h4, h5, h6, h7, h8, h9, h10, h11, h12, h13, h14, h15, h16, h17, h18, h19, h20⟩ := hW
  exact ⟨h1, h2, h3, h4, h5, h6, h7, h8, h9, h10, h11, h12, h13, h14, h15, h16, h17, h18, h19, h20⟩
theorem okW.spl {a : Int32} (hW : okW w) (ha : inP w a = true) : okW (setV w 0 1 a) := by
  have hW' := hW
  obtain ⟨h1, h2, h3, h4, h5, h6, h7, h8, h9, h10, h11, h12, h13, h14, h15, h16, h17, h18, h19, h20⟩ := hW
  refine ⟨h1, h2, Or.inr ?_, h4, h5, h6, h7, h8, h9, h10, h11, h12, h13, h14, h15, h16, h17, h18, h19, h20⟩
  unfold inP at ha
  rw [Bool.not_eq_true', Bool.or_eq_false_iff] at ha
  obtain ⟨q, hq, rfl⟩ := nI_of (of_decide_eq_false ha.1)
  have := of_decide_eq_false ha.2
  rw [h1, nI_ltI (by omega) hq] at this
  exact ⟨q, by omega, rfl⟩
theorem okW.out {i : Nat} {v : Int32} (hW : okW w) : okW (setV w 2 i (jAnd v (nI 255))) := by
  obtain ⟨h1, h2, h3, h4, h5, h6, h7, h8, h9, h10, h11, h12, h13, h14, h15, h16, h17, h18, h19, h20⟩ := hW
  refine ⟨h1, h2, h3, h4, h5, h6, h7, h8, h9, h10, h11, h12, h13, h14, h15, h16, h17, h18, h19, fun m hm => ?_⟩
  show byt (up (vW w) 2 i (jAnd v (nI 255)) 2 m)
  unfold up
  split
  · exact byt255 v
  · exact h20 m hm
theorem okW.sA {t : Nat} {B : sg} (hW : okW w) (hB : okU B) : okW (setA w t B) := by
  obtain ⟨h1, h2, h3, h4, h5, h6, h7, h8, h9, h10, h11, h12, h13, h14, h15, h16, h17, h18, h19, h20⟩ := hW
  refine ⟨h1, h2, h3, h4, h5, h6, h7, h8, h9, h10, h11, h12, h13, h14, h15, fun e he => ?_, h17, h18, h19, h20⟩
  show okU (if e = t then B else w.1 e)
  split
  · exact hB
  · exact h16 e he
theorem okU.sen {A : sg} {x : Nat} {v : Int32} (h : okU A) : okU (up A 1 x (jAnd v (nI 255))) := by
  obtain ⟨u1, u2, u3, u4, u5, u6, m, k, u7⟩ := h
  refine ⟨u1.ux (by omega), fun c hc => by rw [up_ne (by omega)]; exact u2 c hc, u3.e (up_ne (by omega)), u4.e (up_ne (by omega)) (by rw [up_ne (by omega)]), fun i hi => ?_, by rw [up_ne (by omega)]; exact u6, m, k, md_up u7 (by omega)⟩
  unfold up
  split
  · exact byt255 v
  · exact u5 i hi
theorem okW.sG {d : Nat} {B : sg} (hW : okW w) (hB : okP B) : okW (setG w d B) := by
  obtain ⟨h1, h2, h3, h4, h5, h6, h7, h8, h9, h10, h11, h12, h13, h14, h15, h16, h17, h18, h19, h20⟩ := hW
  refine ⟨h1, h2, h3, h4, h5, h6, h7, h8, h9, h10, h11, h12, h13, h14, h15, h16, fun e he => ?_, h18, h19, h20⟩
  show okP (if e = d then B else w.2.1 e)
  split
  · exact hB
  · exact h17 e he
theorem okP.b {G : sg} (h : okP G) : ∀ i, i < 8 → byt (G 1 i) := by
  obtain ⟨c, -, -, -, h2⟩ := h
  exact h2.2.2.2.2.2
theorem okP.dat {G : sg} {x : Nat} {v : Int32} (h : okP G) : okP (up G 1 x (jAnd v (nI 255))) := h.cg (fun i hi => by rw [up_ne (by omega)]) (up_b h.b (byt255 v))
theorem okDg_ok {c a o l : Int32} (h : okDg w c a o l = true) : okP (nwG c a o l) := by
  unfold okDg at h
  rw [Bool.and_eq_true_iff, Bool.and_eq_true_iff, Bool.and_eq_true_iff, Bool.not_eq_true', Bool.not_eq_true', Bool.not_eq_true'] at h
  obtain ⟨⟨⟨-, h1⟩, h2⟩, h3⟩ := h
  obtain ⟨m, hm, rfl⟩ := isC_m h1
  rw [Bool.or_eq_false_iff, Bool.or_eq_false_iff, Bool.or_eq_false_iff] at h2
  obtain ⟨⟨⟨a1, a2⟩, l1⟩, l2⟩ := h2
  obtain ⟨x, hx, rfl⟩ := nI_of (of_decide_eq_false a1)
  have ax := of_decide_eq_false a2
  rw [nI_ltI (by omega) hx] at ax
  have ly := of_decide_eq_false l1
  obtain ⟨y, hy, rfl⟩ := nI_of (x := l) (fun q => ly (by
    rw [Int32.lt_iff_toInt_lt] at q ⊢
    rw [nI_toInt (by omega)]
    have : (0 : Int32).toInt = 0 := rfl
    omega))
  rw [nI_ltI hy (by omega)] at ly
  have lz := of_decide_eq_false l2
  rw [nI_ltI (by omega) hy] at lz
  have ea : adN (nwG (nI m) (nI x) o (nI y)) = x := nC_n hx
  have ek : kN (nwG (nI m) (nI x) o (nI y)) = y := nC_n hy
  refine ⟨m, hm, rfl, fun hm10 => ?_, ?_⟩
  · rw [show jLt (nI m) (nI 10) = true from decide_eq_true ((nI_ltI (by omega) (by omega)).mpr hm10), Bool.true_and, Bool.or_eq_false_iff] at h3
    obtain ⟨z, hz, rfl⟩ := nI_of (of_decide_eq_false h3.1)
    have oz := of_decide_eq_false h3.2
    rw [nI_leI (by omega) hz] at oz
    have ef : fN (nwG (nI m) (nI x) (nI z) (nI y)) = z := nC_n hz
    unfold okG
    rw [ef, ek]
    exact ⟨rfl, by omega, rfl, by omega, by omega, nw_b⟩
  · unfold okH
    rw [ea, ek]
    exact ⟨rfl, by omega, rfl, by omega, by omega, nw_b⟩
theorem okW.adG {B : sg} (hW : okW w) (hy : yW w < 3) (hB : okP B) : okW (addG w B) := by
  obtain ⟨h1, h2, h3, h4, h5, h6, h7, h8, h9, h10, h11, h12, h13, h14, h15, h16, h17, h18, h19, h20⟩ := hW
  have ey : yW (addG w B) = yW w + 1 := nC_n (show yW w + 1 < 2 ^ 31 by omega)
  refine ⟨h1, h2, h3, h4, h5, h6, by rw [ey]; rfl, by rw [ey]; omega, h9, h10, h11, h12, h13, h14, h15, h16, fun e he => ?_, h18, h19, h20⟩
  rw [ey] at he
  show okP (if e = yW w then B else w.2.1 e)
  split
  · exact hB
  · exact h17 e (by omega)
theorem okDg_y {c a o l : Int32} (hW : okW w) (h : okDg w c a o l = true) : yW w < 3 := by
  unfold okDg at h
  rw [Bool.and_eq_true_iff, Bool.and_eq_true_iff, Bool.and_eq_true_iff, Bool.not_eq_true'] at h
  have := of_decide_eq_false h.1.1.1
  rw [hW.y.1, nI_leI (by omega) (by have := hW.y.2; omega)] at this
  omega
theorem okA.u12 {A : sg} {i : Nat} {v : Int32} (h : okA A) (hv : byt v) : okA (up A 12 i v) := h.u6 (c := 6) hv
theorem okA.wk {A : sg} {v : Int32} (h : okA A) : ∀ i, okA (wmk A 12 v i)
  | 0 => h
  | i + 1 => (okA.wk h i).u12 (byt255 _)
theorem okA.wm {A : sg} {k x v : Int32} (h : okA A) (hk : byt k) (hx : byt x) : okA (wm A 12 k x v) := ((h.u12 hk).u12 hx).wk 4
theorem okA.dm {A : sg} {k v : Int32} {x : Nat} (h : okA A) (hx : x < 256) : okA (dmA A k x v) := by
  have bx := byt_n hx
  unfold dmA
  split
  · exact h.wm (byt_n (by omega)) bx
  split
  · exact h.wm (byt_n (by omega)) bx
  split
  · exact h.wm (byt_n (by omega)) bx
  split
  · exact (h.ux (by omega)).wm (byt_n (by omega)) bx
  · exact h.wm (byt_n (by omega)) bx
theorem okU.tk {A : sg} (h : okU A) (hm : ∃ m k, mdA (tkA A) m k) : okU (tkA A) := by
  obtain ⟨u1, u2, u3, u4, u5, u6, -⟩ := h
  have o1 := u1.ob
  have e37 : obA A 3 7 = nI 0 := by
    rw [ob_e u6]
    unfold up
    rw [if_pos ⟨rfl, rfl⟩]
  have f1 := u2.ob
  have r0 : tkA A 0 = A 0 := by
    unfold tkA
    rw [wa_j (by omega) (by omega) (by omega), mv_j (by omega), ts_j (by omega) (by omega), t1_j (by omega) (by omega) (by omega), ob_j (by omega) (by omega)]
  have r1 : tkA A 1 = A 1 := by
    unfold tkA
    rw [wa_j (by omega) (by omega) (by omega), mv_j (by omega), ts_j (by omega) (by omega), t1_j (by omega) (by omega) (by omega), ob_j (by omega) (by omega)]
  have b1 : ∀ i, i < 2 → byt (tk1 (obA A) 1 i) := fun i hi => by
    rw [t1_j (by omega) (by omega) (by omega), ob_j (by omega) (by omega)]
    exact u5 i hi
  have t21 : tk1 (obA A) 21 0 = A 21 0 := by
    have o21 : obA A 21 = A 21 := ob_j (by omega) (by omega)
    have d21 : ∀ k x v, dmA (obA A) k x v 21 0 = A 21 0 := fun k x v => by
      unfold dmA
      split
      · rw [wm_ne (by omega), o21]
      split
      · rw [wm_ne (by omega), o21]
      split
      · rw [wm_ne (by omega), o21]
      split
      · rw [wm_ne (by omega)]
        unfold up
        rw [if_neg (by omega), o21]
      · rw [wm_ne (by omega), o21]
    unfold tk1
    split
    · unfold rpA
      split
      · rw [o21]
      · unfold rpZ
        rw [up_ne (by omega), up_ne (by omega)]
        unfold up
        rw [if_neg (by omega)]
        exact d21 _ _ _
    · rw [o21]
  have x11 : ∀ i, i < 8 → byt (obA A 11 i) := fun i hi => (o1.2 0 (by omega) i hi).2
  have o2 : okA (tk1 (obA A)) ∧ okF (tk1 (obA A)) ∧ tk1 (obA A) 3 = obA A 3 := by
    unfold tk1
    split
    · unfold rpA
      split
      · exact ⟨o1, f1, rfl⟩
      · obtain ⟨x, hx, ex⟩ := x11 1 (by omega)
        have hxc : (obA A 11 1).toNatClampNeg < 256 := by rw [ex, nC_n (by omega)]; exact hx
        refine ⟨(((o1.dm hxc).ux (by omega)).u4 (byt_n (by omega))).u4 (byt_n (by omega)), f1.of (fun c hc => ?_), ?_⟩
        · unfold rpZ
          unfold up
          by_cases q : c = 1
          · exact Or.inr (Or.inr (if_pos ⟨rfl, by omega⟩))
          · rw [if_neg (by omega)]
            by_cases q0 : c = 0
            · exact Or.inr (Or.inl (if_pos ⟨rfl, by omega⟩))
            · rw [if_neg (by omega), if_neg (by omega), dm_4]
              exact Or.inl rfl
        · unfold rpZ
          rw [up_ne (by omega), up_ne (by omega), up_ne (by omega), dm_j (by omega) (by omega)]
    · exact ⟨o1, f1, rfl⟩
  have o3 : okA (tsA (tk1 (obA A))) ∧ okF (tsA (tk1 (obA A))) := by
    refine ⟨?_, fun c hc => by rw [ts_j (by omega) (by omega)]; exact o2.2.1 c hc⟩
    unfold tsA
    split
    · refine okA.ux ?_ (by omega)
      refine ⟨fun j hj => by rw [cpy_ne (by omega)]; exact o2.1.1 j hj, fun c hc i hi => ⟨by rw [cpy_ne (by omega)]; exact (o2.1.2 c hc i hi).1, ?_⟩⟩
      unfold cpy
      split
      · rename_i q
        have tt : iN (tk1 (obA A)) ≤ 2 := by
          have : okT (tk1 (obA A)) := (u3.e (ob_j (by omega) (by omega))).e (t1_j (by omega) (by omega) (by omega))
          exact this.2.2.2
        exact b1 _ (by omega)
      · exact (o2.1.2 c hc i hi).2
    · exact o2.1
  have o4 : okA (mvA (tsA (tk1 (obA A)))) := by
    refine ⟨fun j hj => by rw [mv_j (by omega)]; exact o3.1.1 j hj, fun c hc i hi => ?_⟩
    rw [mv_j (by omega), mv_j (by omega)]
    exact o3.1.2 c hc i hi
  refine ⟨?_, ?_, u3.e r0, u4.e r0 ?_, fun i hi => by rw [r1]; exact u5 i hi, ?_, hm⟩
  · unfold tkA waA wa1
    split
    · have := (((o4.ux (j := 3) (i := 9) (v := jAdd (mvA (tsA (tk1 (obA A))) 3 9) (nI 1)) (by omega)).bc (byt_n (show 4 < 256 by omega)) (byt_n (show 27 < 256 by omega))).ux (j := 3) (i := 8) (v := nI 0) (by omega))
      refine ⟨fun j hj => by rw [fil_ne (by omega)]; exact this.1 j hj, fun c hc i hi => ?_⟩
      rw [fil_ne (by omega), fil_ne (by omega)]
      exact this.2 c hc i hi
    · exact o4.ux (by omega)
  · intro c hc
    have e : tkA A 4 (48 + c) = tsA (tk1 (obA A)) 4 (48 + c) := by
      unfold tkA waA wa1
      split
      · rw [fil_ne (by omega), up_ne (by omega)]
        unfold bcA up
        rw [if_neg (by omega), if_neg (by omega), if_neg (by omega), mv_j (by omega)]
      · rw [up_ne (by omega), mv_j (by omega)]
    rw [e]
    exact o3.2 c hc
  · unfold tkA
    rw [wa_j (by omega) (by omega) (by omega), mv_j (by omega), ts_j (by omega) (by omega)]
    exact t21
  · refine Or.inl ?_
    have e3 : mvA (tsA (tk1 (obA A))) 3 = obA A 3 := by rw [mv_j (by omega), ts_j (by omega) (by omega), o2.2.2]
    unfold tkA waA wa1
    split
    · rw [fil_ne (by omega)]
      unfold up
      rw [if_neg (by omega), bc_j (by omega)]
      show (if 3 = 3 ∧ 7 = 9 then _ else mvA (tsA (tk1 (obA A))) 3 7) = nI 0
      rw [if_neg (by omega), e3]
      exact e37
    · unfold up
      rw [if_neg (by omega), e3]
      exact e37
theorem okW.tk (hW : okW w) (hm : ∀ t, t < kW w → ∃ m k, mdA (tkA (w.1 t)) m k) : okW (tickI w (kW w)) := by
  obtain ⟨h1, h2, h3, h4, h5, h6, h7, h8, h9, h10, h11, h12, h13, h14, h15, h16, h17, h18, h19, h20⟩ := hW
  refine ⟨h1, h2, h3, h4, h5, h6, h7, h8, h9, h10, h11, h12, h13, h14, h15, fun t ht => ?_, h17, h18, h19, h20⟩
  have ht' : t < kW w := ht
  show okU (if t < kW w then tkA (w.1 t) else w.1 t)
  rw [if_pos ht']
  exact (h16 t ht').tk (hm t ht')
end SOC
