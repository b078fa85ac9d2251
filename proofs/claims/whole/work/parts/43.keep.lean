/-! what stays well made -/
theorem nI_nat {m : Nat} (h : m < 2 ^ 31) : (nI m).toBitVec.toNat = m := by
  have : (nI m).toBitVec.toNat = m % 2 ^ 32 := by simp [nI, Int32.toBitVec_ofNat', BitVec.toNat_ofNat]
  rw [this]
  omega
theorem andF {x : Nat} (h : x < 2 ^ 31) : jAnd (nI x) (nI 65535) = nI (x % 65536) := by
  unfold jAnd
  apply Int32.toBitVec_inj.mp
  rw [Int32.toBitVec_and]
  apply BitVec.eq_of_toNat_eq
  rw [BitVec.toNat_and, nI_nat h, nI_nat (by decide), nI_nat (by omega)]
  exact Nat.and_two_pow_sub_one_eq_mod x 16
theorem okA.rv {A : sg} {f b : Nat} (h : okA A) (hb : b < 128) : byt (rvA A f b) := by
  unfold rvA
  rcases own_d h.b hb with e | ⟨e, -, hc, -, -, -, -, h8, -, hp, hq⟩
  · rw [if_pos e]
    exact h.1 b hb
  · rw [if_neg e]
    have := h.2 _ hc (b - pN (A 4) (cN (A 4) b)) (by omega)
    split
    · exact this.2
    split
    · exact this.2
    · exact this.1
theorem fk_cg {G H : sg} (h2 : H 0 2 = G 0 2) (h3 : H 0 3 = G 0 3) : fN H = fN G ∧ kN H = kN G := by unfold fN kN; rw [h2, h3]; exact ⟨rfl, rfl⟩
theorem ad_cg {G H : sg} (h : H 0 1 = G 0 1) : adN H = adN G := by unfold adN; rw [h]
/-- a datagram whose counter and bytes changed is well made still -/
theorem okP.cg {G H : sg} (hg : okP G) (e : ∀ i, i < 4 → H 0 i = G 0 i) (hb : ∀ i, i < 8 → byt (H 1 i)) : okP H := by
  obtain ⟨c, hc, e0, h1, h2⟩ := hg
  have hk := fk_cg (e 2 (by omega)) (e 3 (by omega))
  have ha := ad_cg (e 1 (by omega))
  refine ⟨c, hc, (e 0 (by omega)).trans e0, fun q => ?_, ?_⟩
  · obtain ⟨a1, a2, a3, a4, a5, -⟩ := h1 q
    unfold okG
    rw [hk.1, hk.2, e 2 (by omega), e 3 (by omega)]
    exact ⟨a1, a2, a3, a4, a5, hb⟩
  · obtain ⟨a1, a2, a3, a4, a5, -⟩ := h2
    unfold okH
    rw [hk.2, ha, e 1 (by omega), e 3 (by omega)]
    exact ⟨a1, a2, a3, a4, a5, hb⟩
theorem okP.inc {G : sg} (hg : okP G) : okP (incG G) := by
  obtain ⟨c, hc, e0, h1, h2⟩ := hg
  have u : ∀ i, i ≠ 1 → incG G 0 i = G 0 i := fun i hi => by unfold incG up; rw [if_neg (fun q => hi q.2)]
  have u1 : incG G 1 = G 1 := up_ne (by omega)
  have hk := fk_cg (u 2 (by omega)) (u 3 (by omega))
  refine ⟨c, hc, (u 0 (by omega)).trans e0, fun q => ?_, ?_⟩
  · obtain ⟨a1, a2, a3, a4, a5, a6⟩ := h1 q
    unfold okG
    rw [hk.1, hk.2, u 2 (by omega), u 3 (by omega), u1]
    exact ⟨a1, a2, a3, a4, a5, a6⟩
  · obtain ⟨a1, a2, a3, a4, a5, a6⟩ := h2
    have e1 : incG G 0 1 = nI ((adN G + 1) % 65536) := by
      unfold incG up
      rw [if_pos ⟨rfl, rfl⟩, a1, jAdd_n, andF (by omega)]
    have ea : adN (incG G) = (adN G + 1) % 65536 := by
      unfold adN
      rw [e1]
      exact nC_n (by omega)
    unfold okH
    rw [ea, e1, hk.2, u 3 (by omega), u1]
    exact ⟨rfl, by omega, a3, a4, a5, a6⟩
theorem okA.dir {A G : sg} (h : okA A) (hg : okG G) : okA (dirS A G) := by
  obtain ⟨-, hf, -, h1, h8, hb⟩ := hg
  unfold dirS
  split
  · split
    · rename_i q
      unfold okD at q
      have := of_decide_eq_true (Bool.and_eq_true_iff.mp q).1
      exact h.cw _ this (fun j hj => hb j (by omega))
    · exact h
  · split
    · exact h.rd
    · exact h
theorem okP.dir {A G : sg} (h : okA A) (hg : okP G) (hG : okG G) : okP (dirG A G) := by
  obtain ⟨-, hf, -, h1, h8, hb⟩ := hG
  unfold dirG
  split
  · split
    · exact hg.cg (fun i hi => by simp [up]; omega) (fun i hi => by rw [up_ne (by omega)]; exact hb i hi)
    · exact hg
  · split
    · rename_i q
      unfold okD at q
      have := of_decide_eq_true (Bool.and_eq_true_iff.mp q).1
      refine hg.cg (fun i hi => by simp [up]; omega) (fun i hi => ?_)
      rw [up_ne (by omega)]
      show byt (if _ then _ else _)
      split
      · refine byt_or ?_ (h.rv (by omega))
        split
        · exact hb i hi
        · exact byt_n (by omega)
      · exact hb i hi
    · exact hg
theorem dirP_ok {A G : sg} (h : okA A) (hg : okP G) (hG : okG G) (b : Bool) : okA (dirP A G b).1 ∧ okP (dirP A G b).2 := by
  unfold dirP
  split
  · exact ⟨h.dir hG, hg.dir h hG⟩
  · exact ⟨h, hg⟩
theorem lg_ok {A G : sg} (h : okA A) (hg : okP G) (h2 : okH G) : okA (lgT A G).1 ∧ okP (lgG A G) := by
  have := mpL_ok (C := G 1) (w := G 0 0) (a := adN G) (k := kN G) (T := (A, G 1, false, false)) h2.2.2.2.2.1 h h2.2.2.2.2.2 4
  have e : lgT A G = mpL (G 1) (G 0 0) (adN G) (kN G) (A, G 1, false, false) 4 := by unfold lgT; rfl
  rw [← e] at this
  refine ⟨this.1, hg.cg (fun i hi => ?_) (fun i hi => ?_)⟩
  · unfold lgG
    rw [if_neg (by omega), if_neg (by omega)]
  · unfold lgG
    rw [if_pos rfl]
    exact this.2 i hi
theorem pf_ok {A G : sg} (h : okA A) (hg : okP G) : okA (pf A G).1 ∧ okP (pf A G).2 := by
  have hg' := hg
  obtain ⟨c, hc, e0, h1, h2⟩ := hg
  rw [pf_e e0 (by omega)]
  split
  · have := dirP_ok h hg' (h1 (by omega)) (jEq (G 0 1) 0)
    dsimp only
    exact ⟨this.1, this.2.inc⟩
  split
  · exact dirP_ok h hg' (h1 (by omega)) _
  split
  · have := dirP_ok h hg' (h1 (by omega)) true
    dsimp only
    exact ⟨this.1, this.2.inc⟩
  · dsimp only
    exact lg_ok h hg' h2
