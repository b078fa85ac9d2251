/-! bytes; a byte of a row is written -/
def byt (x : Int32) : Prop := ∃ m, m < 256 ∧ x = nI m
theorem byt_iff {x : Int32} : byt x ↔ x.toBitVec.toNat < 256 := by
  constructor
  · rintro ⟨m, hm, rfl⟩
    have : (nI m).toBitVec.toNat = m % 2 ^ 32 := by simp [nI, Int32.toBitVec_ofNat', BitVec.toNat_ofNat]
    rw [this]
    omega
  · intro h
    refine ⟨x.toBitVec.toNat, h, ?_⟩
    apply Int32.toBitVec_inj.mp
    apply BitVec.eq_of_toNat_eq
    have : (nI x.toBitVec.toNat).toBitVec.toNat = x.toBitVec.toNat % 2 ^ 32 := by
      simp [nI, Int32.toBitVec_ofNat', BitVec.toNat_ofNat]
      omega
    rw [this]
    omega
theorem byt_and {x : Int32} (y : Int32) (h : byt x) : byt (jAnd x y) := by
  rw [byt_iff] at h ⊢
  unfold jAnd
  rw [Int32.toBitVec_and, BitVec.toNat_and]
  exact Nat.lt_of_le_of_lt Nat.and_le_left h
theorem byt_or {x y : Int32} (h : byt x) (h2 : byt y) : byt (jOr x y) := by
  rw [byt_iff] at h h2 ⊢
  unfold jOr
  rw [Int32.toBitVec_or, BitVec.toNat_or]
  exact Nat.or_lt_two_pow (n := 8) h h2
def mrg (h r m : Int32) : Int32 := jOr (jAnd h (jXor m (-1))) (jAnd r m)
theorem byt_mrg {h r m : Int32} (a : byt h) (b : byt r) : byt (mrg h r m) := byt_or (byt_and _ a) (byt_and _ b)
def okA (A : sg) : Prop := (∀ j, j < 128 → byt (A 4 j)) ∧ ∀ c, c < 4 → ∀ i, i < 8 → byt (A (6 + c) i) ∧ byt (A (11 + c) i)
theorem okA.b {A : sg} (h : okA A) : bOK (A 4) := h.1
theorem byt_n {m : Nat} (h : m < 256) : byt (nI m) := ⟨m, h, rfl⟩
theorem okA.u4 {A : sg} {j : Nat} {v : Int32} (h : okA A) (hv : byt v) : okA (up A 4 j v) := by
  refine ⟨fun i hi => ?_, fun c hc i hi => ?_⟩
  · unfold up
    split
    · exact hv
    · exact h.1 i hi
  · rw [up_ne (show 6 + c ≠ 4 by omega), up_ne (show 11 + c ≠ 4 by omega)]
    exact h.2 c hc i hi
theorem okA.u6 {A : sg} {c i : Nat} {v : Int32} (h : okA A) (hv : byt v) : okA (up A (6 + c) i v) := by
  refine ⟨fun j hj => ?_, fun d hd j hj => ⟨?_, ?_⟩⟩
  · rw [up_ne (show 4 ≠ 6 + c by omega)]
    exact h.1 j hj
  all_goals
    unfold up
    split
    · exact hv
    · first | exact (h.2 d hd j hj).1 | exact (h.2 d hd j hj).2
theorem okA.ux {A : sg} {j i : Nat} {v : Int32} (h : okA A) (hj : j < 4 ∨ 15 ≤ j) : okA (up A j i v) := by
  refine ⟨fun k hk => ?_, fun d hd k hk => ?_⟩
  · rw [up_ne (show 4 ≠ j by omega)]
    exact h.1 k hk
  · rw [up_ne (show 6 + d ≠ j by omega), up_ne (show 11 + d ≠ j by omega)]
    exact h.2 d hd k hk
theorem okA.clr {A : sg} {c : Nat} (h : okA A) : okA (clrA A c) := by
  refine ⟨fun k hk => ?_, fun d hd k hk => ⟨?_, ?_⟩⟩
  · unfold clrA
    rw [if_neg (by omega)]
    exact h.1 k hk
  all_goals
    unfold clrA
    split
    · exact byt_n (by omega)
    · first | exact (h.2 d hd k hk).1 | exact (h.2 d hd k hk).2
theorem okA.cp {A : sg} {c : Nat} (h : okA A) (hc : c < 4) : okA (cpy A (6 + c) 0 (11 + c) 0 8) := by
  refine ⟨fun k hk => ?_, fun d hd k hk => ⟨?_, ?_⟩⟩
  · rw [cpy_ne (by omega)]
    exact h.1 k hk
  · unfold cpy
    split
    · exact (h.2 c hc _ (by omega)).1
    · exact (h.2 d hd k hk).1
  · unfold cpy
    split
    · exact (h.2 c hc _ (by omega)).1
    · exact (h.2 d hd k hk).2
theorem okA.pl {A : sg} {b : Nat} {v : Int32} (h : okA A) (hv : byt v) : okA (plA A b v) := by
  unfold plA
  split
  · exact h
  split
  · exact (h.u4 hv).ux (by omega)
  split
  · exact (((h.u4 hv).clr).ux (by omega)).u4 (byt_n (by omega))
  · exact h.u4 hv
theorem okA.ch {A : sg} {c i : Nat} {v : Int32} (h : okA A) (hv : byt v) : okA (chA A c i v) := by
  unfold chA
  split
  · have q := h.u6 (c := c + 5) (i := i) hv
    rw [show 6 + (c + 5) = 11 + c by omega] at q
    exact q.u4 (byt_n (by omega))
  · exact h.u6 hv
theorem okA.cm {A : sg} {c : Nat} (h : okA A) (hc : c < 4) : okA (cmA A c) := by
  unfold cmA
  split
  · exact (((h.cp hc).ux (by omega)).ux (by omega)).ux (by omega)
  · exact (h.cp hc).ux (by omega)
def pN (F : Nat → Int32) (c : Nat) : Nat := (F (32 + c * 4)).toNatClampNeg
def qN (F : Nat → Int32) (c : Nat) : Nat := (F (32 + c * 4 + 1)).toNatClampNeg
def cN (F : Nat → Int32) (b : Nat) : Nat := (own F b).toNatClampNeg
def hldA (A : sg) (b : Nat) : Int32 := if own (A 4) b = -1 then A 4 b else hld (A 4) (fun c => A (6 + c)) (fun c => A (11 + c)) (cN (A 4) b) (b - pN (A 4) (cN (A 4) b))
def W1 (A : sg) (b : Nat) (v : Int32) : sg := if own (A 4) b = -1 then plA A b v else if A 4 (32 + cN (A 4) b * 4 + 2) = nI 3 then chA A (cN (A 4) b) (b - pN (A 4) (cN (A 4) b)) v else if b + 1 = pN (A 4) (cN (A 4) b) + qN (A 4) (cN (A 4) b) then cmA (chA A (cN (A 4) b) (b - pN (A 4) (cN (A 4) b)) v) (cN (A 4) b) else chA A (cN (A 4) b) (b - pN (A 4) (cN (A 4) b)) v
def cW (A : sg) (f : Nat) (r m : Nat → Int32) : Nat → sg
  | 0 => A
  | k + 1 => W1 (cW A f r m k) (f + k) (mrg (hldA (cW A f r m k) (f + k)) (r k) (m k))
theorem own_cg {F G : Nat → Int32} (h : ∀ k, k < 16 → F (32 + k) = G (32 + k)) (b : Nat) : own F b = own G b := by
  have hi : ∀ c, c < 4 → inC F c b = inC G c b := fun c hc => by
    have e0 := h (c * 4) (by omega)
    have e1 := h (c * 4 + 1) (by omega)
    have e3 := h (c * 4 + 3) (by omega)
    rw [← Nat.add_assoc] at e1 e3
    unfold inC opn
    rw [e0, e1, e3]
  unfold own
  rw [hi 0 (by omega), hi 1 (by omega), hi 2 (by omega), hi 3 (by omega)]
theorem own_low {F : Nat → Int32} (hB : bOK F) {b : Nat} (hb : b < 64) : own F b = -1 := by
  rcases own_cases F b with e | ⟨c, hc, e⟩
  · exact e
  · obtain ⟨p, q, -, -, h1, -, -, -, h2, -⟩ := own_N hB (by omega) hc e
    omega
theorem nC_n {c : Nat} (h : c < 2 ^ 31) : (nI c).toNatClampNeg = c := nI_clamp h
theorem m1_ne {c : Nat} (h : c < 4) : ¬ nI c = -1 := (show ∀ k, k < 4 → ¬ nI k = -1 by decide) c h
theorem own_d {F : Nat → Int32} {b : Nat} (hB : bOK F) (hb : b < 128) : own F b = -1 ∨ own F b ≠ -1 ∧ own F b = nI (cN F b) ∧ cN F b < 4 ∧ F (32 + cN F b * 4) = nI (pN F (cN F b)) ∧ F (32 + cN F b * 4 + 1) = nI (qN F (cN F b)) ∧ 64 ≤ pN F (cN F b) ∧ 1 ≤ qN F (cN F b) ∧ qN F (cN F b) ≤ 8 ∧ pN F (cN F b) + qN F (cN F b) ≤ 128 ∧ pN F (cN F b) ≤ b ∧ b < pN F (cN F b) + qN F (cN F b) := by
  rcases own_cases F b with e | ⟨c, hc, e⟩
  · exact Or.inl e
  · refine Or.inr ?_
    have ec : cN F b = c := by unfold cN; rw [e]; exact nC_n (by omega)
    obtain ⟨p, q, e1, e2, h1, h2, h3, h4, h5, h6⟩ := own_N hB (by omega) hc e
    have ep : pN F c = p := by unfold pN; rw [e1]; exact nC_n (by omega)
    have eq : qN F c = q := by unfold qN; rw [e2]; exact nC_n (by omega)
    rw [ec, ep, eq]
    exact ⟨by rw [e]; exact m1_ne hc, e, hc, e1, e2, h1, h2, h3, h4, h5, h6⟩
theorem okA.hl {A : sg} {b : Nat} (h : okA A) (hb : b < 128) : byt (hldA A b) := by
  unfold hldA
  rcases own_d h.b hb with e | ⟨e, -, hc, -, -, -, -, h8, -, hp, hq⟩
  · rw [if_pos e]
    exact h.1 b hb
  · rw [if_neg e]
    have := h.2 _ hc (b - pN (A 4) (cN (A 4) b)) (by omega)
    unfold hld
    split
    · exact this.2
    · exact this.1
theorem okA.w1 {A : sg} {b : Nat} {v : Int32} (h : okA A) (hb : b < 128) (hv : byt v) : okA (W1 A b v) := by
  unfold W1
  rcases own_d h.b hb with e | ⟨e, -, hc, -⟩
  · rw [if_pos e]
    exact h.pl hv
  · rw [if_neg e]
    split
    · exact h.ch hv
    split
    · exact (h.ch hv).cm hc
    · exact h.ch hv
theorem okA.cw {A : sg} {f : Nat} {r m : Nat → Int32} (h : okA A) : ∀ k, f + k ≤ 128 → (∀ j, j < k → byt (r j)) → okA (cW A f r m k)
  | 0, _, _ => h
  | k + 1, hk, hr => by
    have ih := okA.cw (f := f) (r := r) (m := m) h k (by omega) (fun j hj => hr j (by omega))
    exact ih.w1 (by omega) (byt_mrg (ih.hl (by omega)) (hr k (by omega)))
