/-! a station, apart from where it lies: A j i is slot i of cell j of its block -/
theorem sa_e {s j j' : Nat} : sa s j = sa s j' ↔ j = j' := by unfold sa; omega
def cel (j i : Nat) : Prop := j < 22 ∧ j ≠ 5 ∧ j ≠ 10 ∧ j ≠ 16 ∧ j ≠ 17 ∧ j ≠ 18 ∧ j ≠ 19 ∧ j ≠ 20 ∧ (6 ≤ j ∧ j < 15 → i < 8)
/-- the block of station s holds A -/
def RC (σ : sg) (s : Nat) (A : sg) : Prop := ∀ j i, cel j i → σ (sa s j) i = A j i
def clrA (A : sg) (c : Nat) : sg := fun j i => if (j = 6 + c ∨ j = 11 + c) ∧ i < 8 then nI 0 else A j i
def wipA (A : sg) (c : Nat) : sg := up (up (clrA A c) 15 c (nI 0)) 4 (48 + c) (nI 0)
def plA (A : sg) (b : Nat) (v : Int32) : sg := if b = 2 ∨ b = 3 ∨ 48 ≤ b ∧ b < 52 then A else if b = 1 then up (up A 4 b v) 3 7 (nI 1) else if 32 ≤ b ∧ b < 48 then wipA (up A 4 b v) ((b - 32) / 4) else up A 4 b v
def chA (A : sg) (c i : Nat) (v : Int32) : sg := if A 4 (32 + c * 4 + 2) = nI 3 then up (up A (11 + c) i v) 4 (48 + c) (nI 1) else up A (6 + c) i v
def cmA (A : sg) (c : Nat) : sg := if c = 2 then up (up (up (cpy A (6 + c) 0 (11 + c) 0 8) 15 c (nI 1)) 3 8 (nI 1)) 3 9 (nI 0) else up (cpy A (6 + c) 0 (11 + c) 0 8) 15 c (nI 1)
section ABS
variable {σ τ A : sg} {s : Nat}
theorem RC.mem (h : RC σ s A) : σ (sa s 4) = A 4 := funext fun i => h 4 i (by unfold cel; omega)
theorem RC.wr (h : RC σ s A) : σ (sa s 15) = A 15 := funext fun i => h 15 i (by unfold cel; omega)
theorem RC.fr {c i : Nat} (h : RC σ s A) (hc : c < 4) (hi : i < 8) : σ (sa s (6 + c)) i = A (6 + c) i := h _ _ (by unfold cel; omega)
theorem RC.dn {c i : Nat} (h : RC σ s A) (hc : c < 4) (hi : i < 8) : σ (sa s (11 + c)) i = A (11 + c) i := h _ _ (by unfold cel; omega)
theorem RC.at (h : RC σ s A) {j : Nat} (i : Nat) (hj : j < 5 ∨ j = 15 ∨ j = 21) : σ (sa s j) i = A j i := h _ _ (by unfold cel; omega)
theorem RC.keep (h : RC σ s A) (e : ∀ j, j < 22 → j ≠ 16 → j ≠ 17 → j ≠ 18 → j ≠ 19 → j ≠ 20 → τ (sa s j) = σ (sa s j)) : RC τ s A := fun j i hj => by
  rw [e j (by unfold cel at hj; omega) (by unfold cel at hj; omega) (by unfold cel at hj; omega) (by unfold cel at hj; omega) (by unfold cel at hj; omega) (by unfold cel at hj; omega)]
  exact h j i hj
theorem RC.u {j0 i0 : Nat} {v : Int32} (h : RC σ s A) : RC (up σ (sa s j0) i0 v) s (up A j0 i0 v) := fun j i hj => by
  have := h j i hj
  simp only [up, sa_e, this]
theorem RC.cp {j0 j1 : Nat} (h : RC σ s A) (h0 : 6 ≤ j0 ∧ j0 < 10 ∨ 11 ≤ j0 ∧ j0 < 15) : RC (cpy σ (sa s j0) 0 (sa s j1) 0 8) s (cpy A j0 0 j1 0 8) := fun j i hj => by
  unfold cpy
  simp only [sa_e]
  by_cases q : j = j1 ∧ 0 ≤ i ∧ i < 0 + 8
  · rw [if_pos q, if_pos q]
    exact h _ _ (by unfold cel; omega)
  · rw [if_neg q, if_neg q]
    exact h j i hj
theorem RC.cl {c : Nat} (h : RC σ s A) : RC (clr σ s c 8) s (clrA A c) := fun j i hj => by
  have := h j i hj
  simp only [clr, clrA, sa_e, this]
theorem RC.sp {b : Nat} {v : Int32} (h : RC σ s A) : RC (spl σ s b v) s (plA A b v) := by
  unfold spl plA
  by_cases h1 : b = 2 ∨ b = 3 ∨ 48 ≤ b ∧ b < 52
  · rw [if_pos h1, if_pos h1]; exact h
  rw [if_neg h1, if_neg h1]
  by_cases h2 : b = 1
  · rw [if_pos h2, if_pos h2]
    exact h.u.u
  rw [if_neg h2, if_neg h2]
  by_cases h3 : 32 ≤ b ∧ b < 48
  · rw [if_pos h3, if_pos h3]
    exact h.u.cl.u.u
  rw [if_neg h3, if_neg h3]
  exact h.u
theorem RC.si {c i q : Nat} {v : Int32} (h : RC σ s A) (hc : c < 4) : RC (sic σ s c i q v) s (if A 4 (32 + c * 4 + 2) = nI 3 then chA A c i v else if i + 1 = q then cmA (chA A c i v) c else chA A c i v) := by
  unfold sic chA
  rw [h.mem]
  by_cases h1 : A 4 (32 + c * 4 + 2) = nI 3
  · rw [if_pos h1, if_pos h1, if_pos h1]
    exact h.u.u
  rw [if_neg h1, if_neg h1, if_neg h1]
  by_cases h2 : i + 1 = q
  · rw [if_pos h2, if_pos h2]
    unfold cmA
    by_cases h3 : c = 2
    · rw [if_pos h3, if_pos h3]
      exact (((h.u).cp (by omega)).u.u).u
    · rw [if_neg h3, if_neg h3]
      exact ((h.u).cp (by omega)).u
  rw [if_neg h2, if_neg h2]
  exact h.u
end ABS
