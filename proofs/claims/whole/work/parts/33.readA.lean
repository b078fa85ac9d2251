/-! a row is read, apart from where the station lies -/
def cIb (F : Nat → Int32) (f b c : Nat) : Bool := decide (F (32 + c * 4 + 2) = nI 0 ∧ f ≤ pN F c ∧ pN F c < b ∧ own F (pN F c) = nI c)
def cOb (F : Nat → Int32) (f b c : Nat) : Bool := decide (F (32 + c * 4 + 2) = nI 1) && (List.range (b - f)).any (fun j => decide (own F (f + j) = nI c))
theorem cIb_e {F : Nat → Int32} {f b c : Nat} (hB : bOK F) (hc : c < 4) : cIb F f b c = true ↔ cI F f b c := by
  obtain ⟨m, hm, e⟩ := hB (32 + c * 4) (by omega)
  have ep : pN F c = m := by unfold pN; rw [e]; exact nC_n (by omega)
  unfold cIb cI
  rw [decide_eq_true_iff, ep]
  constructor
  · rintro ⟨h1, h2, h3, h4⟩
    exact ⟨h1, m, e, hm, h2, h3, h4⟩
  · rintro ⟨h1, p, e2, hp, h2, h3, h4⟩
    have : p = m := (nI_eq (by omega) (by omega)).mp (e2.symm.trans e)
    subst this
    exact ⟨h1, h2, h3, h4⟩
theorem cOb_e {F : Nat → Int32} {f b c : Nat} : cOb F f b c = true ↔ cO F f b c := by
  unfold cOb cO
  rw [Bool.and_eq_true, decide_eq_true_iff, List.any_eq_true]
  constructor
  · rintro ⟨h1, j, hj, h2⟩
    exact ⟨h1, f + j, by omega, by have := List.mem_range.mp hj; omega, of_decide_eq_true h2⟩
  · rintro ⟨h1, b', h2, h3, h4⟩
    exact ⟨h1, b' - f, List.mem_range.mpr (by omega), by rw [show f + (b' - f) = b' by omega]; exact decide_eq_true h4⟩
def rdA (A : sg) (f l : Nat) : sg := fun j i => if 6 ≤ j ∧ j < 10 ∧ i < 8 ∧ cIb (A 4) f (l + 1) (j - 6) = true then A (j + 5) i else if j = 4 ∧ 48 ≤ i ∧ i < 52 ∧ cOb (A 4) f (l + 1) (i - 48) = true then nI 0 else A j i
def rvA (A : sg) (f b : Nat) : Int32 := if own (A 4) b = -1 then A 4 b else if A 4 (32 + cN (A 4) b * 4 + 2) = nI 1 then A (11 + cN (A 4) b) (b - pN (A 4) (cN (A 4) b)) else if cIb (A 4) f (b + 1) (cN (A 4) b) = true then A (11 + cN (A 4) b) (b - pN (A 4) (cN (A 4) b)) else A (6 + cN (A 4) b) (b - pN (A 4) (cN (A 4) b))
section RDA
variable {n s : Nat} {σ A : sg}
theorem q_readA {f l : Nat} (h : okS n s) (hA : RC σ s A) (hok : okA A) (hfl : f ≤ l) (hl : l < 128) (hr : l < f + 9) : ∃ τ, G_E_readRow [.ref (sa s 3), .int (nI f), .int (nI l)] (hs n σ) = some (bI (alwR (A 4) (A 15) f l false), hs n τ) ∧ (∀ a, a ≠ sa s 16 → a ≠ sa s 18 → (∀ j, 3 ≤ j → j < 16 → a ≠ sa s j) → τ a = σ a) ∧ RC τ s (if alwR (A 4) (A 15) f l false = true then rdA A f l else A) ∧ (alwR (A 4) (A 15) f l false = true → ∀ j, f + j ≤ l → τ (sa s 16) j = rvA A f (f + j)) := by
  obtain ⟨τ, hq, h0, h1⟩ := q_E_readRow (σ := σ) (s := s) (f := f) (l := l) h (by rw [hA.mem]; exact hok.b) hfl hl hr
  rw [hA.mem, hA.wr] at hq h0 h1
  refine ⟨τ, hq, ?_⟩
  cases hall : alwR (A 4) (A 15) f l false with
  | false =>
    have k := h0 hall
    exact ⟨fun a _ q _ => k a q, by rw [if_neg (by simp)]; exact hA.keep (fun j _ _ _ q _ _ => k _ (sa_ne q)), (fun q => by cases q)⟩
  | true =>
    obtain ⟨k1, k2, k3, k4, k5⟩ := h1 hall
    rw [hA.mem] at k2 k4 k5
    refine ⟨fun a q1 q2 q3 => k1 a (q3 4 (by omega) (by omega)) q1 q2 (fun c hc => q3 _ (by omega) (by omega)), ?_, fun _ j hj => ?_⟩
    · rw [if_pos rfl]
      intro j i hj
      unfold rdA
      unfold cel at hj
      by_cases q1 : 6 ≤ j ∧ j < 10
      · obtain ⟨c, rfl⟩ : ∃ c, j = 6 + c := ⟨j - 6, by omega⟩
        have hc : c < 4 := by omega
        rw [show 6 + c - 6 = c by omega, show 6 + c + 5 = 11 + c by omega]
        by_cases q2 : cIb (A 4) f (l + 1) c = true
        · rw [if_pos ⟨by omega, by omega, by omega, q2⟩, (k2 c hc).1 ((cIb_e hok.b hc).mp q2) i (by omega)]
          exact hA.dn hc (by omega)
        · rw [if_neg (fun q => q2 q.2.2.2), if_neg (by omega), (k2 c hc).2 (fun q => q2 ((cIb_e hok.b hc).mpr q)) i (by omega)]
          exact hA.fr hc (by omega)
      · rw [if_neg (fun q => q1 ⟨q.1, q.2.1⟩)]
        by_cases q2 : j = 4
        · subst q2
          by_cases q3 : 48 ≤ i ∧ i < 52
          · obtain ⟨c, rfl⟩ : ∃ c, i = 48 + c := ⟨i - 48, by omega⟩
            have hc : c < 4 := by omega
            rw [show 48 + c - 48 = c by omega]
            by_cases q4 : cOb (A 4) f (l + 1) c = true
            · rw [if_pos ⟨rfl, by omega, by omega, q4⟩, (k4 c hc).1 (cOb_e.mp q4)]
            · rw [if_neg (fun q => q4 q.2.2.2), (k4 c hc).2 (fun q => q4 (cOb_e.mpr q))]
          · rw [if_neg (fun q => q3 ⟨q.2.1, q.2.2.1⟩), k3 i (fun c hc => by omega), hA.mem]
        · rw [if_neg (fun q => q2 q.1), k1 _ (sa_ne q2) (sa_ne (by omega)) (sa_ne (by omega)) (fun c hc => sa_ne (by omega))]
          exact hA j i (by unfold cel; omega)
    · obtain ⟨v1, v2⟩ := k5 j hj
      have hal : alw (A 4) (A 15) f l false (f + j) = true := List.all_eq_true.mp hall j (List.mem_range.mpr (by omega))
      unfold rvA
      rcases own_d hok.b (show f + j < 128 by omega) with e | ⟨e, eo, hc, ep, eq, h64, hq1, h8, hpq, hpb, hbq⟩
      · rw [if_pos e]
        exact v1 e
      · rw [if_neg e]
        rw [alw_c hc eo] at hal
        have v := v2 _ _ hc eo ep (by omega)
        dsimp only at v
        rw [hA.dn hc (by omega), hA.fr hc (by omega)] at v
        rcases lets_r hal with em | em
        · rw [if_neg (by rw [em]; decide)]
          by_cases q : cIb (A 4) f (f + j + 1) (cN (A 4) (f + j)) = true
          · rw [if_pos q]
            exact (v.2 em).1 ((cIb_e hok.b hc).mp q)
          · rw [if_neg q]
            exact (v.2 em).2 (fun k => q ((cIb_e hok.b hc).mpr k))
        · rw [if_pos em]
          exact v.1 em
end RDA
