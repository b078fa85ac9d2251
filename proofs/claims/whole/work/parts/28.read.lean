/-! a row is read -/
theorem own_in {F : Nat → Int32} {b c : Nat} (hc : c < 4) (h : own F b = nI c) : inC F c b = true := by
  have hm : ∀ k, k < 4 → ¬ (-1 : Int32) = nI k := by decide
  unfold own at h
  split at h
  · rename_i e
    have : (0 : Nat) = c := (nI_eq (by decide) (by omega)).mp h
    subst this
    exact e
  split at h
  · rename_i e
    have : (1 : Nat) = c := (nI_eq (by decide) (by omega)).mp h
    subst this
    exact e
  split at h
  · rename_i e
    have : (2 : Nat) = c := (nI_eq (by decide) (by omega)).mp h
    subst this
    exact e
  split at h
  · rename_i e
    have : (3 : Nat) = c := (nI_eq (by decide) (by omega)).mp h
    subst this
    exact e
  · exact absurd h (hm c hc)
abbrev bOK (F : Nat → Int32) : Prop := ∀ j, j < 128 → ∃ m, m < 256 ∧ F j = nI m
theorem own_N {F : Nat → Int32} (hB : bOK F) {b c : Nat} (hb : b < 1000) (hc : c < 4) (h : own F b = nI c) : ∃ p q : Nat, F (32 + c * 4) = nI p ∧ F (32 + c * 4 + 1) = nI q ∧ 64 ≤ p ∧ 1 ≤ q ∧ q ≤ 8 ∧ p + q ≤ 128 ∧ p ≤ b ∧ b < p + q := by
  have hi := own_in hc h
  have ho : opn F c = true := by
    unfold inC at hi
    simp only [Bool.and_eq_true] at hi
    exact hi.1.1
  obtain ⟨p, q, ep, eq, h1, h2, h3, h4⟩ := opn_N hB hc ho
  rw [inC_N ho ep eq (by omega) (by omega) hb] at hi
  have := of_decide_eq_true hi
  exact ⟨p, q, ep, eq, h1, h2, h3, h4, this.1, this.2⟩
theorem own_uniq {F : Nat → Int32} {b c d : Nat} (hc : c < 4) (hd : d < 4) (h1 : own F b = nI c) (h2 : own F b = nI d) : c = d := (nI_eq (by omega) (by omega)).mp (h1.symm.trans h2)
/-- channel c's FRESH became its DONE; channel c was emptied: by the bytes from f on before b -/
def cI (F : Nat → Int32) (f b c : Nat) : Prop := F (32 + c * 4 + 2) = nI 0 ∧ ∃ p, F (32 + c * 4) = nI p ∧ p < 256 ∧ f ≤ p ∧ p < b ∧ own F p = nI c
def cO (F : Nat → Int32) (f b c : Nat) : Prop := F (32 + c * 4 + 2) = nI 1 ∧ ∃ b', f ≤ b' ∧ b' < b ∧ own F b' = nI c
/-- x is what byte b of a row from f on gives -/
def RV (F : Nat → Int32) (fr dn : Nat → Nat → Int32) (f b : Nat) (x : Int32) : Prop := (own F b = -1 → x = F b) ∧ ∀ c p, c < 4 → own F b = nI c → F (32 + c * 4) = nI p → p < 256 → (F (32 + c * 4 + 2) = nI 1 → x = dn c (b - p)) ∧ (F (32 + c * 4 + 2) = nI 0 → (cI F f (b + 1) c → x = dn c (b - p)) ∧ (¬ cI F f (b + 1) c → x = fr c (b - p)))
def RdJ (σ τ : sg) (s f b b2 : Nat) : Prop :=
  (∀ a, a ≠ sa s 4 → a ≠ sa s 16 → (∀ c, c < 4 → a ≠ sa s (6 + c)) → τ a = σ a) ∧
  (∀ c, c < 4 → (cI (σ (sa s 4)) f b2 c → ∀ j, j < 8 → τ (sa s (6 + c)) j = σ (sa s (11 + c)) j) ∧ (¬ cI (σ (sa s 4)) f b2 c → ∀ j, j < 8 → τ (sa s (6 + c)) j = σ (sa s (6 + c)) j)) ∧
  (∀ j, (∀ c, c < 4 → j ≠ 48 + c) → τ (sa s 4) j = σ (sa s 4) j) ∧
  (∀ c, c < 4 → (cO (σ (sa s 4)) f b2 c → τ (sa s 4) (48 + c) = nI 0) ∧ (¬ cO (σ (sa s 4)) f b2 c → τ (sa s 4) (48 + c) = σ (sa s 4) (48 + c))) ∧
  (∀ j, f + j < b → RV (σ (sa s 4)) (fun c => σ (sa s (6 + c))) (fun c => σ (sa s (11 + c))) f (f + j) (τ (sa s 16) j))
theorem RdJ.row {σ τ : sg} {s f b : Nat} {x : Int32} (h : RdJ σ τ s f b (b + 1)) (hf : f ≤ b) (hx : RV (σ (sa s 4)) (fun c => σ (sa s (6 + c))) (fun c => σ (sa s (11 + c))) f b x) : RdJ σ (up τ (sa s 16) (b - f) x) s f (b + 1) (b + 1) := by
  obtain ⟨h1, h2, h3, h4, h5⟩ := h
  refine ⟨fun a e1 e2 e3 => (up_ne e2).trans (h1 a e1 e2 e3), fun c hc => ?_, fun j hj => ?_, fun c hc => ?_, fun j hj => ?_⟩
  · rw [up_ne (sa_ne (by omega))]
    exact h2 c hc
  · rw [up_ne (sa_ne (by omega))]
    exact h3 j hj
  · rw [up_ne (sa_ne (by omega))]
    exact h4 c hc
  · by_cases e : j = b - f
    · subst e
      rw [show up τ (sa s 16) (b - f) x (sa s 16) (b - f) = x by simp [up], show f + (b - f) = b by omega]
      exact hx
    · rw [show up τ (sa s 16) (b - f) x (sa s 16) j = τ (sa s 16) j by simp [up, e]]
      exact h5 j (by omega)
theorem cI_up {F : Nat → Int32} {f b c : Nat} (h : cI F f (b + 1) c) : cI F f b c ∨ (F (32 + c * 4 + 2) = nI 0 ∧ F (32 + c * 4) = nI b ∧ own F b = nI c) := by
  obtain ⟨h1, p, e, h2, h3, h4, h5⟩ := h
  by_cases q : p = b
  · subst q
    exact Or.inr ⟨h1, e, h5⟩
  · exact Or.inl ⟨h1, p, e, h2, h3, by omega, h5⟩
theorem cI_mono {F : Nat → Int32} {f b c : Nat} (h : cI F f b c) : cI F f (b + 1) c := by
  obtain ⟨h1, p, e, h2, h3, h4, h5⟩ := h
  exact ⟨h1, p, e, h2, h3, by omega, h5⟩
theorem cO_up {F : Nat → Int32} {f b c : Nat} (h : cO F f (b + 1) c) : cO F f b c ∨ (F (32 + c * 4 + 2) = nI 1 ∧ own F b = nI c) := by
  obtain ⟨h1, p, h2, h3, h4⟩ := h
  by_cases q : p = b
  · subst q
    exact Or.inr ⟨h1, h4⟩
  · exact Or.inl ⟨h1, p, h2, by omega, h4⟩
theorem cO_mono {F : Nat → Int32} {f b c : Nat} (h : cO F f b c) : cO F f (b + 1) c := by
  obtain ⟨h1, p, h2, h3, h4⟩ := h
  exact ⟨h1, p, h2, by omega, h4⟩
/-- nothing changes for a channel that the byte isn't of -/
theorem RdJ.keep {σ τ : sg} {s f b : Nat} (h : RdJ σ τ s f b b) (hI : ∀ c, c < 4 → cI (σ (sa s 4)) f (b + 1) c → cI (σ (sa s 4)) f b c) (hO : ∀ c, c < 4 → cO (σ (sa s 4)) f (b + 1) c → cO (σ (sa s 4)) f b c) : RdJ σ τ s f b (b + 1) := by
  obtain ⟨h1, h2, h3, h4, h5⟩ := h
  refine ⟨h1, fun c hc => ⟨fun q => (h2 c hc).1 (hI c hc q), fun q => (h2 c hc).2 (fun q2 => q (cI_mono q2))⟩, h3, fun c hc => ⟨fun q => (h4 c hc).1 (hO c hc q), fun q => (h4 c hc).2 (fun q2 => q (cO_mono q2))⟩, h5⟩
