/-! the whole: what both sides stand for. w: the stations, the frame that is made ready, the latest frame, the rest -/
abbrev wd : Type := (Nat → sg) × (Nat → sg) × (Nat → sg) × sg
def vW (w : wd) : sg := w.2.2.2
def kW (w : wd) : Nat := (vW w 0 0).toNatClampNeg
def bW (w : wd) : Bool := jNe (vW w 0 2) 0
def fW (w : wd) : Nat := (vW w 0 3).toNatClampNeg
def yW (w : wd) : Nat := (vW w 0 4).toNatClampNeg
def zW (w : wd) : Nat := (vW w 0 5).toNatClampNeg
def mW (w : wd) : Nat := (vW w 0 6).toNatClampNeg
def sW (w : wd) : Nat := (vW w 0 7).toNatClampNeg
def setV (w : wd) (j i : Nat) (v : Int32) : wd := (w.1, w.2.1, w.2.2.1, up (vW w) j i v)
/-- a station that is well made -/
def okU (A : sg) : Prop := okA A ∧ okF A ∧ okT A ∧ okO A ∧ (∀ i, i < 2 → byt (A 1 i)) ∧ (A 3 7 = nI 0 ∨ A 3 7 = nI 1) ∧ ∃ m k, mdA A m k
def celV (j i : Nat) : Prop := (j = 0 ∧ i < 8) ∨ (j = 1 ∧ i < 6) ∨ ((j = 2 ∨ j = 3) ∧ i < 24) ∨ ((j = 4 ∨ j = 5 ∨ j = 8) ∧ i < 6)
def cva (X j i : Nat) : Nat := if j = 0 then (if i < 2 then 1 else if i < 4 then 0 else if i = 4 then 28 - X else if i = 5 then X else 4) else if j = 1 then 3 else if j = 8 then 9 else j + 3
def cvi (j i : Nat) : Nat := if j = 0 then (if i < 4 then i + 2 else if i < 6 then 1 else i - 1) else i
theorem cv_c {X j i : Nat} (h : celV j i) : (j = 0 ∧ i < 2 ∧ cva X j i = 1 ∧ cvi j i = i + 2) ∨ (j = 0 ∧ 2 ≤ i ∧ i < 4 ∧ cva X j i = 0 ∧ cvi j i = i + 2) ∨ (j = 0 ∧ i = 4 ∧ cva X j i = 28 - X ∧ cvi j i = 1) ∨ (j = 0 ∧ i = 5 ∧ cva X j i = X ∧ cvi j i = 1) ∨ (j = 0 ∧ 6 ≤ i ∧ i < 8 ∧ cva X j i = 4 ∧ cvi j i = i - 1) ∨ (j = 1 ∧ i < 6 ∧ cva X j i = 3 ∧ cvi j i = i) ∨ (2 ≤ j ∧ j ≤ 5 ∧ i < 24 ∧ cva X j i = j + 3 ∧ cvi j i = i) ∨ (j = 8 ∧ i < 6 ∧ cva X j i = 9 ∧ cvi j i = i) := by
  unfold celV at h
  unfold cva cvi
  rcases h with ⟨rfl, h⟩ | ⟨rfl, h⟩ | ⟨h1 | h1, h⟩ | ⟨h1 | h1 | h1, h⟩
  · rcases (show i = 0 ∨ i = 1 ∨ i = 2 ∨ i = 3 ∨ i = 4 ∨ i = 5 ∨ i = 6 ∨ i = 7 by omega) with rfl | rfl | rfl | rfl | rfl | rfl | rfl | rfl <;> simp (decide := true)
  all_goals (subst_vars; simp (decide := true) [h]; try omega)
theorem cv_inj {X j i j' i' : Nat} (hX : isX X) (h : celV j i) (h' : celV j' i') (e1 : cva X j i = cva X j' i') (e2 : cvi j i = cvi j' i') : j = j' ∧ i = i' := by
  have a := cv_c (X := X) h
  have b := cv_c (X := X) h'
  unfold isX at hX
  clear h h'
  generalize cva X j i = x at *
  generalize cvi j i = y at *
  generalize cva X j' i' = x' at *
  generalize cvi j' i' = y' at *
  subst e1 e2
  rcases a with a | a | a | a | a | a | a | a <;> rcases b with b | b | b | b | b | b | b | b <;> omega
/-- the program's numbers and arrays -/
def CV (X : Nat) (σ V : sg) : Prop := ∀ j i, celV j i → σ (cva X j i) (cvi j i) = V j i
theorem cva_b {X j i : Nat} (hX : isX X) (h : celV j i) : cva X j i < 26 ∧ (cva X j i < 11 ∨ cva X j i = 18) ∧ cva X j i ≠ 2 ∧ (cva X j i = 0 → 4 ≤ cvi j i) := by
  have a := cv_c (X := X) h
  unfold isX at hX
  generalize cva X j i = x at *
  generalize cvi j i = y at *
  omega
theorem CV.u {X j i : Nat} {v : Int32} {σ V : sg} (hX : isX X) (h : CV X σ V) (hc : celV j i) : CV X (up σ (cva X j i) (cvi j i) v) (up V j i v) := fun j' i' hc' => by
  unfold up
  by_cases q : j' = j ∧ i' = i
  · obtain ⟨rfl, rfl⟩ := q
    rw [if_pos ⟨rfl, rfl⟩, if_pos ⟨rfl, rfl⟩]
  · rw [if_neg q, if_neg (fun e => q (cv_inj hX hc' hc e.1 e.2))]
    exact h j' i' hc'
/-- the program stands for w; X: its latest frame -/
def CPc (n X : Nat) (σ : sg) (w : wd) : Prop := n = 58 + 22 * kW w ∧ (isX X ∧ yW w ≤ 3 ∧ zW w ≤ 3) ∧ σ 0 2 = nI (28 - X) ∧ σ 0 3 = nI X ∧ CV X σ (vW w) ∧ (∀ t, t < kW w → RC σ t (w.1 t)) ∧ (∀ e, e < yW w → RD σ (28 - X + 2 + 2 * e) (w.2.1 e)) ∧ ∀ e, e < zW w → RD σ (X + 2 + 2 * e) (w.2.2.1 e)
def celQ (w : wd) (j i : Nat) : Prop := (j = 0 ∧ (i = 0 ∨ i = 1 ∨ i = 3 ∨ i = 4 ∨ i = 6 ∨ i = 7)) ∨ (j = 1 ∧ i < 6) ∨ ((j = 2 ∨ j = 3) ∧ i < sW w) ∨ (4 ≤ j ∧ j ≤ 7 ∧ i < mW w)
def rva (j : Nat) : Nat := if j = 0 then 26 else if j = 1 then 29 else if j < 4 then j + 54 else j + 48
def rvi (j i : Nat) : Nat := if j = 0 then (if i = 0 then 0 else if i = 1 then 21 else if i = 3 then 32 else if i = 4 then 18 else if i = 6 then 33 else 34) else i
def CQ (σ : sg) (w : wd) : Prop := ∀ j i, celQ w j i → σ (rva j) (rvi j i) = vW w j i
theorem rv_c {w : wd} {j i : Nat} (h : celQ w j i) : (j = 0 ∧ rva j = 26 ∧ ((i = 0 ∧ rvi j i = 0) ∨ (i = 1 ∧ rvi j i = 21) ∨ (i = 3 ∧ rvi j i = 32) ∨ (i = 4 ∧ rvi j i = 18) ∨ (i = 6 ∧ rvi j i = 33) ∨ (i = 7 ∧ rvi j i = 34))) ∨ (j = 1 ∧ rva j = 29 ∧ rvi j i = i) ∨ (2 ≤ j ∧ j < 4 ∧ rva j = j + 54 ∧ rvi j i = i) ∨ (4 ≤ j ∧ j ≤ 7 ∧ rva j = j + 48 ∧ rvi j i = i) := by
  unfold celQ at h
  unfold rva rvi
  rcases h with ⟨rfl, h⟩ | ⟨rfl, h⟩ | ⟨h1 | h1, h⟩ | ⟨h0, h1, h⟩
  · rcases h with rfl | rfl | rfl | rfl | rfl | rfl <;> simp (decide := true)
  · exact Or.inr (Or.inl ⟨rfl, rfl, rfl⟩)
  · subst h1
    exact Or.inr (Or.inr (Or.inl ⟨by omega, by omega, rfl, rfl⟩))
  · subst h1
    exact Or.inr (Or.inr (Or.inl ⟨by omega, by omega, rfl, rfl⟩))
  · rw [if_neg (by omega), if_neg (by omega), if_neg (by omega), if_neg (by omega)]
    exact Or.inr (Or.inr (Or.inr ⟨h0, h1, rfl, rfl⟩))
theorem rv_inj {w w' : wd} {j i j' i' : Nat} (h : celQ w j i) (h' : celQ w' j' i') (e1 : rva j = rva j') (e2 : rvi j i = rvi j' i') : j = j' ∧ i = i' := by
  have a := rv_c h
  have b := rv_c h'
  clear h h'
  generalize rva j = x at *
  generalize rvi j i = y at *
  generalize rva j' = x' at *
  generalize rvi j' i' = y' at *
  subst e1 e2
  omega
/-- the reference stands for w -/
def CPr (σ : sg) (w : wd) : Prop := CQ σ w ∧ σ 26 20 = nI (if bW w = true then zW w else 0) ∧ (∀ t, t < kW w → RR σ t (w.1 t) ∧ ∃ m k, MD σ t m k ∧ mdA (w.1 t) m k) ∧ (∀ t, kW w ≤ t → t < 6 → RR σ t (fun _ _ => nI 0) ∧ σ 35 t = nI 0 ∧ σ 36 t = nI 0) ∧ (∀ e, e < yW w → RG σ e (w.2.1 e)) ∧ (bW w = true → ∀ e, e < zW w → RG σ (6 + e) (w.2.2.1 e))
def okW (w : wd) : Prop := vW w 0 0 = nI (kW w) ∧ kW w ≤ 6 ∧ (vW w 0 1 = -1 ∨ ∃ q, q < 7 ∧ vW w 0 1 = nI q) ∧ vW w 0 2 = bI (bW w) ∧ vW w 0 3 = nI (fW w) ∧ fW w ≤ kW w ∧ vW w 0 4 = nI (yW w) ∧ yW w ≤ 3 ∧ vW w 0 5 = nI (zW w) ∧ zW w ≤ 3 ∧ vW w 0 6 = nI (mW w) ∧ mW w ≤ 6 ∧ vW w 0 7 = nI (sW w) ∧ sW w ≤ 24 ∧ (mW w = 0 → sW w = 0) ∧ (∀ t, t < kW w → okU (w.1 t)) ∧ (∀ e, e < yW w → okP (w.2.1 e)) ∧ (∀ e, e < zW w → okP (w.2.2.1 e)) ∧ (∀ s, s < mW w → ∃ p o i : Nat, vW w 4 s = nI p ∧ vW w 5 s = nI (p + o) ∧ vW w 6 s = nI o ∧ vW w 7 s = nI i ∧ vW w 8 s = nI (p + o + i) ∧ o ≤ 2 ∧ i ≤ 2 ∧ p + o + i ≤ sW w) ∧ ∀ i, i < sW w → byt (vW w 2 i)
/-- only the program's, only the reference's cells change -/
def FK (σ τ : sg) : Prop := ∀ a, 26 ≤ a → a < 58 → τ a = σ a
def FL (σ τ : sg) : Prop := ∀ a, a < 26 ∨ 58 ≤ a → τ a = σ a
theorem FK.r (σ : sg) : FK σ σ := fun _ _ _ => rfl
theorem FL.r (σ : sg) : FL σ σ := fun _ _ => rfl
theorem FK.t {σ τ ρ : sg} (h : FK σ τ) (k : FK τ ρ) : FK σ ρ := fun a h1 h2 => (k a h1 h2).trans (h a h1 h2)
theorem FL.t {σ τ ρ : sg} (h : FL σ τ) (k : FL τ ρ) : FL σ ρ := fun a h1 => (k a h1).trans (h a h1)
theorem FK.u {σ τ : sg} {a i : Nat} {v : Int32} (h : FK σ τ) (k : a < 26 ∨ 58 ≤ a) : FK σ (up τ a i v) := fun b h1 h2 => (up_ne (by omega)).trans (h b h1 h2)
theorem FX.L {σ τ : sg} {P : Nat → Nat → Prop} (h : FX P σ τ) (k : ∀ a i, P a i → 26 ≤ a ∧ a < 58) : FL σ τ := fun a ha => funext fun i => h a i (fun q => by have := k a i q; omega)
theorem CPc.L {n X : Nat} {σ τ : sg} {w : wd} (h : CPc n X σ w) (k : FL σ τ) : CPc n X τ w := by
  obtain ⟨h1, ⟨hX, hy, hz⟩, h2, h3, h4, h5, h6, h7⟩ := h
  have hb : X = 10 ∨ X = 18 := hX
  refine ⟨h1, ⟨hX, hy, hz⟩, by rw [k 0 (by omega)]; exact h2, by rw [k 0 (by omega)]; exact h3, fun j i hc => ?_, fun t ht => (h5 t ht).ot (fun j _ => k _ (by have := sa_ge t j; omega)), fun e he => ?_, fun e he => ?_⟩
  · rw [k _ (by have := cva_b hX hc; omega)]
    exact h4 j i hc
  · exact (h6 e he).keep (k _ (by omega)) (k _ (by omega))
  · exact (h7 e he).keep (k _ (by omega)) (k _ (by omega))
theorem CPr.K {σ τ : sg} {w : wd} (h : CPr σ w) (k : FK σ τ) : CPr τ w := by
  obtain ⟨h1, h2, h3, h4, h5, h6⟩ := h
  have rr : ∀ t A, RR σ t A → RR τ t A := fun t A q j i hc => by
    have : 26 ≤ pqa j i ∧ pqa j i < 58 := by have := (SC.c (s := t) hc).b; omega
    rw [k _ this.1 this.2]
    exact q j i hc
  have rg : ∀ d G, RG σ d G → RG τ d G := fun d G q => ⟨fun i hi => by rw [k _ (by omega) (by omega)]; exact q.1 i hi, fun i hi => by rw [k _ (by omega) (by omega)]; exact q.2 i hi⟩
  refine ⟨fun j i hc => ?_, by rw [k 26 (by omega) (by omega)]; exact h2, fun t ht => ?_, fun t h7 h8 => ?_, fun e he => rg _ _ (h5 e he), fun q e he => rg _ _ (h6 q e he)⟩
  · have : 26 ≤ rva j ∧ rva j < 58 := by
      have := rv_c hc
      omega
    rw [k _ this.1 this.2]
    exact h1 j i hc
  · obtain ⟨r, m, c, hm, ha⟩ := h3 t ht
    refine ⟨rr _ _ r, m, c, ?_, ha⟩
    unfold MD
    rw [k 34 (by omega) (by omega), k 35 (by omega) (by omega), k 36 (by omega) (by omega)]
    exact hm
  · obtain ⟨r, e5, e6⟩ := h4 t h7 h8
    rw [k 35 (by omega) (by omega), k 36 (by omega) (by omega)]
    exact ⟨rr _ _ r, e5, e6⟩
/-- a number that neither counts stations nor datagrams -/
theorem CPc.u {n X j i : Nat} {v : Int32} {σ : sg} {w : wd} (h : CPc n X σ w) (hc : celV j i) (hn : ¬ (j = 0 ∧ (i = 0 ∨ i = 4 ∨ i = 5))) : CPc n X (up σ (cva X j i) (cvi j i) v) (setV w j i v) := by
  obtain ⟨h1, ⟨hX, hy, hz⟩, h2, h3, h4, h5, h6, h7⟩ := h
  have hb : X = 10 ∨ X = 18 := hX
  have b := cva_b hX hc
  have ek : kW (setV w j i v) = kW w := by
    unfold kW setV vW up
    dsimp only
    rw [if_neg (by omega)]
  have ey : yW (setV w j i v) = yW w := by
    unfold yW setV vW up
    dsimp only
    rw [if_neg (by omega)]
  have ez : zW (setV w j i v) = zW w := by
    unfold zW setV vW up
    dsimp only
    rw [if_neg (by omega)]
  unfold CPc
  rw [ek, ey, ez]
  refine ⟨h1, ⟨hX, hy, hz⟩, ?_, ?_, h4.u hX hc, fun t ht => (h5 t ht).ot (fun m _ => up_ne (by have := sa_ge t m; omega)), fun e he => (h6 e he).keep (up_ne (by omega)) (up_ne (by omega)), fun e he => (h7 e he).keep (up_ne (by omega)) (up_ne (by omega))⟩
  · unfold up
    rw [if_neg (fun q => by have := b.2.2.2 q.1.symm; omega)]
    exact h2
  · unfold up
    rw [if_neg (fun q => by have := b.2.2.2 q.1.symm; omega)]
    exact h3
theorem CPr.u {j i : Nat} {v : Int32} {σ : sg} {w : wd} (h : CPr σ w) (hc : celQ w j i) (hn : ¬ (j = 0 ∧ (i = 0 ∨ i = 4 ∨ i = 6 ∨ i = 7))) : CPr (up σ (rva j) (rvi j i) v) (setV w j i v) := by
  obtain ⟨h1, h2, h3, h4, h5, h6⟩ := h
  have hj : j ≠ 0 ∨ i = 1 ∨ i = 3 := by unfold celQ at hc; omega
  have e0 : ∀ m, ¬ (m = 1 ∨ m = 3) → up (vW w) j i v 0 m = vW w 0 m := fun m hm => by
    unfold up
    rw [if_neg (by omega)]
  have ek : kW (setV w j i v) = kW w := by unfold kW; rw [← e0 0 (by omega)]; rfl
  have ey : yW (setV w j i v) = yW w := by unfold yW; rw [← e0 4 (by omega)]; rfl
  have ez : zW (setV w j i v) = zW w := by unfold zW; rw [← e0 5 (by omega)]; rfl
  have eb : bW (setV w j i v) = bW w := by unfold bW; rw [← e0 2 (by omega)]; rfl
  have em : mW (setV w j i v) = mW w := by unfold mW; rw [← e0 6 (by omega)]; rfl
  have es : sW (setV w j i v) = sW w := by unfold sW; rw [← e0 7 (by omega)]; rfl
  have pl : (rva j = 26 ∧ (rvi j i = 21 ∨ rvi j i = 32)) ∨ rva j = 29 ∨ 52 ≤ rva j := by
    have := rv_c hc
    omega
  have hF : FX (fun a m => a = rva j ∧ m = rvi j i) σ (up σ (rva j) (rvi j i) v) := (FX.r _ σ).u ⟨rfl, rfl⟩
  unfold CPr
  rw [ek, ey, ez, eb]
  refine ⟨fun j' i' hc' => ?_, ?_, fun t ht => ?_, fun t h7 h8 => ?_, fun e he => (h5 e he).o hF (fun a m q k => by rcases q with q | q <;> omega), fun q e he => (h6 q e he).o hF (fun a m q k => by rcases q with q | q <;> omega)⟩
  · have hc2 : celQ w j' i' := by
      unfold celQ at hc' ⊢
      rw [em, es] at hc'
      exact hc'
    show _ = up (vW w) j i v j' i'
    unfold up
    by_cases q : j' = j ∧ i' = i
    · obtain ⟨rfl, rfl⟩ := q
      rw [if_pos ⟨rfl, rfl⟩, if_pos ⟨rfl, rfl⟩]
    · rw [if_neg q, if_neg (fun e => q (rv_inj hc2 hc e.1 e.2))]
      exact h1 j' i' hc2
  · rw [hF 26 20 (by omega)]
    exact h2
  · obtain ⟨r, m, c, hm, ha⟩ := h3 t ht
    exact ⟨r.o hF (fun a m q k => by have := q.b; omega), m, c, hm.o (s := 0) hF (fun a _ _ q => by omega), ha⟩
  · obtain ⟨r, e5, e6⟩ := h4 t h7 h8
    rw [hF 35 t (by omega), hF 36 t (by omega)]
    exact ⟨r.o hF (fun a m q k => by have := q.b; omega), e5, e6⟩
