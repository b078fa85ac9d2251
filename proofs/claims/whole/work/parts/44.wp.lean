/-! programs with what follows them: Q after the statement, R at a return -/
def wS (f : jx_fS) (L : hp_L) (h : hp_H) (Q : hp_L → hp_H → Prop) (R : Option Value → hp_H → Prop) : Prop := match f L h with
  | some (.inl q) => Q q.1 q.2
  | some (.inr q) => R q.1 q.2
  | none => False
section WP
variable {L L1 : hp_L} {h h1 h2 : hp_H} {Q : hp_L → hp_H → Prop} {R : Option Value → hp_H → Prop}
theorem wS_l {f : jx_fS} (e : f L h = some (.inl (L1, h1))) (k : Q L1 h1) : wS f L h Q R := by
  unfold wS
  rw [e]
  exact k
theorem wS_r {f : jx_fS} {v : Option Value} (e : f L h = some (.inr (v, h1))) (k : R v h1) : wS f L h Q R := by
  unfold wS
  rw [e]
  exact k
theorem wSeq {f g : jx_fS} (k : wS f L h (fun L1 h1 => wS g L1 h1 Q R) R) : wS (sSeq f g) L h Q R := by
  unfold wS at k ⊢
  rw [e_sSeq]
  cases e : f L h with
  | none => rw [e] at k; exact k.elim
  | some o =>
    rw [e] at k
    cases o with
    | inl q => exact k
    | inr q => exact k
theorem wIf {fc : jx_fB} {f g : jx_fS} {b : Bool} (e : fc L h = some (b, h1)) (kt : b = true → wS f L h1 Q R) (kf : b = false → wS g L h1 Q R) : wS (sIf fc f g) L h Q R := by
  cases b with
  | true =>
    have := kt rfl
    unfold wS at this ⊢
    rw [sIf_t e]
    exact this
  | false =>
    have := kf rfl
    unfold wS at this ⊢
    rw [sIf_f e]
    exact this
theorem wMono {f : jx_fS} {Q' : hp_L → hp_H → Prop} {R' : Option Value → hp_H → Prop} (k : wS f L h Q' R') (hq : ∀ L h, Q' L h → Q L h) (hr : ∀ v h, R' v h → R v h) : wS f L h Q R := by
  unfold wS at k ⊢
  cases e : f L h with
  | none => rw [e] at k; exact k.elim
  | some o =>
    rw [e] at k
    cases o with
    | inl q => exact hq _ _ k
    | inr q => exact hr _ _ k
theorem wWh {fc : jx_fB} {fb : jx_fS} {I : Nat → hp_L → hp_H → Prop} {e : Nat} (hc : ∀ i L h, I i L h → i ≤ e → fc L h = some (decide (i < e), h)) (hb : ∀ i L h, I i L h → i < e → wS fb L h (fun L' h' => I (i + 1) L' h') R) (hQ : ∀ L h, I e L h → Q L h) : ∀ N i L h, i ≤ e → e - i < N → I i L h → wS (sWh fc fb N) L h Q R
  | 0, i, L, h, _, hN, _ => by omega
  | N + 1, i, L, h, hi, hN, hI => by
    have ih := wWh hc hb hQ N
    have e1 : sWh fc fb (N + 1) L h = ((fc L h).bind fun q => if q.1 = true then (fb L q.2).bind (fun o => match o with
      | .inl w => sWh fc fb N w.1 w.2
      | .inr r => some (.inr r)) else some (.inl (L, q.2))) := rfl
    by_cases q : i < e
    · have kb := hb i L h hI q
      unfold wS at kb ⊢
      rw [e1, hc i L h hI hi, Option.bind_some, decide_eq_true q, if_pos rfl]
      cases eb : fb L h with
      | none => rw [eb] at kb; exact kb.elim
      | some o =>
        rw [eb] at kb
        cases o with
        | inl w =>
          have := ih (i + 1) w.1 w.2 (by omega) (by omega) kb
          unfold wS at this
          exact this
        | inr w => exact kb
    · have : i = e := by omega
      subst this
      unfold wS
      rw [e1, hc i L h hI hi, Option.bind_some, decide_eq_false q, if_neg (show ¬ false = true by decide)]
      exact hQ L h hI
theorem mV_s {nL n : Nat} {body : jx_fS} {as : List Value} {P : sg → Prop} (hle : as.length ≤ nL) (k : wS body (jx_L0 nL as) h (fun _ _ => False) (fun v h' => v = none ∧ ∃ τ, h' = hs n τ ∧ P τ)) : ∃ τ, mV nL body as h = some (hs n τ) ∧ P τ := by
  unfold wS at k
  cases e : body (jx_L0 nL as) h with
  | none => rw [e] at k; exact k.elim
  | some o =>
    rw [e] at k
    cases o with
    | inl q => exact k.elim
    | inr q =>
      obtain ⟨v, h'⟩ := q
      obtain ⟨rfl, τ, rfl, hp⟩ := k
      exact ⟨τ, mV_e hle e, hp⟩
theorem mI_s {nL n : Nat} {body : jx_fS} {as : List Value} {P : Int32 → sg → Prop} (hle : as.length ≤ nL) (k : wS body (jx_L0 nL as) h (fun _ _ => False) (fun v h' => ∃ x τ, v = some (.int x) ∧ h' = hs n τ ∧ P x τ)) : ∃ x τ, mI nL body as h = some (x, hs n τ) ∧ P x τ := by
  unfold wS at k
  cases e : body (jx_L0 nL as) h with
  | none => rw [e] at k; exact k.elim
  | some o =>
    rw [e] at k
    cases o with
    | inl q => exact k.elim
    | inr q =>
      obtain ⟨v, h'⟩ := q
      obtain ⟨x, τ, rfl, rfl, hp⟩ := k
      exact ⟨x, τ, mI_e hle e, hp⟩
theorem mZ_s {nL n : Nat} {body : jx_fS} {as : List Value} {P : Bool → sg → Prop} (hle : as.length ≤ nL) (k : wS body (jx_L0 nL as) h (fun _ _ => False) (fun v h' => ∃ x τ, v = some (.int (bI x)) ∧ h' = hs n τ ∧ P x τ)) : ∃ x τ, mZ nL body as h = some (bI x, hs n τ) ∧ P x τ := by
  unfold wS at k
  cases e : body (jx_L0 nL as) h with
  | none => rw [e] at k; exact k.elim
  | some o =>
    rw [e] at k
    cases o with
    | inl q => exact k.elim
    | inr q =>
      obtain ⟨v, h'⟩ := q
      obtain ⟨x, τ, rfl, rfl, hp⟩ := k
      exact ⟨x, τ, mZ_e hle e, hp⟩
theorem mZ_t {nL n : Nat} {body : jx_fS} {as : List Value} {x : Bool} {P : sg → Prop} (hle : as.length ≤ nL) (k : wS body (jx_L0 nL as) h (fun _ _ => False) (fun v h' => v = some (.int (bI x)) ∧ ∃ τ, h' = hs n τ ∧ P τ)) : ∃ τ, mZ nL body as h = some (bI x, hs n τ) ∧ P τ := by
  obtain ⟨y, τ, e, rfl, r⟩ := mZ_s (n := n) (P := fun y τ => y = x ∧ P τ) hle (wMono k (fun _ _ q => q) (fun v h' q => by
    obtain ⟨e1, τ, e2, hp⟩ := q
    exact ⟨x, τ, e1, e2, rfl, hp⟩))
  exact ⟨τ, e, r⟩
theorem mI_t {nL n : Nat} {body : jx_fS} {as : List Value} {x : Int32} {P : sg → Prop} (hle : as.length ≤ nL) (k : wS body (jx_L0 nL as) h (fun _ _ => False) (fun v h' => v = some (.int x) ∧ ∃ τ, h' = hs n τ ∧ P τ)) : ∃ τ, mI nL body as h = some (x, hs n τ) ∧ P τ := by
  obtain ⟨y, τ, e, rfl, r⟩ := mI_s (n := n) (P := fun y τ => y = x ∧ P τ) hle (wMono k (fun _ _ q => q) (fun v h' q => by
    obtain ⟨e1, τ, e2, hp⟩ := q
    exact ⟨x, τ, e1, e2, rfl, hp⟩))
  exact ⟨τ, e, r⟩
theorem mI_q {nL : Nat} {body : jx_fS} {as : List Value} {x : Int32} (hle : as.length ≤ nL) (k : wS body (jx_L0 nL as) h (fun _ _ => False) (fun v h' => v = some (.int x) ∧ h' = h2)) : mI nL body as h = some (x, h2) := by
  unfold wS at k
  cases e : body (jx_L0 nL as) h with
  | none => rw [e] at k; exact k.elim
  | some o =>
    rw [e] at k
    cases o with
    | inl q => exact k.elim
    | inr q =>
      obtain ⟨v, h'⟩ := q
      obtain ⟨rfl, rfl⟩ := k
      exact mI_e hle e
theorem mZ_q {nL : Nat} {body : jx_fS} {as : List Value} {x : Bool} (hle : as.length ≤ nL) (k : wS body (jx_L0 nL as) h (fun _ _ => False) (fun v h' => v = some (.int (bI x)) ∧ h' = h2)) : mZ nL body as h = some (bI x, h2) := by
  unfold wS at k
  cases e : body (jx_L0 nL as) h with
  | none => rw [e] at k; exact k.elim
  | some o =>
    rw [e] at k
    cases o with
    | inl q => exact k.elim
    | inr q =>
      obtain ⟨v, h'⟩ := q
      obtain ⟨rfl, rfl⟩ := k
      exact mZ_e hle e
theorem mV_q {nL : Nat} {body : jx_fS} {as : List Value} (hle : as.length ≤ nL) (k : wS body (jx_L0 nL as) h (fun _ _ => False) (fun v h' => v = none ∧ h' = h2)) : mV nL body as h = some h2 := by
  unfold wS at k
  cases e : body (jx_L0 nL as) h with
  | none => rw [e] at k; exact k.elim
  | some o =>
    rw [e] at k
    cases o with
    | inl q => exact k.elim
    | inr q =>
      obtain ⟨v, h'⟩ := q
      obtain ⟨rfl, rfl⟩ := k
      exact mV_e hle e
theorem mR_t {nL n : Nat} {body : jx_fS} {as : List Value} {x : Nat} {P : sg → Prop} (hle : as.length ≤ nL) (k : wS body (jx_L0 nL as) h (fun _ _ => False) (fun v h' => v = some (.ref x) ∧ ∃ τ, h' = hs n τ ∧ P τ)) : ∃ τ, mR nL body as h = some (x, hs n τ) ∧ P τ := by
  unfold wS at k
  cases e : body (jx_L0 nL as) h with
  | none => rw [e] at k; exact k.elim
  | some o =>
    rw [e] at k
    cases o with
    | inl q => exact k.elim
    | inr q =>
      obtain ⟨v, h'⟩ := q
      obtain ⟨rfl, τ, rfl, hp⟩ := k
      exact ⟨τ, mR_e hle e, hp⟩
theorem ite_and {x y : Bool} : (if x = true then some (y, h) else some (false, h)) = some (x && y, h) := by cases x <;> rfl
theorem ite_or {x y : Bool} : (if x = true then some (true, h) else some (y, h)) = some (x || y, h) := by cases x <;> rfl
theorem ite_I {x : Bool} {a b : Int32} : (if x = true then some (a, h) else some (b, h)) = some ((if x = true then a else b), h) := by cases x <;> rfl
theorem ite_bI {x : Bool} : (if x = true then nI 1 else nI 0) = bI x := by cases x <;> decide
theorem ite_bJ {x : Bool} : (if x = true then nI 0 else nI 1) = bI (!x) := by cases x <;> decide
end WP
/-- nothing but station s of the program changes -/
def FS (s : Nat) (σ τ : sg) : Prop := ∀ a, (∀ j, j < 22 → a ≠ sa s j) → τ a = σ a
theorem FS.r (s : Nat) (σ : sg) : FS s σ σ := fun _ _ => rfl
theorem FS.t {s : Nat} {σ τ ρ : sg} (h : FS s σ τ) (k : FS s τ ρ) : FS s σ ρ := fun a ha => (k a ha).trans (h a ha)
theorem FS.u {s j i : Nat} {v : Int32} {σ τ : sg} (h : FS s σ τ) (hj : j < 22) : FS s σ (up τ (sa s j) i v) := fun a ha => (up_ne (ha j hj)).trans (h a ha)
theorem FS.f {s j k : Nat} {v : Int32} {σ τ : sg} (h : FS s σ τ) (hj : j < 22) : FS s σ (fil τ (sa s j) k v) := fun a ha => (fil_ne (ha j hj)).trans (h a ha)
theorem FS.c {s j k a0 b0 b1 : Nat} {σ τ : sg} (h : FS s σ τ) (hj : j < 22) : FS s σ (cpy τ a0 b0 (sa s j) b1 k) := fun a ha => (cpy_ne (ha j hj)).trans (h a ha)
theorem RC.fl {σ A : sg} {s j0 k : Nat} {x : Int32} (h : RC σ s A) : RC (fil σ (sa s j0) k x) s (fil A j0 k x) := fun j i hj => by
  have := h j i hj
  simp only [fil, sa_e, this]
theorem RC.cq {σ A : sg} {s j0 j1 k : Nat} (h : RC σ s A) (h0 : ∀ i, i < k → cel j0 i) : RC (cpy σ (sa s j0) 0 (sa s j1) 0 k) s (cpy A j0 0 j1 0 k) := fun j i hj => by
  unfold cpy
  simp only [sa_e]
  by_cases q : j = j1 ∧ 0 ≤ i ∧ i < 0 + k
  · rw [if_pos q, if_pos q]
    exact h _ _ (h0 _ (by omega))
  · rw [if_neg q, if_neg q]
    exact h j i hj
