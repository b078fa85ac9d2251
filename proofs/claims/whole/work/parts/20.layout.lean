/-! The layout: place k holds a cell of kind kd k with sz k slots; rt k i: the reference that slot i always holds (none: an int). From 58 on blocks of 22 cells, one a station. -/
def kd_T : List Nat := [7, 3, 53, 51, 2, 50, 50, 50, 50, 50, 1, 52, 0, 50, 0, 50, 0, 50, 1, 52, 0, 50, 0, 50, 0, 50, 8, 50, 50, 51, 50, 50, 50, 51, 50, 51, 50, 51, 51, 50, 50, 50, 50, 50, 50, 50, 50, 50, 50, 50, 50, 50, 50, 50, 50, 50, 50, 50]
def kd_S : List Nat := [6, 50, 50, 5, 50, 54, 50, 50, 50, 50, 54, 50, 50, 50, 50, 51, 50, 50, 50, 4, 50, 50]
def sz_T : List Nat := [6, 4, 6, 6, 7, 24, 24, 6, 6, 6, 2, 3, 6, 8, 6, 8, 6, 8, 2, 3, 6, 8, 6, 8, 6, 8, 41, 6, 6, 6, 768, 192, 192, 24, 6, 6, 6, 6, 6, 6, 6, 12, 12, 12, 9, 9, 9, 9, 9, 72, 9, 8, 6, 6, 6, 6, 24, 24]
def sz_S : List Nat := [8, 2, 2, 10, 128, 4, 8, 8, 8, 8, 4, 8, 8, 8, 8, 4, 9, 9, 9, 3, 8, 4]
def rt_T : List (List (Option Nat)) := [[some 1, some 4, some 10, some 18], [some 2, some 3], [], [], [some 5, some 6, some 7, some 8, some 9], [], [], [], [], [], [some 11], [some 12, some 14, some 16], [none, none, none, none, none, some 13], [], [none, none, none, none, none, some 15], [], [none, none, none, none, none, some 17], [], [some 19], [some 20, some 22, some 24], [none, none, none, none, none, some 21], [], [none, none, none, none, none, some 23], [], [none, none, none, none, none, some 25], [], [none, some 27, some 28, some 29, some 30, some 31, some 32, some 33, some 34, some 35, some 36, some 37, some 38, some 39, some 40, some 41, some 42, some 43, none, none, none, none, some 44, some 45, some 46, some 47, some 48, some 49, some 50, some 51, none, none, none, none, none, some 52, some 53, some 54, some 55, some 56, some 57], [], [], [], [], [], [], [], [], [], [], [], [], [], [], [], [], [], [], [], [], [], [], [], [], [], [], [], [], [], [], []]
def rt_S : List (List (Option Nat)) := [[none, none, some 1, some 2, some 3, some 19, some 20, some 21], [], [], [some 4, some 5, some 10, some 15, some 16, some 17, some 18], [], [some 6, some 7, some 8, some 9], [], [], [], [], [some 11, some 12, some 13, some 14], [], [], [], [], [], [], [], [], [], [], []]
def kd (k : Nat) : Nat := if k < 58 then kd_T.getD k 99 else kd_S.getD ((k - 58) % 22) 99
def sz (k : Nat) : Nat := if k < 58 then sz_T.getD k 0 else sz_S.getD ((k - 58) % 22) 0
def rt (k i : Nat) : Option Nat := if k < 58 then (rt_T.getD k []).getD i none else ((rt_S.getD ((k - 58) % 22) []).getD i none).map (fun r => 58 + 22 * ((k - 58) / 22) + r)
/-- the state: the int in slot i of the cell at place k -/
abbrev sg : Type := Nat → Nat → Int32
def up (σ : sg) (k i : Nat) (x : Int32) : sg := fun a j => if a = k ∧ j = i then x else σ a j
/-- the value of slot i at place k: two references of StationLine move (slots 2, 3 of place 0), the stations' array (place 2) fills, all others stand -/
def vl (σ : sg) (k i : Nat) : Value := if k = 0 ∧ (i = 2 ∨ i = 3) then .ref (σ 0 i).toNatClampNeg else if k = 2 then (if i < (σ 1 2).toNatClampNeg then .ref (58 + 22 * i) else .null) else match rt k i with
  | some r => .ref r
  | none => .int (σ k i)
def sl (σ : sg) (k : Nat) : List Value := (List.range (sz k)).map (vl σ k)
def hs (n : Nat) (σ : sg) : hp_H := (List.range n).map (fun k => (kd k, sl σ k))
theorem hs_len (n : Nat) (σ : sg) : (hs n σ).length = n := by simp [hs]
theorem hs_get {n k : Nat} (h : k < n) (σ : sg) : (hs n σ)[k]? = some (kd k, sl σ k) := by simp [hs, h]
theorem sl_len (σ : sg) (k : Nat) : (sl σ k).length = sz k := by simp [sl]
theorem sl_get {σ : sg} {k i : Nat} (h : i < sz k) : (sl σ k)[i]? = some (vl σ k i) := by simp [sl, h]
theorem g_hs {n a ci k : Nat} {σ : sg} (ha : a < n) (hc : kd a = ci) (hk : k < sz a) : hp_g (hs n σ) a ci k = some (vl σ a k) := by
  unfold hp_g
  rw [hs_get ha, Option.bind_some, if_pos hc, sl_get hk]
theorem nI_ix {j m : Nat} (hj : j < m) (hm : m < 2 ^ 31) : ¬ (nI j < 0 ∨ m ≤ (nI j).toNatClampNeg) := nI_in hj hm
theorem i_hs {n a t j : Nat} {σ : sg} (ha : a < n) (hc : kd a = t) (hj : j < sz a) (hm : sz a < 2 ^ 31) : hp_i (hs n σ) a t (nI j) = some (vl σ a j) := by
  unfold hp_i
  rw [hs_get ha, Option.bind_some, if_pos ⟨hc, by rw [sl_len]; exact nI_ix hj hm⟩]
  show (sl σ a)[(nI j).toNatClampNeg]? = _
  rw [nI_clamp (by omega), sl_get hj]
/-- an int's slot -/
def isI (k i : Nat) : Prop := rt k i = none ∧ ¬ k = 0 ∧ ¬ k = 2 ∨ k = 0 ∧ 4 ≤ i
/-- a slot that nothing but itself rests on -/
def isF (k i : Nat) : Prop := isI k i ∧ ¬ (k = 1 ∧ i = 2)
theorem rt0 {i : Nat} (h : 4 ≤ i) : rt 0 i = none := by
  match i, h with
  | n + 4, _ => rfl
theorem vl_I {σ : sg} {k i : Nat} (h : isI k i) : vl σ k i = .int (σ k i) := by
  unfold vl
  rcases h with ⟨h1, h2, h3⟩ | ⟨rfl, h2⟩
  · rw [if_neg (fun q => h2 q.1), if_neg h3, h1]
  · rw [if_neg (by omega), if_neg (by decide), rt0 h2]
theorem vl_up {σ : sg} {k i : Nat} {x : Int32} (h : isF k i) (a j : Nat) : vl (up σ k i x) a j = if a = k ∧ j = i then .int x else vl σ a j := by
  by_cases e : a = k ∧ j = i
  · obtain ⟨rfl, rfl⟩ := e
    rw [if_pos ⟨rfl, rfl⟩, vl_I h.1]
    simp [up]
  · rw [if_neg e]
    unfold vl
    have e0 : ∀ q, (q = 2 ∨ q = 3) → up σ k i x 0 q = σ 0 q := fun q hq => by
      unfold up
      rw [if_neg]
      rintro ⟨rfl, rfl⟩
      rcases h.1 with ⟨-, h2, -⟩ | ⟨-, h2⟩
      · exact h2 rfl
      · omega
    have e1 : up σ k i x 1 2 = σ 1 2 := by
      unfold up
      rw [if_neg]
      rintro ⟨rfl, rfl⟩
      exact h.2 ⟨rfl, rfl⟩
    have e2 : up σ k i x a j = σ a j := by unfold up; rw [if_neg e]
    by_cases c1 : a = 0 ∧ (j = 2 ∨ j = 3)
    · rw [if_pos c1, if_pos c1, e0 j c1.2]
    · rw [if_neg c1, if_neg c1, e1, e2]
theorem hs_set {n k i : Nat} {σ : sg} {x : Int32} (hk : k < n) (hi : i < sz k) (h : isF k i) : (hs n σ).set k (kd k, (sl σ k).set i (.int x)) = hs n (up σ k i x) := by
  apply List.ext_getElem?
  intro a
  rw [List.getElem?_set, hs_len]
  by_cases e : k = a
  · subst e
    rw [if_pos rfl, if_pos hk, hs_get hk]
    congr 2
    apply List.ext_getElem?
    intro j
    rw [List.getElem?_set, sl_len]
    by_cases e : i = j
    · subst e
      rw [if_pos rfl, if_pos hi, sl_get hi, vl_up h, if_pos ⟨rfl, rfl⟩]
    · rw [if_neg e]
      by_cases hj : j < sz k
      · rw [sl_get hj, sl_get hj, vl_up h, if_neg (fun q => e q.2.symm)]
      · rw [List.getElem?_eq_none (by rw [sl_len]; omega), List.getElem?_eq_none (by rw [sl_len]; omega)]
  · rw [if_neg e]
    by_cases ha : a < n
    · rw [hs_get ha, hs_get ha]
      congr 2
      unfold sl
      apply List.map_congr_left
      intro j _
      rw [vl_up h, if_neg (fun q => e q.1.symm)]
    · rw [List.getElem?_eq_none (by rw [hs_len]; omega), List.getElem?_eq_none (by rw [hs_len]; omega)]
theorem p_hs {n a ci k : Nat} {σ : sg} {x : Int32} (ha : a < n) (hc : kd a = ci) (hk : k < sz a) (h : isF a k) : hp_p (hs n σ) a ci k (.int x) = some (hs n (up σ a k x)) := by
  unfold hp_p
  rw [hs_get ha, Option.bind_some, if_pos ⟨hc, by rw [sl_len]; exact hk⟩]
  subst hc
  rw [hs_set ha hk h]
theorem w_hs {n a t j : Nat} {σ : sg} {x : Int32} (ha : a < n) (hc : kd a = t) (hj : j < sz a) (hm : sz a < 2 ^ 31) (h : isF a j) : hp_w (hs n σ) a t (nI j) (.int x) = some (hs n (up σ a j x)) := by
  unfold hp_w
  rw [hs_get ha, Option.bind_some, if_pos ⟨hc, by rw [sl_len]; exact nI_ix hj hm⟩]
  subst hc
  show some ((hs n σ).set a (kd a, (sl σ a).set (nI j).toNatClampNeg (.int x))) = _
  rw [nI_clamp (by omega), hs_set ha hj h]
theorem k_hs {n a : Nat} {σ : sg} (ha : a < n) : hp_k (hs n σ) a = some (kd a) := by
  unfold hp_k
  rw [hs_get ha]
  rfl
/-! the tables of a station's block -/
theorem ks {s j : Nat} (h : j < 22) : kd (58 + 22 * s + j) = kd_S.getD j 99 := by
  unfold kd
  rw [if_neg (by omega), show (58 + 22 * s + j - 58) % 22 = j by omega]
theorem ss {s j : Nat} (h : j < 22) : sz (58 + 22 * s + j) = sz_S.getD j 0 := by
  unfold sz
  rw [if_neg (by omega), show (58 + 22 * s + j - 58) % 22 = j by omega]
theorem rs {s j i : Nat} (h : j < 22) : rt (58 + 22 * s + j) i = ((rt_S.getD j []).getD i none).map (fun r => 58 + 22 * s + r) := by
  unfold rt
  rw [if_neg (by omega), show (58 + 22 * s + j - 58) % 22 = j by omega, show (58 + 22 * s + j - 58) / 22 = s by omega]
