def sa (s j : Nat) : Nat := 58 + 22 * s + j
def okS (n s : Nat) : Prop := 58 + 22 * s + 22 ≤ n
def okB (n : Nat) : Prop := 58 ≤ n
theorem okS.B {n s : Nat} (h : okS n s) : okB n := by unfold okS at h; unfold okB; omega
theorem sa_inj {s j s' j' : Nat} (h : j < 22) (h' : j' < 22) : sa s j = sa s' j' ↔ s = s' ∧ j = j' := by unfold sa; omega
theorem sa_ge (s j : Nat) : 58 ≤ sa s j := by unfold sa; omega
theorem sa_lt {n s j : Nat} (h : okS n s) (hj : j < 22) : sa s j < n := by unfold okS at h; unfold sa; omega
section CEL
variable {n s : Nat} {σ : sg}
theorem cS_k (h : okS n s) (j : Nat) (hj : j < 22) : hp_k (hs n σ) (sa s j) = some (kd_S.getD j 99) := by rw [k_hs (sa_lt h hj), sa, ks hj]
theorem cS_r (h : okS n s) (j i r : Nat) (hj : j < 22) (hi : i < sz_S.getD j 0) (hr : (rt_S.getD j []).getD i none = some r) : hp_g (hs n σ) (sa s j) (kd_S.getD j 99) i = some (.ref (sa s r)) := by
  rw [g_hs (sa_lt h hj) (ks hj) (by rw [sa, ss hj]; exact hi)]
  have := sa_ge s j
  unfold vl
  rw [if_neg (by omega), if_neg (by omega), sa, rs hj, hr]
  rfl
theorem cS_I {s j i : Nat} (hj : j < 22) (hr : (rt_S.getD j []).getD i none = none) : isF (sa s j) i := by
  have := sa_ge s j
  exact ⟨Or.inl ⟨by rw [sa, rs hj, hr]; rfl, by omega, by omega⟩, by omega⟩
theorem cS_g (h : okS n s) (j i : Nat) (hj : j < 22) (hi : i < sz_S.getD j 0) (hr : (rt_S.getD j []).getD i none = none) : hp_g (hs n σ) (sa s j) (kd_S.getD j 99) i = some (.int (σ (sa s j) i)) := by
  rw [g_hs (sa_lt h hj) (ks hj) (by rw [sa, ss hj]; exact hi), vl_I (cS_I hj hr).1]
theorem cS_p (h : okS n s) (j i : Nat) (x : Int32) (hj : j < 22) (hi : i < sz_S.getD j 0) (hr : (rt_S.getD j []).getD i none = none) : hp_p (hs n σ) (sa s j) (kd_S.getD j 99) i (.int x) = some (hs n (up σ (sa s j) i x)) :=
  p_hs (sa_lt h hj) (ks hj) (by rw [sa, ss hj]; exact hi) (cS_I hj hr)
theorem szS_lt (j : Nat) : sz_S.getD j 0 < 2 ^ 31 := by
  by_cases h : j < 22
  · have : ∀ j, j < 22 → sz_S.getD j 0 < 2 ^ 31 := by decide
    exact this j h
  · rw [List.getD_eq_getElem?_getD, List.getElem?_eq_none (by show 22 ≤ j; omega)]
    decide
theorem cS_i (h : okS n s) (j i : Nat) (hj : j < 22) (hi : i < sz_S.getD j 0) (hr : (rt_S.getD j []).getD i none = none) : hp_i (hs n σ) (sa s j) (kd_S.getD j 99) (nI i) = some (.int (σ (sa s j) i)) := by
  rw [i_hs (sa_lt h hj) (ks hj) (by rw [sa, ss hj]; exact hi) (by rw [sa, ss hj]; exact szS_lt j), vl_I (cS_I hj hr).1]
theorem cS_q (h : okS n s) (j i r : Nat) (hj : j < 22) (hi : i < sz_S.getD j 0) (hr : (rt_S.getD j []).getD i none = some r) : hp_i (hs n σ) (sa s j) (kd_S.getD j 99) (nI i) = some (.ref (sa s r)) := by
  rw [i_hs (sa_lt h hj) (ks hj) (by rw [sa, ss hj]; exact hi) (by rw [sa, ss hj]; exact szS_lt j)]
  have := sa_ge s j
  unfold vl
  rw [if_neg (by omega), if_neg (by omega), sa, rs hj, hr]
  rfl
theorem cS_w (h : okS n s) (j i : Nat) (x : Int32) (hj : j < 22) (hi : i < sz_S.getD j 0) (hr : (rt_S.getD j []).getD i none = none) : hp_w (hs n σ) (sa s j) (kd_S.getD j 99) (nI i) (.int x) = some (hs n (up σ (sa s j) i x)) :=
  w_hs (sa_lt h hj) (ks hj) (by rw [sa, ss hj]; exact hi) (by rw [sa, ss hj]; exact szS_lt j) (cS_I hj hr)
theorem kb {k : Nat} (h : k < 58) : kd k = kd_T.getD k 99 := by unfold kd; rw [if_pos h]
theorem sb {k : Nat} (h : k < 58) : sz k = sz_T.getD k 0 := by unfold sz; rw [if_pos h]
theorem rb {k i : Nat} (h : k < 58) : rt k i = (rt_T.getD k []).getD i none := by unfold rt; rw [if_pos h]
theorem szT_lt {k : Nat} (h : k < 58) : sz_T.getD k 0 < 2 ^ 31 := by
  have : ∀ k, k < 58 → sz_T.getD k 0 < 2 ^ 31 := by decide
  exact this k h
theorem cT_k (h : okB n) (j : Nat) (hj : j < 58) : hp_k (hs n σ) j = some (kd_T.getD j 99) := by rw [k_hs (by unfold okB at h; omega), kb hj]
theorem cT_r (h : okB n) (j i r : Nat) (hj : j < 58) (hi : i < sz_T.getD j 0) (hr : (rt_T.getD j []).getD i none = some r) (h0 : ¬ (j = 0 ∧ (i = 2 ∨ i = 3)) ∧ ¬ j = 2) : hp_g (hs n σ) j (kd_T.getD j 99) i = some (.ref r) := by
  rw [g_hs (by unfold okB at h; omega) (kb hj) (by rw [sb hj]; exact hi)]
  unfold vl
  rw [if_neg h0.1, if_neg h0.2, rb hj, hr]
theorem cT_I {j i : Nat} (hj : j < 58) (hr : (rt_T.getD j []).getD i none = none) (h0 : (¬ j = 0 ∧ ¬ j = 2 ∧ ¬ (j = 1 ∧ i = 2)) ∨ j = 0 ∧ 4 ≤ i) : isF j i := by
  rcases h0 with ⟨h1, h2, h3⟩ | ⟨rfl, h2⟩
  · exact ⟨Or.inl ⟨by rw [rb hj]; exact hr, h1, h2⟩, h3⟩
  · exact ⟨Or.inr ⟨rfl, h2⟩, by omega⟩
theorem cT_g (h : okB n) (j i : Nat) (hj : j < 58) (hi : i < sz_T.getD j 0) (hr : (rt_T.getD j []).getD i none = none) (h0 : (¬ j = 0 ∧ ¬ j = 2) ∨ j = 0 ∧ 4 ≤ i) : hp_g (hs n σ) j (kd_T.getD j 99) i = some (.int (σ j i)) := by
  rw [g_hs (by unfold okB at h; omega) (kb hj) (by rw [sb hj]; exact hi), vl_I]
  rcases h0 with ⟨h1, h2⟩ | ⟨rfl, h2⟩
  · exact Or.inl ⟨by rw [rb hj]; exact hr, h1, h2⟩
  · exact Or.inr ⟨rfl, h2⟩
theorem cT_p (h : okB n) (j i : Nat) (x : Int32) (hj : j < 58) (hi : i < sz_T.getD j 0) (hr : (rt_T.getD j []).getD i none = none) (h0 : (¬ j = 0 ∧ ¬ j = 2 ∧ ¬ (j = 1 ∧ i = 2)) ∨ j = 0 ∧ 4 ≤ i) : hp_p (hs n σ) j (kd_T.getD j 99) i (.int x) = some (hs n (up σ j i x)) :=
  p_hs (by unfold okB at h; omega) (kb hj) (by rw [sb hj]; exact hi) (cT_I hj hr h0)
theorem cT_i (h : okB n) (j i : Nat) (hj : j < 58) (hi : i < sz_T.getD j 0) (hr : (rt_T.getD j []).getD i none = none) (h0 : ¬ j = 0 ∧ ¬ j = 2 ∧ ¬ j = 1) : hp_i (hs n σ) j (kd_T.getD j 99) (nI i) = some (.int (σ j i)) := by
  rw [i_hs (by unfold okB at h; omega) (kb hj) (by rw [sb hj]; exact hi) (by rw [sb hj]; exact szT_lt hj), vl_I (Or.inl ⟨by rw [rb hj]; exact hr, h0.1, h0.2.1⟩)]
theorem cT_q (h : okB n) (j i r : Nat) (hj : j < 58) (hi : i < sz_T.getD j 0) (hr : (rt_T.getD j []).getD i none = some r) (h0 : ¬ j = 0 ∧ ¬ j = 2) : hp_i (hs n σ) j (kd_T.getD j 99) (nI i) = some (.ref r) := by
  rw [i_hs (by unfold okB at h; omega) (kb hj) (by rw [sb hj]; exact hi) (by rw [sb hj]; exact szT_lt hj)]
  unfold vl
  rw [if_neg (fun q => h0.1 q.1), if_neg h0.2, rb hj, hr]
theorem cT_w (h : okB n) (j i : Nat) (x : Int32) (hj : j < 58) (hi : i < sz_T.getD j 0) (hr : (rt_T.getD j []).getD i none = none) (h0 : ¬ j = 0 ∧ ¬ j = 2 ∧ ¬ j = 1) : hp_w (hs n σ) j (kd_T.getD j 99) (nI i) (.int x) = some (hs n (up σ j i x)) :=
  w_hs (by unfold okB at h; omega) (kb hj) (by rw [sb hj]; exact hi) (by rw [sb hj]; exact szT_lt hj) (cT_I hj hr (Or.inl ⟨h0.1, h0.2.1, fun q => h0.2.2 q.1⟩))
/-- an array of ints holds no reference -/
theorem rS_n {j i : Nat} (h : rt_S.getD j [] = []) : (rt_S.getD j []).getD i none = none := by rw [h]; rfl
theorem rT_n {j i : Nat} (h : rt_T.getD j [] = []) : (rt_T.getD j []).getD i none = none := by rw [h]; rfl
theorem kS0 (h : okS n s) : hp_k (hs n σ) (sa s 0) = some 6 := cS_k h 0 (by decide)
theorem gS0_0 (h : okS n s) : hp_g (hs n σ) (sa s 0) 6 0 = some (.int (σ (sa s 0) 0)) := cS_g h 0 0 (by decide) (by decide) rfl
theorem pS0_0 (h : okS n s) (x : Int32) : hp_p (hs n σ) (sa s 0) 6 0 (.int x) = some (hs n (up σ (sa s 0) 0 x)) := cS_p h 0 0 x (by decide) (by decide) rfl
theorem gS0_1 (h : okS n s) : hp_g (hs n σ) (sa s 0) 6 1 = some (.int (σ (sa s 0) 1)) := cS_g h 0 1 (by decide) (by decide) rfl
theorem pS0_1 (h : okS n s) (x : Int32) : hp_p (hs n σ) (sa s 0) 6 1 (.int x) = some (hs n (up σ (sa s 0) 1 x)) := cS_p h 0 1 x (by decide) (by decide) rfl
theorem gS0_2 (h : okS n s) : hp_g (hs n σ) (sa s 0) 6 2 = some (.ref (sa s 1)) := cS_r h 0 2 1 (by decide) (by decide) rfl
theorem gS0_3 (h : okS n s) : hp_g (hs n σ) (sa s 0) 6 3 = some (.ref (sa s 2)) := cS_r h 0 3 2 (by decide) (by decide) rfl
theorem gS0_4 (h : okS n s) : hp_g (hs n σ) (sa s 0) 6 4 = some (.ref (sa s 3)) := cS_r h 0 4 3 (by decide) (by decide) rfl
theorem gS0_5 (h : okS n s) : hp_g (hs n σ) (sa s 0) 6 5 = some (.ref (sa s 19)) := cS_r h 0 5 19 (by decide) (by decide) rfl
theorem gS0_6 (h : okS n s) : hp_g (hs n σ) (sa s 0) 6 6 = some (.ref (sa s 20)) := cS_r h 0 6 20 (by decide) (by decide) rfl
theorem gS0_7 (h : okS n s) : hp_g (hs n σ) (sa s 0) 6 7 = some (.ref (sa s 21)) := cS_r h 0 7 21 (by decide) (by decide) rfl
theorem kS1 (h : okS n s) : hp_k (hs n σ) (sa s 1) = some 50 := cS_k h 1 (by decide)
theorem iS1 {i : Nat} (h : okS n s) (hi : i < 2) : hp_i (hs n σ) (sa s 1) 50 (nI i) = some (.int (σ (sa s 1) i)) := cS_i h 1 i (by decide) hi (rS_n rfl)
theorem wS1 {i : Nat} (h : okS n s) (hi : i < 2) (x : Int32) : hp_w (hs n σ) (sa s 1) 50 (nI i) (.int x) = some (hs n (up σ (sa s 1) i x)) := cS_w h 1 i x (by decide) hi (rS_n rfl)
theorem kS2 (h : okS n s) : hp_k (hs n σ) (sa s 2) = some 50 := cS_k h 2 (by decide)
theorem iS2 {i : Nat} (h : okS n s) (hi : i < 2) : hp_i (hs n σ) (sa s 2) 50 (nI i) = some (.int (σ (sa s 2) i)) := cS_i h 2 i (by decide) hi (rS_n rfl)
theorem wS2 {i : Nat} (h : okS n s) (hi : i < 2) (x : Int32) : hp_w (hs n σ) (sa s 2) 50 (nI i) (.int x) = some (hs n (up σ (sa s 2) i x)) := cS_w h 2 i x (by decide) hi (rS_n rfl)
theorem kS3 (h : okS n s) : hp_k (hs n σ) (sa s 3) = some 5 := cS_k h 3 (by decide)
theorem gS3_0 (h : okS n s) : hp_g (hs n σ) (sa s 3) 5 0 = some (.ref (sa s 4)) := cS_r h 3 0 4 (by decide) (by decide) rfl
theorem gS3_1 (h : okS n s) : hp_g (hs n σ) (sa s 3) 5 1 = some (.ref (sa s 5)) := cS_r h 3 1 5 (by decide) (by decide) rfl
theorem gS3_2 (h : okS n s) : hp_g (hs n σ) (sa s 3) 5 2 = some (.ref (sa s 10)) := cS_r h 3 2 10 (by decide) (by decide) rfl
theorem gS3_3 (h : okS n s) : hp_g (hs n σ) (sa s 3) 5 3 = some (.ref (sa s 15)) := cS_r h 3 3 15 (by decide) (by decide) rfl
theorem gS3_4 (h : okS n s) : hp_g (hs n σ) (sa s 3) 5 4 = some (.ref (sa s 16)) := cS_r h 3 4 16 (by decide) (by decide) rfl
theorem gS3_5 (h : okS n s) : hp_g (hs n σ) (sa s 3) 5 5 = some (.ref (sa s 17)) := cS_r h 3 5 17 (by decide) (by decide) rfl
theorem gS3_6 (h : okS n s) : hp_g (hs n σ) (sa s 3) 5 6 = some (.ref (sa s 18)) := cS_r h 3 6 18 (by decide) (by decide) rfl
theorem gS3_7 (h : okS n s) : hp_g (hs n σ) (sa s 3) 5 7 = some (.int (σ (sa s 3) 7)) := cS_g h 3 7 (by decide) (by decide) rfl
theorem pS3_7 (h : okS n s) (x : Int32) : hp_p (hs n σ) (sa s 3) 5 7 (.int x) = some (hs n (up σ (sa s 3) 7 x)) := cS_p h 3 7 x (by decide) (by decide) rfl
theorem gS3_8 (h : okS n s) : hp_g (hs n σ) (sa s 3) 5 8 = some (.int (σ (sa s 3) 8)) := cS_g h 3 8 (by decide) (by decide) rfl
theorem pS3_8 (h : okS n s) (x : Int32) : hp_p (hs n σ) (sa s 3) 5 8 (.int x) = some (hs n (up σ (sa s 3) 8 x)) := cS_p h 3 8 x (by decide) (by decide) rfl
theorem gS3_9 (h : okS n s) : hp_g (hs n σ) (sa s 3) 5 9 = some (.int (σ (sa s 3) 9)) := cS_g h 3 9 (by decide) (by decide) rfl
theorem pS3_9 (h : okS n s) (x : Int32) : hp_p (hs n σ) (sa s 3) 5 9 (.int x) = some (hs n (up σ (sa s 3) 9 x)) := cS_p h 3 9 x (by decide) (by decide) rfl
theorem kS4 (h : okS n s) : hp_k (hs n σ) (sa s 4) = some 50 := cS_k h 4 (by decide)
theorem iS4 {i : Nat} (h : okS n s) (hi : i < 128) : hp_i (hs n σ) (sa s 4) 50 (nI i) = some (.int (σ (sa s 4) i)) := cS_i h 4 i (by decide) hi (rS_n rfl)
theorem wS4 {i : Nat} (h : okS n s) (hi : i < 128) (x : Int32) : hp_w (hs n σ) (sa s 4) 50 (nI i) (.int x) = some (hs n (up σ (sa s 4) i x)) := cS_w h 4 i x (by decide) hi (rS_n rfl)
theorem kS5 (h : okS n s) : hp_k (hs n σ) (sa s 5) = some 54 := cS_k h 5 (by decide)
theorem iS5 {i : Nat} (h : okS n s) (hi : i < 4) : hp_i (hs n σ) (sa s 5) 54 (nI i) = some (.ref (sa s (6 + i))) := by
  rcases (show i = 0 ∨ i = 1 ∨ i = 2 ∨ i = 3 by omega) with rfl | rfl | rfl | rfl
  · exact cS_q h 5 0 6 (by decide) (by decide) rfl
  · exact cS_q h 5 1 7 (by decide) (by decide) rfl
  · exact cS_q h 5 2 8 (by decide) (by decide) rfl
  · exact cS_q h 5 3 9 (by decide) (by decide) rfl
theorem kS6 (h : okS n s) : hp_k (hs n σ) (sa s 6) = some 50 := cS_k h 6 (by decide)
theorem iS6 {i : Nat} (h : okS n s) (hi : i < 8) : hp_i (hs n σ) (sa s 6) 50 (nI i) = some (.int (σ (sa s 6) i)) := cS_i h 6 i (by decide) hi (rS_n rfl)
theorem wS6 {i : Nat} (h : okS n s) (hi : i < 8) (x : Int32) : hp_w (hs n σ) (sa s 6) 50 (nI i) (.int x) = some (hs n (up σ (sa s 6) i x)) := cS_w h 6 i x (by decide) hi (rS_n rfl)
theorem kS7 (h : okS n s) : hp_k (hs n σ) (sa s 7) = some 50 := cS_k h 7 (by decide)
theorem iS7 {i : Nat} (h : okS n s) (hi : i < 8) : hp_i (hs n σ) (sa s 7) 50 (nI i) = some (.int (σ (sa s 7) i)) := cS_i h 7 i (by decide) hi (rS_n rfl)
theorem wS7 {i : Nat} (h : okS n s) (hi : i < 8) (x : Int32) : hp_w (hs n σ) (sa s 7) 50 (nI i) (.int x) = some (hs n (up σ (sa s 7) i x)) := cS_w h 7 i x (by decide) hi (rS_n rfl)
theorem kS8 (h : okS n s) : hp_k (hs n σ) (sa s 8) = some 50 := cS_k h 8 (by decide)
theorem iS8 {i : Nat} (h : okS n s) (hi : i < 8) : hp_i (hs n σ) (sa s 8) 50 (nI i) = some (.int (σ (sa s 8) i)) := cS_i h 8 i (by decide) hi (rS_n rfl)
theorem wS8 {i : Nat} (h : okS n s) (hi : i < 8) (x : Int32) : hp_w (hs n σ) (sa s 8) 50 (nI i) (.int x) = some (hs n (up σ (sa s 8) i x)) := cS_w h 8 i x (by decide) hi (rS_n rfl)
theorem kS9 (h : okS n s) : hp_k (hs n σ) (sa s 9) = some 50 := cS_k h 9 (by decide)
theorem iS9 {i : Nat} (h : okS n s) (hi : i < 8) : hp_i (hs n σ) (sa s 9) 50 (nI i) = some (.int (σ (sa s 9) i)) := cS_i h 9 i (by decide) hi (rS_n rfl)
theorem wS9 {i : Nat} (h : okS n s) (hi : i < 8) (x : Int32) : hp_w (hs n σ) (sa s 9) 50 (nI i) (.int x) = some (hs n (up σ (sa s 9) i x)) := cS_w h 9 i x (by decide) hi (rS_n rfl)
theorem kS10 (h : okS n s) : hp_k (hs n σ) (sa s 10) = some 54 := cS_k h 10 (by decide)
theorem iS10 {i : Nat} (h : okS n s) (hi : i < 4) : hp_i (hs n σ) (sa s 10) 54 (nI i) = some (.ref (sa s (11 + i))) := by
  rcases (show i = 0 ∨ i = 1 ∨ i = 2 ∨ i = 3 by omega) with rfl | rfl | rfl | rfl
  · exact cS_q h 10 0 11 (by decide) (by decide) rfl
  · exact cS_q h 10 1 12 (by decide) (by decide) rfl
  · exact cS_q h 10 2 13 (by decide) (by decide) rfl
  · exact cS_q h 10 3 14 (by decide) (by decide) rfl
theorem kS11 (h : okS n s) : hp_k (hs n σ) (sa s 11) = some 50 := cS_k h 11 (by decide)
theorem iS11 {i : Nat} (h : okS n s) (hi : i < 8) : hp_i (hs n σ) (sa s 11) 50 (nI i) = some (.int (σ (sa s 11) i)) := cS_i h 11 i (by decide) hi (rS_n rfl)
theorem wS11 {i : Nat} (h : okS n s) (hi : i < 8) (x : Int32) : hp_w (hs n σ) (sa s 11) 50 (nI i) (.int x) = some (hs n (up σ (sa s 11) i x)) := cS_w h 11 i x (by decide) hi (rS_n rfl)
theorem kS12 (h : okS n s) : hp_k (hs n σ) (sa s 12) = some 50 := cS_k h 12 (by decide)
theorem iS12 {i : Nat} (h : okS n s) (hi : i < 8) : hp_i (hs n σ) (sa s 12) 50 (nI i) = some (.int (σ (sa s 12) i)) := cS_i h 12 i (by decide) hi (rS_n rfl)
theorem wS12 {i : Nat} (h : okS n s) (hi : i < 8) (x : Int32) : hp_w (hs n σ) (sa s 12) 50 (nI i) (.int x) = some (hs n (up σ (sa s 12) i x)) := cS_w h 12 i x (by decide) hi (rS_n rfl)
theorem kS13 (h : okS n s) : hp_k (hs n σ) (sa s 13) = some 50 := cS_k h 13 (by decide)
theorem iS13 {i : Nat} (h : okS n s) (hi : i < 8) : hp_i (hs n σ) (sa s 13) 50 (nI i) = some (.int (σ (sa s 13) i)) := cS_i h 13 i (by decide) hi (rS_n rfl)
theorem wS13 {i : Nat} (h : okS n s) (hi : i < 8) (x : Int32) : hp_w (hs n σ) (sa s 13) 50 (nI i) (.int x) = some (hs n (up σ (sa s 13) i x)) := cS_w h 13 i x (by decide) hi (rS_n rfl)
theorem kS14 (h : okS n s) : hp_k (hs n σ) (sa s 14) = some 50 := cS_k h 14 (by decide)
theorem iS14 {i : Nat} (h : okS n s) (hi : i < 8) : hp_i (hs n σ) (sa s 14) 50 (nI i) = some (.int (σ (sa s 14) i)) := cS_i h 14 i (by decide) hi (rS_n rfl)
theorem wS14 {i : Nat} (h : okS n s) (hi : i < 8) (x : Int32) : hp_w (hs n σ) (sa s 14) 50 (nI i) (.int x) = some (hs n (up σ (sa s 14) i x)) := cS_w h 14 i x (by decide) hi (rS_n rfl)
theorem kS15 (h : okS n s) : hp_k (hs n σ) (sa s 15) = some 51 := cS_k h 15 (by decide)
theorem iS15 {i : Nat} (h : okS n s) (hi : i < 4) : hp_i (hs n σ) (sa s 15) 51 (nI i) = some (.int (σ (sa s 15) i)) := cS_i h 15 i (by decide) hi (rS_n rfl)
theorem wS15 {i : Nat} (h : okS n s) (hi : i < 4) (x : Int32) : hp_w (hs n σ) (sa s 15) 51 (nI i) (.int x) = some (hs n (up σ (sa s 15) i x)) := cS_w h 15 i x (by decide) hi (rS_n rfl)
theorem kS16 (h : okS n s) : hp_k (hs n σ) (sa s 16) = some 50 := cS_k h 16 (by decide)
theorem iS16 {i : Nat} (h : okS n s) (hi : i < 9) : hp_i (hs n σ) (sa s 16) 50 (nI i) = some (.int (σ (sa s 16) i)) := cS_i h 16 i (by decide) hi (rS_n rfl)
theorem wS16 {i : Nat} (h : okS n s) (hi : i < 9) (x : Int32) : hp_w (hs n σ) (sa s 16) 50 (nI i) (.int x) = some (hs n (up σ (sa s 16) i x)) := cS_w h 16 i x (by decide) hi (rS_n rfl)
theorem kS17 (h : okS n s) : hp_k (hs n σ) (sa s 17) = some 50 := cS_k h 17 (by decide)
theorem iS17 {i : Nat} (h : okS n s) (hi : i < 9) : hp_i (hs n σ) (sa s 17) 50 (nI i) = some (.int (σ (sa s 17) i)) := cS_i h 17 i (by decide) hi (rS_n rfl)
theorem wS17 {i : Nat} (h : okS n s) (hi : i < 9) (x : Int32) : hp_w (hs n σ) (sa s 17) 50 (nI i) (.int x) = some (hs n (up σ (sa s 17) i x)) := cS_w h 17 i x (by decide) hi (rS_n rfl)
theorem kS18 (h : okS n s) : hp_k (hs n σ) (sa s 18) = some 50 := cS_k h 18 (by decide)
theorem iS18 {i : Nat} (h : okS n s) (hi : i < 9) : hp_i (hs n σ) (sa s 18) 50 (nI i) = some (.int (σ (sa s 18) i)) := cS_i h 18 i (by decide) hi (rS_n rfl)
theorem wS18 {i : Nat} (h : okS n s) (hi : i < 9) (x : Int32) : hp_w (hs n σ) (sa s 18) 50 (nI i) (.int x) = some (hs n (up σ (sa s 18) i x)) := cS_w h 18 i x (by decide) hi (rS_n rfl)
theorem kS19 (h : okS n s) : hp_k (hs n σ) (sa s 19) = some 4 := cS_k h 19 (by decide)
theorem gS19_0 (h : okS n s) : hp_g (hs n σ) (sa s 19) 4 0 = some (.int (σ (sa s 19) 0)) := cS_g h 19 0 (by decide) (by decide) rfl
theorem pS19_0 (h : okS n s) (x : Int32) : hp_p (hs n σ) (sa s 19) 4 0 (.int x) = some (hs n (up σ (sa s 19) 0 x)) := cS_p h 19 0 x (by decide) (by decide) rfl
theorem gS19_1 (h : okS n s) : hp_g (hs n σ) (sa s 19) 4 1 = some (.int (σ (sa s 19) 1)) := cS_g h 19 1 (by decide) (by decide) rfl
theorem pS19_1 (h : okS n s) (x : Int32) : hp_p (hs n σ) (sa s 19) 4 1 (.int x) = some (hs n (up σ (sa s 19) 1 x)) := cS_p h 19 1 x (by decide) (by decide) rfl
theorem gS19_2 (h : okS n s) : hp_g (hs n σ) (sa s 19) 4 2 = some (.int (σ (sa s 19) 2)) := cS_g h 19 2 (by decide) (by decide) rfl
theorem pS19_2 (h : okS n s) (x : Int32) : hp_p (hs n σ) (sa s 19) 4 2 (.int x) = some (hs n (up σ (sa s 19) 2 x)) := cS_p h 19 2 x (by decide) (by decide) rfl
theorem kS20 (h : okS n s) : hp_k (hs n σ) (sa s 20) = some 50 := cS_k h 20 (by decide)
theorem iS20 {i : Nat} (h : okS n s) (hi : i < 8) : hp_i (hs n σ) (sa s 20) 50 (nI i) = some (.int (σ (sa s 20) i)) := cS_i h 20 i (by decide) hi (rS_n rfl)
theorem wS20 {i : Nat} (h : okS n s) (hi : i < 8) (x : Int32) : hp_w (hs n σ) (sa s 20) 50 (nI i) (.int x) = some (hs n (up σ (sa s 20) i x)) := cS_w h 20 i x (by decide) hi (rS_n rfl)
theorem kS21 (h : okS n s) : hp_k (hs n σ) (sa s 21) = some 50 := cS_k h 21 (by decide)
theorem iS21 {i : Nat} (h : okS n s) (hi : i < 4) : hp_i (hs n σ) (sa s 21) 50 (nI i) = some (.int (σ (sa s 21) i)) := cS_i h 21 i (by decide) hi (rS_n rfl)
theorem wS21 {i : Nat} (h : okS n s) (hi : i < 4) (x : Int32) : hp_w (hs n σ) (sa s 21) 50 (nI i) (.int x) = some (hs n (up σ (sa s 21) i x)) := cS_w h 21 i x (by decide) hi (rS_n rfl)
theorem kT0 (h : okB n) : hp_k (hs n σ) 0 = some 7 := cT_k h 0 (by decide)
theorem gT0_0 (h : okB n) : hp_g (hs n σ) 0 7 0 = some (.ref 1) := cT_r h 0 0 1 (by decide) (by decide) rfl (by decide)
theorem gT0_1 (h : okB n) : hp_g (hs n σ) 0 7 1 = some (.ref 4) := cT_r h 0 1 4 (by decide) (by decide) rfl (by decide)
theorem gT0_4 (h : okB n) : hp_g (hs n σ) 0 7 4 = some (.int (σ 0 4)) := cT_g h 0 4 (by decide) (by decide) rfl (by decide)
theorem pT0_4 (h : okB n) (x : Int32) : hp_p (hs n σ) 0 7 4 (.int x) = some (hs n (up σ 0 4 x)) := cT_p h 0 4 x (by decide) (by decide) rfl (by decide)
theorem gT0_5 (h : okB n) : hp_g (hs n σ) 0 7 5 = some (.int (σ 0 5)) := cT_g h 0 5 (by decide) (by decide) rfl (by decide)
theorem pT0_5 (h : okB n) (x : Int32) : hp_p (hs n σ) 0 7 5 (.int x) = some (hs n (up σ 0 5 x)) := cT_p h 0 5 x (by decide) (by decide) rfl (by decide)
theorem kT1 (h : okB n) : hp_k (hs n σ) 1 = some 3 := cT_k h 1 (by decide)
theorem gT1_0 (h : okB n) : hp_g (hs n σ) 1 3 0 = some (.ref 2) := cT_r h 1 0 2 (by decide) (by decide) rfl (by decide)
theorem gT1_1 (h : okB n) : hp_g (hs n σ) 1 3 1 = some (.ref 3) := cT_r h 1 1 3 (by decide) (by decide) rfl (by decide)
theorem gT1_2 (h : okB n) : hp_g (hs n σ) 1 3 2 = some (.int (σ 1 2)) := cT_g h 1 2 (by decide) (by decide) rfl (by decide)
theorem gT1_3 (h : okB n) : hp_g (hs n σ) 1 3 3 = some (.int (σ 1 3)) := cT_g h 1 3 (by decide) (by decide) rfl (by decide)
theorem pT1_3 (h : okB n) (x : Int32) : hp_p (hs n σ) 1 3 3 (.int x) = some (hs n (up σ 1 3 x)) := cT_p h 1 3 x (by decide) (by decide) rfl (by decide)
theorem kT2 (h : okB n) : hp_k (hs n σ) 2 = some 53 := cT_k h 2 (by decide)
theorem kT3 (h : okB n) : hp_k (hs n σ) 3 = some 51 := cT_k h 3 (by decide)
theorem iT3 {i : Nat} (h : okB n) (hi : i < 6) : hp_i (hs n σ) 3 51 (nI i) = some (.int (σ 3 i)) := cT_i h 3 i (by decide) hi (rT_n rfl) (by decide)
theorem wT3 {i : Nat} (h : okB n) (hi : i < 6) (x : Int32) : hp_w (hs n σ) 3 51 (nI i) (.int x) = some (hs n (up σ 3 i x)) := cT_w h 3 i x (by decide) hi (rT_n rfl) (by decide)
theorem kT4 (h : okB n) : hp_k (hs n σ) 4 = some 2 := cT_k h 4 (by decide)
theorem gT4_0 (h : okB n) : hp_g (hs n σ) 4 2 0 = some (.ref 5) := cT_r h 4 0 5 (by decide) (by decide) rfl (by decide)
theorem gT4_1 (h : okB n) : hp_g (hs n σ) 4 2 1 = some (.ref 6) := cT_r h 4 1 6 (by decide) (by decide) rfl (by decide)
theorem gT4_2 (h : okB n) : hp_g (hs n σ) 4 2 2 = some (.ref 7) := cT_r h 4 2 7 (by decide) (by decide) rfl (by decide)
theorem gT4_3 (h : okB n) : hp_g (hs n σ) 4 2 3 = some (.ref 8) := cT_r h 4 3 8 (by decide) (by decide) rfl (by decide)
theorem gT4_4 (h : okB n) : hp_g (hs n σ) 4 2 4 = some (.ref 9) := cT_r h 4 4 9 (by decide) (by decide) rfl (by decide)
theorem gT4_5 (h : okB n) : hp_g (hs n σ) 4 2 5 = some (.int (σ 4 5)) := cT_g h 4 5 (by decide) (by decide) rfl (by decide)
theorem pT4_5 (h : okB n) (x : Int32) : hp_p (hs n σ) 4 2 5 (.int x) = some (hs n (up σ 4 5 x)) := cT_p h 4 5 x (by decide) (by decide) rfl (by decide)
theorem gT4_6 (h : okB n) : hp_g (hs n σ) 4 2 6 = some (.int (σ 4 6)) := cT_g h 4 6 (by decide) (by decide) rfl (by decide)
theorem pT4_6 (h : okB n) (x : Int32) : hp_p (hs n σ) 4 2 6 (.int x) = some (hs n (up σ 4 6 x)) := cT_p h 4 6 x (by decide) (by decide) rfl (by decide)
theorem kT5 (h : okB n) : hp_k (hs n σ) 5 = some 50 := cT_k h 5 (by decide)
theorem iT5 {i : Nat} (h : okB n) (hi : i < 24) : hp_i (hs n σ) 5 50 (nI i) = some (.int (σ 5 i)) := cT_i h 5 i (by decide) hi (rT_n rfl) (by decide)
theorem wT5 {i : Nat} (h : okB n) (hi : i < 24) (x : Int32) : hp_w (hs n σ) 5 50 (nI i) (.int x) = some (hs n (up σ 5 i x)) := cT_w h 5 i x (by decide) hi (rT_n rfl) (by decide)
theorem kT6 (h : okB n) : hp_k (hs n σ) 6 = some 50 := cT_k h 6 (by decide)
theorem iT6 {i : Nat} (h : okB n) (hi : i < 24) : hp_i (hs n σ) 6 50 (nI i) = some (.int (σ 6 i)) := cT_i h 6 i (by decide) hi (rT_n rfl) (by decide)
theorem wT6 {i : Nat} (h : okB n) (hi : i < 24) (x : Int32) : hp_w (hs n σ) 6 50 (nI i) (.int x) = some (hs n (up σ 6 i x)) := cT_w h 6 i x (by decide) hi (rT_n rfl) (by decide)
theorem kT7 (h : okB n) : hp_k (hs n σ) 7 = some 50 := cT_k h 7 (by decide)
theorem iT7 {i : Nat} (h : okB n) (hi : i < 6) : hp_i (hs n σ) 7 50 (nI i) = some (.int (σ 7 i)) := cT_i h 7 i (by decide) hi (rT_n rfl) (by decide)
theorem wT7 {i : Nat} (h : okB n) (hi : i < 6) (x : Int32) : hp_w (hs n σ) 7 50 (nI i) (.int x) = some (hs n (up σ 7 i x)) := cT_w h 7 i x (by decide) hi (rT_n rfl) (by decide)
theorem kT8 (h : okB n) : hp_k (hs n σ) 8 = some 50 := cT_k h 8 (by decide)
theorem iT8 {i : Nat} (h : okB n) (hi : i < 6) : hp_i (hs n σ) 8 50 (nI i) = some (.int (σ 8 i)) := cT_i h 8 i (by decide) hi (rT_n rfl) (by decide)
theorem wT8 {i : Nat} (h : okB n) (hi : i < 6) (x : Int32) : hp_w (hs n σ) 8 50 (nI i) (.int x) = some (hs n (up σ 8 i x)) := cT_w h 8 i x (by decide) hi (rT_n rfl) (by decide)
theorem kT9 (h : okB n) : hp_k (hs n σ) 9 = some 50 := cT_k h 9 (by decide)
theorem iT9 {i : Nat} (h : okB n) (hi : i < 6) : hp_i (hs n σ) 9 50 (nI i) = some (.int (σ 9 i)) := cT_i h 9 i (by decide) hi (rT_n rfl) (by decide)
theorem wT9 {i : Nat} (h : okB n) (hi : i < 6) (x : Int32) : hp_w (hs n σ) 9 50 (nI i) (.int x) = some (hs n (up σ 9 i x)) := cT_w h 9 i x (by decide) hi (rT_n rfl) (by decide)
theorem kT10 (h : okB n) : hp_k (hs n σ) 10 = some 1 := cT_k h 10 (by decide)
theorem gT10_0 (h : okB n) : hp_g (hs n σ) 10 1 0 = some (.ref 11) := cT_r h 10 0 11 (by decide) (by decide) rfl (by decide)
theorem gT10_1 (h : okB n) : hp_g (hs n σ) 10 1 1 = some (.int (σ 10 1)) := cT_g h 10 1 (by decide) (by decide) rfl (by decide)
theorem pT10_1 (h : okB n) (x : Int32) : hp_p (hs n σ) 10 1 1 (.int x) = some (hs n (up σ 10 1 x)) := cT_p h 10 1 x (by decide) (by decide) rfl (by decide)
theorem kT11 (h : okB n) : hp_k (hs n σ) 11 = some 52 := cT_k h 11 (by decide)
theorem iT11 {i : Nat} (h : okB n) (hi : i < 3) : hp_i (hs n σ) 11 52 (nI i) = some (.ref (12 + 2 * i)) := by
  rcases (show i = 0 ∨ i = 1 ∨ i = 2 by omega) with rfl | rfl | rfl
  · exact cT_q h 11 0 12 (by decide) (by decide) rfl (by decide)
  · exact cT_q h 11 1 14 (by decide) (by decide) rfl (by decide)
  · exact cT_q h 11 2 16 (by decide) (by decide) rfl (by decide)
theorem kT12 (h : okB n) : hp_k (hs n σ) 12 = some 0 := cT_k h 12 (by decide)
theorem gT12_0 (h : okB n) : hp_g (hs n σ) 12 0 0 = some (.int (σ 12 0)) := cT_g h 12 0 (by decide) (by decide) rfl (by decide)
theorem pT12_0 (h : okB n) (x : Int32) : hp_p (hs n σ) 12 0 0 (.int x) = some (hs n (up σ 12 0 x)) := cT_p h 12 0 x (by decide) (by decide) rfl (by decide)
theorem gT12_1 (h : okB n) : hp_g (hs n σ) 12 0 1 = some (.int (σ 12 1)) := cT_g h 12 1 (by decide) (by decide) rfl (by decide)
theorem pT12_1 (h : okB n) (x : Int32) : hp_p (hs n σ) 12 0 1 (.int x) = some (hs n (up σ 12 1 x)) := cT_p h 12 1 x (by decide) (by decide) rfl (by decide)
theorem gT12_2 (h : okB n) : hp_g (hs n σ) 12 0 2 = some (.int (σ 12 2)) := cT_g h 12 2 (by decide) (by decide) rfl (by decide)
theorem pT12_2 (h : okB n) (x : Int32) : hp_p (hs n σ) 12 0 2 (.int x) = some (hs n (up σ 12 2 x)) := cT_p h 12 2 x (by decide) (by decide) rfl (by decide)
theorem gT12_3 (h : okB n) : hp_g (hs n σ) 12 0 3 = some (.int (σ 12 3)) := cT_g h 12 3 (by decide) (by decide) rfl (by decide)
theorem pT12_3 (h : okB n) (x : Int32) : hp_p (hs n σ) 12 0 3 (.int x) = some (hs n (up σ 12 3 x)) := cT_p h 12 3 x (by decide) (by decide) rfl (by decide)
theorem gT12_4 (h : okB n) : hp_g (hs n σ) 12 0 4 = some (.int (σ 12 4)) := cT_g h 12 4 (by decide) (by decide) rfl (by decide)
theorem pT12_4 (h : okB n) (x : Int32) : hp_p (hs n σ) 12 0 4 (.int x) = some (hs n (up σ 12 4 x)) := cT_p h 12 4 x (by decide) (by decide) rfl (by decide)
theorem gT12_5 (h : okB n) : hp_g (hs n σ) 12 0 5 = some (.ref 13) := cT_r h 12 5 13 (by decide) (by decide) rfl (by decide)
theorem kT13 (h : okB n) : hp_k (hs n σ) 13 = some 50 := cT_k h 13 (by decide)
theorem iT13 {i : Nat} (h : okB n) (hi : i < 8) : hp_i (hs n σ) 13 50 (nI i) = some (.int (σ 13 i)) := cT_i h 13 i (by decide) hi (rT_n rfl) (by decide)
theorem wT13 {i : Nat} (h : okB n) (hi : i < 8) (x : Int32) : hp_w (hs n σ) 13 50 (nI i) (.int x) = some (hs n (up σ 13 i x)) := cT_w h 13 i x (by decide) hi (rT_n rfl) (by decide)
theorem kT14 (h : okB n) : hp_k (hs n σ) 14 = some 0 := cT_k h 14 (by decide)
theorem gT14_0 (h : okB n) : hp_g (hs n σ) 14 0 0 = some (.int (σ 14 0)) := cT_g h 14 0 (by decide) (by decide) rfl (by decide)
theorem pT14_0 (h : okB n) (x : Int32) : hp_p (hs n σ) 14 0 0 (.int x) = some (hs n (up σ 14 0 x)) := cT_p h 14 0 x (by decide) (by decide) rfl (by decide)
theorem gT14_1 (h : okB n) : hp_g (hs n σ) 14 0 1 = some (.int (σ 14 1)) := cT_g h 14 1 (by decide) (by decide) rfl (by decide)
theorem pT14_1 (h : okB n) (x : Int32) : hp_p (hs n σ) 14 0 1 (.int x) = some (hs n (up σ 14 1 x)) := cT_p h 14 1 x (by decide) (by decide) rfl (by decide)
theorem gT14_2 (h : okB n) : hp_g (hs n σ) 14 0 2 = some (.int (σ 14 2)) := cT_g h 14 2 (by decide) (by decide) rfl (by decide)
theorem pT14_2 (h : okB n) (x : Int32) : hp_p (hs n σ) 14 0 2 (.int x) = some (hs n (up σ 14 2 x)) := cT_p h 14 2 x (by decide) (by decide) rfl (by decide)
theorem gT14_3 (h : okB n) : hp_g (hs n σ) 14 0 3 = some (.int (σ 14 3)) := cT_g h 14 3 (by decide) (by decide) rfl (by decide)
theorem pT14_3 (h : okB n) (x : Int32) : hp_p (hs n σ) 14 0 3 (.int x) = some (hs n (up σ 14 3 x)) := cT_p h 14 3 x (by decide) (by decide) rfl (by decide)
theorem gT14_4 (h : okB n) : hp_g (hs n σ) 14 0 4 = some (.int (σ 14 4)) := cT_g h 14 4 (by decide) (by decide) rfl (by decide)
theorem pT14_4 (h : okB n) (x : Int32) : hp_p (hs n σ) 14 0 4 (.int x) = some (hs n (up σ 14 4 x)) := cT_p h 14 4 x (by decide) (by decide) rfl (by decide)
theorem gT14_5 (h : okB n) : hp_g (hs n σ) 14 0 5 = some (.ref 15) := cT_r h 14 5 15 (by decide) (by decide) rfl (by decide)
theorem kT15 (h : okB n) : hp_k (hs n σ) 15 = some 50 := cT_k h 15 (by decide)
theorem iT15 {i : Nat} (h : okB n) (hi : i < 8) : hp_i (hs n σ) 15 50 (nI i) = some (.int (σ 15 i)) := cT_i h 15 i (by decide) hi (rT_n rfl) (by decide)
theorem wT15 {i : Nat} (h : okB n) (hi : i < 8) (x : Int32) : hp_w (hs n σ) 15 50 (nI i) (.int x) = some (hs n (up σ 15 i x)) := cT_w h 15 i x (by decide) hi (rT_n rfl) (by decide)
theorem kT16 (h : okB n) : hp_k (hs n σ) 16 = some 0 := cT_k h 16 (by decide)
theorem gT16_0 (h : okB n) : hp_g (hs n σ) 16 0 0 = some (.int (σ 16 0)) := cT_g h 16 0 (by decide) (by decide) rfl (by decide)
theorem pT16_0 (h : okB n) (x : Int32) : hp_p (hs n σ) 16 0 0 (.int x) = some (hs n (up σ 16 0 x)) := cT_p h 16 0 x (by decide) (by decide) rfl (by decide)
theorem gT16_1 (h : okB n) : hp_g (hs n σ) 16 0 1 = some (.int (σ 16 1)) := cT_g h 16 1 (by decide) (by decide) rfl (by decide)
theorem pT16_1 (h : okB n) (x : Int32) : hp_p (hs n σ) 16 0 1 (.int x) = some (hs n (up σ 16 1 x)) := cT_p h 16 1 x (by decide) (by decide) rfl (by decide)
theorem gT16_2 (h : okB n) : hp_g (hs n σ) 16 0 2 = some (.int (σ 16 2)) := cT_g h 16 2 (by decide) (by decide) rfl (by decide)
theorem pT16_2 (h : okB n) (x : Int32) : hp_p (hs n σ) 16 0 2 (.int x) = some (hs n (up σ 16 2 x)) := cT_p h 16 2 x (by decide) (by decide) rfl (by decide)
theorem gT16_3 (h : okB n) : hp_g (hs n σ) 16 0 3 = some (.int (σ 16 3)) := cT_g h 16 3 (by decide) (by decide) rfl (by decide)
theorem pT16_3 (h : okB n) (x : Int32) : hp_p (hs n σ) 16 0 3 (.int x) = some (hs n (up σ 16 3 x)) := cT_p h 16 3 x (by decide) (by decide) rfl (by decide)
theorem gT16_4 (h : okB n) : hp_g (hs n σ) 16 0 4 = some (.int (σ 16 4)) := cT_g h 16 4 (by decide) (by decide) rfl (by decide)
theorem pT16_4 (h : okB n) (x : Int32) : hp_p (hs n σ) 16 0 4 (.int x) = some (hs n (up σ 16 4 x)) := cT_p h 16 4 x (by decide) (by decide) rfl (by decide)
theorem gT16_5 (h : okB n) : hp_g (hs n σ) 16 0 5 = some (.ref 17) := cT_r h 16 5 17 (by decide) (by decide) rfl (by decide)
theorem kT17 (h : okB n) : hp_k (hs n σ) 17 = some 50 := cT_k h 17 (by decide)
theorem iT17 {i : Nat} (h : okB n) (hi : i < 8) : hp_i (hs n σ) 17 50 (nI i) = some (.int (σ 17 i)) := cT_i h 17 i (by decide) hi (rT_n rfl) (by decide)
theorem wT17 {i : Nat} (h : okB n) (hi : i < 8) (x : Int32) : hp_w (hs n σ) 17 50 (nI i) (.int x) = some (hs n (up σ 17 i x)) := cT_w h 17 i x (by decide) hi (rT_n rfl) (by decide)
theorem kT18 (h : okB n) : hp_k (hs n σ) 18 = some 1 := cT_k h 18 (by decide)
theorem gT18_0 (h : okB n) : hp_g (hs n σ) 18 1 0 = some (.ref 19) := cT_r h 18 0 19 (by decide) (by decide) rfl (by decide)
theorem gT18_1 (h : okB n) : hp_g (hs n σ) 18 1 1 = some (.int (σ 18 1)) := cT_g h 18 1 (by decide) (by decide) rfl (by decide)
theorem pT18_1 (h : okB n) (x : Int32) : hp_p (hs n σ) 18 1 1 (.int x) = some (hs n (up σ 18 1 x)) := cT_p h 18 1 x (by decide) (by decide) rfl (by decide)
theorem kT19 (h : okB n) : hp_k (hs n σ) 19 = some 52 := cT_k h 19 (by decide)
theorem iT19 {i : Nat} (h : okB n) (hi : i < 3) : hp_i (hs n σ) 19 52 (nI i) = some (.ref (20 + 2 * i)) := by
  rcases (show i = 0 ∨ i = 1 ∨ i = 2 by omega) with rfl | rfl | rfl
  · exact cT_q h 19 0 20 (by decide) (by decide) rfl (by decide)
  · exact cT_q h 19 1 22 (by decide) (by decide) rfl (by decide)
  · exact cT_q h 19 2 24 (by decide) (by decide) rfl (by decide)
theorem kT20 (h : okB n) : hp_k (hs n σ) 20 = some 0 := cT_k h 20 (by decide)
theorem gT20_0 (h : okB n) : hp_g (hs n σ) 20 0 0 = some (.int (σ 20 0)) := cT_g h 20 0 (by decide) (by decide) rfl (by decide)
theorem pT20_0 (h : okB n) (x : Int32) : hp_p (hs n σ) 20 0 0 (.int x) = some (hs n (up σ 20 0 x)) := cT_p h 20 0 x (by decide) (by decide) rfl (by decide)
theorem gT20_1 (h : okB n) : hp_g (hs n σ) 20 0 1 = some (.int (σ 20 1)) := cT_g h 20 1 (by decide) (by decide) rfl (by decide)
theorem pT20_1 (h : okB n) (x : Int32) : hp_p (hs n σ) 20 0 1 (.int x) = some (hs n (up σ 20 1 x)) := cT_p h 20 1 x (by decide) (by decide) rfl (by decide)
theorem gT20_2 (h : okB n) : hp_g (hs n σ) 20 0 2 = some (.int (σ 20 2)) := cT_g h 20 2 (by decide) (by decide) rfl (by decide)
theorem pT20_2 (h : okB n) (x : Int32) : hp_p (hs n σ) 20 0 2 (.int x) = some (hs n (up σ 20 2 x)) := cT_p h 20 2 x (by decide) (by decide) rfl (by decide)
theorem gT20_3 (h : okB n) : hp_g (hs n σ) 20 0 3 = some (.int (σ 20 3)) := cT_g h 20 3 (by decide) (by decide) rfl (by decide)
theorem pT20_3 (h : okB n) (x : Int32) : hp_p (hs n σ) 20 0 3 (.int x) = some (hs n (up σ 20 3 x)) := cT_p h 20 3 x (by decide) (by decide) rfl (by decide)
theorem gT20_4 (h : okB n) : hp_g (hs n σ) 20 0 4 = some (.int (σ 20 4)) := cT_g h 20 4 (by decide) (by decide) rfl (by decide)
theorem pT20_4 (h : okB n) (x : Int32) : hp_p (hs n σ) 20 0 4 (.int x) = some (hs n (up σ 20 4 x)) := cT_p h 20 4 x (by decide) (by decide) rfl (by decide)
theorem gT20_5 (h : okB n) : hp_g (hs n σ) 20 0 5 = some (.ref 21) := cT_r h 20 5 21 (by decide) (by decide) rfl (by decide)
theorem kT21 (h : okB n) : hp_k (hs n σ) 21 = some 50 := cT_k h 21 (by decide)
theorem iT21 {i : Nat} (h : okB n) (hi : i < 8) : hp_i (hs n σ) 21 50 (nI i) = some (.int (σ 21 i)) := cT_i h 21 i (by decide) hi (rT_n rfl) (by decide)
theorem wT21 {i : Nat} (h : okB n) (hi : i < 8) (x : Int32) : hp_w (hs n σ) 21 50 (nI i) (.int x) = some (hs n (up σ 21 i x)) := cT_w h 21 i x (by decide) hi (rT_n rfl) (by decide)
theorem kT22 (h : okB n) : hp_k (hs n σ) 22 = some 0 := cT_k h 22 (by decide)
theorem gT22_0 (h : okB n) : hp_g (hs n σ) 22 0 0 = some (.int (σ 22 0)) := cT_g h 22 0 (by decide) (by decide) rfl (by decide)
theorem pT22_0 (h : okB n) (x : Int32) : hp_p (hs n σ) 22 0 0 (.int x) = some (hs n (up σ 22 0 x)) := cT_p h 22 0 x (by decide) (by decide) rfl (by decide)
theorem gT22_1 (h : okB n) : hp_g (hs n σ) 22 0 1 = some (.int (σ 22 1)) := cT_g h 22 1 (by decide) (by decide) rfl (by decide)
theorem pT22_1 (h : okB n) (x : Int32) : hp_p (hs n σ) 22 0 1 (.int x) = some (hs n (up σ 22 1 x)) := cT_p h 22 1 x (by decide) (by decide) rfl (by decide)
theorem gT22_2 (h : okB n) : hp_g (hs n σ) 22 0 2 = some (.int (σ 22 2)) := cT_g h 22 2 (by decide) (by decide) rfl (by decide)
theorem pT22_2 (h : okB n) (x : Int32) : hp_p (hs n σ) 22 0 2 (.int x) = some (hs n (up σ 22 2 x)) := cT_p h 22 2 x (by decide) (by decide) rfl (by decide)
theorem gT22_3 (h : okB n) : hp_g (hs n σ) 22 0 3 = some (.int (σ 22 3)) := cT_g h 22 3 (by decide) (by decide) rfl (by decide)
theorem pT22_3 (h : okB n) (x : Int32) : hp_p (hs n σ) 22 0 3 (.int x) = some (hs n (up σ 22 3 x)) := cT_p h 22 3 x (by decide) (by decide) rfl (by decide)
theorem gT22_4 (h : okB n) : hp_g (hs n σ) 22 0 4 = some (.int (σ 22 4)) := cT_g h 22 4 (by decide) (by decide) rfl (by decide)
theorem pT22_4 (h : okB n) (x : Int32) : hp_p (hs n σ) 22 0 4 (.int x) = some (hs n (up σ 22 4 x)) := cT_p h 22 4 x (by decide) (by decide) rfl (by decide)
theorem gT22_5 (h : okB n) : hp_g (hs n σ) 22 0 5 = some (.ref 23) := cT_r h 22 5 23 (by decide) (by decide) rfl (by decide)
theorem kT23 (h : okB n) : hp_k (hs n σ) 23 = some 50 := cT_k h 23 (by decide)
theorem iT23 {i : Nat} (h : okB n) (hi : i < 8) : hp_i (hs n σ) 23 50 (nI i) = some (.int (σ 23 i)) := cT_i h 23 i (by decide) hi (rT_n rfl) (by decide)
theorem wT23 {i : Nat} (h : okB n) (hi : i < 8) (x : Int32) : hp_w (hs n σ) 23 50 (nI i) (.int x) = some (hs n (up σ 23 i x)) := cT_w h 23 i x (by decide) hi (rT_n rfl) (by decide)
theorem kT24 (h : okB n) : hp_k (hs n σ) 24 = some 0 := cT_k h 24 (by decide)
theorem gT24_0 (h : okB n) : hp_g (hs n σ) 24 0 0 = some (.int (σ 24 0)) := cT_g h 24 0 (by decide) (by decide) rfl (by decide)
theorem pT24_0 (h : okB n) (x : Int32) : hp_p (hs n σ) 24 0 0 (.int x) = some (hs n (up σ 24 0 x)) := cT_p h 24 0 x (by decide) (by decide) rfl (by decide)
theorem gT24_1 (h : okB n) : hp_g (hs n σ) 24 0 1 = some (.int (σ 24 1)) := cT_g h 24 1 (by decide) (by decide) rfl (by decide)
theorem pT24_1 (h : okB n) (x : Int32) : hp_p (hs n σ) 24 0 1 (.int x) = some (hs n (up σ 24 1 x)) := cT_p h 24 1 x (by decide) (by decide) rfl (by decide)
theorem gT24_2 (h : okB n) : hp_g (hs n σ) 24 0 2 = some (.int (σ 24 2)) := cT_g h 24 2 (by decide) (by decide) rfl (by decide)
theorem pT24_2 (h : okB n) (x : Int32) : hp_p (hs n σ) 24 0 2 (.int x) = some (hs n (up σ 24 2 x)) := cT_p h 24 2 x (by decide) (by decide) rfl (by decide)
theorem gT24_3 (h : okB n) : hp_g (hs n σ) 24 0 3 = some (.int (σ 24 3)) := cT_g h 24 3 (by decide) (by decide) rfl (by decide)
theorem pT24_3 (h : okB n) (x : Int32) : hp_p (hs n σ) 24 0 3 (.int x) = some (hs n (up σ 24 3 x)) := cT_p h 24 3 x (by decide) (by decide) rfl (by decide)
theorem gT24_4 (h : okB n) : hp_g (hs n σ) 24 0 4 = some (.int (σ 24 4)) := cT_g h 24 4 (by decide) (by decide) rfl (by decide)
theorem pT24_4 (h : okB n) (x : Int32) : hp_p (hs n σ) 24 0 4 (.int x) = some (hs n (up σ 24 4 x)) := cT_p h 24 4 x (by decide) (by decide) rfl (by decide)
theorem gT24_5 (h : okB n) : hp_g (hs n σ) 24 0 5 = some (.ref 25) := cT_r h 24 5 25 (by decide) (by decide) rfl (by decide)
theorem kT25 (h : okB n) : hp_k (hs n σ) 25 = some 50 := cT_k h 25 (by decide)
theorem iT25 {i : Nat} (h : okB n) (hi : i < 8) : hp_i (hs n σ) 25 50 (nI i) = some (.int (σ 25 i)) := cT_i h 25 i (by decide) hi (rT_n rfl) (by decide)
theorem wT25 {i : Nat} (h : okB n) (hi : i < 8) (x : Int32) : hp_w (hs n σ) 25 50 (nI i) (.int x) = some (hs n (up σ 25 i x)) := cT_w h 25 i x (by decide) hi (rT_n rfl) (by decide)
theorem kT26 (h : okB n) : hp_k (hs n σ) 26 = some 8 := cT_k h 26 (by decide)
theorem gT26_0 (h : okB n) : hp_g (hs n σ) 26 8 0 = some (.int (σ 26 0)) := cT_g h 26 0 (by decide) (by decide) rfl (by decide)
theorem pT26_0 (h : okB n) (x : Int32) : hp_p (hs n σ) 26 8 0 (.int x) = some (hs n (up σ 26 0 x)) := cT_p h 26 0 x (by decide) (by decide) rfl (by decide)
theorem gT26_1 (h : okB n) : hp_g (hs n σ) 26 8 1 = some (.ref 27) := cT_r h 26 1 27 (by decide) (by decide) rfl (by decide)
theorem gT26_2 (h : okB n) : hp_g (hs n σ) 26 8 2 = some (.ref 28) := cT_r h 26 2 28 (by decide) (by decide) rfl (by decide)
theorem gT26_3 (h : okB n) : hp_g (hs n σ) 26 8 3 = some (.ref 29) := cT_r h 26 3 29 (by decide) (by decide) rfl (by decide)
theorem gT26_4 (h : okB n) : hp_g (hs n σ) 26 8 4 = some (.ref 30) := cT_r h 26 4 30 (by decide) (by decide) rfl (by decide)
theorem gT26_5 (h : okB n) : hp_g (hs n σ) 26 8 5 = some (.ref 31) := cT_r h 26 5 31 (by decide) (by decide) rfl (by decide)
theorem gT26_6 (h : okB n) : hp_g (hs n σ) 26 8 6 = some (.ref 32) := cT_r h 26 6 32 (by decide) (by decide) rfl (by decide)
theorem gT26_7 (h : okB n) : hp_g (hs n σ) 26 8 7 = some (.ref 33) := cT_r h 26 7 33 (by decide) (by decide) rfl (by decide)
theorem gT26_8 (h : okB n) : hp_g (hs n σ) 26 8 8 = some (.ref 34) := cT_r h 26 8 34 (by decide) (by decide) rfl (by decide)
theorem gT26_9 (h : okB n) : hp_g (hs n σ) 26 8 9 = some (.ref 35) := cT_r h 26 9 35 (by decide) (by decide) rfl (by decide)
theorem gT26_10 (h : okB n) : hp_g (hs n σ) 26 8 10 = some (.ref 36) := cT_r h 26 10 36 (by decide) (by decide) rfl (by decide)
theorem gT26_11 (h : okB n) : hp_g (hs n σ) 26 8 11 = some (.ref 37) := cT_r h 26 11 37 (by decide) (by decide) rfl (by decide)
theorem gT26_12 (h : okB n) : hp_g (hs n σ) 26 8 12 = some (.ref 38) := cT_r h 26 12 38 (by decide) (by decide) rfl (by decide)
theorem gT26_13 (h : okB n) : hp_g (hs n σ) 26 8 13 = some (.ref 39) := cT_r h 26 13 39 (by decide) (by decide) rfl (by decide)
theorem gT26_14 (h : okB n) : hp_g (hs n σ) 26 8 14 = some (.ref 40) := cT_r h 26 14 40 (by decide) (by decide) rfl (by decide)
theorem gT26_15 (h : okB n) : hp_g (hs n σ) 26 8 15 = some (.ref 41) := cT_r h 26 15 41 (by decide) (by decide) rfl (by decide)
theorem gT26_16 (h : okB n) : hp_g (hs n σ) 26 8 16 = some (.ref 42) := cT_r h 26 16 42 (by decide) (by decide) rfl (by decide)
theorem gT26_17 (h : okB n) : hp_g (hs n σ) 26 8 17 = some (.ref 43) := cT_r h 26 17 43 (by decide) (by decide) rfl (by decide)
theorem gT26_18 (h : okB n) : hp_g (hs n σ) 26 8 18 = some (.int (σ 26 18)) := cT_g h 26 18 (by decide) (by decide) rfl (by decide)
theorem pT26_18 (h : okB n) (x : Int32) : hp_p (hs n σ) 26 8 18 (.int x) = some (hs n (up σ 26 18 x)) := cT_p h 26 18 x (by decide) (by decide) rfl (by decide)
theorem gT26_19 (h : okB n) : hp_g (hs n σ) 26 8 19 = some (.int (σ 26 19)) := cT_g h 26 19 (by decide) (by decide) rfl (by decide)
theorem pT26_19 (h : okB n) (x : Int32) : hp_p (hs n σ) 26 8 19 (.int x) = some (hs n (up σ 26 19 x)) := cT_p h 26 19 x (by decide) (by decide) rfl (by decide)
theorem gT26_20 (h : okB n) : hp_g (hs n σ) 26 8 20 = some (.int (σ 26 20)) := cT_g h 26 20 (by decide) (by decide) rfl (by decide)
theorem pT26_20 (h : okB n) (x : Int32) : hp_p (hs n σ) 26 8 20 (.int x) = some (hs n (up σ 26 20 x)) := cT_p h 26 20 x (by decide) (by decide) rfl (by decide)
theorem gT26_21 (h : okB n) : hp_g (hs n σ) 26 8 21 = some (.int (σ 26 21)) := cT_g h 26 21 (by decide) (by decide) rfl (by decide)
theorem pT26_21 (h : okB n) (x : Int32) : hp_p (hs n σ) 26 8 21 (.int x) = some (hs n (up σ 26 21 x)) := cT_p h 26 21 x (by decide) (by decide) rfl (by decide)
theorem gT26_22 (h : okB n) : hp_g (hs n σ) 26 8 22 = some (.ref 44) := cT_r h 26 22 44 (by decide) (by decide) rfl (by decide)
theorem gT26_23 (h : okB n) : hp_g (hs n σ) 26 8 23 = some (.ref 45) := cT_r h 26 23 45 (by decide) (by decide) rfl (by decide)
theorem gT26_24 (h : okB n) : hp_g (hs n σ) 26 8 24 = some (.ref 46) := cT_r h 26 24 46 (by decide) (by decide) rfl (by decide)
theorem gT26_25 (h : okB n) : hp_g (hs n σ) 26 8 25 = some (.ref 47) := cT_r h 26 25 47 (by decide) (by decide) rfl (by decide)
theorem gT26_26 (h : okB n) : hp_g (hs n σ) 26 8 26 = some (.ref 48) := cT_r h 26 26 48 (by decide) (by decide) rfl (by decide)
theorem gT26_27 (h : okB n) : hp_g (hs n σ) 26 8 27 = some (.ref 49) := cT_r h 26 27 49 (by decide) (by decide) rfl (by decide)
theorem gT26_28 (h : okB n) : hp_g (hs n σ) 26 8 28 = some (.ref 50) := cT_r h 26 28 50 (by decide) (by decide) rfl (by decide)
theorem gT26_29 (h : okB n) : hp_g (hs n σ) 26 8 29 = some (.ref 51) := cT_r h 26 29 51 (by decide) (by decide) rfl (by decide)
theorem gT26_30 (h : okB n) : hp_g (hs n σ) 26 8 30 = some (.int (σ 26 30)) := cT_g h 26 30 (by decide) (by decide) rfl (by decide)
theorem pT26_30 (h : okB n) (x : Int32) : hp_p (hs n σ) 26 8 30 (.int x) = some (hs n (up σ 26 30 x)) := cT_p h 26 30 x (by decide) (by decide) rfl (by decide)
theorem gT26_31 (h : okB n) : hp_g (hs n σ) 26 8 31 = some (.int (σ 26 31)) := cT_g h 26 31 (by decide) (by decide) rfl (by decide)
theorem pT26_31 (h : okB n) (x : Int32) : hp_p (hs n σ) 26 8 31 (.int x) = some (hs n (up σ 26 31 x)) := cT_p h 26 31 x (by decide) (by decide) rfl (by decide)
theorem gT26_32 (h : okB n) : hp_g (hs n σ) 26 8 32 = some (.int (σ 26 32)) := cT_g h 26 32 (by decide) (by decide) rfl (by decide)
theorem pT26_32 (h : okB n) (x : Int32) : hp_p (hs n σ) 26 8 32 (.int x) = some (hs n (up σ 26 32 x)) := cT_p h 26 32 x (by decide) (by decide) rfl (by decide)
theorem gT26_33 (h : okB n) : hp_g (hs n σ) 26 8 33 = some (.int (σ 26 33)) := cT_g h 26 33 (by decide) (by decide) rfl (by decide)
theorem pT26_33 (h : okB n) (x : Int32) : hp_p (hs n σ) 26 8 33 (.int x) = some (hs n (up σ 26 33 x)) := cT_p h 26 33 x (by decide) (by decide) rfl (by decide)
theorem gT26_34 (h : okB n) : hp_g (hs n σ) 26 8 34 = some (.int (σ 26 34)) := cT_g h 26 34 (by decide) (by decide) rfl (by decide)
theorem pT26_34 (h : okB n) (x : Int32) : hp_p (hs n σ) 26 8 34 (.int x) = some (hs n (up σ 26 34 x)) := cT_p h 26 34 x (by decide) (by decide) rfl (by decide)
theorem gT26_35 (h : okB n) : hp_g (hs n σ) 26 8 35 = some (.ref 52) := cT_r h 26 35 52 (by decide) (by decide) rfl (by decide)
theorem gT26_36 (h : okB n) : hp_g (hs n σ) 26 8 36 = some (.ref 53) := cT_r h 26 36 53 (by decide) (by decide) rfl (by decide)
theorem gT26_37 (h : okB n) : hp_g (hs n σ) 26 8 37 = some (.ref 54) := cT_r h 26 37 54 (by decide) (by decide) rfl (by decide)
theorem gT26_38 (h : okB n) : hp_g (hs n σ) 26 8 38 = some (.ref 55) := cT_r h 26 38 55 (by decide) (by decide) rfl (by decide)
theorem gT26_39 (h : okB n) : hp_g (hs n σ) 26 8 39 = some (.ref 56) := cT_r h 26 39 56 (by decide) (by decide) rfl (by decide)
theorem gT26_40 (h : okB n) : hp_g (hs n σ) 26 8 40 = some (.ref 57) := cT_r h 26 40 57 (by decide) (by decide) rfl (by decide)
theorem kT27 (h : okB n) : hp_k (hs n σ) 27 = some 50 := cT_k h 27 (by decide)
theorem iT27 {i : Nat} (h : okB n) (hi : i < 6) : hp_i (hs n σ) 27 50 (nI i) = some (.int (σ 27 i)) := cT_i h 27 i (by decide) hi (rT_n rfl) (by decide)
theorem wT27 {i : Nat} (h : okB n) (hi : i < 6) (x : Int32) : hp_w (hs n σ) 27 50 (nI i) (.int x) = some (hs n (up σ 27 i x)) := cT_w h 27 i x (by decide) hi (rT_n rfl) (by decide)
theorem kT28 (h : okB n) : hp_k (hs n σ) 28 = some 50 := cT_k h 28 (by decide)
theorem iT28 {i : Nat} (h : okB n) (hi : i < 6) : hp_i (hs n σ) 28 50 (nI i) = some (.int (σ 28 i)) := cT_i h 28 i (by decide) hi (rT_n rfl) (by decide)
theorem wT28 {i : Nat} (h : okB n) (hi : i < 6) (x : Int32) : hp_w (hs n σ) 28 50 (nI i) (.int x) = some (hs n (up σ 28 i x)) := cT_w h 28 i x (by decide) hi (rT_n rfl) (by decide)
theorem kT29 (h : okB n) : hp_k (hs n σ) 29 = some 51 := cT_k h 29 (by decide)
theorem iT29 {i : Nat} (h : okB n) (hi : i < 6) : hp_i (hs n σ) 29 51 (nI i) = some (.int (σ 29 i)) := cT_i h 29 i (by decide) hi (rT_n rfl) (by decide)
theorem wT29 {i : Nat} (h : okB n) (hi : i < 6) (x : Int32) : hp_w (hs n σ) 29 51 (nI i) (.int x) = some (hs n (up σ 29 i x)) := cT_w h 29 i x (by decide) hi (rT_n rfl) (by decide)
theorem kT30 (h : okB n) : hp_k (hs n σ) 30 = some 50 := cT_k h 30 (by decide)
theorem iT30 {i : Nat} (h : okB n) (hi : i < 768) : hp_i (hs n σ) 30 50 (nI i) = some (.int (σ 30 i)) := cT_i h 30 i (by decide) hi (rT_n rfl) (by decide)
theorem wT30 {i : Nat} (h : okB n) (hi : i < 768) (x : Int32) : hp_w (hs n σ) 30 50 (nI i) (.int x) = some (hs n (up σ 30 i x)) := cT_w h 30 i x (by decide) hi (rT_n rfl) (by decide)
theorem kT31 (h : okB n) : hp_k (hs n σ) 31 = some 50 := cT_k h 31 (by decide)
theorem iT31 {i : Nat} (h : okB n) (hi : i < 192) : hp_i (hs n σ) 31 50 (nI i) = some (.int (σ 31 i)) := cT_i h 31 i (by decide) hi (rT_n rfl) (by decide)
theorem wT31 {i : Nat} (h : okB n) (hi : i < 192) (x : Int32) : hp_w (hs n σ) 31 50 (nI i) (.int x) = some (hs n (up σ 31 i x)) := cT_w h 31 i x (by decide) hi (rT_n rfl) (by decide)
theorem kT32 (h : okB n) : hp_k (hs n σ) 32 = some 50 := cT_k h 32 (by decide)
theorem iT32 {i : Nat} (h : okB n) (hi : i < 192) : hp_i (hs n σ) 32 50 (nI i) = some (.int (σ 32 i)) := cT_i h 32 i (by decide) hi (rT_n rfl) (by decide)
theorem wT32 {i : Nat} (h : okB n) (hi : i < 192) (x : Int32) : hp_w (hs n σ) 32 50 (nI i) (.int x) = some (hs n (up σ 32 i x)) := cT_w h 32 i x (by decide) hi (rT_n rfl) (by decide)
theorem kT33 (h : okB n) : hp_k (hs n σ) 33 = some 51 := cT_k h 33 (by decide)
theorem iT33 {i : Nat} (h : okB n) (hi : i < 24) : hp_i (hs n σ) 33 51 (nI i) = some (.int (σ 33 i)) := cT_i h 33 i (by decide) hi (rT_n rfl) (by decide)
theorem wT33 {i : Nat} (h : okB n) (hi : i < 24) (x : Int32) : hp_w (hs n σ) 33 51 (nI i) (.int x) = some (hs n (up σ 33 i x)) := cT_w h 33 i x (by decide) hi (rT_n rfl) (by decide)
theorem kT34 (h : okB n) : hp_k (hs n σ) 34 = some 50 := cT_k h 34 (by decide)
theorem iT34 {i : Nat} (h : okB n) (hi : i < 6) : hp_i (hs n σ) 34 50 (nI i) = some (.int (σ 34 i)) := cT_i h 34 i (by decide) hi (rT_n rfl) (by decide)
theorem wT34 {i : Nat} (h : okB n) (hi : i < 6) (x : Int32) : hp_w (hs n σ) 34 50 (nI i) (.int x) = some (hs n (up σ 34 i x)) := cT_w h 34 i x (by decide) hi (rT_n rfl) (by decide)
theorem kT35 (h : okB n) : hp_k (hs n σ) 35 = some 51 := cT_k h 35 (by decide)
theorem iT35 {i : Nat} (h : okB n) (hi : i < 6) : hp_i (hs n σ) 35 51 (nI i) = some (.int (σ 35 i)) := cT_i h 35 i (by decide) hi (rT_n rfl) (by decide)
theorem wT35 {i : Nat} (h : okB n) (hi : i < 6) (x : Int32) : hp_w (hs n σ) 35 51 (nI i) (.int x) = some (hs n (up σ 35 i x)) := cT_w h 35 i x (by decide) hi (rT_n rfl) (by decide)
theorem kT36 (h : okB n) : hp_k (hs n σ) 36 = some 50 := cT_k h 36 (by decide)
theorem iT36 {i : Nat} (h : okB n) (hi : i < 6) : hp_i (hs n σ) 36 50 (nI i) = some (.int (σ 36 i)) := cT_i h 36 i (by decide) hi (rT_n rfl) (by decide)
theorem wT36 {i : Nat} (h : okB n) (hi : i < 6) (x : Int32) : hp_w (hs n σ) 36 50 (nI i) (.int x) = some (hs n (up σ 36 i x)) := cT_w h 36 i x (by decide) hi (rT_n rfl) (by decide)
theorem kT37 (h : okB n) : hp_k (hs n σ) 37 = some 51 := cT_k h 37 (by decide)
theorem iT37 {i : Nat} (h : okB n) (hi : i < 6) : hp_i (hs n σ) 37 51 (nI i) = some (.int (σ 37 i)) := cT_i h 37 i (by decide) hi (rT_n rfl) (by decide)
theorem wT37 {i : Nat} (h : okB n) (hi : i < 6) (x : Int32) : hp_w (hs n σ) 37 51 (nI i) (.int x) = some (hs n (up σ 37 i x)) := cT_w h 37 i x (by decide) hi (rT_n rfl) (by decide)
theorem kT38 (h : okB n) : hp_k (hs n σ) 38 = some 51 := cT_k h 38 (by decide)
theorem iT38 {i : Nat} (h : okB n) (hi : i < 6) : hp_i (hs n σ) 38 51 (nI i) = some (.int (σ 38 i)) := cT_i h 38 i (by decide) hi (rT_n rfl) (by decide)
theorem wT38 {i : Nat} (h : okB n) (hi : i < 6) (x : Int32) : hp_w (hs n σ) 38 51 (nI i) (.int x) = some (hs n (up σ 38 i x)) := cT_w h 38 i x (by decide) hi (rT_n rfl) (by decide)
theorem kT39 (h : okB n) : hp_k (hs n σ) 39 = some 50 := cT_k h 39 (by decide)
theorem iT39 {i : Nat} (h : okB n) (hi : i < 6) : hp_i (hs n σ) 39 50 (nI i) = some (.int (σ 39 i)) := cT_i h 39 i (by decide) hi (rT_n rfl) (by decide)
theorem wT39 {i : Nat} (h : okB n) (hi : i < 6) (x : Int32) : hp_w (hs n σ) 39 50 (nI i) (.int x) = some (hs n (up σ 39 i x)) := cT_w h 39 i x (by decide) hi (rT_n rfl) (by decide)
theorem kT40 (h : okB n) : hp_k (hs n σ) 40 = some 50 := cT_k h 40 (by decide)
theorem iT40 {i : Nat} (h : okB n) (hi : i < 6) : hp_i (hs n σ) 40 50 (nI i) = some (.int (σ 40 i)) := cT_i h 40 i (by decide) hi (rT_n rfl) (by decide)
theorem wT40 {i : Nat} (h : okB n) (hi : i < 6) (x : Int32) : hp_w (hs n σ) 40 50 (nI i) (.int x) = some (hs n (up σ 40 i x)) := cT_w h 40 i x (by decide) hi (rT_n rfl) (by decide)
theorem kT41 (h : okB n) : hp_k (hs n σ) 41 = some 50 := cT_k h 41 (by decide)
theorem iT41 {i : Nat} (h : okB n) (hi : i < 12) : hp_i (hs n σ) 41 50 (nI i) = some (.int (σ 41 i)) := cT_i h 41 i (by decide) hi (rT_n rfl) (by decide)
theorem wT41 {i : Nat} (h : okB n) (hi : i < 12) (x : Int32) : hp_w (hs n σ) 41 50 (nI i) (.int x) = some (hs n (up σ 41 i x)) := cT_w h 41 i x (by decide) hi (rT_n rfl) (by decide)
theorem kT42 (h : okB n) : hp_k (hs n σ) 42 = some 50 := cT_k h 42 (by decide)
theorem iT42 {i : Nat} (h : okB n) (hi : i < 12) : hp_i (hs n σ) 42 50 (nI i) = some (.int (σ 42 i)) := cT_i h 42 i (by decide) hi (rT_n rfl) (by decide)
theorem wT42 {i : Nat} (h : okB n) (hi : i < 12) (x : Int32) : hp_w (hs n σ) 42 50 (nI i) (.int x) = some (hs n (up σ 42 i x)) := cT_w h 42 i x (by decide) hi (rT_n rfl) (by decide)
theorem kT43 (h : okB n) : hp_k (hs n σ) 43 = some 50 := cT_k h 43 (by decide)
theorem iT43 {i : Nat} (h : okB n) (hi : i < 12) : hp_i (hs n σ) 43 50 (nI i) = some (.int (σ 43 i)) := cT_i h 43 i (by decide) hi (rT_n rfl) (by decide)
theorem wT43 {i : Nat} (h : okB n) (hi : i < 12) (x : Int32) : hp_w (hs n σ) 43 50 (nI i) (.int x) = some (hs n (up σ 43 i x)) := cT_w h 43 i x (by decide) hi (rT_n rfl) (by decide)
theorem kT44 (h : okB n) : hp_k (hs n σ) 44 = some 50 := cT_k h 44 (by decide)
theorem iT44 {i : Nat} (h : okB n) (hi : i < 9) : hp_i (hs n σ) 44 50 (nI i) = some (.int (σ 44 i)) := cT_i h 44 i (by decide) hi (rT_n rfl) (by decide)
theorem wT44 {i : Nat} (h : okB n) (hi : i < 9) (x : Int32) : hp_w (hs n σ) 44 50 (nI i) (.int x) = some (hs n (up σ 44 i x)) := cT_w h 44 i x (by decide) hi (rT_n rfl) (by decide)
theorem kT45 (h : okB n) : hp_k (hs n σ) 45 = some 50 := cT_k h 45 (by decide)
theorem iT45 {i : Nat} (h : okB n) (hi : i < 9) : hp_i (hs n σ) 45 50 (nI i) = some (.int (σ 45 i)) := cT_i h 45 i (by decide) hi (rT_n rfl) (by decide)
theorem wT45 {i : Nat} (h : okB n) (hi : i < 9) (x : Int32) : hp_w (hs n σ) 45 50 (nI i) (.int x) = some (hs n (up σ 45 i x)) := cT_w h 45 i x (by decide) hi (rT_n rfl) (by decide)
theorem kT46 (h : okB n) : hp_k (hs n σ) 46 = some 50 := cT_k h 46 (by decide)
theorem iT46 {i : Nat} (h : okB n) (hi : i < 9) : hp_i (hs n σ) 46 50 (nI i) = some (.int (σ 46 i)) := cT_i h 46 i (by decide) hi (rT_n rfl) (by decide)
theorem wT46 {i : Nat} (h : okB n) (hi : i < 9) (x : Int32) : hp_w (hs n σ) 46 50 (nI i) (.int x) = some (hs n (up σ 46 i x)) := cT_w h 46 i x (by decide) hi (rT_n rfl) (by decide)
theorem kT47 (h : okB n) : hp_k (hs n σ) 47 = some 50 := cT_k h 47 (by decide)
theorem iT47 {i : Nat} (h : okB n) (hi : i < 9) : hp_i (hs n σ) 47 50 (nI i) = some (.int (σ 47 i)) := cT_i h 47 i (by decide) hi (rT_n rfl) (by decide)
theorem wT47 {i : Nat} (h : okB n) (hi : i < 9) (x : Int32) : hp_w (hs n σ) 47 50 (nI i) (.int x) = some (hs n (up σ 47 i x)) := cT_w h 47 i x (by decide) hi (rT_n rfl) (by decide)
theorem kT48 (h : okB n) : hp_k (hs n σ) 48 = some 50 := cT_k h 48 (by decide)
theorem iT48 {i : Nat} (h : okB n) (hi : i < 9) : hp_i (hs n σ) 48 50 (nI i) = some (.int (σ 48 i)) := cT_i h 48 i (by decide) hi (rT_n rfl) (by decide)
theorem wT48 {i : Nat} (h : okB n) (hi : i < 9) (x : Int32) : hp_w (hs n σ) 48 50 (nI i) (.int x) = some (hs n (up σ 48 i x)) := cT_w h 48 i x (by decide) hi (rT_n rfl) (by decide)
theorem kT49 (h : okB n) : hp_k (hs n σ) 49 = some 50 := cT_k h 49 (by decide)
theorem iT49 {i : Nat} (h : okB n) (hi : i < 72) : hp_i (hs n σ) 49 50 (nI i) = some (.int (σ 49 i)) := cT_i h 49 i (by decide) hi (rT_n rfl) (by decide)
theorem wT49 {i : Nat} (h : okB n) (hi : i < 72) (x : Int32) : hp_w (hs n σ) 49 50 (nI i) (.int x) = some (hs n (up σ 49 i x)) := cT_w h 49 i x (by decide) hi (rT_n rfl) (by decide)
theorem kT50 (h : okB n) : hp_k (hs n σ) 50 = some 50 := cT_k h 50 (by decide)
theorem iT50 {i : Nat} (h : okB n) (hi : i < 9) : hp_i (hs n σ) 50 50 (nI i) = some (.int (σ 50 i)) := cT_i h 50 i (by decide) hi (rT_n rfl) (by decide)
theorem wT50 {i : Nat} (h : okB n) (hi : i < 9) (x : Int32) : hp_w (hs n σ) 50 50 (nI i) (.int x) = some (hs n (up σ 50 i x)) := cT_w h 50 i x (by decide) hi (rT_n rfl) (by decide)
theorem kT51 (h : okB n) : hp_k (hs n σ) 51 = some 50 := cT_k h 51 (by decide)
theorem iT51 {i : Nat} (h : okB n) (hi : i < 8) : hp_i (hs n σ) 51 50 (nI i) = some (.int (σ 51 i)) := cT_i h 51 i (by decide) hi (rT_n rfl) (by decide)
theorem wT51 {i : Nat} (h : okB n) (hi : i < 8) (x : Int32) : hp_w (hs n σ) 51 50 (nI i) (.int x) = some (hs n (up σ 51 i x)) := cT_w h 51 i x (by decide) hi (rT_n rfl) (by decide)
theorem kT52 (h : okB n) : hp_k (hs n σ) 52 = some 50 := cT_k h 52 (by decide)
theorem iT52 {i : Nat} (h : okB n) (hi : i < 6) : hp_i (hs n σ) 52 50 (nI i) = some (.int (σ 52 i)) := cT_i h 52 i (by decide) hi (rT_n rfl) (by decide)
theorem wT52 {i : Nat} (h : okB n) (hi : i < 6) (x : Int32) : hp_w (hs n σ) 52 50 (nI i) (.int x) = some (hs n (up σ 52 i x)) := cT_w h 52 i x (by decide) hi (rT_n rfl) (by decide)
theorem kT53 (h : okB n) : hp_k (hs n σ) 53 = some 50 := cT_k h 53 (by decide)
theorem iT53 {i : Nat} (h : okB n) (hi : i < 6) : hp_i (hs n σ) 53 50 (nI i) = some (.int (σ 53 i)) := cT_i h 53 i (by decide) hi (rT_n rfl) (by decide)
theorem wT53 {i : Nat} (h : okB n) (hi : i < 6) (x : Int32) : hp_w (hs n σ) 53 50 (nI i) (.int x) = some (hs n (up σ 53 i x)) := cT_w h 53 i x (by decide) hi (rT_n rfl) (by decide)
theorem kT54 (h : okB n) : hp_k (hs n σ) 54 = some 50 := cT_k h 54 (by decide)
theorem iT54 {i : Nat} (h : okB n) (hi : i < 6) : hp_i (hs n σ) 54 50 (nI i) = some (.int (σ 54 i)) := cT_i h 54 i (by decide) hi (rT_n rfl) (by decide)
theorem wT54 {i : Nat} (h : okB n) (hi : i < 6) (x : Int32) : hp_w (hs n σ) 54 50 (nI i) (.int x) = some (hs n (up σ 54 i x)) := cT_w h 54 i x (by decide) hi (rT_n rfl) (by decide)
theorem kT55 (h : okB n) : hp_k (hs n σ) 55 = some 50 := cT_k h 55 (by decide)
theorem iT55 {i : Nat} (h : okB n) (hi : i < 6) : hp_i (hs n σ) 55 50 (nI i) = some (.int (σ 55 i)) := cT_i h 55 i (by decide) hi (rT_n rfl) (by decide)
theorem wT55 {i : Nat} (h : okB n) (hi : i < 6) (x : Int32) : hp_w (hs n σ) 55 50 (nI i) (.int x) = some (hs n (up σ 55 i x)) := cT_w h 55 i x (by decide) hi (rT_n rfl) (by decide)
theorem kT56 (h : okB n) : hp_k (hs n σ) 56 = some 50 := cT_k h 56 (by decide)
theorem iT56 {i : Nat} (h : okB n) (hi : i < 24) : hp_i (hs n σ) 56 50 (nI i) = some (.int (σ 56 i)) := cT_i h 56 i (by decide) hi (rT_n rfl) (by decide)
theorem wT56 {i : Nat} (h : okB n) (hi : i < 24) (x : Int32) : hp_w (hs n σ) 56 50 (nI i) (.int x) = some (hs n (up σ 56 i x)) := cT_w h 56 i x (by decide) hi (rT_n rfl) (by decide)
theorem kT57 (h : okB n) : hp_k (hs n σ) 57 = some 50 := cT_k h 57 (by decide)
theorem iT57 {i : Nat} (h : okB n) (hi : i < 24) : hp_i (hs n σ) 57 50 (nI i) = some (.int (σ 57 i)) := cT_i h 57 i (by decide) hi (rT_n rfl) (by decide)
theorem wT57 {i : Nat} (h : okB n) (hi : i < 24) (x : Int32) : hp_w (hs n σ) 57 50 (nI i) (.int x) = some (hs n (up σ 57 i x)) := cT_w h 57 i x (by decide) hi (rT_n rfl) (by decide)
theorem gT0_2 (h : okB n) : hp_g (hs n σ) 0 7 2 = some (.ref (σ 0 2).toNatClampNeg) := by
  rw [g_hs (by unfold okB at h; omega) (by decide) (by decide)]
  rfl
theorem gT0_3 (h : okB n) : hp_g (hs n σ) 0 7 3 = some (.ref (σ 0 3).toNatClampNeg) := by
  rw [g_hs (by unfold okB at h; omega) (by decide) (by decide)]
  rfl
theorem iT2 {i : Nat} (h : okB n) (hi : i < 6) (hc : i < (σ 1 2).toNatClampNeg) : hp_i (hs n σ) 2 53 (nI i) = some (.ref (sa i 0)) := by
  rw [i_hs (by unfold okB at h; omega) (by decide) (show i < sz 2 from hi) (by decide)]
  unfold vl
  rw [if_neg (by omega), if_pos rfl, if_pos hc]
  rfl
end CEL
