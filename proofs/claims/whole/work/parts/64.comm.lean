/-! writing byte by byte, and storing all before what goes with the last bytes: the same -/
section COMM
variable {A : sg} {b c : Nat} {v : Int32}
theorem ch_4 {i j : Nat} (hj : j < 48 ∨ 52 ≤ j) (hc : c < 4) : chA A c i v 4 j = A 4 j := by
  unfold chA
  split
  · unfold up
    rw [if_neg (by omega), if_neg (by omega)]
  · unfold up
    rw [if_neg (by omega)]
theorem pl_4 {j : Nat} (hb : 48 ≤ b) (hj : j ≠ b) : plA A b v 4 j = A 4 j := by
  unfold plA
  split
  · rfl
  rw [if_neg (by omega), if_neg (by omega)]
  unfold up
  rw [if_neg (fun e => hj e.2)]
theorem cN_lt (hB : bOK (A 4)) (hb : b < 128) (h : own (A 4) b ≠ -1) : cN (A 4) b < 4 := by
  rcases own_d hB hb with e | ⟨-, -, hc, -⟩
  · exact absurd e h
  · exact hc
theorem st_cfg (hB : bOK (A 4)) (hb : b < 128) (h48 : 48 ≤ b) {j : Nat} (hj : j < 16) : stA A b v 4 (32 + j) = A 4 (32 + j) := by
  unfold stA
  split
  · exact pl_4 h48 (by omega)
  · rename_i h
    exact ch_4 (by omega) (cN_lt hB hb h)
/-- the same channels -/
def cfg (F G : Nat → Int32) : Prop := ∀ j, j < 16 → F (32 + j) = G (32 + j)
theorem cfg.own {F G : Nat → Int32} (h : cfg F G) (b : Nat) : own F b = own G b := own_cg h b
theorem cfg.cn {F G : Nat → Int32} (h : cfg F G) (b : Nat) : cN F b = cN G b := by unfold cN; rw [h.own]
theorem cfg.p {F G : Nat → Int32} (h : cfg F G) (hc : c < 4) : pN F c = pN G c := by unfold pN; rw [h (c * 4) (by omega)]
theorem cfg.q {F G : Nat → Int32} (h : cfg F G) (hc : c < 4) : qN F c = qN G c := by unfold qN; rw [show 32 + c * 4 + 1 = 32 + (c * 4 + 1) by omega, h (c * 4 + 1) (by omega)]
theorem cfg.m {F G : Nat → Int32} (h : cfg F G) (hc : c < 4) : F (32 + c * 4 + 2) = G (32 + c * 4 + 2) := by rw [show 32 + c * 4 + 2 = 32 + (c * 4 + 2) by omega, h (c * 4 + 2) (by omega)]
theorem cpy_up {a i j0 j1 : Nat} {w : Int32} (h0 : a ≠ j0) (h1 : a ≠ j1) : cpy (up A a i w) j0 0 j1 0 8 = up (cpy A j0 0 j1 0 8) a i w := by
  funext x y
  show (if x = j1 ∧ 0 ≤ y ∧ y < 0 + 8 then up A a i w j0 (0 + (y - 0)) else up A a i w x y) = if x = a ∧ y = i then w else (if x = j1 ∧ 0 ≤ y ∧ y < 0 + 8 then A j0 (0 + (y - 0)) else A x y)
  unfold up
  by_cases p : x = j1 ∧ 0 ≤ y ∧ y < 0 + 8
  · rw [if_pos p, if_pos p, if_neg (fun e => h0 e.1.symm), if_neg (fun e => h1 (e.1.symm.trans p.1))]
  · rw [if_neg p, if_neg p]
theorem cm_up {a i : Nat} {w : Int32} (h6 : a ≠ 6 + c) (h11 : a ≠ 11 + c) (h15 : a ≠ 15) (h3 : a ≠ 3) : cmA (up A a i w) c = up (cmA A c) a i w := by
  unfold cmA
  split
  · rw [cpy_up h6 h11, up_cm (a := a) (b := 15) (by omega), up_cm (a := a) (b := 3) (by omega), up_cm (a := a) (b := 3) (by omega)]
  · rw [cpy_up h6 h11, up_cm (a := a) (b := 15) (by omega)]
theorem cm_4 : cmA A c 4 = A 4 := by
  unfold cmA
  split
  · rw [up_ne (by omega), up_ne (by omega), up_ne (by omega), cpy_ne (by omega)]
  · rw [up_ne (by omega), cpy_ne (by omega)]
theorem cm1_no (h : own (A 4) b = -1) : cm1 A b = A := by unfold cm1; rw [if_neg (fun q => q.1 h)]
theorem st_cm {b' : Nat} (hok : okA A) (h48 : 48 ≤ b') (hlt : b' < b) (hb : b < 128) : stA (cm1 A b') b v = cm1 (stA A b v) b' := by
  have hB := hok.b
  have hcf : cfg (stA A b v 4) (A 4) := fun j hj => st_cfg hB hb (by omega) hj
  rcases own_q hB (show b' < 128 by omega) with o | ⟨d, hd, o, -, -, h64, -, -, -, -, hlast⟩
  · rw [cm1_no o, cm1_no ((hcf.own b').trans o)]
  have ed : cN (A 4) b' = d := by unfold cN; rw [o]; exact nC_n (by omega)
  have eds : cN (stA A b v 4) b' = d := (hcf.cn b').trans ed
  by_cases q : A 4 (32 + d * 4 + 2) = nI 2 ∧ b' + 1 = pN (A 4) d + qN (A 4) d
  · have e1 : cm1 A b' = cmA A d := by unfold cm1; rw [ed, if_pos ⟨by rw [o]; exact m1_ne hd, q⟩]
    have e2 : cm1 (stA A b v) b' = cmA (stA A b v) d := by
      unfold cm1
      rw [eds, hcf.own, hcf.m hd, hcf.p hd, hcf.q hd, if_pos ⟨by rw [o]; exact m1_ne hd, q⟩]
    rw [e1, e2]
    unfold stA
    rw [cm_4]
    rcases own_q hB hb with o2 | ⟨c, hc, o2, -, -, -, -, -, -, hpb, hbq⟩
    · rw [if_pos o2, if_pos o2]
      unfold plA
      rw [if_neg (by omega), if_neg (by omega), if_neg (by omega), if_neg (by omega), if_neg (by omega), if_neg (by omega), cm_up (by omega) (by omega) (by omega) (by omega)]
    · have ec : cN (A 4) b = c := by unfold cN; rw [o2]; exact nC_n (by omega)
      have hne : c ≠ d := fun e => by subst e; omega
      rw [if_neg (by rw [o2]; exact m1_ne hc), if_neg (by rw [o2]; exact m1_ne hc), ec]
      unfold chA
      rw [cm_4]
      split
      · rw [cm_up (by omega) (by omega) (by omega) (by omega), cm_up (by omega) (by omega) (by omega) (by omega)]
      · rw [cm_up (by omega) (by omega) (by omega) (by omega)]
  · have e1 : cm1 A b' = A := by unfold cm1; rw [ed, if_neg (fun k => q k.2)]
    have e2 : cm1 (stA A b v) b' = stA A b v := by
      unfold cm1
      rw [eds, hcf.m hd, hcf.p hd, hcf.q hd, if_neg (fun k => q k.2)]
    rw [e1, e2]
theorem W1_cm (hok : okA A) (h48 : 48 ≤ b) (hb : b < 128) (hm : ∀ c, c < 4 → own (A 4) b = nI c → A 4 (32 + c * 4 + 2) = nI 2 ∨ A 4 (32 + c * 4 + 2) = nI 3) : W1 A b v = cm1 (stA A b v) b := by
  have hB := hok.b
  have hcf : cfg (stA A b v 4) (A 4) := fun j hj => st_cfg hB hb (by omega) hj
  rcases own_q hB hb with o | ⟨d, hd, o, -⟩
  · rw [cm1_no ((hcf.own b).trans o)]
    unfold W1 stA
    rw [if_pos o, if_pos o]
  · have ed : cN (A 4) b = d := by unfold cN; rw [o]; exact nC_n (by omega)
    have on : own (A 4) b ≠ -1 := by rw [o]; exact m1_ne hd
    have es : stA A b v = chA A d (b - pN (A 4) d) v := by unfold stA; rw [if_neg on, ed]
    unfold cm1 W1
    rw [hcf.cn, ed, hcf.own, hcf.m hd, hcf.p hd, hcf.q hd, if_neg on, es]
    rcases hm d hd o with m | m
    · rw [if_neg (by rw [m]; decide)]
      by_cases q : b + 1 = pN (A 4) d + qN (A 4) d
      · rw [if_pos q, if_pos ⟨on, m, q⟩]
      · rw [if_neg q, if_neg (fun k => q k.2.2)]
    · rw [if_pos m, if_neg (fun k => by rw [m] at k; exact absurd k.2.1 (by decide))]
theorem ch_j {i j : Nat} (h6 : j ≠ 6 + c) (h11 : j ≠ 11 + c) (h4 : j ≠ 4) : chA A c i v j = A j := by
  unfold chA
  split
  · rw [up_ne h4, up_ne h11]
  · exact up_ne h6
theorem cm_j {j : Nat} (h11 : j ≠ 11 + c) (h15 : j ≠ 15) (h3 : j ≠ 3) : cmA A c j = A j := by
  unfold cmA
  split
  · rw [up_ne h3, up_ne h3, up_ne h15, cpy_ne h11]
  · rw [up_ne h15, cpy_ne h11]
theorem ch_i {i m j : Nat} (hm : m ≠ i) (h4 : j ≠ 4) : chA A c i v j m = A j m := by
  unfold chA
  split
  · rw [up_ne h4]
    unfold up
    rw [if_neg (fun e => hm e.2)]
  · unfold up
    rw [if_neg (fun e => hm e.2)]
theorem W1_hld {b' : Nat} (hok : okA A) (h48 : 48 ≤ b') (hlt : b' < b) (hb : b < 128) (h52 : 52 ≤ b) : hldA (W1 A b' v) b = hldA A b := by
  have hB := hok.b
  have hcf : cfg (W1 A b' v 4) (A 4) := fun j hj => W1_cfg h48 hj
  have rows : ∀ c, c < 4 → own (A 4) b = nI c → pN (A 4) c ≤ b → b < pN (A 4) c + qN (A 4) c → ∀ j, (j = 6 + c ∨ j = 11 + c) → W1 A b' v j (b - pN (A 4) c) = A j (b - pN (A 4) c) := fun c hc o hp hq j hj => by
    unfold W1
    rcases own_q hB (show b' < 128 by omega) with o' | ⟨d, hd, o', -, -, -, -, -, -, hp', hq'⟩
    · rw [if_pos o']
      unfold plA
      split
      · rfl
      rw [if_neg (by omega), if_neg (by omega), up_ne (by omega)]
    · have ed : cN (A 4) b' = d := by unfold cN; rw [o']; exact nC_n (by omega)
      rw [if_neg (by rw [o']; exact m1_ne hd), ed]
      by_cases e : d = c
      · subst e
        have k : chA A d (b' - pN (A 4) d) v j (b - pN (A 4) d) = A j (b - pN (A 4) d) := ch_i (by omega) (by omega)
        rw [if_neg (show ¬ (b' + 1 = pN (A 4) d + qN (A 4) d) by omega)]
        split
        · exact k
        · exact k
      · have k : chA A d (b' - pN (A 4) d) v j = A j := ch_j (by omega) (by omega) (by omega)
        split
        · rw [k]
        split
        · rw [cm_j (by omega) (by omega) (by omega), k]
        · rw [k]
  unfold hldA
  rw [hcf.own, hcf.cn]
  rcases own_q hB hb with o | ⟨c, hc, o, -, -, -, -, -, -, hp, hq⟩
  · rw [if_pos o, if_pos o]
    unfold W1
    rcases own_q hB (show b' < 128 by omega) with o' | ⟨d, hd, o', -⟩
    · rw [if_pos o']
      exact pl_4 h48 (by omega)
    · have ed : cN (A 4) b' = d := by unfold cN; rw [o']; exact nC_n (by omega)
      rw [if_neg (by rw [o']; exact m1_ne hd), ed]
      split
      · exact ch_4 (by omega) hd
      split
      · rw [cm_4]
        exact ch_4 (by omega) hd
      · exact ch_4 (by omega) hd
  · have ec : cN (A 4) b = c := by unfold cN; rw [o]; exact nC_n (by omega)
    rw [if_neg (by rw [o]; exact m1_ne hc), if_neg (by rw [o]; exact m1_ne hc), ec, hcf.p hc]
    unfold hld
    rw [hcf.m hc]
    split
    · exact rows c hc o hp hq _ (Or.inr rfl)
    · exact rows c hc o hp hq _ (Or.inl rfl)
theorem st_v {w : Int32} (hB : bOK (A 4)) (h : 48 ≤ b ∧ b < 52) : stA A b v = stA A b w := by
  unfold stA
  rw [if_pos (own_low hB (by omega)), if_pos (own_low hB (by omega))]
  unfold plA
  rw [if_pos (by omega), if_pos (by omega)]
theorem W1_v {w : Int32} (hB : bOK (A 4)) (h : 48 ≤ b ∧ b < 52) : W1 A b v = W1 A b w := by
  unfold W1
  rw [if_pos (own_low hB (by omega)), if_pos (own_low hB (by omega))]
  unfold plA
  rw [if_pos (by omega), if_pos (by omega)]
theorem st_cmF {f : Nat} (hok : okA A) (h48 : 48 ≤ f) (hb : b < 128) (hv : byt v) : ∀ k, f + k ≤ b → stA (cmF A f k) b v = cmF (stA A b v) f k ∧ okA (cmF A f k)
  | 0, _ => ⟨rfl, hok⟩
  | k + 1, hk => by
    obtain ⟨ih, ik⟩ := st_cmF hok h48 hb hv k (by omega)
    refine ⟨?_, ik.c1 (by omega)⟩
    show stA (cm1 (cmF A f k) (f + k)) b v = cm1 (cmF (stA A b v) f k) (f + k)
    rw [st_cm ik (by omega) (by omega) hb, ih]
end COMM
section COMM2
variable {A : sg} {f : Nat} {r m : Nat → Int32}
theorem cmF_4 : ∀ k, cmF A f k 4 = A 4
  | 0 => rfl
  | k + 1 => cm1_4.trans (cmF_4 k)
theorem cW_hi (hok : okA A) (h48 : 48 ≤ f) (hr : ∀ j, byt (r j)) : ∀ k, f + k ≤ 128 → (∀ b c, f ≤ b → b < f + k → c < 4 → own (A 4) b = nI c → A 4 (32 + c * 4 + 2) = nI 2 ∨ A 4 (32 + c * 4 + 2) = nI 3) → cW A f r m k = cmF (stF A f (fun j => mrg (hldA A (f + j)) (r j) (m j)) k) f k ∧ cfg (stF A f (fun j => mrg (hldA A (f + j)) (r j) (m j)) k 4) (A 4) ∧ ∀ b, f + k ≤ b → b < 128 → 52 ≤ b → hldA (cW A f r m k) b = hldA A b
  | 0, _, _ => ⟨rfl, fun _ _ => rfl, fun _ _ _ _ => rfl⟩
  | k + 1, hk, hm => by
    obtain ⟨ih, ic, ik⟩ := cW_hi hok h48 hr k (by omega) (fun b c h1 h2 => hm b c h1 (by omega))
    have okc : okA (cW A f r m k) := hok.cw k (by omega) (fun j _ => hr j)
    have oks : okA (stF A f (fun j => mrg (hldA A (f + j)) (r j) (m j)) k) := hok.sf k (fun j hj => byt_mrg (hok.hl (by omega)) (hr j))
    have hb : f + k < 128 := by omega
    have hv : byt (mrg (hldA A (f + k)) (r k) (m k)) := byt_mrg (hok.hl hb) (hr k)
    have e4 : cfg (cW A f r m k 4) (A 4) := by rw [ih, cmF_4]; exact ic
    have hW : cW A f r m (k + 1) = W1 (cW A f r m k) (f + k) (mrg (hldA A (f + k)) (r k) (m k)) := by
      show W1 _ _ _ = _
      by_cases q : f + k < 52
      · exact W1_v okc.b ⟨by omega, q⟩
      · rw [ik (f + k) (Nat.le_refl _) hb (by omega)]
    refine ⟨?_, fun j hj => ?_, fun b h1 h2 h3 => ?_⟩
    · rw [hW, W1_cm okc (by omega) hb (fun c hc o => by
        rw [e4.own] at o
        rw [e4.m hc]
        exact hm _ c (by omega) (by omega) hc o), ih, (st_cmF oks h48 hb hv k (Nat.le_refl _)).1]
      rfl
    · show stA _ _ _ 4 _ = _
      rw [st_cfg oks.b hb (by omega) hj]
      exact ic j hj
    · rw [hW, W1_hld okc (by omega) (by omega) h2 h3]
      exact ik b (by omega) h2 h3
theorem pl_4' {b j : Nat} {v : Int32} (hj : j ≠ b) (h : j < 48 ∨ 52 ≤ j) (hb : b < 64) : plA A b v 4 j = A 4 j := by
  unfold plA
  split
  · rfl
  split
  · rw [up_ne (by omega)]
    unfold up
    rw [if_neg (fun e => hj e.2)]
  split
  · unfold wipA
    unfold up clrA
    rw [if_neg (by omega), if_neg (by omega), if_neg (by omega)]
    show (if 4 = 4 ∧ j = b then v else A 4 j) = A 4 j
    rw [if_neg (fun e => hj e.2)]
  · unfold up
    rw [if_neg (fun e => hj e.2)]
theorem cW_lo (hok : okA A) (hr : ∀ j, byt (r j)) : ∀ k, f + k ≤ 64 → cW A f r m k = stF A f (fun j => mrg (hldA A (f + j)) (r j) (m j)) k ∧ ∀ b, f + k ≤ b → b < 64 → b < 48 ∨ 52 ≤ b → cW A f r m k 4 b = A 4 b
  | 0, _ => ⟨rfl, fun _ _ _ _ => rfl⟩
  | k + 1, hk => by
    obtain ⟨ih, ik⟩ := cW_lo hok hr k (by omega)
    have okc : okA (cW A f r m k) := hok.cw k (by omega) (fun j _ => hr j)
    have o : own (cW A f r m k 4) (f + k) = -1 := own_low okc.b (by omega)
    have hp : ∀ v, W1 (cW A f r m k) (f + k) v = plA (cW A f r m k) (f + k) v := fun v => by unfold W1; rw [if_pos o]
    have hW : cW A f r m (k + 1) = W1 (cW A f r m k) (f + k) (mrg (hldA A (f + k)) (r k) (m k)) := by
      show W1 _ _ _ = _
      by_cases q : 48 ≤ f + k ∧ f + k < 52
      · exact W1_v okc.b q
      · unfold hldA
        rw [if_pos o, if_pos (own_low hok.b (by omega)), ik (f + k) (Nat.le_refl _) (by omega) (by omega)]
    refine ⟨?_, fun b h1 h2 h3 => ?_⟩
    · rw [hW, hp]
      show _ = stA _ _ _
      rw [← ih]
      unfold stA
      rw [if_pos o]
    · rw [hW, hp, pl_4' (by omega) h3 (by omega)]
      exact ik b (by omega) h2 h3
theorem cmF_lo : ∀ k, okA A → f + k ≤ 64 → cmF A f k = A
  | 0, _, _ => rfl
  | k + 1, h, hk => by
    show cm1 (cmF A f k) (f + k) = A
    rw [cmF_lo k h (by omega)]
    exact cm1_no (own_low h.b (by omega))
theorem cW_st {k : Nat} (hok : okA A) (hk : f + k ≤ 128) (h9 : k ≤ 9) (hr : ∀ j, byt (r j)) (hm : ∀ b c, f ≤ b → b < f + k → c < 4 → own (A 4) b = nI c → A 4 (32 + c * 4 + 2) = nI 2 ∨ A 4 (32 + c * 4 + 2) = nI 3) : cW A f r m k = cmF (stF A f (fun j => mrg (hldA A (f + j)) (r j) (m j)) k) f k := by
  by_cases q : 48 ≤ f
  · exact (cW_hi hok q hr k hk hm).1
  · have e := (cW_lo (r := r) (m := m) (f := f) hok hr k (by omega)).1
    rw [e, cmF_lo k (hok.sf k (fun j hj => byt_mrg (hok.hl (by omega)) (hr j))) (by omega)]
theorem stF_cg {v w : Nat → Int32} : ∀ k, (∀ j, j < k → v j = w j) → stF A f v k = stF A f w k
  | 0, _ => rfl
  | k + 1, h => by
    show stA _ _ _ = stA _ _ _
    rw [stF_cg k (fun j hj => h j (by omega)), h k (by omega)]
end COMM2
