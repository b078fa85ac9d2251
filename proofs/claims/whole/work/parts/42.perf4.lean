/-! a datagram at a station, any command: all together -/
section PH
variable {n s D : Nat} {σ A G : sg}
theorem q_S_perform (h : okS n s) (hD : isD D) (hA : RC σ s A) (hok : okA A) (hG : RD σ D G) (hg : okP G) : ∃ τ, G_S_perform [.ref (sa s 0), .ref D] (hs n σ) = some (hs n τ) ∧ RC τ s (pf A G).1 ∧ RD τ D (pf A G).2 ∧ (∀ a, (∀ j, j < 22 → a ≠ sa s j) → a ≠ D → a ≠ D + 1 → τ a = σ a) := by
  obtain ⟨c, hc, e0, hg1, hg2⟩ := hg
  have ec : σ D 0 = nI c := (hG.1 0 (by omega)).trans e0
  rw [pf_e e0 (by omega)]
  by_cases c1 : c = 1 ∨ c = 2
  · rw [if_pos c1]
    dsimp only
    obtain ⟨τ, q, r⟩ := pf_12 h hD hA hok hG (hg1 (by omega))
    refine ⟨τ, q_pf_fin ((pf_sw hD h.B ec (by omega) (by omega) ?_).trans q), r⟩
    rcases c1 with rfl | rfl <;> rfl
  rw [if_neg c1]
  by_cases c2 : c = 4 ∨ c = 5
  · rw [if_pos c2]
    obtain ⟨τ, q, r⟩ := pf_45 h hD hA hok hG (hg1 (by omega))
    refine ⟨τ, q_pf_fin ((pf_sw hD h.B ec (by omega) (by omega) ?_).trans q), r⟩
    rcases c2 with rfl | rfl <;> rfl
  rw [if_neg c2]
  by_cases c3 : c = 7 ∨ c = 8
  · rw [if_pos c3]
    dsimp only
    obtain ⟨τ, q, r⟩ := pf_78 h hD hA hok hG (hg1 (by omega))
    refine ⟨τ, q_pf_fin ((pf_sw hD h.B ec (by omega) (by omega) ?_).trans q), r⟩
    rcases c3 with rfl | rfl <;> rfl
  rw [if_neg c3]
  dsimp only
  obtain ⟨τ, q, r⟩ := pf_L h hD hA hok hG hg2
  refine ⟨τ, q_pf_fin ((pf_sx hD h.B ec (by omega) (by omega) ?_).trans q), r⟩
  show 8 < c
  omega
end PH
