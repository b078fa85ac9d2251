/-! what the tables say at the law's entry, in our words -/
theorem jx_kn {args : Array Value} {s : State} (hts : ∀ w ∈ lw_tbl, w.before args s = true) {C : String} {T : u_T} {N n : Nat} (hin : ∀ w ∈ u_ws C T N, w ∈ jx_ws) (hi : Cond.instantiable C n ∈ tables_1) : ∃ (cC : ClassId) (iS : Nat → Nat), u_Kn s C T N cC iS :=
  u_known hts (fun w hw => (List.mem_filter.mp (hin w hw)).1) (hts _ (List.mem_append_right _ hi))
theorem jx_arr {s : State} {cA : ClassId} {kA : Class} {comp : ClassId} {ty : FieldType} (h1 : s.vm.classes[cA]? = some kA) (h2 : kA.kind = .array comp ty) : ArrOfT s cA ty := fun _ _ => ⟨fun _ h => (by cases h), kA, h1, comp, h2⟩
def jx_D1 (c0 c1 c2 c3 c4 c5 c6 c7 c8 : ClassId) : Nat → ClassId
  | 0 => c0 | 1 => c1 | 2 => c2 | 3 => c3 | 4 => c4 | 5 => c5 | 6 => c6 | 7 => c7 | _ => c8
def jx_D2 (c0 c1 c2 c3 c4 c5 c6 c7 c8 : Nat → Nat) : Nat → Nat → Nat
  | 0 => c0 | 1 => c1 | 2 => c2 | 3 => c3 | 4 => c4 | 5 => c5 | 6 => c6 | 7 => c7 | _ => c8
def jx_tc (a b c d e : ClassId) : Nat → ClassId
  | 50 => a | 51 => b | 52 => c | 53 => d | _ => e
theorem jx_known {args : Array Value} {s : State} (hts : ∀ w ∈ lw_tbl, w.before args s = true) : ∃ (D : va_G) (tc : Nat → ClassId), hp_K D tc s := by
  have ht1 : ∀ w ∈ tables_1, w.before args s = true := fun w hw => hts w (List.mem_append_right _ hw)
  obtain ⟨c0, i0, k0⟩ := jx_kn hts in_D (n := 6) (by decide +kernel)
  obtain ⟨c1, i1, k1⟩ := jx_kn hts in_F (n := 2) (by decide +kernel)
  obtain ⟨c2, i2, k2⟩ := jx_kn hts in_I (n := 7) (by decide +kernel)
  obtain ⟨c3, i3, k3⟩ := jx_kn hts in_N (n := 4) (by decide +kernel)
  obtain ⟨c4, i4, k4⟩ := jx_kn hts in_B (n := 3) (by decide +kernel)
  obtain ⟨c5, i5, k5⟩ := jx_kn hts in_E (n := 10) (by decide +kernel)
  obtain ⟨c6, i6, k6⟩ := jx_kn hts in_S (n := 8) (by decide +kernel)
  obtain ⟨c7, i7, k7⟩ := jx_kn hts in_L (n := 6) (by decide +kernel)
  obtain ⟨c8, i8, k8⟩ := jx_kn hts in_R (n := 41) (by decide +kernel)
  obtain ⟨a0, ka0, co0, f0, g0, h0⟩ := Cond.arrayClass_spec (ht1 (.arrayClass .int) (by decide +kernel))
  obtain ⟨a1, ka1, co1, f1, g1, h1⟩ := Cond.arrayClass_spec (ht1 (.arrayClass .boolean) (by decide +kernel))
  have hD : (Cond.arrayOver (.object "StationLine$Datagram")).before args s = true := ht1 _ (by decide +kernel)
  have hS : (Cond.arrayOver (.object "StationLine$Station")).before args s = true := ht1 _ (by decide +kernel)
  have hA : (Cond.arrayOver (.array .int)).before args s = true := ht1 _ (by decide +kernel)
  obtain ⟨co2, a2, ka2, e2, -, g2, h2, f2⟩ := Cond.arrayOver_spec hD
  obtain ⟨co3, a3, ka3, e3, -, g3, h3, f3⟩ := Cond.arrayOver_spec hS
  obtain ⟨co4, a4, ka4, e4, -, g4, h4, f4⟩ := arrayOverA_spec hA
  refine ⟨(jx_D1 c0 c1 c2 c3 c4 c5 c6 c7 c8, jx_D2 i0 i1 i2 i3 i4 i5 i6 i7 i8), jx_tc a0 a1 a2 a3 a4, ⟨fun c q hq => ?_, fun k q hk => ?_⟩, fun q hq => ?_, hD, hS, over_moved (Vm.Alike.refl _) hA⟩
  · match c, hq with
    | 0, hq => cases hq; exact k0
    | 1, hq => cases hq; exact k1
    | 2, hq => cases hq; exact k2
    | 3, hq => cases hq; exact k3
    | 4, hq => cases hq; exact k4
    | 5, hq => cases hq; exact k5
    | 6, hq => cases hq; exact k6
    | 7, hq => cases hq; exact k7
    | 8, hq => cases hq; exact k8
    | n + 9, hq => simp at hq
  · match k, hk with
    | 0, hk => cases hk; exact ⟨jx_arr g0 h0, f0⟩
    | 1, hk => cases hk; exact ⟨jx_arr g1 h1, f1⟩
    | 2, hk => cases hk; exact ⟨jx_arr g2 h2, ka2, co2, g2, h2, e2, f2⟩
    | 3, hk => cases hk; exact ⟨jx_arr g3 h3, ka3, co3, g3, h3, e3, f3⟩
    | 4, hk => cases hk; exact ⟨jx_arr g4 h4, f4⟩
    | n + 5, hk => simp at hk
  · exact va_Nw.of rfl (ht1 _ (jx_nlt q hq))
