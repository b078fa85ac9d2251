theorem pure_law (LN : Nat) (hL : LN ≤ 2560) (LX : Nat → Int32) : ∃ h', P_W_law LN LX [none, none, none, none] [] = some (.inr (some (.int 1), h')) := sorry
