theorem cw_41 (i : Nat) (h : s_c i = 41) : i ∈ ([92, 93] : List Nat) := (show ∀ i, i < mm_N → s_c i = 41 → i ∈ ([92, 93] : List Nat) by decide +kernel) i (s_c_lt h (by decide)) h
