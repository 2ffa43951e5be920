theorem law_main {L : Nat} {xs : Nat → Int32} (hL : L ≤ 2560) : ∃ h : List k_O, k_W Y4_law (some (L, xs)) (.inl (some (.int 1)), h, 601024, 7293034) (0, [(0, .ref 1000000)], [], [], 0, 0) := sorry
