/-- a whole row put in another's place -/
def rowA (a : Nat → Nat → Nat) (k : Nat) (g : Nat → Nat) : Nat → Nat → Nat := fun i => if i = k then g else a i
theorem up2_row (a : Nat → Nat → Nat) (k j v : Nat) (g : Nat → Nat) : up2 (rowA a k g) k j v = rowA a k (up1 g j v) := by
  funext i
  unfold up2 rowA
  split
  · next h => subst h; simp
  · rfl
theorem rowA_self (a : Nat → Nat → Nat) (k : Nat) : rowA a k (a k) = a := by
  funext i
  unfold rowA
  split
  · next h => subst h; rfl
  · rfl
abbrev nearI (x1 y1 x2 y2 r : Nat) : Prop := (nI x1 - nI x2) * (nI x1 - nI x2) + (nI y1 - nI y2) * (nI y1 - nI y2) ≤ nI r * nI r
/-- an argument is one of 0 .. n - 1 -/
abbrev inR (x : Int32) (n : Nat) : Prop := ¬ x < 0 ∧ x < nI n
theorem inR_of {x : Int32} {n : Nat} (hn : n < 2 ^ 31) (h : inR x n) : ∃ j, j < n ∧ x = nI j := by
  obtain ⟨j, hj, e⟩ := nI_of h.1
  refine ⟨j, ?_, e⟩
  have h2 := h.2
  rw [e] at h2
  exact (nI_ltI hj hn).mp h2
theorem inR_nI {j n : Nat} (hj : j < n) (hn : n < 2 ^ 31) : inR (nI j) n := ⟨nI_pos (by omega), nI_lt hj hn⟩
section ST
variable {f : Nat → Nat} {a : Nat → Nat → Nat} {G : Nat → Int32} {B : Nat → Nat → Int32} {o : Nat → Int64}
theorem m1_isFullU (hf : f 2 < 10000) : k_Met Y1_isFull [.ref 1] (hX f a G B o) (.inl (some (.int (bI (20 ≤ f 2)))), hX f a G B o, 0, 0) := by
  refine k_intro (by decide +kernel) rfl rfl rfl ?_
  refine k_go 99 [] T1_isFull_ok (fun K hK => ?_)
  refine b_lt (a := f 2) (b := 20) (by omega) (by omega) (fun h => ?_) (fun h => ?_)
  · refine hK _ ?_
    exact k_ireturn d1_isFull_16 rfl rfl (k_rb (bI_f (by omega)).symm) rfl (Nat.le_refl _) (Nat.le_refl _)
  · refine hK _ ?_
    exact k_ireturn d1_isFull_16 rfl rfl (k_rb (bI_t h).symm) rfl (Nat.le_refl _) (Nat.le_refl _)
def mvU (a : Nat → Nat → Nat) (s x y c : Nat) : Nat → Nat → Nat := up2 (up2 (up2 a 0 s x) 1 s y) 3 s c
theorem m1_moveU {s x y c : Nat} (hs : s < 20) : k_Met Y1_move [.ref 1, .int (nI s), .int (nI x), .int (nI y), .int (nI c)] (hX f a G B o) (.inl none, hX f (mvU a s x y c) G B o, 0, 0) := by
  refine k_intro (by decide +kernel) rfl rfl rfl ?_
  refine k_go 99 [] T1_move_ok (fun K hK => ?_)
  refine k_at hs ?_
  refine k_at hs ?_
  refine k_at hs ?_
  refine hK _ ?_
  exact k_return d1_move_22 rfl rfl (hX_eq rfl (cA_up' (cA_up' (cA_up' (a := a) rfl rfl) rfl) rfl)).symm (Nat.le_refl _) (Nat.le_refl _)
theorem m1_addU {x y r c : Nat} (hs : f 2 < 20) : k_Met Y1_add [.ref 1, .int (nI x), .int (nI y), .int (nI r), .int (nI c)] (hX f a G B o) (.inl (some (.int (nI (f 2)))), hX (up1 f 2 (f 2 + 1)) (mvU (up2 a 2 (f 2) r) (f 2) x y c) G B o, 0, 0) := by
  refine k_intro (by decide +kernel) rfl rfl rfl ?_
  refine k_go 99 [] T1_add_ok (fun K hK => ?_)
  refine k_eq (z := nI (f 2 + 1)) (nI_add _ 1) ?_
  refine k_at hs ?_
  refine hK _ ?_
  refine k_heq (hX_eq (cF_up' (f := f) (k := 2) rfl) (cA_up' (a := a) (k := 2) rfl rfl)) ?_
  refine k_callV (Y' := Y1_move) (as := [.int (nI (f 2)), .int (nI x), .int (nI y), .int (nI c)]) (st := []) (m1_moveU hs) rfl c1_29 rfl rfl rfl d1_add_31 (Nat.le_refl _) (Nat.le_refl _) rfl rfl ?_
  refine k_go 99 [] T1_add_ok (fun K hK => ?_)
  refine hK _ ?_
  exact k_ireturn d1_add_36 rfl rfl rfl rfl (Nat.le_refl _) (Nat.le_refl _)
theorem m1_isFullR (hf : f 3 < 10000) : k_Met Y1_isFull [.ref 6] (hX f a G B o) (.inl (some (.int (bI (8 ≤ f 3)))), hX f a G B o, 0, 0) := by
  refine k_intro (by decide +kernel) rfl rfl rfl ?_
  refine k_go 99 [] T1_isFull_ok (fun K hK => ?_)
  refine b_lt (a := f 3) (b := 8) (by omega) (by omega) (fun h => ?_) (fun h => ?_)
  · refine hK _ ?_
    exact k_ireturn d1_isFull_16 rfl rfl (k_rb (bI_f (by omega)).symm) rfl (Nat.le_refl _) (Nat.le_refl _)
  · refine hK _ ?_
    exact k_ireturn d1_isFull_16 rfl rfl (k_rb (bI_t h).symm) rfl (Nat.le_refl _) (Nat.le_refl _)
def mvR (a : Nat → Nat → Nat) (s x y c : Nat) : Nat → Nat → Nat := up2 (up2 (up2 a 4 s x) 5 s y) 7 s c
theorem m1_moveR {s x y c : Nat} (hs : s < 8) : k_Met Y1_move [.ref 6, .int (nI s), .int (nI x), .int (nI y), .int (nI c)] (hX f a G B o) (.inl none, hX f (mvR a s x y c) G B o, 0, 0) := by
  refine k_intro (by decide +kernel) rfl rfl rfl ?_
  refine k_go 99 [] T1_move_ok (fun K hK => ?_)
  refine k_at hs ?_
  refine k_at hs ?_
  refine k_at hs ?_
  refine hK _ ?_
  exact k_return d1_move_22 rfl rfl (hX_eq rfl (cA_up' (cA_up' (cA_up' (a := a) rfl rfl) rfl) rfl)).symm (Nat.le_refl _) (Nat.le_refl _)
theorem m1_addR {x y r c : Nat} (hs : f 3 < 8) : k_Met Y1_add [.ref 6, .int (nI x), .int (nI y), .int (nI r), .int (nI c)] (hX f a G B o) (.inl (some (.int (nI (f 3)))), hX (up1 f 3 (f 3 + 1)) (mvR (up2 a 6 (f 3) r) (f 3) x y c) G B o, 0, 0) := by
  refine k_intro (by decide +kernel) rfl rfl rfl ?_
  refine k_go 99 [] T1_add_ok (fun K hK => ?_)
  refine k_eq (z := nI (f 3 + 1)) (nI_add _ 1) ?_
  refine k_at hs ?_
  refine hK _ ?_
  refine k_heq (hX_eq (cF_up' (f := f) (k := 3) rfl) (cA_up' (a := a) (k := 6) rfl rfl)) ?_
  refine k_callV (Y' := Y1_move) (as := [.int (nI (f 3)), .int (nI x), .int (nI y), .int (nI c)]) (st := []) (m1_moveR hs) rfl c1_29 rfl rfl rfl d1_add_31 (Nat.le_refl _) (Nat.le_refl _) rfl rfl ?_
  refine k_go 99 [] T1_add_ok (fun K hK => ?_)
  refine hK _ ?_
  exact k_ireturn d1_add_36 rfl rfl rfl rfl (Nat.le_refl _) (Nat.le_refl _)
theorem m1_reachesUU {s t : Nat} (hs : s < 20) (ht : t < 20) : k_Met Y1_reaches [.ref 1, .int (nI s), .ref 1, .int (nI t)] (hX f a G B o) (.inl (some (.int (bI (nearI (a 0 s) (a 1 s) (a 0 t) (a 1 t) (a 2 s))))), hX f a G B o, 0, 0) := by
  refine k_intro (by decide +kernel) rfl rfl rfl ?_
  refine k_go 99 [] T1_reaches_ok (fun K hK => ?_)
  refine k_at hs ?_
  refine k_at ht ?_
  refine k_eq rfl ?_
  refine k_at hs ?_
  refine k_at ht ?_
  refine k_eq rfl ?_
  refine k_eq rfl ?_
  refine k_eq rfl ?_
  refine k_eq rfl ?_
  refine k_at hs ?_
  refine k_at hs ?_
  refine k_eq rfl ?_
  refine And.intro (fun h => ?_) (fun h => ?_)
  · refine hK _ ?_
    exact k_ireturn d1_reaches_62 rfl rfl (k_rb (bI_f (Int32.not_le.mpr h)).symm) rfl (Nat.le_refl _) (Nat.le_refl _)
  · refine hK _ ?_
    exact k_ireturn d1_reaches_62 rfl rfl (k_rb (bI_t (Int32.not_lt.mp h)).symm) rfl (Nat.le_refl _) (Nat.le_refl _)
theorem m1_reachesUR {s t : Nat} (hs : s < 20) (ht : t < 8) : k_Met Y1_reaches [.ref 1, .int (nI s), .ref 6, .int (nI t)] (hX f a G B o) (.inl (some (.int (bI (nearI (a 0 s) (a 1 s) (a 4 t) (a 5 t) (a 2 s))))), hX f a G B o, 0, 0) := by
  refine k_intro (by decide +kernel) rfl rfl rfl ?_
  refine k_go 99 [] T1_reaches_ok (fun K hK => ?_)
  refine k_at hs ?_
  refine k_at ht ?_
  refine k_eq rfl ?_
  refine k_at hs ?_
  refine k_at ht ?_
  refine k_eq rfl ?_
  refine k_eq rfl ?_
  refine k_eq rfl ?_
  refine k_eq rfl ?_
  refine k_at hs ?_
  refine k_at hs ?_
  refine k_eq rfl ?_
  refine And.intro (fun h => ?_) (fun h => ?_)
  · refine hK _ ?_
    exact k_ireturn d1_reaches_62 rfl rfl (k_rb (bI_f (Int32.not_le.mpr h)).symm) rfl (Nat.le_refl _) (Nat.le_refl _)
  · refine hK _ ?_
    exact k_ireturn d1_reaches_62 rfl rfl (k_rb (bI_t (Int32.not_lt.mp h)).symm) rfl (Nat.le_refl _) (Nat.le_refl _)
theorem m1_reachesRU {s t : Nat} (hs : s < 8) (ht : t < 20) : k_Met Y1_reaches [.ref 6, .int (nI s), .ref 1, .int (nI t)] (hX f a G B o) (.inl (some (.int (bI (nearI (a 4 s) (a 5 s) (a 0 t) (a 1 t) (a 6 s))))), hX f a G B o, 0, 0) := by
  refine k_intro (by decide +kernel) rfl rfl rfl ?_
  refine k_go 99 [] T1_reaches_ok (fun K hK => ?_)
  refine k_at hs ?_
  refine k_at ht ?_
  refine k_eq rfl ?_
  refine k_at hs ?_
  refine k_at ht ?_
  refine k_eq rfl ?_
  refine k_eq rfl ?_
  refine k_eq rfl ?_
  refine k_eq rfl ?_
  refine k_at hs ?_
  refine k_at hs ?_
  refine k_eq rfl ?_
  refine And.intro (fun h => ?_) (fun h => ?_)
  · refine hK _ ?_
    exact k_ireturn d1_reaches_62 rfl rfl (k_rb (bI_f (Int32.not_le.mpr h)).symm) rfl (Nat.le_refl _) (Nat.le_refl _)
  · refine hK _ ?_
    exact k_ireturn d1_reaches_62 rfl rfl (k_rb (bI_t (Int32.not_lt.mp h)).symm) rfl (Nat.le_refl _) (Nat.le_refl _)
theorem m2_isChannel {x : Int32} : k_Met Y2_isChannel [.ref 0, .int x] (hX f a G B o) (.inl (some (.int (bI (inR x 6)))), hX f a G B o, 0, 0) := by
  refine k_intro (by decide +kernel) rfl rfl rfl ?_
  refine k_go 99 [] T2_isChannel_ok (fun K hK => ?_)
  refine And.intro (fun h => ?_) (fun h => ?_)
  · refine hK _ ?_
    exact k_ireturn d2_isChannel_15 rfl rfl (k_rb (bI_f (fun q => q.1 h)).symm) rfl (Nat.le_refl _) (Nat.le_refl _)
  · refine And.intro (fun h2 => ?_) (fun h2 => ?_)
    · refine hK _ ?_
      exact k_ireturn d2_isChannel_15 rfl rfl (k_rb (bI_f (fun q => absurd q.2 (Int32.not_lt.mpr h2))).symm) rfl (Nat.le_refl _) (Nat.le_refl _)
    · refine hK _ ?_
      exact k_ireturn d2_isChannel_15 rfl rfl (k_rb (bI_t ⟨h, Int32.not_le.mp h2⟩).symm) rfl (Nat.le_refl _) (Nat.le_refl _)
theorem m2_isSlot {x : Int32} : k_Met Y2_isSlot [.ref 0, .int x] (hX f a G B o) (.inl (some (.int (bI (inR x (f 0))))), hX f a G B o, 0, 0) := by
  refine k_intro (by decide +kernel) rfl rfl rfl ?_
  refine k_go 99 [] T2_isSlot_ok (fun K hK => ?_)
  refine And.intro (fun h => ?_) (fun h => ?_)
  · refine hK _ ?_
    exact k_ireturn d2_isSlot_17 rfl rfl (k_rb (bI_f (fun q => q.1 h)).symm) rfl (Nat.le_refl _) (Nat.le_refl _)
  · refine And.intro (fun h2 => ?_) (fun h2 => ?_)
    · refine hK _ ?_
      exact k_ireturn d2_isSlot_17 rfl rfl (k_rb (bI_f (fun q => absurd q.2 (Int32.not_lt.mpr h2))).symm) rfl (Nat.le_refl _) (Nat.le_refl _)
    · refine hK _ ?_
      exact k_ireturn d2_isSlot_17 rfl rfl (k_rb (bI_t ⟨h, Int32.not_le.mp h2⟩).symm) rfl (Nat.le_refl _) (Nat.le_refl _)
theorem m2_areJoined (hB : Bd a) {x y : Nat} (hx : x < 6) (hy : y < 6) : k_Met Y2_areJoined [.ref 0, .int (nI x), .int (nI y)] (hX f a G B o) (.inl (some (.int (bI (a 18 x = a 18 y)))), hX f a G B o, 0, 0) := by
  have h1 := hB 18 x (by omega)
  have h2 := hB 18 y (by omega)
  refine k_intro (by decide +kernel) rfl rfl rfl ?_
  refine k_go 99 [] T2_areJoined_ok (fun K hK => ?_)
  refine k_at hx ?_
  refine k_at hy ?_
  refine b_ne (a := a 18 x) (b := a 18 y) (by omega) (by omega) (fun h => ?_) (fun h => ?_)
  · refine hK _ ?_
    exact k_ireturn d2_areJoined_20 rfl rfl (k_rb (bI_f h).symm) rfl (Nat.le_refl _) (Nat.le_refl _)
  · refine hK _ ?_
    exact k_ireturn d2_areJoined_20 rfl rfl (k_rb (bI_t h).symm) rfl (Nat.le_refl _) (Nat.le_refl _)
/-- the groups as they are when the first n of them have been looked at -/
def jnR (g : Nat → Nat) (kept given n : Nat) : Nat → Nat := fun c => if c < n ∧ g c = given then kept else g c
theorem jnR_0 (g : Nat → Nat) (kept given : Nat) : jnR g kept given 0 = g := by
  funext c; unfold jnR; rw [if_neg (by omega)]
theorem jnR_eq {g : Nat → Nat} {kept given n : Nat} (h : g n = given) : up1 (jnR g kept given n) n kept = jnR g kept given (n + 1) := by
  funext c
  unfold up1 jnR
  by_cases h1 : c = n
  · subst h1; rw [if_pos rfl, if_pos ⟨by omega, h⟩]
  · rw [if_neg h1]
    by_cases h2 : c < n ∧ g c = given
    · rw [if_pos h2, if_pos ⟨by omega, h2.2⟩]
    · rw [if_neg h2, if_neg (fun q => h2 ⟨by omega, q.2⟩)]
theorem jnR_ne {g : Nat → Nat} {kept given n : Nat} (h : g n ≠ given) : jnR g kept given n = jnR g kept given (n + 1) := by
  funext c
  unfold jnR
  by_cases h1 : c = n
  · subst h1; rw [if_neg (by omega), if_neg (fun q => h q.2)]
  · by_cases h2 : c < n ∧ g c = given
    · rw [if_pos h2, if_pos ⟨by omega, h2.2⟩]
    · rw [if_neg h2, if_neg (fun q => h2 ⟨by omega, q.2⟩)]
theorem m2_joinGroups_loop (hB : Bd a) {x y : Nat} (hx : x < 10000) (hy : y < 10000) : ∀ (n i : Nat), 6 - i < n → i ≤ 6 →
    k_W Y2_joinGroups none (.inl none, hX f (rowA a 18 (jnR (a 18) x y 6)) G B o, 0, 0) (2, [(3, .int (nI i)), (0, .ref 0), (1, .int (nI x)), (2, .int (nI y))], [], hX f (rowA a 18 (jnR (a 18) x y i)) G B o, 0, 0) := by
  intro n
  induction n with
  | zero => intro i h; omega
  | succ n ih =>
    intro i hn hi
    refine k_go 99 [2] T2_joinGroups_ok (fun K hK => ?_)
    refine b_ge (a := i) (b := 6) (by omega) (by omega) (fun h => ?_) (fun h => ?_)
    · have e : i = 6 := by omega
      subst e
      refine hK _ ?_
      exact k_return d2_joinGroups_31 rfl rfl rfl (Nat.le_refl _) (Nat.le_refl _)
    · refine k_at (j := i) (by omega) ?_
      have h1 := hB 18 i (by omega)
      have e1 : jnR (a 18) x y i i = a 18 i := by unfold jnR; rw [if_neg (by omega)]
      refine b_ne (a := jnR (a 18) x y i i) (b := y) (by rw [e1]; omega) (by omega) (fun h2 => ?_) (fun h2 => ?_)
      · rw [e1] at h2
        refine k_eq (z := nI (i + 1)) (nI_add i 1) ?_
        refine hK _ ?_
        have e2 := jnR_ne (kept := x) h2
        have := ih (i + 1) (by omega) (by omega)
        rw [← e2] at this
        exact this
      · rw [e1] at h2
        refine k_at (j := i) (by omega) ?_
        refine k_eq (z := nI (i + 1)) (nI_add i 1) ?_
        refine hK _ ?_
        refine k_heq (hX_eq rfl ((cA_up (rowA a 18 (jnR (a 18) x y i)) 18 i x).trans (congrArg cA ((up2_row a 18 i x _).trans (congrArg (rowA a 18) (jnR_eq h2)))))) ?_
        exact ih (i + 1) (by omega) (by omega)
theorem m2_joinGroups (hB : Bd a) {x y : Nat} (hx : x < 10000) (hy : y < 10000) : k_Met Y2_joinGroups [.ref 0, .int (nI x), .int (nI y)] (hX f a G B o) (.inl none, hX f (rowA a 18 (jnR (a 18) x y 6)) G B o, 0, 0) := by
  refine k_intro (by decide +kernel) rfl rfl rfl ?_
  refine k_go 99 [2] T2_joinGroups_ok (fun K hK => ?_)
  refine hK _ ?_
  have := m2_joinGroups_loop (f := f) (G := G) (B := B) (o := o) hB hx hy 7 0 (by omega) (by omega)
  rw [jnR_0, rowA_self] at this
  exact this
end ST
